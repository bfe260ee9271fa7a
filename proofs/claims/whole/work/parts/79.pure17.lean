/-! ===== PURE: grants that die ===== -/
def psh (Lg : List rw_) (r : rw_) : List rw_ := (if Lg.length < 12 then Lg else Lg.eraseIdx 0) ++ [r]
def dyb (P : List rw_) (g : rw_) : Bool := decide (P.getD (cN (g 0)) z_ 0 < g 4)
def kept (P S : List rw_) : List rw_ := S.filter (fun g => !dyb P g)
def bur (P : List rw_) (ti : Int32) : List rw_ → List rw_ → List rw_
  | [], Lg => Lg
  | g :: S, Lg => bur P ti S (if dyb P g = true then psh Lg (g3 (g 5) ti (g 0)) else Lg)
def ndy (P : List rw_) : List rw_ → Nat
  | [] => 0
  | g :: S => (if dyb P g = true then 1 else 0) + ndy P S
theorem psh_len {Lg : List rw_} {r : rw_} (h : Lg.length ≤ 12) : (psh Lg r).length ≤ 12 := by
  unfold psh
  rw [List.length_append]
  split
  · show Lg.length + 1 ≤ 12
    omega
  · rw [len_er (by omega)]
    show Lg.length - 1 + 1 ≤ 12
    omega
theorem bur_len {P : List rw_} {ti : Int32} : ∀ (S Lg : List rw_), Lg.length ≤ 12 → (bur P ti S Lg).length ≤ 12
  | [], _, h => h
  | g :: S, Lg, h => by
    unfold bur
    refine bur_len S _ ?_
    split
    · exact psh_len h
    · exact h
theorem kept_cons {P S : List rw_} {g : rw_} : kept P (g :: S) = if dyb P g = true then kept P S else g :: kept P S := by
  unfold kept
  rw [List.filter_cons]
  cases dyb P g <;> rfl
theorem kept_app {P S S' : List rw_} : kept P (S ++ S') = kept P S ++ kept P S' := List.filter_append _ _
theorem kept_len {P : List rw_} : ∀ S : List rw_, (kept P S).length + ndy P S = S.length
  | [] => rfl
  | g :: S => by
    have ih := kept_len (P := P) S
    rw [kept_cons]
    unfold ndy
    by_cases h : dyb P g = true
    · rw [if_pos h, if_pos h, List.length_cons]
      omega
    · rw [if_neg h, if_neg h, List.length_cons, List.length_cons]
      omega
theorem kept_id {P : List rw_} : ∀ S : List rw_, ndy P S = 0 → kept P S = S
  | [], _ => rfl
  | g :: S, h => by
    unfold ndy at h
    by_cases hd : dyb P g = true
    · rw [if_pos hd] at h
      omega
    · rw [if_neg hd] at h
      rw [kept_cons, if_neg hd, kept_id S (by omega)]
theorem mem_gd {S : List rw_} {k : Nat} (h : k < S.length) : S.getD k z_ ∈ S := by
  rw [List.getD_eq_getElem?_getD, List.getElem?_eq_getElem h]
  exact List.getElem_mem h
theorem gd_mem {S : List rw_} {g : rw_} (h : g ∈ S) : ∃ k : Nat, k < S.length ∧ S.getD k z_ = g := by
  obtain ⟨k, hk, e⟩ := List.getElem_of_mem h
  refine ⟨k, hk, ?_⟩
  rw [List.getD_eq_getElem?_getD, List.getElem?_eq_getElem hk]
  exact e
theorem QG.kept {T G : List rw_} (P : List rw_) (q : QG T G) : QG T (kept P G) := by
  have hl := kept_len (P := P) G
  refine ⟨by have := q.1; omega, q.2.1, fun k hk => ?_, q.2.2.2⟩
  have hm := mem_gd hk
  have hm := (List.mem_filter.mp hm).1
  obtain ⟨i, hi, e⟩ := gd_mem hm
  rw [← e]
  exact q.2.2.1 i hi
theorem c_moodN {rP : Int32} {fP : Nat → Int32} {P : List rw_} {x : Int32} (hP : RT 2 rP fP P) (hl : P.length = 10) (o : okN 10 x) : f_X3_at (2 : Int32) 20 x (0 : Int32) rP fP = some (P.getD (cN x) z_ 0) := by
  conv => lhs; rw [o.1]
  exact hP.m hl o.2
theorem c_dying {rP rG : Int32} {fP fG : Nat → Int32} {P G : List rw_} {k nT : Nat} (hP : RT 2 rP fP P) (hPl : P.length = 10) (hG : RT 6 rG fG G) (hl : G.length ≤ 40) (hk : k < G.length) (o : okG nT (G.getD k z_)) : f_X2_isDying (nI k) rP fP rG fG = some (if dyb P (G.getD k z_) = true then 1 else 0) := by
  unfold f_X2_isDying dyb
  rw [hG.gl hk hl, bd_some, c_moodN hP hPl o.1, bd_some, hG.gh hk hl, bd_some]
  by_cases h : G.getD k z_ 4 ≤ P.getD (cN (G.getD k z_ 0)) z_ 0
  · rw [if_pos h, decide_eq_false (Int32.not_lt.mpr h), if_neg (by decide)]
  · rw [if_neg h, decide_eq_true (Int32.not_le.mp h), if_pos rfl]
theorem c_push {fL : Nat → Int32} {L : List rw_} {a b d : Int32} (h : RT 3 (nI L.length) fL L) (hl : L.length < 12) : RT 3 (nI (L.length + 1)) (upd (upd (upd fL (L.length * 3 + 0) a) (L.length * 3 + 1) b) (L.length * 3 + 2) d) (L ++ [g3 a b d]) := by
  refine h.snoc (fun i hi => by rw [pk_un (by omega), pk_un (by omega), pk_un (by omega)]) (fun j hj => ?_)
  have hj : j = 0 ∨ j = 1 ∨ j = 2 := by omega
  rcases hj with e | e | e
  · rw [e, pk_un (by omega), pk_un (by omega), pk_us]
    rfl
  · rw [e, pk_un (by omega), pk_us]
    rfl
  · rw [e, pk_us]
    rfl
theorem c_enter {rG rL ti : Int32} {fG fL : Nat → Int32} {G Lg : List rw_} {k : Nat} (hG : RT 6 rG fG G) (hl : G.length ≤ 40) (hk : k < G.length) (hL : RT 3 rL fL Lg) (hLl : Lg.length ≤ 12) : ∃ aL : Nat → Int32, f_X2_enter (nI k) rG fG rL fL ti = some (nI (psh Lg (g3 (G.getD k z_ 5) ti (G.getD k z_ 0))).length, aL) ∧ RT 3 (nI (psh Lg (g3 (G.getD k z_ 5) ti (G.getD k z_ 0))).length) aL (psh Lg (g3 (G.getD k z_ 5) ti (G.getD k z_ 0))) := by
  have pp : ∀ (n : Nat) (f : Nat → Int32), n < 12 → (∀ v : Int32, f_X3_put (3 : Int32) 36 (nI n) (0 : Int32) v (nI (n + 1)) f = some (upd f (n * 3 + 0) v)) ∧ (∀ v : Int32, f_X3_put (3 : Int32) 36 (nI n) (1 : Int32) v (nI (n + 1)) f = some (upd f (n * 3 + 1) v)) ∧ (∀ v : Int32, f_X3_put (3 : Int32) 36 (nI n) (2 : Int32) v (nI (n + 1)) f = some (upd f (n * 3 + 2) v)) := by
    intro n f hn
    refine ⟨fun v => ?_, fun v => ?_, fun v => ?_⟩
    · have e := putL (f := f) (v := v) hn (show 0 < 3 by omega)
      exact e
    · have e := putL (f := f) (v := v) hn (show 1 < 3 by omega)
      exact e
    · have e := putL (f := f) (v := v) hn (show 2 < 3 by omega)
      exact e
  have ad : ∀ n : Nat, n < 12 → f_X3_addRow (12 : Int32) (nI n) = some (nI n, nI (n + 1)) := fun n hn => by
    have e := p_add (lim := 12) hn (by omega)
    exact e
  unfold f_X2_enter f_X3_isFull psh
  rw [hG.gn hk hl, hG.gl hk hl, hL.1]
  by_cases h : Lg.length < 12
  · rw [if_pos h, if_pos (show nI Lg.length < (12 : Int32) from q_lt (b := 12) (by omega) (by omega) h), bd_some, if_pos rfl, ad _ h, bd2_some, bd_some, (pp _ fL h).1, bd_some, (pp _ _ h).2.1, bd_some, bd_some, (pp _ _ h).2.2, bd_some, List.length_append]
    refine ⟨_, rfl, ?_⟩
    have hL0 : RT 3 (nI Lg.length) fL Lg := by rw [← hL.1]; exact hL
    exact c_push hL0 h
  · obtain ⟨f', d1, d2⟩ := hL.drop (R := 0) (lim := 12) (nn := 36) (by omega) (by omega) hLl (by omega) (by omega)
    rw [hL.1] at d1
    have d1 : f_X3_drop (3 : Int32) 36 (0 : Int32) (nI Lg.length) fL = some (nI (Lg.length - 1), f') := d1
    have hlen : (Lg.eraseIdx 0).length = Lg.length - 1 := len_er (by omega)
    have h2 : Lg.length - 1 < 12 := by omega
    rw [if_neg h, if_neg (show ¬ nI Lg.length < (12 : Int32) from q_nlt (b := 12) (by omega) (by omega) (by omega)), bd_some, if_neg (show ¬ (1 : Int32) = 0 by decide), d1, bd2_some, ad _ h2, bd2_some, bd_some, (pp _ f' h2).1, bd_some, (pp _ _ h2).2.1, bd_some, bd_some, (pp _ _ h2).2.2, bd_some, List.length_append, hlen]
    refine ⟨_, rfl, ?_⟩
    rw [← hlen] at d2 h2 ⊢
    exact c_push d2 h2
theorem split_at {G pre S : List rw_} {g : rw_} (h : G = pre ++ g :: S) : pre.length < G.length ∧ G.getD pre.length z_ = g := by
  rw [h]
  exact ⟨by rw [List.length_append, List.length_cons]; omega, gd_mid⟩
theorem c_buryL {rP rG ti : Int32} {fP fG : Nat → Int32} {P T G : List rw_} (hP : RT 2 rP fP P) (hPl : P.length = 10) (hG : RT 6 rG fG G) (q : QG T G) : ∀ (S pre : List rw_) (d F : Nat) (rL : Int32) (fL : Nat → Int32) (Lg : List rw_), G = pre ++ S → RT 3 rL fL Lg → Lg.length ≤ 12 → S.length < F → ∃ aL : Nat → Int32, f_X2_buryDying_L4 rP fP rG fG ti F (nI d) (nI pre.length) rL fL = some (nI (d + ndy P S), nI (bur P ti S Lg).length, aL) ∧ RT 3 (nI (bur P ti S Lg).length) aL (bur P ti S Lg)
  | _, _, _, 0, _, _, _, _, _, _, hF => absurd hF (by omega)
  | [], pre, d, F + 1, rL, fL, Lg, h, hL, hLl, hF => by
    have hp : G = pre := by rw [h, List.append_nil]
    have := q.1
    refine ⟨fL, ?_, ?_⟩
    · unfold f_X2_buryDying_L4
      rw [hG.rows, bd_some, hp, if_pos (q_le (by rw [← hp]; omega) (by rw [← hp]; omega) (Nat.le_refl _)), hL.1]
      rfl
    · show RT 3 (nI Lg.length) fL Lg
      rw [← hL.1]
      exact hL
  | g :: S, pre, d, F + 1, rL, fL, Lg, h, hL, hLl, hF => by
    have hs := split_at h
    have := q.1
    have hF : S.length + 1 < F + 1 := hF
    have ek : nI pre.length + (1 : Int32) = nI (pre ++ [g]).length := by rw [List.length_append]; exact n_at
    have h' : G = (pre ++ [g]) ++ S := by rw [h, List.append_assoc]; rfl
    have hy := c_dying hP hPl hG q.1 hs.1 (q.2.2.1 _ hs.1)
    obtain ⟨aL, e1, e2⟩ := c_enter (ti := ti) hG q.1 hs.1 hL hLl
    rw [hs.2] at hy e1 e2
    unfold f_X2_buryDying_L4 bur ndy
    rw [hG.rows, bd_some, if_neg (q_nle (by omega) (by omega) hs.1), hy, bd_some, e1, bd2_some, nm_eq, nm_eq, nm_eq, ek]
    by_cases hd : dyb P g = true
    · rw [if_pos hd, if_pos hd, if_pos hd, if_neg (show ¬ (1 : Int32) = 0 by decide), nI_1 d, ← Nat.add_assoc]
      exact c_buryL hP hPl hG q S (pre ++ [g]) (d + 1) F _ aL _ h' e2 (psh_len hLl) (by omega)
    · rw [if_neg hd, if_neg hd, if_neg hd, if_pos rfl, Nat.zero_add]
      exact c_buryL hP hPl hG q S (pre ++ [g]) d F rL fL Lg h' hL hLl (by omega)
