/-! ===== PURE: states, the persons from the last one on ===== -/
theorem rev_k {L : List rw_} {p : Nat} (h : L.length = 10) (hp : p < 10) : L.reverse.getD p z_ = L.getD (9 - p) z_ := by
  rw [List.getD_eq_getElem?_getD, List.getElem?_reverse (by omega), List.getD_eq_getElem?_getD]
  congr 2
  omega
theorem rev_at {L : List rw_} {p : Nat} (h : L.length = 10) (hp : p < 10) : L.reverse.getD (9 - p) z_ = L.getD p z_ := by
  rw [rev_k h (by omega)]
  congr 1
  omega
theorem rev_set {L : List rw_} {p : Nat} {x : rw_} (h : L.length = 10) (hp : p < 10) : L.reverse.set (9 - p) x = (L.set p x).reverse := by
  apply List.ext_getElem?
  intro k
  by_cases hk : k < 10
  · rw [List.getElem?_reverse (show k < (L.set p x).length by rw [List.length_set]; omega), List.length_set, List.getElem?_set, List.getElem?_set, List.length_reverse, List.getElem?_reverse (show k < L.length by omega)]
    by_cases c : 9 - p = k
    · rw [if_pos c, if_pos (show p = L.length - 1 - k by omega), if_pos (by omega), if_pos (by omega)]
    · rw [if_neg c, if_neg (show ¬ p = L.length - 1 - k by omega)]
  · rw [List.getElem?_eq_none (by rw [List.length_set, List.length_reverse]; omega), List.getElem?_eq_none (by rw [List.length_reverse, List.length_set]; omega)]
theorem sPm_r {P : List rw_} {p : Nat} {v : Int32} (h : P.length = 10) (hp : p < 10) : sPm P.reverse (9 - p) v = (sPm P p v).reverse := by
  unfold sPm
  rw [rev_at h hp, rev_set h hp]
theorem sPb_r {P : List rw_} {p : Nat} {v : Int32} (h : P.length = 10) (hp : p < 10) : sPb P.reverse (9 - p) v = (sPb P p v).reverse := by
  unfold sPb
  rw [rev_at h hp, rev_set h hp]
theorem tkP_r {P : List rw_} : tkP P.reverse = (tkP P).reverse := by
  unfold tkP
  rw [List.map_reverse]
theorem OS.m {P T G Lg : List rw_} (o : OS P T G Lg) : OS P.reverse (T.map mT) (G.map mG) (Lg.map mL) := ⟨by rw [List.length_reverse]; exact o.1, fun p hp => by
  rw [rev_k o.1 hp]
  exact o.2.1 (9 - p) (by omega), o.2.2.1.m, by rw [List.length_map]; exact o.2.2.2⟩
theorem mT_0 {r : rw_} {v : Int32} : mT (upd r 0 v) = upd (mT r) 0 (mi v) := by
  funext j
  unfold mT upd
  by_cases c : j = 0
  · rw [if_pos c, if_pos c, if_pos rfl]
  · rw [if_neg c, if_neg c, if_neg c]
    exact (if_neg c).symm
theorem mT_1 {r : rw_} {v : Int32} : mT (upd r 1 v) = upd (mT r) 1 v := by
  funext j
  unfold mT upd
  by_cases c : j = 0
  · rw [if_pos c, if_neg (show ¬ (0 : Nat) = 1 by omega), if_neg (show ¬ j = 1 by omega)]
    exact (if_pos c).symm
  · rw [if_neg c]
    by_cases d : j = 1
    · rw [if_pos d, if_pos d]
    · rw [if_neg d, if_neg d]
      exact (if_neg c).symm
theorem setT_0 {T : List rw_} {t : Nat} {v : Int32} (ht : t < T.length) : (T.map mT).set t (upd ((T.map mT).getD t z_) 0 (mi v)) = (T.set t (upd (T.getD t z_) 0 v)).map mT := by
  rw [List.map_set, mT_0, gd_map ht]
theorem setT_1 {T : List rw_} {t : Nat} {v : Int32} (ht : t < T.length) : (T.map mT).set t (upd ((T.map mT).getD t z_) 1 v) = (T.set t (upd (T.getD t z_) 1 v)).map mT := by
  rw [List.map_set, mT_1, gd_map ht]
theorem mT_g2 {x y : Int32} : mT (g2 x y) = g2 (mi x) y := by
  funext j
  unfold mT g2
  by_cases c : j = 0
  · rw [if_pos c, if_pos rfl, if_pos c]
  · rw [if_neg c, if_neg c, if_neg c]
theorem mG_g6 {a b c d e f : Int32} : mG (g6 a b c d e f) = g6 (mi a) (mi b) c d e f := by
  funext j
  unfold mG g6
  by_cases h0 : j = 0
  · rw [if_pos h0, if_pos rfl, if_pos h0]
  · rw [if_neg h0, if_neg h0, if_neg h0]
    by_cases h1 : j = 1
    · rw [if_pos h1, if_neg (show ¬ (1 : Nat) = 0 by omega), if_pos rfl, if_pos h1]
    · rw [if_neg h1, if_neg h1, if_neg h1]
theorem mL_g3 {a b c : Int32} : mL (g3 a b c) = g3 a b (mi c) := by
  funext j
  unfold mL g3
  by_cases h0 : j = 0
  · rw [if_pos h0, if_pos rfl, if_pos h0]
  · rw [if_neg h0, if_neg h0]
    by_cases h1 : j = 1
    · rw [if_pos h1, if_neg (show ¬ (1 : Nat) = 0 by omega), if_pos rfl, if_neg h0, if_pos h1]
    · rw [if_neg h1, if_neg h0, if_neg h1, if_neg h1]
theorem dyb_m {P : List rw_} {n : Nat} {g : rw_} (hP : P.length = 10) (o : okG n g) : dyb P.reverse (mG g) = dyb P g := by
  have e0 : cN (mG g 0) = 9 - cN (g 0) := (mi_ok o.1).2
  have e4 : mG g 4 = g 4 := rfl
  unfold dyb
  rw [e0, e4, rev_at hP o.1.2]
theorem kept_m {P : List rw_} {n : Nat} (hP : P.length = 10) : ∀ S : List rw_, (∀ g ∈ S, okG n g) → kept P.reverse (S.map mG) = (kept P S).map mG
  | [], _ => rfl
  | g :: S, h => by
    have e := dyb_m hP (h g List.mem_cons_self)
    have ih := kept_m hP S (fun g hg => h g (List.mem_cons_of_mem _ hg))
    rw [List.map_cons, kept_cons, kept_cons, e, ih]
    by_cases c : dyb P g = true
    · rw [if_pos c, if_pos c]
    · rw [if_neg c, if_neg c, List.map_cons]
theorem ndy_m {P : List rw_} {n : Nat} (hP : P.length = 10) : ∀ S : List rw_, (∀ g ∈ S, okG n g) → ndy P.reverse (S.map mG) = ndy P S
  | [], _ => rfl
  | g :: S, h => by
    have e := dyb_m hP (h g List.mem_cons_self)
    have ih := ndy_m hP S (fun g hg => h g (List.mem_cons_of_mem _ hg))
    rw [List.map_cons]
    unfold ndy
    rw [e, ih]
theorem psh_m {Lg : List rw_} {r : rw_} : psh (Lg.map mL) (mL r) = (psh Lg r).map mL := by
  unfold psh
  rw [List.length_map, List.map_append]
  by_cases c : Lg.length < 12
  · rw [if_pos c, if_pos c]
    rfl
  · rw [if_neg c, if_neg c]
    cases Lg with
    | nil => rfl
    | cons a L => rfl
theorem bur_m {P : List rw_} {n : Nat} {ti : Int32} (hP : P.length = 10) : ∀ (S Lg : List rw_), (∀ g ∈ S, okG n g) → bur P.reverse ti (S.map mG) (Lg.map mL) = (bur P ti S Lg).map mL
  | [], _, _ => rfl
  | g :: S, Lg, h => by
    have e := dyb_m hP (h g List.mem_cons_self)
    have e5 : mG g 5 = g 5 := rfl
    have e0 : mG g 0 = mi (g 0) := rfl
    rw [List.map_cons]
    unfold bur
    rw [e, e5, e0, ← mL_g3, psh_m]
    by_cases c : dyb P g = true
    · rw [if_pos c, if_pos c]
      exact bur_m hP S _ (fun g hg => h g (List.mem_cons_of_mem _ hg))
    · rw [if_neg c, if_neg c]
      exact bur_m hP S _ (fun g hg => h g (List.mem_cons_of_mem _ hg))
theorem okGs.mem {T G : List rw_} (h : okGs T G) : ∀ g ∈ G, okG T.length g := fun g hg => by
  obtain ⟨k, k1, k2⟩ := gd_mem hg
  rw [← k2]
  exact h k k1
/-! ticks -/
abbrev TK : Type := List rw_ × List rw_ × List rw_ × Int32 × Nat
def tk1 (q : TK) : TK := (tkP q.1, kept (tkP q.1) q.2.1, bur (tkP q.1) (q.2.2.2.1 + 1) q.2.1 q.2.2.1, q.2.2.2.1 + 1, q.2.2.2.2 + ndy (tkP q.1) q.2.1)
def tks : Nat → TK → TK
  | 0, q => q
  | n + 1, q => tks n (tk1 q)
theorem tks_d : ∀ (n : Nat) (q : TK), q.2.2.2.2 ≤ (tks n q).2.2.2.2 ∧ (tks n q).2.2.2.2 + (tks n q).2.1.length = q.2.2.2.2 + q.2.1.length
  | 0, q => ⟨Nat.le_refl _, rfl⟩
  | n + 1, q => by
    obtain ⟨h1, h2⟩ := tks_d n (tk1 q)
    have hk := kept_len (P := tkP q.1) q.2.1
    have e1 : (tk1 q).2.2.2.2 = q.2.2.2.2 + ndy (tkP q.1) q.2.1 := rfl
    have e2 : (tk1 q).2.1 = kept (tkP q.1) q.2.1 := rfl
    rw [e1] at h1 h2
    rw [e2] at h2
    unfold tks
    omega
theorem tks_0 : ∀ (n : Nat) (q : TK), (tks n q).2.2.2.2 = q.2.2.2.2 → (tks n q).2.1 = q.2.1
  | 0, _, _ => rfl
  | n + 1, q, h => by
    have h1 := (tks_d n (tk1 q)).1
    have e1 : (tk1 q).2.2.2.2 = q.2.2.2.2 + ndy (tkP q.1) q.2.1 := rfl
    have e2 : (tk1 q).2.1 = kept (tkP q.1) q.2.1 := rfl
    unfold tks at h ⊢
    rw [e1] at h1
    have ih := tks_0 n (tk1 q) (by rw [e1]; omega)
    rw [ih, e2]
    exact kept_id q.2.1 (by omega)
theorem tks_ti : ∀ (n : Nat) (q : TK), (tks n q).2.2.2.1 = q.2.2.2.1 + nI n
  | 0, q => (Int32.add_zero _).symm
  | n + 1, q => by
    have e : (tk1 q).2.2.2.1 = q.2.2.2.1 + 1 := rfl
    unfold tks
    rw [tks_ti n (tk1 q), e, Int32.add_assoc]
    congr 1
    show nI 1 + nI n = nI (n + 1)
    rw [n_at]
    congr 1
    omega
def mK (q : TK) : TK := (q.1.reverse, q.2.1.map mG, q.2.2.1.map mL, q.2.2.2)
theorem tk1_m {T : List rw_} {q : TK} (o : OS q.1 T q.2.1 q.2.2.1) : tk1 (mK q) = mK (tk1 q) := by
  have hg := o.2.2.1.2.2.1.mem
  have hP : (tkP q.1).length = 10 := o.tk.1
  unfold tk1 mK
  dsimp only
  rw [tkP_r, kept_m hP _ hg, bur_m hP _ _ hg, ndy_m hP _ hg]
theorem tk1_o {T : List rw_} {q : TK} (o : OS q.1 T q.2.1 q.2.2.1) : OS (tk1 q).1 T (tk1 q).2.1 (tk1 q).2.2.1 := o.tk.die
theorem tks_m {T : List rw_} : ∀ (n : Nat) (q : TK), OS q.1 T q.2.1 q.2.2.1 → tks n (mK q) = mK (tks n q)
  | 0, _, _ => rfl
  | n + 1, q, o => by
    unfold tks
    rw [tk1_m o]
    exact tks_m n (tk1 q) (tk1_o o)
theorem tks_o {T : List rw_} : ∀ (n : Nat) (q : TK), OS q.1 T q.2.1 q.2.2.1 → OS (tks n q).1 T (tks n q).2.1 (tks n q).2.2.1
  | 0, _, o => o
  | n + 1, q, o => tks_o n (tk1 q) (tk1_o o)
theorem c_ticks {rP : Int32} {T : List rw_} {N : Nat} (hN : N ≤ 100) : ∀ (n k F : Nat) (q : TK) (di rG rL : Int32) (fP fG fL : Nat → Int32), n + k = N → n < F → OS q.1 T q.2.1 q.2.2.1 → RT 2 rP fP q.1 → RT 6 rG fG q.2.1 → RT 3 rL fL q.2.2.1 → q.2.2.2.2 + q.2.1.length ≤ 40 → ∃ (rG' rL' : Int32) (aP aG aL : Nat → Int32), f_X2_letPass_L4 (nI N) rP F (nI q.2.2.2.2) (nI k) fP rG fG rL fL di q.2.2.2.1 = some (nI (tks n q).2.2.2.2, aP, rG', aG, rL', aL, di + nI ((tks n q).2.2.2.2 - q.2.2.2.2), (tks n q).2.2.2.1) ∧ RT 2 rP aP (tks n q).1 ∧ RT 6 rG' aG (tks n q).2.1 ∧ RT 3 rL' aL (tks n q).2.2.1
  | _, _, 0, _, _, _, _, _, _, _, _, hF, _, _, _, _, _ => absurd hF (by omega)
  | 0, k, F + 1, q, di, rG, rL, fP, fG, fL, h, _, o, hP, hG, hL, hd => by
    refine ⟨rG, rL, fP, fG, fL, ?_, hP, hG, hL⟩
    have ez : di + nI ((tks 0 q).2.2.2.2 - q.2.2.2.2) = di := by
      show di + nI (q.2.2.2.2 - q.2.2.2.2) = di
      rw [Nat.sub_self]
      exact Int32.add_zero _
    rw [ez]
    unfold f_X2_letPass_L4
    rw [if_pos (q_le (by omega) (by omega) (by omega))]
    rfl
  | n + 1, k, F + 1, q, di, rG, rL, fP, fG, fL, h, h1, o, hP, hG, hL, hd => by
    have ek : nI k + (1 : Int32) = nI (k + 1) := n_at
    obtain ⟨a1, p1, p2⟩ := c_calm hP o.1
    obtain ⟨aG, aL, b1, b2, b3⟩ := c_bury (rT := 0) (rH := 0) (fT := fP) (fH := fP) (di := di) (ti := q.2.2.2.1 + 1) p2 o.tk.1 hG o.2.2.1 hL o.2.2.2
    have hk := kept_len (P := tkP q.1) q.2.1
    have ed : nI q.2.2.2.2 + nI (ndy (tkP q.1) q.2.1) = nI (q.2.2.2.2 + ndy (tkP q.1) q.2.1) := n_at
    have hm := (tks_d n (tk1 q)).1
    have e1 : (tk1 q).2.2.2.2 = q.2.2.2.2 + ndy (tkP q.1) q.2.1 := rfl
    have e2 : (tk1 q).2.1.length = (kept (tkP q.1) q.2.1).length := rfl
    obtain ⟨rG', rL', aP, bG, bL, r1, r2⟩ := c_ticks (rP := rP) (T := T) hN n (k + 1) F (tk1 q) (di + nI (ndy (tkP q.1) q.2.1)) _ _ a1 aG aL (by omega) (by omega) (tk1_o o) p2 b2 b3 (by rw [e1, e2]; omega)
    refine ⟨rG', rL', aP, bG, bL, ?_, r2⟩
    have es : di + nI ((tks (n + 1) q).2.2.2.2 - q.2.2.2.2) = di + nI (ndy (tkP q.1) q.2.1) + nI ((tks n (tk1 q)).2.2.2.2 - (tk1 q).2.2.2.2) := by
      rw [Int32.add_assoc, n_at]
      congr 2
      show (tks n (tk1 q)).2.2.2.2 - q.2.2.2.2 = _
      rw [e1] at hm ⊢
      omega
    rw [es]
    unfold f_X2_letPass_L4
    rw [if_neg (q_nle (by omega) (by omega) (by omega)), p1, bd_some, nm_eq, b1, bd6_some, nm_eq, nm_eq, ek, ed]
    exact r1
theorem c_passes {rP rT rG rL rH di ti : Int32} {fP fT fG fL fH : Nat → Int32} {P T G Lg : List rw_} {N : Nat} (hN : N ≤ 100) (o : OS P T G Lg) (c : CS rP fP rT fT rG fG rL fL rH fH P T G Lg) : ∃ (rG' rL' : Int32) (aP aG aL aH : Nat → Int32), f_X2_letPass (nI N) rP fP rT fT rG fG rL fL rH fH di ti = some (nI (tks N (P, G, Lg, ti, 0)).2.2.2.2, aP, rG', aG, rL', aL, aH, di + nI (tks N (P, G, Lg, ti, 0)).2.2.2.2, (tks N (P, G, Lg, ti, 0)).2.2.2.1) ∧ CS rP aP rT fT rG' aG rL' aL rH aH (tks N (P, G, Lg, ti, 0)).1 T (tks N (P, G, Lg, ti, 0)).2.1 (tks N (P, G, Lg, ti, 0)).2.2.1 := by
  have := o.2.2.1.1
  have hd := tks_d N (P, G, Lg, ti, 0)
  have o' := tks_o N (P, G, Lg, ti, 0) o
  have h0 := tks_0 N (P, G, Lg, ti, 0)
  obtain ⟨rG', rL', aP, aG, aL, r1, r2, r3, r4⟩ := c_ticks (rP := rP) (T := T) hN N 0 FU (P, G, Lg, ti, 0) di rG rL fP fG fL (by omega) (by unfold FU; omega) o c.1 c.2.1.1 c.2.2 (by show 0 + G.length ≤ 40; omega)
  have r1 : f_X2_letPass_L4 (nI N) rP FU (0 : Int32) (0 : Int32) fP rG fG rL fL di ti = some (nI (tks N (P, G, Lg, ti, 0)).2.2.2.2, aP, rG', aG, rL', aL, di + nI (tks N (P, G, Lg, ti, 0)).2.2.2.2, (tks N (P, G, Lg, ti, 0)).2.2.2.1) := r1
  have hb : (tks N (P, G, Lg, ti, 0)).2.2.2.2 ≤ 40 := by
    have h2 : (tks N (P, G, Lg, ti, 0)).2.2.2.2 + (tks N (P, G, Lg, ti, 0)).2.1.length = 0 + G.length := hd.2
    omega
  generalize tks N (P, G, Lg, ti, 0) = Z at *
  by_cases h : Z.2.2.2.2 = 0
  · have eG : Z.2.1 = G := h0 h
    refine ⟨rG', rL', aP, aG, aL, fH, ?_, ⟨r2, ⟨r3, c.2.1.2.1, c.2.1.2.2.1, ?_⟩, r4⟩⟩
    · unfold f_X2_letPass
      rw [r1, bd8_some, h, if_pos (show nI 0 ≤ (0 : Int32) by decide)]
    · rw [eG]
      exact c.2.1.2.2.2
  · obtain ⟨aH, s1, s2⟩ := CS.settle (fH := fH) (rH := rH) r2 c.2.1.2.1 r3 r4 c.2.1.2.2.1 o'.2.2.1
    refine ⟨rG', rL', aP, aG, aL, aH, ?_, s2⟩
    unfold f_X2_letPass
    rw [r1, bd8_some, if_neg (show ¬ nI Z.2.2.2.2 ≤ (0 : Int32) from q_nle (b := 0) (by omega) (by omega) (by omega)), s1, bd_some]
