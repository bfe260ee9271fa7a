def clv (v : Int32) : Int32 := if (0 : Int32) ≤ v then (if v ≤ (100 : Int32) then v else 100) else 0
theorem clv_c (v : Int32) : (if (0 : Int32) < (if v < (100 : Int32) then v else (100 : Int32)) then (if v < (100 : Int32) then v else (100 : Int32)) else (0 : Int32)) = clv v := by
  have h0 : (0 : Int32).toInt = 0 := by decide
  have h100 : (100 : Int32).toInt = 100 := by decide
  unfold clv
  by_cases a : (0 : Int32) ≤ v
  · rw [if_pos a]
    by_cases b : v < (100 : Int32)
    · rw [if_pos b, if_pos (Int32.le_of_lt b)]
      by_cases c : (0 : Int32) < v
      · rw [if_pos c]
      · rw [if_neg c]
        exact Int32.le_antisymm a (Int32.not_lt.mp c)
    · rw [if_neg b, if_pos (show (0 : Int32) < 100 by decide)]
      by_cases c : v ≤ (100 : Int32)
      · rw [if_pos c]
        exact Int32.le_antisymm (Int32.not_lt.mp b) c
      · rw [if_neg c]
  · have a' := Int32.not_le.mp a
    have b : v < (100 : Int32) := Int32.lt_trans a' (by decide)
    rw [if_neg a, if_pos b, if_neg (fun z => a (Int32.le_of_lt z))]
theorem clv_ok (v : Int32) : okN 101 (clv v) := by
  have k : ∀ x : Int32, (0 : Int32) ≤ x → x ≤ (100 : Int32) → okN 101 x := by
    intro x h1 h2
    obtain ⟨j, hj, e⟩ := nI_of2 (M := 100) (n := 100) (by decide) (Int32.not_lt.mpr h1) h2
    rw [e]
    exact okN_nI (by omega) (by omega)
  unfold clv
  split
  · split
    · rename_i a b
      exact k v a b
    · exact k 100 (by decide) (by decide)
  · exact k 0 (by decide) (by decide)
def sPm (P : List rw_) (p : Nat) (v : Int32) : List rw_ := P.set p (upd (P.getD p z_) 0 v)
theorem sPm_at {P : List rw_} {p i : Nat} {v : Int32} (hp : p < P.length) : (sPm P p v).getD i z_ 0 = (if i = p then v else P.getD i z_ 0) ∧ (sPm P p v).getD i z_ 1 = P.getD i z_ 1 := by
  unfold sPm
  by_cases e : i = p
  · rw [e, gd_set hp, if_pos rfl, pk_us, pk_un (by omega)]
    exact ⟨rfl, rfl⟩
  · rw [gd_setn e, if_neg e]
    exact ⟨rfl, rfl⟩
theorem OS.sP {P T G Lg : List rw_} {p : Nat} {v : Int32} (o : OS P T G Lg) (hp : p < 10) (hv : okN 101 v) : OS (sPm P p v) T G Lg := by
  have hl := o.1
  refine ⟨by unfold sPm; rw [List.length_set]; exact hl, fun i hi => ?_, o.2.2⟩
  have h := sPm_at (i := i) (v := v) (show p < P.length by omega)
  rw [h.1, h.2]
  refine ⟨?_, (o.2.1 i hi).2⟩
  split
  · exact hv
  · exact (o.2.1 i hi).1
theorem OS.die {P T G Lg : List rw_} {ti : Int32} (o : OS P T G Lg) : OS P T (kept P G) (bur P ti G Lg) := ⟨o.1, o.2.1, o.2.2.1.kept P, bur_len _ _ o.2.2.2⟩
theorem c_mood {rP rT rG rL rH di ti a : Int32} {fP fT fG fL fH : Nat → Int32} {P T G Lg : List rw_} {p : Nat} (o : OS P T G Lg) (c : CS rP fP rT fT rG fG rL fL rH fH P T G Lg) (hp : p < 10) : ∃ (v rG' rL' : Int32) (aP aG aL aH : Nat → Int32), v = clv (P.getD p z_ 0 + a) ∧ f_X2_changeMood (nI p) a rP fP rT fT rG fG rL fL rH fH di ti = some (v, aP, rG', aG, rL', aL, aH, di + nI (ndy (sPm P p v) G)) ∧ CS rP aP rT fT rG' aG rL' aL rH aH (sPm P p v) T (kept (sPm P p v) G) (bur (sPm P p v) ti G Lg) := by
  have hl := o.1
  have e1 := c.1.put (lim := 10) (n := 20) (R := p) (C := 0) (v := clv (P.getD p z_ 0 + a)) (by omega) (by omega) (by omega) (by omega) (by omega) (by omega) (by omega)
  have e2 : f_X3_put (2 : Int32) 20 (nI p) (0 : Int32) (clv (P.getD p z_ 0 + a)) rP fP = some (upd fP (p * 2 + 0) (clv (P.getD p z_ 0 + a))) := e1.1
  have hP2 : RT 2 rP (upd fP (p * 2 + 0) (clv (P.getD p z_ 0 + a))) (sPm P p (clv (P.getD p z_ 0 + a))) := e1.2
  have o2 := o.sP hp (clv_ok (P.getD p z_ 0 + a))
  obtain ⟨aG, aL, b1, b2, b3⟩ := c_bury (ti := ti) (di := di) (rT := rT) (rH := rH) (fT := fT) (fH := fH) hP2 o2.1 c.2.1.1 o2.2.2.1 c.2.2 o2.2.2.2
  by_cases hd0 : ndy (sPm P p (clv (P.getD p z_ 0 + a))) G = 0
  · refine ⟨_, nI (kept (sPm P p (clv (P.getD p z_ 0 + a))) G).length, _, _, aG, aL, fH, rfl, ?_, hP2, ?_, b3⟩
    · unfold f_X2_changeMood
      rw [c.1.m hl hp, bd_some, nm_eq, clv_c, nm_eq, e2, bd_some, b1, bd6_some, hd0, if_pos (show nI 0 ≤ (0 : Int32) by decide)]
    · rw [kept_id G hd0] at b2 ⊢
      exact ⟨b2, c.2.1.2.1, c.2.1.2.2.1, c.2.1.2.2.2⟩
  · have hk := kept_len (P := sPm P p (clv (P.getD p z_ 0 + a))) G
    have := o.2.2.1.1
    obtain ⟨aH, s1, s2⟩ := CS.settle (fH := fH) (rH := rH) hP2 c.2.1.2.1 b2 b3 c.2.1.2.2.1 (o2.2.2.1.kept _)
    refine ⟨_, _, _, _, aG, aL, aH, rfl, ?_, s2⟩
    unfold f_X2_changeMood
    rw [c.1.m hl hp, bd_some, nm_eq, clv_c, nm_eq, e2, bd_some, b1, bd6_some, if_neg (show ¬ nI (ndy (sPm P p (clv (P.getD p z_ 0 + a))) G) ≤ (0 : Int32) from q_nle (b := 0) (by omega) (by omega) (by omega)), s1, bd_some]
def cmv (m b : Int32) : Int32 := if m = b then m else if b ≤ m then m - 1 else m + 1
def tkP (P : List rw_) : List rw_ := P.map (fun r => g2 (cmv (r 0) (r 1)) (r 1))
theorem tk_at {P : List rw_} {p : Nat} (h : p < P.length) : (tkP P).getD p z_ = g2 (cmv (P.getD p z_ 0) (P.getD p z_ 1)) (P.getD p z_ 1) := by
  unfold tkP
  rw [List.getD_eq_getElem?_getD, List.getElem?_map, List.getD_eq_getElem?_getD, List.getElem?_eq_getElem h]
  rfl
theorem sb_le {i j : Nat} (hi : i ≤ 100) (hj : j ≤ 100) : (nI j - nI i ≤ 0 ↔ j ≤ i) ∧ (0 ≤ nI j - nI i ↔ i ≤ j) := by
  have h0 : (0 : Int32).toInt = 0 := by decide
  rw [Int32.le_iff_toInt_le, Int32.le_iff_toInt_le, pk_sub_toInt (by omega) (by omega), h0]
  constructor <;> omega
theorem cm_m {m b : Int32} (om : okN 101 m) (ob : okN 101 b) : (if b - m ≤ 0 then (if 0 ≤ b - m then m + 0 else m + (-1)) else m + 1) = cmv m b := by
  have hm := om.2
  have hb := ob.2
  have e1 := om.1
  have e2 := ob.1
  generalize cN m = i at *
  generalize cN b = j at *
  subst e1 e2
  have h := sb_le (i := i) (j := j) (by omega) (by omega)
  unfold cmv
  by_cases c : i = j
  · subst c
    rw [if_pos (h.1.mpr (by omega)), if_pos (h.2.mpr (by omega)), if_pos rfl, z_add]
  · rw [if_neg (q_ne (by omega) (by omega) c)]
    by_cases c2 : j ≤ i
    · rw [if_pos (h.1.mpr c2), if_neg (fun z => absurd (h.2.mp z) (by omega)), if_pos (q_le (by omega) (by omega) c2), sub1]
    · rw [if_neg (fun z => c2 (h.1.mp z)), if_neg (q_nle (by omega) (by omega) (by omega))]
theorem cm_ok {m b : Int32} (om : okN 101 m) (ob : okN 101 b) : okN 101 (cmv m b) := by
  have hm := om.2
  have hb := ob.2
  have e1 := om.1
  have e2 := ob.1
  generalize cN m = i at *
  generalize cN b = j at *
  subst e1 e2
  unfold cmv
  by_cases c : i = j
  · subst c
    rw [if_pos rfl]
    exact okN_nI (by omega) (by omega)
  · rw [if_neg (q_ne (by omega) (by omega) c)]
    by_cases c2 : j ≤ i
    · rw [if_pos (q_le (by omega) (by omega) c2), show (1 : Int32) = nI 1 from rfl, pk_sub (by omega)]
      exact okN_nI (by omega) (by omega)
    · rw [if_neg (q_nle (by omega) (by omega) (by omega)), nI_1]
      exact okN_nI (by omega) (by omega)
theorem OS.tk {P T G Lg : List rw_} (o : OS P T G Lg) : OS (tkP P) T G Lg := by
  have hl := o.1
  refine ⟨by unfold tkP; rw [List.length_map]; exact hl, fun p hp => ?_, o.2.2⟩
  rw [tk_at (by omega)]
  exact ⟨cm_ok (o.2.1 p hp).1 (o.2.1 p hp).2, (o.2.1 p hp).2⟩
theorem c_calm1 {f : Nat → Int32} {x : Nat} (hx : x < 10) : ∃ f' : Nat → Int32, f_X2_calm (nI x) (nI 10) f = some f' ∧ f' (x * 2) = cmv (f (x * 2)) (f (x * 2 + 1)) ∧ ∀ i : Nat, i ≠ x * 2 → f' i = f i := by
  have a0 := p_at (col := 2) (n := 20) (rows := 10) (R := x) (C := 0) (f := f) hx (by omega) (by omega) (by omega) (by omega) (by omega)
  have a0 : f_X3_at (2 : Int32) 20 (nI x) (0 : Int32) (nI 10) f = some (f (x * 2)) := a0
  have a1 := p_at (col := 2) (n := 20) (rows := 10) (R := x) (C := 1) (f := f) hx (by omega) (by omega) (by omega) (by omega) (by omega)
  have a1 : f_X3_at (2 : Int32) 20 (nI x) (1 : Int32) (nI 10) f = some (f (x * 2 + 1)) := a1
  have ap : ∀ v : Int32, f_X3_put (2 : Int32) 20 (nI x) (0 : Int32) v (nI 10) f = some (upd f (x * 2) v) := fun v => by
    have e := p_put (col := 2) (n := 20) (rows := 10) (R := x) (C := 0) (f := f) (v := v) hx (by omega) (by omega) (by omega) (by omega) (by omega)
    exact e
  unfold f_X2_calm cmv
  rw [a0, bd_some, a1, bd_some, ap, ap, bd_some, bd_some]
  by_cases c : f (x * 2) = f (x * 2 + 1)
  · rw [if_pos c]
    exact ⟨f, rfl, by rw [if_pos c], fun i _ => rfl⟩
  · rw [if_neg c]
    by_cases c2 : f (x * 2 + 1) ≤ f (x * 2)
    · rw [if_pos c2]
      exact ⟨_, rfl, by rw [pk_us, if_neg c, if_pos c2], fun i hi => pk_un hi⟩
    · rw [if_neg c2]
      exact ⟨_, rfl, by rw [pk_us, if_neg c, if_neg c2], fun i hi => pk_un hi⟩
theorem c_calmL : ∀ (n x F : Nat) (f : Nat → Int32), n + x = 10 → n < F → ∃ f' : Nat → Int32, f_X2_letPass_L12 (nI 10) F (nI x) f = some f' ∧ (∀ p : Nat, x ≤ p → p < 10 → f' (p * 2) = cmv (f (p * 2)) (f (p * 2 + 1)) ∧ f' (p * 2 + 1) = f (p * 2 + 1)) ∧ ∀ i : Nat, i < x * 2 → f' i = f i
  | _, _, 0, _, _, hF => absurd hF (by omega)
  | 0, x, F + 1, f, h, hF => by
    unfold f_X2_letPass_L12
    rw [if_pos (show (10 : Int32) ≤ nI x from q_le (a := 10) (by omega) (by omega) (by omega))]
    exact ⟨f, rfl, fun p h1 h2 => absurd h1 (by omega), fun i _ => rfl⟩
  | n + 1, x, F + 1, f, h, hF => by
    have ek : nI x + (1 : Int32) = nI (x + 1) := n_at
    obtain ⟨f1, a1, a2, a3⟩ := c_calm1 (f := f) (x := x) (by omega)
    obtain ⟨f2, b1, b2, b3⟩ := c_calmL n (x + 1) F f1 (by omega) (by omega)
    refine ⟨f2, ?_, fun p h1 h2 => ?_, fun i hi => ?_⟩
    · unfold f_X2_letPass_L12
      rw [if_neg (show ¬ (10 : Int32) ≤ nI x from q_nle (a := 10) (by omega) (by omega) (by omega)), a1, bd_some, nm_eq, ek]
      exact b1
    · by_cases e : p = x
      · rw [e, b3 _ (by omega), b3 _ (by omega), a2, a3 _ (by omega)]
        exact ⟨rfl, rfl⟩
      · have := b2 p (by omega) h2
        rw [a3 _ (by omega), a3 _ (by omega)] at this
        exact this
    · rw [b3 _ (by omega), a3 _ (by omega)]
theorem c_calm {rP : Int32} {fP : Nat → Int32} {P : List rw_} (hP : RT 2 rP fP P) (hl : P.length = 10) : ∃ aP : Nat → Int32, f_X2_letPass_L12 rP FU (0 : Int32) fP = some aP ∧ RT 2 rP aP (tkP P) := by
  have er : rP = nI 10 := by rw [hP.1, hl]
  obtain ⟨f', e1, e2, e3⟩ := c_calmL 10 0 FU fP (by omega) (by unfold FU; omega)
  have hlen : (tkP P).length = 10 := by unfold tkP; rw [List.length_map]; exact hl
  refine ⟨f', by rw [er]; exact e1, by rw [hlen, er], fun p j hp hj => ?_⟩
  rw [hlen] at hp
  rw [tk_at (by omega)]
  have h := e2 p (by omega) hp
  have h0 := hP.2 p 0 (by omega) (by omega)
  have h1 := hP.2 p 1 (by omega) (by omega)
  have hj : j = 0 ∨ j = 1 := by omega
  rcases hj with e | e
  · rw [e]
    show f' (p * 2) = cmv (P.getD p z_ 0) (P.getD p z_ 1)
    rw [h.1, ← h0, ← h1]
    rfl
  · rw [e]
    show f' (p * 2 + 1) = P.getD p z_ 1
    rw [h.2, ← h1]
theorem bd8_some {α β γ δ ε ζ η θ κ : Type} {a : α} {b : β} {c : γ} {d : δ} {e : ε} {z : ζ} {h : η} {t : θ} {f : α → β → γ → δ → ε → ζ → η → θ → Option κ} : bd8 (some (a, b, c, d, e, z, h, t)) f = f a b c d e z h t := rfl
def btw (x lo hi : Int32) : Int32 := if x < lo then 0 else if hi < x then 0 else 1
theorem c_btw (x lo hi : Int32) : f_X5_isBetween x lo hi = some (btw x lo hi) := by
  unfold f_X5_isBetween btw
  split
  · rfl
  · split <;> rfl
theorem l_lt (x y : Int32) : x.toInt64 < y.toInt64 ↔ x < y := by
  rw [Int64.lt_iff_toInt_lt, Int32.lt_iff_toInt_lt, Int32.toInt_toInt64, Int32.toInt_toInt64]
theorem bd3_some {α β γ δ : Type} {a : α} {b : β} {c : γ} {f : α → β → γ → Option δ} : bd3 (some (a, b, c)) f = f a b c := rfl
theorem bd4_some {α β γ δ ε : Type} {a : α} {b : β} {c : γ} {d : δ} {f : α → β → γ → δ → Option ε} : bd4 (some (a, b, c, d)) f = f a b c d := rfl
theorem b_nI {x hi : Int32} {n : Nat} (hM : hi.toInt = n) (h : ¬ btw x 0 hi = 0) : ∃ j : Nat, j ≤ n ∧ x = nI j := by
  unfold btw at h
  by_cases h1 : x < 0
  · rw [if_pos h1] at h
    exact absurd rfl h
  · rw [if_neg h1] at h
    by_cases h2 : hi < x
    · rw [if_pos h2] at h
      exact absurd rfl h
    · exact nI_of2 hM h1 (Int32.not_lt.mp h2)
theorem b_per {x : Int32} (h : ¬ btw x 0 9 = 0) : ∃ p : Nat, p < 10 ∧ x = nI p := by
  obtain ⟨j, hj, e⟩ := b_nI (n := 9) (by decide) h
  exact ⟨j, by omega, e⟩
def hs_ (x : Int32) (n : Nat) : Int32 := if x < 0 then 0 else if nI n ≤ x then 0 else 1
theorem c_has (x : Int32) (n : Nat) : f_X3_has x (nI n) = some (hs_ x n) := by
  unfold f_X3_has hs_
  split
  · rfl
  · split <;> rfl
theorem hs_t {x : Int32} {n : Nat} (hn : n < 100000) (h : ¬ hs_ x n = 0) : ∃ t : Nat, t < n ∧ x = nI t := by
  unfold hs_ at h
  rcases pk_ix x (n := n) (by omega) with h1 | h1 | h1
  · rw [if_pos h1] at h
    exact absurd rfl h
  · by_cases h0 : x < 0
    · rw [if_pos h0] at h
      exact absurd rfl h
    · rw [if_neg h0, if_pos h1] at h
      exact absurd rfl h
  · exact h1
theorem c_isPer (x : Int32) : f_X5_isPerson x = some (btw x 0 9) := by
  unfold f_X5_isPerson
  rw [c_btw, bd_some]
def alw (P T G : List rw_) (p t : Nat) (x4 x5 : Int32) : Int32 := if hd T G (10 * t + p) &&& (x4 ||| (4 : Int32)) = x4 ||| (4 : Int32) then (if P.getD p z_ 0 < x5 then 0 else if (40 : Int32) ≤ nI G.length then 0 else 1) else 0
/-- the fault of a grant, of persons and a thing that there are -/
theorem c_fault {rP rT rG rL rH x4 x5 : Int32} {fP fT fG fL fH : Nat → Int32} {P T G Lg : List rw_} {p b t : Nat} (o : OS P T G Lg) (c : CS rP fP rT fT rG fG rL fL rH fH P T G Lg) (hp : p < 10) (hb : b < 10) (ht : t < T.length) : f_X2_faultOfGrant (nI p) (nI b) (nI t) x4 x5 rP fP rT rG rH fH = some (if btw x4 1 7 = 0 then 2 else if btw x5 0 100 = 0 then 2 else if p = b then 2 else if alw P T G p t x4 x5 = 0 then 3 else 0) := by
  have hT := o.2.2.1.2.1
  have hG := o.2.2.1.1
  have bp : ∀ q : Nat, q < 10 → ¬ btw (nI q) 0 9 = 0 := fun q hq => by
    unfold btw
    rw [if_neg (nI_pos (by omega)), if_neg (show ¬ (9 : Int32) < nI q from q_nlt (a := 9) (by omega) (by omega) (by omega))]
    decide
  have bt : ¬ hs_ (nI t) T.length = 0 := by
    unfold hs_
    rw [if_neg (nI_pos (by omega)), if_neg (q_nle (by omega) (by omega) ht)]
    decide
  have er : f_X2_rightsOf (nI p) (nI t) rH fH = some (hd T G (10 * t + p)) := by
    unfold f_X2_rightsOf
    rw [c_hat c.2.1 o.2.2.1.k hp ht, bd_some]
  have ef : f_X3_isFull (40 : Int32) rG = some (if (40 : Int32) ≤ nI G.length then 1 else 0) := by
    unfold f_X3_isFull
    rw [c.2.1.1.1]
    by_cases z : G.length < 40
    · rw [if_pos (show nI G.length < (40 : Int32) from q_lt (b := 40) (by omega) (by omega) z), if_neg (show ¬ (40 : Int32) ≤ nI G.length from q_nle (a := 40) (by omega) (by omega) z)]
    · rw [if_neg (show ¬ nI G.length < (40 : Int32) from q_nlt (b := 40) (by omega) (by omega) (by omega)), if_pos (show (40 : Int32) ≤ nI G.length from q_le (a := 40) (by omega) (by omega) (by omega))]
  have eh : f_X3_has (nI t) rT = some (hs_ (nI t) T.length) := by
    rw [c.2.1.2.1.1]
    exact c_has _ _
  have epb : (nI p = nI b) ↔ p = b := nI_eq (by omega) (by omega)
  unfold f_X2_faultOfGrant alw
  rw [c_isPer, bd_some, if_neg (bp p hp), c_isPer, bd_some, if_neg (bp b hb), eh, bd_some, if_neg bt, c_btw, bd_some, c_btw, bd_some, nm_eq, er, bd_some, c.1.m o.1 hp, bd_some, bd_some, ef, bd_some]
  by_cases c4 : btw x4 1 7 = 0
  · rw [if_pos c4, if_pos c4]
  rw [if_neg c4, if_neg c4]
  by_cases c5 : btw x5 0 100 = 0
  · rw [if_pos c5, if_pos c5]
  rw [if_neg c5, if_neg c5]
  by_cases c6 : p = b
  · rw [if_pos (epb.mpr c6), if_pos c6]
  rw [if_neg (fun z => c6 (epb.mp z)), if_neg c6]
  by_cases c7 : hd T G (10 * t + p) &&& (x4 ||| (4 : Int32)) = x4 ||| (4 : Int32)
  · rw [if_pos c7, if_pos c7]
    by_cases c8 : P.getD p z_ 0 < x5
    · rw [if_pos c8, if_pos c8, if_pos rfl]
    · rw [if_neg c8, if_neg c8]
      by_cases c9 : (40 : Int32) ≤ nI G.length
      · rw [if_pos c9, if_pos c9, if_pos rfl, if_neg (show ¬ (1 : Int32) = 0 by decide)]
      · rw [if_neg c9, if_neg c9, if_pos rfl, if_neg (show ¬ (1 : Int32) = 0 by decide)]
  · rw [if_neg c7, if_neg c7, if_pos rfl]
    split <;> rfl
theorem b_nI2 {x lo hi : Int32} {n : Nat} (hM : hi.toInt = n) (hlo : (0 : Int32) ≤ lo) (h : ¬ btw x lo hi = 0) : ∃ j : Nat, j ≤ n ∧ x = nI j := by
  unfold btw at h
  by_cases h1 : x < lo
  · rw [if_pos h1] at h
    exact absurd rfl h
  · rw [if_neg h1] at h
    by_cases h2 : hi < x
    · rw [if_pos h2] at h
      exact absurd rfl h
    · exact nI_of2 hM (fun z => h1 (Int32.lt_of_lt_of_le z hlo)) (Int32.not_lt.mp h2)
theorem bd5_some {α β γ δ ε ζ : Type} {a : α} {b : β} {c : γ} {d : δ} {e : ε} {f : α → β → γ → δ → ε → Option ζ} : bd5 (some (a, b, c, d, e)) f = f a b c d e := rfl
theorem bd9_some {α β γ δ ε ζ η θ κ μ : Type} {a : α} {b : β} {c : γ} {d : δ} {e : ε} {z : ζ} {h : η} {t : θ} {u : κ} {f : α → β → γ → δ → ε → ζ → η → θ → κ → Option μ} : bd9 (some (a, b, c, d, e, z, h, t, u)) f = f a b c d e z h t u := rfl
theorem alw_lt {P T G : List rw_} {p t : Nat} {x4 x5 : Int32} (hG : G.length ≤ 40) (h : ¬ alw P T G p t x4 x5 = 0) : G.length < 40 := by
  unfold alw at h
  by_cases c1 : hd T G (10 * t + p) &&& (x4 ||| (4 : Int32)) = x4 ||| (4 : Int32)
  · rw [if_pos c1] at h
    by_cases c2 : P.getD p z_ 0 < x5
    · rw [if_pos c2] at h
      exact absurd rfl h
    · rw [if_neg c2] at h
      by_cases c3 : (40 : Int32) ≤ nI G.length
      · rw [if_pos c3] at h
        exact absurd rfl h
      · by_cases z : G.length < 40
        · exact z
        · exact absurd (show (40 : Int32) ≤ nI G.length from q_le (a := 40) (by omega) (by omega) (by omega)) c3
  · rw [if_neg c1] at h
    exact absurd rfl h
theorem bd14_some {α0 α1 α2 α3 α4 α5 α6 α7 α8 α9 α10 α11 α12 α13 γ : Type} {a0 : α0} {a1 : α1} {a2 : α2} {a3 : α3} {a4 : α4} {a5 : α5} {a6 : α6} {a7 : α7} {a8 : α8} {a9 : α9} {a10 : α10} {a11 : α11} {a12 : α12} {a13 : α13} {f : α0 → α1 → α2 → α3 → α4 → α5 → α6 → α7 → α8 → α9 → α10 → α11 → α12 → α13 → Option γ} : bd14 (some (a0, a1, a2, a3, a4, a5, a6, a7, a8, a9, a10, a11, a12, a13)) f = f a0 a1 a2 a3 a4 a5 a6 a7 a8 a9 a10 a11 a12 a13 := rfl
abbrev AS : Type := List rw_ × List rw_ × List rw_ × List rw_ × Int32 × Int32 × Int32 × Int32
def OSs (s : AS) : Prop := OS s.1 s.2.1 s.2.2.1 s.2.2.2.1
def CSs (q : HS) (s : AS) : Prop := CS q.1 q.2.1 q.2.2.1 q.2.2.2.1 q.2.2.2.2.1 q.2.2.2.2.2.1 q.2.2.2.2.2.2.1 q.2.2.2.2.2.2.2.1 q.2.2.2.2.2.2.2.2.1 q.2.2.2.2.2.2.2.2.2.1 s.1 s.2.1 s.2.2.1 s.2.2.2.1 ∧ q.2.2.2.2.2.2.2.2.2.2.1 = s.2.2.2.2.1 ∧ q.2.2.2.2.2.2.2.2.2.2.2.1 = s.2.2.2.2.2.1 ∧ q.2.2.2.2.2.2.2.2.2.2.2.2.1 = s.2.2.2.2.2.2.1 ∧ q.2.2.2.2.2.2.2.2.2.2.2.2.2 = s.2.2.2.2.2.2.2
theorem c_overs {q : HS} {rP rT rG rL rH gi di re ti : Int32} {fP fT fG fL fH : Nat → Int32} {s : AS} (o : OSs s) (c : CSs (rP, fP, rT, fT, rG, fG, rL, fL, rH, fH, gi, di, re, ti) s) : ∃ q' : HS, f_X2_takeOver q.1 q.2.1 q.2.2.1 q.2.2.2.1 q.2.2.2.2.1 q.2.2.2.2.2.1 q.2.2.2.2.2.2.1 q.2.2.2.2.2.2.2.1 q.2.2.2.2.2.2.2.2.1 q.2.2.2.2.2.2.2.2.2.1 q.2.2.2.2.2.2.2.2.2.2.1 q.2.2.2.2.2.2.2.2.2.2.2.1 q.2.2.2.2.2.2.2.2.2.2.2.2.1 q.2.2.2.2.2.2.2.2.2.2.2.2.2 rP fP rT fT rG fG rL fL rH fH gi di re ti = some q' ∧ CSs q' s := by
  obtain ⟨aP, aT, aG, aL, aH, e1, e2⟩ := c_over (rP := q.1) (fP := q.2.1) (rT := q.2.2.1) (fT := q.2.2.2.1) (rG := q.2.2.2.2.1) (fG := q.2.2.2.2.2.1) (rL := q.2.2.2.2.2.2.1) (fL := q.2.2.2.2.2.2.2.1) (rH := q.2.2.2.2.2.2.2.2.1) (fH := q.2.2.2.2.2.2.2.2.2.1) (gi := q.2.2.2.2.2.2.2.2.2.2.1) (di := q.2.2.2.2.2.2.2.2.2.2.2.1) (re := q.2.2.2.2.2.2.2.2.2.2.2.2.1) (ti := q.2.2.2.2.2.2.2.2.2.2.2.2.2) (gi2 := gi) (di2 := di) (re2 := re) (ti2 := ti) o c.1
  exact ⟨_, e1, e2, c.2⟩
theorem bd14_mk {α0 α1 α2 α3 α4 α5 α6 α7 α8 α9 α10 α11 α12 α13 γ : Type} {x : α0 × α1 × α2 × α3 × α4 × α5 × α6 × α7 × α8 × α9 × α10 × α11 × α12 × α13} {f : α0 → α1 → α2 → α3 → α4 → α5 → α6 → α7 → α8 → α9 → α10 → α11 → α12 → α13 → Option γ} : bd14 (some x) f = f x.1 x.2.1 x.2.2.1 x.2.2.2.1 x.2.2.2.2.1 x.2.2.2.2.2.1 x.2.2.2.2.2.2.1 x.2.2.2.2.2.2.2.1 x.2.2.2.2.2.2.2.2.1 x.2.2.2.2.2.2.2.2.2.1 x.2.2.2.2.2.2.2.2.2.2.1 x.2.2.2.2.2.2.2.2.2.2.2.1 x.2.2.2.2.2.2.2.2.2.2.2.2.1 x.2.2.2.2.2.2.2.2.2.2.2.2.2 := rfl
theorem hk_putS {Q : Nat → HS} {cn' rP rT rG rL rH gi di re ti : Int32} {ro' j : Nat} {fP fT fG fL fH : Nat → Int32} {s : AS} (o : OSs s) (c : CSs (rP, fP, rT, fT, rG, fG, rL, fL, rH, fH, gi, di, re, ti) s) : ∃ q' : HS, hk_put cn' ro' j Q rP fP rT fT rG fG rL fL rH fH gi di re ti = some (cn', ro', fun i => if i = j then q' else Q i) ∧ CSs q' s := by
  obtain ⟨q', e1, e2⟩ := c_overs (q := Q j) o c
  refine ⟨q', ?_, e2⟩
  unfold hk_put
  rw [e1, bd14_mk]
theorem keep_eq {Q : Nat → HS} {rP rT rG rL rH gi di re ti : Int32} {m ro : Nat} {fP fT fG fL fH : Nat → Int32} (hm : m ≤ 4) (hr : ro < 4) : f_X1_keep (nI m) ro Q rP fP rT fT rG fG rL fL rH fH gi di re ti = if m < 4 then hk_put (nI (m + 1)) ro ((m + ro) % 4) Q rP fP rT fT rG fG rL fL rH fH gi di re ti else hk_put 4 ((ro + 1) % 4) ro Q rP fP rT fT rG fG rL fL rH fH gi di re ti := by
  have hm : m = 0 ∨ m = 1 ∨ m = 2 ∨ m = 3 ∨ m = 4 := by omega
  unfold f_X1_keep
  rw [if_neg (show ¬ 4 ≤ ro by omega)]
  rcases hm with e | e | e | e | e
  · subst e
    rw [if_pos (show nI 0 = (0 : Int32) from rfl), if_pos (show 0 < 4 by omega)]
    rfl
  · subst e
    rw [if_neg (show ¬ nI 1 = (0 : Int32) by decide), if_pos (show nI 1 = (1 : Int32) from rfl), if_pos (show 1 < 4 by omega)]
    rfl
  · subst e
    rw [if_neg (show ¬ nI 2 = (0 : Int32) by decide), if_neg (show ¬ nI 2 = (1 : Int32) by decide), if_pos (show nI 2 = (2 : Int32) from rfl), if_pos (show 2 < 4 by omega)]
    rfl
  · subst e
    rw [if_neg (show ¬ nI 3 = (0 : Int32) by decide), if_neg (show ¬ nI 3 = (1 : Int32) by decide), if_neg (show ¬ nI 3 = (2 : Int32) by decide), if_pos (show nI 3 = (3 : Int32) from rfl), if_pos (show 3 < 4 by omega)]
    rfl
  · subst e
    rw [if_neg (show ¬ nI 4 = (0 : Int32) by decide), if_neg (show ¬ nI 4 = (1 : Int32) by decide), if_neg (show ¬ nI 4 = (2 : Int32) by decide), if_neg (show ¬ nI 4 = (3 : Int32) by decide), if_pos (show nI 4 = (4 : Int32) from rfl), if_neg (show ¬ 4 < 4 by omega)]
theorem bd11_some {α0 α1 α2 α3 α4 α5 α6 α7 α8 α9 α10 γ : Type} {a0 : α0} {a1 : α1} {a2 : α2} {a3 : α3} {a4 : α4} {a5 : α5} {a6 : α6} {a7 : α7} {a8 : α8} {a9 : α9} {a10 : α10} {f : α0 → α1 → α2 → α3 → α4 → α5 → α6 → α7 → α8 → α9 → α10 → Option γ} : bd11 (some (a0, a1, a2, a3, a4, a5, a6, a7, a8, a9, a10)) f = f a0 a1 a2 a3 a4 a5 a6 a7 a8 a9 a10 := rfl
theorem bd15_some {α0 α1 α2 α3 α4 α5 α6 α7 α8 α9 α10 α11 α12 α13 α14 γ : Type} {a0 : α0} {a1 : α1} {a2 : α2} {a3 : α3} {a4 : α4} {a5 : α5} {a6 : α6} {a7 : α7} {a8 : α8} {a9 : α9} {a10 : α10} {a11 : α11} {a12 : α12} {a13 : α13} {a14 : α14} {f : α0 → α1 → α2 → α3 → α4 → α5 → α6 → α7 → α8 → α9 → α10 → α11 → α12 → α13 → α14 → Option γ} : bd15 (some (a0, a1, a2, a3, a4, a5, a6, a7, a8, a9, a10, a11, a12, a13, a14)) f = f a0 a1 a2 a3 a4 a5 a6 a7 a8 a9 a10 a11 a12 a13 a14 := rfl
theorem bd7_some {α0 α1 α2 α3 α4 α5 α6 γ : Type} {a0 : α0} {a1 : α1} {a2 : α2} {a3 : α3} {a4 : α4} {a5 : α5} {a6 : α6} {f : α0 → α1 → α2 → α3 → α4 → α5 → α6 → Option γ} : bd7 (some (a0, a1, a2, a3, a4, a5, a6)) f = f a0 a1 a2 a3 a4 a5 a6 := rfl
theorem bx_l {α β γ : Type} {a : α} {kx : α → Option γ} {k : β → Option γ} : bx (some (.inl a)) kx k = kx a := rfl
theorem bx_r {α β γ : Type} {b : β} {kx : α → Option γ} {k : β → Option γ} : bx (some (.inr b)) kx k = k b := rfl
theorem s_ai : ¬ "java/lang/IllegalArgumentException" = "java/lang/IndexOutOfBoundsException" := by decide
theorem s_si : ¬ "java/lang/IllegalStateException" = "java/lang/IndexOutOfBoundsException" := by decide
theorem s_sa : ¬ "java/lang/IllegalStateException" = "java/lang/IllegalArgumentException" := by decide
theorem s_an : ¬ "java/lang/IllegalArgumentException" = "java/util/NoSuchElementException" := by decide
theorem c_reqP (x : Int32) : f_X5_requirePerson x = if btw x 0 9 = 0 then some (.inl "java/lang/IndexOutOfBoundsException") else some (.inr ()) := by
  unfold f_X5_requirePerson
  rw [c_isPer, bd_some]
theorem c_reqR (x lo hi : Int32) : f_X5_requireRange x lo hi = if btw x lo hi = 0 then some (.inl "java/lang/IllegalArgumentException") else some (.inr ()) := by
  unfold f_X5_requireRange
  rw [c_btw, bd_some]
theorem c_reqM (x : Int32) : f_X5_requireMask x = if btw x 0 7 = 0 then some (.inl "java/lang/IllegalArgumentException") else some (.inr ()) := by
  unfold f_X5_requireMask
  rw [c_reqR]
  split <;> rfl
theorem c_reqT {rT : Int32} {fT : Nat → Int32} {T : List rw_} (x : Int32) (h : RT 2 rT fT T) : f_X5_requireThing x rT = if hs_ x T.length = 0 then some (.inl "java/lang/IndexOutOfBoundsException") else some (.inr ()) := by
  unfold f_X5_requireThing
  rw [h.1, c_has, bd_some]
theorem n10 : ¬ (1 : Int32) = 0 := by decide
theorem o_set {γ : Type} {fo : Nat → Int64} {v : Int64} {k : (Nat → Int64) → Option γ} : ix (0 : Int32) 1 (nm (vp_updL fo (0 : Int32).toNatClampNeg v) k) = k (vp_updL fo 0 v) := by
  rw [ixo _ (by decide), nm_eq]
  rfl
theorem o_at {fo : Nat → Int64} {v : Int64} : (0 : Int32) = 0 → vp_updL fo 0 v 0 = v := fun _ => pk_uLs
theorem o_no {fo : Nat → Int64} {v : Int64} {k : Int32} (h : ¬ k = 0) : k = 0 → fo 0 = v := fun z => absurd z h
theorem n20 : ¬ (2 : Int32) = 0 := by decide
theorem n30 : ¬ (3 : Int32) = 0 := by decide
theorem bd15_mk {α0 α1 α2 α3 α4 α5 α6 α7 α8 α9 α10 α11 α12 α13 α14 γ : Type} {x : α0 × α1 × α2 × α3 × α4 × α5 × α6 × α7 × α8 × α9 × α10 × α11 × α12 × α13 × α14} {f : α0 → α1 → α2 → α3 → α4 → α5 → α6 → α7 → α8 → α9 → α10 → α11 → α12 → α13 → α14 → Option γ} : bd15 (some x) f = f x.1 x.2.1 x.2.2.1 x.2.2.2.1 x.2.2.2.2.1 x.2.2.2.2.2.1 x.2.2.2.2.2.2.1 x.2.2.2.2.2.2.2.1 x.2.2.2.2.2.2.2.2.1 x.2.2.2.2.2.2.2.2.2.1 x.2.2.2.2.2.2.2.2.2.2.1 x.2.2.2.2.2.2.2.2.2.2.2.1 x.2.2.2.2.2.2.2.2.2.2.2.2.1 x.2.2.2.2.2.2.2.2.2.2.2.2.2.1 x.2.2.2.2.2.2.2.2.2.2.2.2.2.2 := rfl
theorem clv_0 {m : Int32} (h : okN 101 m) : clv (m + (-100)) = 0 := by
  have hm := h.2
  have e := h.1
  have hS : ∀ k : Fin 101, clv (nI k + (-100)) = 0 := by decide +kernel
  rw [e]
  exact hS ⟨cN m, hm⟩
theorem c_fit (x : Int32) : f_X5_requireFit x = if x = 1 then some (.inl "java/lang/IndexOutOfBoundsException") else if x = 2 then some (.inl "java/lang/IllegalArgumentException") else some (.inr ()) := rfl
theorem OS.setT {P T G Lg : List rw_} {t j : Nat} {v : Int32} (o : OS P T G Lg) (ht : t < T.length) (h : okT (upd (T.getD t z_) j v)) : OS P (T.set t (upd (T.getD t z_) j v)) G Lg := ⟨o.1, o.2.1, o.2.2.1.setT ht h, o.2.2.2⟩
def sPb (P : List rw_) (p : Nat) (v : Int32) : List rw_ := P.set p (upd (P.getD p z_) 1 v)
theorem sPb_at {P : List rw_} {p i : Nat} {v : Int32} (hp : p < P.length) : (sPb P p v).getD i z_ 1 = (if i = p then v else P.getD i z_ 1) ∧ (sPb P p v).getD i z_ 0 = P.getD i z_ 0 := by
  unfold sPb
  by_cases e : i = p
  · rw [e, gd_set hp, if_pos rfl, pk_us, pk_un (by omega)]
    exact ⟨rfl, rfl⟩
  · rw [gd_setn e, if_neg e]
    exact ⟨rfl, rfl⟩
theorem OS.sB {P T G Lg : List rw_} {p : Nat} {v : Int32} (o : OS P T G Lg) (hp : p < 10) (hv : okN 101 v) : OS (sPb P p v) T G Lg := by
  have hl := o.1
  refine ⟨by unfold sPb; rw [List.length_set]; exact hl, fun i hi => ?_, o.2.2⟩
  have h := sPb_at (i := i) (v := v) (show p < P.length by omega)
  rw [h.1, h.2]
  refine ⟨(o.2.1 i hi).1, ?_⟩
  split
  · exact hv
  · exact (o.2.1 i hi).2
theorem ok8 {x : Int32} (h : ¬ btw x 0 7 = 0) : okN 8 x := by
  obtain ⟨j, hj, e⟩ := b_nI (n := 7) (by decide) h
  rw [e]
  exact okN_nI (by omega) (by omega)
theorem ok101 {x : Int32} (h : ¬ btw x 0 100 = 0) : okN 101 x := by
  obtain ⟨j, hj, e⟩ := b_nI (n := 100) (by decide) h
  rw [e]
  exact okN_nI (by omega) (by omega)
def e_ok (d : FP.Core.Datum) : Prop := match d with
  | .nan => False
  | .inf _ => True
  | .fin _ c q => c < 2 ^ 53 ∧ -1074 ≤ q ∧ q ≤ 971
theorem e_asm (s : Bool) (e t : Nat) (he : e < 2048) (ht : t < 2 ^ 52) : FP.Core.assemble FP.Core.b64 s e t % 2 ^ 63 = e * 2 ^ 52 + t := by
  have h1 : FP.Core.b64.exps = 2048 := by decide
  have h2 : FP.Core.b64.tails = 2 ^ 52 := by decide
  unfold FP.Core.assemble
  rw [h1, h2]
  cases s
  · show ((0 * 2048 + e) * 2 ^ 52 + t) % 2 ^ 63 = e * 2 ^ 52 + t
    omega
  · show ((1 * 2048 + e) * 2 ^ 52 + t) % 2 ^ 63 = e * 2 ^ 52 + t
    omega
theorem e_enc {d : FP.Core.Datum} (h : e_ok d) : FP.Core.encode FP.Core.b64 d % 2 ^ 63 ≤ 9218868437227405312 := by
  have h1 : FP.Core.b64.exps = 2048 := by decide
  have h2 : FP.Core.b64.tails = 2 ^ 52 := by decide
  have h3 : FP.Core.b64.qmin = -1074 := by decide
  cases d with
  | nan => exact absurd h (fun z => z)
  | inf s =>
    unfold FP.Core.encode
    rw [h1, e_asm s 2047 0 (by omega) (by omega)]
    omega
  | fin s c q =>
    obtain ⟨k1, k2, k3⟩ := h
    show (if c < FP.Core.b64.tails then FP.Core.assemble FP.Core.b64 s 0 c else FP.Core.assemble FP.Core.b64 s ((q - FP.Core.b64.qmin).toNat + 1) (c - FP.Core.b64.tails)) % 2 ^ 63 ≤ 9218868437227405312
    rw [h2, h3]
    by_cases hc : c < 2 ^ 52
    · rw [if_pos hc, e_asm s 0 c (by omega) hc]
      omega
    · have hq : (q - -1074).toNat + 1 < 2047 := by omega
      rw [if_neg hc, e_asm s _ _ (by omega) (by omega)]
      generalize (q - -1074).toNat + 1 = e at *
      omega
theorem e_bound (s : Bool) (c : Nat) (q : Int) (hc : c < 2 ^ 53) (hq : -1074 ≤ q) : e_ok (FP.Core.bound FP.Core.b64 s c q) := by
  have h4 : FP.Core.b64.qmax = 971 := by decide
  unfold FP.Core.bound
  rw [h4]
  split
  · rename_i hh
    exact ⟨hc, hq, hh⟩
  · trivial
theorem e_round (s : Bool) (num den : Nat) (e : Int) : e_ok (FP.Core.roundRatio FP.Core.b64 s num den e) := by
  have h2 : FP.Core.b64.tails = 2 ^ 52 := by decide
  have h3 : FP.Core.b64.qmin = -1074 := by decide
  have h5 : FP.Core.b64.p = 53 := by decide
  unfold FP.Core.roundRatio
  split
  · rw [h3]
    exact ⟨by omega, by omega, by omega⟩
  · have hq : -1074 ≤ FP.Core.quantum FP.Core.b64 num den e := by
      unfold FP.Core.quantum
      rw [h3]
      omega
    generalize FP.Core.quantum FP.Core.b64 num den e = q at *
    unfold FP.Core.roundAt FP.Core.settle
    rw [h2, h5]
    split
    · rename_i hh
      exact e_bound s _ q hh hq
    · exact e_bound s _ (q + 1) (by omega) (by omega)
def isF (d : FP.Core.Datum) (i : Nat) : Bool := match d with
  | .fin _ c _ => decide (¬ c = 0 ∨ i = 0)
  | _ => false
theorem dec_i2d : ∀ i : Fin 1000, isF (FP.Core.decode FP.Core.b64 (FP.i2d (nI i)).toNat) i = true := by decide +kernel
theorem nz_ok {γ : Type} {S M : Nat} {k : Option γ} (hS : S < 1000) (hM : M < 1000) (h0 : 0 < M) : nz (FP.ddiv (FP.i2d (nI S)) (FP.i2d (nI M))) k = k := by
  have d1 : isF (FP.Core.decode FP.Core.b64 (FP.i2d (nI S)).toNat) S = true := dec_i2d ⟨S, hS⟩
  have d2 : isF (FP.Core.decode FP.Core.b64 (FP.i2d (nI M)).toNat) M = true := dec_i2d ⟨M, hM⟩
  have hq : e_ok (FP.Core.quotient FP.Core.b64 (FP.Core.decode FP.Core.b64 (FP.i2d (nI S)).toNat) (FP.Core.decode FP.Core.b64 (FP.i2d (nI M)).toNat)) := by
    generalize FP.Core.decode FP.Core.b64 (FP.i2d (nI S)).toNat = x at *
    generalize FP.Core.decode FP.Core.b64 (FP.i2d (nI M)).toNat = y at *
    cases x with
    | nan => exact absurd (show false = true from d1) (by decide)
    | inf s => exact absurd (show false = true from d1) (by decide)
    | fin s c q =>
      cases y with
      | nan => exact absurd (show false = true from d2) (by decide)
      | inf s => exact absurd (show false = true from d2) (by decide)
      | fin t d r =>
        have hd : ¬ d = 0 ∨ M = 0 := of_decide_eq_true d2
        have hd : ¬ d = 0 := by
          rcases hd with z | z
          · exact z
          · omega
        unfold FP.Core.quotient
        show e_ok (if d = 0 then _ else _)
        rw [if_neg hd]
        exact e_round _ _ _ _
  have he := e_enc hq
  have hn : (FP.ddiv (FP.i2d (nI S)) (FP.i2d (nI M))).toNat = FP.Core.div FP.Core.b64 (FP.i2d (nI S)).toNat (FP.i2d (nI M)).toNat % 2 ^ 64 := UInt64.toNat_ofNat'
  have hb : FP.ddiv (FP.i2d (nI S)) (FP.i2d (nI M)) &&& 0x7fffffffffffffff ≤ 0x7ff0000000000000 := by
    rw [UInt64.le_iff_toNat_le, UInt64.toNat_and, hn]
    show _ &&& (2 ^ 63 - 1) ≤ 9218868437227405312
    rw [Nat.and_two_pow_sub_one_eq_mod]
    have he : FP.Core.div FP.Core.b64 (FP.i2d (nI S)).toNat (FP.i2d (nI M)).toNat % 2 ^ 63 ≤ 9218868437227405312 := he
    generalize FP.Core.div FP.Core.b64 (FP.i2d (nI S)).toNat (FP.i2d (nI M)).toNat = n at *
    omega
  unfold nz
  rw [if_pos hb]
theorem bd12_some {α0 α1 α2 α3 α4 α5 α6 α7 α8 α9 α10 α11 γ : Type} {a0 : α0} {a1 : α1} {a2 : α2} {a3 : α3} {a4 : α4} {a5 : α5} {a6 : α6} {a7 : α7} {a8 : α8} {a9 : α9} {a10 : α10} {a11 : α11} {f : α0 → α1 → α2 → α3 → α4 → α5 → α6 → α7 → α8 → α9 → α10 → α11 → Option γ} : bd12 (some (a0, a1, a2, a3, a4, a5, a6, a7, a8, a9, a10, a11)) f = f a0 a1 a2 a3 a4 a5 a6 a7 a8 a9 a10 a11 := rfl
theorem bd13_some {α0 α1 α2 α3 α4 α5 α6 α7 α8 α9 α10 α11 α12 γ : Type} {a0 : α0} {a1 : α1} {a2 : α2} {a3 : α3} {a4 : α4} {a5 : α5} {a6 : α6} {a7 : α7} {a8 : α8} {a9 : α9} {a10 : α10} {a11 : α11} {a12 : α12} {f : α0 → α1 → α2 → α3 → α4 → α5 → α6 → α7 → α8 → α9 → α10 → α11 → α12 → Option γ} : bd13 (some (a0, a1, a2, a3, a4, a5, a6, a7, a8, a9, a10, a11, a12)) f = f a0 a1 a2 a3 a4 a5 a6 a7 a8 a9 a10 a11 a12 := rfl
theorem i_house : ∀ (d x F : Nat) (fP : Nat → Int32), d + x = 10 → d < F → (∀ k : Nat, k < 2 * x → fP k = 60) → ∃ fP' : Nat → Int32, f_X2_init_L78 F (nI x) (nI x) fP = some (nI 10, fP') ∧ ∀ k : Nat, k < 20 → fP' k = 60
  | _, _, 0, _, _, hF, _ => absurd hF (by omega)
  | 0, x, F + 1, fP, h, hF, hk => by
    have hx : x = 10 := by omega
    subst hx
    refine ⟨fP, ?_, fun k hk' => hk k (by omega)⟩
    unfold f_X2_init_L78
    rw [if_pos (show (10 : Int32) ≤ nI 10 by decide)]
  | d + 1, x, F + 1, fP, h, hF, hk => by
    have p1 : f_X3_put (2 : Int32) 20 (nI x) (0 : Int32) (60 : Int32) (nI (x + 1)) fP = some (upd fP (x * 2 + 0) 60) := p_put (col := 2) (n := 20) (R := x) (C := 0) (rows := x + 1) (by omega) (by omega) (by omega) (by omega) (by omega) (by omega)
    have p2 : f_X3_put (2 : Int32) 20 (nI x) (1 : Int32) (60 : Int32) (nI (x + 1)) (upd fP (x * 2 + 0) 60) = some (upd (upd fP (x * 2 + 0) 60) (x * 2 + 1) 60) := p_put (col := 2) (n := 20) (R := x) (C := 1) (rows := x + 1) (by omega) (by omega) (by omega) (by omega) (by omega) (by omega)
    have p0 : f_X3_addRow (10 : Int32) (nI x) = some (nI x, nI (x + 1)) := p_add (n := x) (lim := 10) (by omega) (by omega)
    obtain ⟨fP', e1, e2⟩ := i_house d (x + 1) F (upd (upd fP (x * 2 + 0) 60) (x * 2 + 1) 60) (by omega) (by omega) (fun k hk' => by
      by_cases c1 : k = x * 2 + 1
      · rw [c1, pk_us]
      · rw [pk_un c1]
        by_cases c2 : k = x * 2 + 0
        · rw [c2, pk_us]
        · rw [pk_un c2]
          exact hk k (by omega))
    refine ⟨fP', ?_, e2⟩
    have ek : nI x + (1 : Int32) = nI (x + 1) := n_at
    unfold f_X2_init_L78
    rw [if_neg (show ¬ (10 : Int32) ≤ nI x from q_nle (a := 10) (by omega) (by omega) (by omega)), p0, bd2_some, p1, bd_some, p2, bd_some, nm_eq, ek]
    exact e1
theorem i_house0 : ∃ fP' : Nat → Int32, f_X2_init = some ((10 : Int32), fP') ∧ ∀ k : Nat, k < 20 → fP' k = 60 := by
  obtain ⟨fP', e1, e2⟩ := i_house 10 0 FU (fun _ => 0) (by omega) (by unfold FU; omega) (fun k hk => absurd hk (by omega))
  refine ⟨fP', ?_, e2⟩
  have e1 : f_X2_init_L78 FU (0 : Int32) (0 : Int32) (fun _ : Nat => (0 : Int32)) = some ((10 : Int32), fP') := e1
  unfold f_X2_init
  rw [e1, bd2_some]
theorem i_steps : f_X0_init = some (1 : Int32) := by
  have p0 : f_X3_addRow (1 : Int32) (0 : Int32) = some ((0 : Int32), (1 : Int32)) := p_add (n := 0) (lim := 1) (by omega) (by omega)
  unfold f_X0_init
  rw [p0, bd2_some]
theorem rep_getD {n k : Nat} {a : rw_} (h : k < n) : (List.replicate n a).getD k z_ = a := by
  rw [List.getD_eq_getElem?_getD, List.getElem?_replicate, if_pos h]
  rfl
