/-! ===== PURE: moods that change ===== -/
def clv (v : Int32) : Int32 := if (0 : Int32) ≤ v then (if v ≤ (100 : Int32) then v else 100) else 0
theorem clv_c (v : Int32) : (if (0 : Int32) < (if v < (100 : Int32) then v else (100 : Int32)) then (if v < (100 : Int32) then v else (100 : Int32)) else (0 : Int32)) = clv v := by
  have h0 : (0 : Int32).toInt = 0 := by decide
  have h100 : (100 : Int32).toInt = 100 := by decide
  unfold clv
  by_cases a : (0 : Int32) ≤ v
  · rw [if_pos a]
    by_cases b : v < (100 : Int32)
    · rw [if_pos b, if_pos (Int32.le_of_lt b)]
      by_cases c : (0 : Int32) < v
      · rw [if_pos c]
      · rw [if_neg c]
        exact Int32.le_antisymm a (Int32.not_lt.mp c)
    · rw [if_neg b, if_pos (show (0 : Int32) < 100 by decide)]
      by_cases c : v ≤ (100 : Int32)
      · rw [if_pos c]
        exact Int32.le_antisymm (Int32.not_lt.mp b) c
      · rw [if_neg c]
  · have a' := Int32.not_le.mp a
    have b : v < (100 : Int32) := Int32.lt_trans a' (by decide)
    rw [if_neg a, if_pos b, if_neg (fun z => a (Int32.le_of_lt z))]
theorem clv_ok (v : Int32) : okN 101 (clv v) := by
  have k : ∀ x : Int32, (0 : Int32) ≤ x → x ≤ (100 : Int32) → okN 101 x := by
    intro x h1 h2
    obtain ⟨j, hj, e⟩ := nI_of2 (M := 100) (n := 100) (by decide) (Int32.not_lt.mpr h1) h2
    rw [e]
    exact okN_nI (by omega) (by omega)
  unfold clv
  split
  · split
    · rename_i a b
      exact k v a b
    · exact k 100 (by decide) (by decide)
  · exact k 0 (by decide) (by decide)
def sPm (P : List rw_) (p : Nat) (v : Int32) : List rw_ := P.set p (upd (P.getD p z_) 0 v)
theorem sPm_at {P : List rw_} {p i : Nat} {v : Int32} (hp : p < P.length) : (sPm P p v).getD i z_ 0 = (if i = p then v else P.getD i z_ 0) ∧ (sPm P p v).getD i z_ 1 = P.getD i z_ 1 := by
  unfold sPm
  by_cases e : i = p
  · rw [e, gd_set hp, if_pos rfl, pk_us, pk_un (by omega)]
    exact ⟨rfl, rfl⟩
  · rw [gd_setn e, if_neg e]
    exact ⟨rfl, rfl⟩
theorem OS.sP {P T G Lg : List rw_} {p : Nat} {v : Int32} (o : OS P T G Lg) (hp : p < 10) (hv : okN 101 v) : OS (sPm P p v) T G Lg := by
  have hl := o.1
  refine ⟨by unfold sPm; rw [List.length_set]; exact hl, fun i hi => ?_, o.2.2⟩
  have h := sPm_at (i := i) (v := v) (show p < P.length by omega)
  rw [h.1, h.2]
  refine ⟨?_, (o.2.1 i hi).2⟩
  split
  · exact hv
  · exact (o.2.1 i hi).1
theorem MS.sP {al : Nat → Int32} {P T G Lg : List rw_} {gi di re ti v : Int32} {p : Nat} (o : OS P T G Lg) (m : MS al P T G Lg gi di re ti) (hp : p < 10) : MS (upd al (8 + p) v) (sPm P p v) T G Lg gi di re ti := by
  have hl := o.1
  refine ⟨fun i hi => ?_, m.2.1.c o.2.2.1.2.1 (pk_un (by omega)) (fun i h1 h2 => pk_un (by omega)), m.2.2.1.c o.2.2.1.1 (pk_un (by omega)) (fun i h1 h2 => pk_un (by omega)), m.2.2.2.1.c o.2.2.2 (pk_un (by omega)) (fun i h1 h2 => pk_un (by omega)), m.2.2.2.2.c (fun i hi => pk_un (by omega))⟩
  have h := sPm_at (i := i) (v := v) (show p < P.length by omega)
  rw [h.1, h.2]
  refine ⟨?_, by rw [pk_un (by omega)]; exact (m.1 i hi).2⟩
  by_cases e : i = p
  · rw [if_pos e, e, pk_us]
  · rw [if_neg e, pk_un (by omega)]
    exact (m.1 i hi).1
theorem OS.die {P T G Lg : List rw_} {ti : Int32} (o : OS P T G Lg) : OS P T (kept P G) (bur P ti G Lg) := ⟨o.1, o.2.1, o.2.2.1.kept P, bur_len _ _ o.2.2.2⟩
theorem c_mood {rP rT rG rL rH di ti a : Int32} {fP fT fG fL fH : Nat → Int32} {P T G Lg : List rw_} {p : Nat} (o : OS P T G Lg) (c : CS rP fP rT fT rG fG rL fL rH fH P T G Lg) (hp : p < 10) : ∃ (v rG' rL' : Int32) (aP aG aL aH : Nat → Int32), v = clv (P.getD p z_ 0 + a) ∧ f_X2_changeMood (nI p) a rP fP rT fT rG fG rL fL rH fH di ti = some (v, aP, rG', aG, rL', aL, aH, di + nI (ndy (sPm P p v) G)) ∧ CS rP aP rT fT rG' aG rL' aL rH aH (sPm P p v) T (kept (sPm P p v) G) (bur (sPm P p v) ti G Lg) := by
  have hl := o.1
  have e1 := c.1.put (lim := 10) (n := 20) (R := p) (C := 0) (v := clv (P.getD p z_ 0 + a)) (by omega) (by omega) (by omega) (by omega) (by omega) (by omega) (by omega)
  have e2 : f_X3_put (2 : Int32) 20 (nI p) (0 : Int32) (clv (P.getD p z_ 0 + a)) rP fP = some (upd fP (p * 2 + 0) (clv (P.getD p z_ 0 + a))) := e1.1
  have hP2 : RT 2 rP (upd fP (p * 2 + 0) (clv (P.getD p z_ 0 + a))) (sPm P p (clv (P.getD p z_ 0 + a))) := e1.2
  have o2 := o.sP hp (clv_ok (P.getD p z_ 0 + a))
  obtain ⟨aG, aL, b1, b2, b3⟩ := c_bury (ti := ti) (di := di) (rT := rT) (rH := rH) (fT := fT) (fH := fH) hP2 o2.1 c.2.1.1 o2.2.2.1 c.2.2 o2.2.2.2
  by_cases hd0 : ndy (sPm P p (clv (P.getD p z_ 0 + a))) G = 0
  · refine ⟨_, nI (kept (sPm P p (clv (P.getD p z_ 0 + a))) G).length, _, _, aG, aL, fH, rfl, ?_, hP2, ?_, b3⟩
    · unfold f_X2_changeMood
      rw [c.1.m hl hp, bd_some, nm_eq, clv_c, nm_eq, e2, bd_some, b1, bd6_some, hd0, if_pos (show nI 0 ≤ (0 : Int32) by decide)]
    · rw [kept_id G hd0] at b2 ⊢
      exact ⟨b2, c.2.1.2.1, c.2.1.2.2.1, c.2.1.2.2.2⟩
  · have hk := kept_len (P := sPm P p (clv (P.getD p z_ 0 + a))) G
    have := o.2.2.1.1
    obtain ⟨aH, s1, s2⟩ := CS.settle (fH := fH) (rH := rH) hP2 c.2.1.2.1 b2 b3 c.2.1.2.2.1 (o2.2.2.1.kept _)
    refine ⟨_, _, _, _, aG, aL, aH, rfl, ?_, s2⟩
    unfold f_X2_changeMood
    rw [c.1.m hl hp, bd_some, nm_eq, clv_c, nm_eq, e2, bd_some, b1, bd6_some, if_neg (show ¬ nI (ndy (sPm P p (clv (P.getD p z_ 0 + a))) G) ≤ (0 : Int32) from q_nle (b := 0) (by omega) (by omega) (by omega)), s1, bd_some]
theorem m_moodDie {al : Nat → Int32} {P T G Lg : List rw_} {gi di re ti v : Int32} {p : Nat} (o : OS P T G Lg) (m : MS al P T G Lg gi di re ti) (hp : p < 10) (hv : okN 101 v) : ∃ al' : Nat → Int32, f_X6_die (upd al (8 + p) v) = some (nI (ndy (sPm P p v) G), al') ∧ MS al' (sPm P p v) T (kept (sPm P p v) G) (bur (sPm P p v) ti G Lg) gi (di + nI (ndy (sPm P p v) G)) re ti := m_die (o.sP hp hv) (m.sP o hp)
theorem m_cheers {al : Nat → Int32} {P T G Lg : List rw_} {gi di re ti a v : Int32} {p : Nat} (o : OS P T G Lg) (m : MS al P T G Lg gi di re ti) (hp : p < 10) (hv : v = clv (P.getD p z_ 0 + a)) : ∃ al' : Nat → Int32, f_X6_cheers (nI p) a al = some al' ∧ MS al' (sPm P p v) T (kept (sPm P p v) G) (bur (sPm P p v) ti G Lg) gi (di + nI (ndy (sPm P p v) G)) re ti := by
  obtain ⟨b, b1, b2⟩ := m_moodDie (v := v) o m hp (by rw [hv]; exact clv_ok _)
  refine ⟨b, ?_, b2⟩
  unfold f_X6_cheers
  rw [e_8, n_ix (by omega) (by omega), n_cl (by omega), (m.1 p hp).1, nm_eq, n_ix (by omega) (by omega), n_ix (by omega) (by omega), n_ix (by omega) (by omega), nm_eq, nm_eq, nm_eq]
  have hx : ∀ w : Int32, w = v → (bd2 (f_X6_die (upd al (8 + p) w)) fun r_7 al_8 => some al_8) = some b := by
    intro w hw
    rw [hw, b1, bd2_some]
  unfold clv at hv
  by_cases h1 : (0 : Int32) ≤ P.getD p z_ 0 + a
  · rw [if_pos h1] at hv ⊢
    by_cases h2 : P.getD p z_ 0 + a ≤ (100 : Int32)
    · rw [if_pos h2] at hv ⊢
      exact hx _ hv.symm
    · rw [if_neg h2] at hv ⊢
      exact hx _ hv.symm
  · rw [if_neg h1] at hv ⊢
    exact hx _ hv.symm
/-! grants that are taken back -/
theorem c_back {rP rT rG rL rH re : Int32} {fP fT fG fL fH : Nat → Int32} {P T G Lg : List rw_} {k : Nat} (o : OS P T G Lg) (c : CS rP fP rT fT rG fG rL fL rH fH P T G Lg) (hk : k < G.length) : ∃ aG aH : Nat → Int32, f_X2_takeBack (nI k) rT fT rG fG rH fH re = some (prs T (hd T G) - prs T (hd T (G.eraseIdx k)), nI (G.length - 1), aG, aH, re + 1) ∧ CS rP fP rT fT (nI (G.length - 1)) aG rL fL rH aH P T (G.eraseIdx k) Lg := by
  have q := o.2.2.1
  obtain ⟨a1, d1, d2⟩ := c.2.1.1.drop (R := k) (lim := 40) (nn := 240) hk (by omega) q.1 (by omega) (by omega)
  have d1 : f_X3_drop (6 : Int32) 240 (nI k) rG fG = some (nI (G.length - 1), a1) := d1
  obtain ⟨aH, s1, s2⟩ := CS.settle (fH := fH) (rH := rH) c.1 c.2.1.2.1 d2 c.2.2 c.2.1.2.2.1 (q.erG hk)
  refine ⟨a1, aH, ?_, s2⟩
  unfold f_X2_takeBack
  rw [c_pairs c.2.1 q.k, bd_some, d1, bd2_some, nm_eq, s1, bd_some, c_pairs s2.2.1 (q.erG hk).k, bd_some, nm_eq]
theorem MS.qa {al : Nat → Int32} {P T G Lg : List rw_} {gi di re ti : Int32} (m : MS al P T G Lg gi di re ti) : QA al T G := ⟨m.2.2.1, m.2.1⟩
theorem m_back {al : Nat → Int32} {P T G Lg : List rw_} {gi di re ti : Int32} {k : Nat} (ho : Nat → Int32) (o : OS P T G Lg) (m : MS al P T G Lg gi di re ti) (hk : k < G.length) : ∃ al' ho' : Nat → Int32, f_X6_revokes (nI k) al ho = some (prs T (hd T G) - prs T (hd T (G.eraseIdx k)), al', ho') ∧ MS al' P T (G.eraseIdx k) Lg gi di (re + 1) ti := by
  have c3 : (3 : Int32).toNatClampNeg = 3 := by decide
  have n3 : ∀ z : Option (Int32 × (Nat → Int32) × (Nat → Int32)), ix (3 : Int32) 320 z = z := fun z => ixo z (by decide)
  obtain ⟨h1, p1, _⟩ := q_pairs m.qa o.2.2.1 ho
  obtain ⟨b, b1, b2⟩ := m_out o m hk
  have q2 := o.2.2.1.erG hk
  have m2 : MS (upd b 3 (re + 1)) P T (G.eraseIdx k) Lg gi di (re + 1) ti := ⟨b2.1.c (fun i h1 h2 => pk_un (by omega)), b2.2.1.c q2.2.1 (pk_un (by omega)) (fun i h1 h2 => pk_un (by omega)), b2.2.2.1.c q2.1 (pk_un (by omega)) (fun i h1 h2 => pk_un (by omega)), b2.2.2.2.1.c o.2.2.2 (pk_un (by omega)) (fun i h1 h2 => pk_un (by omega)), ⟨by rw [pk_un (by omega)]; exact b2.2.2.2.2.1, by rw [pk_un (by omega)]; exact b2.2.2.2.2.2.1, pk_us, by rw [pk_un (by omega)]; exact b2.2.2.2.2.2.2.2⟩⟩
  obtain ⟨h2, p2, _⟩ := q_pairs m2.qa q2 h1
  refine ⟨_, h2, ?_, m2⟩
  unfold f_X6_revokes
  rw [p1, bd2_some, b1, bd_some, n3, nm_eq, n3, nm_eq, c3, b2.2.2.2.2.2.2.1, p2, bd2_some, nm_eq]
