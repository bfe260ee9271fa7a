/-! ===== PURE: what is told of persons, things, grants, house, log ===== -/
def MP (al : Nat → Int32) (P : List rw_) : Prop := ∀ p : Nat, p < 10 → al (8 + p) = P.getD p z_ 0 ∧ al (18 + p) = P.getD p z_ 1
def ML (al : Nat → Int32) (Lg : List rw_) : Prop := al 6 = nI Lg.length ∧ ∀ i j : Nat, i < Lg.length → j < 3 → al (284 + 3 * i + j) = Lg.getD (Lg.length - 1 - i) z_ j
theorem RT.m {rP : Int32} {fP : Nat → Int32} {P : List rw_} {p : Nat} (h : RT 2 rP fP P) (hl : P.length = 10) (hp : p < 10) : f_X3_at (2 : Int32) 20 (nI p) (0 : Int32) rP fP = some (P.getD p z_ 0) := by
  have e := h.at (lim := 10) (n := 20) (R := p) (C := 0) (by omega) (by omega) (by omega) (by omega) (by omega) (by omega) (by omega)
  exact e
theorem RT.bs {rP : Int32} {fP : Nat → Int32} {P : List rw_} {p : Nat} (h : RT 2 rP fP P) (hl : P.length = 10) (hp : p < 10) : f_X3_at (2 : Int32) 20 (nI p) (1 : Int32) rP fP = some (P.getD p z_ 1) := by
  have e := h.at (lim := 10) (n := 20) (R := p) (C := 1) (by omega) (by omega) (by omega) (by omega) (by omega) (by omega) (by omega)
  exact e
theorem e_8 (p : Nat) : (8 : Int32) + nI p = nI (8 + p) := n_at
theorem e_18 (p : Nat) : (18 : Int32) + nI p = nI (18 + p) := n_at
theorem e_28 (t : Nat) : (28 : Int32) + (2 : Int32) * nI t = nI (28 + 2 * t) := by
  rw [show (28 : Int32) = nI 28 from rfl, show (2 : Int32) = nI 2 from rfl, n_mul, n_at]
theorem MT.at {al : Nat → Int32} {T : List rw_} (h : MT al T) {t : Nat} (ht : t < T.length) (hl : T.length ≤ 8) : al (28 + 2 * t) = T.getD t z_ 0 ∧ al (28 + 2 * t + 1) = T.getD t z_ 1 := ⟨h.2 t 0 ht (by omega), h.2 t 1 ht (by omega)⟩
theorem t_person {rP rT rG rH : Int32} {fP fT fG fH al ho H : Nat → Int32} {P T G : List rw_} (hP : RT 2 rP fP P) (hPl : P.length = 10) (c : QC rT fT rG fG rH fH T G H) (k : QK T G H) (mp : MP al P) (m : QM al ho T G H) {p : Nat} (hp : p < 10) (x : Int32) : ∃ v : Int32, f_X2_aboutPerson (nI p) x rP fP rT fT rG fG rH fH = some v ∧ f_X6_personValue (nI p) x al ho = some v := by
  have hl := k.1
  have hlT := k.2.1
  have es := h_see c k hp T.length 0 FU 0 (by omega) (by unfold FU; omega)
  have es : f_X2_thingsSeenBy_L4 (nI p) rT rH fH FU 0 (0 : Int32) = some (see_ H p T.length 0 0) := es
  have es : f_X2_thingsSeenBy (nI p) rT rH fH = some (see_ H p T.length 0 0) := by
    unfold f_X2_thingsSeenBy
    rw [es, bd_some]
  have em := m_see m k hp T.length 0 FU 0 0 (by omega) (by unfold FU; omega)
  have em : f_X6_personValue_L8 (nI p) al ho FU 0 0 (0 : Int32) = some (cnt_ T 0 (nI p) T.length 0 0, see_ H p T.length 0 0) := em
  have c0 := h_ctT c.2.1 hlT (nI p)
  have c1 := h_ctG c.1 hl (nI p) 0 (by omega)
  have c1 : f_X2_countEqual (6 : Int32) 240 (0 : Int32) (nI p) rG fG = some (cnt_ G 0 (nI p) G.length 0 0) := c1
  have c2 := h_ctG c.1 hl (nI p) 1 (by omega)
  have c2 : f_X2_countEqual (6 : Int32) 240 (1 : Int32) (nI p) rG fG = some (cnt_ G 1 (nI p) G.length 0 0) := c2
  have d1 := m_ct m.1 hl (nI p) 0 (by omega)
  have d1 : f_X6_grantsBy (nI p) (1 : Int32) al = some (cnt_ G 0 (nI p) G.length 0 0) := d1
  have d2 := m_ct m.1 hl (nI p) 1 (by omega)
  have d2 : f_X6_grantsBy (nI p) (2 : Int32) al = some (cnt_ G 1 (nI p) G.length 0 0) := d2
  unfold f_X2_aboutPerson f_X6_personValue
  rw [em, bd2_some, hP.m hPl hp, hP.bs hPl hp, c0, es, bd_some, bd_some, bd_some, bd_some, bd_some, bc_c, bc_m (see_ok T.length 0 0 (by omega) okN_0), c1, c2, d1, d2, e_8, e_18, n_ix (by omega) (by omega), n_ix (by omega) (by omega), n_cl (by omega), n_cl (by omega), nm_eq, nm_eq, (mp p hp).1, (mp p hp).2]
  simp only [bd_some]
  by_cases h0 : x = 0
  · simp only [if_pos h0]
    exact ⟨_, rfl, rfl⟩
  simp only [if_neg h0]
  by_cases h1 : x = 1
  · simp only [if_pos h1]
    exact ⟨_, rfl, rfl⟩
  simp only [if_neg h1]
  by_cases h2 : x = 2
  · simp only [if_pos h2]
    exact ⟨_, rfl, rfl⟩
  simp only [if_neg h2]
  by_cases h3 : x = 3
  · simp only [if_pos h3]
    exact ⟨_, rfl, rfl⟩
  simp only [if_neg h3]
  by_cases h4 : x = 4
  · simp only [if_pos h4]
    exact ⟨_, rfl, rfl⟩
  simp only [if_neg h4]
  by_cases h5 : x = 5
  · simp only [if_pos h5]
    exact ⟨_, rfl, rfl⟩
  simp only [if_neg h5]
  exact ⟨_, rfl, rfl⟩
theorem t_thing {rT rG rH : Int32} {fT fG fH al ho H : Nat → Int32} {T G : List rw_} (c : QC rT fT rG fG rH fH T G H) (k : QK T G H) (m : QM al ho T G H) {t : Nat} (ht : t < T.length) {j : Nat} (hj : j < 6) : ∃ v : Int32, f_X2_aboutThing (nI t) (nI j) rT fT rG fG rH fH = some v ∧ f_X6_thingValue (nI t) (nI j) al ho = some v := by
  have hl := k.1
  have hlT := k.2.1
  have c2 := h_ctG c.1 hl (nI t) 2 (by omega)
  have c2 : f_X2_countEqual (6 : Int32) 240 (2 : Int32) (nI t) rG fG = some (cnt_ G 2 (nI t) G.length 0 0) := c2
  have d2 := m_ct m.1 hl (nI t) 2 (by omega)
  have d2 : f_X6_grantsBy (nI t) (3 : Int32) al = some (cnt_ G 2 (nI t) G.length 0 0) := d2
  unfold f_X2_aboutThing f_X6_thingValue
  rw [c.2.1.o ht hlT, c.2.1.mk_ ht hlT, c2, d2, h_whoHas c k ht, h_whoHas c k ht, h_whoHas c k ht, m_whoHas m k ht]
  simp only [bd_some]
  have hj : j = 0 ∨ j = 1 ∨ j = 2 ∨ j = 3 ∨ j = 4 ∨ j = 5 := by omega
  have r0 := (m.2.1.at ht hlT).1
  have r1 := (m.2.1.at ht hlT).2
  rcases hj with e | e | e | e | e | e
  · subst e
    have p0 : nI 0 = (0 : Int32) := rfl
    have n1 : ¬ nI 0 = (1 : Int32) := by decide
    have n2 : ¬ nI 0 = (2 : Int32) := by decide
    have n3 : ¬ nI 0 = (3 : Int32) := by decide
    have n4 : ¬ nI 0 = (4 : Int32) := by decide
    have le : ¬ (2 : Int32) ≤ nI 0 := by decide
    have e28 : (28 : Int32) + (2 : Int32) * nI t + nI 0 = nI (28 + 2 * t) := by rw [e_28, n_at, Nat.add_zero]
    rw [if_pos p0, if_neg le, e28, n_ix (by omega) (by omega), n_cl (by omega), nm_eq, r0]
    exact ⟨_, rfl, rfl⟩
  · subst e
    have n0 : ¬ nI 1 = (0 : Int32) := by decide
    have p1 : nI 1 = (1 : Int32) := rfl
    have n2 : ¬ nI 1 = (2 : Int32) := by decide
    have n3 : ¬ nI 1 = (3 : Int32) := by decide
    have n4 : ¬ nI 1 = (4 : Int32) := by decide
    have le : ¬ (2 : Int32) ≤ nI 1 := by decide
    have e28 : (28 : Int32) + (2 : Int32) * nI t + nI 1 = nI (28 + 2 * t + 1) := by rw [e_28, n_at]
    rw [if_neg n0, if_pos p1, if_neg le, e28, n_ix (by omega) (by omega), n_cl (by omega), nm_eq, r1]
    exact ⟨_, rfl, rfl⟩
  · subst e
    have n0 : ¬ nI 2 = (0 : Int32) := by decide
    have n1 : ¬ nI 2 = (1 : Int32) := by decide
    have p2 : nI 2 = (2 : Int32) := rfl
    have n3 : ¬ nI 2 = (3 : Int32) := by decide
    have n4 : ¬ nI 2 = (4 : Int32) := by decide
    have le : (2 : Int32) ≤ nI 2 := by decide
    rw [if_neg n0, if_neg n1, if_pos p2, if_pos le, if_pos p2]
    exact ⟨_, rfl, rfl⟩
  · subst e
    have n0 : ¬ nI 3 = (0 : Int32) := by decide
    have n1 : ¬ nI 3 = (1 : Int32) := by decide
    have n2 : ¬ nI 3 = (2 : Int32) := by decide
    have p3 : nI 3 = (3 : Int32) := rfl
    have n4 : ¬ nI 3 = (4 : Int32) := by decide
    have le : (2 : Int32) ≤ nI 3 := by decide
    rw [if_neg n0, if_neg n1, if_neg n2, if_pos p3, if_pos le, if_neg n2]
    exact ⟨_, rfl, rfl⟩
  · subst e
    have n0 : ¬ nI 4 = (0 : Int32) := by decide
    have n1 : ¬ nI 4 = (1 : Int32) := by decide
    have n2 : ¬ nI 4 = (2 : Int32) := by decide
    have n3 : ¬ nI 4 = (3 : Int32) := by decide
    have p4 : nI 4 = (4 : Int32) := rfl
    have le : (2 : Int32) ≤ nI 4 := by decide
    rw [if_neg n0, if_neg n1, if_neg n2, if_neg n3, if_pos p4, if_pos le, if_neg n2]
    exact ⟨_, rfl, rfl⟩
  · subst e
    have n0 : ¬ nI 5 = (0 : Int32) := by decide
    have n1 : ¬ nI 5 = (1 : Int32) := by decide
    have n2 : ¬ nI 5 = (2 : Int32) := by decide
    have n3 : ¬ nI 5 = (3 : Int32) := by decide
    have n4 : ¬ nI 5 = (4 : Int32) := by decide
    have le : (2 : Int32) ≤ nI 5 := by decide
    rw [if_neg n0, if_neg n1, if_neg n2, if_neg n3, if_neg n4, if_pos le, if_neg n2]
    exact ⟨_, rfl, rfl⟩
theorem t_grant {rT rG rH : Int32} {fT fG fH al ho H : Nat → Int32} {T G : List rw_} (c : QC rT fT rG fG rH fH T G H) (k : QK T G H) (m : QM al ho T G H) {g : Nat} (hg : g < G.length) {j : Nat} (hj : j < 6) : ∃ v : Int32, f_X2_aboutGrant (nI g) (nI j) rT fT rG fG rH fH = some v ∧ f_X6_grantValue (nI g) (nI j) al ho = some v := by
  have hl := k.1
  have hlT := k.2.1
  unfold f_X2_aboutGrant f_X6_grantValue
  rw [c_pass c k hg, q_pass m k hg]
  simp only [bd_some]
  by_cases h : j = 5
  · subst h
    rw [if_pos (show (4 : Int32) < nI 5 by decide), if_pos (show (5 : Int32) ≤ nI 5 by decide)]
    exact ⟨_, rfl, rfl⟩
  · have e := m.1.of (j := j) hg hl hj
    rw [show (j + 1) % 6 = j + 1 by omega] at e
    have ej : nI j + (1 : Int32) = nI (j + 1) := n_at
    have e1 := c.1.g (j := j) hg hl hj
    rw [if_neg (show ¬ (4 : Int32) < nI j from q_nlt (a := 4) (by omega) (by omega) (by omega)), if_neg (show ¬ (5 : Int32) ≤ nI j from q_nle (a := 5) (by omega) (by omega) (by omega)), e1, bd_some, ej, e, bd_some]
    exact ⟨_, rfl, rfl⟩
/-- the model's numbers -/
def MN (al : Nat → Int32) (gi di re ti : Int32) : Prop := al 1 = gi ∧ al 2 = di ∧ al 3 = re ∧ al 0 = ti
theorem t_house {rT rG rL rH gi di re ti : Int32} {fT fG fL fH al : Nat → Int32} {T G Lg : List rw_} (c : QC rT fT rG fG rH fH T G (hd T G)) (hL : RT 3 rL fL Lg) (q : QG T G) (a : QA al T G) (mn : MN al gi di re ti) (ml : ML al Lg) (ho : Nat → Int32) {j : Nat} (hj : j < 9) : ∃ (v : Int32) (ho' : Nat → Int32), f_X2_aboutHouse (nI j) rT fT rG fG rL rH fH gi di re ti = some v ∧ f_X6_numberOf (nI j) al ho = some (v, ho') := by
  obtain ⟨hp, ep, _⟩ := q_pairs a q ho
  obtain ⟨hq, eq, mq⟩ := q_lay a q ho
  have ei := q_idle mq q.k
  unfold f_X2_aboutHouse f_X6_numberOf
  rw [c.2.1.rows, c.1.rows, hL.rows, c_pairs c q.k, c_idle c q.k, ep, eq]
  simp only [bd_some, ei, bd2_some]
  have a0 : al (0 : Int32).toNatClampNeg = ti := mn.2.2.2
  have a4 : al (4 : Int32).toNatClampNeg = nI T.length := a.2.1
  have a5 : al (5 : Int32).toNatClampNeg = nI G.length := a.1.1
  have a6 : al (6 : Int32).toNatClampNeg = nI Lg.length := ml.1
  have hj : j = 0 ∨ j = 1 ∨ j = 2 ∨ j = 3 ∨ j = 4 ∨ j = 5 ∨ j = 6 ∨ j = 7 ∨ j = 8 := by omega
  rcases hj with e | e | e | e | e | e | e | e | e
  · subst e
    have p0 : nI 0 = (0 : Int32) := rfl
    rw [if_pos p0, if_pos p0, ix4, nm_eq, a4]
    exact ⟨_, _, rfl, rfl⟩
  · subst e
    have n0 : ¬ nI 1 = (0 : Int32) := by decide
    have p1 : nI 1 = (1 : Int32) := rfl
    rw [if_neg n0, if_neg n0, if_pos p1, if_pos p1, ix5, nm_eq, a5]
    exact ⟨_, _, rfl, rfl⟩
  · subst e
    have n0 : ¬ nI 2 = (0 : Int32) := by decide
    have n1 : ¬ nI 2 = (1 : Int32) := by decide
    have p2 : nI 2 = (2 : Int32) := rfl
    have a1 : al ((1 : Int32) + nI 2 - (2 : Int32)).toNatClampNeg = gi := mn.1
    have x1 : ¬ ((1 : Int32) + nI 2 - (2 : Int32) < 0 ∨ 320 ≤ ((1 : Int32) + nI 2 - (2 : Int32)).toNatClampNeg) := by decide
    rw [if_neg n0, if_neg n0, if_neg n1, if_neg n1, if_pos p2, if_pos p2, ixo _ x1, nm_eq, a1]
    exact ⟨_, _, rfl, rfl⟩
  · subst e
    have n0 : ¬ nI 3 = (0 : Int32) := by decide
    have n1 : ¬ nI 3 = (1 : Int32) := by decide
    have n2 : ¬ nI 3 = (2 : Int32) := by decide
    have p3 : nI 3 = (3 : Int32) := rfl
    have a1 : al ((1 : Int32) + nI 3 - (2 : Int32)).toNatClampNeg = di := mn.2.1
    have x1 : ¬ ((1 : Int32) + nI 3 - (2 : Int32) < 0 ∨ 320 ≤ ((1 : Int32) + nI 3 - (2 : Int32)).toNatClampNeg) := by decide
    rw [if_neg n0, if_neg n0, if_neg n1, if_neg n1, if_neg n2, if_neg n2, if_pos p3, if_pos p3, ixo _ x1, nm_eq, a1]
    exact ⟨_, _, rfl, rfl⟩
  · subst e
    have n0 : ¬ nI 4 = (0 : Int32) := by decide
    have n1 : ¬ nI 4 = (1 : Int32) := by decide
    have n2 : ¬ nI 4 = (2 : Int32) := by decide
    have n3 : ¬ nI 4 = (3 : Int32) := by decide
    have p4 : nI 4 = (4 : Int32) := rfl
    have a1 : al ((1 : Int32) + nI 4 - (2 : Int32)).toNatClampNeg = re := mn.2.2.1
    have x1 : ¬ ((1 : Int32) + nI 4 - (2 : Int32) < 0 ∨ 320 ≤ ((1 : Int32) + nI 4 - (2 : Int32)).toNatClampNeg) := by decide
    rw [if_neg n0, if_neg n0, if_neg n1, if_neg n1, if_neg n2, if_neg n2, if_neg n3, if_neg n3, if_pos p4, if_pos p4, ixo _ x1, nm_eq, a1]
    exact ⟨_, _, rfl, rfl⟩
  · subst e
    have n0 : ¬ nI 5 = (0 : Int32) := by decide
    have n1 : ¬ nI 5 = (1 : Int32) := by decide
    have n2 : ¬ nI 5 = (2 : Int32) := by decide
    have n3 : ¬ nI 5 = (3 : Int32) := by decide
    have n4 : ¬ nI 5 = (4 : Int32) := by decide
    have p5 : nI 5 = (5 : Int32) := rfl
    have x0 : ¬ ((0 : Int32) < 0 ∨ 320 ≤ (0 : Int32).toNatClampNeg) := by decide
    rw [if_neg n0, if_neg n0, if_neg n1, if_neg n1, if_neg n2, if_neg n2, if_neg n3, if_neg n3, if_neg n4, if_neg n4, if_pos p5, if_pos p5, ixo _ x0, nm_eq, a0]
    exact ⟨_, _, rfl, rfl⟩
  · subst e
    have n0 : ¬ nI 6 = (0 : Int32) := by decide
    have n1 : ¬ nI 6 = (1 : Int32) := by decide
    have n2 : ¬ nI 6 = (2 : Int32) := by decide
    have n3 : ¬ nI 6 = (3 : Int32) := by decide
    have n4 : ¬ nI 6 = (4 : Int32) := by decide
    have n5 : ¬ nI 6 = (5 : Int32) := by decide
    have p6 : nI 6 = (6 : Int32) := rfl
    rw [if_neg n0, if_neg n0, if_neg n1, if_neg n1, if_neg n2, if_neg n2, if_neg n3, if_neg n3, if_neg n4, if_neg n4, if_neg n5, if_neg n5, if_pos p6, if_pos p6]
    exact ⟨_, _, rfl, rfl⟩
  · subst e
    have n0 : ¬ nI 7 = (0 : Int32) := by decide
    have n1 : ¬ nI 7 = (1 : Int32) := by decide
    have n2 : ¬ nI 7 = (2 : Int32) := by decide
    have n3 : ¬ nI 7 = (3 : Int32) := by decide
    have n4 : ¬ nI 7 = (4 : Int32) := by decide
    have n5 : ¬ nI 7 = (5 : Int32) := by decide
    have n6 : ¬ nI 7 = (6 : Int32) := by decide
    have p7 : nI 7 = (7 : Int32) := rfl
    rw [if_neg n0, if_neg n0, if_neg n1, if_neg n1, if_neg n2, if_neg n2, if_neg n3, if_neg n3, if_neg n4, if_neg n4, if_neg n5, if_neg n5, if_neg n6, if_neg n6, if_pos p7, if_pos p7]
    exact ⟨_, _, rfl, rfl⟩
  · subst e
    have n0 : ¬ nI 8 = (0 : Int32) := by decide
    have n1 : ¬ nI 8 = (1 : Int32) := by decide
    have n2 : ¬ nI 8 = (2 : Int32) := by decide
    have n3 : ¬ nI 8 = (3 : Int32) := by decide
    have n4 : ¬ nI 8 = (4 : Int32) := by decide
    have n5 : ¬ nI 8 = (5 : Int32) := by decide
    have n6 : ¬ nI 8 = (6 : Int32) := by decide
    have n7 : ¬ nI 8 = (7 : Int32) := by decide
    have x6 : ¬ ((6 : Int32) < 0 ∨ 320 ≤ (6 : Int32).toNatClampNeg) := by decide
    rw [if_neg n0, if_neg n0, if_neg n1, if_neg n1, if_neg n2, if_neg n2, if_neg n3, if_neg n3, if_neg n4, if_neg n4, if_neg n5, if_neg n5, if_neg n6, if_neg n6, if_neg n7, if_neg n7, ixo _ x6, nm_eq, a6]
    exact ⟨_, _, rfl, rfl⟩
theorem t_entry {rL : Int32} {fL al : Nat → Int32} {Lg : List rw_} (hL : RT 3 rL fL Lg) (hl : Lg.length ≤ 12) (ml : ML al Lg) {i j : Nat} (hi : i < Lg.length) (hj : j < 3) : f_X2_aboutEntry (nI i) (nI j) rL fL = some (Lg.getD (Lg.length - 1 - i) z_ j) ∧ al (284 + 3 * i + j) = Lg.getD (Lg.length - 1 - i) z_ j := by
  refine ⟨?_, ml.2 i j hi hj⟩
  have e := hL.at (lim := 12) (n := 36) (R := Lg.length - 1 - i) (C := j) (by omega) hj hl (by omega) (by omega) (by omega) (by omega)
  have e1 : nI Lg.length - (1 : Int32) - nI i = nI (Lg.length - 1 - i) := by
    rw [show (1 : Int32) = nI 1 from rfl, pk_sub (by omega), pk_sub (by omega)]
  unfold f_X2_aboutEntry
  rw [hL.rows, bd_some, e1]
  show bd (f_X3_at (nI 3) 36 _ _ rL fL) _ = _
  rw [e, bd_some]
