/-! ===== PURE: the reason against a right; what is told of persons, things, grants, house, log ===== -/
theorem c_lend {rT rG rH : Int32} {fT fG fH H : Nat → Int32} {T G : List rw_} (c : QC rT fT rG fG rH fH T G H) (k : QK T G H) {t j : Nat} (hj : j < G.length) (ht : t < T.length) : f_X3_at (10 : Int32) 80 (nI t) (G.getD j z_ 0) rH fH = some (H (10 * t + cN (G.getD j z_ 0))) := by
  have o := (k.2.2.1 j hj).1
  conv => lhs; rw [o.1]
  exact c_hat c k o.2 ht
theorem q_lend {al ho H : Nat → Int32} {T G : List rw_} (m : QM al ho T G H) (k : QK T G H) {t j : Nat} (hj : j < G.length) (ht : t < T.length) : f_X6_holds (G.getD j z_ 0) (nI t) ho = some (H (10 * t + cN (G.getD j z_ 0))) := by
  have o := (k.2.2.1 j hj).1
  conv => lhs; rw [o.1]
  exact q_hat m k o.2 ht
def rs1 (H : Nat → Int32) (p t : Nat) (x : Int32) (g : rw_) (a : Int32) : Int32 := if g 2 = nI t then (if g 1 = nI p then (if g 3 &&& x = (0 : Int32) then a else (if H (10 * t + cN (g 0)) &&& (4 : Int32) = 0 then (if a < 3 then 3 else a) else (if a < 4 then 4 else a))) else a) else a
def rs_ (G : List rw_) (H : Nat → Int32) (p t : Nat) (x : Int32) : Nat → Nat → Int32 → Int32
  | 0, _, a => a
  | n + 1, j, a => rs_ G H p t x n (j + 1) (rs1 H p t x (G.getD j z_) a)
theorem h_isG {rG : Int32} {fG : Nat → Int32} {G : List rw_} {x y z : Int32} {j : Nat} (h : RT 6 rG fG G) (hl : G.length ≤ 40) (hj : j < G.length) : f_X2_isGrantOf (nI j) x y z rG fG = some (if G.getD j z_ 2 = y then (if G.getD j z_ 1 = x then (if G.getD j z_ 3 &&& z = (0 : Int32) then 0 else 1) else 0) else 0) := by
  unfold f_X2_isGrantOf
  rw [h.gb hj hl, bd_some, h.gt hj hl, bd_some, h.gr hj hl, bd_some]
  by_cases h1 : G.getD j z_ 1 = x
  · by_cases h2 : G.getD j z_ 2 = y
    · rw [if_pos h1, if_pos h2, if_pos h2, if_pos h1]
      by_cases h3 : G.getD j z_ 3 &&& z = (0 : Int32)
      · rw [if_pos h3, if_pos h3]
      · rw [if_neg h3, if_neg h3]
    · rw [if_pos h1, if_neg h2, if_neg h2]
  · by_cases h2 : G.getD j z_ 2 = y
    · rw [if_neg h1, if_pos h2, if_neg h1]
    · rw [if_neg h1, if_neg h2]
theorem h_rs {rT rG rH : Int32} {fT fG fH H : Nat → Int32} {T G : List rw_} {p t : Nat} {x : Int32} (c : QC rT fT rG fG rH fH T G H) (k : QK T G H) (ht : t < T.length) : ∀ (n j F : Nat) (a : Int32), n + j = G.length → n < F → f_X2_reasonAgainst_L35 (nI p) (nI t) x rG fG rH fH F a (nI j) = some (rs_ G H p t x n j a)
  | _, _, 0, _, _, hF => absurd hF (by omega)
  | 0, j, F + 1, a, hk, hF => by
    have := k.1
    have hle : nI G.length ≤ nI j := q_le (by omega) (by omega) (by omega)
    unfold f_X2_reasonAgainst_L35 rs_
    rw [c.1.rows, bd_some, if_pos hle]
  | n + 1, j, F + 1, a, hk, hF => by
    have := k.1
    have hle : ¬ nI G.length ≤ nI j := q_nle (by omega) (by omega) (by omega)
    have ek : nI j + (1 : Int32) = nI (j + 1) := n_at
    have ih := fun a => h_rs (x := x) (p := p) c k ht n (j + 1) F a (by omega) (by omega)
    have el : f_X2_rightsOf (G.getD j z_ 0) (nI t) rH fH = some (H (10 * t + cN (G.getD j z_ 0))) := by
      unfold f_X2_rightsOf
      rw [c_lend c k (by omega) ht, bd_some]
    unfold f_X2_reasonAgainst_L35 rs_ rs1
    rw [c.1.rows, bd_some, if_neg hle, h_isG c.1 k.1 (by omega), bd_some, c.1.gl (by omega) k.1, bd_some, el, bd_some]
    simp only [nm_eq, ek, ih]
    by_cases h2 : G.getD j z_ 2 = nI t
    · rw [if_pos h2, if_pos h2]
      by_cases h1 : G.getD j z_ 1 = nI p
      · rw [if_pos h1, if_pos h1]
        by_cases h3 : G.getD j z_ 3 &&& x = (0 : Int32)
        · rw [if_pos h3, if_pos h3, if_pos rfl]
        · rw [if_neg h3, if_neg h3, if_neg (by decide)]
          by_cases h4 : H (10 * t + cN (G.getD j z_ 0)) &&& (4 : Int32) = 0
          · rw [if_pos h4, if_pos h4]
          · rw [if_neg h4, if_neg h4]
      · rw [if_neg h1, if_neg h1, if_pos rfl]
    · rw [if_neg h2, if_neg h2, if_pos rfl]
def cw_ (G : List rw_) (H : Nat → Int32) (p t : Nat) (x l : Int32) : Nat → Nat → Nat → Nat
  | 0, _, a => a
  | n + 1, j, a => cw_ G H p t x l n (j + 1) (if G.getD j z_ 2 = nI t then (if G.getD j z_ 1 = nI p then (if G.getD j z_ 3 &&& x = (0 : Int32) then a else (if H (10 * t + cN (G.getD j z_ 0)) &&& l = l then a + 1 else a)) else a) else a)
theorem m_cw {al ho H : Nat → Int32} {T G : List rw_} {p t : Nat} {x l : Int32} (m : QM al ho T G H) (k : QK T G H) (ht : t < T.length) : ∀ (n j F : Nat) (a : Nat), n + j = G.length → n < F → f_X6_grantsWith_L6 (nI p) (nI t) x l al ho F (nI a) (nI j) = some (nI (cw_ G H p t x l n j a))
  | _, _, 0, _, _, hF => absurd hF (by omega)
  | 0, j, F + 1, a, hk, hF => by
    have := k.1
    have hle : nI G.length ≤ nI j := q_le (by omega) (by omega) (by omega)
    unfold f_X6_grantsWith_L6 cw_
    rw [ix5, m.1.e5, if_pos hle]
  | n + 1, j, F + 1, a, hk, hF => by
    have := k.1
    have hle : ¬ nI G.length ≤ nI j := q_nle (by omega) (by omega) (by omega)
    have ek : nI j + (1 : Int32) = nI (j + 1) := n_at
    have ea : nI a + (1 : Int32) = nI (a + 1) := n_at
    have ih := fun a => m_cw (x := x) (p := p) (l := l) m k ht n (j + 1) F a (by omega) (by omega)
    unfold f_X6_grantsWith_L6 cw_
    rw [ix5, m.1.e5, if_neg hle, m.1.t (by omega) k.1, bd_some, m.1.b (by omega) k.1, bd_some, m.1.r (by omega) k.1, bd_some, m.1.l (by omega) k.1, bd_some, q_lend m k (by omega) ht, bd_some]
    simp only [nm_eq, ek, z_add, ea, ih]
    by_cases h2 : G.getD j z_ 2 = nI t
    · rw [if_pos h2, if_pos h2]
      by_cases h1 : G.getD j z_ 1 = nI p
      · rw [if_pos h1, if_pos h1]
        by_cases h3 : G.getD j z_ 3 &&& x = (0 : Int32)
        · rw [if_pos h3, if_pos h3]
        · rw [if_neg h3, if_neg h3]
          by_cases h4 : H (10 * t + cN (G.getD j z_ 0)) &&& l = l
          · rw [if_pos h4, if_pos h4]
          · rw [if_neg h4, if_neg h4]
      · rw [if_neg h1, if_neg h1]
    · rw [if_neg h2, if_neg h2]
theorem cw_le {G : List rw_} {H : Nat → Int32} {p t : Nat} {x l : Int32} : ∀ (n j a : Nat), cw_ G H p t x l n j a ≤ a + n
  | 0, _, a => Nat.le_refl _
  | n + 1, j, a => by
    unfold cw_
    refine Nat.le_trans (cw_le n (j + 1) _) ?_
    split
    · split
      · split
        · omega
        · split <;> omega
      · omega
    · omega
theorem bit4 {x : Int32} (o : okN 8 x) : (x &&& (4 : Int32) = 0 ∧ ¬ x &&& (4 : Int32) = 4) ∨ (¬ x &&& (4 : Int32) = 0 ∧ x &&& (4 : Int32) = 4) := by
  refine b8 (P := fun x => (x &&& (4 : Int32) = 0 ∧ ¬ x &&& (4 : Int32) = 4) ∨ (¬ x &&& (4 : Int32) = 0 ∧ x &&& (4 : Int32) = 4)) ?_ o
  decide +kernel
theorem and_z {a : Int32} : a &&& (0 : Int32) = 0 := Int32.and_zero
theorem rs_cw {T G : List rw_} {H : Nat → Int32} {p t : Nat} {x : Int32} (k : QK T G H) (ht : t < T.length) : ∀ (n j a b : Nat), n + j = G.length → b ≤ a → rs_ G H p t x n j (if a = 0 then 2 else if b = 0 then 3 else 4) = (if cw_ G H p t x 0 n j a = 0 then 2 else if cw_ G H p t x 4 n j b = 0 then 3 else 4)
  | 0, _, _, _, _, _ => rfl
  | n + 1, j, a, b, hk, hb => by
    have oh := (k.2.2.1 j (by omega)).1
    have hh := k.2.2.2.2 (10 * t + cN (G.getD j z_ 0)) (by have := oh.2; omega)
    unfold rs_ cw_ rs1
    by_cases h2 : G.getD j z_ 2 = nI t
    · rw [if_pos h2, if_pos h2, if_pos h2]
      by_cases h1 : G.getD j z_ 1 = nI p
      · rw [if_pos h1, if_pos h1, if_pos h1]
        by_cases h3 : G.getD j z_ 3 &&& x = (0 : Int32)
        · rw [if_pos h3, if_pos h3, if_pos h3]
          exact rs_cw k ht n (j + 1) a b (by omega) hb
        · rw [if_neg h3, if_neg h3, if_neg h3, if_pos and_z]
          rcases bit4 hh with ⟨h4, h5⟩ | ⟨h4, h5⟩
          · rw [if_pos h4, if_neg h5, ← rs_cw k ht n (j + 1) (a + 1) b (by omega) (by omega)]
            congr 1
            rw [if_neg (show ¬ a + 1 = 0 by omega)]
            by_cases ha : a = 0
            · rw [if_pos ha, if_pos (show b = 0 by omega)]
              decide
            · rw [if_neg ha]
              by_cases hb0 : b = 0
              · rw [if_pos hb0]
                decide
              · rw [if_neg hb0]
                decide
          · rw [if_neg h4, if_pos h5, ← rs_cw k ht n (j + 1) (a + 1) (b + 1) (by omega) (by omega)]
            congr 1
            rw [if_neg (show ¬ a + 1 = 0 by omega), if_neg (show ¬ b + 1 = 0 by omega)]
            by_cases ha : a = 0
            · rw [if_pos ha]
              decide
            · rw [if_neg ha]
              by_cases hb0 : b = 0
              · rw [if_pos hb0]
                decide
              · rw [if_neg hb0]
                decide
      · rw [if_neg h1, if_neg h1, if_neg h1]
        exact rs_cw k ht n (j + 1) a b (by omega) hb
    · rw [if_neg h2, if_neg h2, if_neg h2]
      exact rs_cw k ht n (j + 1) a b (by omega) hb
/-- the reason -/
def why_ (T G : List rw_) (H : Nat → Int32) (p t : Nat) (x : Int32) : Int32 := if H (10 * t + p) &&& x = (0 : Int32) then (if T.getD t z_ 1 &&& x = (0 : Int32) then 1 else (if cw_ G H p t x 0 G.length 0 0 = 0 then 2 else if cw_ G H p t x 4 G.length 0 0 = 0 then 3 else 4)) else 0
theorem c_why {rT rG rH : Int32} {fT fG fH H : Nat → Int32} {T G : List rw_} {p t : Nat} {x : Int32} (c : QC rT fT rG fG rH fH T G H) (k : QK T G H) (hp : p < 10) (ht : t < T.length) : f_X2_reasonAgainst (nI p) (nI t) x rT fT rG fG rH fH = some (why_ T G H p t x) := by
  have := k.1
  have e := h_rs (x := x) (p := p) c k ht G.length 0 FU 2 (by omega) (by unfold FU; omega)
  have e : f_X2_reasonAgainst_L35 (nI p) (nI t) x rG fG rH fH FU 2 (0 : Int32) = some (rs_ G H p t x G.length 0 2) := e
  have e2 := rs_cw (p := p) (x := x) k ht G.length 0 0 0 (by omega) (by omega)
  have e2 : rs_ G H p t x G.length 0 2 = (if cw_ G H p t x 0 G.length 0 0 = 0 then 2 else if cw_ G H p t x 4 G.length 0 0 = 0 then 3 else 4) := e2
  have e0 : f_X2_rightsOf (nI p) (nI t) rH fH = some (H (10 * t + p)) := by
    unfold f_X2_rightsOf
    rw [c_hat c k hp ht, bd_some]
  unfold f_X2_reasonAgainst why_
  rw [e0, bd_some, c.2.1.mk_ ht k.2.1, bd_some, e, bd_some, e2]
  by_cases h1 : H (10 * t + p) &&& x = (0 : Int32)
  · rw [if_pos h1, if_pos h1]
    by_cases h2 : T.getD t z_ 1 &&& x = (0 : Int32)
    · rw [if_pos h2, if_pos h2]
    · rw [if_neg h2, if_neg h2]
  · rw [if_neg h1, if_neg h1]
theorem q_with {al ho H : Nat → Int32} {T G : List rw_} {p t : Nat} {x l : Int32} (m : QM al ho T G H) (k : QK T G H) (ht : t < T.length) : f_X6_grantsWith (nI p) (nI t) x l al ho = some (nI (cw_ G H p t x l G.length 0 0)) := by
  have := k.1
  have e := m_cw (x := x) (p := p) (l := l) m k ht G.length 0 FU 0 (by omega) (by unfold FU; omega)
  have e : f_X6_grantsWith_L6 (nI p) (nI t) x l al ho FU (0 : Int32) (0 : Int32) = some (nI (cw_ G H p t x l G.length 0 0)) := e
  unfold f_X6_grantsWith
  rw [e, bd_some]
theorem n_zero {a : Nat} (h : a < 100000) : nI a = (0 : Int32) ↔ a = 0 := nI_eq (b := 0) (by omega) (by omega)
