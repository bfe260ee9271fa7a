/-! ===== PURE: the model's array as the same rows ===== -/
def MG (al : Nat → Int32) (G : List rw_) : Prop := al 5 = nI G.length ∧ ∀ k j : Nat, k < G.length → j < 6 → al (44 + 6 * k + (j + 1) % 6) = G.getD k z_ j
def MT (al : Nat → Int32) (T : List rw_) : Prop := al 4 = nI T.length ∧ ∀ t j : Nat, t < T.length → j < 2 → al (28 + 2 * t + j) = T.getD t z_ j
theorem MG.of {al : Nat → Int32} {G : List rw_} {k j : Nat} (h : MG al G) (hk : k < G.length) (hl : G.length ≤ 40) (hj : j < 6) : f_X6_of (nI k) (nI ((j + 1) % 6)) al = some (G.getD k z_ j) := by
  have e : ((44 : Int32) + ((6 : Int32) * nI k)) + nI ((j + 1) % 6) = nI (44 + 6 * k + (j + 1) % 6) := by
    rw [show (44 : Int32) = nI 44 from rfl, show (6 : Int32) = nI 6 from rfl, n_mul, n_at, n_at]
  unfold f_X6_of
  rw [e, n_ix (by omega) (by omega), n_cl (by omega)]
  simp only [nm]
  rw [h.2 k j hk hj]
theorem MT.owner {al : Nat → Int32} {T : List rw_} {t : Nat} (h : MT al T) (ht : t < T.length) (hl : T.length ≤ 8) : f_X6_owner (nI t) al = some (T.getD t z_ 0) := by
  have e : (28 : Int32) + ((2 : Int32) * nI t) = nI (28 + 2 * t) := by
    rw [show (28 : Int32) = nI 28 from rfl, show (2 : Int32) = nI 2 from rfl, n_mul, n_at]
  unfold f_X6_owner
  rw [e, n_ix (by omega) (by omega), n_cl (by omega)]
  simp only [nm]
  rw [← h.2 t 0 ht (by omega)]
  rfl
theorem MT.mask {al : Nat → Int32} {T : List rw_} {t : Nat} (h : MT al T) (ht : t < T.length) (hl : T.length ≤ 8) : f_X6_mask (nI t) al = some (T.getD t z_ 1) := by
  have e : ((28 : Int32) + ((2 : Int32) * nI t)) + (1 : Int32) = nI (28 + 2 * t + 1) := by
    rw [show (28 : Int32) = nI 28 from rfl, show (2 : Int32) = nI 2 from rfl, n_mul, n_at, show (1 : Int32) = nI 1 from rfl, n_at]
  unfold f_X6_mask
  rw [e, n_ix (by omega) (by omega), n_cl (by omega)]
  simp only [nm]
  rw [h.2 t 1 ht (by omega)]
theorem m_holds {p t : Nat} {ho : Nat → Int32} (hp : p < 10) (ht : t < 8) : f_X6_holds (nI p) (nI t) ho = some (ho (10 * t + p)) := by
  have e : ((10 : Int32) * nI t) + nI p = nI (10 * t + p) := by
    rw [show (10 : Int32) = nI 10 from rfl, n_mul, n_at]
  unfold f_X6_holds
  rw [e, n_ix (by omega) (by omega), n_cl (by omega)]
  rfl
