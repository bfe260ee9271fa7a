/-! ===== PURE: numbers, and a table as a list of rows ===== -/
theorem n_at {a b : Nat} : nI a + nI b = nI (a + b) := nI_add a b
theorem n_mul {a b : Nat} : nI a * nI b = nI (a * b) := pk_mul a b
theorem n_le {a b : Nat} (ha : a < 2 ^ 31) (hb : b < 2 ^ 31) : nI a ≤ nI b ↔ a ≤ b := nI_leI ha hb
theorem n_lt {a b : Nat} (ha : a < 2 ^ 31) (hb : b < 2 ^ 31) : nI a < nI b ↔ a < b := nI_ltI ha hb
theorem n_ix {γ : Type} {i n : Nat} {k : Option γ} (h : i < n) (hn : n < 2 ^ 31) : ix (nI i) n k = k := by
  unfold ix
  rw [if_neg (nI_in h hn)]
theorem n_cl {i : Nat} (h : i < 2 ^ 31) : (nI i).toNatClampNeg = i := nI_clamp h
theorem n_idx {R C rows col n : Nat} (hR : R < rows) (hC : C < col) (hn : rows * col ≤ n) : R * col + C < n := by
  have h1 : (R + 1) * col ≤ rows * col := Nat.mul_le_mul_right _ hR
  rw [Nat.add_mul, Nat.one_mul] at h1
  omega
abbrev rw_ : Type := Nat → Int32
def z_ : rw_ := fun _ => 0
theorem p_at {col n R C rows : Nat} {f : Nat → Int32} (hR : R < rows) (hC : C < col) (hn : rows * col ≤ n) (hb : n < 100000) (h1 : rows < 100000) (h2 : col < 100000) : f_X3_at (nI col) n (nI R) (nI C) (nI rows) f = some (f (R * col + C)) := by
  have hi := n_idx hR hC hn
  unfold f_X3_at
  rw [if_neg (nI_pos (by omega)), if_neg (by rw [n_le (by omega) (by omega)]; omega), if_neg (nI_pos (by omega)), if_neg (by rw [n_le (by omega) (by omega)]; omega)]
  simp only [nm]
  rw [n_mul, n_at, if_neg (nI_pos (by omega)), if_neg (show ¬ Int32.ofNat n ≤ nI (R * col + C) from fun z => absurd ((n_le (a := n) (by omega) (by omega)).mp z) (by omega)), n_ix hi (by omega), n_cl (by omega)]
theorem p_put {col n R C rows : Nat} {f : Nat → Int32} {v : Int32} (hR : R < rows) (hC : C < col) (hn : rows * col ≤ n) (hb : n < 100000) (h1 : rows < 100000) (h2 : col < 100000) : f_X3_put (nI col) n (nI R) (nI C) v (nI rows) f = some (upd f (R * col + C) v) := by
  have hi := n_idx hR hC hn
  unfold f_X3_put
  rw [if_neg (nI_pos (by omega)), if_neg (by rw [n_le (by omega) (by omega)]; omega), if_neg (nI_pos (by omega)), if_neg (by rw [n_le (by omega) (by omega)]; omega)]
  simp only [nm]
  rw [n_mul, n_at]
  rw [if_neg (nI_pos (by omega)), if_neg (show ¬ Int32.ofNat n ≤ nI (R * col + C) from fun z => absurd ((n_le (a := n) (by omega) (by omega)).mp z) (by omega)), n_ix hi (by omega), n_cl (by omega)]
/-- a table's rows in use -/
def RT (col : Nat) (rows : Int32) (f : Nat → Int32) (L : List rw_) : Prop := rows = nI L.length ∧ ∀ k j : Nat, k < L.length → j < col → f (k * col + j) = L.getD k z_ j
theorem idx_inj {col k k' j j' : Nat} (hj : j < col) (hj' : j' < col) (h : k * col + j = k' * col + j') : k = k' ∧ j = j' := by
  have h0 : 0 < col := by omega
  have e1 : (k * col + j) / col = k := by rw [Nat.add_comm, Nat.add_mul_div_right _ _ h0, Nat.div_eq_of_lt hj, Nat.zero_add]
  have e2 : (k' * col + j') / col = k' := by rw [Nat.add_comm, Nat.add_mul_div_right _ _ h0, Nat.div_eq_of_lt hj', Nat.zero_add]
  have hk : k = k' := by rw [← e1, ← e2, h]
  subst hk
  exact ⟨rfl, by omega⟩
theorem RT.at {col n lim R C : Nat} {rows : Int32} {f : Nat → Int32} {L : List rw_} (h : RT col rows f L) (hR : R < L.length) (hC : C < col) (hl : L.length ≤ lim) (hn : lim * col ≤ n) (hb : n < 100000) (h1 : lim < 100000) (h2 : col < 100000) : f_X3_at (nI col) n (nI R) (nI C) rows f = some (L.getD R z_ C) := by
  rw [h.1, p_at hR hC (Nat.le_trans (Nat.mul_le_mul_right _ hl) hn) hb (by omega) h2, h.2 R C hR hC]
theorem RT.put {col n lim R C : Nat} {rows v : Int32} {f : Nat → Int32} {L : List rw_} (h : RT col rows f L) (hR : R < L.length) (hC : C < col) (hl : L.length ≤ lim) (hn : lim * col ≤ n) (hb : n < 100000) (h1 : lim < 100000) (h2 : col < 100000) :
    f_X3_put (nI col) n (nI R) (nI C) v rows f = some (upd f (R * col + C) v) ∧ RT col rows (upd f (R * col + C) v) (L.set R (upd (L.getD R z_) C v)) := by
  refine ⟨by rw [h.1, p_put hR hC (Nat.le_trans (Nat.mul_le_mul_right _ hl) hn) hb (by omega) h2], by rw [List.length_set]; exact h.1, fun k j hk hj => ?_⟩
  rw [List.length_set] at hk
  by_cases e : k = R
  · subst e
    rw [List.getD_eq_getElem?_getD, List.getElem?_set_self hk]
    show upd f (k * col + C) v (k * col + j) = upd (L.getD k z_) C v j
    by_cases ej : j = C
    · subst ej
      rw [pk_us, pk_us]
    · rw [pk_un (by omega), pk_un ej]
      exact h.2 k j hk hj
  · rw [pk_un (fun z => e (idx_inj hj hC z).1), List.getD_eq_getElem?_getD, List.getElem?_set_ne (Ne.symm e), ← List.getD_eq_getElem?_getD]
    exact h.2 k j hk hj
