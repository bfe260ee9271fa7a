/-! ===== PURE: the class's table of what is held; the same of what a grant passes on ===== -/
theorem h_at {nT t p : Nat} {fH : Nat → Int32} (hp : p < 10) (ht : t < nT) (hT : nT ≤ 8) : f_X3_at (10 : Int32) 80 (nI t) (nI p) (nI nT) fH = some (fH (10 * t + p)) := by
  have h := p_at (col := 10) (n := 80) (rows := nT) (f := fH) ht hp (by omega) (by omega) (by omega) (by omega)
  rw [Nat.mul_comm t 10] at h
  exact h
theorem h_put {nT t p : Nat} {fH : Nat → Int32} {v : Int32} (hp : p < 10) (ht : t < nT) (hT : nT ≤ 8) : f_X3_put (10 : Int32) 80 (nI t) (nI p) v (nI nT) fH = some (upd fH (10 * t + p) v) := by
  have h := p_put (col := 10) (n := 80) (rows := nT) (f := fH) (v := v) ht hp (by omega) (by omega) (by omega) (by omega)
  rw [Nat.mul_comm t 10] at h
  exact h
theorem RT.g {rG : Int32} {fG : Nat → Int32} {G : List rw_} {k j : Nat} (h : RT 6 rG fG G) (hk : k < G.length) (hl : G.length ≤ 40) (hj : j < 6) : f_X3_at (6 : Int32) 240 (nI k) (nI j) rG fG = some (G.getD k z_ j) :=
  h.at (lim := 40) hk hj hl (by omega) (by omega) (by omega) (by omega)
theorem RT.t {rT : Int32} {fT : Nat → Int32} {T : List rw_} {t j : Nat} (h : RT 2 rT fT T) (ht : t < T.length) (hl : T.length ≤ 8) (hj : j < 2) : f_X3_at (2 : Int32) 16 (nI t) (nI j) rT fT = some (T.getD t z_ j) :=
  h.at (lim := 8) ht hj hl (by omega) (by omega) (by omega) (by omega)
theorem h_passes {rT rG : Int32} {fT fG fH : Nat → Int32} {T G : List rw_} {k : Nat} (hG : RT 6 rG fG G) (hT : RT 2 rT fT T) (hk : k < G.length) (hl : G.length ≤ 40) (hlT : T.length ≤ 8) (ho1 : okG T.length (G.getD k z_)) : f_X2_passedOn (nI k) rT fT rG fG (nI T.length) fH = some (pa T G fH k) := by
  have e1 : f_X3_at (6 : Int32) 240 (nI k) (2 : Int32) rG fG = some (G.getD k z_ 2) := hG.g hk hl (show 2 < 6 by omega)
  have e2 : f_X3_at (6 : Int32) 240 (nI k) (0 : Int32) rG fG = some (G.getD k z_ 0) := hG.g hk hl (show 0 < 6 by omega)
  have e3 : f_X3_at (6 : Int32) 240 (nI k) (3 : Int32) rG fG = some (G.getD k z_ 3) := hG.g hk hl (show 3 < 6 by omega)
  have hh : f_X3_at (10 : Int32) 80 (G.getD k z_ 2) (G.getD k z_ 0) (nI T.length) fH = some (fH (10 * cN (G.getD k z_ 2) + cN (G.getD k z_ 0))) := by
    conv => lhs; rw [ho1.1.1, ho1.2.2.1.1]
    exact h_at ho1.1.2 ho1.2.2.1.2 hlT
  have hm : f_X3_at (2 : Int32) 16 (G.getD k z_ 2) (1 : Int32) rT fT = some (T.getD (cN (G.getD k z_ 2)) z_ 1) := by
    conv => lhs; rw [ho1.2.2.1.1]
    exact hT.t ho1.2.2.1.2 hlT (show 1 < 2 by omega)
  unfold f_X2_passedOn pa
  simp only [e1, e2, e3, hh, hm, bd_some, nm]
  split <;> rfl
