/-! ===== PURE: one lap over the grants, in both ===== -/
theorem ix5 {γ : Type} (z : Option γ) : ix (5 : Int32) 320 z = z := by
  unfold ix
  rw [if_neg (by decide)]
def ic (G : List rw_) (k : Nat) : Nat := 10 * cN (G.getD k z_ 2) + cN (G.getD k z_ 1)
def lp (T G : List rw_) : Nat → Nat → Int32 → (Nat → Int32) → Int32 × (Nat → Int32)
  | 0, _, c, H => (c, H)
  | n + 1, k, c, H => lp T G n (k + 1) (if c = 0 then (if H (ic G k) ||| pa T G H k = H (ic G k) then 0 else 1) else 1) (upd H (ic G k) (H (ic G k) ||| pa T G H k))
theorem m_lap {al : Nat → Int32} {T G : List rw_} (hG : MG al G) (hT : MT al T) (hl : G.length ≤ 40) (hlT : T.length ≤ 8) (hok : ∀ k : Nat, k < G.length → okG T.length (G.getD k z_)) : ∀ (n k F : Nat) (c : Int32) (ho : Nat → Int32), n + k = G.length → n < F → f_X6_lay_L66 al F c (nI k) ho = some (lp T G n k c ho)
  | 0, k, F + 1, c, ho, h, hF => by
    have e5 : al (5 : Int32).toNatClampNeg = nI G.length := hG.1
    have hle : nI G.length ≤ nI k := (n_le (by omega) (by omega)).mpr (by omega)
    unfold f_X6_lay_L66 lp
    rw [e5, if_pos hle]
    rfl
  | n + 1, k, F + 1, c, ho, h, hF => by
    have hk : k < G.length := by omega
    have e5 : al (5 : Int32).toNatClampNeg = nI G.length := hG.1
    have hle : ¬ nI G.length ≤ nI k := fun z => absurd ((n_le (by omega) (by omega)).mp z) (by omega)
    have o1 := hok k hk
    have e1 : f_X6_of (nI k) (3 : Int32) al = some (G.getD k z_ 2) := hG.of hk hl (show 2 < 6 by omega)
    have e2 : f_X6_of (nI k) (2 : Int32) al = some (G.getD k z_ 1) := hG.of hk hl (show 1 < 6 by omega)
    have hlt : ic G k < 80 := by
      have := o1.2.1.2
      have := o1.2.2.1.2
      unfold ic
      omega
    have ei : (10 : Int32) * G.getD k z_ 2 + G.getD k z_ 1 = nI (ic G k) := by
      rw [o1.2.2.1.1, o1.2.1.1, show (10 : Int32) = nI 10 from rfl, n_mul, n_at]
      rfl
    have ek : nI k + (1 : Int32) = nI (k + 1) := n_at
    have ih := fun c ho => m_lap hG hT hl hlT hok n (k + 1) F c ho (by omega) (by omega)
    have hp := m_passes (ho := ho) hG hT hk hl hlT o1
    unfold f_X6_lay_L66 lp
    rw [ix5]
    generalize pa T G ho k = x at *
    generalize ic G k = i at *
    have hx : ∀ z : Option (Int32 × (Nat → Int32)), ix (nI i) 80 z = z := fun z => n_ix hlt (by omega)
    have hc : (nI i).toNatClampNeg = i := n_cl (by omega)
    simp only [e5, if_neg hle, e1, e2, bd_some, nm, ei, hx, hc, hp, ek, ih]
    by_cases hc : c = 0
    · rw [if_pos hc, if_pos hc]
      by_cases hv : ho (ic G k) ||| pa T G ho k = ho (ic G k)
      · rw [if_pos hv, if_pos hv]
      · rw [if_neg hv, if_neg hv]
    · rw [if_neg hc, if_neg hc]
theorem h_lap {rT rG : Int32} {fT fG : Nat → Int32} {T G : List rw_} (hG : RT 6 rG fG G) (hT : RT 2 rT fT T) (hl : G.length ≤ 40) (hlT : T.length ≤ 8) (hok : ∀ k : Nat, k < G.length → okG T.length (G.getD k z_)) : ∀ (n k F : Nat) (c : Int32) (ho : Nat → Int32), n + k = G.length → n < F → f_X2_settle_L80 rT fT rG fG (nI T.length) F c (nI k) ho = some (lp T G n k c ho)
  | 0, k, F + 1, c, ho, h, hF => by
    have hle : nI G.length ≤ nI k := (n_le (by omega) (by omega)).mpr (by omega)
    unfold f_X2_settle_L80 lp f_X3_rows
    rw [hG.1, bd_some, if_pos hle]
  | n + 1, k, F + 1, c, ho, h, hF => by
    have hk : k < G.length := by omega
    have hle : ¬ nI G.length ≤ nI k := fun z => absurd ((n_le (by omega) (by omega)).mp z) (by omega)
    have o1 := hok k hk
    have er : f_X3_rows rG = some (nI G.length) := by rw [hG.1]; rfl
    have e1 : f_X3_at (6 : Int32) 240 (nI k) (2 : Int32) rG fG = some (G.getD k z_ 2) := hG.g hk hl (show 2 < 6 by omega)
    have e2 : f_X3_at (6 : Int32) 240 (nI k) (1 : Int32) rG fG = some (G.getD k z_ 1) := hG.g hk hl (show 1 < 6 by omega)
    have e3 : f_X3_at (10 : Int32) 80 (G.getD k z_ 2) (G.getD k z_ 1) (nI T.length) ho = some (ho (ic G k)) := by
      conv => lhs; rw [o1.2.1.1, o1.2.2.1.1]
      exact h_at o1.2.1.2 o1.2.2.1.2 hlT
    have e4 : ∀ v : Int32, f_X3_put (10 : Int32) 80 (G.getD k z_ 2) (G.getD k z_ 1) v (nI T.length) ho = some (upd ho (ic G k) v) := fun v => by
      conv => lhs; rw [o1.2.1.1, o1.2.2.1.1]
      exact h_put o1.2.1.2 o1.2.2.1.2 hlT
    have ek : nI k + (1 : Int32) = nI (k + 1) := n_at
    have ih := fun c ho => h_lap hG hT hl hlT hok n (k + 1) F c ho (by omega) (by omega)
    unfold f_X2_settle_L80 lp
    simp only [er, bd_some, if_neg hle, e1, e2, e3, h_passes hG hT hk hl hlT o1, nm, e4, ek, ih]
    split
    · split <;> rfl
    · rfl
