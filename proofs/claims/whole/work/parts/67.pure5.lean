/-! ===== PURE: one lap over the grants, in both ===== -/
theorem ixo {γ : Type} {i : Int32} {n : Nat} (z : Option γ) (h : ¬ (i < 0 ∨ n ≤ i.toNatClampNeg)) : ix i n z = z := if_neg h
theorem ix5 {γ : Type} (z : Option γ) : ix (5 : Int32) 320 z = z := ixo z (by decide)
theorem ix4 {γ : Type} (z : Option γ) : ix (4 : Int32) 320 z = z := ixo z (by decide)
theorem bd2_some {α β γ : Type} {a : α} {b : β} {f : α → β → Option γ} : bd2 (some (a, b)) f = f a b := rfl
theorem nm_eq {α β : Type} {e : α} {k : α → β} : nm e k = k e := rfl
theorem MG.l {al : Nat → Int32} {G : List rw_} {k : Nat} (h : MG al G) (hk : k < G.length) (hl : G.length ≤ 40) : f_X6_of (nI k) (1 : Int32) al = some (G.getD k z_ 0) := by
  have e := h.of (j := 0) hk hl (by omega)
  exact e
theorem MG.b {al : Nat → Int32} {G : List rw_} {k : Nat} (h : MG al G) (hk : k < G.length) (hl : G.length ≤ 40) : f_X6_of (nI k) (2 : Int32) al = some (G.getD k z_ 1) := by
  have e := h.of (j := 1) hk hl (by omega)
  exact e
theorem MG.t {al : Nat → Int32} {G : List rw_} {k : Nat} (h : MG al G) (hk : k < G.length) (hl : G.length ≤ 40) : f_X6_of (nI k) (3 : Int32) al = some (G.getD k z_ 2) := by
  have e := h.of (j := 2) hk hl (by omega)
  exact e
theorem MG.r {al : Nat → Int32} {G : List rw_} {k : Nat} (h : MG al G) (hk : k < G.length) (hl : G.length ≤ 40) : f_X6_of (nI k) (4 : Int32) al = some (G.getD k z_ 3) := by
  have e := h.of (j := 3) hk hl (by omega)
  exact e
theorem MG.h {al : Nat → Int32} {G : List rw_} {k : Nat} (h : MG al G) (hk : k < G.length) (hl : G.length ≤ 40) : f_X6_of (nI k) (5 : Int32) al = some (G.getD k z_ 4) := by
  have e := h.of (j := 4) hk hl (by omega)
  exact e
theorem MG.n {al : Nat → Int32} {G : List rw_} {k : Nat} (h : MG al G) (hk : k < G.length) (hl : G.length ≤ 40) : f_X6_of (nI k) (0 : Int32) al = some (G.getD k z_ 5) := by
  have e := h.of (j := 5) hk hl (by omega)
  exact e
def ic (G : List rw_) (k : Nat) : Nat := 10 * cN (G.getD k z_ 2) + cN (G.getD k z_ 1)
def nv (T G : List rw_) (H : Nat → Int32) (k : Nat) : Int32 := H (ic G k) ||| pa T G H k
def lp (T G : List rw_) : Nat → Nat → Int32 → (Nat → Int32) → Int32 × (Nat → Int32)
  | 0, _, c, H => (c, H)
  | n + 1, k, c, H => lp T G n (k + 1) (if c = 0 then (if nv T G H k = H (ic G k) then 0 else 1) else 1) (upd H (ic G k) (nv T G H k))
theorem ic_lt {G : List rw_} {k nT : Nat} (h : okG nT (G.getD k z_)) (hT : nT ≤ 8) : ic G k < 80 ∧ ic G k < 10 * nT := by
  have := h.2.1.2
  have := h.2.2.1.2
  unfold ic
  omega
theorem m_lap {al : Nat → Int32} {T G : List rw_} (hG : MG al G) (hT : MT al T) (hl : G.length ≤ 40) (hlT : T.length ≤ 8) (hok : ∀ k : Nat, k < G.length → okG T.length (G.getD k z_)) : ∀ (n k F : Nat) (c : Int32) (ho : Nat → Int32), n + k = G.length → n < F → f_X6_lay_L66 al F c (nI k) ho = some (lp T G n k c ho)
  | _, _, 0, _, _, _, hF => absurd hF (by omega)
  | 0, k, F + 1, c, ho, h, hF => by
    have e5 : al (5 : Int32).toNatClampNeg = nI G.length := hG.1
    have hle : nI G.length ≤ nI k := (n_le (by omega) (by omega)).mpr (by omega)
    unfold f_X6_lay_L66 lp
    rw [ix5, e5, if_pos hle]
  | n + 1, k, F + 1, c, ho, h, hF => by
    have hk : k < G.length := by omega
    have e5 : al (5 : Int32).toNatClampNeg = nI G.length := hG.1
    have hle : ¬ nI G.length ≤ nI k := fun z => absurd ((n_le (by omega) (by omega)).mp z) (by omega)
    have o1 := hok k hk
    have e1 : f_X6_of (nI k) (3 : Int32) al = some (G.getD k z_ 2) := hG.t hk hl
    have e2 : f_X6_of (nI k) (2 : Int32) al = some (G.getD k z_ 1) := hG.b hk hl
    have ei : (10 : Int32) * G.getD k z_ 2 + G.getD k z_ 1 = nI (ic G k) := by
      rw [o1.2.2.1.1, o1.2.1.1, show (10 : Int32) = nI 10 from rfl, n_mul, n_at]
      rfl
    have ek : nI k + (1 : Int32) = nI (k + 1) := n_at
    have hlt := (ic_lt o1 hlT).1
    have ih := fun c ho => m_lap hG hT hl hlT hok n (k + 1) F c ho (by omega) (by omega)
    have hp := m_passes (ho := ho) hG hT hk hl hlT o1
    have hx : ∀ z : Option (Int32 × (Nat → Int32)), ix (nI (ic G k)) 80 z = z := fun z => n_ix hlt (by omega)
    have hc : (nI (ic G k)).toNatClampNeg = ic G k := n_cl (by omega)
    unfold f_X6_lay_L66 lp
    rw [ix5, e5, if_neg hle, e1, bd_some, e2, bd_some, nm_eq, ei, hx, hp, bd_some, nm_eq, hc]
    simp only [hx, nm_eq, ek, ih]
    by_cases h0 : c = 0
    · rw [if_pos h0, if_pos h0]
      by_cases hv : nv T G ho k = ho (ic G k)
      · rw [if_pos hv]
        exact if_pos hv
      · rw [if_neg hv]
        exact if_neg hv
    · rw [if_neg h0, if_neg h0]
      rfl
theorem h_lap {rT rG : Int32} {fT fG : Nat → Int32} {T G : List rw_} (hG : RT 6 rG fG G) (hT : RT 2 rT fT T) (hl : G.length ≤ 40) (hlT : T.length ≤ 8) (hok : ∀ k : Nat, k < G.length → okG T.length (G.getD k z_)) : ∀ (n k F : Nat) (c : Int32) (ho : Nat → Int32), n + k = G.length → n < F → f_X2_settle_L80 rT fT rG fG (nI T.length) F c (nI k) ho = some (lp T G n k c ho)
  | _, _, 0, _, _, _, hF => absurd hF (by omega)
  | 0, k, F + 1, c, ho, h, hF => by
    have hle : nI G.length ≤ nI k := (n_le (by omega) (by omega)).mpr (by omega)
    unfold f_X2_settle_L80 lp f_X3_rows
    rw [hG.1, bd_some, if_pos hle]
  | n + 1, k, F + 1, c, ho, h, hF => by
    have hk : k < G.length := by omega
    have hle : ¬ nI G.length ≤ nI k := fun z => absurd ((n_le (by omega) (by omega)).mp z) (by omega)
    have o1 := hok k hk
    have er : f_X3_rows rG = some (nI G.length) := by rw [hG.1]; rfl
    have e1 : f_X3_at (6 : Int32) 240 (nI k) (2 : Int32) rG fG = some (G.getD k z_ 2) := hG.g hk hl (show 2 < 6 by omega)
    have e2 : f_X3_at (6 : Int32) 240 (nI k) (1 : Int32) rG fG = some (G.getD k z_ 1) := hG.g hk hl (show 1 < 6 by omega)
    have e3 : f_X3_at (10 : Int32) 80 (G.getD k z_ 2) (G.getD k z_ 1) (nI T.length) ho = some (ho (ic G k)) := by
      conv => lhs; rw [o1.2.1.1, o1.2.2.1.1]
      exact h_at o1.2.1.2 o1.2.2.1.2 hlT
    have e4 : ∀ v : Int32, f_X3_put (10 : Int32) 80 (G.getD k z_ 2) (G.getD k z_ 1) v (nI T.length) ho = some (upd ho (ic G k) v) := fun v => by
      conv => lhs; rw [o1.2.1.1, o1.2.2.1.1]
      exact h_put o1.2.1.2 o1.2.2.1.2 hlT
    have ek : nI k + (1 : Int32) = nI (k + 1) := n_at
    have ih := fun c ho => h_lap hG hT hl hlT hok n (k + 1) F c ho (by omega) (by omega)
    unfold f_X2_settle_L80 lp
    rw [er, bd_some, if_neg hle, e1, bd_some, e2, bd_some, e3, bd_some, h_passes hG hT hk hl hlT o1, bd_some, nm_eq, e4, bd_some]
    simp only [nm_eq, ek, ih]
    by_cases h0 : c = 0
    · rw [if_pos h0, if_pos h0]
      by_cases hv : nv T G ho k = ho (ic G k)
      · rw [if_pos hv]
        exact if_pos hv
      · rw [if_neg hv]
        exact if_neg hv
    · rw [if_neg h0, if_neg h0]
      rfl
