/-! ===== PURE: what a grant passes on ===== -/
def cN (x : Int32) : Nat := x.toNatClampNeg
def okN (n : Nat) (x : Int32) : Prop := x = nI (cN x) ∧ cN x < n
def okG (nT : Nat) (g : rw_) : Prop := okN 10 (g 0) ∧ okN 10 (g 1) ∧ okN nT (g 2) ∧ okN 8 (g 3) ∧ okN 101 (g 4)
def okT (t : rw_) : Prop := okN 10 (t 0) ∧ okN 8 (t 1)
def pa (T G : List rw_) (H : Nat → Int32) (k : Nat) : Int32 :=
  if H (10 * cN (G.getD k z_ 2) + cN (G.getD k z_ 0)) &&& (4 : Int32) = (0 : Int32) then 0
  else (G.getD k z_ 3 &&& H (10 * cN (G.getD k z_ 2) + cN (G.getD k z_ 0))) &&& T.getD (cN (G.getD k z_ 2)) z_ 1
theorem bd_some {α β : Type} {a : α} {f : α → Option β} : bd (some a) f = f a := rfl
theorem m_passes {al ho : Nat → Int32} {T G : List rw_} {k : Nat} (hG : MG al G) (hT : MT al T) (hk : k < G.length) (hl : G.length ≤ 40) (hlT : T.length ≤ 8) (ho1 : okG T.length (G.getD k z_)) : f_X6_passes (nI k) al ho = some (pa T G ho k) := by
  have e1 := hG.of hk hl (show 0 < 6 by omega)
  have e2 := hG.of hk hl (show 2 < 6 by omega)
  have e3 := hG.of hk hl (show 3 < 6 by omega)
  have e1 : f_X6_of (nI k) (1 : Int32) al = some (G.getD k z_ 0) := e1
  have e2 : f_X6_of (nI k) (3 : Int32) al = some (G.getD k z_ 2) := e2
  have e3 : f_X6_of (nI k) (4 : Int32) al = some (G.getD k z_ 3) := e3
  have hh : f_X6_holds (G.getD k z_ 0) (G.getD k z_ 2) ho = some (ho (10 * cN (G.getD k z_ 2) + cN (G.getD k z_ 0))) := by
    conv => lhs; rw [ho1.1.1, ho1.2.2.1.1]
    exact m_holds ho1.1.2 (Nat.lt_of_lt_of_le ho1.2.2.1.2 hlT)
  have hm : f_X6_mask (G.getD k z_ 2) al = some (T.getD (cN (G.getD k z_ 2)) z_ 1) := by
    conv => lhs; rw [ho1.2.2.1.1]
    exact hT.mask ho1.2.2.1.2 hlT
  unfold f_X6_passes pa
  simp only [e1, e2, e3, hh, hm, bd_some, nm]
  split <;> rfl
