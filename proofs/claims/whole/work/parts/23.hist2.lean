def f_X1_count (cn : Int32) : Option (Int32) :=
  some cn
set_option maxHeartbeats 4000000 in
set_option maxRecDepth 100000 in
theorem c_X1_count (l : Launch) (X : cx_G) (y : (Nat → Nat)) (hy : (Nat → Nat → Nat)) (cn : Int32) (ro : Nat) (Qh : (Nat → HS)) (r : Int32) (hf : f_X1_count cn = some r) : Fn l yX1_count wsX1_count ({ frames := 0, cells := 0, slots := 0, locals := 0 } : Room) X [.ref (y 0)] (wHi X y hy cn ro Qh) (some (.int r)) (wHi X y hy cn ro Qh) := by
  refine fn_intro (cc := cX1_count) (maxL := 1) (ret := (some .int)) (by decide) rfl rfl (Nat.le_of_ble_eq_true rfl) ?_
  intro p e s m args below meth c A ls hx hb hml hr hts hown hlocks hK hP hD0 hS hA hl
  have hown : s.vm.findClass RX1 = some m.cls := hown
  have hl : lv_has ls 1 [(0, .ref (y 0))] := hl
  have hiX1 : ∀ w ∈ u_ws RX1 TX1 2, w ∈ wsX1_count := by decide +kernel
  have k18 := hts (.fieldLink RX1 18 "LentRights$History" "count" "I") (by decide +kernel)
  unfold f_X1_count at hf
  refine lv_aload_n hx hb dX1_count_0 rfl (lv_at hl 0 rfl) ?_
  refine va_get (D := X.1) (ci := 1) (v := .int cn) (C := RX1) (T := TX1) (N := 2) hx hb hts hiX1 hown hK.1 hP 0 rfl rfl 1 (by decide) k18 (fun _ h9 => h9) rfl dX1_count_1 ?_
  cases hf
  exact fn_iret hx hb hr hlocks hP hS dX1_count_4
def hk_put (cn' : Int32) (ro' j : Nat) (Q : Nat → HS) (rP2 : Int32) (fP2 : (Nat → Int32)) (rT2 : Int32) (fT2 : (Nat → Int32)) (rG2 : Int32) (fG2 : (Nat → Int32)) (rL2 : Int32) (fL2 : (Nat → Int32)) (rH2 : Int32) (fH2 : (Nat → Int32)) (gi2 : Int32) (di2 : Int32) (re2 : Int32) (ti2 : Int32) : Option (Int32 × Nat × (Nat → HS)) :=
  bd14 (f_X2_takeOver (Q j).1 (Q j).2.1 (Q j).2.2.1 (Q j).2.2.2.1 (Q j).2.2.2.2.1 (Q j).2.2.2.2.2.1 (Q j).2.2.2.2.2.2.1 (Q j).2.2.2.2.2.2.2.1 (Q j).2.2.2.2.2.2.2.2.1 (Q j).2.2.2.2.2.2.2.2.2.1 (Q j).2.2.2.2.2.2.2.2.2.2.1 (Q j).2.2.2.2.2.2.2.2.2.2.2.1 (Q j).2.2.2.2.2.2.2.2.2.2.2.2.1 (Q j).2.2.2.2.2.2.2.2.2.2.2.2.2 rP2 fP2 rT2 fT2 rG2 fG2 rL2 fL2 rH2 fH2 gi2 di2 re2 ti2) (fun a0 a1 a2 a3 a4 a5 a6 a7 a8 a9 a10 a11 a12 a13 => some (cn', ro', fun i => if i = j then (a0, a1, a2, a3, a4, a5, a6, a7, a8, a9, a10, a11, a12, a13) else Q i))
def hk_gb (cn' : Int32) (j : Nat) (Q : Nat → HS) (rP2 : Int32) (fP2 : (Nat → Int32)) (rT2 : Int32) (fT2 : (Nat → Int32)) (rG2 : Int32) (fG2 : (Nat → Int32)) (rL2 : Int32) (fL2 : (Nat → Int32)) (rH2 : Int32) (fH2 : (Nat → Int32)) (gi2 : Int32) (di2 : Int32) (re2 : Int32) (ti2 : Int32) : Option (Int32 × Int32 × (Nat → Int32) × Int32 × (Nat → Int32) × Int32 × (Nat → Int32) × Int32 × (Nat → Int32) × Int32 × (Nat → Int32) × Int32 × Int32 × Int32 × Int32) :=
  bd14 (f_X2_takeOver rP2 fP2 rT2 fT2 rG2 fG2 rL2 fL2 rH2 fH2 gi2 di2 re2 ti2 (Q j).1 (Q j).2.1 (Q j).2.2.1 (Q j).2.2.2.1 (Q j).2.2.2.2.1 (Q j).2.2.2.2.2.1 (Q j).2.2.2.2.2.2.1 (Q j).2.2.2.2.2.2.2.1 (Q j).2.2.2.2.2.2.2.2.1 (Q j).2.2.2.2.2.2.2.2.2.1 (Q j).2.2.2.2.2.2.2.2.2.2.1 (Q j).2.2.2.2.2.2.2.2.2.2.2.1 (Q j).2.2.2.2.2.2.2.2.2.2.2.2.1 (Q j).2.2.2.2.2.2.2.2.2.2.2.2.2) (fun a0 a1 a2 a3 a4 a5 a6 a7 a8 a9 a10 a11 a12 a13 => some (cn', a0, a1, a2, a3, a4, a5, a6, a7, a8, a9, a10, a11, a12, a13))
def f_X1_keep (cn : Int32) (ro : Nat) (Q : Nat → HS) (rP2 : Int32) (fP2 : (Nat → Int32)) (rT2 : Int32) (fT2 : (Nat → Int32)) (rG2 : Int32) (fG2 : (Nat → Int32)) (rL2 : Int32) (fL2 : (Nat → Int32)) (rH2 : Int32) (fH2 : (Nat → Int32)) (gi2 : Int32) (di2 : Int32) (re2 : Int32) (ti2 : Int32) : Option (Int32 × Nat × (Nat → HS)) :=
  if 4 ≤ ro then none else if cn = (0 : Int32) then hk_put 1 ro ((0 + ro) % 4) Q rP2 fP2 rT2 fT2 rG2 fG2 rL2 fL2 rH2 fH2 gi2 di2 re2 ti2 else if cn = (1 : Int32) then hk_put 2 ro ((1 + ro) % 4) Q rP2 fP2 rT2 fT2 rG2 fG2 rL2 fL2 rH2 fH2 gi2 di2 re2 ti2 else if cn = (2 : Int32) then hk_put 3 ro ((2 + ro) % 4) Q rP2 fP2 rT2 fT2 rG2 fG2 rL2 fL2 rH2 fH2 gi2 di2 re2 ti2 else if cn = (3 : Int32) then hk_put 4 ro ((3 + ro) % 4) Q rP2 fP2 rT2 fT2 rG2 fG2 rL2 fL2 rH2 fH2 gi2 di2 re2 ti2 else if cn = (4 : Int32) then hk_put 4 ((ro + 1) % 4) ro Q rP2 fP2 rT2 fT2 rG2 fG2 rL2 fL2 rH2 fH2 gi2 di2 re2 ti2 else none
def f_X1_giveBack (cn : Int32) (ro : Nat) (Q : Nat → HS) (rP2 : Int32) (fP2 : (Nat → Int32)) (rT2 : Int32) (fT2 : (Nat → Int32)) (rG2 : Int32) (fG2 : (Nat → Int32)) (rL2 : Int32) (fL2 : (Nat → Int32)) (rH2 : Int32) (fH2 : (Nat → Int32)) (gi2 : Int32) (di2 : Int32) (re2 : Int32) (ti2 : Int32) : Option (Int32 × Int32 × (Nat → Int32) × Int32 × (Nat → Int32) × Int32 × (Nat → Int32) × Int32 × (Nat → Int32) × Int32 × (Nat → Int32) × Int32 × Int32 × Int32 × Int32) :=
  if 4 ≤ ro then none else if cn = (1 : Int32) then hk_gb 0 ((0 + ro) % 4) Q rP2 fP2 rT2 fT2 rG2 fG2 rL2 fL2 rH2 fH2 gi2 di2 re2 ti2 else if cn = (2 : Int32) then hk_gb 1 ((1 + ro) % 4) Q rP2 fP2 rT2 fT2 rG2 fG2 rL2 fL2 rH2 fH2 gi2 di2 re2 ti2 else if cn = (3 : Int32) then hk_gb 2 ((2 + ro) % 4) Q rP2 fP2 rT2 fT2 rG2 fG2 rL2 fL2 rH2 fH2 gi2 di2 re2 ti2 else if cn = (4 : Int32) then hk_gb 3 ((3 + ro) % 4) Q rP2 fP2 rT2 fT2 rG2 fG2 rL2 fL2 rH2 fH2 gi2 di2 re2 ti2 else none
set_option maxHeartbeats 4000000 in
set_option maxRecDepth 100000 in
theorem c_X1_keep (l : Launch) (X : cx_G) (y : (Nat → Nat)) (hy : (Nat → Nat → Nat)) (h2 : (Nat → Nat)) (cn : Int32) (ro : Nat) (Qh : (Nat → HS)) (rP2 : Int32) (fP2 : (Nat → Int32)) (rT2 : Int32) (fT2 : (Nat → Int32)) (rG2 : Int32) (fG2 : (Nat → Int32)) (rL2 : Int32) (fL2 : (Nat → Int32)) (rH2 : Int32) (fH2 : (Nat → Int32)) (gi2 : Int32) (di2 : Int32) (re2 : Int32) (ti2 : Int32) (cn' : Int32) (ro' : Nat) (Qh' : (Nat → HS)) (hf : f_X1_keep cn ro Qh rP2 fP2 rT2 fT2 rG2 fG2 rL2 fL2 rH2 fH2 gi2 di2 re2 ti2 = some (cn', ro', Qh')) : Fn l yX1_keep wsX1_keep ({ frames := 2, cells := 0, slots := 0, locals := 44 } : Room) X [.ref (y 0), .ref (h2 0)] ((wHi X y hy cn ro Qh) ++ (wHo X h2 rP2 fP2 rT2 fT2 rG2 fG2 rL2 fL2 rH2 fH2 gi2 di2 re2 ti2)) none ((wHi X y hy cn' ro' Qh') ++ (wHo X h2 rP2 fP2 rT2 fT2 rG2 fG2 rL2 fL2 rH2 fH2 gi2 di2 re2 ti2)) := by
  unfold f_X1_keep at hf
  by_cases c0 : 4 ≤ ro
  · rw [if_pos c0] at hf; cases hf
  · rw [if_neg c0] at hf
    have hro : ro = 0 ∨ ro = 1 ∨ ro = 2 ∨ ro = 3 := by omega
    by_cases ck0 : cn = (0 : Int32)
    · rw [if_pos ck0] at hf; subst ck0
      rcases hro with rfl | rfl | rfl | rfl
      · obtain ⟨b0, b1, b2, b3, b4, b5, b6, b7, b8, b9, b10, b11, b12, b13, h1, hf⟩ := bd14_of hf
        cases hf
        exact hk_keep_0_0 l X y hy (Qh 0) (Qh 1) (Qh 2) (Qh 3) h2 rP2 fP2 rT2 fT2 rG2 fG2 rL2 fL2 rH2 fH2 gi2 di2 re2 ti2 b0 b1 b2 b3 b4 b5 b6 b7 b8 b9 b10 b11 b12 b13 h1
      · obtain ⟨b0, b1, b2, b3, b4, b5, b6, b7, b8, b9, b10, b11, b12, b13, h1, hf⟩ := bd14_of hf
        cases hf
        exact hk_keep_0_1 l X y hy (Qh 0) (Qh 1) (Qh 2) (Qh 3) h2 rP2 fP2 rT2 fT2 rG2 fG2 rL2 fL2 rH2 fH2 gi2 di2 re2 ti2 b0 b1 b2 b3 b4 b5 b6 b7 b8 b9 b10 b11 b12 b13 h1
      · obtain ⟨b0, b1, b2, b3, b4, b5, b6, b7, b8, b9, b10, b11, b12, b13, h1, hf⟩ := bd14_of hf
        cases hf
        exact hk_keep_0_2 l X y hy (Qh 0) (Qh 1) (Qh 2) (Qh 3) h2 rP2 fP2 rT2 fT2 rG2 fG2 rL2 fL2 rH2 fH2 gi2 di2 re2 ti2 b0 b1 b2 b3 b4 b5 b6 b7 b8 b9 b10 b11 b12 b13 h1
      · obtain ⟨b0, b1, b2, b3, b4, b5, b6, b7, b8, b9, b10, b11, b12, b13, h1, hf⟩ := bd14_of hf
        cases hf
        exact hk_keep_0_3 l X y hy (Qh 0) (Qh 1) (Qh 2) (Qh 3) h2 rP2 fP2 rT2 fT2 rG2 fG2 rL2 fL2 rH2 fH2 gi2 di2 re2 ti2 b0 b1 b2 b3 b4 b5 b6 b7 b8 b9 b10 b11 b12 b13 h1
    · rw [if_neg ck0] at hf
      by_cases ck1 : cn = (1 : Int32)
      · rw [if_pos ck1] at hf; subst ck1
        rcases hro with rfl | rfl | rfl | rfl
        · obtain ⟨b0, b1, b2, b3, b4, b5, b6, b7, b8, b9, b10, b11, b12, b13, h1, hf⟩ := bd14_of hf
          cases hf
          exact hk_keep_1_0 l X y hy (Qh 0) (Qh 1) (Qh 2) (Qh 3) h2 rP2 fP2 rT2 fT2 rG2 fG2 rL2 fL2 rH2 fH2 gi2 di2 re2 ti2 b0 b1 b2 b3 b4 b5 b6 b7 b8 b9 b10 b11 b12 b13 h1
        · obtain ⟨b0, b1, b2, b3, b4, b5, b6, b7, b8, b9, b10, b11, b12, b13, h1, hf⟩ := bd14_of hf
          cases hf
          exact hk_keep_1_1 l X y hy (Qh 0) (Qh 1) (Qh 2) (Qh 3) h2 rP2 fP2 rT2 fT2 rG2 fG2 rL2 fL2 rH2 fH2 gi2 di2 re2 ti2 b0 b1 b2 b3 b4 b5 b6 b7 b8 b9 b10 b11 b12 b13 h1
        · obtain ⟨b0, b1, b2, b3, b4, b5, b6, b7, b8, b9, b10, b11, b12, b13, h1, hf⟩ := bd14_of hf
          cases hf
          exact hk_keep_1_2 l X y hy (Qh 0) (Qh 1) (Qh 2) (Qh 3) h2 rP2 fP2 rT2 fT2 rG2 fG2 rL2 fL2 rH2 fH2 gi2 di2 re2 ti2 b0 b1 b2 b3 b4 b5 b6 b7 b8 b9 b10 b11 b12 b13 h1
        · obtain ⟨b0, b1, b2, b3, b4, b5, b6, b7, b8, b9, b10, b11, b12, b13, h1, hf⟩ := bd14_of hf
          cases hf
          exact hk_keep_1_3 l X y hy (Qh 0) (Qh 1) (Qh 2) (Qh 3) h2 rP2 fP2 rT2 fT2 rG2 fG2 rL2 fL2 rH2 fH2 gi2 di2 re2 ti2 b0 b1 b2 b3 b4 b5 b6 b7 b8 b9 b10 b11 b12 b13 h1
      · rw [if_neg ck1] at hf
        by_cases ck2 : cn = (2 : Int32)
        · rw [if_pos ck2] at hf; subst ck2
          rcases hro with rfl | rfl | rfl | rfl
          · obtain ⟨b0, b1, b2, b3, b4, b5, b6, b7, b8, b9, b10, b11, b12, b13, h1, hf⟩ := bd14_of hf
            cases hf
            exact hk_keep_2_0 l X y hy (Qh 0) (Qh 1) (Qh 2) (Qh 3) h2 rP2 fP2 rT2 fT2 rG2 fG2 rL2 fL2 rH2 fH2 gi2 di2 re2 ti2 b0 b1 b2 b3 b4 b5 b6 b7 b8 b9 b10 b11 b12 b13 h1
          · obtain ⟨b0, b1, b2, b3, b4, b5, b6, b7, b8, b9, b10, b11, b12, b13, h1, hf⟩ := bd14_of hf
            cases hf
            exact hk_keep_2_1 l X y hy (Qh 0) (Qh 1) (Qh 2) (Qh 3) h2 rP2 fP2 rT2 fT2 rG2 fG2 rL2 fL2 rH2 fH2 gi2 di2 re2 ti2 b0 b1 b2 b3 b4 b5 b6 b7 b8 b9 b10 b11 b12 b13 h1
          · obtain ⟨b0, b1, b2, b3, b4, b5, b6, b7, b8, b9, b10, b11, b12, b13, h1, hf⟩ := bd14_of hf
            cases hf
            exact hk_keep_2_2 l X y hy (Qh 0) (Qh 1) (Qh 2) (Qh 3) h2 rP2 fP2 rT2 fT2 rG2 fG2 rL2 fL2 rH2 fH2 gi2 di2 re2 ti2 b0 b1 b2 b3 b4 b5 b6 b7 b8 b9 b10 b11 b12 b13 h1
          · obtain ⟨b0, b1, b2, b3, b4, b5, b6, b7, b8, b9, b10, b11, b12, b13, h1, hf⟩ := bd14_of hf
            cases hf
            exact hk_keep_2_3 l X y hy (Qh 0) (Qh 1) (Qh 2) (Qh 3) h2 rP2 fP2 rT2 fT2 rG2 fG2 rL2 fL2 rH2 fH2 gi2 di2 re2 ti2 b0 b1 b2 b3 b4 b5 b6 b7 b8 b9 b10 b11 b12 b13 h1
        · rw [if_neg ck2] at hf
          by_cases ck3 : cn = (3 : Int32)
          · rw [if_pos ck3] at hf; subst ck3
            rcases hro with rfl | rfl | rfl | rfl
            · obtain ⟨b0, b1, b2, b3, b4, b5, b6, b7, b8, b9, b10, b11, b12, b13, h1, hf⟩ := bd14_of hf
              cases hf
              exact hk_keep_3_0 l X y hy (Qh 0) (Qh 1) (Qh 2) (Qh 3) h2 rP2 fP2 rT2 fT2 rG2 fG2 rL2 fL2 rH2 fH2 gi2 di2 re2 ti2 b0 b1 b2 b3 b4 b5 b6 b7 b8 b9 b10 b11 b12 b13 h1
            · obtain ⟨b0, b1, b2, b3, b4, b5, b6, b7, b8, b9, b10, b11, b12, b13, h1, hf⟩ := bd14_of hf
              cases hf
              exact hk_keep_3_1 l X y hy (Qh 0) (Qh 1) (Qh 2) (Qh 3) h2 rP2 fP2 rT2 fT2 rG2 fG2 rL2 fL2 rH2 fH2 gi2 di2 re2 ti2 b0 b1 b2 b3 b4 b5 b6 b7 b8 b9 b10 b11 b12 b13 h1
            · obtain ⟨b0, b1, b2, b3, b4, b5, b6, b7, b8, b9, b10, b11, b12, b13, h1, hf⟩ := bd14_of hf
              cases hf
              exact hk_keep_3_2 l X y hy (Qh 0) (Qh 1) (Qh 2) (Qh 3) h2 rP2 fP2 rT2 fT2 rG2 fG2 rL2 fL2 rH2 fH2 gi2 di2 re2 ti2 b0 b1 b2 b3 b4 b5 b6 b7 b8 b9 b10 b11 b12 b13 h1
            · obtain ⟨b0, b1, b2, b3, b4, b5, b6, b7, b8, b9, b10, b11, b12, b13, h1, hf⟩ := bd14_of hf
              cases hf
              exact hk_keep_3_3 l X y hy (Qh 0) (Qh 1) (Qh 2) (Qh 3) h2 rP2 fP2 rT2 fT2 rG2 fG2 rL2 fL2 rH2 fH2 gi2 di2 re2 ti2 b0 b1 b2 b3 b4 b5 b6 b7 b8 b9 b10 b11 b12 b13 h1
          · rw [if_neg ck3] at hf
            by_cases ck4 : cn = (4 : Int32)
            · rw [if_pos ck4] at hf; subst ck4
              rcases hro with rfl | rfl | rfl | rfl
              · obtain ⟨b0, b1, b2, b3, b4, b5, b6, b7, b8, b9, b10, b11, b12, b13, h1, hf⟩ := bd14_of hf
                cases hf
                exact hk_keep_4_0 l X y hy (Qh 0) (Qh 1) (Qh 2) (Qh 3) h2 rP2 fP2 rT2 fT2 rG2 fG2 rL2 fL2 rH2 fH2 gi2 di2 re2 ti2 b0 b1 b2 b3 b4 b5 b6 b7 b8 b9 b10 b11 b12 b13 h1
              · obtain ⟨b0, b1, b2, b3, b4, b5, b6, b7, b8, b9, b10, b11, b12, b13, h1, hf⟩ := bd14_of hf
                cases hf
                exact hk_keep_4_1 l X y hy (Qh 0) (Qh 1) (Qh 2) (Qh 3) h2 rP2 fP2 rT2 fT2 rG2 fG2 rL2 fL2 rH2 fH2 gi2 di2 re2 ti2 b0 b1 b2 b3 b4 b5 b6 b7 b8 b9 b10 b11 b12 b13 h1
              · obtain ⟨b0, b1, b2, b3, b4, b5, b6, b7, b8, b9, b10, b11, b12, b13, h1, hf⟩ := bd14_of hf
                cases hf
                exact hk_keep_4_2 l X y hy (Qh 0) (Qh 1) (Qh 2) (Qh 3) h2 rP2 fP2 rT2 fT2 rG2 fG2 rL2 fL2 rH2 fH2 gi2 di2 re2 ti2 b0 b1 b2 b3 b4 b5 b6 b7 b8 b9 b10 b11 b12 b13 h1
              · obtain ⟨b0, b1, b2, b3, b4, b5, b6, b7, b8, b9, b10, b11, b12, b13, h1, hf⟩ := bd14_of hf
                cases hf
                exact hk_keep_4_3 l X y hy (Qh 0) (Qh 1) (Qh 2) (Qh 3) h2 rP2 fP2 rT2 fT2 rG2 fG2 rL2 fL2 rH2 fH2 gi2 di2 re2 ti2 b0 b1 b2 b3 b4 b5 b6 b7 b8 b9 b10 b11 b12 b13 h1
            · rw [if_neg ck4] at hf
              cases hf
set_option maxHeartbeats 4000000 in
set_option maxRecDepth 100000 in
theorem c_X1_giveBack (l : Launch) (X : cx_G) (y : (Nat → Nat)) (hy : (Nat → Nat → Nat)) (h2 : (Nat → Nat)) (cn : Int32) (ro : Nat) (Qh : (Nat → HS)) (rP2 : Int32) (fP2 : (Nat → Int32)) (rT2 : Int32) (fT2 : (Nat → Int32)) (rG2 : Int32) (fG2 : (Nat → Int32)) (rL2 : Int32) (fL2 : (Nat → Int32)) (rH2 : Int32) (fH2 : (Nat → Int32)) (gi2 : Int32) (di2 : Int32) (re2 : Int32) (ti2 : Int32) (cn' : Int32) (rP2' : Int32) (fP2' : (Nat → Int32)) (rT2' : Int32) (fT2' : (Nat → Int32)) (rG2' : Int32) (fG2' : (Nat → Int32)) (rL2' : Int32) (fL2' : (Nat → Int32)) (rH2' : Int32) (fH2' : (Nat → Int32)) (gi2' : Int32) (di2' : Int32) (re2' : Int32) (ti2' : Int32) (hf : f_X1_giveBack cn ro Qh rP2 fP2 rT2 fT2 rG2 fG2 rL2 fL2 rH2 fH2 gi2 di2 re2 ti2 = some (cn', rP2', fP2', rT2', fT2', rG2', fG2', rL2', fL2', rH2', fH2', gi2', di2', re2', ti2')) : Fn l yX1_giveBack wsX1_giveBack ({ frames := 2, cells := 0, slots := 0, locals := 44 } : Room) X [.ref (y 0), .ref (h2 0)] ((wHi X y hy cn ro Qh) ++ (wHo X h2 rP2 fP2 rT2 fT2 rG2 fG2 rL2 fL2 rH2 fH2 gi2 di2 re2 ti2)) none ((wHi X y hy cn' ro Qh) ++ (wHo X h2 rP2' fP2' rT2' fT2' rG2' fG2' rL2' fL2' rH2' fH2' gi2' di2' re2' ti2')) := by
  unfold f_X1_giveBack at hf
  by_cases c0 : 4 ≤ ro
  · rw [if_pos c0] at hf; cases hf
  · rw [if_neg c0] at hf
    have hro : ro = 0 ∨ ro = 1 ∨ ro = 2 ∨ ro = 3 := by omega
    by_cases ck1 : cn = (1 : Int32)
    · rw [if_pos ck1] at hf; subst ck1
      rcases hro with rfl | rfl | rfl | rfl
      · obtain ⟨b0, b1, b2, b3, b4, b5, b6, b7, b8, b9, b10, b11, b12, b13, h1, hf⟩ := bd14_of hf
        cases hf
        exact hk_give_1_0 l X y hy (Qh 0) (Qh 1) (Qh 2) (Qh 3) h2 rP2 fP2 rT2 fT2 rG2 fG2 rL2 fL2 rH2 fH2 gi2 di2 re2 ti2 rP2' fP2' rT2' fT2' rG2' fG2' rL2' fL2' rH2' fH2' gi2' di2' re2' ti2' h1
      · obtain ⟨b0, b1, b2, b3, b4, b5, b6, b7, b8, b9, b10, b11, b12, b13, h1, hf⟩ := bd14_of hf
        cases hf
        exact hk_give_1_1 l X y hy (Qh 0) (Qh 1) (Qh 2) (Qh 3) h2 rP2 fP2 rT2 fT2 rG2 fG2 rL2 fL2 rH2 fH2 gi2 di2 re2 ti2 rP2' fP2' rT2' fT2' rG2' fG2' rL2' fL2' rH2' fH2' gi2' di2' re2' ti2' h1
      · obtain ⟨b0, b1, b2, b3, b4, b5, b6, b7, b8, b9, b10, b11, b12, b13, h1, hf⟩ := bd14_of hf
        cases hf
        exact hk_give_1_2 l X y hy (Qh 0) (Qh 1) (Qh 2) (Qh 3) h2 rP2 fP2 rT2 fT2 rG2 fG2 rL2 fL2 rH2 fH2 gi2 di2 re2 ti2 rP2' fP2' rT2' fT2' rG2' fG2' rL2' fL2' rH2' fH2' gi2' di2' re2' ti2' h1
      · obtain ⟨b0, b1, b2, b3, b4, b5, b6, b7, b8, b9, b10, b11, b12, b13, h1, hf⟩ := bd14_of hf
        cases hf
        exact hk_give_1_3 l X y hy (Qh 0) (Qh 1) (Qh 2) (Qh 3) h2 rP2 fP2 rT2 fT2 rG2 fG2 rL2 fL2 rH2 fH2 gi2 di2 re2 ti2 rP2' fP2' rT2' fT2' rG2' fG2' rL2' fL2' rH2' fH2' gi2' di2' re2' ti2' h1
    · rw [if_neg ck1] at hf
      by_cases ck2 : cn = (2 : Int32)
      · rw [if_pos ck2] at hf; subst ck2
        rcases hro with rfl | rfl | rfl | rfl
        · obtain ⟨b0, b1, b2, b3, b4, b5, b6, b7, b8, b9, b10, b11, b12, b13, h1, hf⟩ := bd14_of hf
          cases hf
          exact hk_give_2_0 l X y hy (Qh 0) (Qh 1) (Qh 2) (Qh 3) h2 rP2 fP2 rT2 fT2 rG2 fG2 rL2 fL2 rH2 fH2 gi2 di2 re2 ti2 rP2' fP2' rT2' fT2' rG2' fG2' rL2' fL2' rH2' fH2' gi2' di2' re2' ti2' h1
        · obtain ⟨b0, b1, b2, b3, b4, b5, b6, b7, b8, b9, b10, b11, b12, b13, h1, hf⟩ := bd14_of hf
          cases hf
          exact hk_give_2_1 l X y hy (Qh 0) (Qh 1) (Qh 2) (Qh 3) h2 rP2 fP2 rT2 fT2 rG2 fG2 rL2 fL2 rH2 fH2 gi2 di2 re2 ti2 rP2' fP2' rT2' fT2' rG2' fG2' rL2' fL2' rH2' fH2' gi2' di2' re2' ti2' h1
        · obtain ⟨b0, b1, b2, b3, b4, b5, b6, b7, b8, b9, b10, b11, b12, b13, h1, hf⟩ := bd14_of hf
          cases hf
          exact hk_give_2_2 l X y hy (Qh 0) (Qh 1) (Qh 2) (Qh 3) h2 rP2 fP2 rT2 fT2 rG2 fG2 rL2 fL2 rH2 fH2 gi2 di2 re2 ti2 rP2' fP2' rT2' fT2' rG2' fG2' rL2' fL2' rH2' fH2' gi2' di2' re2' ti2' h1
        · obtain ⟨b0, b1, b2, b3, b4, b5, b6, b7, b8, b9, b10, b11, b12, b13, h1, hf⟩ := bd14_of hf
          cases hf
          exact hk_give_2_3 l X y hy (Qh 0) (Qh 1) (Qh 2) (Qh 3) h2 rP2 fP2 rT2 fT2 rG2 fG2 rL2 fL2 rH2 fH2 gi2 di2 re2 ti2 rP2' fP2' rT2' fT2' rG2' fG2' rL2' fL2' rH2' fH2' gi2' di2' re2' ti2' h1
      · rw [if_neg ck2] at hf
        by_cases ck3 : cn = (3 : Int32)
        · rw [if_pos ck3] at hf; subst ck3
          rcases hro with rfl | rfl | rfl | rfl
          · obtain ⟨b0, b1, b2, b3, b4, b5, b6, b7, b8, b9, b10, b11, b12, b13, h1, hf⟩ := bd14_of hf
            cases hf
            exact hk_give_3_0 l X y hy (Qh 0) (Qh 1) (Qh 2) (Qh 3) h2 rP2 fP2 rT2 fT2 rG2 fG2 rL2 fL2 rH2 fH2 gi2 di2 re2 ti2 rP2' fP2' rT2' fT2' rG2' fG2' rL2' fL2' rH2' fH2' gi2' di2' re2' ti2' h1
          · obtain ⟨b0, b1, b2, b3, b4, b5, b6, b7, b8, b9, b10, b11, b12, b13, h1, hf⟩ := bd14_of hf
            cases hf
            exact hk_give_3_1 l X y hy (Qh 0) (Qh 1) (Qh 2) (Qh 3) h2 rP2 fP2 rT2 fT2 rG2 fG2 rL2 fL2 rH2 fH2 gi2 di2 re2 ti2 rP2' fP2' rT2' fT2' rG2' fG2' rL2' fL2' rH2' fH2' gi2' di2' re2' ti2' h1
          · obtain ⟨b0, b1, b2, b3, b4, b5, b6, b7, b8, b9, b10, b11, b12, b13, h1, hf⟩ := bd14_of hf
            cases hf
            exact hk_give_3_2 l X y hy (Qh 0) (Qh 1) (Qh 2) (Qh 3) h2 rP2 fP2 rT2 fT2 rG2 fG2 rL2 fL2 rH2 fH2 gi2 di2 re2 ti2 rP2' fP2' rT2' fT2' rG2' fG2' rL2' fL2' rH2' fH2' gi2' di2' re2' ti2' h1
          · obtain ⟨b0, b1, b2, b3, b4, b5, b6, b7, b8, b9, b10, b11, b12, b13, h1, hf⟩ := bd14_of hf
            cases hf
            exact hk_give_3_3 l X y hy (Qh 0) (Qh 1) (Qh 2) (Qh 3) h2 rP2 fP2 rT2 fT2 rG2 fG2 rL2 fL2 rH2 fH2 gi2 di2 re2 ti2 rP2' fP2' rT2' fT2' rG2' fG2' rL2' fL2' rH2' fH2' gi2' di2' re2' ti2' h1
        · rw [if_neg ck3] at hf
          by_cases ck4 : cn = (4 : Int32)
          · rw [if_pos ck4] at hf; subst ck4
            rcases hro with rfl | rfl | rfl | rfl
            · obtain ⟨b0, b1, b2, b3, b4, b5, b6, b7, b8, b9, b10, b11, b12, b13, h1, hf⟩ := bd14_of hf
              cases hf
              exact hk_give_4_0 l X y hy (Qh 0) (Qh 1) (Qh 2) (Qh 3) h2 rP2 fP2 rT2 fT2 rG2 fG2 rL2 fL2 rH2 fH2 gi2 di2 re2 ti2 rP2' fP2' rT2' fT2' rG2' fG2' rL2' fL2' rH2' fH2' gi2' di2' re2' ti2' h1
            · obtain ⟨b0, b1, b2, b3, b4, b5, b6, b7, b8, b9, b10, b11, b12, b13, h1, hf⟩ := bd14_of hf
              cases hf
              exact hk_give_4_1 l X y hy (Qh 0) (Qh 1) (Qh 2) (Qh 3) h2 rP2 fP2 rT2 fT2 rG2 fG2 rL2 fL2 rH2 fH2 gi2 di2 re2 ti2 rP2' fP2' rT2' fT2' rG2' fG2' rL2' fL2' rH2' fH2' gi2' di2' re2' ti2' h1
            · obtain ⟨b0, b1, b2, b3, b4, b5, b6, b7, b8, b9, b10, b11, b12, b13, h1, hf⟩ := bd14_of hf
              cases hf
              exact hk_give_4_2 l X y hy (Qh 0) (Qh 1) (Qh 2) (Qh 3) h2 rP2 fP2 rT2 fT2 rG2 fG2 rL2 fL2 rH2 fH2 gi2 di2 re2 ti2 rP2' fP2' rT2' fT2' rG2' fG2' rL2' fL2' rH2' fH2' gi2' di2' re2' ti2' h1
            · obtain ⟨b0, b1, b2, b3, b4, b5, b6, b7, b8, b9, b10, b11, b12, b13, h1, hf⟩ := bd14_of hf
              cases hf
              exact hk_give_4_3 l X y hy (Qh 0) (Qh 1) (Qh 2) (Qh 3) h2 rP2 fP2 rT2 fT2 rG2 fG2 rL2 fL2 rH2 fH2 gi2 di2 re2 ti2 rP2' fP2' rT2' fT2' rG2' fG2' rL2' fL2' rH2' fH2' gi2' di2' re2' ti2' h1
          · rw [if_neg ck4] at hf
            cases hf
def f_X6_meanChain_L33 (fr : (Nat → Int32)) : Nat → Int32 → Int32 → Int32 →  Option (Int32 × Int32)
  | 0, _, _, _ => none
  | k_ + 1, x1, x2, x4 =>
    if (10 : Int32) ≤ x4 then
    (some (x1, x2))
    else
    (ix x4 10 (
    if fr x4.toNatClampNeg ≤ (0 : Int32) then
    (nm (x1 + (0 : Int32)) (fun v_4 =>
    ix x4 10 (
    if fr x4.toNatClampNeg < (0 : Int32) then
    (nm (x2 + (0 : Int32)) (fun v_7 =>
    nm (x4 + (1 : Int32)) (fun v_8 =>
    f_X6_meanChain_L33 fr k_ v_4 v_7 v_8)))
    else
    (nm (x2 + (1 : Int32)) (fun v_9 =>
    nm (x4 + (1 : Int32)) (fun v_10 =>
    f_X6_meanChain_L33 fr k_ v_4 v_9 v_10))))))
    else
    (ix x4 10 (
    nm (x1 + (fr x4.toNatClampNeg)) (fun v_12 =>
    ix x4 10 (
    if fr x4.toNatClampNeg < (0 : Int32) then
    (nm (x2 + (0 : Int32)) (fun v_15 =>
    nm (x4 + (1 : Int32)) (fun v_16 =>
    f_X6_meanChain_L33 fr k_ v_12 v_15 v_16)))
    else
    (nm (x2 + (1 : Int32)) (fun v_17 =>
    nm (x4 + (1 : Int32)) (fun v_18 =>
    f_X6_meanChain_L33 fr k_ v_12 v_17 v_18)))))))))
def f_X6_meanChain_L15 (al : (Nat → Int32)) (ho : (Nat → Int32)) : Nat → Int32 → Int32 → Int32 → (Nat → Int32) →  Option (Int32 × Int32 × (Nat → Int32))
  | 0, _, _, _, _ => none
  | k_ + 1, x1, x2, x3, fr =>
    ix (4 : Int32) 320 (
    if al (4 : Int32).toNatClampNeg ≤ x3 then
    (some (x1, x2, fr))
    else
    (bd (f_X6_measure x3 al ho fr) (fun fr_21 =>
    bd2 (f_X6_meanChain_L33 fr_21 FU x1 x2 (0 : Int32)) (fun y1_23 y2_24 =>
    nm (x3 + (1 : Int32)) (fun v_26 =>
    f_X6_meanChain_L15 al ho k_ y1_23 y2_24 v_26 fr_21)))))
def f_X6_meanChain (al : (Nat → Int32)) (th : Int32) (ho : (Nat → Int32)) (fr : (Nat → Int32)) : Option (UInt64 × Int32 × (Nat → Int32) × (Nat → Int32)) :=
  bd (f_X6_lay al ho) (fun ho_27 =>
  bd3 (f_X6_meanChain_L15 al ho_27 FU (0 : Int32) (0 : Int32) (0 : Int32) fr) (fun y1_29 y2_30 fr_31 =>
  if y2_30 = (0 : Int32) then
  (some (FP.dconst0, (0 : Int32), ho_27, fr_31))
  else
  (nz (FP.ddiv (FP.i2d y1_29) (FP.i2d y2_30)) (
  some (FP.ddiv (FP.i2d y1_29) (FP.i2d y2_30), (0 : Int32), ho_27, fr_31)))))
set_option maxHeartbeats 4000000 in
set_option maxRecDepth 100000 in
theorem c_X6_meanChain (l : Launch) (X : cx_G) (mo : (Nat → Nat)) (al : (Nat → Int32)) (sv : (Nat → Int32)) (sm : Int32) (asd : (Nat → Int32)) (th : Int32) (ho : (Nat → Int32)) (fr : (Nat → Int32)) (txt : (Nat → Int32)) (tl : Int32) (pos : Int32) (od : Int32) (nu : (Nat → Int32)) (su : Int64) (r : UInt64) (th' : Int32) (ho' : (Nat → Int32)) (fr' : (Nat → Int32)) (hf : f_X6_meanChain al th ho fr = some (r, th', ho', fr')) : Fn l yX6_meanChain wsX6_meanChain ({ frames := 3, cells := 0, slots := 0, locals := 68 } : Room) X [.ref (mo 0)] (wMo X mo al sv sm asd th ho fr txt tl pos od nu su) (some (.double r)) (wMo X mo al sv sm asd th' ho' fr' txt tl pos od nu su) := by
  refine fn_intro (cc := cX6_meanChain) (maxL := 5) (ret := (some .double)) (by decide) rfl rfl (Nat.le_of_ble_eq_true rfl) ?_
  intro p e s m args below meth c A ls hx hb hml hr hts hown hlocks hK hP hD0 hS hA hl
  have hown : s.vm.findClass RX6 = some m.cls := hown
  have hl : lv_has ls 5 [(0, .ref (mo 0))] := hl
  have hiX6 : ∀ w ∈ u_ws RX6 TX6 13, w ∈ wsX6_meanChain := by decide +kernel
  have k7 := hts (.fieldLink RX6 7 "LentRightsModel" "all" "[I") (by decide +kernel)
  have k22 := hts (.fieldLink RX6 22 "LentRightsModel" "far" "[I") (by decide +kernel)
  have k31 := hts (.fieldLink RX6 31 "LentRightsModel" "thrown" "I") (by decide +kernel)
  have loop_33 : ∀ (Q : State → Prop) (x3 : Int32) (th : Int32) (ho : (Nat → Int32)) (fr : (Nat → Int32)) (y1 : Int32) (y2 : Int32), (∀ (H : Heap) (locs : List Loc) (ls : Array Slot), va_P X.1 vwCl (wMo X mo al sv sm asd th ho fr txt tl pos od nu su) H → va_S A s.heap H locs → lv_has ls 5 [(0, .ref (mo 0)), (1, .int y1), (2, .int y2), (3, .int x3)] → W p l e ({ frames := 3, cells := 0, slots := 0, locals := 68 } : Room) s m args below meth c H locs 0 0 Q (F0 m 88 ls [])) → ∀ (k_ : Nat) (x1 : Int32) (x2 : Int32) (x4 : Int32) (H : Heap) (locs : List Loc) (ls : Array Slot), f_X6_meanChain_L33 fr k_ x1 x2 x4 = some (y1, y2) → va_P X.1 vwCl (wMo X mo al sv sm asd th ho fr txt tl pos od nu su) H → va_S A s.heap H locs → lv_has ls 5 [(0, .ref (mo 0)), (1, .int x1), (2, .int x2), (3, .int x3), (4, .int x4)] → W p l e ({ frames := 3, cells := 0, slots := 0, locals := 68 } : Room) s m args below meth c H locs 0 0 Q (F0 m 33 ls []) := by
    intro Q x3 th ho fr y1 y2 kx k_
    induction k_ with
    | zero => intro x1 x2 x4 H locs ls hf; exact nomatch (show (none : Option (Int32 × Int32)) = some _ from hf)
    | succ k_ ih =>
      intro x1 x2 x4 H locs ls hf hP hS hl
      unfold f_X6_meanChain_L33 at hf
      refine lv_iload hx hb dX6_meanChain_33 (lv_at hl 4 rfl) ?_
      refine lv_bipush (v := 10) hx hb dX6_meanChain_35 (by decide) ?_
      refine lv_icmp_ge (tgt := 88) hx hb dX6_meanChain_37 (by decide) (fun c_1 => ?_) (fun c_1 => ?_)
      · replace hf := fp_t c_1 hf
        cases hf
        exact kx _ _ _ hP hS (lv_sub hl [0, 1, 2, 3] rfl)
      · replace hf := fp_f c_1 hf
        refine lv_iload_n hx hb dX6_meanChain_40 rfl (lv_at hl 1 rfl) ?_
        refine lv_aload_n hx hb dX6_meanChain_41 rfl (lv_at hl 0 rfl) ?_
        refine va_get (D := X.1) (ci := 6) (v := .ref (mo 5)) (C := RX6) (T := TX6) (N := 13) hx hb hts hiX6 hown hK.1 hP 0 rfl rfl 6 (by decide) k22 (fun _ h9 => h9) rfl dX6_meanChain_42 ?_
        refine lv_iload hx hb dX6_meanChain_45 (lv_at hl 4 rfl) ?_
        obtain ⟨hi_2, hf⟩ := ix_of hf
        refine va_iald hx hb hK.1 hP 5 0 rfl rfl hi_2 dX6_meanChain_47 ?_
        refine lv_if_le (tgt := 61) hx hb dX6_meanChain_48 (by decide) (fun c_3 => ?_) (fun c_3 => ?_)
        · replace hf := fp_t c_3 hf
          refine lv_iconst (v := 0) hx hb dX6_meanChain_61 (by decide) ?_
          refine lv_iadd hx hb dX6_meanChain_62 ?_
          refine lv_topi (fun v_4 ev_4 => ?_)
          replace hf := nm_of ev_4 hf
          refine lv_istore_n (lv' := [(1, .int v_4), (0, .ref (mo 0)), (2, .int x2), (3, .int x3), (4, .int x4)]) hx hb dX6_meanChain_63 rfl hl (by decide) rfl (fun ls hl => ?_)
          refine lv_iload_n hx hb dX6_meanChain_64 rfl (lv_at hl 2 rfl) ?_
          refine lv_aload_n hx hb dX6_meanChain_65 rfl (lv_at hl 1 rfl) ?_
          refine va_get (D := X.1) (ci := 6) (v := .ref (mo 5)) (C := RX6) (T := TX6) (N := 13) hx hb hts hiX6 hown hK.1 hP 0 rfl rfl 6 (by decide) k22 (fun _ h9 => h9) rfl dX6_meanChain_66 ?_
          refine lv_iload hx hb dX6_meanChain_69 (lv_at hl 4 rfl) ?_
          obtain ⟨hi_5, hf⟩ := ix_of hf
          refine va_iald hx hb hK.1 hP 5 0 rfl rfl hi_5 dX6_meanChain_71 ?_
          refine lv_if_lt (tgt := 79) hx hb dX6_meanChain_72 (by decide) (fun c_6 => ?_) (fun c_6 => ?_)
          · replace hf := fp_t c_6 hf
            refine lv_iconst (v := 0) hx hb dX6_meanChain_79 (by decide) ?_
            refine lv_iadd hx hb dX6_meanChain_80 ?_
            refine lv_topi (fun v_7 ev_7 => ?_)
            replace hf := nm_of ev_7 hf
            refine lv_istore_n (lv' := [(2, .int v_7), (1, .int v_4), (0, .ref (mo 0)), (3, .int x3), (4, .int x4)]) hx hb dX6_meanChain_81 rfl hl (by decide) rfl (fun ls hl => ?_)
            obtain ⟨v_8, ev_8⟩ : ∃ y : Int32, y = x4 + (1 : Int32) := ⟨_, rfl⟩
            replace hf := nm_of ev_8 hf
            refine lv_iinc (v := v_8) (lv' := [(4, .int v_8), (2, .int v_7), (1, .int v_4), (0, .ref (mo 0)), (3, .int x3)]) hx hb dX6_meanChain_82 hl (k := 4) rfl (by rw [ev_8]; rfl) (by decide) rfl (fun ls hl => ?_)
            refine lv_goto (tgt := 33) hx hb dX6_meanChain_85 (by decide) ?_
            exact ih v_4 v_7 v_8 _ _ _ hf hP hS (lv_sub hl [3, 2, 1, 4, 0] rfl)
          · replace hf := fp_f c_6 hf
            refine lv_iconst (v := 1) hx hb dX6_meanChain_75 (by decide) ?_
            refine lv_goto (tgt := 80) hx hb dX6_meanChain_76 (by decide) ?_
            refine lv_iadd hx hb dX6_meanChain_80 ?_
            refine lv_topi (fun v_9 ev_9 => ?_)
            replace hf := nm_of ev_9 hf
            refine lv_istore_n (lv' := [(2, .int v_9), (1, .int v_4), (0, .ref (mo 0)), (3, .int x3), (4, .int x4)]) hx hb dX6_meanChain_81 rfl hl (by decide) rfl (fun ls hl => ?_)
            obtain ⟨v_10, ev_10⟩ : ∃ y : Int32, y = x4 + (1 : Int32) := ⟨_, rfl⟩
            replace hf := nm_of ev_10 hf
            refine lv_iinc (v := v_10) (lv' := [(4, .int v_10), (2, .int v_9), (1, .int v_4), (0, .ref (mo 0)), (3, .int x3)]) hx hb dX6_meanChain_82 hl (k := 4) rfl (by rw [ev_10]; rfl) (by decide) rfl (fun ls hl => ?_)
            refine lv_goto (tgt := 33) hx hb dX6_meanChain_85 (by decide) ?_
            exact ih v_4 v_9 v_10 _ _ _ hf hP hS (lv_sub hl [3, 2, 1, 4, 0] rfl)
        · replace hf := fp_f c_3 hf
          refine lv_aload_n hx hb dX6_meanChain_51 rfl (lv_at hl 0 rfl) ?_
          refine va_get (D := X.1) (ci := 6) (v := .ref (mo 5)) (C := RX6) (T := TX6) (N := 13) hx hb hts hiX6 hown hK.1 hP 0 rfl rfl 6 (by decide) k22 (fun _ h9 => h9) rfl dX6_meanChain_52 ?_
          refine lv_iload hx hb dX6_meanChain_55 (lv_at hl 4 rfl) ?_
          obtain ⟨hi_11, hf⟩ := ix_of hf
          refine va_iald hx hb hK.1 hP 5 0 rfl rfl hi_11 dX6_meanChain_57 ?_
          refine lv_goto (tgt := 62) hx hb dX6_meanChain_58 (by decide) ?_
          refine lv_iadd hx hb dX6_meanChain_62 ?_
          refine lv_topi (fun v_12 ev_12 => ?_)
          replace hf := nm_of ev_12 hf
          refine lv_istore_n (lv' := [(1, .int v_12), (0, .ref (mo 0)), (2, .int x2), (3, .int x3), (4, .int x4)]) hx hb dX6_meanChain_63 rfl hl (by decide) rfl (fun ls hl => ?_)
          refine lv_iload_n hx hb dX6_meanChain_64 rfl (lv_at hl 2 rfl) ?_
          refine lv_aload_n hx hb dX6_meanChain_65 rfl (lv_at hl 1 rfl) ?_
          refine va_get (D := X.1) (ci := 6) (v := .ref (mo 5)) (C := RX6) (T := TX6) (N := 13) hx hb hts hiX6 hown hK.1 hP 0 rfl rfl 6 (by decide) k22 (fun _ h9 => h9) rfl dX6_meanChain_66 ?_
          refine lv_iload hx hb dX6_meanChain_69 (lv_at hl 4 rfl) ?_
          obtain ⟨hi_13, hf⟩ := ix_of hf
          refine va_iald hx hb hK.1 hP 5 0 rfl rfl hi_13 dX6_meanChain_71 ?_
          refine lv_if_lt (tgt := 79) hx hb dX6_meanChain_72 (by decide) (fun c_14 => ?_) (fun c_14 => ?_)
          · replace hf := fp_t c_14 hf
            refine lv_iconst (v := 0) hx hb dX6_meanChain_79 (by decide) ?_
            refine lv_iadd hx hb dX6_meanChain_80 ?_
            refine lv_topi (fun v_15 ev_15 => ?_)
            replace hf := nm_of ev_15 hf
            refine lv_istore_n (lv' := [(2, .int v_15), (1, .int v_12), (0, .ref (mo 0)), (3, .int x3), (4, .int x4)]) hx hb dX6_meanChain_81 rfl hl (by decide) rfl (fun ls hl => ?_)
            obtain ⟨v_16, ev_16⟩ : ∃ y : Int32, y = x4 + (1 : Int32) := ⟨_, rfl⟩
            replace hf := nm_of ev_16 hf
            refine lv_iinc (v := v_16) (lv' := [(4, .int v_16), (2, .int v_15), (1, .int v_12), (0, .ref (mo 0)), (3, .int x3)]) hx hb dX6_meanChain_82 hl (k := 4) rfl (by rw [ev_16]; rfl) (by decide) rfl (fun ls hl => ?_)
            refine lv_goto (tgt := 33) hx hb dX6_meanChain_85 (by decide) ?_
            exact ih v_12 v_15 v_16 _ _ _ hf hP hS (lv_sub hl [3, 2, 1, 4, 0] rfl)
          · replace hf := fp_f c_14 hf
            refine lv_iconst (v := 1) hx hb dX6_meanChain_75 (by decide) ?_
            refine lv_goto (tgt := 80) hx hb dX6_meanChain_76 (by decide) ?_
            refine lv_iadd hx hb dX6_meanChain_80 ?_
            refine lv_topi (fun v_17 ev_17 => ?_)
            replace hf := nm_of ev_17 hf
            refine lv_istore_n (lv' := [(2, .int v_17), (1, .int v_12), (0, .ref (mo 0)), (3, .int x3), (4, .int x4)]) hx hb dX6_meanChain_81 rfl hl (by decide) rfl (fun ls hl => ?_)
            obtain ⟨v_18, ev_18⟩ : ∃ y : Int32, y = x4 + (1 : Int32) := ⟨_, rfl⟩
            replace hf := nm_of ev_18 hf
            refine lv_iinc (v := v_18) (lv' := [(4, .int v_18), (2, .int v_17), (1, .int v_12), (0, .ref (mo 0)), (3, .int x3)]) hx hb dX6_meanChain_82 hl (k := 4) rfl (by rw [ev_18]; rfl) (by decide) rfl (fun ls hl => ?_)
            refine lv_goto (tgt := 33) hx hb dX6_meanChain_85 (by decide) ?_
            exact ih v_12 v_17 v_18 _ _ _ hf hP hS (lv_sub hl [3, 2, 1, 4, 0] rfl)
  have loop_15 : ∀ (Q : State → Prop) (th : Int32) (ho : (Nat → Int32)) (y1 : Int32) (y2 : Int32) (fro : (Nat → Int32)), (∀ (H : Heap) (locs : List Loc) (ls : Array Slot), va_P X.1 vwCl (wMo X mo al sv sm asd th ho fro txt tl pos od nu su) H → va_S A s.heap H locs → lv_has ls 5 [(1, .int y1), (2, .int y2)] → W p l e ({ frames := 3, cells := 0, slots := 0, locals := 68 } : Room) s m args below meth c H locs 0 0 Q (F0 m 94 ls [])) → ∀ (k_ : Nat) (x1 : Int32) (x2 : Int32) (x3 : Int32) (fr : (Nat → Int32)) (H : Heap) (locs : List Loc) (ls : Array Slot), f_X6_meanChain_L15 al ho k_ x1 x2 x3 fr = some (y1, y2, fro) → va_P X.1 vwCl (wMo X mo al sv sm asd th ho fr txt tl pos od nu su) H → va_S A s.heap H locs → lv_has ls 5 [(0, .ref (mo 0)), (1, .int x1), (2, .int x2), (3, .int x3)] → W p l e ({ frames := 3, cells := 0, slots := 0, locals := 68 } : Room) s m args below meth c H locs 0 0 Q (F0 m 15 ls []) := by
    intro Q th ho y1 y2 fro kx k_
    induction k_ with
    | zero => intro x1 x2 x3 fr H locs ls hf; exact nomatch (show (none : Option (Int32 × Int32 × (Nat → Int32))) = some _ from hf)
    | succ k_ ih =>
      intro x1 x2 x3 fr H locs ls hf hP hS hl
      unfold f_X6_meanChain_L15 at hf
      refine lv_iload_n hx hb dX6_meanChain_15 rfl (lv_at hl 3 rfl) ?_
      refine lv_aload_n hx hb dX6_meanChain_16 rfl (lv_at hl 0 rfl) ?_
      refine va_get (D := X.1) (ci := 6) (v := .ref (mo 1)) (C := RX6) (T := TX6) (N := 13) hx hb hts hiX6 hown hK.1 hP 0 rfl rfl 0 (by decide) k7 (fun _ h9 => h9) rfl dX6_meanChain_17 ?_
      refine lv_iconst (v := 4) hx hb dX6_meanChain_20 (by decide) ?_
      obtain ⟨hi_19, hf⟩ := ix_of hf
      refine va_iald hx hb hK.1 hP 1 0 rfl rfl hi_19 dX6_meanChain_21 ?_
      refine lv_icmp_ge (tgt := 94) hx hb dX6_meanChain_22 (by decide) (fun c_20 => ?_) (fun c_20 => ?_)
      · replace hf := fp_t c_20 hf
        cases hf
        exact kx _ _ _ hP hS (lv_sub hl [1, 2] rfl)
      · replace hf := fp_f c_20 hf
        refine lv_aload_n hx hb dX6_meanChain_25 rfl (lv_at hl 0 rfl) ?_
        refine lv_iload_n hx hb dX6_meanChain_26 rfl (lv_at hl 3 rfl) ?_
        obtain ⟨fr_21, hc_22, hf⟩ := bd_of hf
        refine fn_V (v := none) (As := [.int x3]) (rest := []) (st1 := []) (ws' := (wMo X mo al sv sm asd th ho fr_21 txt tl pos od nu su)) (nL := 5) ⟨hx, hb, hml, hown, hts⟩ (c_X6_measure l X mo al sv sm asd th ho fr txt tl pos od nu su x3 fr_21 hc_22) (cwV 1 hts gX6_meanChain_X6_measure rfl rfl rfl (by decide +kernel) ⟨Nat.le_of_ble_eq_true rfl, Nat.le_of_ble_eq_true rfl⟩) 6 rfl rfl rfl rfl hl.1 rfl (Nat.le_of_ble_eq_true rfl) dX6_meanChain_27 hK hP (hD0.addr rfl) hS hA [0, 1, 2, 3, 4, 5, 6, 7] rfl rfl rfl rfl ⟨Nat.zero_le _, Nat.zero_le _⟩ (fun H locs hP hD hS => ?_)
        refine lv_iconst (v := 0) hx hb dX6_meanChain_30 (by decide) ?_
        refine lv_istore (lv' := [(4, .int (0 : Int32)), (0, .ref (mo 0)), (1, .int x1), (2, .int x2), (3, .int x3)]) hx hb dX6_meanChain_31 hl (by decide) rfl (fun ls hl => ?_)
        obtain ⟨y1_23, y2_24, hL_25, hf⟩ := bd2_of hf
        refine loop_33 _ x3 th ho fr_21 y1_23 y2_24 (fun H locs ls hP hS hl => ?_) FU x1 x2 (0 : Int32) _ _ _ hL_25 hP hS (lv_sub hl [1, 2, 3, 4, 0] rfl)
        obtain ⟨v_26, ev_26⟩ : ∃ y : Int32, y = x3 + (1 : Int32) := ⟨_, rfl⟩
        replace hf := nm_of ev_26 hf
        refine lv_iinc (v := v_26) (lv' := [(3, .int v_26), (0, .ref (mo 0)), (1, .int y1_23), (2, .int y2_24)]) hx hb dX6_meanChain_88 hl (k := 3) rfl (by rw [ev_26]; rfl) (by decide) rfl (fun ls hl => ?_)
        refine lv_goto (tgt := 15) hx hb dX6_meanChain_91 (by decide) ?_
        exact ih y1_23 y2_24 v_26 fr_21 _ _ _ hf hP hS (lv_sub hl [1, 2, 3, 0] rfl)
  unfold f_X6_meanChain at hf
  refine lv_aload_n hx hb dX6_meanChain_0 rfl (lv_at hl 0 rfl) ?_
  refine lv_iconst (v := 0) hx hb dX6_meanChain_1 (by decide) ?_
  refine va_put (D := X.1) (ci := 6) (v := .int (0 : Int32)) (ty := .int) (C := RX6) (T := TX6) (N := 13) hx hb hts hiX6 tyX6 tyX6_ok nmX6 hown hK.1 hP (hD0.addr rfl) hS 0 rfl rfl 4 (by decide) k31 (fun _ h9 => h9) rfl (by decide +kernel) rfl rfl (Nat.le_of_ble_eq_true rfl) dX6_meanChain_2 (fun H locs hP hD hS => ?_)
  have hP : va_P X.1 vwCl (wMo X mo al sv sm asd (0 : Int32) ho fr txt tl pos od nu su) H := hP
  refine lv_iconst (v := 0) hx hb dX6_meanChain_5 (by decide) ?_
  refine lv_istore_n (lv' := [(1, .int (0 : Int32)), (0, .ref (mo 0))]) hx hb dX6_meanChain_6 rfl hl (by decide) rfl (fun ls hl => ?_)
  refine lv_iconst (v := 0) hx hb dX6_meanChain_7 (by decide) ?_
  refine lv_istore_n (lv' := [(2, .int (0 : Int32)), (1, .int (0 : Int32)), (0, .ref (mo 0))]) hx hb dX6_meanChain_8 rfl hl (by decide) rfl (fun ls hl => ?_)
  refine lv_aload_n hx hb dX6_meanChain_9 rfl (lv_at hl 2 rfl) ?_
  obtain ⟨ho_27, hc_28, hf⟩ := bd_of hf
  refine fn_V (v := none) (As := []) (rest := []) (st1 := []) (ws' := (wMo X mo al sv sm asd (0 : Int32) ho_27 fr txt tl pos od nu su)) (nL := 5) ⟨hx, hb, hml, hown, hts⟩ (c_X6_lay l X mo al sv sm asd (0 : Int32) ho fr txt tl pos od nu su ho_27 hc_28) (cwV 0 hts gX6_meanChain_X6_lay rfl rfl rfl (by decide +kernel) ⟨Nat.le_of_ble_eq_true rfl, Nat.le_of_ble_eq_true rfl⟩) 6 rfl rfl rfl rfl hl.1 rfl (Nat.le_of_ble_eq_true rfl) dX6_meanChain_10 hK hP (hD0.addr rfl) hS hA [0, 1, 2, 3, 4, 5, 6, 7] rfl rfl rfl rfl ⟨Nat.zero_le _, Nat.zero_le _⟩ (fun H locs hP hD hS => ?_)
  refine lv_iconst (v := 0) hx hb dX6_meanChain_13 (by decide) ?_
  refine lv_istore_n (lv' := [(3, .int (0 : Int32)), (2, .int (0 : Int32)), (1, .int (0 : Int32)), (0, .ref (mo 0))]) hx hb dX6_meanChain_14 rfl hl (by decide) rfl (fun ls hl => ?_)
  obtain ⟨y1_29, y2_30, fr_31, hL_32, hf⟩ := bd3_of hf
  refine loop_15 _ (0 : Int32) ho_27 y1_29 y2_30 fr_31 (fun H locs ls hP hS hl => ?_) FU (0 : Int32) (0 : Int32) (0 : Int32) fr _ _ _ hL_32 hP hS (lv_sub hl [3, 2, 1, 0] rfl)
  refine lv_iload_n hx hb dX6_meanChain_94 rfl (lv_at hl 1 rfl) ?_
  refine lv_if_ne (tgt := 102) hx hb dX6_meanChain_95 (by decide) (fun c_33 => ?_) (fun c_33 => ?_)
  · replace hf := fp_f c_33 hf
    refine lv_iload_n hx hb dX6_meanChain_102 rfl (lv_at hl 0 rfl) ?_
    refine lv_i2d hx hb dX6_meanChain_103 ?_
    refine lv_iload_n hx hb dX6_meanChain_104 rfl (lv_at hl 1 rfl) ?_
    refine lv_i2d hx hb dX6_meanChain_105 ?_
    obtain ⟨hn_34, hf⟩ := nz_of hf
    refine lv_ddiv hx hb dX6_meanChain_106 hn_34 ?_
    cases hf
    exact fn_dret hx hb hr hlocks hP hS dX6_meanChain_107
  · replace hf := fp_t c_33 hf
    refine lv_dconst0 hx hb dX6_meanChain_98 ?_
    refine lv_goto (tgt := 107) hx hb dX6_meanChain_99 (by decide) ?_
    cases hf
    exact fn_dret hx hb hr hlocks hP hS dX6_meanChain_107
def lA (x0 : Nat) (hh ht ch tx y : Nat → Nat) (hy : Nat → Nat → Nat) : List Nat := [x0, hh 0, hh 1, hh 2, hh 3, hh 4, hh 5, hh 6, hh 7, hh 8, hh 9, hh 10, ht 0, ht 1, ht 2, ht 3, ht 4, ht 5, ht 6, ht 7, ht 8, ht 9, ht 10, ch 0, ch 1, ch 2, tx 0, tx 1, tx 2, tx 3, tx 4, y 0, y 1, hy 0 0, hy 0 1, hy 0 2, hy 0 3, hy 0 4, hy 0 5, hy 0 6, hy 0 7, hy 0 8, hy 0 9, hy 0 10, hy 1 0, hy 1 1, hy 1 2, hy 1 3, hy 1 4, hy 1 5, hy 1 6, hy 1 7, hy 1 8, hy 1 9, hy 1 10, hy 2 0, hy 2 1, hy 2 2, hy 2 3, hy 2 4, hy 2 5, hy 2 6, hy 2 7, hy 2 8, hy 2 9, hy 2 10, hy 3 0, hy 3 1, hy 3 2, hy 3 3, hy 3 4, hy 3 5, hy 3 6, hy 3 7, hy 3 8, hy 3 9, hy 3 10]
theorem wLR_fst {X : cx_G} {x0 : Nat} {hh ht ch tx y : Nat → Nat} {hy : Nat → Nat → Nat} {rP : Int32} {fP : Nat → Int32} {rT : Int32} {fT : Nat → Int32} {rG : Int32} {fG : Nat → Int32} {rL : Int32} {fL : Nat → Int32} {rH : Int32} {fH : Nat → Int32} {gi : Int32} {di : Int32} {re : Int32} {ti : Int32} {rPT : Int32} {fPT : Nat → Int32} {rTT : Int32} {fTT : Nat → Int32} {rGT : Int32} {fGT : Nat → Int32} {rLT : Int32} {fLT : Nat → Int32} {rHT : Int32} {fHT : Nat → Int32} {giT : Int32} {diT : Int32} {reT : Int32} {tiT : Int32} {rS : Int32} {fS : Nat → Int32} {rB : Int32} {fB : Nat → Int32} {rO : Int32} {fO : Nat → Int32} {pl fa cn : Int32} {ro : Nat} {Q : Nat → HS} : (wLR X x0 hh ht ch tx y hy rP fP rT fT rG fG rL fL rH fH gi di re ti rPT fPT rTT fTT rGT fGT rLT fLT rHT fHT giT diT reT tiT rS fS rB fB rO fO pl fa cn ro Q).map Prod.fst = lA x0 hh ht ch tx y hy := by rfl
theorem lC_h {X : cx_G} {x0 : Nat} {hh ht ch tx y : Nat → Nat} {hy : Nat → Nat → Nat} {rP : Int32} {fP : Nat → Int32} {rT : Int32} {fT : Nat → Int32} {rG : Int32} {fG : Nat → Int32} {rL : Int32} {fL : Nat → Int32} {rH : Int32} {fH : Nat → Int32} {gi : Int32} {di : Int32} {re : Int32} {ti : Int32} {rPT : Int32} {fPT : Nat → Int32} {rTT : Int32} {fTT : Nat → Int32} {rGT : Int32} {fGT : Nat → Int32} {rLT : Int32} {fLT : Nat → Int32} {rHT : Int32} {fHT : Nat → Int32} {giT : Int32} {diT : Int32} {reT : Int32} {tiT : Int32} {rS : Int32} {fS : Nat → Int32} {rB : Int32} {fB : Nat → Int32} {rO : Int32} {fO : Nat → Int32} {pl fa cn : Int32} {ro : Nat} {Q : Nat → HS} : ([1, 2, 3, 4, 5, 6, 7, 8, 9, 10, 11] : List Nat).map (fun i => (wLR X x0 hh ht ch tx y hy rP fP rT fT rG fG rL fL rH fH gi di re ti rPT fPT rTT fTT rGT fGT rLT fLT rHT fHT giT diT reT tiT rS fS rB fB rO fO pl fa cn ro Q)[i]?) = ((wHo X hh rP fP rT fT rG fG rL fL rH fH gi di re ti)).map some := by rfl
theorem lC_t {X : cx_G} {x0 : Nat} {hh ht ch tx y : Nat → Nat} {hy : Nat → Nat → Nat} {rP : Int32} {fP : Nat → Int32} {rT : Int32} {fT : Nat → Int32} {rG : Int32} {fG : Nat → Int32} {rL : Int32} {fL : Nat → Int32} {rH : Int32} {fH : Nat → Int32} {gi : Int32} {di : Int32} {re : Int32} {ti : Int32} {rPT : Int32} {fPT : Nat → Int32} {rTT : Int32} {fTT : Nat → Int32} {rGT : Int32} {fGT : Nat → Int32} {rLT : Int32} {fLT : Nat → Int32} {rHT : Int32} {fHT : Nat → Int32} {giT : Int32} {diT : Int32} {reT : Int32} {tiT : Int32} {rS : Int32} {fS : Nat → Int32} {rB : Int32} {fB : Nat → Int32} {rO : Int32} {fO : Nat → Int32} {pl fa cn : Int32} {ro : Nat} {Q : Nat → HS} : ([12, 13, 14, 15, 16, 17, 18, 19, 20, 21, 22] : List Nat).map (fun i => (wLR X x0 hh ht ch tx y hy rP fP rT fT rG fG rL fL rH fH gi di re ti rPT fPT rTT fTT rGT fGT rLT fLT rHT fHT giT diT reT tiT rS fS rB fB rO fO pl fa cn ro Q)[i]?) = ((wHo X ht rPT fPT rTT fTT rGT fGT rLT fLT rHT fHT giT diT reT tiT)).map some := by rfl
theorem lC_c {X : cx_G} {x0 : Nat} {hh ht ch tx y : Nat → Nat} {hy : Nat → Nat → Nat} {rP : Int32} {fP : Nat → Int32} {rT : Int32} {fT : Nat → Int32} {rG : Int32} {fG : Nat → Int32} {rL : Int32} {fL : Nat → Int32} {rH : Int32} {fH : Nat → Int32} {gi : Int32} {di : Int32} {re : Int32} {ti : Int32} {rPT : Int32} {fPT : Nat → Int32} {rTT : Int32} {fTT : Nat → Int32} {rGT : Int32} {fGT : Nat → Int32} {rLT : Int32} {fLT : Nat → Int32} {rHT : Int32} {fHT : Nat → Int32} {giT : Int32} {diT : Int32} {reT : Int32} {tiT : Int32} {rS : Int32} {fS : Nat → Int32} {rB : Int32} {fB : Nat → Int32} {rO : Int32} {fO : Nat → Int32} {pl fa cn : Int32} {ro : Nat} {Q : Nat → HS} : ([23, 24, 25] : List Nat).map (fun i => (wLR X x0 hh ht ch tx y hy rP fP rT fT rG fG rL fL rH fH gi di re ti rPT fPT rTT fTT rGT fGT rLT fLT rHT fHT giT diT reT tiT rS fS rB fB rO fO pl fa cn ro Q)[i]?) = ((wCh X ch rS fS)).map some := by rfl
theorem lC_x {X : cx_G} {x0 : Nat} {hh ht ch tx y : Nat → Nat} {hy : Nat → Nat → Nat} {rP : Int32} {fP : Nat → Int32} {rT : Int32} {fT : Nat → Int32} {rG : Int32} {fG : Nat → Int32} {rL : Int32} {fL : Nat → Int32} {rH : Int32} {fH : Nat → Int32} {gi : Int32} {di : Int32} {re : Int32} {ti : Int32} {rPT : Int32} {fPT : Nat → Int32} {rTT : Int32} {fTT : Nat → Int32} {rGT : Int32} {fGT : Nat → Int32} {rLT : Int32} {fLT : Nat → Int32} {rHT : Int32} {fHT : Nat → Int32} {giT : Int32} {diT : Int32} {reT : Int32} {tiT : Int32} {rS : Int32} {fS : Nat → Int32} {rB : Int32} {fB : Nat → Int32} {rO : Int32} {fO : Nat → Int32} {pl fa cn : Int32} {ro : Nat} {Q : Nat → HS} : ([26, 27, 28, 29, 30] : List Nat).map (fun i => (wLR X x0 hh ht ch tx y hy rP fP rT fT rG fG rL fL rH fH gi di re ti rPT fPT rTT fTT rGT fGT rLT fLT rHT fHT giT diT reT tiT rS fS rB fB rO fO pl fa cn ro Q)[i]?) = ((wTx X tx rB fB rO fO pl fa)).map some := by rfl
theorem lC_i {X : cx_G} {x0 : Nat} {hh ht ch tx y : Nat → Nat} {hy : Nat → Nat → Nat} {rP : Int32} {fP : Nat → Int32} {rT : Int32} {fT : Nat → Int32} {rG : Int32} {fG : Nat → Int32} {rL : Int32} {fL : Nat → Int32} {rH : Int32} {fH : Nat → Int32} {gi : Int32} {di : Int32} {re : Int32} {ti : Int32} {rPT : Int32} {fPT : Nat → Int32} {rTT : Int32} {fTT : Nat → Int32} {rGT : Int32} {fGT : Nat → Int32} {rLT : Int32} {fLT : Nat → Int32} {rHT : Int32} {fHT : Nat → Int32} {giT : Int32} {diT : Int32} {reT : Int32} {tiT : Int32} {rS : Int32} {fS : Nat → Int32} {rB : Int32} {fB : Nat → Int32} {rO : Int32} {fO : Nat → Int32} {pl fa cn : Int32} {ro : Nat} {Q : Nat → HS} : ([31, 32, 33, 34, 35, 36, 37, 38, 39, 40, 41, 42, 43, 44, 45, 46, 47, 48, 49, 50, 51, 52, 53, 54, 55, 56, 57, 58, 59, 60, 61, 62, 63, 64, 65, 66, 67, 68, 69, 70, 71, 72, 73, 74, 75, 76] : List Nat).map (fun i => (wLR X x0 hh ht ch tx y hy rP fP rT fT rG fG rL fL rH fH gi di re ti rPT fPT rTT fTT rGT fGT rLT fLT rHT fHT giT diT reT tiT rS fS rB fB rO fO pl fa cn ro Q)[i]?) = ((wHi X y hy cn ro Q)).map some := by rfl
theorem lC_th {X : cx_G} {x0 : Nat} {hh ht ch tx y : Nat → Nat} {hy : Nat → Nat → Nat} {rP : Int32} {fP : Nat → Int32} {rT : Int32} {fT : Nat → Int32} {rG : Int32} {fG : Nat → Int32} {rL : Int32} {fL : Nat → Int32} {rH : Int32} {fH : Nat → Int32} {gi : Int32} {di : Int32} {re : Int32} {ti : Int32} {rPT : Int32} {fPT : Nat → Int32} {rTT : Int32} {fTT : Nat → Int32} {rGT : Int32} {fGT : Nat → Int32} {rLT : Int32} {fLT : Nat → Int32} {rHT : Int32} {fHT : Nat → Int32} {giT : Int32} {diT : Int32} {reT : Int32} {tiT : Int32} {rS : Int32} {fS : Nat → Int32} {rB : Int32} {fB : Nat → Int32} {rO : Int32} {fO : Nat → Int32} {pl fa cn : Int32} {ro : Nat} {Q : Nat → HS} : ([12, 13, 14, 15, 16, 17, 18, 19, 20, 21, 22, 1, 2, 3, 4, 5, 6, 7, 8, 9, 10, 11] : List Nat).map (fun i => (wLR X x0 hh ht ch tx y hy rP fP rT fT rG fG rL fL rH fH gi di re ti rPT fPT rTT fTT rGT fGT rLT fLT rHT fHT giT diT reT tiT rS fS rB fB rO fO pl fa cn ro Q)[i]?) = ((wHo X ht rPT fPT rTT fTT rGT fGT rLT fLT rHT fHT giT diT reT tiT) ++ (wHo X hh rP fP rT fT rG fG rL fL rH fH gi di re ti)).map some := by rfl
theorem lC_ch {X : cx_G} {x0 : Nat} {hh ht ch tx y : Nat → Nat} {hy : Nat → Nat → Nat} {rP : Int32} {fP : Nat → Int32} {rT : Int32} {fT : Nat → Int32} {rG : Int32} {fG : Nat → Int32} {rL : Int32} {fL : Nat → Int32} {rH : Int32} {fH : Nat → Int32} {gi : Int32} {di : Int32} {re : Int32} {ti : Int32} {rPT : Int32} {fPT : Nat → Int32} {rTT : Int32} {fTT : Nat → Int32} {rGT : Int32} {fGT : Nat → Int32} {rLT : Int32} {fLT : Nat → Int32} {rHT : Int32} {fHT : Nat → Int32} {giT : Int32} {diT : Int32} {reT : Int32} {tiT : Int32} {rS : Int32} {fS : Nat → Int32} {rB : Int32} {fB : Nat → Int32} {rO : Int32} {fO : Nat → Int32} {pl fa cn : Int32} {ro : Nat} {Q : Nat → HS} : ([23, 24, 25, 1, 2, 3, 4, 5, 6, 7, 8, 9, 10, 11] : List Nat).map (fun i => (wLR X x0 hh ht ch tx y hy rP fP rT fT rG fG rL fL rH fH gi di re ti rPT fPT rTT fTT rGT fGT rLT fLT rHT fHT giT diT reT tiT rS fS rB fB rO fO pl fa cn ro Q)[i]?) = ((wCh X ch rS fS) ++ (wHo X hh rP fP rT fT rG fG rL fL rH fH gi di re ti)).map some := by rfl
theorem lC_ih {X : cx_G} {x0 : Nat} {hh ht ch tx y : Nat → Nat} {hy : Nat → Nat → Nat} {rP : Int32} {fP : Nat → Int32} {rT : Int32} {fT : Nat → Int32} {rG : Int32} {fG : Nat → Int32} {rL : Int32} {fL : Nat → Int32} {rH : Int32} {fH : Nat → Int32} {gi : Int32} {di : Int32} {re : Int32} {ti : Int32} {rPT : Int32} {fPT : Nat → Int32} {rTT : Int32} {fTT : Nat → Int32} {rGT : Int32} {fGT : Nat → Int32} {rLT : Int32} {fLT : Nat → Int32} {rHT : Int32} {fHT : Nat → Int32} {giT : Int32} {diT : Int32} {reT : Int32} {tiT : Int32} {rS : Int32} {fS : Nat → Int32} {rB : Int32} {fB : Nat → Int32} {rO : Int32} {fO : Nat → Int32} {pl fa cn : Int32} {ro : Nat} {Q : Nat → HS} : ([31, 32, 33, 34, 35, 36, 37, 38, 39, 40, 41, 42, 43, 44, 45, 46, 47, 48, 49, 50, 51, 52, 53, 54, 55, 56, 57, 58, 59, 60, 61, 62, 63, 64, 65, 66, 67, 68, 69, 70, 71, 72, 73, 74, 75, 76, 1, 2, 3, 4, 5, 6, 7, 8, 9, 10, 11] : List Nat).map (fun i => (wLR X x0 hh ht ch tx y hy rP fP rT fT rG fG rL fL rH fH gi di re ti rPT fPT rTT fTT rGT fGT rLT fLT rHT fHT giT diT reT tiT rS fS rB fB rO fO pl fa cn ro Q)[i]?) = ((wHi X y hy cn ro Q) ++ (wHo X hh rP fP rT fT rG fG rL fL rH fH gi di re ti)).map some := by rfl
theorem lC_a {X : cx_G} {x0 : Nat} {hh ht ch tx y : Nat → Nat} {hy : Nat → Nat → Nat} {rP : Int32} {fP : Nat → Int32} {rT : Int32} {fT : Nat → Int32} {rG : Int32} {fG : Nat → Int32} {rL : Int32} {fL : Nat → Int32} {rH : Int32} {fH : Nat → Int32} {gi : Int32} {di : Int32} {re : Int32} {ti : Int32} {rPT : Int32} {fPT : Nat → Int32} {rTT : Int32} {fTT : Nat → Int32} {rGT : Int32} {fGT : Nat → Int32} {rLT : Int32} {fLT : Nat → Int32} {rHT : Int32} {fHT : Nat → Int32} {giT : Int32} {diT : Int32} {reT : Int32} {tiT : Int32} {rS : Int32} {fS : Nat → Int32} {rB : Int32} {fB : Nat → Int32} {rO : Int32} {fO : Nat → Int32} {pl fa cn : Int32} {ro : Nat} {Q : Nat → HS} : ([0, 1, 2, 3, 4, 5, 6, 7, 8, 9, 10, 11, 12, 13, 14, 15, 16, 17, 18, 19, 20, 21, 22, 23, 24, 25, 26, 27, 28, 29, 30, 31, 32, 33, 34, 35, 36, 37, 38, 39, 40, 41, 42, 43, 44, 45, 46, 47, 48, 49, 50, 51, 52, 53, 54, 55, 56, 57, 58, 59, 60, 61, 62, 63, 64, 65, 66, 67, 68, 69, 70, 71, 72, 73, 74, 75, 76] : List Nat).map (fun i => (wLR X x0 hh ht ch tx y hy rP fP rT fT rG fG rL fL rH fH gi di re ti rPT fPT rTT fTT rGT fGT rLT fLT rHT fHT giT diT reT tiT rS fS rB fB rO fO pl fa cn ro Q)[i]?) = ((wLR X x0 hh ht ch tx y hy rP fP rT fT rG fG rL fL rH fH gi di re ti rPT fPT rTT fTT rGT fGT rLT fLT rHT fHT giT diT reT tiT rS fS rB fB rO fO pl fa cn ro Q)).map some := by rfl
theorem lJ_a {ws ws' : va_W} : pj 0 [0, 1, 2, 3, 4, 5, 6, 7, 8, 9, 10, 11, 12, 13, 14, 15, 16, 17, 18, 19, 20, 21, 22, 23, 24, 25, 26, 27, 28, 29, 30, 31, 32, 33, 34, 35, 36, 37, 38, 39, 40, 41, 42, 43, 44, 45, 46, 47, 48, 49, 50, 51, 52, 53, 54, 55, 56, 57, 58, 59, 60, 61, 62, 63, 64, 65, 66, 67, 68, 69, 70, 71, 72, 73, 74, 75, 76] ws' ws ws' := pj_new fun q hq => hq
theorem lJ_h {X : cx_G} {x0 : Nat} {hh ht ch tx y : Nat → Nat} {hy : Nat → Nat → Nat} {rP : Int32} {fP : Nat → Int32} {rT : Int32} {fT : Nat → Int32} {rG : Int32} {fG : Nat → Int32} {rL : Int32} {fL : Nat → Int32} {rH : Int32} {fH : Nat → Int32} {gi : Int32} {di : Int32} {re : Int32} {ti : Int32} {rPT : Int32} {fPT : Nat → Int32} {rTT : Int32} {fTT : Nat → Int32} {rGT : Int32} {fGT : Nat → Int32} {rLT : Int32} {fLT : Nat → Int32} {rHT : Int32} {fHT : Nat → Int32} {giT : Int32} {diT : Int32} {reT : Int32} {tiT : Int32} {rS : Int32} {fS : Nat → Int32} {rB : Int32} {fB : Nat → Int32} {rO : Int32} {fO : Nat → Int32} {pl fa cn : Int32} {ro : Nat} {Q : Nat → HS} {rP' : Int32} {fP' : Nat → Int32} {rT' : Int32} {fT' : Nat → Int32} {rG' : Int32} {fG' : Nat → Int32} {rL' : Int32} {fL' : Nat → Int32} {rH' : Int32} {fH' : Nat → Int32} {gi' : Int32} {di' : Int32} {re' : Int32} {ti' : Int32} : pj 0 [1, 2, 3, 4, 5, 6, 7, 8, 9, 10, 11] (wHo X hh rP' fP' rT' fT' rG' fG' rL' fL' rH' fH' gi' di' re' ti') (wLR X x0 hh ht ch tx y hy rP fP rT fT rG fG rL fL rH fH gi di re ti rPT fPT rTT fTT rGT fGT rLT fLT rHT fHT giT diT reT tiT rS fS rB fB rO fO pl fa cn ro Q) (wLR X x0 hh ht ch tx y hy rP' fP' rT' fT' rG' fG' rL' fL' rH' fH' gi' di' re' ti' rPT fPT rTT fTT rGT fGT rLT fLT rHT fHT giT diT reT tiT rS fS rB fB rO fO pl fa cn ro Q) := pj_app 1 rfl rfl (pj_old 1 rfl (by decide +kernel)) (pj_app 11 rfl rfl (pj_new fun q hq => hq) (pj_app 11 rfl rfl (pj_old 11 rfl (by decide +kernel)) (pj_app 3 rfl rfl (pj_old 3 rfl (by decide +kernel)) (pj_app 5 rfl rfl (pj_old 5 rfl (by decide +kernel)) (pj_old 46 rfl (by decide +kernel))))))
theorem lJ_t {X : cx_G} {x0 : Nat} {hh ht ch tx y : Nat → Nat} {hy : Nat → Nat → Nat} {rP : Int32} {fP : Nat → Int32} {rT : Int32} {fT : Nat → Int32} {rG : Int32} {fG : Nat → Int32} {rL : Int32} {fL : Nat → Int32} {rH : Int32} {fH : Nat → Int32} {gi : Int32} {di : Int32} {re : Int32} {ti : Int32} {rPT : Int32} {fPT : Nat → Int32} {rTT : Int32} {fTT : Nat → Int32} {rGT : Int32} {fGT : Nat → Int32} {rLT : Int32} {fLT : Nat → Int32} {rHT : Int32} {fHT : Nat → Int32} {giT : Int32} {diT : Int32} {reT : Int32} {tiT : Int32} {rS : Int32} {fS : Nat → Int32} {rB : Int32} {fB : Nat → Int32} {rO : Int32} {fO : Nat → Int32} {pl fa cn : Int32} {ro : Nat} {Q : Nat → HS} {rP' : Int32} {fP' : Nat → Int32} {rT' : Int32} {fT' : Nat → Int32} {rG' : Int32} {fG' : Nat → Int32} {rL' : Int32} {fL' : Nat → Int32} {rH' : Int32} {fH' : Nat → Int32} {gi' : Int32} {di' : Int32} {re' : Int32} {ti' : Int32} : pj 0 [12, 13, 14, 15, 16, 17, 18, 19, 20, 21, 22] (wHo X ht rP' fP' rT' fT' rG' fG' rL' fL' rH' fH' gi' di' re' ti') (wLR X x0 hh ht ch tx y hy rP fP rT fT rG fG rL fL rH fH gi di re ti rPT fPT rTT fTT rGT fGT rLT fLT rHT fHT giT diT reT tiT rS fS rB fB rO fO pl fa cn ro Q) (wLR X x0 hh ht ch tx y hy rP fP rT fT rG fG rL fL rH fH gi di re ti rP' fP' rT' fT' rG' fG' rL' fL' rH' fH' gi' di' re' ti' rS fS rB fB rO fO pl fa cn ro Q) := pj_app 1 rfl rfl (pj_old 1 rfl (by decide +kernel)) (pj_app 11 rfl rfl (pj_old 11 rfl (by decide +kernel)) (pj_app 11 rfl rfl (pj_new fun q hq => hq) (pj_app 3 rfl rfl (pj_old 3 rfl (by decide +kernel)) (pj_app 5 rfl rfl (pj_old 5 rfl (by decide +kernel)) (pj_old 46 rfl (by decide +kernel))))))
theorem lJ_th {X : cx_G} {x0 : Nat} {hh ht ch tx y : Nat → Nat} {hy : Nat → Nat → Nat} {rP : Int32} {fP : Nat → Int32} {rT : Int32} {fT : Nat → Int32} {rG : Int32} {fG : Nat → Int32} {rL : Int32} {fL : Nat → Int32} {rH : Int32} {fH : Nat → Int32} {gi : Int32} {di : Int32} {re : Int32} {ti : Int32} {rPT : Int32} {fPT : Nat → Int32} {rTT : Int32} {fTT : Nat → Int32} {rGT : Int32} {fGT : Nat → Int32} {rLT : Int32} {fLT : Nat → Int32} {rHT : Int32} {fHT : Nat → Int32} {giT : Int32} {diT : Int32} {reT : Int32} {tiT : Int32} {rS : Int32} {fS : Nat → Int32} {rB : Int32} {fB : Nat → Int32} {rO : Int32} {fO : Nat → Int32} {pl fa cn : Int32} {ro : Nat} {Q : Nat → HS} {rP' : Int32} {fP' : Nat → Int32} {rT' : Int32} {fT' : Nat → Int32} {rG' : Int32} {fG' : Nat → Int32} {rL' : Int32} {fL' : Nat → Int32} {rH' : Int32} {fH' : Nat → Int32} {gi' : Int32} {di' : Int32} {re' : Int32} {ti' : Int32} : pj 0 [12, 13, 14, 15, 16, 17, 18, 19, 20, 21, 22, 1, 2, 3, 4, 5, 6, 7, 8, 9, 10, 11] (wHo X ht rP' fP' rT' fT' rG' fG' rL' fL' rH' fH' gi' di' re' ti' ++ (wHo X hh rP fP rT fT rG fG rL fL rH fH gi di re ti)) (wLR X x0 hh ht ch tx y hy rP fP rT fT rG fG rL fL rH fH gi di re ti rPT fPT rTT fTT rGT fGT rLT fLT rHT fHT giT diT reT tiT rS fS rB fB rO fO pl fa cn ro Q) (wLR X x0 hh ht ch tx y hy rP fP rT fT rG fG rL fL rH fH gi di re ti rP' fP' rT' fT' rG' fG' rL' fL' rH' fH' gi' di' re' ti' rS fS rB fB rO fO pl fa cn ro Q) := pj_app 1 rfl rfl (pj_old 1 rfl (by decide +kernel)) (pj_app 11 rfl rfl (pj_new fun q hq => List.mem_append_right _ hq) (pj_app 11 rfl rfl (pj_new fun q hq => List.mem_append_left _ hq) (pj_app 3 rfl rfl (pj_old 3 rfl (by decide +kernel)) (pj_app 5 rfl rfl (pj_old 5 rfl (by decide +kernel)) (pj_old 46 rfl (by decide +kernel))))))
theorem lJ_ch {X : cx_G} {x0 : Nat} {hh ht ch tx y : Nat → Nat} {hy : Nat → Nat → Nat} {rP : Int32} {fP : Nat → Int32} {rT : Int32} {fT : Nat → Int32} {rG : Int32} {fG : Nat → Int32} {rL : Int32} {fL : Nat → Int32} {rH : Int32} {fH : Nat → Int32} {gi : Int32} {di : Int32} {re : Int32} {ti : Int32} {rPT : Int32} {fPT : Nat → Int32} {rTT : Int32} {fTT : Nat → Int32} {rGT : Int32} {fGT : Nat → Int32} {rLT : Int32} {fLT : Nat → Int32} {rHT : Int32} {fHT : Nat → Int32} {giT : Int32} {diT : Int32} {reT : Int32} {tiT : Int32} {rS : Int32} {fS : Nat → Int32} {rB : Int32} {fB : Nat → Int32} {rO : Int32} {fO : Nat → Int32} {pl fa cn : Int32} {ro : Nat} {Q : Nat → HS} {rS' : Int32} {fS' : Nat → Int32} : pj 0 [23, 24, 25, 1, 2, 3, 4, 5, 6, 7, 8, 9, 10, 11] (wCh X ch rS' fS' ++ (wHo X hh rP fP rT fT rG fG rL fL rH fH gi di re ti)) (wLR X x0 hh ht ch tx y hy rP fP rT fT rG fG rL fL rH fH gi di re ti rPT fPT rTT fTT rGT fGT rLT fLT rHT fHT giT diT reT tiT rS fS rB fB rO fO pl fa cn ro Q) (wLR X x0 hh ht ch tx y hy rP fP rT fT rG fG rL fL rH fH gi di re ti rPT fPT rTT fTT rGT fGT rLT fLT rHT fHT giT diT reT tiT rS' fS' rB fB rO fO pl fa cn ro Q) := pj_app 1 rfl rfl (pj_old 1 rfl (by decide +kernel)) (pj_app 11 rfl rfl (pj_new fun q hq => List.mem_append_right _ hq) (pj_app 11 rfl rfl (pj_old 11 rfl (by decide +kernel)) (pj_app 3 rfl rfl (pj_new fun q hq => List.mem_append_left _ hq) (pj_app 5 rfl rfl (pj_old 5 rfl (by decide +kernel)) (pj_old 46 rfl (by decide +kernel))))))
theorem lJ_x {X : cx_G} {x0 : Nat} {hh ht ch tx y : Nat → Nat} {hy : Nat → Nat → Nat} {rP : Int32} {fP : Nat → Int32} {rT : Int32} {fT : Nat → Int32} {rG : Int32} {fG : Nat → Int32} {rL : Int32} {fL : Nat → Int32} {rH : Int32} {fH : Nat → Int32} {gi : Int32} {di : Int32} {re : Int32} {ti : Int32} {rPT : Int32} {fPT : Nat → Int32} {rTT : Int32} {fTT : Nat → Int32} {rGT : Int32} {fGT : Nat → Int32} {rLT : Int32} {fLT : Nat → Int32} {rHT : Int32} {fHT : Nat → Int32} {giT : Int32} {diT : Int32} {reT : Int32} {tiT : Int32} {rS : Int32} {fS : Nat → Int32} {rB : Int32} {fB : Nat → Int32} {rO : Int32} {fO : Nat → Int32} {pl fa cn : Int32} {ro : Nat} {Q : Nat → HS} {rB' : Int32} {fB' : Nat → Int32} {rO' : Int32} {fO' : Nat → Int32} {pl' fa' : Int32} : pj 0 [26, 27, 28, 29, 30] (wTx X tx rB' fB' rO' fO' pl' fa') (wLR X x0 hh ht ch tx y hy rP fP rT fT rG fG rL fL rH fH gi di re ti rPT fPT rTT fTT rGT fGT rLT fLT rHT fHT giT diT reT tiT rS fS rB fB rO fO pl fa cn ro Q) (wLR X x0 hh ht ch tx y hy rP fP rT fT rG fG rL fL rH fH gi di re ti rPT fPT rTT fTT rGT fGT rLT fLT rHT fHT giT diT reT tiT rS fS rB' fB' rO' fO' pl' fa' cn ro Q) := pj_app 1 rfl rfl (pj_old 1 rfl (by decide +kernel)) (pj_app 11 rfl rfl (pj_old 11 rfl (by decide +kernel)) (pj_app 11 rfl rfl (pj_old 11 rfl (by decide +kernel)) (pj_app 3 rfl rfl (pj_old 3 rfl (by decide +kernel)) (pj_app 5 rfl rfl (pj_new fun q hq => hq) (pj_old 46 rfl (by decide +kernel))))))
theorem lJ_ih {X : cx_G} {x0 : Nat} {hh ht ch tx y : Nat → Nat} {hy : Nat → Nat → Nat} {rP : Int32} {fP : Nat → Int32} {rT : Int32} {fT : Nat → Int32} {rG : Int32} {fG : Nat → Int32} {rL : Int32} {fL : Nat → Int32} {rH : Int32} {fH : Nat → Int32} {gi : Int32} {di : Int32} {re : Int32} {ti : Int32} {rPT : Int32} {fPT : Nat → Int32} {rTT : Int32} {fTT : Nat → Int32} {rGT : Int32} {fGT : Nat → Int32} {rLT : Int32} {fLT : Nat → Int32} {rHT : Int32} {fHT : Nat → Int32} {giT : Int32} {diT : Int32} {reT : Int32} {tiT : Int32} {rS : Int32} {fS : Nat → Int32} {rB : Int32} {fB : Nat → Int32} {rO : Int32} {fO : Nat → Int32} {pl fa cn : Int32} {ro : Nat} {Q : Nat → HS} {cn' : Int32} {ro' : Nat} {Q' : Nat → HS} {rP' : Int32} {fP' : Nat → Int32} {rT' : Int32} {fT' : Nat → Int32} {rG' : Int32} {fG' : Nat → Int32} {rL' : Int32} {fL' : Nat → Int32} {rH' : Int32} {fH' : Nat → Int32} {gi' : Int32} {di' : Int32} {re' : Int32} {ti' : Int32} : pj 0 [31, 32, 33, 34, 35, 36, 37, 38, 39, 40, 41, 42, 43, 44, 45, 46, 47, 48, 49, 50, 51, 52, 53, 54, 55, 56, 57, 58, 59, 60, 61, 62, 63, 64, 65, 66, 67, 68, 69, 70, 71, 72, 73, 74, 75, 76, 1, 2, 3, 4, 5, 6, 7, 8, 9, 10, 11] (wHi X y hy cn' ro' Q' ++ wHo X hh rP' fP' rT' fT' rG' fG' rL' fL' rH' fH' gi' di' re' ti') (wLR X x0 hh ht ch tx y hy rP fP rT fT rG fG rL fL rH fH gi di re ti rPT fPT rTT fTT rGT fGT rLT fLT rHT fHT giT diT reT tiT rS fS rB fB rO fO pl fa cn ro Q) (wLR X x0 hh ht ch tx y hy rP' fP' rT' fT' rG' fG' rL' fL' rH' fH' gi' di' re' ti' rPT fPT rTT fTT rGT fGT rLT fLT rHT fHT giT diT reT tiT rS fS rB fB rO fO pl fa cn' ro' Q') := pj_app 1 rfl rfl (pj_old 1 rfl (by decide +kernel)) (pj_app 11 rfl rfl (pj_new fun q hq => List.mem_append_right _ hq) (pj_app 11 rfl rfl (pj_old 11 rfl (by decide +kernel)) (pj_app 3 rfl rfl (pj_old 3 rfl (by decide +kernel)) (pj_app 5 rfl rfl (pj_old 5 rfl (by decide +kernel)) (pj_new fun q hq => List.mem_append_left _ hq)))))
theorem hoJ_p {X : cx_G} {h : Nat → Nat} {rP : Int32} {fP : Nat → Int32} {rT : Int32} {fT : Nat → Int32} {rG : Int32} {fG : Nat → Int32} {rL : Int32} {fL : Nat → Int32} {rH : Int32} {fH : Nat → Int32} {gi : Int32} {di : Int32} {re : Int32} {ti : Int32} {fP' : Nat → Int32} : pj 1 [2, 3] (wTb X (h 1) (h 2) 10 2 20 rP fP') (wHo X h rP fP rT fT rG fG rL fL rH fH gi di re ti) (wHo X h rP fP' rT fT rG fG rL fL rH fH gi di re ti) := fun k q hk => match k, hk with
  | 0, hk => Or.inr ⟨hk, by decide⟩
  | 1, hk => Or.inl (by cases hk; exact List.mem_cons_self)
  | 2, hk => Or.inl (by cases hk; exact List.mem_cons_of_mem _ List.mem_cons_self)
  | k + 3, hk => Or.inr ⟨hk, by simp only [List.mem_cons, List.not_mem_nil, or_false]; omega⟩
theorem lJ_p {X : cx_G} {x0 : Nat} {hh ht ch tx y : Nat → Nat} {hy : Nat → Nat → Nat} {rP : Int32} {fP : Nat → Int32} {rT : Int32} {fT : Nat → Int32} {rG : Int32} {fG : Nat → Int32} {rL : Int32} {fL : Nat → Int32} {rH : Int32} {fH : Nat → Int32} {gi : Int32} {di : Int32} {re : Int32} {ti : Int32} {rPT : Int32} {fPT : Nat → Int32} {rTT : Int32} {fTT : Nat → Int32} {rGT : Int32} {fGT : Nat → Int32} {rLT : Int32} {fLT : Nat → Int32} {rHT : Int32} {fHT : Nat → Int32} {giT : Int32} {diT : Int32} {reT : Int32} {tiT : Int32} {rS : Int32} {fS : Nat → Int32} {rB : Int32} {fB : Nat → Int32} {rO : Int32} {fO : Nat → Int32} {pl fa cn : Int32} {ro : Nat} {Q : Nat → HS} {fP' : Nat → Int32} : pj 0 [2, 3] (wTb X (hh 1) (hh 2) 10 2 20 rP fP') (wLR X x0 hh ht ch tx y hy rP fP rT fT rG fG rL fL rH fH gi di re ti rPT fPT rTT fTT rGT fGT rLT fLT rHT fHT giT diT reT tiT rS fS rB fB rO fO pl fa cn ro Q) (wLR X x0 hh ht ch tx y hy rP fP' rT fT rG fG rL fL rH fH gi di re ti rPT fPT rTT fTT rGT fGT rLT fLT rHT fHT giT diT reT tiT rS fS rB fB rO fO pl fa cn ro Q) := pj_app 1 rfl rfl (pj_old 1 rfl (by decide +kernel)) (pj_app 11 rfl rfl hoJ_p (pj_app 11 rfl rfl (pj_old 11 rfl (by decide +kernel)) (pj_app 3 rfl rfl (pj_old 3 rfl (by decide +kernel)) (pj_app 5 rfl rfl (pj_old 5 rfl (by decide +kernel)) (pj_old 46 rfl (by decide +kernel))))))
