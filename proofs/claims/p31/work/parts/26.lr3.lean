def f_X5_grantOf (x1 : Int32) (x2 : Int32) (rT : Int32) (fT : (Nat → Int32)) (rG : Int32) (fG : (Nat → Int32)) (rH : Int32) (fH : (Nat → Int32)) : Option ((String) ⊕ (Int32)) :=
  bx (f_X5_requireGrant x1 rG fG) (fun E_3 => some (.inl E_3)) (fun r_1 =>
  bx (f_X5_requireRange x2 (0 : Int32) (5 : Int32)) (fun E_6 => some (.inl E_6)) (fun u_5 =>
  bd (f_X2_aboutGrant r_1 x2 rT fT rG fG rH fH) (fun r_7 =>
  some (.inr r_7))))
set_option maxHeartbeats 4000000 in
set_option maxRecDepth 100000 in
theorem c_X5_grantOf (l : Launch) (X : cx_G) (x0 : Nat) (hh : (Nat → Nat)) (ht : (Nat → Nat)) (ch : (Nat → Nat)) (tx : (Nat → Nat)) (y : (Nat → Nat)) (hy : (Nat → Nat → Nat)) (rP : Int32) (fP : (Nat → Int32)) (rT : Int32) (fT : (Nat → Int32)) (rG : Int32) (fG : (Nat → Int32)) (rL : Int32) (fL : (Nat → Int32)) (rH : Int32) (fH : (Nat → Int32)) (gi : Int32) (di : Int32) (re : Int32) (ti : Int32) (rPT : Int32) (fPT : (Nat → Int32)) (rTT : Int32) (fTT : (Nat → Int32)) (rGT : Int32) (fGT : (Nat → Int32)) (rLT : Int32) (fLT : (Nat → Int32)) (rHT : Int32) (fHT : (Nat → Int32)) (giT : Int32) (diT : Int32) (reT : Int32) (tiT : Int32) (rS : Int32) (fS : (Nat → Int32)) (rB : Int32) (fB : (Nat → Int32)) (rO : Int32) (fO : (Nat → Int32)) (pl : Int32) (fa : Int32) (cn : Int32) (ro : Nat) (Qh : (Nat → HS)) (x1 : Int32) (x2 : Int32) (r : Int32) (hf : f_X5_grantOf x1 x2 rT fT rG fG rH fH = some (.inr r)) : Fn l yX5_grantOf wsX5_grantOf ({ frames := 3, cells := 0, slots := 0, locals := 69 } : Room) X [.ref (x0), .int x1, .int x2] (wLR X x0 hh ht ch tx y hy rP fP rT fT rG fG rL fL rH fH gi di re ti rPT fPT rTT fTT rGT fGT rLT fLT rHT fHT giT diT reT tiT rS fS rB fB rO fO pl fa cn ro Qh) (some (.int r)) (wLR X x0 hh ht ch tx y hy rP fP rT fT rG fG rL fL rH fH gi di re ti rPT fPT rTT fTT rGT fGT rLT fLT rHT fHT giT diT reT tiT rS fS rB fB rO fO pl fa cn ro Qh) := by
  refine fn_intro (cc := cX5_grantOf) (maxL := 4) (ret := (some .int)) (by decide) rfl rfl (Nat.le_of_ble_eq_true rfl) ?_
  intro p e s m args below meth c A ls hx hb hml hr hts hown hlocks hK hP hD0 hS hA hl
  have hown : s.vm.findClass RX5 = some m.cls := hown
  have hl : lv_has ls 4 [(0, .ref (x0)), (1, .int x1), (2, .int x2)] := hl
  have hiX5 : ∀ w ∈ u_ws RX5 TX5 5, w ∈ wsX5_grantOf := by decide +kernel
  have k10 := hts (.fieldLink RX5 10 "LentRights" "house" "LLentRights$House;") (by decide +kernel)
  unfold f_X5_grantOf at hf
  refine lv_aload_n hx hb dX5_grantOf_0 rfl (lv_at hl 0 rfl) ?_
  refine lv_iload_n hx hb dX5_grantOf_1 rfl (lv_at hl 1 rfl) ?_
  rcases bx_of hf with ⟨E_3, hc_2, hf⟩ | ⟨r_1, hc_2, hf⟩
  · cases hf
  · refine fn_V (v := some (.int r_1)) (As := [.int x1]) (rest := []) (st1 := [.int r_1]) (ws' := (wLR X x0 hh ht ch tx y hy rP fP rT fT rG fG rL fL rH fH gi di re ti rPT fPT rTT fTT rGT fGT rLT fLT rHT fHT giT diT reT tiT rS fS rB fB rO fO pl fa cn ro Qh)) (nL := 4) ⟨hx, hb, hml, hown, hts⟩ (c_X5_requireGrant l X x0 hh ht ch tx y hy rP fP rT fT rG fG rL fL rH fH gi di re ti rPT fPT rTT fTT rGT fGT rLT fLT rHT fHT giT diT reT tiT rS fS rB fB rO fO pl fa cn ro Qh x1 r_1 hc_2) (cwV 1 hts gX5_grantOf_X5_requireGrant rfl rfl rfl (by decide +kernel) ⟨Nat.le_of_ble_eq_true rfl, Nat.le_of_ble_eq_true rfl⟩) 5 rfl rfl rfl rfl hl.1 rfl (Nat.le_of_ble_eq_true rfl) dX5_grantOf_2 hK hP (hD0.addr (wLR_fst.trans wLR_fst.symm)) hS hA [0, 1, 2, 3, 4, 5, 6, 7, 8, 9, 10, 11, 12, 13, 14, 15, 16, 17, 18, 19, 20, 21, 22, 23, 24, 25, 26, 27, 28, 29, 30, 31, 32, 33, 34, 35, 36, 37, 38, 39, 40, 41, 42, 43, 44, 45, 46, 47, 48, 49, 50, 51, 52, 53, 54, 55, 56, 57, 58, 59, 60, 61, 62, 63, 64, 65, 66, 67, 68, 69, 70, 71, 72, 73, 74, 75, 76] (by decide +kernel) lC_a (pt_setid _ _ _ lC_a) rfl ⟨Nat.zero_le _, Nat.zero_le _⟩ (fun H locs hP hD hS => ?_)
    refine lv_istore_n (lv' := [(3, .int r_1), (0, .ref (x0)), (1, .int x1), (2, .int x2)]) hx hb dX5_grantOf_5 rfl hl (by decide) rfl (fun ls hl => ?_)
    refine lv_iload_n hx hb dX5_grantOf_6 rfl (lv_at hl 3 rfl) ?_
    refine lv_iconst (v := 0) hx hb dX5_grantOf_7 (by decide) ?_
    refine lv_iconst (v := 5) hx hb dX5_grantOf_8 (by decide) ?_
    rcases bx_of hf with ⟨E_6, hc_4, hf⟩ | ⟨u_5, hc_4, hf⟩
    · cases hf
    · refine fn_Sx (v := none) (As := [.int x2, .int (0 : Int32), .int (5 : Int32)]) (rest := []) (st1 := []) (ws' := (wLR X x0 hh ht ch tx y hy rP fP rT fT rG fG rL fL rH fH gi di re ti rPT fPT rTT fTT rGT fGT rLT fLT rHT fHT giT diT reT tiT rS fS rB fB rO fO pl fa cn ro Qh)) (nL := 4) ⟨hx, hb, hml, hown, hts⟩ (c_X5_requireRange l X x2 (0 : Int32) (5 : Int32) hc_4) (va_cwS 3 hts gX5_grantOf_X5_requireRange rfl rfl rfl (by decide +kernel) ⟨Nat.le_of_ble_eq_true rfl, Nat.le_of_ble_eq_true rfl⟩) rfl hl.1 rfl (Nat.le_of_ble_eq_true rfl) dX5_grantOf_9 hK hP (hD0.addr (wLR_fst.trans wLR_fst.symm)) hS hA [] (by decide +kernel) rfl (pt_setid _ _ _ rfl) rfl ⟨Nat.zero_le _, Nat.zero_le _⟩ (fun H locs hP hD hS => ?_)
      refine lv_aload_n hx hb dX5_grantOf_12 rfl (lv_at hl 1 rfl) ?_
      refine va_get (D := X.1) (ci := 5) (v := .ref (hh 0)) (C := RX5) (T := TX5) (N := 5) hx hb hts hiX5 hown hK.1 hP 0 rfl rfl 0 (by decide) k10 (fun _ h9 => h9) rfl dX5_grantOf_13 ?_
      refine lv_iload_n hx hb dX5_grantOf_16 rfl (lv_at hl 0 rfl) ?_
      refine lv_iload_n hx hb dX5_grantOf_17 rfl (lv_at hl 3 rfl) ?_
      obtain ⟨r_7, hc_8, hf⟩ := bd_of hf
      refine fn_V (v := some (.int r_7)) (As := [.int r_1, .int x2]) (rest := []) (st1 := [.int r_7]) (ws' := (wLR X x0 hh ht ch tx y hy rP fP rT fT rG fG rL fL rH fH gi di re ti rPT fPT rTT fTT rGT fGT rLT fLT rHT fHT giT diT reT tiT rS fS rB fB rO fO pl fa cn ro Qh)) (nL := 4) ⟨hx, hb, hml, hown, hts⟩ (c_X2_aboutGrant l X hh rP fP rT fT rG fG rL fL rH fH gi di re ti r_1 x2 r_7 hc_8) (cwV 2 hts gX5_grantOf_X2_aboutGrant rfl rfl rfl (by decide +kernel) ⟨Nat.le_of_ble_eq_true rfl, Nat.le_of_ble_eq_true rfl⟩) 2 rfl rfl rfl rfl hl.1 rfl (Nat.le_of_ble_eq_true rfl) dX5_grantOf_18 hK hP (hD0.addr (wLR_fst.trans wLR_fst.symm)) hS hA [1, 2, 3, 4, 5, 6, 7, 8, 9, 10, 11] (by decide +kernel) lC_h (pt_setid _ _ _ lC_h) rfl ⟨Nat.zero_le _, Nat.zero_le _⟩ (fun H locs hP hD hS => ?_)
      cases hf
      exact fn_iret hx hb hr hlocks hP hS dX5_grantOf_21

def f_X5_chain (x1 : Int32) (x2 : Int32) (rT : Int32) (fT : (Nat → Int32)) (rG : Int32) (fG : (Nat → Int32)) (rH : Int32) (fH : (Nat → Int32)) (rS : Int32) (fS : (Nat → Int32)) : Option ((String × (Nat → Int32)) ⊕ (Int32 × (Nat → Int32))) :=
  bx (f_X5_requirePerson x1) (fun E_3 => some (.inl (E_3, fS))) (fun u_2 =>
  bx (f_X5_requireThing x2 rT) (fun E_6 => some (.inl (E_6, fS))) (fun u_5 =>
  bd (f_X0_measure x2 rS fS rT fT rG fG rH fH) (fun fS_7 =>
  bd (f_X0_stepsTo x1 rS fS_7) (fun r_9 =>
  some (.inr (r_9, fS_7))))))
set_option maxHeartbeats 4000000 in
set_option maxRecDepth 100000 in
theorem c_X5_chain (l : Launch) (X : cx_G) (x0 : Nat) (hh : (Nat → Nat)) (ht : (Nat → Nat)) (ch : (Nat → Nat)) (tx : (Nat → Nat)) (y : (Nat → Nat)) (hy : (Nat → Nat → Nat)) (rP : Int32) (fP : (Nat → Int32)) (rT : Int32) (fT : (Nat → Int32)) (rG : Int32) (fG : (Nat → Int32)) (rL : Int32) (fL : (Nat → Int32)) (rH : Int32) (fH : (Nat → Int32)) (gi : Int32) (di : Int32) (re : Int32) (ti : Int32) (rPT : Int32) (fPT : (Nat → Int32)) (rTT : Int32) (fTT : (Nat → Int32)) (rGT : Int32) (fGT : (Nat → Int32)) (rLT : Int32) (fLT : (Nat → Int32)) (rHT : Int32) (fHT : (Nat → Int32)) (giT : Int32) (diT : Int32) (reT : Int32) (tiT : Int32) (rS : Int32) (fS : (Nat → Int32)) (rB : Int32) (fB : (Nat → Int32)) (rO : Int32) (fO : (Nat → Int32)) (pl : Int32) (fa : Int32) (cn : Int32) (ro : Nat) (Qh : (Nat → HS)) (x1 : Int32) (x2 : Int32) (r : Int32) (fS' : (Nat → Int32)) (hf : f_X5_chain x1 x2 rT fT rG fG rH fH rS fS = some (.inr (r, fS'))) : Fn l yX5_chain wsX5_chain ({ frames := 4, cells := 0, slots := 0, locals := 97 } : Room) X [.ref (x0), .int x1, .int x2] (wLR X x0 hh ht ch tx y hy rP fP rT fT rG fG rL fL rH fH gi di re ti rPT fPT rTT fTT rGT fGT rLT fLT rHT fHT giT diT reT tiT rS fS rB fB rO fO pl fa cn ro Qh) (some (.int r)) (wLR X x0 hh ht ch tx y hy rP fP rT fT rG fG rL fL rH fH gi di re ti rPT fPT rTT fTT rGT fGT rLT fLT rHT fHT giT diT reT tiT rS fS' rB fB rO fO pl fa cn ro Qh) := by
  refine fn_intro (cc := cX5_chain) (maxL := 3) (ret := (some .int)) (by decide) rfl (wLR_fst.trans wLR_fst.symm) (Nat.le_of_ble_eq_true rfl) ?_
  intro p e s m args below meth c A ls hx hb hml hr hts hown hlocks hK hP hD0 hS hA hl
  have hown : s.vm.findClass RX5 = some m.cls := hown
  have hl : lv_has ls 3 [(0, .ref (x0)), (1, .int x1), (2, .int x2)] := hl
  have hiX5 : ∀ w ∈ u_ws RX5 TX5 5, w ∈ wsX5_chain := by decide +kernel
  have k10 := hts (.fieldLink RX5 10 "LentRights" "house" "LLentRights$House;") (by decide +kernel)
  have k29 := hts (.fieldLink RX5 29 "LentRights" "chains" "LLentRights$Chains;") (by decide +kernel)
  unfold f_X5_chain at hf
  refine lv_iload_n hx hb dX5_chain_0 rfl (lv_at hl 1 rfl) ?_
  rcases bx_of hf with ⟨E_3, hc_1, hf⟩ | ⟨u_2, hc_1, hf⟩
  · cases hf
  · refine fn_Sx (v := none) (As := [.int x1]) (rest := []) (st1 := []) (ws' := (wLR X x0 hh ht ch tx y hy rP fP rT fT rG fG rL fL rH fH gi di re ti rPT fPT rTT fTT rGT fGT rLT fLT rHT fHT giT diT reT tiT rS fS rB fB rO fO pl fa cn ro Qh)) (nL := 3) ⟨hx, hb, hml, hown, hts⟩ (c_X5_requirePerson l X x1 hc_1) (va_cwS 1 hts gX5_chain_X5_requirePerson rfl rfl rfl (by decide +kernel) ⟨Nat.le_of_ble_eq_true rfl, Nat.le_of_ble_eq_true rfl⟩) rfl hl.1 rfl (Nat.le_of_ble_eq_true rfl) dX5_chain_1 hK hP (hD0.addr (wLR_fst.trans wLR_fst.symm)) hS hA [] (by decide +kernel) rfl (pt_setid _ _ _ rfl) rfl ⟨Nat.zero_le _, Nat.zero_le _⟩ (fun H locs hP hD hS => ?_)
    refine lv_aload_n hx hb dX5_chain_4 rfl (lv_at hl 0 rfl) ?_
    refine lv_iload_n hx hb dX5_chain_5 rfl (lv_at hl 2 rfl) ?_
    rcases bx_of hf with ⟨E_6, hc_4, hf⟩ | ⟨u_5, hc_4, hf⟩
    · cases hf
    · refine fn_V (v := none) (As := [.int x2]) (rest := []) (st1 := []) (ws' := (wLR X x0 hh ht ch tx y hy rP fP rT fT rG fG rL fL rH fH gi di re ti rPT fPT rTT fTT rGT fGT rLT fLT rHT fHT giT diT reT tiT rS fS rB fB rO fO pl fa cn ro Qh)) (nL := 3) ⟨hx, hb, hml, hown, hts⟩ (c_X5_requireThing l X x0 hh ht ch tx y hy rP fP rT fT rG fG rL fL rH fH gi di re ti rPT fPT rTT fTT rGT fGT rLT fLT rHT fHT giT diT reT tiT rS fS rB fB rO fO pl fa cn ro Qh x2 hc_4) (cwV 1 hts gX5_chain_X5_requireThing rfl rfl rfl (by decide +kernel) ⟨Nat.le_of_ble_eq_true rfl, Nat.le_of_ble_eq_true rfl⟩) 5 rfl rfl rfl rfl hl.1 rfl (Nat.le_of_ble_eq_true rfl) dX5_chain_6 hK hP (hD0.addr (wLR_fst.trans wLR_fst.symm)) hS hA [0, 1, 2, 3, 4, 5, 6, 7, 8, 9, 10, 11, 12, 13, 14, 15, 16, 17, 18, 19, 20, 21, 22, 23, 24, 25, 26, 27, 28, 29, 30, 31, 32, 33, 34, 35, 36, 37, 38, 39, 40, 41, 42, 43, 44, 45, 46, 47, 48, 49, 50, 51, 52, 53, 54, 55, 56, 57, 58, 59, 60, 61, 62, 63, 64, 65, 66, 67, 68, 69, 70, 71, 72, 73, 74, 75, 76] (by decide +kernel) lC_a (pt_setid _ _ _ lC_a) rfl ⟨Nat.zero_le _, Nat.zero_le _⟩ (fun H locs hP hD hS => ?_)
      refine lv_aload_n hx hb dX5_chain_9 rfl (lv_at hl 0 rfl) ?_
      refine va_get (D := X.1) (ci := 5) (v := .ref (ch 0)) (C := RX5) (T := TX5) (N := 5) hx hb hts hiX5 hown hK.1 hP 0 rfl rfl 3 (by decide) k29 (fun _ h9 => h9) rfl dX5_chain_10 ?_
      refine lv_aload_n hx hb dX5_chain_13 rfl (lv_at hl 0 rfl) ?_
      refine va_get (D := X.1) (ci := 5) (v := .ref (hh 0)) (C := RX5) (T := TX5) (N := 5) hx hb hts hiX5 hown hK.1 hP 0 rfl rfl 0 (by decide) k10 (fun _ h9 => h9) rfl dX5_chain_14 ?_
      refine lv_iload_n hx hb dX5_chain_17 rfl (lv_at hl 2 rfl) ?_
      obtain ⟨fS_7, hc_8, hf⟩ := bd_of hf
      refine fn_VJ (v := none) (As := [.ref (hh 0), .int x2]) (rest := []) (st1 := []) (ws' := (wLR X x0 hh ht ch tx y hy rP fP rT fT rG fG rL fL rH fH gi di re ti rPT fPT rTT fTT rGT fGT rLT fLT rHT fHT giT diT reT tiT rS fS_7 rB fB rO fO pl fa cn ro Qh)) (nL := 3) ⟨hx, hb, hml, hown, hts⟩ (c_X0_measure l X ch hh rS fS rP fP rT fT rG fG rL fL rH fH gi di re ti x2 fS_7 hc_8) (cwV 2 hts gX5_chain_X0_measure rfl rfl rfl (by decide +kernel) ⟨Nat.le_of_ble_eq_true rfl, Nat.le_of_ble_eq_true rfl⟩) 0 rfl rfl rfl rfl hl.1 rfl (Nat.le_of_ble_eq_true rfl) dX5_chain_18 hK hP (hD0.addr (wLR_fst.trans wLR_fst.symm)) hS hA [23, 24, 25, 1, 2, 3, 4, 5, 6, 7, 8, 9, 10, 11] (by decide +kernel) lC_ch lJ_ch (wLR_fst.trans wLR_fst.symm) rfl ⟨Nat.zero_le _, Nat.zero_le _⟩ (fun H locs hP hD hS => ?_)
      refine lv_aload_n hx hb dX5_chain_21 rfl (lv_at hl 0 rfl) ?_
      refine va_get (D := X.1) (ci := 5) (v := .ref (ch 0)) (C := RX5) (T := TX5) (N := 5) hx hb hts hiX5 hown hK.1 hP 0 rfl rfl 3 (by decide) k29 (fun _ h9 => h9) rfl dX5_chain_22 ?_
      refine lv_iload_n hx hb dX5_chain_25 rfl (lv_at hl 1 rfl) ?_
      obtain ⟨r_9, hc_10, hf⟩ := bd_of hf
      refine fn_V (v := some (.int r_9)) (As := [.int x1]) (rest := []) (st1 := [.int r_9]) (ws' := (wLR X x0 hh ht ch tx y hy rP fP rT fT rG fG rL fL rH fH gi di re ti rPT fPT rTT fTT rGT fGT rLT fLT rHT fHT giT diT reT tiT rS fS_7 rB fB rO fO pl fa cn ro Qh)) (nL := 3) ⟨hx, hb, hml, hown, hts⟩ (c_X0_stepsTo l X ch rS fS_7 x1 r_9 hc_10) (cwV 1 hts gX5_chain_X0_stepsTo rfl rfl rfl (by decide +kernel) ⟨Nat.le_of_ble_eq_true rfl, Nat.le_of_ble_eq_true rfl⟩) 0 rfl rfl rfl rfl hl.1 rfl (Nat.le_of_ble_eq_true rfl) dX5_chain_26 hK hP (hD0.addr (wLR_fst.trans wLR_fst.symm)) hS hA [23, 24, 25] (by decide +kernel) lC_c (pt_setid _ _ _ lC_c) rfl ⟨Nat.zero_le _, Nat.zero_le _⟩ (fun H locs hP hD hS => ?_)
      cases hf
      exact fn_iret hx hb hr hlocks hP hS dX5_chain_29

def f_X5_link (x1 : Int32) (x2 : Int32) (x3 : Int32) (rT : Int32) (fT : (Nat → Int32)) (rG : Int32) (fG : (Nat → Int32)) (rH : Int32) (fH : (Nat → Int32)) (rS : Int32) (fS : (Nat → Int32)) : Option ((String × (Nat → Int32)) ⊕ (Int32 × (Nat → Int32))) :=
  bx (f_X5_requirePerson x1) (fun E_3 => some (.inl (E_3, fS))) (fun u_2 =>
  bx (f_X5_requireThing x2 rT) (fun E_6 => some (.inl (E_6, fS))) (fun u_5 =>
  bd (f_X0_measure x2 rS fS rT fT rG fG rH fH) (fun fS_7 =>
  if x3 < (0 : Int32) then
  (some (.inl ("java/lang/IndexOutOfBoundsException", fS_7)))
  else
  (bd (f_X0_stepsTo x1 rS fS_7) (fun r_10 =>
  if x3 < r_10 then
  (bd (f_X0_numberAt x1 x2 x3 rS fS_7 rT fT rG fG rH fH) (fun r_13 =>
  some (.inr (r_13, fS_7))))
  else
  (some (.inl ("java/lang/IndexOutOfBoundsException", fS_7))))))))
set_option maxHeartbeats 4000000 in
set_option maxRecDepth 100000 in
theorem c_X5_link (l : Launch) (X : cx_G) (x0 : Nat) (hh : (Nat → Nat)) (ht : (Nat → Nat)) (ch : (Nat → Nat)) (tx : (Nat → Nat)) (y : (Nat → Nat)) (hy : (Nat → Nat → Nat)) (rP : Int32) (fP : (Nat → Int32)) (rT : Int32) (fT : (Nat → Int32)) (rG : Int32) (fG : (Nat → Int32)) (rL : Int32) (fL : (Nat → Int32)) (rH : Int32) (fH : (Nat → Int32)) (gi : Int32) (di : Int32) (re : Int32) (ti : Int32) (rPT : Int32) (fPT : (Nat → Int32)) (rTT : Int32) (fTT : (Nat → Int32)) (rGT : Int32) (fGT : (Nat → Int32)) (rLT : Int32) (fLT : (Nat → Int32)) (rHT : Int32) (fHT : (Nat → Int32)) (giT : Int32) (diT : Int32) (reT : Int32) (tiT : Int32) (rS : Int32) (fS : (Nat → Int32)) (rB : Int32) (fB : (Nat → Int32)) (rO : Int32) (fO : (Nat → Int32)) (pl : Int32) (fa : Int32) (cn : Int32) (ro : Nat) (Qh : (Nat → HS)) (x1 : Int32) (x2 : Int32) (x3 : Int32) (r : Int32) (fS' : (Nat → Int32)) (hf : f_X5_link x1 x2 x3 rT fT rG fG rH fH rS fS = some (.inr (r, fS'))) : Fn l yX5_link wsX5_link ({ frames := 5, cells := 0, slots := 0, locals := 125 } : Room) X [.ref (x0), .int x1, .int x2, .int x3] (wLR X x0 hh ht ch tx y hy rP fP rT fT rG fG rL fL rH fH gi di re ti rPT fPT rTT fTT rGT fGT rLT fLT rHT fHT giT diT reT tiT rS fS rB fB rO fO pl fa cn ro Qh) (some (.int r)) (wLR X x0 hh ht ch tx y hy rP fP rT fT rG fG rL fL rH fH gi di re ti rPT fPT rTT fTT rGT fGT rLT fLT rHT fHT giT diT reT tiT rS fS' rB fB rO fO pl fa cn ro Qh) := by
  refine fn_intro (cc := cX5_link) (maxL := 4) (ret := (some .int)) (by decide) rfl (wLR_fst.trans wLR_fst.symm) (Nat.le_of_ble_eq_true rfl) ?_
  intro p e s m args below meth c A ls hx hb hml hr hts hown hlocks hK hP hD0 hS hA hl
  have hown : s.vm.findClass RX5 = some m.cls := hown
  have hl : lv_has ls 4 [(0, .ref (x0)), (1, .int x1), (2, .int x2), (3, .int x3)] := hl
  have hiX5 : ∀ w ∈ u_ws RX5 TX5 5, w ∈ wsX5_link := by decide +kernel
  have k10 := hts (.fieldLink RX5 10 "LentRights" "house" "LLentRights$House;") (by decide +kernel)
  have k29 := hts (.fieldLink RX5 29 "LentRights" "chains" "LLentRights$Chains;") (by decide +kernel)
  unfold f_X5_link at hf
  refine lv_iload_n hx hb dX5_link_0 rfl (lv_at hl 1 rfl) ?_
  rcases bx_of hf with ⟨E_3, hc_1, hf⟩ | ⟨u_2, hc_1, hf⟩
  · cases hf
  · refine fn_Sx (v := none) (As := [.int x1]) (rest := []) (st1 := []) (ws' := (wLR X x0 hh ht ch tx y hy rP fP rT fT rG fG rL fL rH fH gi di re ti rPT fPT rTT fTT rGT fGT rLT fLT rHT fHT giT diT reT tiT rS fS rB fB rO fO pl fa cn ro Qh)) (nL := 4) ⟨hx, hb, hml, hown, hts⟩ (c_X5_requirePerson l X x1 hc_1) (va_cwS 1 hts gX5_link_X5_requirePerson rfl rfl rfl (by decide +kernel) ⟨Nat.le_of_ble_eq_true rfl, Nat.le_of_ble_eq_true rfl⟩) rfl hl.1 rfl (Nat.le_of_ble_eq_true rfl) dX5_link_1 hK hP (hD0.addr (wLR_fst.trans wLR_fst.symm)) hS hA [] (by decide +kernel) rfl (pt_setid _ _ _ rfl) rfl ⟨Nat.zero_le _, Nat.zero_le _⟩ (fun H locs hP hD hS => ?_)
    refine lv_aload_n hx hb dX5_link_4 rfl (lv_at hl 0 rfl) ?_
    refine lv_iload_n hx hb dX5_link_5 rfl (lv_at hl 2 rfl) ?_
    rcases bx_of hf with ⟨E_6, hc_4, hf⟩ | ⟨u_5, hc_4, hf⟩
    · cases hf
    · refine fn_V (v := none) (As := [.int x2]) (rest := []) (st1 := []) (ws' := (wLR X x0 hh ht ch tx y hy rP fP rT fT rG fG rL fL rH fH gi di re ti rPT fPT rTT fTT rGT fGT rLT fLT rHT fHT giT diT reT tiT rS fS rB fB rO fO pl fa cn ro Qh)) (nL := 4) ⟨hx, hb, hml, hown, hts⟩ (c_X5_requireThing l X x0 hh ht ch tx y hy rP fP rT fT rG fG rL fL rH fH gi di re ti rPT fPT rTT fTT rGT fGT rLT fLT rHT fHT giT diT reT tiT rS fS rB fB rO fO pl fa cn ro Qh x2 hc_4) (cwV 1 hts gX5_link_X5_requireThing rfl rfl rfl (by decide +kernel) ⟨Nat.le_of_ble_eq_true rfl, Nat.le_of_ble_eq_true rfl⟩) 5 rfl rfl rfl rfl hl.1 rfl (Nat.le_of_ble_eq_true rfl) dX5_link_6 hK hP (hD0.addr (wLR_fst.trans wLR_fst.symm)) hS hA [0, 1, 2, 3, 4, 5, 6, 7, 8, 9, 10, 11, 12, 13, 14, 15, 16, 17, 18, 19, 20, 21, 22, 23, 24, 25, 26, 27, 28, 29, 30, 31, 32, 33, 34, 35, 36, 37, 38, 39, 40, 41, 42, 43, 44, 45, 46, 47, 48, 49, 50, 51, 52, 53, 54, 55, 56, 57, 58, 59, 60, 61, 62, 63, 64, 65, 66, 67, 68, 69, 70, 71, 72, 73, 74, 75, 76] (by decide +kernel) lC_a (pt_setid _ _ _ lC_a) rfl ⟨Nat.zero_le _, Nat.zero_le _⟩ (fun H locs hP hD hS => ?_)
      refine lv_aload_n hx hb dX5_link_9 rfl (lv_at hl 0 rfl) ?_
      refine va_get (D := X.1) (ci := 5) (v := .ref (ch 0)) (C := RX5) (T := TX5) (N := 5) hx hb hts hiX5 hown hK.1 hP 0 rfl rfl 3 (by decide) k29 (fun _ h9 => h9) rfl dX5_link_10 ?_
      refine lv_aload_n hx hb dX5_link_13 rfl (lv_at hl 0 rfl) ?_
      refine va_get (D := X.1) (ci := 5) (v := .ref (hh 0)) (C := RX5) (T := TX5) (N := 5) hx hb hts hiX5 hown hK.1 hP 0 rfl rfl 0 (by decide) k10 (fun _ h9 => h9) rfl dX5_link_14 ?_
      refine lv_iload_n hx hb dX5_link_17 rfl (lv_at hl 2 rfl) ?_
      obtain ⟨fS_7, hc_8, hf⟩ := bd_of hf
      refine fn_VJ (v := none) (As := [.ref (hh 0), .int x2]) (rest := []) (st1 := []) (ws' := (wLR X x0 hh ht ch tx y hy rP fP rT fT rG fG rL fL rH fH gi di re ti rPT fPT rTT fTT rGT fGT rLT fLT rHT fHT giT diT reT tiT rS fS_7 rB fB rO fO pl fa cn ro Qh)) (nL := 4) ⟨hx, hb, hml, hown, hts⟩ (c_X0_measure l X ch hh rS fS rP fP rT fT rG fG rL fL rH fH gi di re ti x2 fS_7 hc_8) (cwV 2 hts gX5_link_X0_measure rfl rfl rfl (by decide +kernel) ⟨Nat.le_of_ble_eq_true rfl, Nat.le_of_ble_eq_true rfl⟩) 0 rfl rfl rfl rfl hl.1 rfl (Nat.le_of_ble_eq_true rfl) dX5_link_18 hK hP (hD0.addr (wLR_fst.trans wLR_fst.symm)) hS hA [23, 24, 25, 1, 2, 3, 4, 5, 6, 7, 8, 9, 10, 11] (by decide +kernel) lC_ch lJ_ch (wLR_fst.trans wLR_fst.symm) rfl ⟨Nat.zero_le _, Nat.zero_le _⟩ (fun H locs hP hD hS => ?_)
      refine lv_iload_n hx hb dX5_link_21 rfl (lv_at hl 3 rfl) ?_
      refine lv_if_lt (tgt := 37) hx hb dX5_link_22 (by decide) (fun c_9 => ?_) (fun c_9 => ?_)
      · replace hf := fp_t c_9 hf
        cases hf
      · replace hf := fp_f c_9 hf
        refine lv_iload_n hx hb dX5_link_25 rfl (lv_at hl 3 rfl) ?_
        refine lv_aload_n hx hb dX5_link_26 rfl (lv_at hl 0 rfl) ?_
        refine va_get (D := X.1) (ci := 5) (v := .ref (ch 0)) (C := RX5) (T := TX5) (N := 5) hx hb hts hiX5 hown hK.1 hP 0 rfl rfl 3 (by decide) k29 (fun _ h9 => h9) rfl dX5_link_27 ?_
        refine lv_iload_n hx hb dX5_link_30 rfl (lv_at hl 1 rfl) ?_
        obtain ⟨r_10, hc_11, hf⟩ := bd_of hf
        refine fn_V (v := some (.int r_10)) (As := [.int x1]) (rest := [.int x3]) (st1 := [.int r_10, .int x3]) (ws' := (wLR X x0 hh ht ch tx y hy rP fP rT fT rG fG rL fL rH fH gi di re ti rPT fPT rTT fTT rGT fGT rLT fLT rHT fHT giT diT reT tiT rS fS_7 rB fB rO fO pl fa cn ro Qh)) (nL := 4) ⟨hx, hb, hml, hown, hts⟩ (c_X0_stepsTo l X ch rS fS_7 x1 r_10 hc_11) (cwV 1 hts gX5_link_X0_stepsTo rfl rfl rfl (by decide +kernel) ⟨Nat.le_of_ble_eq_true rfl, Nat.le_of_ble_eq_true rfl⟩) 0 rfl rfl rfl rfl hl.1 rfl (Nat.le_of_ble_eq_true rfl) dX5_link_31 hK hP (hD0.addr (wLR_fst.trans wLR_fst.symm)) hS hA [23, 24, 25] (by decide +kernel) lC_c (pt_setid _ _ _ lC_c) rfl ⟨Nat.zero_le _, Nat.zero_le _⟩ (fun H locs hP hD hS => ?_)
        refine lv_icmp_lt (tgt := 47) hx hb dX5_link_34 (by decide) (fun c_12 => ?_) (fun c_12 => ?_)
        · replace hf := fp_t c_12 hf
          refine lv_aload_n hx hb dX5_link_47 rfl (lv_at hl 0 rfl) ?_
          refine va_get (D := X.1) (ci := 5) (v := .ref (ch 0)) (C := RX5) (T := TX5) (N := 5) hx hb hts hiX5 hown hK.1 hP 0 rfl rfl 3 (by decide) k29 (fun _ h9 => h9) rfl dX5_link_48 ?_
          refine lv_aload_n hx hb dX5_link_51 rfl (lv_at hl 0 rfl) ?_
          refine va_get (D := X.1) (ci := 5) (v := .ref (hh 0)) (C := RX5) (T := TX5) (N := 5) hx hb hts hiX5 hown hK.1 hP 0 rfl rfl 0 (by decide) k10 (fun _ h9 => h9) rfl dX5_link_52 ?_
          refine lv_iload_n hx hb dX5_link_55 rfl (lv_at hl 1 rfl) ?_
          refine lv_iload_n hx hb dX5_link_56 rfl (lv_at hl 2 rfl) ?_
          refine lv_iload_n hx hb dX5_link_57 rfl (lv_at hl 3 rfl) ?_
          obtain ⟨r_13, hc_14, hf⟩ := bd_of hf
          refine fn_V (v := some (.int r_13)) (As := [.ref (hh 0), .int x1, .int x2, .int x3]) (rest := []) (st1 := [.int r_13]) (ws' := (wLR X x0 hh ht ch tx y hy rP fP rT fT rG fG rL fL rH fH gi di re ti rPT fPT rTT fTT rGT fGT rLT fLT rHT fHT giT diT reT tiT rS fS_7 rB fB rO fO pl fa cn ro Qh)) (nL := 4) ⟨hx, hb, hml, hown, hts⟩ (c_X0_numberAt l X ch hh rS fS_7 rP fP rT fT rG fG rL fL rH fH gi di re ti x1 x2 x3 r_13 hc_14) (cwV 4 hts gX5_link_X0_numberAt rfl rfl rfl (by decide +kernel) ⟨Nat.le_of_ble_eq_true rfl, Nat.le_of_ble_eq_true rfl⟩) 0 rfl rfl rfl rfl hl.1 rfl (Nat.le_of_ble_eq_true rfl) dX5_link_58 hK hP (hD0.addr (wLR_fst.trans wLR_fst.symm)) hS hA [23, 24, 25, 1, 2, 3, 4, 5, 6, 7, 8, 9, 10, 11] (by decide +kernel) lC_ch (pt_setid _ _ _ lC_ch) rfl ⟨Nat.zero_le _, Nat.zero_le _⟩ (fun H locs hP hD hS => ?_)
          cases hf
          exact fn_iret hx hb hr hlocks hP hS dX5_link_61
        · replace hf := fp_f c_12 hf
          cases hf

def f_X5_why (x1 : Int32) (x2 : Int32) (x3 : Int32) (rT : Int32) (fT : (Nat → Int32)) (rG : Int32) (fG : (Nat → Int32)) (rH : Int32) (fH : (Nat → Int32)) : Option ((String) ⊕ (Int32)) :=
  bx (f_X5_requirePerson x1) (fun E_3 => some (.inl E_3)) (fun u_2 =>
  bx (f_X5_requireThing x2 rT) (fun E_6 => some (.inl E_6)) (fun u_5 =>
  if x3 = (1 : Int32) then
  (bd (f_X2_reasonAgainst x1 x2 x3 rT fT rG fG rH fH) (fun r_8 =>
  some (.inr r_8)))
  else
  (if x3 = (2 : Int32) then
  (bd (f_X2_reasonAgainst x1 x2 x3 rT fT rG fG rH fH) (fun r_11 =>
  some (.inr r_11)))
  else
  (if x3 = (4 : Int32) then
  (bd (f_X2_reasonAgainst x1 x2 x3 rT fT rG fG rH fH) (fun r_14 =>
  some (.inr r_14)))
  else
  (some (.inl ("java/lang/IllegalArgumentException")))))))
set_option maxHeartbeats 4000000 in
set_option maxRecDepth 100000 in
theorem c_X5_why (l : Launch) (X : cx_G) (x0 : Nat) (hh : (Nat → Nat)) (ht : (Nat → Nat)) (ch : (Nat → Nat)) (tx : (Nat → Nat)) (y : (Nat → Nat)) (hy : (Nat → Nat → Nat)) (rP : Int32) (fP : (Nat → Int32)) (rT : Int32) (fT : (Nat → Int32)) (rG : Int32) (fG : (Nat → Int32)) (rL : Int32) (fL : (Nat → Int32)) (rH : Int32) (fH : (Nat → Int32)) (gi : Int32) (di : Int32) (re : Int32) (ti : Int32) (rPT : Int32) (fPT : (Nat → Int32)) (rTT : Int32) (fTT : (Nat → Int32)) (rGT : Int32) (fGT : (Nat → Int32)) (rLT : Int32) (fLT : (Nat → Int32)) (rHT : Int32) (fHT : (Nat → Int32)) (giT : Int32) (diT : Int32) (reT : Int32) (tiT : Int32) (rS : Int32) (fS : (Nat → Int32)) (rB : Int32) (fB : (Nat → Int32)) (rO : Int32) (fO : (Nat → Int32)) (pl : Int32) (fa : Int32) (cn : Int32) (ro : Nat) (Qh : (Nat → HS)) (x1 : Int32) (x2 : Int32) (x3 : Int32) (r : Int32) (hf : f_X5_why x1 x2 x3 rT fT rG fG rH fH = some (.inr r)) : Fn l yX5_why wsX5_why ({ frames := 3, cells := 0, slots := 0, locals := 74 } : Room) X [.ref (x0), .int x1, .int x2, .int x3] (wLR X x0 hh ht ch tx y hy rP fP rT fT rG fG rL fL rH fH gi di re ti rPT fPT rTT fTT rGT fGT rLT fLT rHT fHT giT diT reT tiT rS fS rB fB rO fO pl fa cn ro Qh) (some (.int r)) (wLR X x0 hh ht ch tx y hy rP fP rT fT rG fG rL fL rH fH gi di re ti rPT fPT rTT fTT rGT fGT rLT fLT rHT fHT giT diT reT tiT rS fS rB fB rO fO pl fa cn ro Qh) := by
  refine fn_intro (cc := cX5_why) (maxL := 4) (ret := (some .int)) (by decide) rfl rfl (Nat.le_of_ble_eq_true rfl) ?_
  intro p e s m args below meth c A ls hx hb hml hr hts hown hlocks hK hP hD0 hS hA hl
  have hown : s.vm.findClass RX5 = some m.cls := hown
  have hl : lv_has ls 4 [(0, .ref (x0)), (1, .int x1), (2, .int x2), (3, .int x3)] := hl
  have hiX5 : ∀ w ∈ u_ws RX5 TX5 5, w ∈ wsX5_why := by decide +kernel
  have k10 := hts (.fieldLink RX5 10 "LentRights" "house" "LLentRights$House;") (by decide +kernel)
  unfold f_X5_why at hf
  refine lv_iload_n hx hb dX5_why_0 rfl (lv_at hl 1 rfl) ?_
  rcases bx_of hf with ⟨E_3, hc_1, hf⟩ | ⟨u_2, hc_1, hf⟩
  · cases hf
  · refine fn_Sx (v := none) (As := [.int x1]) (rest := []) (st1 := []) (ws' := (wLR X x0 hh ht ch tx y hy rP fP rT fT rG fG rL fL rH fH gi di re ti rPT fPT rTT fTT rGT fGT rLT fLT rHT fHT giT diT reT tiT rS fS rB fB rO fO pl fa cn ro Qh)) (nL := 4) ⟨hx, hb, hml, hown, hts⟩ (c_X5_requirePerson l X x1 hc_1) (va_cwS 1 hts gX5_why_X5_requirePerson rfl rfl rfl (by decide +kernel) ⟨Nat.le_of_ble_eq_true rfl, Nat.le_of_ble_eq_true rfl⟩) rfl hl.1 rfl (Nat.le_of_ble_eq_true rfl) dX5_why_1 hK hP (hD0.addr (wLR_fst.trans wLR_fst.symm)) hS hA [] (by decide +kernel) rfl (pt_setid _ _ _ rfl) rfl ⟨Nat.zero_le _, Nat.zero_le _⟩ (fun H locs hP hD hS => ?_)
    refine lv_aload_n hx hb dX5_why_4 rfl (lv_at hl 0 rfl) ?_
    refine lv_iload_n hx hb dX5_why_5 rfl (lv_at hl 2 rfl) ?_
    rcases bx_of hf with ⟨E_6, hc_4, hf⟩ | ⟨u_5, hc_4, hf⟩
    · cases hf
    · refine fn_V (v := none) (As := [.int x2]) (rest := []) (st1 := []) (ws' := (wLR X x0 hh ht ch tx y hy rP fP rT fT rG fG rL fL rH fH gi di re ti rPT fPT rTT fTT rGT fGT rLT fLT rHT fHT giT diT reT tiT rS fS rB fB rO fO pl fa cn ro Qh)) (nL := 4) ⟨hx, hb, hml, hown, hts⟩ (c_X5_requireThing l X x0 hh ht ch tx y hy rP fP rT fT rG fG rL fL rH fH gi di re ti rPT fPT rTT fTT rGT fGT rLT fLT rHT fHT giT diT reT tiT rS fS rB fB rO fO pl fa cn ro Qh x2 hc_4) (cwV 1 hts gX5_why_X5_requireThing rfl rfl rfl (by decide +kernel) ⟨Nat.le_of_ble_eq_true rfl, Nat.le_of_ble_eq_true rfl⟩) 5 rfl rfl rfl rfl hl.1 rfl (Nat.le_of_ble_eq_true rfl) dX5_why_6 hK hP (hD0.addr (wLR_fst.trans wLR_fst.symm)) hS hA [0, 1, 2, 3, 4, 5, 6, 7, 8, 9, 10, 11, 12, 13, 14, 15, 16, 17, 18, 19, 20, 21, 22, 23, 24, 25, 26, 27, 28, 29, 30, 31, 32, 33, 34, 35, 36, 37, 38, 39, 40, 41, 42, 43, 44, 45, 46, 47, 48, 49, 50, 51, 52, 53, 54, 55, 56, 57, 58, 59, 60, 61, 62, 63, 64, 65, 66, 67, 68, 69, 70, 71, 72, 73, 74, 75, 76] (by decide +kernel) lC_a (pt_setid _ _ _ lC_a) rfl ⟨Nat.zero_le _, Nat.zero_le _⟩ (fun H locs hP hD hS => ?_)
      refine lv_iload_n hx hb dX5_why_9 rfl (lv_at hl 3 rfl) ?_
      refine lv_iconst (v := 1) hx hb dX5_why_10 (by decide) ?_
      refine lv_icmp_eq (tgt := 34) hx hb dX5_why_11 (by decide) (fun c_7 => ?_) (fun c_7 => ?_)
      · replace hf := fp_t c_7 hf
        refine lv_aload_n hx hb dX5_why_34 rfl (lv_at hl 0 rfl) ?_
        refine va_get (D := X.1) (ci := 5) (v := .ref (hh 0)) (C := RX5) (T := TX5) (N := 5) hx hb hts hiX5 hown hK.1 hP 0 rfl rfl 0 (by decide) k10 (fun _ h9 => h9) rfl dX5_why_35 ?_
        refine lv_iload_n hx hb dX5_why_38 rfl (lv_at hl 1 rfl) ?_
        refine lv_iload_n hx hb dX5_why_39 rfl (lv_at hl 2 rfl) ?_
        refine lv_iload_n hx hb dX5_why_40 rfl (lv_at hl 3 rfl) ?_
        obtain ⟨r_8, hc_9, hf⟩ := bd_of hf
        refine fn_V (v := some (.int r_8)) (As := [.int x1, .int x2, .int x3]) (rest := []) (st1 := [.int r_8]) (ws' := (wLR X x0 hh ht ch tx y hy rP fP rT fT rG fG rL fL rH fH gi di re ti rPT fPT rTT fTT rGT fGT rLT fLT rHT fHT giT diT reT tiT rS fS rB fB rO fO pl fa cn ro Qh)) (nL := 4) ⟨hx, hb, hml, hown, hts⟩ (c_X2_reasonAgainst l X hh rP fP rT fT rG fG rL fL rH fH gi di re ti x1 x2 x3 r_8 hc_9) (cwV 3 hts gX5_why_X2_reasonAgainst rfl rfl rfl (by decide +kernel) ⟨Nat.le_of_ble_eq_true rfl, Nat.le_of_ble_eq_true rfl⟩) 2 rfl rfl rfl rfl hl.1 rfl (Nat.le_of_ble_eq_true rfl) dX5_why_41 hK hP (hD0.addr (wLR_fst.trans wLR_fst.symm)) hS hA [1, 2, 3, 4, 5, 6, 7, 8, 9, 10, 11] (by decide +kernel) lC_h (pt_setid _ _ _ lC_h) rfl ⟨Nat.zero_le _, Nat.zero_le _⟩ (fun H locs hP hD hS => ?_)
        cases hf
        exact fn_iret hx hb hr hlocks hP hS dX5_why_44
      · replace hf := fp_f c_7 hf
        refine lv_iload_n hx hb dX5_why_14 rfl (lv_at hl 3 rfl) ?_
        refine lv_iconst (v := 2) hx hb dX5_why_15 (by decide) ?_
        refine lv_icmp_eq (tgt := 34) hx hb dX5_why_16 (by decide) (fun c_10 => ?_) (fun c_10 => ?_)
        · replace hf := fp_t c_10 hf
          refine lv_aload_n hx hb dX5_why_34 rfl (lv_at hl 0 rfl) ?_
          refine va_get (D := X.1) (ci := 5) (v := .ref (hh 0)) (C := RX5) (T := TX5) (N := 5) hx hb hts hiX5 hown hK.1 hP 0 rfl rfl 0 (by decide) k10 (fun _ h9 => h9) rfl dX5_why_35 ?_
          refine lv_iload_n hx hb dX5_why_38 rfl (lv_at hl 1 rfl) ?_
          refine lv_iload_n hx hb dX5_why_39 rfl (lv_at hl 2 rfl) ?_
          refine lv_iload_n hx hb dX5_why_40 rfl (lv_at hl 3 rfl) ?_
          obtain ⟨r_11, hc_12, hf⟩ := bd_of hf
          refine fn_V (v := some (.int r_11)) (As := [.int x1, .int x2, .int x3]) (rest := []) (st1 := [.int r_11]) (ws' := (wLR X x0 hh ht ch tx y hy rP fP rT fT rG fG rL fL rH fH gi di re ti rPT fPT rTT fTT rGT fGT rLT fLT rHT fHT giT diT reT tiT rS fS rB fB rO fO pl fa cn ro Qh)) (nL := 4) ⟨hx, hb, hml, hown, hts⟩ (c_X2_reasonAgainst l X hh rP fP rT fT rG fG rL fL rH fH gi di re ti x1 x2 x3 r_11 hc_12) (cwV 3 hts gX5_why_X2_reasonAgainst rfl rfl rfl (by decide +kernel) ⟨Nat.le_of_ble_eq_true rfl, Nat.le_of_ble_eq_true rfl⟩) 2 rfl rfl rfl rfl hl.1 rfl (Nat.le_of_ble_eq_true rfl) dX5_why_41 hK hP (hD0.addr (wLR_fst.trans wLR_fst.symm)) hS hA [1, 2, 3, 4, 5, 6, 7, 8, 9, 10, 11] (by decide +kernel) lC_h (pt_setid _ _ _ lC_h) rfl ⟨Nat.zero_le _, Nat.zero_le _⟩ (fun H locs hP hD hS => ?_)
          cases hf
          exact fn_iret hx hb hr hlocks hP hS dX5_why_44
        · replace hf := fp_f c_10 hf
          refine lv_iload_n hx hb dX5_why_19 rfl (lv_at hl 3 rfl) ?_
          refine lv_iconst (v := 4) hx hb dX5_why_20 (by decide) ?_
          refine lv_icmp_eq (tgt := 34) hx hb dX5_why_21 (by decide) (fun c_13 => ?_) (fun c_13 => ?_)
          · replace hf := fp_t c_13 hf
            refine lv_aload_n hx hb dX5_why_34 rfl (lv_at hl 0 rfl) ?_
            refine va_get (D := X.1) (ci := 5) (v := .ref (hh 0)) (C := RX5) (T := TX5) (N := 5) hx hb hts hiX5 hown hK.1 hP 0 rfl rfl 0 (by decide) k10 (fun _ h9 => h9) rfl dX5_why_35 ?_
            refine lv_iload_n hx hb dX5_why_38 rfl (lv_at hl 1 rfl) ?_
            refine lv_iload_n hx hb dX5_why_39 rfl (lv_at hl 2 rfl) ?_
            refine lv_iload_n hx hb dX5_why_40 rfl (lv_at hl 3 rfl) ?_
            obtain ⟨r_14, hc_15, hf⟩ := bd_of hf
            refine fn_V (v := some (.int r_14)) (As := [.int x1, .int x2, .int x3]) (rest := []) (st1 := [.int r_14]) (ws' := (wLR X x0 hh ht ch tx y hy rP fP rT fT rG fG rL fL rH fH gi di re ti rPT fPT rTT fTT rGT fGT rLT fLT rHT fHT giT diT reT tiT rS fS rB fB rO fO pl fa cn ro Qh)) (nL := 4) ⟨hx, hb, hml, hown, hts⟩ (c_X2_reasonAgainst l X hh rP fP rT fT rG fG rL fL rH fH gi di re ti x1 x2 x3 r_14 hc_15) (cwV 3 hts gX5_why_X2_reasonAgainst rfl rfl rfl (by decide +kernel) ⟨Nat.le_of_ble_eq_true rfl, Nat.le_of_ble_eq_true rfl⟩) 2 rfl rfl rfl rfl hl.1 rfl (Nat.le_of_ble_eq_true rfl) dX5_why_41 hK hP (hD0.addr (wLR_fst.trans wLR_fst.symm)) hS hA [1, 2, 3, 4, 5, 6, 7, 8, 9, 10, 11] (by decide +kernel) lC_h (pt_setid _ _ _ lC_h) rfl ⟨Nat.zero_le _, Nat.zero_le _⟩ (fun H locs hP hD hS => ?_)
            cases hf
            exact fn_iret hx hb hr hlocks hP hS dX5_why_44
          · replace hf := fp_f c_13 hf
            cases hf

def f_X5_value (x1 : Int32) (rT : Int32) (fT : (Nat → Int32)) (rG : Int32) (fG : (Nat → Int32)) (rL : Int32) (rH : Int32) (fH : (Nat → Int32)) (gi : Int32) (di : Int32) (re : Int32) (ti : Int32) : Option ((String) ⊕ (Int32)) :=
  bx (f_X5_requireRange x1 (0 : Int32) (8 : Int32)) (fun E_3 => some (.inl E_3)) (fun u_2 =>
  bd (f_X2_aboutHouse x1 rT fT rG fG rL rH fH gi di re ti) (fun r_4 =>
  some (.inr r_4)))
set_option maxHeartbeats 4000000 in
set_option maxRecDepth 100000 in
theorem c_X5_value (l : Launch) (X : cx_G) (x0 : Nat) (hh : (Nat → Nat)) (ht : (Nat → Nat)) (ch : (Nat → Nat)) (tx : (Nat → Nat)) (y : (Nat → Nat)) (hy : (Nat → Nat → Nat)) (rP : Int32) (fP : (Nat → Int32)) (rT : Int32) (fT : (Nat → Int32)) (rG : Int32) (fG : (Nat → Int32)) (rL : Int32) (fL : (Nat → Int32)) (rH : Int32) (fH : (Nat → Int32)) (gi : Int32) (di : Int32) (re : Int32) (ti : Int32) (rPT : Int32) (fPT : (Nat → Int32)) (rTT : Int32) (fTT : (Nat → Int32)) (rGT : Int32) (fGT : (Nat → Int32)) (rLT : Int32) (fLT : (Nat → Int32)) (rHT : Int32) (fHT : (Nat → Int32)) (giT : Int32) (diT : Int32) (reT : Int32) (tiT : Int32) (rS : Int32) (fS : (Nat → Int32)) (rB : Int32) (fB : (Nat → Int32)) (rO : Int32) (fO : (Nat → Int32)) (pl : Int32) (fa : Int32) (cn : Int32) (ro : Nat) (Qh : (Nat → HS)) (x1 : Int32) (r : Int32) (hf : f_X5_value x1 rT fT rG fG rL rH fH gi di re ti = some (.inr r)) : Fn l yX5_value wsX5_value ({ frames := 4, cells := 0, slots := 0, locals := 91 } : Room) X [.ref (x0), .int x1] (wLR X x0 hh ht ch tx y hy rP fP rT fT rG fG rL fL rH fH gi di re ti rPT fPT rTT fTT rGT fGT rLT fLT rHT fHT giT diT reT tiT rS fS rB fB rO fO pl fa cn ro Qh) (some (.int r)) (wLR X x0 hh ht ch tx y hy rP fP rT fT rG fG rL fL rH fH gi di re ti rPT fPT rTT fTT rGT fGT rLT fLT rHT fHT giT diT reT tiT rS fS rB fB rO fO pl fa cn ro Qh) := by
  refine fn_intro (cc := cX5_value) (maxL := 2) (ret := (some .int)) (by decide) rfl rfl (Nat.le_of_ble_eq_true rfl) ?_
  intro p e s m args below meth c A ls hx hb hml hr hts hown hlocks hK hP hD0 hS hA hl
  have hown : s.vm.findClass RX5 = some m.cls := hown
  have hl : lv_has ls 2 [(0, .ref (x0)), (1, .int x1)] := hl
  have hiX5 : ∀ w ∈ u_ws RX5 TX5 5, w ∈ wsX5_value := by decide +kernel
  have k10 := hts (.fieldLink RX5 10 "LentRights" "house" "LLentRights$House;") (by decide +kernel)
  unfold f_X5_value at hf
  refine lv_iload_n hx hb dX5_value_0 rfl (lv_at hl 1 rfl) ?_
  refine lv_iconst (v := 0) hx hb dX5_value_1 (by decide) ?_
  refine lv_bipush (v := 8) hx hb dX5_value_2 (by decide) ?_
  rcases bx_of hf with ⟨E_3, hc_1, hf⟩ | ⟨u_2, hc_1, hf⟩
  · cases hf
  · refine fn_Sx (v := none) (As := [.int x1, .int (0 : Int32), .int (8 : Int32)]) (rest := []) (st1 := []) (ws' := (wLR X x0 hh ht ch tx y hy rP fP rT fT rG fG rL fL rH fH gi di re ti rPT fPT rTT fTT rGT fGT rLT fLT rHT fHT giT diT reT tiT rS fS rB fB rO fO pl fa cn ro Qh)) (nL := 2) ⟨hx, hb, hml, hown, hts⟩ (c_X5_requireRange l X x1 (0 : Int32) (8 : Int32) hc_1) (va_cwS 3 hts gX5_value_X5_requireRange rfl rfl rfl (by decide +kernel) ⟨Nat.le_of_ble_eq_true rfl, Nat.le_of_ble_eq_true rfl⟩) rfl hl.1 rfl (Nat.le_of_ble_eq_true rfl) dX5_value_4 hK hP (hD0.addr (wLR_fst.trans wLR_fst.symm)) hS hA [] (by decide +kernel) rfl (pt_setid _ _ _ rfl) rfl ⟨Nat.zero_le _, Nat.zero_le _⟩ (fun H locs hP hD hS => ?_)
    refine lv_aload_n hx hb dX5_value_7 rfl (lv_at hl 0 rfl) ?_
    refine va_get (D := X.1) (ci := 5) (v := .ref (hh 0)) (C := RX5) (T := TX5) (N := 5) hx hb hts hiX5 hown hK.1 hP 0 rfl rfl 0 (by decide) k10 (fun _ h9 => h9) rfl dX5_value_8 ?_
    refine lv_iload_n hx hb dX5_value_11 rfl (lv_at hl 1 rfl) ?_
    obtain ⟨r_4, hc_5, hf⟩ := bd_of hf
    refine fn_V (v := some (.int r_4)) (As := [.int x1]) (rest := []) (st1 := [.int r_4]) (ws' := (wLR X x0 hh ht ch tx y hy rP fP rT fT rG fG rL fL rH fH gi di re ti rPT fPT rTT fTT rGT fGT rLT fLT rHT fHT giT diT reT tiT rS fS rB fB rO fO pl fa cn ro Qh)) (nL := 2) ⟨hx, hb, hml, hown, hts⟩ (c_X2_aboutHouse l X hh rP fP rT fT rG fG rL fL rH fH gi di re ti x1 r_4 hc_5) (cwV 1 hts gX5_value_X2_aboutHouse rfl rfl rfl (by decide +kernel) ⟨Nat.le_of_ble_eq_true rfl, Nat.le_of_ble_eq_true rfl⟩) 2 rfl rfl rfl rfl hl.1 rfl (Nat.le_of_ble_eq_true rfl) dX5_value_12 hK hP (hD0.addr (wLR_fst.trans wLR_fst.symm)) hS hA [1, 2, 3, 4, 5, 6, 7, 8, 9, 10, 11] (by decide +kernel) lC_h (pt_setid _ _ _ lC_h) rfl ⟨Nat.zero_le _, Nat.zero_le _⟩ (fun H locs hP hD hS => ?_)
    cases hf
    exact fn_iret hx hb hr hlocks hP hS dX5_value_15

def f_X5_pairsLostBy (x1 : Int32) (rP : Int32) (fP : (Nat → Int32)) (rT : Int32) (fT : (Nat → Int32)) (rG : Int32) (fG : (Nat → Int32)) (rL : Int32) (fL : (Nat → Int32)) (rH : Int32) (fH : (Nat → Int32)) (gi : Int32) (di : Int32) (re : Int32) (ti : Int32) (rPT : Int32) (fPT : (Nat → Int32)) (rTT : Int32) (fTT : (Nat → Int32)) (rGT : Int32) (fGT : (Nat → Int32)) (rLT : Int32) (fLT : (Nat → Int32)) (rHT : Int32) (fHT : (Nat → Int32)) (giT : Int32) (diT : Int32) (reT : Int32) (tiT : Int32) : Option (Int32 × Int32 × (Nat → Int32) × Int32 × (Nat → Int32) × Int32 × (Nat → Int32) × Int32 × (Nat → Int32) × Int32 × (Nat → Int32) × Int32 × Int32 × Int32 × Int32) :=
  bd14 (f_X2_takeOver rPT fPT rTT fTT rGT fGT rLT fLT rHT fHT giT diT reT tiT rP fP rT fT rG fG rL fL rH fH gi di re ti) (fun rPT_1 fPT_2 rTT_3 fTT_4 rGT_5 fGT_6 rLT_7 fLT_8 rHT_9 fHT_10 giT_11 diT_12 reT_13 tiT_14 =>
  bd8 (f_X2_changeMood x1 (-100 : Int32) rPT_1 fPT_2 rTT_3 fTT_4 rGT_5 fGT_6 rLT_7 fLT_8 rHT_9 fHT_10 diT_12 tiT_14) (fun r_16 fPT_17 rGT_18 fGT_19 rLT_20 fLT_21 fHT_22 diT_23 =>
  bd (f_X2_countPairs rT rH fH) (fun r_25 =>
  bd (f_X2_countPairs rTT_3 rHT_9 fHT_22) (fun r_27 =>
  nm (r_25 - r_27) (fun v_29 =>
  some (v_29, rPT_1, fPT_17, rTT_3, fTT_4, rGT_18, fGT_19, rLT_20, fLT_21, rHT_9, fHT_22, giT_11, diT_23, reT_13, tiT_14))))))
set_option maxHeartbeats 4000000 in
set_option maxRecDepth 100000 in
theorem c_X5_pairsLostBy (l : Launch) (X : cx_G) (x0 : Nat) (hh : (Nat → Nat)) (ht : (Nat → Nat)) (ch : (Nat → Nat)) (tx : (Nat → Nat)) (y : (Nat → Nat)) (hy : (Nat → Nat → Nat)) (rP : Int32) (fP : (Nat → Int32)) (rT : Int32) (fT : (Nat → Int32)) (rG : Int32) (fG : (Nat → Int32)) (rL : Int32) (fL : (Nat → Int32)) (rH : Int32) (fH : (Nat → Int32)) (gi : Int32) (di : Int32) (re : Int32) (ti : Int32) (rPT : Int32) (fPT : (Nat → Int32)) (rTT : Int32) (fTT : (Nat → Int32)) (rGT : Int32) (fGT : (Nat → Int32)) (rLT : Int32) (fLT : (Nat → Int32)) (rHT : Int32) (fHT : (Nat → Int32)) (giT : Int32) (diT : Int32) (reT : Int32) (tiT : Int32) (rS : Int32) (fS : (Nat → Int32)) (rB : Int32) (fB : (Nat → Int32)) (rO : Int32) (fO : (Nat → Int32)) (pl : Int32) (fa : Int32) (cn : Int32) (ro : Nat) (Qh : (Nat → HS)) (x1 : Int32) (r : Int32) (rPT' : Int32) (fPT' : (Nat → Int32)) (rTT' : Int32) (fTT' : (Nat → Int32)) (rGT' : Int32) (fGT' : (Nat → Int32)) (rLT' : Int32) (fLT' : (Nat → Int32)) (rHT' : Int32) (fHT' : (Nat → Int32)) (giT' : Int32) (diT' : Int32) (reT' : Int32) (tiT' : Int32) (hf : f_X5_pairsLostBy x1 rP fP rT fT rG fG rL fL rH fH gi di re ti rPT fPT rTT fTT rGT fGT rLT fLT rHT fHT giT diT reT tiT = some (r, rPT', fPT', rTT', fTT', rGT', fGT', rLT', fLT', rHT', fHT', giT', diT', reT', tiT')) : Fn l yX5_pairsLostBy wsX5_pairsLostBy ({ frames := 4, cells := 0, slots := 0, locals := 98 } : Room) X [.ref (x0), .int x1] (wLR X x0 hh ht ch tx y hy rP fP rT fT rG fG rL fL rH fH gi di re ti rPT fPT rTT fTT rGT fGT rLT fLT rHT fHT giT diT reT tiT rS fS rB fB rO fO pl fa cn ro Qh) (some (.int r)) (wLR X x0 hh ht ch tx y hy rP fP rT fT rG fG rL fL rH fH gi di re ti rPT' fPT' rTT' fTT' rGT' fGT' rLT' fLT' rHT' fHT' giT' diT' reT' tiT' rS fS rB fB rO fO pl fa cn ro Qh) := by
  refine fn_intro (cc := cX5_pairsLostBy) (maxL := 2) (ret := (some .int)) (by decide) rfl (wLR_fst.trans wLR_fst.symm) (Nat.le_of_ble_eq_true rfl) ?_
  intro p e s m args below meth c A ls hx hb hml hr hts hown hlocks hK hP hD0 hS hA hl
  have hown : s.vm.findClass RX5 = some m.cls := hown
  have hl : lv_has ls 2 [(0, .ref (x0)), (1, .int x1)] := hl
  have hiX5 : ∀ w ∈ u_ws RX5 TX5 5, w ∈ wsX5_pairsLostBy := by decide +kernel
  have k10 := hts (.fieldLink RX5 10 "LentRights" "house" "LLentRights$House;") (by decide +kernel)
  have k16 := hts (.fieldLink RX5 16 "LentRights" "trial" "LLentRights$House;") (by decide +kernel)
  unfold f_X5_pairsLostBy at hf
  refine lv_aload_n hx hb dX5_pairsLostBy_0 rfl (lv_at hl 0 rfl) ?_
  refine va_get (D := X.1) (ci := 5) (v := .ref (ht 0)) (C := RX5) (T := TX5) (N := 5) hx hb hts hiX5 hown hK.1 hP 0 rfl rfl 1 (by decide) k16 (fun _ h9 => h9) rfl dX5_pairsLostBy_1 ?_
  refine lv_aload_n hx hb dX5_pairsLostBy_4 rfl (lv_at hl 0 rfl) ?_
  refine va_get (D := X.1) (ci := 5) (v := .ref (hh 0)) (C := RX5) (T := TX5) (N := 5) hx hb hts hiX5 hown hK.1 hP 0 rfl rfl 0 (by decide) k10 (fun _ h9 => h9) rfl dX5_pairsLostBy_5 ?_
  obtain ⟨rPT_1, fPT_2, rTT_3, fTT_4, rGT_5, fGT_6, rLT_7, fLT_8, rHT_9, fHT_10, giT_11, diT_12, reT_13, tiT_14, hc_15, hf⟩ := bd14_of hf
  refine fn_VJ (v := none) (As := [.ref (hh 0)]) (rest := []) (st1 := []) (ws' := (wLR X x0 hh ht ch tx y hy rP fP rT fT rG fG rL fL rH fH gi di re ti rPT_1 fPT_2 rTT_3 fTT_4 rGT_5 fGT_6 rLT_7 fLT_8 rHT_9 fHT_10 giT_11 diT_12 reT_13 tiT_14 rS fS rB fB rO fO pl fa cn ro Qh)) (nL := 2) ⟨hx, hb, hml, hown, hts⟩ (c_X2_takeOver l X ht hh rPT fPT rTT fTT rGT fGT rLT fLT rHT fHT giT diT reT tiT rP fP rT fT rG fG rL fL rH fH gi di re ti rPT_1 fPT_2 rTT_3 fTT_4 rGT_5 fGT_6 rLT_7 fLT_8 rHT_9 fHT_10 giT_11 diT_12 reT_13 tiT_14 hc_15) (cwV 1 hts gX5_pairsLostBy_X2_takeOver rfl rfl rfl (by decide +kernel) ⟨Nat.le_of_ble_eq_true rfl, Nat.le_of_ble_eq_true rfl⟩) 2 rfl rfl rfl rfl hl.1 rfl (Nat.le_of_ble_eq_true rfl) dX5_pairsLostBy_8 hK hP (hD0.addr (wLR_fst.trans wLR_fst.symm)) hS hA [12, 13, 14, 15, 16, 17, 18, 19, 20, 21, 22, 1, 2, 3, 4, 5, 6, 7, 8, 9, 10, 11] (by decide +kernel) lC_th lJ_th (wLR_fst.trans wLR_fst.symm) rfl ⟨Nat.zero_le _, Nat.zero_le _⟩ (fun H locs hP hD hS => ?_)
  refine lv_aload_n hx hb dX5_pairsLostBy_11 rfl (lv_at hl 0 rfl) ?_
  refine va_get (D := X.1) (ci := 5) (v := .ref (ht 0)) (C := RX5) (T := TX5) (N := 5) hx hb hts hiX5 hown hK.1 hP 0 rfl rfl 1 (by decide) k16 (fun _ h9 => h9) rfl dX5_pairsLostBy_12 ?_
  refine lv_iload_n hx hb dX5_pairsLostBy_15 rfl (lv_at hl 1 rfl) ?_
  refine lv_bipush (v := -100) hx hb dX5_pairsLostBy_16 (by decide) ?_
  obtain ⟨r_16, fPT_17, rGT_18, fGT_19, rLT_20, fLT_21, fHT_22, diT_23, hc_24, hf⟩ := bd8_of hf
  refine fn_VJ (v := some (.int r_16)) (As := [.int x1, .int (-100 : Int32)]) (rest := []) (st1 := [.int r_16]) (ws' := (wLR X x0 hh ht ch tx y hy rP fP rT fT rG fG rL fL rH fH gi di re ti rPT_1 fPT_17 rTT_3 fTT_4 rGT_18 fGT_19 rLT_20 fLT_21 rHT_9 fHT_22 giT_11 diT_23 reT_13 tiT_14 rS fS rB fB rO fO pl fa cn ro Qh)) (nL := 2) ⟨hx, hb, hml, hown, hts⟩ (c_X2_changeMood l X ht rPT_1 fPT_2 rTT_3 fTT_4 rGT_5 fGT_6 rLT_7 fLT_8 rHT_9 fHT_10 giT_11 diT_12 reT_13 tiT_14 x1 (-100 : Int32) r_16 fPT_17 rGT_18 fGT_19 rLT_20 fLT_21 fHT_22 diT_23 hc_24) (cwV 2 hts gX5_pairsLostBy_X2_changeMood rfl rfl rfl (by decide +kernel) ⟨Nat.le_of_ble_eq_true rfl, Nat.le_of_ble_eq_true rfl⟩) 2 rfl rfl rfl rfl hl.1 rfl (Nat.le_of_ble_eq_true rfl) dX5_pairsLostBy_18 hK hP (hD0.addr (wLR_fst.trans wLR_fst.symm)) hS hA [12, 13, 14, 15, 16, 17, 18, 19, 20, 21, 22] (by decide +kernel) lC_t lJ_t (wLR_fst.trans wLR_fst.symm) rfl ⟨Nat.zero_le _, Nat.zero_le _⟩ (fun H locs hP hD hS => ?_)
  refine lv_pop hx hb dX5_pairsLostBy_21 rfl ?_
  refine lv_aload_n hx hb dX5_pairsLostBy_22 rfl (lv_at hl 0 rfl) ?_
  refine va_get (D := X.1) (ci := 5) (v := .ref (hh 0)) (C := RX5) (T := TX5) (N := 5) hx hb hts hiX5 hown hK.1 hP 0 rfl rfl 0 (by decide) k10 (fun _ h9 => h9) rfl dX5_pairsLostBy_23 ?_
  obtain ⟨r_25, hc_26, hf⟩ := bd_of hf
  refine fn_V (v := some (.int r_25)) (As := []) (rest := []) (st1 := [.int r_25]) (ws' := (wLR X x0 hh ht ch tx y hy rP fP rT fT rG fG rL fL rH fH gi di re ti rPT_1 fPT_17 rTT_3 fTT_4 rGT_18 fGT_19 rLT_20 fLT_21 rHT_9 fHT_22 giT_11 diT_23 reT_13 tiT_14 rS fS rB fB rO fO pl fa cn ro Qh)) (nL := 2) ⟨hx, hb, hml, hown, hts⟩ (c_X2_countPairs l X hh rP fP rT fT rG fG rL fL rH fH gi di re ti r_25 hc_26) (cwV 0 hts gX5_pairsLostBy_X2_countPairs rfl rfl rfl (by decide +kernel) ⟨Nat.le_of_ble_eq_true rfl, Nat.le_of_ble_eq_true rfl⟩) 2 rfl rfl rfl rfl hl.1 rfl (Nat.le_of_ble_eq_true rfl) dX5_pairsLostBy_26 hK hP (hD0.addr (wLR_fst.trans wLR_fst.symm)) hS hA [1, 2, 3, 4, 5, 6, 7, 8, 9, 10, 11] (by decide +kernel) lC_h (pt_setid _ _ _ lC_h) rfl ⟨Nat.zero_le _, Nat.zero_le _⟩ (fun H locs hP hD hS => ?_)
  refine lv_aload_n hx hb dX5_pairsLostBy_29 rfl (lv_at hl 0 rfl) ?_
  refine va_get (D := X.1) (ci := 5) (v := .ref (ht 0)) (C := RX5) (T := TX5) (N := 5) hx hb hts hiX5 hown hK.1 hP 0 rfl rfl 1 (by decide) k16 (fun _ h9 => h9) rfl dX5_pairsLostBy_30 ?_
  obtain ⟨r_27, hc_28, hf⟩ := bd_of hf
  refine fn_V (v := some (.int r_27)) (As := []) (rest := [.int r_25]) (st1 := [.int r_27, .int r_25]) (ws' := (wLR X x0 hh ht ch tx y hy rP fP rT fT rG fG rL fL rH fH gi di re ti rPT_1 fPT_17 rTT_3 fTT_4 rGT_18 fGT_19 rLT_20 fLT_21 rHT_9 fHT_22 giT_11 diT_23 reT_13 tiT_14 rS fS rB fB rO fO pl fa cn ro Qh)) (nL := 2) ⟨hx, hb, hml, hown, hts⟩ (c_X2_countPairs l X ht rPT_1 fPT_17 rTT_3 fTT_4 rGT_18 fGT_19 rLT_20 fLT_21 rHT_9 fHT_22 giT_11 diT_23 reT_13 tiT_14 r_27 hc_28) (cwV 0 hts gX5_pairsLostBy_X2_countPairs rfl rfl rfl (by decide +kernel) ⟨Nat.le_of_ble_eq_true rfl, Nat.le_of_ble_eq_true rfl⟩) 2 rfl rfl rfl rfl hl.1 rfl (Nat.le_of_ble_eq_true rfl) dX5_pairsLostBy_33 hK hP (hD0.addr (wLR_fst.trans wLR_fst.symm)) hS hA [12, 13, 14, 15, 16, 17, 18, 19, 20, 21, 22] (by decide +kernel) lC_t (pt_setid _ _ _ lC_t) rfl ⟨Nat.zero_le _, Nat.zero_le _⟩ (fun H locs hP hD hS => ?_)
  refine lv_isub hx hb dX5_pairsLostBy_36 ?_
  refine lv_topi (fun v_29 ev_29 => ?_)
  replace hf := nm_of ev_29 hf
  cases hf
  exact fn_iret hx hb hr hlocks hP hS dX5_pairsLostBy_37

def f_X5_lostBy (x1 : Int32) (rP : Int32) (fP : (Nat → Int32)) (rT : Int32) (fT : (Nat → Int32)) (rG : Int32) (fG : (Nat → Int32)) (rL : Int32) (fL : (Nat → Int32)) (rH : Int32) (fH : (Nat → Int32)) (gi : Int32) (di : Int32) (re : Int32) (ti : Int32) (rPT : Int32) (fPT : (Nat → Int32)) (rTT : Int32) (fTT : (Nat → Int32)) (rGT : Int32) (fGT : (Nat → Int32)) (rLT : Int32) (fLT : (Nat → Int32)) (rHT : Int32) (fHT : (Nat → Int32)) (giT : Int32) (diT : Int32) (reT : Int32) (tiT : Int32) : Option ((String × Int32 × (Nat → Int32) × Int32 × (Nat → Int32) × Int32 × (Nat → Int32) × Int32 × (Nat → Int32) × Int32 × (Nat → Int32) × Int32 × Int32 × Int32 × Int32) ⊕ (Int32 × Int32 × (Nat → Int32) × Int32 × (Nat → Int32) × Int32 × (Nat → Int32) × Int32 × (Nat → Int32) × Int32 × (Nat → Int32) × Int32 × Int32 × Int32 × Int32)) :=
  bx (f_X5_requirePerson x1) (fun E_3 => some (.inl (E_3, rPT, fPT, rTT, fTT, rGT, fGT, rLT, fLT, rHT, fHT, giT, diT, reT, tiT))) (fun u_2 =>
  bd15 (f_X5_pairsLostBy x1 rP fP rT fT rG fG rL fL rH fH gi di re ti rPT fPT rTT fTT rGT fGT rLT fLT rHT fHT giT diT reT tiT) (fun r_4 rPT_5 fPT_6 rTT_7 fTT_8 rGT_9 fGT_10 rLT_11 fLT_12 rHT_13 fHT_14 giT_15 diT_16 reT_17 tiT_18 =>
  some (.inr (r_4, rPT_5, fPT_6, rTT_7, fTT_8, rGT_9, fGT_10, rLT_11, fLT_12, rHT_13, fHT_14, giT_15, diT_16, reT_17, tiT_18))))
set_option maxHeartbeats 4000000 in
set_option maxRecDepth 100000 in
theorem c_X5_lostBy (l : Launch) (X : cx_G) (x0 : Nat) (hh : (Nat → Nat)) (ht : (Nat → Nat)) (ch : (Nat → Nat)) (tx : (Nat → Nat)) (y : (Nat → Nat)) (hy : (Nat → Nat → Nat)) (rP : Int32) (fP : (Nat → Int32)) (rT : Int32) (fT : (Nat → Int32)) (rG : Int32) (fG : (Nat → Int32)) (rL : Int32) (fL : (Nat → Int32)) (rH : Int32) (fH : (Nat → Int32)) (gi : Int32) (di : Int32) (re : Int32) (ti : Int32) (rPT : Int32) (fPT : (Nat → Int32)) (rTT : Int32) (fTT : (Nat → Int32)) (rGT : Int32) (fGT : (Nat → Int32)) (rLT : Int32) (fLT : (Nat → Int32)) (rHT : Int32) (fHT : (Nat → Int32)) (giT : Int32) (diT : Int32) (reT : Int32) (tiT : Int32) (rS : Int32) (fS : (Nat → Int32)) (rB : Int32) (fB : (Nat → Int32)) (rO : Int32) (fO : (Nat → Int32)) (pl : Int32) (fa : Int32) (cn : Int32) (ro : Nat) (Qh : (Nat → HS)) (x1 : Int32) (r : Int32) (rPT' : Int32) (fPT' : (Nat → Int32)) (rTT' : Int32) (fTT' : (Nat → Int32)) (rGT' : Int32) (fGT' : (Nat → Int32)) (rLT' : Int32) (fLT' : (Nat → Int32)) (rHT' : Int32) (fHT' : (Nat → Int32)) (giT' : Int32) (diT' : Int32) (reT' : Int32) (tiT' : Int32) (hf : f_X5_lostBy x1 rP fP rT fT rG fG rL fL rH fH gi di re ti rPT fPT rTT fTT rGT fGT rLT fLT rHT fHT giT diT reT tiT = some (.inr (r, rPT', fPT', rTT', fTT', rGT', fGT', rLT', fLT', rHT', fHT', giT', diT', reT', tiT'))) : Fn l yX5_lostBy wsX5_lostBy ({ frames := 5, cells := 0, slots := 0, locals := 119 } : Room) X [.ref (x0), .int x1] (wLR X x0 hh ht ch tx y hy rP fP rT fT rG fG rL fL rH fH gi di re ti rPT fPT rTT fTT rGT fGT rLT fLT rHT fHT giT diT reT tiT rS fS rB fB rO fO pl fa cn ro Qh) (some (.int r)) (wLR X x0 hh ht ch tx y hy rP fP rT fT rG fG rL fL rH fH gi di re ti rPT' fPT' rTT' fTT' rGT' fGT' rLT' fLT' rHT' fHT' giT' diT' reT' tiT' rS fS rB fB rO fO pl fa cn ro Qh) := by
  refine fn_intro (cc := cX5_lostBy) (maxL := 2) (ret := (some .int)) (by decide) rfl (wLR_fst.trans wLR_fst.symm) (Nat.le_of_ble_eq_true rfl) ?_
  intro p e s m args below meth c A ls hx hb hml hr hts hown hlocks hK hP hD0 hS hA hl
  have hown : s.vm.findClass RX5 = some m.cls := hown
  have hl : lv_has ls 2 [(0, .ref (x0)), (1, .int x1)] := hl
  unfold f_X5_lostBy at hf
  refine lv_iload_n hx hb dX5_lostBy_0 rfl (lv_at hl 1 rfl) ?_
  rcases bx_of hf with ⟨E_3, hc_1, hf⟩ | ⟨u_2, hc_1, hf⟩
  · cases hf
  · refine fn_Sx (v := none) (As := [.int x1]) (rest := []) (st1 := []) (ws' := (wLR X x0 hh ht ch tx y hy rP fP rT fT rG fG rL fL rH fH gi di re ti rPT fPT rTT fTT rGT fGT rLT fLT rHT fHT giT diT reT tiT rS fS rB fB rO fO pl fa cn ro Qh)) (nL := 2) ⟨hx, hb, hml, hown, hts⟩ (c_X5_requirePerson l X x1 hc_1) (va_cwS 1 hts gX5_lostBy_X5_requirePerson rfl rfl rfl (by decide +kernel) ⟨Nat.le_of_ble_eq_true rfl, Nat.le_of_ble_eq_true rfl⟩) rfl hl.1 rfl (Nat.le_of_ble_eq_true rfl) dX5_lostBy_1 hK hP (hD0.addr (wLR_fst.trans wLR_fst.symm)) hS hA [] (by decide +kernel) rfl (pt_setid _ _ _ rfl) rfl ⟨Nat.zero_le _, Nat.zero_le _⟩ (fun H locs hP hD hS => ?_)
    refine lv_aload_n hx hb dX5_lostBy_4 rfl (lv_at hl 0 rfl) ?_
    refine lv_iload_n hx hb dX5_lostBy_5 rfl (lv_at hl 1 rfl) ?_
    obtain ⟨r_4, rPT_5, fPT_6, rTT_7, fTT_8, rGT_9, fGT_10, rLT_11, fLT_12, rHT_13, fHT_14, giT_15, diT_16, reT_17, tiT_18, hc_19, hf⟩ := bd15_of hf
    refine fn_VJ (v := some (.int r_4)) (As := [.int x1]) (rest := []) (st1 := [.int r_4]) (ws' := (wLR X x0 hh ht ch tx y hy rP fP rT fT rG fG rL fL rH fH gi di re ti rPT_5 fPT_6 rTT_7 fTT_8 rGT_9 fGT_10 rLT_11 fLT_12 rHT_13 fHT_14 giT_15 diT_16 reT_17 tiT_18 rS fS rB fB rO fO pl fa cn ro Qh)) (nL := 2) ⟨hx, hb, hml, hown, hts⟩ (c_X5_pairsLostBy l X x0 hh ht ch tx y hy rP fP rT fT rG fG rL fL rH fH gi di re ti rPT fPT rTT fTT rGT fGT rLT fLT rHT fHT giT diT reT tiT rS fS rB fB rO fO pl fa cn ro Qh x1 r_4 rPT_5 fPT_6 rTT_7 fTT_8 rGT_9 fGT_10 rLT_11 fLT_12 rHT_13 fHT_14 giT_15 diT_16 reT_17 tiT_18 hc_19) (cwV 1 hts gX5_lostBy_X5_pairsLostBy rfl rfl rfl (by decide +kernel) ⟨Nat.le_of_ble_eq_true rfl, Nat.le_of_ble_eq_true rfl⟩) 5 rfl rfl rfl rfl hl.1 rfl (Nat.le_of_ble_eq_true rfl) dX5_lostBy_6 hK hP (hD0.addr (wLR_fst.trans wLR_fst.symm)) hS hA [0, 1, 2, 3, 4, 5, 6, 7, 8, 9, 10, 11, 12, 13, 14, 15, 16, 17, 18, 19, 20, 21, 22, 23, 24, 25, 26, 27, 28, 29, 30, 31, 32, 33, 34, 35, 36, 37, 38, 39, 40, 41, 42, 43, 44, 45, 46, 47, 48, 49, 50, 51, 52, 53, 54, 55, 56, 57, 58, 59, 60, 61, 62, 63, 64, 65, 66, 67, 68, 69, 70, 71, 72, 73, 74, 75, 76] (by decide +kernel) lC_a lJ_a (wLR_fst.trans wLR_fst.symm) rfl ⟨Nat.zero_le _, Nat.zero_le _⟩ (fun H locs hP hD hS => ?_)
    cases hf
    exact fn_iret hx hb hr hlocks hP hS dX5_lostBy_9

def f_X5_seenIn (x1 : Int32) (rP : Int32) (fP : (Nat → Int32)) (rT : Int32) (fT : (Nat → Int32)) (rG : Int32) (fG : (Nat → Int32)) (rL : Int32) (fL : (Nat → Int32)) (rH : Int32) (fH : (Nat → Int32)) (gi : Int32) (di : Int32) (re : Int32) (ti : Int32) (rPT : Int32) (fPT : (Nat → Int32)) (rTT : Int32) (fTT : (Nat → Int32)) (rGT : Int32) (fGT : (Nat → Int32)) (rLT : Int32) (fLT : (Nat → Int32)) (rHT : Int32) (fHT : (Nat → Int32)) (giT : Int32) (diT : Int32) (reT : Int32) (tiT : Int32) : Option ((String × Int32 × (Nat → Int32) × Int32 × (Nat → Int32) × Int32 × (Nat → Int32) × Int32 × (Nat → Int32) × Int32 × (Nat → Int32) × Int32 × Int32 × Int32 × Int32) ⊕ (Int32 × Int32 × (Nat → Int32) × Int32 × (Nat → Int32) × Int32 × (Nat → Int32) × Int32 × (Nat → Int32) × Int32 × (Nat → Int32) × Int32 × Int32 × Int32 × Int32)) :=
  bx (f_X5_requireRange x1 (0 : Int32) (100 : Int32)) (fun E_3 => some (.inl (E_3, rPT, fPT, rTT, fTT, rGT, fGT, rLT, fLT, rHT, fHT, giT, diT, reT, tiT))) (fun u_2 =>
  bd14 (f_X2_takeOver rPT fPT rTT fTT rGT fGT rLT fLT rHT fHT giT diT reT tiT rP fP rT fT rG fG rL fL rH fH gi di re ti) (fun rPT_4 fPT_5 rTT_6 fTT_7 rGT_8 fGT_9 rLT_10 fLT_11 rHT_12 fHT_13 giT_14 diT_15 reT_16 tiT_17 =>
  bd9 (f_X2_letPass x1 rPT_4 fPT_5 rTT_6 fTT_7 rGT_8 fGT_9 rLT_10 fLT_11 rHT_12 fHT_13 diT_15 tiT_17) (fun r_19 fPT_20 rGT_21 fGT_22 rLT_23 fLT_24 fHT_25 diT_26 tiT_27 =>
  bd (f_X2_countPairs rTT_6 rHT_12 fHT_25) (fun r_29 =>
  some (.inr (r_29, rPT_4, fPT_20, rTT_6, fTT_7, rGT_21, fGT_22, rLT_23, fLT_24, rHT_12, fHT_25, giT_14, diT_26, reT_16, tiT_27))))))
set_option maxHeartbeats 4000000 in
set_option maxRecDepth 100000 in
theorem c_X5_seenIn (l : Launch) (X : cx_G) (x0 : Nat) (hh : (Nat → Nat)) (ht : (Nat → Nat)) (ch : (Nat → Nat)) (tx : (Nat → Nat)) (y : (Nat → Nat)) (hy : (Nat → Nat → Nat)) (rP : Int32) (fP : (Nat → Int32)) (rT : Int32) (fT : (Nat → Int32)) (rG : Int32) (fG : (Nat → Int32)) (rL : Int32) (fL : (Nat → Int32)) (rH : Int32) (fH : (Nat → Int32)) (gi : Int32) (di : Int32) (re : Int32) (ti : Int32) (rPT : Int32) (fPT : (Nat → Int32)) (rTT : Int32) (fTT : (Nat → Int32)) (rGT : Int32) (fGT : (Nat → Int32)) (rLT : Int32) (fLT : (Nat → Int32)) (rHT : Int32) (fHT : (Nat → Int32)) (giT : Int32) (diT : Int32) (reT : Int32) (tiT : Int32) (rS : Int32) (fS : (Nat → Int32)) (rB : Int32) (fB : (Nat → Int32)) (rO : Int32) (fO : (Nat → Int32)) (pl : Int32) (fa : Int32) (cn : Int32) (ro : Nat) (Qh : (Nat → HS)) (x1 : Int32) (r : Int32) (rPT' : Int32) (fPT' : (Nat → Int32)) (rTT' : Int32) (fTT' : (Nat → Int32)) (rGT' : Int32) (fGT' : (Nat → Int32)) (rLT' : Int32) (fLT' : (Nat → Int32)) (rHT' : Int32) (fHT' : (Nat → Int32)) (giT' : Int32) (diT' : Int32) (reT' : Int32) (tiT' : Int32) (hf : f_X5_seenIn x1 rP fP rT fT rG fG rL fL rH fH gi di re ti rPT fPT rTT fTT rGT fGT rLT fLT rHT fHT giT diT reT tiT = some (.inr (r, rPT', fPT', rTT', fTT', rGT', fGT', rLT', fLT', rHT', fHT', giT', diT', reT', tiT'))) : Fn l yX5_seenIn wsX5_seenIn ({ frames := 4, cells := 0, slots := 0, locals := 98 } : Room) X [.ref (x0), .int x1] (wLR X x0 hh ht ch tx y hy rP fP rT fT rG fG rL fL rH fH gi di re ti rPT fPT rTT fTT rGT fGT rLT fLT rHT fHT giT diT reT tiT rS fS rB fB rO fO pl fa cn ro Qh) (some (.int r)) (wLR X x0 hh ht ch tx y hy rP fP rT fT rG fG rL fL rH fH gi di re ti rPT' fPT' rTT' fTT' rGT' fGT' rLT' fLT' rHT' fHT' giT' diT' reT' tiT' rS fS rB fB rO fO pl fa cn ro Qh) := by
  refine fn_intro (cc := cX5_seenIn) (maxL := 2) (ret := (some .int)) (by decide) rfl (wLR_fst.trans wLR_fst.symm) (Nat.le_of_ble_eq_true rfl) ?_
  intro p e s m args below meth c A ls hx hb hml hr hts hown hlocks hK hP hD0 hS hA hl
  have hown : s.vm.findClass RX5 = some m.cls := hown
  have hl : lv_has ls 2 [(0, .ref (x0)), (1, .int x1)] := hl
  have hiX5 : ∀ w ∈ u_ws RX5 TX5 5, w ∈ wsX5_seenIn := by decide +kernel
  have k10 := hts (.fieldLink RX5 10 "LentRights" "house" "LLentRights$House;") (by decide +kernel)
  have k16 := hts (.fieldLink RX5 16 "LentRights" "trial" "LLentRights$House;") (by decide +kernel)
  unfold f_X5_seenIn at hf
  refine lv_iload_n hx hb dX5_seenIn_0 rfl (lv_at hl 1 rfl) ?_
  refine lv_iconst (v := 0) hx hb dX5_seenIn_1 (by decide) ?_
  refine lv_bipush (v := 100) hx hb dX5_seenIn_2 (by decide) ?_
  rcases bx_of hf with ⟨E_3, hc_1, hf⟩ | ⟨u_2, hc_1, hf⟩
  · cases hf
  · refine fn_Sx (v := none) (As := [.int x1, .int (0 : Int32), .int (100 : Int32)]) (rest := []) (st1 := []) (ws' := (wLR X x0 hh ht ch tx y hy rP fP rT fT rG fG rL fL rH fH gi di re ti rPT fPT rTT fTT rGT fGT rLT fLT rHT fHT giT diT reT tiT rS fS rB fB rO fO pl fa cn ro Qh)) (nL := 2) ⟨hx, hb, hml, hown, hts⟩ (c_X5_requireRange l X x1 (0 : Int32) (100 : Int32) hc_1) (va_cwS 3 hts gX5_seenIn_X5_requireRange rfl rfl rfl (by decide +kernel) ⟨Nat.le_of_ble_eq_true rfl, Nat.le_of_ble_eq_true rfl⟩) rfl hl.1 rfl (Nat.le_of_ble_eq_true rfl) dX5_seenIn_4 hK hP (hD0.addr (wLR_fst.trans wLR_fst.symm)) hS hA [] (by decide +kernel) rfl (pt_setid _ _ _ rfl) rfl ⟨Nat.zero_le _, Nat.zero_le _⟩ (fun H locs hP hD hS => ?_)
    refine lv_aload_n hx hb dX5_seenIn_7 rfl (lv_at hl 0 rfl) ?_
    refine va_get (D := X.1) (ci := 5) (v := .ref (ht 0)) (C := RX5) (T := TX5) (N := 5) hx hb hts hiX5 hown hK.1 hP 0 rfl rfl 1 (by decide) k16 (fun _ h9 => h9) rfl dX5_seenIn_8 ?_
    refine lv_aload_n hx hb dX5_seenIn_11 rfl (lv_at hl 0 rfl) ?_
    refine va_get (D := X.1) (ci := 5) (v := .ref (hh 0)) (C := RX5) (T := TX5) (N := 5) hx hb hts hiX5 hown hK.1 hP 0 rfl rfl 0 (by decide) k10 (fun _ h9 => h9) rfl dX5_seenIn_12 ?_
    obtain ⟨rPT_4, fPT_5, rTT_6, fTT_7, rGT_8, fGT_9, rLT_10, fLT_11, rHT_12, fHT_13, giT_14, diT_15, reT_16, tiT_17, hc_18, hf⟩ := bd14_of hf
    refine fn_VJ (v := none) (As := [.ref (hh 0)]) (rest := []) (st1 := []) (ws' := (wLR X x0 hh ht ch tx y hy rP fP rT fT rG fG rL fL rH fH gi di re ti rPT_4 fPT_5 rTT_6 fTT_7 rGT_8 fGT_9 rLT_10 fLT_11 rHT_12 fHT_13 giT_14 diT_15 reT_16 tiT_17 rS fS rB fB rO fO pl fa cn ro Qh)) (nL := 2) ⟨hx, hb, hml, hown, hts⟩ (c_X2_takeOver l X ht hh rPT fPT rTT fTT rGT fGT rLT fLT rHT fHT giT diT reT tiT rP fP rT fT rG fG rL fL rH fH gi di re ti rPT_4 fPT_5 rTT_6 fTT_7 rGT_8 fGT_9 rLT_10 fLT_11 rHT_12 fHT_13 giT_14 diT_15 reT_16 tiT_17 hc_18) (cwV 1 hts gX5_seenIn_X2_takeOver rfl rfl rfl (by decide +kernel) ⟨Nat.le_of_ble_eq_true rfl, Nat.le_of_ble_eq_true rfl⟩) 2 rfl rfl rfl rfl hl.1 rfl (Nat.le_of_ble_eq_true rfl) dX5_seenIn_15 hK hP (hD0.addr (wLR_fst.trans wLR_fst.symm)) hS hA [12, 13, 14, 15, 16, 17, 18, 19, 20, 21, 22, 1, 2, 3, 4, 5, 6, 7, 8, 9, 10, 11] (by decide +kernel) lC_th lJ_th (wLR_fst.trans wLR_fst.symm) rfl ⟨Nat.zero_le _, Nat.zero_le _⟩ (fun H locs hP hD hS => ?_)
    refine lv_aload_n hx hb dX5_seenIn_18 rfl (lv_at hl 0 rfl) ?_
    refine va_get (D := X.1) (ci := 5) (v := .ref (ht 0)) (C := RX5) (T := TX5) (N := 5) hx hb hts hiX5 hown hK.1 hP 0 rfl rfl 1 (by decide) k16 (fun _ h9 => h9) rfl dX5_seenIn_19 ?_
    refine lv_iload_n hx hb dX5_seenIn_22 rfl (lv_at hl 1 rfl) ?_
    obtain ⟨r_19, fPT_20, rGT_21, fGT_22, rLT_23, fLT_24, fHT_25, diT_26, tiT_27, hc_28, hf⟩ := bd9_of hf
    refine fn_VJ (v := some (.int r_19)) (As := [.int x1]) (rest := []) (st1 := [.int r_19]) (ws' := (wLR X x0 hh ht ch tx y hy rP fP rT fT rG fG rL fL rH fH gi di re ti rPT_4 fPT_20 rTT_6 fTT_7 rGT_21 fGT_22 rLT_23 fLT_24 rHT_12 fHT_25 giT_14 diT_26 reT_16 tiT_27 rS fS rB fB rO fO pl fa cn ro Qh)) (nL := 2) ⟨hx, hb, hml, hown, hts⟩ (c_X2_letPass l X ht rPT_4 fPT_5 rTT_6 fTT_7 rGT_8 fGT_9 rLT_10 fLT_11 rHT_12 fHT_13 giT_14 diT_15 reT_16 tiT_17 x1 r_19 fPT_20 rGT_21 fGT_22 rLT_23 fLT_24 fHT_25 diT_26 tiT_27 hc_28) (cwV 1 hts gX5_seenIn_X2_letPass rfl rfl rfl (by decide +kernel) ⟨Nat.le_of_ble_eq_true rfl, Nat.le_of_ble_eq_true rfl⟩) 2 rfl rfl rfl rfl hl.1 rfl (Nat.le_of_ble_eq_true rfl) dX5_seenIn_23 hK hP (hD0.addr (wLR_fst.trans wLR_fst.symm)) hS hA [12, 13, 14, 15, 16, 17, 18, 19, 20, 21, 22] (by decide +kernel) lC_t lJ_t (wLR_fst.trans wLR_fst.symm) rfl ⟨Nat.zero_le _, Nat.zero_le _⟩ (fun H locs hP hD hS => ?_)
    refine lv_pop hx hb dX5_seenIn_26 rfl ?_
    refine lv_aload_n hx hb dX5_seenIn_27 rfl (lv_at hl 0 rfl) ?_
    refine va_get (D := X.1) (ci := 5) (v := .ref (ht 0)) (C := RX5) (T := TX5) (N := 5) hx hb hts hiX5 hown hK.1 hP 0 rfl rfl 1 (by decide) k16 (fun _ h9 => h9) rfl dX5_seenIn_28 ?_
    obtain ⟨r_29, hc_30, hf⟩ := bd_of hf
    refine fn_V (v := some (.int r_29)) (As := []) (rest := []) (st1 := [.int r_29]) (ws' := (wLR X x0 hh ht ch tx y hy rP fP rT fT rG fG rL fL rH fH gi di re ti rPT_4 fPT_20 rTT_6 fTT_7 rGT_21 fGT_22 rLT_23 fLT_24 rHT_12 fHT_25 giT_14 diT_26 reT_16 tiT_27 rS fS rB fB rO fO pl fa cn ro Qh)) (nL := 2) ⟨hx, hb, hml, hown, hts⟩ (c_X2_countPairs l X ht rPT_4 fPT_20 rTT_6 fTT_7 rGT_21 fGT_22 rLT_23 fLT_24 rHT_12 fHT_25 giT_14 diT_26 reT_16 tiT_27 r_29 hc_30) (cwV 0 hts gX5_seenIn_X2_countPairs rfl rfl rfl (by decide +kernel) ⟨Nat.le_of_ble_eq_true rfl, Nat.le_of_ble_eq_true rfl⟩) 2 rfl rfl rfl rfl hl.1 rfl (Nat.le_of_ble_eq_true rfl) dX5_seenIn_31 hK hP (hD0.addr (wLR_fst.trans wLR_fst.symm)) hS hA [12, 13, 14, 15, 16, 17, 18, 19, 20, 21, 22] (by decide +kernel) lC_t (pt_setid _ _ _ lC_t) rfl ⟨Nat.zero_le _, Nat.zero_le _⟩ (fun H locs hP hD hS => ?_)
    cases hf
    exact fn_iret hx hb hr hlocks hP hS dX5_seenIn_34

def f_X5_gainBy (x1 : Int32) (x2 : Int32) (x3 : Int32) (x4 : Int32) (x5 : Int32) (rP : Int32) (fP : (Nat → Int32)) (rT : Int32) (fT : (Nat → Int32)) (rG : Int32) (fG : (Nat → Int32)) (rL : Int32) (fL : (Nat → Int32)) (rH : Int32) (fH : (Nat → Int32)) (gi : Int32) (di : Int32) (re : Int32) (ti : Int32) (rPT : Int32) (fPT : (Nat → Int32)) (rTT : Int32) (fTT : (Nat → Int32)) (rGT : Int32) (fGT : (Nat → Int32)) (rLT : Int32) (fLT : (Nat → Int32)) (rHT : Int32) (fHT : (Nat → Int32)) (giT : Int32) (diT : Int32) (reT : Int32) (tiT : Int32) : Option ((String × Int32 × (Nat → Int32) × Int32 × (Nat → Int32) × Int32 × (Nat → Int32) × Int32 × (Nat → Int32) × Int32 × (Nat → Int32) × Int32 × Int32 × Int32 × Int32) ⊕ (Int32 × Int32 × (Nat → Int32) × Int32 × (Nat → Int32) × Int32 × (Nat → Int32) × Int32 × (Nat → Int32) × Int32 × (Nat → Int32) × Int32 × Int32 × Int32 × Int32)) :=
  bd (f_X2_faultOfGrant x1 x2 x3 x4 x5 rP fP rT rG rH fH) (fun r_1 =>
  bx (f_X5_requireFit r_1) (fun E_5 => some (.inl (E_5, rPT, fPT, rTT, fTT, rGT, fGT, rLT, fLT, rHT, fHT, giT, diT, reT, tiT))) (fun u_4 =>
  if r_1 = (3 : Int32) then
  (some (.inr ((-1 : Int32), rPT, fPT, rTT, fTT, rGT, fGT, rLT, fLT, rHT, fHT, giT, diT, reT, tiT)))
  else
  (bd14 (f_X2_takeOver rPT fPT rTT fTT rGT fGT rLT fLT rHT fHT giT diT reT tiT rP fP rT fT rG fG rL fL rH fH gi di re ti) (fun rPT_7 fPT_8 rTT_9 fTT_10 rGT_11 fGT_12 rLT_13 fLT_14 rHT_15 fHT_16 giT_17 diT_18 reT_19 tiT_20 =>
  bd5 (f_X2_lend x1 x2 x3 x4 x5 rTT_9 fTT_10 rGT_11 fGT_12 rHT_15 fHT_16 giT_17) (fun r_22 rGT_23 fGT_24 fHT_25 giT_26 =>
  bd (f_X2_countPairs rTT_9 rHT_15 fHT_25) (fun r_28 =>
  bd (f_X2_countPairs rT rH fH) (fun r_30 =>
  nm (r_28 - r_30) (fun v_32 =>
  some (.inr (v_32, rPT_7, fPT_8, rTT_9, fTT_10, rGT_23, fGT_24, rLT_13, fLT_14, rHT_15, fHT_25, giT_26, diT_18, reT_19, tiT_20))))))))))
set_option maxHeartbeats 4000000 in
set_option maxRecDepth 100000 in
theorem c_X5_gainBy (l : Launch) (X : cx_G) (x0 : Nat) (hh : (Nat → Nat)) (ht : (Nat → Nat)) (ch : (Nat → Nat)) (tx : (Nat → Nat)) (y : (Nat → Nat)) (hy : (Nat → Nat → Nat)) (rP : Int32) (fP : (Nat → Int32)) (rT : Int32) (fT : (Nat → Int32)) (rG : Int32) (fG : (Nat → Int32)) (rL : Int32) (fL : (Nat → Int32)) (rH : Int32) (fH : (Nat → Int32)) (gi : Int32) (di : Int32) (re : Int32) (ti : Int32) (rPT : Int32) (fPT : (Nat → Int32)) (rTT : Int32) (fTT : (Nat → Int32)) (rGT : Int32) (fGT : (Nat → Int32)) (rLT : Int32) (fLT : (Nat → Int32)) (rHT : Int32) (fHT : (Nat → Int32)) (giT : Int32) (diT : Int32) (reT : Int32) (tiT : Int32) (rS : Int32) (fS : (Nat → Int32)) (rB : Int32) (fB : (Nat → Int32)) (rO : Int32) (fO : (Nat → Int32)) (pl : Int32) (fa : Int32) (cn : Int32) (ro : Nat) (Qh : (Nat → HS)) (x1 : Int32) (x2 : Int32) (x3 : Int32) (x4 : Int32) (x5 : Int32) (r : Int32) (rPT' : Int32) (fPT' : (Nat → Int32)) (rTT' : Int32) (fTT' : (Nat → Int32)) (rGT' : Int32) (fGT' : (Nat → Int32)) (rLT' : Int32) (fLT' : (Nat → Int32)) (rHT' : Int32) (fHT' : (Nat → Int32)) (giT' : Int32) (diT' : Int32) (reT' : Int32) (tiT' : Int32) (hf : f_X5_gainBy x1 x2 x3 x4 x5 rP fP rT fT rG fG rL fL rH fH gi di re ti rPT fPT rTT fTT rGT fGT rLT fLT rHT fHT giT diT reT tiT = some (.inr (r, rPT', fPT', rTT', fTT', rGT', fGT', rLT', fLT', rHT', fHT', giT', diT', reT', tiT'))) : Fn l yX5_gainBy wsX5_gainBy ({ frames := 4, cells := 0, slots := 0, locals := 101 } : Room) X [.ref (x0), .int x1, .int x2, .int x3, .int x4, .int x5] (wLR X x0 hh ht ch tx y hy rP fP rT fT rG fG rL fL rH fH gi di re ti rPT fPT rTT fTT rGT fGT rLT fLT rHT fHT giT diT reT tiT rS fS rB fB rO fO pl fa cn ro Qh) (some (.int r)) (wLR X x0 hh ht ch tx y hy rP fP rT fT rG fG rL fL rH fH gi di re ti rPT' fPT' rTT' fTT' rGT' fGT' rLT' fLT' rHT' fHT' giT' diT' reT' tiT' rS fS rB fB rO fO pl fa cn ro Qh) := by
  refine fn_intro (cc := cX5_gainBy) (maxL := 7) (ret := (some .int)) (by decide) rfl (wLR_fst.trans wLR_fst.symm) (Nat.le_of_ble_eq_true rfl) ?_
  intro p e s m args below meth c A ls hx hb hml hr hts hown hlocks hK hP hD0 hS hA hl
  have hown : s.vm.findClass RX5 = some m.cls := hown
  have hl : lv_has ls 7 [(0, .ref (x0)), (1, .int x1), (2, .int x2), (3, .int x3), (4, .int x4), (5, .int x5)] := hl
  have hiX5 : ∀ w ∈ u_ws RX5 TX5 5, w ∈ wsX5_gainBy := by decide +kernel
  have k10 := hts (.fieldLink RX5 10 "LentRights" "house" "LLentRights$House;") (by decide +kernel)
  have k16 := hts (.fieldLink RX5 16 "LentRights" "trial" "LLentRights$House;") (by decide +kernel)
  unfold f_X5_gainBy at hf
  refine lv_aload_n hx hb dX5_gainBy_0 rfl (lv_at hl 0 rfl) ?_
  refine va_get (D := X.1) (ci := 5) (v := .ref (hh 0)) (C := RX5) (T := TX5) (N := 5) hx hb hts hiX5 hown hK.1 hP 0 rfl rfl 0 (by decide) k10 (fun _ h9 => h9) rfl dX5_gainBy_1 ?_
  refine lv_iload_n hx hb dX5_gainBy_4 rfl (lv_at hl 1 rfl) ?_
  refine lv_iload_n hx hb dX5_gainBy_5 rfl (lv_at hl 2 rfl) ?_
  refine lv_iload_n hx hb dX5_gainBy_6 rfl (lv_at hl 3 rfl) ?_
  refine lv_iload hx hb dX5_gainBy_7 (lv_at hl 4 rfl) ?_
  refine lv_iload hx hb dX5_gainBy_9 (lv_at hl 5 rfl) ?_
  obtain ⟨r_1, hc_2, hf⟩ := bd_of hf
  refine fn_V (v := some (.int r_1)) (As := [.int x1, .int x2, .int x3, .int x4, .int x5]) (rest := []) (st1 := [.int r_1]) (ws' := (wLR X x0 hh ht ch tx y hy rP fP rT fT rG fG rL fL rH fH gi di re ti rPT fPT rTT fTT rGT fGT rLT fLT rHT fHT giT diT reT tiT rS fS rB fB rO fO pl fa cn ro Qh)) (nL := 7) ⟨hx, hb, hml, hown, hts⟩ (c_X2_faultOfGrant l X hh rP fP rT fT rG fG rL fL rH fH gi di re ti x1 x2 x3 x4 x5 r_1 hc_2) (cwV 5 hts gX5_gainBy_X2_faultOfGrant rfl rfl rfl (by decide +kernel) ⟨Nat.le_of_ble_eq_true rfl, Nat.le_of_ble_eq_true rfl⟩) 2 rfl rfl rfl rfl hl.1 rfl (Nat.le_of_ble_eq_true rfl) dX5_gainBy_11 hK hP (hD0.addr (wLR_fst.trans wLR_fst.symm)) hS hA [1, 2, 3, 4, 5, 6, 7, 8, 9, 10, 11] (by decide +kernel) lC_h (pt_setid _ _ _ lC_h) rfl ⟨Nat.zero_le _, Nat.zero_le _⟩ (fun H locs hP hD hS => ?_)
  refine lv_istore (lv' := [(6, .int r_1), (0, .ref (x0)), (1, .int x1), (2, .int x2), (3, .int x3), (4, .int x4), (5, .int x5)]) hx hb dX5_gainBy_14 hl (by decide) rfl (fun ls hl => ?_)
  refine lv_iload hx hb dX5_gainBy_16 (lv_at hl 0 rfl) ?_
  rcases bx_of hf with ⟨E_5, hc_3, hf⟩ | ⟨u_4, hc_3, hf⟩
  · cases hf
  · refine fn_Sx (v := none) (As := [.int r_1]) (rest := []) (st1 := []) (ws' := (wLR X x0 hh ht ch tx y hy rP fP rT fT rG fG rL fL rH fH gi di re ti rPT fPT rTT fTT rGT fGT rLT fLT rHT fHT giT diT reT tiT rS fS rB fB rO fO pl fa cn ro Qh)) (nL := 7) ⟨hx, hb, hml, hown, hts⟩ (c_X5_requireFit l X r_1 hc_3) (va_cwS 1 hts gX5_gainBy_X5_requireFit rfl rfl rfl (by decide +kernel) ⟨Nat.le_of_ble_eq_true rfl, Nat.le_of_ble_eq_true rfl⟩) rfl hl.1 rfl (Nat.le_of_ble_eq_true rfl) dX5_gainBy_18 hK hP (hD0.addr (wLR_fst.trans wLR_fst.symm)) hS hA [] (by decide +kernel) rfl (pt_setid _ _ _ rfl) rfl ⟨Nat.zero_le _, Nat.zero_le _⟩ (fun H locs hP hD hS => ?_)
    refine lv_iload hx hb dX5_gainBy_21 (lv_at hl 0 rfl) ?_
    refine lv_iconst (v := 3) hx hb dX5_gainBy_23 (by decide) ?_
    refine lv_icmp_ne (tgt := 29) hx hb dX5_gainBy_24 (by decide) (fun c_6 => ?_) (fun c_6 => ?_)
    · replace hf := fp_f c_6 hf
      refine lv_aload_n hx hb dX5_gainBy_29 rfl (lv_at hl 1 rfl) ?_
      refine va_get (D := X.1) (ci := 5) (v := .ref (ht 0)) (C := RX5) (T := TX5) (N := 5) hx hb hts hiX5 hown hK.1 hP 0 rfl rfl 1 (by decide) k16 (fun _ h9 => h9) rfl dX5_gainBy_30 ?_
      refine lv_aload_n hx hb dX5_gainBy_33 rfl (lv_at hl 1 rfl) ?_
      refine va_get (D := X.1) (ci := 5) (v := .ref (hh 0)) (C := RX5) (T := TX5) (N := 5) hx hb hts hiX5 hown hK.1 hP 0 rfl rfl 0 (by decide) k10 (fun _ h9 => h9) rfl dX5_gainBy_34 ?_
      obtain ⟨rPT_7, fPT_8, rTT_9, fTT_10, rGT_11, fGT_12, rLT_13, fLT_14, rHT_15, fHT_16, giT_17, diT_18, reT_19, tiT_20, hc_21, hf⟩ := bd14_of hf
      refine fn_VJ (v := none) (As := [.ref (hh 0)]) (rest := []) (st1 := []) (ws' := (wLR X x0 hh ht ch tx y hy rP fP rT fT rG fG rL fL rH fH gi di re ti rPT_7 fPT_8 rTT_9 fTT_10 rGT_11 fGT_12 rLT_13 fLT_14 rHT_15 fHT_16 giT_17 diT_18 reT_19 tiT_20 rS fS rB fB rO fO pl fa cn ro Qh)) (nL := 7) ⟨hx, hb, hml, hown, hts⟩ (c_X2_takeOver l X ht hh rPT fPT rTT fTT rGT fGT rLT fLT rHT fHT giT diT reT tiT rP fP rT fT rG fG rL fL rH fH gi di re ti rPT_7 fPT_8 rTT_9 fTT_10 rGT_11 fGT_12 rLT_13 fLT_14 rHT_15 fHT_16 giT_17 diT_18 reT_19 tiT_20 hc_21) (cwV 1 hts gX5_gainBy_X2_takeOver rfl rfl rfl (by decide +kernel) ⟨Nat.le_of_ble_eq_true rfl, Nat.le_of_ble_eq_true rfl⟩) 2 rfl rfl rfl rfl hl.1 rfl (Nat.le_of_ble_eq_true rfl) dX5_gainBy_37 hK hP (hD0.addr (wLR_fst.trans wLR_fst.symm)) hS hA [12, 13, 14, 15, 16, 17, 18, 19, 20, 21, 22, 1, 2, 3, 4, 5, 6, 7, 8, 9, 10, 11] (by decide +kernel) lC_th lJ_th (wLR_fst.trans wLR_fst.symm) rfl ⟨Nat.zero_le _, Nat.zero_le _⟩ (fun H locs hP hD hS => ?_)
      refine lv_aload_n hx hb dX5_gainBy_40 rfl (lv_at hl 1 rfl) ?_
      refine va_get (D := X.1) (ci := 5) (v := .ref (ht 0)) (C := RX5) (T := TX5) (N := 5) hx hb hts hiX5 hown hK.1 hP 0 rfl rfl 1 (by decide) k16 (fun _ h9 => h9) rfl dX5_gainBy_41 ?_
      refine lv_iload_n hx hb dX5_gainBy_44 rfl (lv_at hl 2 rfl) ?_
      refine lv_iload_n hx hb dX5_gainBy_45 rfl (lv_at hl 3 rfl) ?_
      refine lv_iload_n hx hb dX5_gainBy_46 rfl (lv_at hl 4 rfl) ?_
      refine lv_iload hx hb dX5_gainBy_47 (lv_at hl 5 rfl) ?_
      refine lv_iload hx hb dX5_gainBy_49 (lv_at hl 6 rfl) ?_
      obtain ⟨r_22, rGT_23, fGT_24, fHT_25, giT_26, hc_27, hf⟩ := bd5_of hf
      refine fn_VJ (v := some (.int r_22)) (As := [.int x1, .int x2, .int x3, .int x4, .int x5]) (rest := []) (st1 := [.int r_22]) (ws' := (wLR X x0 hh ht ch tx y hy rP fP rT fT rG fG rL fL rH fH gi di re ti rPT_7 fPT_8 rTT_9 fTT_10 rGT_23 fGT_24 rLT_13 fLT_14 rHT_15 fHT_25 giT_26 diT_18 reT_19 tiT_20 rS fS rB fB rO fO pl fa cn ro Qh)) (nL := 7) ⟨hx, hb, hml, hown, hts⟩ (c_X2_lend l X ht rPT_7 fPT_8 rTT_9 fTT_10 rGT_11 fGT_12 rLT_13 fLT_14 rHT_15 fHT_16 giT_17 diT_18 reT_19 tiT_20 x1 x2 x3 x4 x5 r_22 rGT_23 fGT_24 fHT_25 giT_26 hc_27) (cwV 5 hts gX5_gainBy_X2_lend rfl rfl rfl (by decide +kernel) ⟨Nat.le_of_ble_eq_true rfl, Nat.le_of_ble_eq_true rfl⟩) 2 rfl rfl rfl rfl hl.1 rfl (Nat.le_of_ble_eq_true rfl) dX5_gainBy_51 hK hP (hD0.addr (wLR_fst.trans wLR_fst.symm)) hS hA [12, 13, 14, 15, 16, 17, 18, 19, 20, 21, 22] (by decide +kernel) lC_t lJ_t (wLR_fst.trans wLR_fst.symm) rfl ⟨Nat.zero_le _, Nat.zero_le _⟩ (fun H locs hP hD hS => ?_)
      refine lv_pop hx hb dX5_gainBy_54 rfl ?_
      refine lv_aload_n hx hb dX5_gainBy_55 rfl (lv_at hl 1 rfl) ?_
      refine va_get (D := X.1) (ci := 5) (v := .ref (ht 0)) (C := RX5) (T := TX5) (N := 5) hx hb hts hiX5 hown hK.1 hP 0 rfl rfl 1 (by decide) k16 (fun _ h9 => h9) rfl dX5_gainBy_56 ?_
      obtain ⟨r_28, hc_29, hf⟩ := bd_of hf
      refine fn_V (v := some (.int r_28)) (As := []) (rest := []) (st1 := [.int r_28]) (ws' := (wLR X x0 hh ht ch tx y hy rP fP rT fT rG fG rL fL rH fH gi di re ti rPT_7 fPT_8 rTT_9 fTT_10 rGT_23 fGT_24 rLT_13 fLT_14 rHT_15 fHT_25 giT_26 diT_18 reT_19 tiT_20 rS fS rB fB rO fO pl fa cn ro Qh)) (nL := 7) ⟨hx, hb, hml, hown, hts⟩ (c_X2_countPairs l X ht rPT_7 fPT_8 rTT_9 fTT_10 rGT_23 fGT_24 rLT_13 fLT_14 rHT_15 fHT_25 giT_26 diT_18 reT_19 tiT_20 r_28 hc_29) (cwV 0 hts gX5_gainBy_X2_countPairs rfl rfl rfl (by decide +kernel) ⟨Nat.le_of_ble_eq_true rfl, Nat.le_of_ble_eq_true rfl⟩) 2 rfl rfl rfl rfl hl.1 rfl (Nat.le_of_ble_eq_true rfl) dX5_gainBy_59 hK hP (hD0.addr (wLR_fst.trans wLR_fst.symm)) hS hA [12, 13, 14, 15, 16, 17, 18, 19, 20, 21, 22] (by decide +kernel) lC_t (pt_setid _ _ _ lC_t) rfl ⟨Nat.zero_le _, Nat.zero_le _⟩ (fun H locs hP hD hS => ?_)
      refine lv_aload_n hx hb dX5_gainBy_62 rfl (lv_at hl 1 rfl) ?_
      refine va_get (D := X.1) (ci := 5) (v := .ref (hh 0)) (C := RX5) (T := TX5) (N := 5) hx hb hts hiX5 hown hK.1 hP 0 rfl rfl 0 (by decide) k10 (fun _ h9 => h9) rfl dX5_gainBy_63 ?_
      obtain ⟨r_30, hc_31, hf⟩ := bd_of hf
      refine fn_V (v := some (.int r_30)) (As := []) (rest := [.int r_28]) (st1 := [.int r_30, .int r_28]) (ws' := (wLR X x0 hh ht ch tx y hy rP fP rT fT rG fG rL fL rH fH gi di re ti rPT_7 fPT_8 rTT_9 fTT_10 rGT_23 fGT_24 rLT_13 fLT_14 rHT_15 fHT_25 giT_26 diT_18 reT_19 tiT_20 rS fS rB fB rO fO pl fa cn ro Qh)) (nL := 7) ⟨hx, hb, hml, hown, hts⟩ (c_X2_countPairs l X hh rP fP rT fT rG fG rL fL rH fH gi di re ti r_30 hc_31) (cwV 0 hts gX5_gainBy_X2_countPairs rfl rfl rfl (by decide +kernel) ⟨Nat.le_of_ble_eq_true rfl, Nat.le_of_ble_eq_true rfl⟩) 2 rfl rfl rfl rfl hl.1 rfl (Nat.le_of_ble_eq_true rfl) dX5_gainBy_66 hK hP (hD0.addr (wLR_fst.trans wLR_fst.symm)) hS hA [1, 2, 3, 4, 5, 6, 7, 8, 9, 10, 11] (by decide +kernel) lC_h (pt_setid _ _ _ lC_h) rfl ⟨Nat.zero_le _, Nat.zero_le _⟩ (fun H locs hP hD hS => ?_)
      refine lv_isub hx hb dX5_gainBy_69 ?_
      refine lv_topi (fun v_32 ev_32 => ?_)
      replace hf := nm_of ev_32 hf
      cases hf
      exact fn_iret hx hb hr hlocks hP hS dX5_gainBy_70
    · replace hf := fp_t c_6 hf
      refine lv_iconst (v := -1) hx hb dX5_gainBy_27 (by decide) ?_
      cases hf
      exact fn_iret hx hb hr hlocks hP hS dX5_gainBy_28

def f_X5_patience (x1 : Int32) (rP : Int32) (fP : (Nat → Int32)) (rG : Int32) (fG : (Nat → Int32)) : Option ((String) ⊕ (Int32)) :=
  bx (f_X5_requirePerson x1) (fun E_3 => some (.inl E_3)) (fun u_2 =>
  bd (f_X3_at (2 : Int32) 20 x1 (0 : Int32) rP fP) (fun r_4 =>
  bd (f_X2_greatestThreshold x1 rG fG) (fun r_6 =>
  nm (r_4 - r_6) (fun v_8 =>
  some (.inr v_8)))))
set_option maxHeartbeats 4000000 in
set_option maxRecDepth 100000 in
theorem c_X5_patience (l : Launch) (X : cx_G) (x0 : Nat) (hh : (Nat → Nat)) (ht : (Nat → Nat)) (ch : (Nat → Nat)) (tx : (Nat → Nat)) (y : (Nat → Nat)) (hy : (Nat → Nat → Nat)) (rP : Int32) (fP : (Nat → Int32)) (rT : Int32) (fT : (Nat → Int32)) (rG : Int32) (fG : (Nat → Int32)) (rL : Int32) (fL : (Nat → Int32)) (rH : Int32) (fH : (Nat → Int32)) (gi : Int32) (di : Int32) (re : Int32) (ti : Int32) (rPT : Int32) (fPT : (Nat → Int32)) (rTT : Int32) (fTT : (Nat → Int32)) (rGT : Int32) (fGT : (Nat → Int32)) (rLT : Int32) (fLT : (Nat → Int32)) (rHT : Int32) (fHT : (Nat → Int32)) (giT : Int32) (diT : Int32) (reT : Int32) (tiT : Int32) (rS : Int32) (fS : (Nat → Int32)) (rB : Int32) (fB : (Nat → Int32)) (rO : Int32) (fO : (Nat → Int32)) (pl : Int32) (fa : Int32) (cn : Int32) (ro : Nat) (Qh : (Nat → HS)) (x1 : Int32) (r : Int32) (hf : f_X5_patience x1 rP fP rG fG = some (.inr r)) : Fn l yX5_patience wsX5_patience ({ frames := 3, cells := 0, slots := 0, locals := 62 } : Room) X [.ref (x0), .int x1] (wLR X x0 hh ht ch tx y hy rP fP rT fT rG fG rL fL rH fH gi di re ti rPT fPT rTT fTT rGT fGT rLT fLT rHT fHT giT diT reT tiT rS fS rB fB rO fO pl fa cn ro Qh) (some (.int r)) (wLR X x0 hh ht ch tx y hy rP fP rT fT rG fG rL fL rH fH gi di re ti rPT fPT rTT fTT rGT fGT rLT fLT rHT fHT giT diT reT tiT rS fS rB fB rO fO pl fa cn ro Qh) := by
  refine fn_intro (cc := cX5_patience) (maxL := 2) (ret := (some .int)) (by decide) rfl rfl (Nat.le_of_ble_eq_true rfl) ?_
  intro p e s m args below meth c A ls hx hb hml hr hts hown hlocks hK hP hD0 hS hA hl
  have hown : s.vm.findClass RX5 = some m.cls := hown
  have hl : lv_has ls 2 [(0, .ref (x0)), (1, .int x1)] := hl
  have hiX2 : ∀ w ∈ u_ws RX2 TX2 9, w ∈ wsX5_patience := by decide +kernel
  have hiX5 : ∀ w ∈ u_ws RX5 TX5 5, w ∈ wsX5_patience := by decide +kernel
  have k10 := hts (.fieldLink RX5 10 "LentRights" "house" "LLentRights$House;") (by decide +kernel)
  have k83 := hts (.fieldLink RX5 83 "LentRights$House" "persons" "LLentRights$Table;") (by decide +kernel)
  unfold f_X5_patience at hf
  refine lv_iload_n hx hb dX5_patience_0 rfl (lv_at hl 1 rfl) ?_
  rcases bx_of hf with ⟨E_3, hc_1, hf⟩ | ⟨u_2, hc_1, hf⟩
  · cases hf
  · refine fn_Sx (v := none) (As := [.int x1]) (rest := []) (st1 := []) (ws' := (wLR X x0 hh ht ch tx y hy rP fP rT fT rG fG rL fL rH fH gi di re ti rPT fPT rTT fTT rGT fGT rLT fLT rHT fHT giT diT reT tiT rS fS rB fB rO fO pl fa cn ro Qh)) (nL := 2) ⟨hx, hb, hml, hown, hts⟩ (c_X5_requirePerson l X x1 hc_1) (va_cwS 1 hts gX5_patience_X5_requirePerson rfl rfl rfl (by decide +kernel) ⟨Nat.le_of_ble_eq_true rfl, Nat.le_of_ble_eq_true rfl⟩) rfl hl.1 rfl (Nat.le_of_ble_eq_true rfl) dX5_patience_1 hK hP (hD0.addr (wLR_fst.trans wLR_fst.symm)) hS hA [] (by decide +kernel) rfl (pt_setid _ _ _ rfl) rfl ⟨Nat.zero_le _, Nat.zero_le _⟩ (fun H locs hP hD hS => ?_)
    refine lv_aload_n hx hb dX5_patience_4 rfl (lv_at hl 0 rfl) ?_
    refine va_get (D := X.1) (ci := 5) (v := .ref (hh 0)) (C := RX5) (T := TX5) (N := 5) hx hb hts hiX5 hown hK.1 hP 0 rfl rfl 0 (by decide) k10 (fun _ h9 => h9) rfl dX5_patience_5 ?_
    refine va_get (D := X.1) (ci := 2) (v := .ref (hh 1)) (C := RX2) (T := TX2) (N := 9) hx hb hts hiX2 hown hK.1 hP 1 rfl rfl 0 (by decide) k83 (fun _ h9 => h9) rfl dX5_patience_8 ?_
    refine lv_iload_n hx hb dX5_patience_11 rfl (lv_at hl 1 rfl) ?_
    refine lv_iconst (v := 0) hx hb dX5_patience_12 (by decide) ?_
    obtain ⟨r_4, hc_5, hf⟩ := bd_of hf
    refine fn_V (v := some (.int r_4)) (As := [.int x1, .int (0 : Int32)]) (rest := []) (st1 := [.int r_4]) (ws' := (wLR X x0 hh ht ch tx y hy rP fP rT fT rG fG rL fL rH fH gi di re ti rPT fPT rTT fTT rGT fGT rLT fLT rHT fHT giT diT reT tiT rS fS rB fB rO fO pl fa cn ro Qh)) (nL := 2) ⟨hx, hb, hml, hown, hts⟩ (c_X3_at l X (hh 1) (hh 2) (10 : Int32) (2 : Int32) 20 rP fP x1 (0 : Int32) r_4 hc_5) (cwV 2 hts gX5_patience_X3_at rfl rfl rfl (by decide +kernel) ⟨Nat.le_of_ble_eq_true rfl, Nat.le_of_ble_eq_true rfl⟩) 3 rfl rfl rfl rfl hl.1 rfl (Nat.le_of_ble_eq_true rfl) dX5_patience_13 hK hP (hD0.addr (wLR_fst.trans wLR_fst.symm)) hS hA [2, 3] (by decide +kernel) rfl (pt_setid _ _ _ rfl) rfl ⟨Nat.zero_le _, Nat.zero_le _⟩ (fun H locs hP hD hS => ?_)
    refine lv_aload_n hx hb dX5_patience_16 rfl (lv_at hl 0 rfl) ?_
    refine va_get (D := X.1) (ci := 5) (v := .ref (hh 0)) (C := RX5) (T := TX5) (N := 5) hx hb hts hiX5 hown hK.1 hP 0 rfl rfl 0 (by decide) k10 (fun _ h9 => h9) rfl dX5_patience_17 ?_
    refine lv_iload_n hx hb dX5_patience_20 rfl (lv_at hl 1 rfl) ?_
    obtain ⟨r_6, hc_7, hf⟩ := bd_of hf
    refine fn_V (v := some (.int r_6)) (As := [.int x1]) (rest := [.int r_4]) (st1 := [.int r_6, .int r_4]) (ws' := (wLR X x0 hh ht ch tx y hy rP fP rT fT rG fG rL fL rH fH gi di re ti rPT fPT rTT fTT rGT fGT rLT fLT rHT fHT giT diT reT tiT rS fS rB fB rO fO pl fa cn ro Qh)) (nL := 2) ⟨hx, hb, hml, hown, hts⟩ (c_X2_greatestThreshold l X hh rP fP rT fT rG fG rL fL rH fH gi di re ti x1 r_6 hc_7) (cwV 1 hts gX5_patience_X2_greatestThreshold rfl rfl rfl (by decide +kernel) ⟨Nat.le_of_ble_eq_true rfl, Nat.le_of_ble_eq_true rfl⟩) 2 rfl rfl rfl rfl hl.1 rfl (Nat.le_of_ble_eq_true rfl) dX5_patience_21 hK hP (hD0.addr (wLR_fst.trans wLR_fst.symm)) hS hA [1, 2, 3, 4, 5, 6, 7, 8, 9, 10, 11] (by decide +kernel) lC_h (pt_setid _ _ _ lC_h) rfl ⟨Nat.zero_le _, Nat.zero_le _⟩ (fun H locs hP hD hS => ?_)
    refine lv_isub hx hb dX5_patience_24 ?_
    refine lv_topi (fun v_8 ev_8 => ?_)
    replace hf := nm_of ev_8 hf
    cases hf
    exact fn_iret hx hb hr hlocks hP hS dX5_patience_25

def f_X5_meanChain_L35 (rS : Int32) (fS : (Nat → Int32)) : Nat → Int32 → Int32 → Int32 →  Option (Int32 × Int32)
  | 0, _, _, _ => none
  | k_ + 1, x1, x2, x4 =>
    if (10 : Int32) ≤ x4 then
    (some (x1, x2))
    else
    (bd (f_X0_stepsTo x4 rS fS) (fun r_2 =>
    if r_2 = (-1 : Int32) then
    (nm (x4 + (1 : Int32)) (fun v_5 =>
    f_X5_meanChain_L35 rS fS k_ x1 x2 v_5))
    else
    (nm (x1 + (1 : Int32)) (fun v_6 =>
    nm (x2 + r_2) (fun v_7 =>
    nm (x4 + (1 : Int32)) (fun v_8 =>
    f_X5_meanChain_L35 rS fS k_ v_6 v_7 v_8))))))
def f_X5_meanChain_L6 (rT : Int32) (fT : (Nat → Int32)) (rG : Int32) (fG : (Nat → Int32)) (rH : Int32) (fH : (Nat → Int32)) (rS : Int32) : Nat → Int32 → Int32 → Int32 → (Nat → Int32) →  Option (Int32 × Int32 × (Nat → Int32))
  | 0, _, _, _, _ => none
  | k_ + 1, x1, x2, x3, fS =>
    bd (f_X3_rows rT) (fun r_9 =>
    if r_9 ≤ x3 then
    (some (x1, x2, fS))
    else
    (bd (f_X0_measure x3 rS fS rT fT rG fG rH fH) (fun fS_12 =>
    bd2 (f_X5_meanChain_L35 rS fS_12 FU x1 x2 (0 : Int32)) (fun y1_14 y2_15 =>
    nm (x3 + (1 : Int32)) (fun v_17 =>
    f_X5_meanChain_L6 rT fT rG fG rH fH rS k_ y1_14 y2_15 v_17 fS_12)))))
def f_X5_meanChain (rT : Int32) (fT : (Nat → Int32)) (rG : Int32) (fG : (Nat → Int32)) (rH : Int32) (fH : (Nat → Int32)) (rS : Int32) (fS : (Nat → Int32)) : Option (UInt64 × (Nat → Int32)) :=
  bd3 (f_X5_meanChain_L6 rT fT rG fG rH fH rS FU (0 : Int32) (0 : Int32) (0 : Int32) fS) (fun y1_18 y2_19 fS_20 =>
  if y1_18 = (0 : Int32) then
  (some (FP.dconst0, fS_20))
  else
  (nz (FP.ddiv (FP.i2d y2_19) (FP.i2d y1_18)) (
  some (FP.ddiv (FP.i2d y2_19) (FP.i2d y1_18), fS_20))))
set_option maxHeartbeats 4000000 in
set_option maxRecDepth 100000 in
theorem c_X5_meanChain (l : Launch) (X : cx_G) (x0 : Nat) (hh : (Nat → Nat)) (ht : (Nat → Nat)) (ch : (Nat → Nat)) (tx : (Nat → Nat)) (y : (Nat → Nat)) (hy : (Nat → Nat → Nat)) (rP : Int32) (fP : (Nat → Int32)) (rT : Int32) (fT : (Nat → Int32)) (rG : Int32) (fG : (Nat → Int32)) (rL : Int32) (fL : (Nat → Int32)) (rH : Int32) (fH : (Nat → Int32)) (gi : Int32) (di : Int32) (re : Int32) (ti : Int32) (rPT : Int32) (fPT : (Nat → Int32)) (rTT : Int32) (fTT : (Nat → Int32)) (rGT : Int32) (fGT : (Nat → Int32)) (rLT : Int32) (fLT : (Nat → Int32)) (rHT : Int32) (fHT : (Nat → Int32)) (giT : Int32) (diT : Int32) (reT : Int32) (tiT : Int32) (rS : Int32) (fS : (Nat → Int32)) (rB : Int32) (fB : (Nat → Int32)) (rO : Int32) (fO : (Nat → Int32)) (pl : Int32) (fa : Int32) (cn : Int32) (ro : Nat) (Qh : (Nat → HS)) (r : UInt64) (fS' : (Nat → Int32)) (hf : f_X5_meanChain rT fT rG fG rH fH rS fS = some (r, fS')) : Fn l yX5_meanChain wsX5_meanChain ({ frames := 4, cells := 0, slots := 0, locals := 97 } : Room) X [.ref (x0)] (wLR X x0 hh ht ch tx y hy rP fP rT fT rG fG rL fL rH fH gi di re ti rPT fPT rTT fTT rGT fGT rLT fLT rHT fHT giT diT reT tiT rS fS rB fB rO fO pl fa cn ro Qh) (some (.double r)) (wLR X x0 hh ht ch tx y hy rP fP rT fT rG fG rL fL rH fH gi di re ti rPT fPT rTT fTT rGT fGT rLT fLT rHT fHT giT diT reT tiT rS fS' rB fB rO fO pl fa cn ro Qh) := by
  refine fn_intro (cc := cX5_meanChain) (maxL := 6) (ret := (some .double)) (by decide) rfl (wLR_fst.trans wLR_fst.symm) (Nat.le_of_ble_eq_true rfl) ?_
  intro p e s m args below meth c A ls hx hb hml hr hts hown hlocks hK hP hD0 hS hA hl
  have hown : s.vm.findClass RX5 = some m.cls := hown
  have hl : lv_has ls 6 [(0, .ref (x0))] := hl
  have hiX2 : ∀ w ∈ u_ws RX2 TX2 9, w ∈ wsX5_meanChain := by decide +kernel
  have hiX5 : ∀ w ∈ u_ws RX5 TX5 5, w ∈ wsX5_meanChain := by decide +kernel
  have k10 := hts (.fieldLink RX5 10 "LentRights" "house" "LLentRights$House;") (by decide +kernel)
  have k29 := hts (.fieldLink RX5 29 "LentRights" "chains" "LLentRights$Chains;") (by decide +kernel)
  have k47 := hts (.fieldLink RX5 47 "LentRights$House" "things" "LLentRights$Table;") (by decide +kernel)
  have loop_35 : ∀ (Q : State → Prop) (x3 : Int32) (fS : (Nat → Int32)) (y1 : Int32) (y2 : Int32), (∀ (H : Heap) (locs : List Loc) (ls : Array Slot), va_P X.1 vwCl (wLR X x0 hh ht ch tx y hy rP fP rT fT rG fG rL fL rH fH gi di re ti rPT fPT rTT fTT rGT fGT rLT fLT rHT fHT giT diT reT tiT rS fS rB fB rO fO pl fa cn ro Qh) H → va_S A s.heap H locs → lv_has ls 6 [(0, .ref (x0)), (1, .int y1), (2, .int y2), (3, .int x3)] → W p l e ({ frames := 4, cells := 0, slots := 0, locals := 97 } : Room) s m args below meth c H locs 0 0 Q (F0 m 73 ls [])) → ∀ (k_ : Nat) (x1 : Int32) (x2 : Int32) (x4 : Int32) (H : Heap) (locs : List Loc) (ls : Array Slot), f_X5_meanChain_L35 rS fS k_ x1 x2 x4 = some (y1, y2) → va_P X.1 vwCl (wLR X x0 hh ht ch tx y hy rP fP rT fT rG fG rL fL rH fH gi di re ti rPT fPT rTT fTT rGT fGT rLT fLT rHT fHT giT diT reT tiT rS fS rB fB rO fO pl fa cn ro Qh) H → va_S A s.heap H locs → lv_has ls 6 [(0, .ref (x0)), (1, .int x1), (2, .int x2), (3, .int x3), (4, .int x4)] → W p l e ({ frames := 4, cells := 0, slots := 0, locals := 97 } : Room) s m args below meth c H locs 0 0 Q (F0 m 35 ls []) := by
    intro Q x3 fS y1 y2 kx k_
    induction k_ with
    | zero => intro x1 x2 x4 H locs ls hf; exact nomatch (show (none : Option (Int32 × Int32)) = some _ from hf)
    | succ k_ ih =>
      intro x1 x2 x4 H locs ls hf hP hS hl
      unfold f_X5_meanChain_L35 at hf
      refine lv_iload hx hb dX5_meanChain_35 (lv_at hl 4 rfl) ?_
      refine lv_bipush (v := 10) hx hb dX5_meanChain_37 (by decide) ?_
      refine lv_icmp_ge (tgt := 73) hx hb dX5_meanChain_39 (by decide) (fun c_1 => ?_) (fun c_1 => ?_)
      · replace hf := fp_t c_1 hf
        cases hf
        exact kx _ _ _ hP hS (lv_sub hl [0, 1, 2, 3] rfl)
      · replace hf := fp_f c_1 hf
        refine lv_aload_n hx hb dX5_meanChain_42 rfl (lv_at hl 0 rfl) ?_
        refine va_get (D := X.1) (ci := 5) (v := .ref (ch 0)) (C := RX5) (T := TX5) (N := 5) hx hb hts hiX5 hown hK.1 hP 0 rfl rfl 3 (by decide) k29 (fun _ h9 => h9) rfl dX5_meanChain_43 ?_
        refine lv_iload hx hb dX5_meanChain_46 (lv_at hl 4 rfl) ?_
        obtain ⟨r_2, hc_3, hf⟩ := bd_of hf
        refine fn_V (v := some (.int r_2)) (As := [.int x4]) (rest := []) (st1 := [.int r_2]) (ws' := (wLR X x0 hh ht ch tx y hy rP fP rT fT rG fG rL fL rH fH gi di re ti rPT fPT rTT fTT rGT fGT rLT fLT rHT fHT giT diT reT tiT rS fS rB fB rO fO pl fa cn ro Qh)) (nL := 6) ⟨hx, hb, hml, hown, hts⟩ (c_X0_stepsTo l X ch rS fS x4 r_2 hc_3) (cwV 1 hts gX5_meanChain_X0_stepsTo rfl rfl rfl (by decide +kernel) ⟨Nat.le_of_ble_eq_true rfl, Nat.le_of_ble_eq_true rfl⟩) 0 rfl rfl rfl rfl hl.1 rfl (Nat.le_of_ble_eq_true rfl) dX5_meanChain_48 hK hP (hD0.addr (wLR_fst.trans wLR_fst.symm)) hS hA [23, 24, 25] (by decide +kernel) lC_c (pt_setid _ _ _ lC_c) rfl ⟨Nat.zero_le _, Nat.zero_le _⟩ (fun H locs hP hD hS => ?_)
        refine lv_istore (lv' := [(5, .int r_2), (0, .ref (x0)), (1, .int x1), (2, .int x2), (3, .int x3), (4, .int x4)]) hx hb dX5_meanChain_51 hl (by decide) rfl (fun ls hl => ?_)
        refine lv_iload hx hb dX5_meanChain_53 (lv_at hl 0 rfl) ?_
        refine lv_iconst (v := -1) hx hb dX5_meanChain_55 (by decide) ?_
        refine lv_icmp_eq (tgt := 67) hx hb dX5_meanChain_56 (by decide) (fun c_4 => ?_) (fun c_4 => ?_)
        · replace hf := fp_t c_4 hf
          obtain ⟨v_5, ev_5⟩ : ∃ y : Int32, y = x4 + (1 : Int32) := ⟨_, rfl⟩
          replace hf := nm_of ev_5 hf
          refine lv_iinc (v := v_5) (lv' := [(4, .int v_5), (5, .int r_2), (0, .ref (x0)), (1, .int x1), (2, .int x2), (3, .int x3)]) hx hb dX5_meanChain_67 hl (k := 5) rfl (by rw [ev_5]; rfl) (by decide) rfl (fun ls hl => ?_)
          refine lv_goto (tgt := 35) hx hb dX5_meanChain_70 (by decide) ?_
          exact ih x1 x2 v_5 _ _ _ hf hP hS (lv_sub hl [2, 3, 4, 5, 0] rfl)
        · replace hf := fp_f c_4 hf
          obtain ⟨v_6, ev_6⟩ : ∃ y : Int32, y = x1 + (1 : Int32) := ⟨_, rfl⟩
          replace hf := nm_of ev_6 hf
          refine lv_iinc (v := v_6) (lv' := [(1, .int v_6), (5, .int r_2), (0, .ref (x0)), (2, .int x2), (3, .int x3), (4, .int x4)]) hx hb dX5_meanChain_59 hl (k := 2) rfl (by rw [ev_6]; rfl) (by decide) rfl (fun ls hl => ?_)
          refine lv_iload_n hx hb dX5_meanChain_62 rfl (lv_at hl 3 rfl) ?_
          refine lv_iload hx hb dX5_meanChain_63 (lv_at hl 1 rfl) ?_
          refine lv_iadd hx hb dX5_meanChain_65 ?_
          refine lv_topi (fun v_7 ev_7 => ?_)
          replace hf := nm_of ev_7 hf
          refine lv_istore_n (lv' := [(2, .int v_7), (1, .int v_6), (5, .int r_2), (0, .ref (x0)), (3, .int x3), (4, .int x4)]) hx hb dX5_meanChain_66 rfl hl (by decide) rfl (fun ls hl => ?_)
          obtain ⟨v_8, ev_8⟩ : ∃ y : Int32, y = x4 + (1 : Int32) := ⟨_, rfl⟩
          replace hf := nm_of ev_8 hf
          refine lv_iinc (v := v_8) (lv' := [(4, .int v_8), (2, .int v_7), (1, .int v_6), (5, .int r_2), (0, .ref (x0)), (3, .int x3)]) hx hb dX5_meanChain_67 hl (k := 5) rfl (by rw [ev_8]; rfl) (by decide) rfl (fun ls hl => ?_)
          refine lv_goto (tgt := 35) hx hb dX5_meanChain_70 (by decide) ?_
          exact ih v_6 v_7 v_8 _ _ _ hf hP hS (lv_sub hl [4, 2, 1, 5, 0] rfl)
  have loop_6 : ∀ (Q : State → Prop) (y1 : Int32) (y2 : Int32) (fSo : (Nat → Int32)), (∀ (H : Heap) (locs : List Loc) (ls : Array Slot), va_P X.1 vwCl (wLR X x0 hh ht ch tx y hy rP fP rT fT rG fG rL fL rH fH gi di re ti rPT fPT rTT fTT rGT fGT rLT fLT rHT fHT giT diT reT tiT rS fSo rB fB rO fO pl fa cn ro Qh) H → va_S A s.heap H locs → lv_has ls 6 [(1, .int y1), (2, .int y2)] → W p l e ({ frames := 4, cells := 0, slots := 0, locals := 97 } : Room) s m args below meth c H locs 0 0 Q (F0 m 79 ls [])) → ∀ (k_ : Nat) (x1 : Int32) (x2 : Int32) (x3 : Int32) (fS : (Nat → Int32)) (H : Heap) (locs : List Loc) (ls : Array Slot), f_X5_meanChain_L6 rT fT rG fG rH fH rS k_ x1 x2 x3 fS = some (y1, y2, fSo) → va_P X.1 vwCl (wLR X x0 hh ht ch tx y hy rP fP rT fT rG fG rL fL rH fH gi di re ti rPT fPT rTT fTT rGT fGT rLT fLT rHT fHT giT diT reT tiT rS fS rB fB rO fO pl fa cn ro Qh) H → va_S A s.heap H locs → lv_has ls 6 [(0, .ref (x0)), (1, .int x1), (2, .int x2), (3, .int x3)] → W p l e ({ frames := 4, cells := 0, slots := 0, locals := 97 } : Room) s m args below meth c H locs 0 0 Q (F0 m 6 ls []) := by
    intro Q y1 y2 fSo kx k_
    induction k_ with
    | zero => intro x1 x2 x3 fS H locs ls hf; exact nomatch (show (none : Option (Int32 × Int32 × (Nat → Int32))) = some _ from hf)
    | succ k_ ih =>
      intro x1 x2 x3 fS H locs ls hf hP hS hl
      unfold f_X5_meanChain_L6 at hf
      refine lv_iload_n hx hb dX5_meanChain_6 rfl (lv_at hl 3 rfl) ?_
      refine lv_aload_n hx hb dX5_meanChain_7 rfl (lv_at hl 0 rfl) ?_
      refine va_get (D := X.1) (ci := 5) (v := .ref (hh 0)) (C := RX5) (T := TX5) (N := 5) hx hb hts hiX5 hown hK.1 hP 0 rfl rfl 0 (by decide) k10 (fun _ h9 => h9) rfl dX5_meanChain_8 ?_
      refine va_get (D := X.1) (ci := 2) (v := .ref (hh 3)) (C := RX2) (T := TX2) (N := 9) hx hb hts hiX2 hown hK.1 hP 1 rfl rfl 1 (by decide) k47 (fun _ h9 => h9) rfl dX5_meanChain_11 ?_
      obtain ⟨r_9, hc_10, hf⟩ := bd_of hf
      refine fn_V (v := some (.int r_9)) (As := []) (rest := [.int x3]) (st1 := [.int r_9, .int x3]) (ws' := (wLR X x0 hh ht ch tx y hy rP fP rT fT rG fG rL fL rH fH gi di re ti rPT fPT rTT fTT rGT fGT rLT fLT rHT fHT giT diT reT tiT rS fS rB fB rO fO pl fa cn ro Qh)) (nL := 6) ⟨hx, hb, hml, hown, hts⟩ (c_X3_rows l X (hh 3) (hh 4) (8 : Int32) (2 : Int32) 16 rT fT r_9 hc_10) (cwV 0 hts gX5_meanChain_X3_rows rfl rfl rfl (by decide +kernel) ⟨Nat.le_of_ble_eq_true rfl, Nat.le_of_ble_eq_true rfl⟩) 3 rfl rfl rfl rfl hl.1 rfl (Nat.le_of_ble_eq_true rfl) dX5_meanChain_14 hK hP (hD0.addr (wLR_fst.trans wLR_fst.symm)) hS hA [4, 5] (by decide +kernel) rfl (pt_setid _ _ _ rfl) rfl ⟨Nat.zero_le _, Nat.zero_le _⟩ (fun H locs hP hD hS => ?_)
      refine lv_icmp_ge (tgt := 79) hx hb dX5_meanChain_17 (by decide) (fun c_11 => ?_) (fun c_11 => ?_)
      · replace hf := fp_t c_11 hf
        cases hf
        exact kx _ _ _ hP hS (lv_sub hl [1, 2] rfl)
      · replace hf := fp_f c_11 hf
        refine lv_aload_n hx hb dX5_meanChain_20 rfl (lv_at hl 0 rfl) ?_
        refine va_get (D := X.1) (ci := 5) (v := .ref (ch 0)) (C := RX5) (T := TX5) (N := 5) hx hb hts hiX5 hown hK.1 hP 0 rfl rfl 3 (by decide) k29 (fun _ h9 => h9) rfl dX5_meanChain_21 ?_
        refine lv_aload_n hx hb dX5_meanChain_24 rfl (lv_at hl 0 rfl) ?_
        refine va_get (D := X.1) (ci := 5) (v := .ref (hh 0)) (C := RX5) (T := TX5) (N := 5) hx hb hts hiX5 hown hK.1 hP 0 rfl rfl 0 (by decide) k10 (fun _ h9 => h9) rfl dX5_meanChain_25 ?_
        refine lv_iload_n hx hb dX5_meanChain_28 rfl (lv_at hl 3 rfl) ?_
        obtain ⟨fS_12, hc_13, hf⟩ := bd_of hf
        refine fn_VJ (v := none) (As := [.ref (hh 0), .int x3]) (rest := []) (st1 := []) (ws' := (wLR X x0 hh ht ch tx y hy rP fP rT fT rG fG rL fL rH fH gi di re ti rPT fPT rTT fTT rGT fGT rLT fLT rHT fHT giT diT reT tiT rS fS_12 rB fB rO fO pl fa cn ro Qh)) (nL := 6) ⟨hx, hb, hml, hown, hts⟩ (c_X0_measure l X ch hh rS fS rP fP rT fT rG fG rL fL rH fH gi di re ti x3 fS_12 hc_13) (cwV 2 hts gX5_meanChain_X0_measure rfl rfl rfl (by decide +kernel) ⟨Nat.le_of_ble_eq_true rfl, Nat.le_of_ble_eq_true rfl⟩) 0 rfl rfl rfl rfl hl.1 rfl (Nat.le_of_ble_eq_true rfl) dX5_meanChain_29 hK hP (hD0.addr (wLR_fst.trans wLR_fst.symm)) hS hA [23, 24, 25, 1, 2, 3, 4, 5, 6, 7, 8, 9, 10, 11] (by decide +kernel) lC_ch lJ_ch (wLR_fst.trans wLR_fst.symm) rfl ⟨Nat.zero_le _, Nat.zero_le _⟩ (fun H locs hP hD hS => ?_)
        refine lv_iconst (v := 0) hx hb dX5_meanChain_32 (by decide) ?_
        refine lv_istore (lv' := [(4, .int (0 : Int32)), (0, .ref (x0)), (1, .int x1), (2, .int x2), (3, .int x3)]) hx hb dX5_meanChain_33 hl (by decide) rfl (fun ls hl => ?_)
        obtain ⟨y1_14, y2_15, hL_16, hf⟩ := bd2_of hf
        refine loop_35 _ x3 fS_12 y1_14 y2_15 (fun H locs ls hP hS hl => ?_) FU x1 x2 (0 : Int32) _ _ _ hL_16 hP hS (lv_sub hl [1, 2, 3, 4, 0] rfl)
        obtain ⟨v_17, ev_17⟩ : ∃ y : Int32, y = x3 + (1 : Int32) := ⟨_, rfl⟩
        replace hf := nm_of ev_17 hf
        refine lv_iinc (v := v_17) (lv' := [(3, .int v_17), (0, .ref (x0)), (1, .int y1_14), (2, .int y2_15)]) hx hb dX5_meanChain_73 hl (k := 3) rfl (by rw [ev_17]; rfl) (by decide) rfl (fun ls hl => ?_)
        refine lv_goto (tgt := 6) hx hb dX5_meanChain_76 (by decide) ?_
        exact ih y1_14 y2_15 v_17 fS_12 _ _ _ hf hP hS (lv_sub hl [1, 2, 3, 0] rfl)
  unfold f_X5_meanChain at hf
  refine lv_iconst (v := 0) hx hb dX5_meanChain_0 (by decide) ?_
  refine lv_istore_n (lv' := [(1, .int (0 : Int32)), (0, .ref (x0))]) hx hb dX5_meanChain_1 rfl hl (by decide) rfl (fun ls hl => ?_)
  refine lv_iconst (v := 0) hx hb dX5_meanChain_2 (by decide) ?_
  refine lv_istore_n (lv' := [(2, .int (0 : Int32)), (1, .int (0 : Int32)), (0, .ref (x0))]) hx hb dX5_meanChain_3 rfl hl (by decide) rfl (fun ls hl => ?_)
  refine lv_iconst (v := 0) hx hb dX5_meanChain_4 (by decide) ?_
  refine lv_istore_n (lv' := [(3, .int (0 : Int32)), (2, .int (0 : Int32)), (1, .int (0 : Int32)), (0, .ref (x0))]) hx hb dX5_meanChain_5 rfl hl (by decide) rfl (fun ls hl => ?_)
  obtain ⟨y1_18, y2_19, fS_20, hL_21, hf⟩ := bd3_of hf
  refine loop_6 _ y1_18 y2_19 fS_20 (fun H locs ls hP hS hl => ?_) FU (0 : Int32) (0 : Int32) (0 : Int32) fS _ _ _ hL_21 hP hS (lv_sub hl [3, 2, 1, 0] rfl)
  refine lv_iload_n hx hb dX5_meanChain_79 rfl (lv_at hl 0 rfl) ?_
  refine lv_if_ne (tgt := 87) hx hb dX5_meanChain_80 (by decide) (fun c_22 => ?_) (fun c_22 => ?_)
  · replace hf := fp_f c_22 hf
    refine lv_iload_n hx hb dX5_meanChain_87 rfl (lv_at hl 1 rfl) ?_
    refine lv_i2d hx hb dX5_meanChain_88 ?_
    refine lv_iload_n hx hb dX5_meanChain_89 rfl (lv_at hl 0 rfl) ?_
    refine lv_i2d hx hb dX5_meanChain_90 ?_
    obtain ⟨hn_23, hf⟩ := nz_of hf
    refine lv_ddiv hx hb dX5_meanChain_91 hn_23 ?_
    cases hf
    exact fn_dret hx hb hr hlocks hP hS dX5_meanChain_92
  · replace hf := fp_t c_22 hf
    refine lv_dconst0 hx hb dX5_meanChain_83 ?_
    refine lv_goto (tgt := 92) hx hb dX5_meanChain_84 (by decide) ?_
    cases hf
    exact fn_dret hx hb hr hlocks hP hS dX5_meanChain_92
