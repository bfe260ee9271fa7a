def f_X5_addThing (x1 : Int32) (x2 : Int32) (rP : Int32) (fP : (Nat → Int32)) (rT : Int32) (fT : (Nat → Int32)) (rG : Int32) (fG : (Nat → Int32)) (rL : Int32) (fL : (Nat → Int32)) (rH : Int32) (fH : (Nat → Int32)) (gi : Int32) (di : Int32) (re : Int32) (ti : Int32) (cn : Int32) (ro : Nat) (Qh : (Nat → HS)) : Option ((String × Int32 × (Nat → Int32) × Int32 × (Nat → Int32) × Int32 × Nat × (Nat → HS)) ⊕ (Int32 × Int32 × (Nat → Int32) × Int32 × (Nat → Int32) × Int32 × Nat × (Nat → HS))) :=
  bx (f_X5_requirePerson x1) (fun E_3 => some (.inl (E_3, rT, fT, rH, fH, cn, ro, Qh))) (fun u_2 =>
  bx (f_X5_requireMask x2) (fun E_6 => some (.inl (E_6, rT, fT, rH, fH, cn, ro, Qh))) (fun u_5 =>
  bd (f_X3_isFull (8 : Int32) rT) (fun r_7 =>
  if r_7 = (0 : Int32) then
  (bd3 (f_X1_keep cn ro Qh rP fP rT fT rG fG rL fL rH fH gi di re ti) (fun cn_10 ro_11 Qh_12 =>
  bd5 (f_X2_takeIn x1 x2 rT fT rG fG rH fH) (fun r_14 rT_15 fT_16 rH_17 fH_18 =>
  some (.inr (r_14, rT_15, fT_16, rH_17, fH_18, cn_10, ro_11, Qh_12)))))
  else
  (some (.inl ("java/lang/IllegalStateException", rT, fT, rH, fH, cn, ro, Qh))))))
set_option maxHeartbeats 4000000 in
set_option maxRecDepth 100000 in
theorem c_X5_addThing (l : Launch) (X : cx_G) (x0 : Nat) (hh : (Nat → Nat)) (ht : (Nat → Nat)) (ch : (Nat → Nat)) (tx : (Nat → Nat)) (y : (Nat → Nat)) (hy : (Nat → Nat → Nat)) (rP : Int32) (fP : (Nat → Int32)) (rT : Int32) (fT : (Nat → Int32)) (rG : Int32) (fG : (Nat → Int32)) (rL : Int32) (fL : (Nat → Int32)) (rH : Int32) (fH : (Nat → Int32)) (gi : Int32) (di : Int32) (re : Int32) (ti : Int32) (rPT : Int32) (fPT : (Nat → Int32)) (rTT : Int32) (fTT : (Nat → Int32)) (rGT : Int32) (fGT : (Nat → Int32)) (rLT : Int32) (fLT : (Nat → Int32)) (rHT : Int32) (fHT : (Nat → Int32)) (giT : Int32) (diT : Int32) (reT : Int32) (tiT : Int32) (rS : Int32) (fS : (Nat → Int32)) (rB : Int32) (fB : (Nat → Int32)) (rO : Int32) (fO : (Nat → Int32)) (pl : Int32) (fa : Int32) (cn : Int32) (ro : Nat) (Qh : (Nat → HS)) (x1 : Int32) (x2 : Int32) (r : Int32) (rT' : Int32) (fT' : (Nat → Int32)) (rH' : Int32) (fH' : (Nat → Int32)) (cn' : Int32) (ro' : Nat) (Qh' : (Nat → HS)) (hf : f_X5_addThing x1 x2 rP fP rT fT rG fG rL fL rH fH gi di re ti cn ro Qh = some (.inr (r, rT', fT', rH', fH', cn', ro', Qh'))) : Fn l yX5_addThing wsX5_addThing ({ frames := 4, cells := 0, slots := 0, locals := 97 } : Room) X [.ref (x0), .int x1, .int x2] (wLR X x0 hh ht ch tx y hy rP fP rT fT rG fG rL fL rH fH gi di re ti rPT fPT rTT fTT rGT fGT rLT fLT rHT fHT giT diT reT tiT rS fS rB fB rO fO pl fa cn ro Qh) (some (.int r)) (wLR X x0 hh ht ch tx y hy rP fP rT' fT' rG fG rL fL rH' fH' gi di re ti rPT fPT rTT fTT rGT fGT rLT fLT rHT fHT giT diT reT tiT rS fS rB fB rO fO pl fa cn' ro' Qh') := by
  refine fn_intro (cc := cX5_addThing) (maxL := 3) (ret := (some .int)) (by decide) rfl (wLR_fst.trans wLR_fst.symm) (Nat.le_of_ble_eq_true rfl) ?_
  intro p e s m args below meth c A ls hx hb hml hr hts hown hlocks hK hP hD0 hS hA hl
  have hown : s.vm.findClass RX5 = some m.cls := hown
  have hl : lv_has ls 3 [(0, .ref (x0)), (1, .int x1), (2, .int x2)] := hl
  have hiX2 : ∀ w ∈ u_ws RX2 TX2 9, w ∈ wsX5_addThing := by decide +kernel
  have hiX5 : ∀ w ∈ u_ws RX5 TX5 5, w ∈ wsX5_addThing := by decide +kernel
  have k10 := hts (.fieldLink RX5 10 "LentRights" "house" "LLentRights$House;") (by decide +kernel)
  have k22 := hts (.fieldLink RX5 22 "LentRights" "history" "LLentRights$History;") (by decide +kernel)
  have k47 := hts (.fieldLink RX5 47 "LentRights$House" "things" "LLentRights$Table;") (by decide +kernel)
  unfold f_X5_addThing at hf
  refine lv_iload_n hx hb dX5_addThing_0 rfl (lv_at hl 1 rfl) ?_
  rcases bx_of hf with ⟨E_3, hc_1, hf⟩ | ⟨u_2, hc_1, hf⟩
  · cases hf
  · refine fn_Sx (v := none) (As := [.int x1]) (rest := []) (st1 := []) (ws' := (wLR X x0 hh ht ch tx y hy rP fP rT fT rG fG rL fL rH fH gi di re ti rPT fPT rTT fTT rGT fGT rLT fLT rHT fHT giT diT reT tiT rS fS rB fB rO fO pl fa cn ro Qh)) (nL := 3) ⟨hx, hb, hml, hown, hts⟩ (c_X5_requirePerson l X x1 hc_1) (va_cwS 1 hts gX5_addThing_X5_requirePerson rfl rfl rfl (by decide +kernel) ⟨Nat.le_of_ble_eq_true rfl, Nat.le_of_ble_eq_true rfl⟩) rfl hl.1 rfl (Nat.le_of_ble_eq_true rfl) dX5_addThing_1 hK hP (hD0.addr (wLR_fst.trans wLR_fst.symm)) hS hA [] (by decide +kernel) rfl (pt_setid _ _ _ rfl) rfl ⟨Nat.zero_le _, Nat.zero_le _⟩ (fun H locs hP hD hS => ?_)
    refine lv_iload_n hx hb dX5_addThing_4 rfl (lv_at hl 2 rfl) ?_
    rcases bx_of hf with ⟨E_6, hc_4, hf⟩ | ⟨u_5, hc_4, hf⟩
    · cases hf
    · refine fn_Sx (v := none) (As := [.int x2]) (rest := []) (st1 := []) (ws' := (wLR X x0 hh ht ch tx y hy rP fP rT fT rG fG rL fL rH fH gi di re ti rPT fPT rTT fTT rGT fGT rLT fLT rHT fHT giT diT reT tiT rS fS rB fB rO fO pl fa cn ro Qh)) (nL := 3) ⟨hx, hb, hml, hown, hts⟩ (c_X5_requireMask l X x2 hc_4) (va_cwS 1 hts gX5_addThing_X5_requireMask rfl rfl rfl (by decide +kernel) ⟨Nat.le_of_ble_eq_true rfl, Nat.le_of_ble_eq_true rfl⟩) rfl hl.1 rfl (Nat.le_of_ble_eq_true rfl) dX5_addThing_5 hK hP (hD0.addr (wLR_fst.trans wLR_fst.symm)) hS hA [] (by decide +kernel) rfl (pt_setid _ _ _ rfl) rfl ⟨Nat.zero_le _, Nat.zero_le _⟩ (fun H locs hP hD hS => ?_)
      refine lv_aload_n hx hb dX5_addThing_8 rfl (lv_at hl 0 rfl) ?_
      refine va_get (D := X.1) (ci := 5) (v := .ref (hh 0)) (C := RX5) (T := TX5) (N := 5) hx hb hts hiX5 hown hK.1 hP 0 rfl rfl 0 (by decide) k10 (fun _ h9 => h9) rfl dX5_addThing_9 ?_
      refine va_get (D := X.1) (ci := 2) (v := .ref (hh 3)) (C := RX2) (T := TX2) (N := 9) hx hb hts hiX2 hown hK.1 hP 1 rfl rfl 1 (by decide) k47 (fun _ h9 => h9) rfl dX5_addThing_12 ?_
      obtain ⟨r_7, hc_8, hf⟩ := bd_of hf
      refine fn_V (v := some (.int r_7)) (As := []) (rest := []) (st1 := [.int r_7]) (ws' := (wLR X x0 hh ht ch tx y hy rP fP rT fT rG fG rL fL rH fH gi di re ti rPT fPT rTT fTT rGT fGT rLT fLT rHT fHT giT diT reT tiT rS fS rB fB rO fO pl fa cn ro Qh)) (nL := 3) ⟨hx, hb, hml, hown, hts⟩ (c_X3_isFull l X (hh 3) (hh 4) (8 : Int32) (2 : Int32) 16 rT fT r_7 hc_8) (cwV 0 hts gX5_addThing_X3_isFull rfl rfl rfl (by decide +kernel) ⟨Nat.le_of_ble_eq_true rfl, Nat.le_of_ble_eq_true rfl⟩) 3 rfl rfl rfl rfl hl.1 rfl (Nat.le_of_ble_eq_true rfl) dX5_addThing_15 hK hP (hD0.addr (wLR_fst.trans wLR_fst.symm)) hS hA [4, 5] (by decide +kernel) rfl (pt_setid _ _ _ rfl) rfl ⟨Nat.zero_le _, Nat.zero_le _⟩ (fun H locs hP hD hS => ?_)
      refine lv_if_eq (tgt := 31) hx hb dX5_addThing_18 (by decide) (fun c_9 => ?_) (fun c_9 => ?_)
      · replace hf := fp_t c_9 hf
        refine lv_aload_n hx hb dX5_addThing_31 rfl (lv_at hl 0 rfl) ?_
        refine va_get (D := X.1) (ci := 5) (v := .ref (y 0)) (C := RX5) (T := TX5) (N := 5) hx hb hts hiX5 hown hK.1 hP 0 rfl rfl 2 (by decide) k22 (fun _ h9 => h9) rfl dX5_addThing_32 ?_
        refine lv_aload_n hx hb dX5_addThing_35 rfl (lv_at hl 0 rfl) ?_
        refine va_get (D := X.1) (ci := 5) (v := .ref (hh 0)) (C := RX5) (T := TX5) (N := 5) hx hb hts hiX5 hown hK.1 hP 0 rfl rfl 0 (by decide) k10 (fun _ h9 => h9) rfl dX5_addThing_36 ?_
        obtain ⟨cn_10, ro_11, Qh_12, hc_13, hf⟩ := bd3_of hf
        refine fn_VJ (v := none) (As := [.ref (hh 0)]) (rest := []) (st1 := []) (ws' := (wLR X x0 hh ht ch tx y hy rP fP rT fT rG fG rL fL rH fH gi di re ti rPT fPT rTT fTT rGT fGT rLT fLT rHT fHT giT diT reT tiT rS fS rB fB rO fO pl fa cn_10 ro_11 Qh_12)) (nL := 3) ⟨hx, hb, hml, hown, hts⟩ (c_X1_keep l X y hy hh cn ro Qh rP fP rT fT rG fG rL fL rH fH gi di re ti cn_10 ro_11 Qh_12 hc_13) (cwV 1 hts gX5_addThing_X1_keep rfl rfl rfl (by decide +kernel) ⟨Nat.le_of_ble_eq_true rfl, Nat.le_of_ble_eq_true rfl⟩) 1 rfl rfl rfl rfl hl.1 rfl (Nat.le_of_ble_eq_true rfl) dX5_addThing_39 hK hP (hD0.addr (wLR_fst.trans wLR_fst.symm)) hS hA [31, 32, 33, 34, 35, 36, 37, 38, 39, 40, 41, 42, 43, 44, 45, 46, 47, 48, 49, 50, 51, 52, 53, 54, 55, 56, 57, 58, 59, 60, 61, 62, 63, 64, 65, 66, 67, 68, 69, 70, 71, 72, 73, 74, 75, 76, 1, 2, 3, 4, 5, 6, 7, 8, 9, 10, 11] (by decide +kernel) lC_ih lJ_ih (wLR_fst.trans wLR_fst.symm) rfl ⟨Nat.zero_le _, Nat.zero_le _⟩ (fun H locs hP hD hS => ?_)
        refine lv_aload_n hx hb dX5_addThing_42 rfl (lv_at hl 0 rfl) ?_
        refine va_get (D := X.1) (ci := 5) (v := .ref (hh 0)) (C := RX5) (T := TX5) (N := 5) hx hb hts hiX5 hown hK.1 hP 0 rfl rfl 0 (by decide) k10 (fun _ h9 => h9) rfl dX5_addThing_43 ?_
        refine lv_iload_n hx hb dX5_addThing_46 rfl (lv_at hl 1 rfl) ?_
        refine lv_iload_n hx hb dX5_addThing_47 rfl (lv_at hl 2 rfl) ?_
        obtain ⟨r_14, rT_15, fT_16, rH_17, fH_18, hc_19, hf⟩ := bd5_of hf
        refine fn_VJ (v := some (.int r_14)) (As := [.int x1, .int x2]) (rest := []) (st1 := [.int r_14]) (ws' := (wLR X x0 hh ht ch tx y hy rP fP rT_15 fT_16 rG fG rL fL rH_17 fH_18 gi di re ti rPT fPT rTT fTT rGT fGT rLT fLT rHT fHT giT diT reT tiT rS fS rB fB rO fO pl fa cn_10 ro_11 Qh_12)) (nL := 3) ⟨hx, hb, hml, hown, hts⟩ (c_X2_takeIn l X hh rP fP rT fT rG fG rL fL rH fH gi di re ti x1 x2 r_14 rT_15 fT_16 rH_17 fH_18 hc_19) (cwV 2 hts gX5_addThing_X2_takeIn rfl rfl rfl (by decide +kernel) ⟨Nat.le_of_ble_eq_true rfl, Nat.le_of_ble_eq_true rfl⟩) 2 rfl rfl rfl rfl hl.1 rfl (Nat.le_of_ble_eq_true rfl) dX5_addThing_48 hK hP (hD0.addr (wLR_fst.trans wLR_fst.symm)) hS hA [1, 2, 3, 4, 5, 6, 7, 8, 9, 10, 11] (by decide +kernel) lC_h lJ_h (wLR_fst.trans wLR_fst.symm) rfl ⟨Nat.zero_le _, Nat.zero_le _⟩ (fun H locs hP hD hS => ?_)
        cases hf
        exact fn_iret hx hb hr hlocks hP hS dX5_addThing_51
      · replace hf := fp_f c_9 hf
        cases hf
set_option maxHeartbeats 4000000 in
set_option maxRecDepth 100000 in
theorem c_X5_addThing_x (l : Launch) (hfl : l.stackTraces = false) (X : cx_G) (x0 : Nat) (hh : (Nat → Nat)) (ht : (Nat → Nat)) (ch : (Nat → Nat)) (tx : (Nat → Nat)) (y : (Nat → Nat)) (hy : (Nat → Nat → Nat)) (rP : Int32) (fP : (Nat → Int32)) (rT : Int32) (fT : (Nat → Int32)) (rG : Int32) (fG : (Nat → Int32)) (rL : Int32) (fL : (Nat → Int32)) (rH : Int32) (fH : (Nat → Int32)) (gi : Int32) (di : Int32) (re : Int32) (ti : Int32) (rPT : Int32) (fPT : (Nat → Int32)) (rTT : Int32) (fTT : (Nat → Int32)) (rGT : Int32) (fGT : (Nat → Int32)) (rLT : Int32) (fLT : (Nat → Int32)) (rHT : Int32) (fHT : (Nat → Int32)) (giT : Int32) (diT : Int32) (reT : Int32) (tiT : Int32) (rS : Int32) (fS : (Nat → Int32)) (rB : Int32) (fB : (Nat → Int32)) (rO : Int32) (fO : (Nat → Int32)) (pl : Int32) (fa : Int32) (cn : Int32) (ro : Nat) (Qh : (Nat → HS)) (x1 : Int32) (x2 : Int32) (E : String) (rT' : Int32) (fT' : (Nat → Int32)) (rH' : Int32) (fH' : (Nat → Int32)) (cn' : Int32) (ro' : Nat) (Qh' : (Nat → HS)) (hf : f_X5_addThing x1 x2 rP fP rT fT rG fG rL fL rH fH gi di re ti cn ro Qh = some (.inl (E, rT', fT', rH', fH', cn', ro', Qh'))) : Tx l yX5_addThing wsX5_addThing ({ frames := 8, cells := 1, slots := 6, locals := 132 } : Room) X [.ref (x0), .int x1, .int x2] (wLR X x0 hh ht ch tx y hy rP fP rT fT rG fG rL fL rH fH gi di re ti rPT fPT rTT fTT rGT fGT rLT fLT rHT fHT giT diT reT tiT rS fS rB fB rO fO pl fa cn ro Qh) E (wLR X x0 hh ht ch tx y hy rP fP rT' fT' rG fG rL fL rH' fH' gi di re ti rPT fPT rTT fTT rGT fGT rLT fLT rHT fHT giT diT reT tiT rS fS rB fB rO fO pl fa cn' ro' Qh') := by
  refine tx_intro (cc := cX5_addThing) (maxL := 3) (ret := (some .int)) (by decide) rfl (wLR_fst.trans wLR_fst.symm) (Nat.le_of_ble_eq_true rfl) ?_
  intro p e s m args below meth c A ls hx hb hml hr hts hown hlocks hne hK hP hD0 hS hA hTS hTZ hl
  have hown : s.vm.findClass RX5 = some m.cls := hown
  have hl : lv_has ls 3 [(0, .ref (x0)), (1, .int x1), (2, .int x2)] := hl
  have hiX2 : ∀ w ∈ u_ws RX2 TX2 9, w ∈ wsX5_addThing := by decide +kernel
  have hiX5 : ∀ w ∈ u_ws RX5 TX5 5, w ∈ wsX5_addThing := by decide +kernel
  have k10 := hts (.fieldLink RX5 10 "LentRights" "house" "LLentRights$House;") (by decide +kernel)
  have k22 := hts (.fieldLink RX5 22 "LentRights" "history" "LLentRights$History;") (by decide +kernel)
  have k47 := hts (.fieldLink RX5 47 "LentRights$House" "things" "LLentRights$Table;") (by decide +kernel)
  unfold f_X5_addThing at hf
  refine lv_iload_n hx hb dX5_addThing_0 rfl (lv_at hl 1 rfl) ?_
  rcases bx_of hf with ⟨E_3, hc_1, hf⟩ | ⟨u_2, hc_1, hf⟩
  · cases hf
    exact tx_Sx (As := [.int x1]) (rest := []) (nL := 3) hne hlocks ⟨hx, hb, hml, hown, hts⟩ (c_X5_requirePerson_x l hfl X x1 E hc_1) (va_cwS 1 hts gX5_addThing_X5_requirePerson rfl rfl rfl (by decide +kernel) ⟨Nat.le_of_ble_eq_true rfl, Nat.le_of_ble_eq_true rfl⟩) rfl hl.1 rfl (Nat.le_of_ble_eq_true rfl) dX5_addThing_1 hTS hTZ hK hP (hD0.addr (wLR_fst.trans wLR_fst.symm)) hS hA [] (by decide +kernel) rfl (pt_setid _ _ _ rfl) ⟨Nat.le_of_ble_eq_true rfl, Nat.le_of_ble_eq_true rfl⟩
  · refine fn_Sx (v := none) (As := [.int x1]) (rest := []) (st1 := []) (ws' := (wLR X x0 hh ht ch tx y hy rP fP rT fT rG fG rL fL rH fH gi di re ti rPT fPT rTT fTT rGT fGT rLT fLT rHT fHT giT diT reT tiT rS fS rB fB rO fO pl fa cn ro Qh)) (nL := 3) ⟨hx, hb, hml, hown, hts⟩ (c_X5_requirePerson l X x1 hc_1) (va_cwS 1 hts gX5_addThing_X5_requirePerson rfl rfl rfl (by decide +kernel) ⟨Nat.le_of_ble_eq_true rfl, Nat.le_of_ble_eq_true rfl⟩) rfl hl.1 rfl (Nat.le_of_ble_eq_true rfl) dX5_addThing_1 hK hP (hD0.addr (wLR_fst.trans wLR_fst.symm)) hS hA [] (by decide +kernel) rfl (pt_setid _ _ _ rfl) rfl ⟨Nat.zero_le _, Nat.zero_le _⟩ (fun H locs hP hD hS => ?_)
    refine lv_iload_n hx hb dX5_addThing_4 rfl (lv_at hl 2 rfl) ?_
    rcases bx_of hf with ⟨E_6, hc_4, hf⟩ | ⟨u_5, hc_4, hf⟩
    · cases hf
      exact tx_Sx (As := [.int x2]) (rest := []) (nL := 3) hne hlocks ⟨hx, hb, hml, hown, hts⟩ (c_X5_requireMask_x l hfl X x2 E hc_4) (va_cwS 1 hts gX5_addThing_X5_requireMask rfl rfl rfl (by decide +kernel) ⟨Nat.le_of_ble_eq_true rfl, Nat.le_of_ble_eq_true rfl⟩) rfl hl.1 rfl (Nat.le_of_ble_eq_true rfl) dX5_addThing_5 hTS hTZ hK hP (hD0.addr (wLR_fst.trans wLR_fst.symm)) hS hA [] (by decide +kernel) rfl (pt_setid _ _ _ rfl) ⟨Nat.le_of_ble_eq_true rfl, Nat.le_of_ble_eq_true rfl⟩
    · refine fn_Sx (v := none) (As := [.int x2]) (rest := []) (st1 := []) (ws' := (wLR X x0 hh ht ch tx y hy rP fP rT fT rG fG rL fL rH fH gi di re ti rPT fPT rTT fTT rGT fGT rLT fLT rHT fHT giT diT reT tiT rS fS rB fB rO fO pl fa cn ro Qh)) (nL := 3) ⟨hx, hb, hml, hown, hts⟩ (c_X5_requireMask l X x2 hc_4) (va_cwS 1 hts gX5_addThing_X5_requireMask rfl rfl rfl (by decide +kernel) ⟨Nat.le_of_ble_eq_true rfl, Nat.le_of_ble_eq_true rfl⟩) rfl hl.1 rfl (Nat.le_of_ble_eq_true rfl) dX5_addThing_5 hK hP (hD0.addr (wLR_fst.trans wLR_fst.symm)) hS hA [] (by decide +kernel) rfl (pt_setid _ _ _ rfl) rfl ⟨Nat.zero_le _, Nat.zero_le _⟩ (fun H locs hP hD hS => ?_)
      refine lv_aload_n hx hb dX5_addThing_8 rfl (lv_at hl 0 rfl) ?_
      refine va_get (D := X.1) (ci := 5) (v := .ref (hh 0)) (C := RX5) (T := TX5) (N := 5) hx hb hts hiX5 hown hK.1 hP 0 rfl rfl 0 (by decide) k10 (fun _ h9 => h9) rfl dX5_addThing_9 ?_
      refine va_get (D := X.1) (ci := 2) (v := .ref (hh 3)) (C := RX2) (T := TX2) (N := 9) hx hb hts hiX2 hown hK.1 hP 1 rfl rfl 1 (by decide) k47 (fun _ h9 => h9) rfl dX5_addThing_12 ?_
      obtain ⟨r_7, hc_8, hf⟩ := bd_of hf
      refine fn_V (v := some (.int r_7)) (As := []) (rest := []) (st1 := [.int r_7]) (ws' := (wLR X x0 hh ht ch tx y hy rP fP rT fT rG fG rL fL rH fH gi di re ti rPT fPT rTT fTT rGT fGT rLT fLT rHT fHT giT diT reT tiT rS fS rB fB rO fO pl fa cn ro Qh)) (nL := 3) ⟨hx, hb, hml, hown, hts⟩ (c_X3_isFull l X (hh 3) (hh 4) (8 : Int32) (2 : Int32) 16 rT fT r_7 hc_8) (cwV 0 hts gX5_addThing_X3_isFull rfl rfl rfl (by decide +kernel) ⟨Nat.le_of_ble_eq_true rfl, Nat.le_of_ble_eq_true rfl⟩) 3 rfl rfl rfl rfl hl.1 rfl (Nat.le_of_ble_eq_true rfl) dX5_addThing_15 hK hP (hD0.addr (wLR_fst.trans wLR_fst.symm)) hS hA [4, 5] (by decide +kernel) rfl (pt_setid _ _ _ rfl) rfl ⟨Nat.zero_le _, Nat.zero_le _⟩ (fun H locs hP hD hS => ?_)
      refine lv_if_eq (tgt := 31) hx hb dX5_addThing_18 (by decide) (fun c_9 => ?_) (fun c_9 => ?_)
      · replace hf := fp_t c_9 hf
        refine lv_aload_n hx hb dX5_addThing_31 rfl (lv_at hl 0 rfl) ?_
        refine va_get (D := X.1) (ci := 5) (v := .ref (y 0)) (C := RX5) (T := TX5) (N := 5) hx hb hts hiX5 hown hK.1 hP 0 rfl rfl 2 (by decide) k22 (fun _ h9 => h9) rfl dX5_addThing_32 ?_
        refine lv_aload_n hx hb dX5_addThing_35 rfl (lv_at hl 0 rfl) ?_
        refine va_get (D := X.1) (ci := 5) (v := .ref (hh 0)) (C := RX5) (T := TX5) (N := 5) hx hb hts hiX5 hown hK.1 hP 0 rfl rfl 0 (by decide) k10 (fun _ h9 => h9) rfl dX5_addThing_36 ?_
        obtain ⟨cn_10, ro_11, Qh_12, hc_13, hf⟩ := bd3_of hf
        refine fn_VJ (v := none) (As := [.ref (hh 0)]) (rest := []) (st1 := []) (ws' := (wLR X x0 hh ht ch tx y hy rP fP rT fT rG fG rL fL rH fH gi di re ti rPT fPT rTT fTT rGT fGT rLT fLT rHT fHT giT diT reT tiT rS fS rB fB rO fO pl fa cn_10 ro_11 Qh_12)) (nL := 3) ⟨hx, hb, hml, hown, hts⟩ (c_X1_keep l X y hy hh cn ro Qh rP fP rT fT rG fG rL fL rH fH gi di re ti cn_10 ro_11 Qh_12 hc_13) (cwV 1 hts gX5_addThing_X1_keep rfl rfl rfl (by decide +kernel) ⟨Nat.le_of_ble_eq_true rfl, Nat.le_of_ble_eq_true rfl⟩) 1 rfl rfl rfl rfl hl.1 rfl (Nat.le_of_ble_eq_true rfl) dX5_addThing_39 hK hP (hD0.addr (wLR_fst.trans wLR_fst.symm)) hS hA [31, 32, 33, 34, 35, 36, 37, 38, 39, 40, 41, 42, 43, 44, 45, 46, 47, 48, 49, 50, 51, 52, 53, 54, 55, 56, 57, 58, 59, 60, 61, 62, 63, 64, 65, 66, 67, 68, 69, 70, 71, 72, 73, 74, 75, 76, 1, 2, 3, 4, 5, 6, 7, 8, 9, 10, 11] (by decide +kernel) lC_ih lJ_ih (wLR_fst.trans wLR_fst.symm) rfl ⟨Nat.zero_le _, Nat.zero_le _⟩ (fun H locs hP hD hS => ?_)
        refine lv_aload_n hx hb dX5_addThing_42 rfl (lv_at hl 0 rfl) ?_
        refine va_get (D := X.1) (ci := 5) (v := .ref (hh 0)) (C := RX5) (T := TX5) (N := 5) hx hb hts hiX5 hown hK.1 hP 0 rfl rfl 0 (by decide) k10 (fun _ h9 => h9) rfl dX5_addThing_43 ?_
        refine lv_iload_n hx hb dX5_addThing_46 rfl (lv_at hl 1 rfl) ?_
        refine lv_iload_n hx hb dX5_addThing_47 rfl (lv_at hl 2 rfl) ?_
        obtain ⟨r_14, rT_15, fT_16, rH_17, fH_18, hc_19, hf⟩ := bd5_of hf
        refine fn_VJ (v := some (.int r_14)) (As := [.int x1, .int x2]) (rest := []) (st1 := [.int r_14]) (ws' := (wLR X x0 hh ht ch tx y hy rP fP rT_15 fT_16 rG fG rL fL rH_17 fH_18 gi di re ti rPT fPT rTT fTT rGT fGT rLT fLT rHT fHT giT diT reT tiT rS fS rB fB rO fO pl fa cn_10 ro_11 Qh_12)) (nL := 3) ⟨hx, hb, hml, hown, hts⟩ (c_X2_takeIn l X hh rP fP rT fT rG fG rL fL rH fH gi di re ti x1 x2 r_14 rT_15 fT_16 rH_17 fH_18 hc_19) (cwV 2 hts gX5_addThing_X2_takeIn rfl rfl rfl (by decide +kernel) ⟨Nat.le_of_ble_eq_true rfl, Nat.le_of_ble_eq_true rfl⟩) 2 rfl rfl rfl rfl hl.1 rfl (Nat.le_of_ble_eq_true rfl) dX5_addThing_48 hK hP (hD0.addr (wLR_fst.trans wLR_fst.symm)) hS hA [1, 2, 3, 4, 5, 6, 7, 8, 9, 10, 11] (by decide +kernel) lC_h lJ_h (wLR_fst.trans wLR_fst.symm) rfl ⟨Nat.zero_le _, Nat.zero_le _⟩ (fun H locs hP hD hS => ?_)
        cases hf
      · replace hf := fp_f c_9 hf
        cases hf
        exact tx_throw (is := 59) hx hb hfl hown (by decide +kernel) hne (hml.trans hl.1.symm) hlocks (hts (.classLink RX5 57 "java/lang/IllegalStateException") (by decide +kernel)) (hts (.initialized "java/lang/IllegalStateException") (by decide +kernel)) hTS.1.1 hTS tk_ISE (fun w hw => hts w (by unfold wsX5_addThing; simp only [List.mem_cons, List.mem_append, hw, or_true, true_or])) hTZ hP hS (Nat.le_of_ble_eq_true rfl) (Nat.le_of_ble_eq_true rfl) (Nat.le_of_ble_eq_true rfl) (Nat.le_of_ble_eq_true rfl) dX5_addThing_21 dX5_addThing_24 dX5_addThing_25 dX5_addThing_27 dX5_addThing_30

def f_X5_setMask (x1 : Int32) (x2 : Int32) (rP : Int32) (fP : (Nat → Int32)) (rT : Int32) (fT : (Nat → Int32)) (rG : Int32) (fG : (Nat → Int32)) (rL : Int32) (fL : (Nat → Int32)) (rH : Int32) (fH : (Nat → Int32)) (gi : Int32) (di : Int32) (re : Int32) (ti : Int32) (cn : Int32) (ro : Nat) (Qh : (Nat → HS)) : Option ((String × (Nat → Int32) × (Nat → Int32) × Int32 × Nat × (Nat → HS)) ⊕ (Int32 × (Nat → Int32) × (Nat → Int32) × Int32 × Nat × (Nat → HS))) :=
  bx (f_X5_requireThing x1 rT) (fun E_3 => some (.inl (E_3, fT, fH, cn, ro, Qh))) (fun u_2 =>
  bx (f_X5_requireMask x2) (fun E_6 => some (.inl (E_6, fT, fH, cn, ro, Qh))) (fun u_5 =>
  bd3 (f_X1_keep cn ro Qh rP fP rT fT rG fG rL fL rH fH gi di re ti) (fun cn_7 ro_8 Qh_9 =>
  bd3 (f_X2_changeThing x1 (1 : Int32) x2 rT fT rG fG rH fH) (fun r_11 fT_12 fH_13 =>
  some (.inr (r_11, fT_12, fH_13, cn_7, ro_8, Qh_9))))))
set_option maxHeartbeats 4000000 in
set_option maxRecDepth 100000 in
theorem c_X5_setMask (l : Launch) (X : cx_G) (x0 : Nat) (hh : (Nat → Nat)) (ht : (Nat → Nat)) (ch : (Nat → Nat)) (tx : (Nat → Nat)) (y : (Nat → Nat)) (hy : (Nat → Nat → Nat)) (rP : Int32) (fP : (Nat → Int32)) (rT : Int32) (fT : (Nat → Int32)) (rG : Int32) (fG : (Nat → Int32)) (rL : Int32) (fL : (Nat → Int32)) (rH : Int32) (fH : (Nat → Int32)) (gi : Int32) (di : Int32) (re : Int32) (ti : Int32) (rPT : Int32) (fPT : (Nat → Int32)) (rTT : Int32) (fTT : (Nat → Int32)) (rGT : Int32) (fGT : (Nat → Int32)) (rLT : Int32) (fLT : (Nat → Int32)) (rHT : Int32) (fHT : (Nat → Int32)) (giT : Int32) (diT : Int32) (reT : Int32) (tiT : Int32) (rS : Int32) (fS : (Nat → Int32)) (rB : Int32) (fB : (Nat → Int32)) (rO : Int32) (fO : (Nat → Int32)) (pl : Int32) (fa : Int32) (cn : Int32) (ro : Nat) (Qh : (Nat → HS)) (x1 : Int32) (x2 : Int32) (r : Int32) (fT' : (Nat → Int32)) (fH' : (Nat → Int32)) (cn' : Int32) (ro' : Nat) (Qh' : (Nat → HS)) (hf : f_X5_setMask x1 x2 rP fP rT fT rG fG rL fL rH fH gi di re ti cn ro Qh = some (.inr (r, fT', fH', cn', ro', Qh'))) : Fn l yX5_setMask wsX5_setMask ({ frames := 4, cells := 0, slots := 0, locals := 98 } : Room) X [.ref (x0), .int x1, .int x2] (wLR X x0 hh ht ch tx y hy rP fP rT fT rG fG rL fL rH fH gi di re ti rPT fPT rTT fTT rGT fGT rLT fLT rHT fHT giT diT reT tiT rS fS rB fB rO fO pl fa cn ro Qh) (some (.int r)) (wLR X x0 hh ht ch tx y hy rP fP rT fT' rG fG rL fL rH fH' gi di re ti rPT fPT rTT fTT rGT fGT rLT fLT rHT fHT giT diT reT tiT rS fS rB fB rO fO pl fa cn' ro' Qh') := by
  refine fn_intro (cc := cX5_setMask) (maxL := 3) (ret := (some .int)) (by decide) rfl (wLR_fst.trans wLR_fst.symm) (Nat.le_of_ble_eq_true rfl) ?_
  intro p e s m args below meth c A ls hx hb hml hr hts hown hlocks hK hP hD0 hS hA hl
  have hown : s.vm.findClass RX5 = some m.cls := hown
  have hl : lv_has ls 3 [(0, .ref (x0)), (1, .int x1), (2, .int x2)] := hl
  have hiX5 : ∀ w ∈ u_ws RX5 TX5 5, w ∈ wsX5_setMask := by decide +kernel
  have k10 := hts (.fieldLink RX5 10 "LentRights" "house" "LLentRights$House;") (by decide +kernel)
  have k22 := hts (.fieldLink RX5 22 "LentRights" "history" "LLentRights$History;") (by decide +kernel)
  unfold f_X5_setMask at hf
  refine lv_aload_n hx hb dX5_setMask_0 rfl (lv_at hl 0 rfl) ?_
  refine lv_iload_n hx hb dX5_setMask_1 rfl (lv_at hl 1 rfl) ?_
  rcases bx_of hf with ⟨E_3, hc_1, hf⟩ | ⟨u_2, hc_1, hf⟩
  · cases hf
  · refine fn_V (v := none) (As := [.int x1]) (rest := []) (st1 := []) (ws' := (wLR X x0 hh ht ch tx y hy rP fP rT fT rG fG rL fL rH fH gi di re ti rPT fPT rTT fTT rGT fGT rLT fLT rHT fHT giT diT reT tiT rS fS rB fB rO fO pl fa cn ro Qh)) (nL := 3) ⟨hx, hb, hml, hown, hts⟩ (c_X5_requireThing l X x0 hh ht ch tx y hy rP fP rT fT rG fG rL fL rH fH gi di re ti rPT fPT rTT fTT rGT fGT rLT fLT rHT fHT giT diT reT tiT rS fS rB fB rO fO pl fa cn ro Qh x1 hc_1) (cwV 1 hts gX5_setMask_X5_requireThing rfl rfl rfl (by decide +kernel) ⟨Nat.le_of_ble_eq_true rfl, Nat.le_of_ble_eq_true rfl⟩) 5 rfl rfl rfl rfl hl.1 rfl (Nat.le_of_ble_eq_true rfl) dX5_setMask_2 hK hP (hD0.addr (wLR_fst.trans wLR_fst.symm)) hS hA [0, 1, 2, 3, 4, 5, 6, 7, 8, 9, 10, 11, 12, 13, 14, 15, 16, 17, 18, 19, 20, 21, 22, 23, 24, 25, 26, 27, 28, 29, 30, 31, 32, 33, 34, 35, 36, 37, 38, 39, 40, 41, 42, 43, 44, 45, 46, 47, 48, 49, 50, 51, 52, 53, 54, 55, 56, 57, 58, 59, 60, 61, 62, 63, 64, 65, 66, 67, 68, 69, 70, 71, 72, 73, 74, 75, 76] (by decide +kernel) lC_a (pt_setid _ _ _ lC_a) rfl ⟨Nat.zero_le _, Nat.zero_le _⟩ (fun H locs hP hD hS => ?_)
    refine lv_iload_n hx hb dX5_setMask_5 rfl (lv_at hl 2 rfl) ?_
    rcases bx_of hf with ⟨E_6, hc_4, hf⟩ | ⟨u_5, hc_4, hf⟩
    · cases hf
    · refine fn_Sx (v := none) (As := [.int x2]) (rest := []) (st1 := []) (ws' := (wLR X x0 hh ht ch tx y hy rP fP rT fT rG fG rL fL rH fH gi di re ti rPT fPT rTT fTT rGT fGT rLT fLT rHT fHT giT diT reT tiT rS fS rB fB rO fO pl fa cn ro Qh)) (nL := 3) ⟨hx, hb, hml, hown, hts⟩ (c_X5_requireMask l X x2 hc_4) (va_cwS 1 hts gX5_setMask_X5_requireMask rfl rfl rfl (by decide +kernel) ⟨Nat.le_of_ble_eq_true rfl, Nat.le_of_ble_eq_true rfl⟩) rfl hl.1 rfl (Nat.le_of_ble_eq_true rfl) dX5_setMask_6 hK hP (hD0.addr (wLR_fst.trans wLR_fst.symm)) hS hA [] (by decide +kernel) rfl (pt_setid _ _ _ rfl) rfl ⟨Nat.zero_le _, Nat.zero_le _⟩ (fun H locs hP hD hS => ?_)
      refine lv_aload_n hx hb dX5_setMask_9 rfl (lv_at hl 0 rfl) ?_
      refine va_get (D := X.1) (ci := 5) (v := .ref (y 0)) (C := RX5) (T := TX5) (N := 5) hx hb hts hiX5 hown hK.1 hP 0 rfl rfl 2 (by decide) k22 (fun _ h9 => h9) rfl dX5_setMask_10 ?_
      refine lv_aload_n hx hb dX5_setMask_13 rfl (lv_at hl 0 rfl) ?_
      refine va_get (D := X.1) (ci := 5) (v := .ref (hh 0)) (C := RX5) (T := TX5) (N := 5) hx hb hts hiX5 hown hK.1 hP 0 rfl rfl 0 (by decide) k10 (fun _ h9 => h9) rfl dX5_setMask_14 ?_
      obtain ⟨cn_7, ro_8, Qh_9, hc_10, hf⟩ := bd3_of hf
      refine fn_VJ (v := none) (As := [.ref (hh 0)]) (rest := []) (st1 := []) (ws' := (wLR X x0 hh ht ch tx y hy rP fP rT fT rG fG rL fL rH fH gi di re ti rPT fPT rTT fTT rGT fGT rLT fLT rHT fHT giT diT reT tiT rS fS rB fB rO fO pl fa cn_7 ro_8 Qh_9)) (nL := 3) ⟨hx, hb, hml, hown, hts⟩ (c_X1_keep l X y hy hh cn ro Qh rP fP rT fT rG fG rL fL rH fH gi di re ti cn_7 ro_8 Qh_9 hc_10) (cwV 1 hts gX5_setMask_X1_keep rfl rfl rfl (by decide +kernel) ⟨Nat.le_of_ble_eq_true rfl, Nat.le_of_ble_eq_true rfl⟩) 1 rfl rfl rfl rfl hl.1 rfl (Nat.le_of_ble_eq_true rfl) dX5_setMask_17 hK hP (hD0.addr (wLR_fst.trans wLR_fst.symm)) hS hA [31, 32, 33, 34, 35, 36, 37, 38, 39, 40, 41, 42, 43, 44, 45, 46, 47, 48, 49, 50, 51, 52, 53, 54, 55, 56, 57, 58, 59, 60, 61, 62, 63, 64, 65, 66, 67, 68, 69, 70, 71, 72, 73, 74, 75, 76, 1, 2, 3, 4, 5, 6, 7, 8, 9, 10, 11] (by decide +kernel) lC_ih lJ_ih (wLR_fst.trans wLR_fst.symm) rfl ⟨Nat.zero_le _, Nat.zero_le _⟩ (fun H locs hP hD hS => ?_)
      refine lv_aload_n hx hb dX5_setMask_20 rfl (lv_at hl 0 rfl) ?_
      refine va_get (D := X.1) (ci := 5) (v := .ref (hh 0)) (C := RX5) (T := TX5) (N := 5) hx hb hts hiX5 hown hK.1 hP 0 rfl rfl 0 (by decide) k10 (fun _ h9 => h9) rfl dX5_setMask_21 ?_
      refine lv_iload_n hx hb dX5_setMask_24 rfl (lv_at hl 1 rfl) ?_
      refine lv_iconst (v := 1) hx hb dX5_setMask_25 (by decide) ?_
      refine lv_iload_n hx hb dX5_setMask_26 rfl (lv_at hl 2 rfl) ?_
      obtain ⟨r_11, fT_12, fH_13, hc_14, hf⟩ := bd3_of hf
      refine fn_VJ (v := some (.int r_11)) (As := [.int x1, .int (1 : Int32), .int x2]) (rest := []) (st1 := [.int r_11]) (ws' := (wLR X x0 hh ht ch tx y hy rP fP rT fT_12 rG fG rL fL rH fH_13 gi di re ti rPT fPT rTT fTT rGT fGT rLT fLT rHT fHT giT diT reT tiT rS fS rB fB rO fO pl fa cn_7 ro_8 Qh_9)) (nL := 3) ⟨hx, hb, hml, hown, hts⟩ (c_X2_changeThing l X hh rP fP rT fT rG fG rL fL rH fH gi di re ti x1 (1 : Int32) x2 r_11 fT_12 fH_13 hc_14) (cwV 3 hts gX5_setMask_X2_changeThing rfl rfl rfl (by decide +kernel) ⟨Nat.le_of_ble_eq_true rfl, Nat.le_of_ble_eq_true rfl⟩) 2 rfl rfl rfl rfl hl.1 rfl (Nat.le_of_ble_eq_true rfl) dX5_setMask_27 hK hP (hD0.addr (wLR_fst.trans wLR_fst.symm)) hS hA [1, 2, 3, 4, 5, 6, 7, 8, 9, 10, 11] (by decide +kernel) lC_h lJ_h (wLR_fst.trans wLR_fst.symm) rfl ⟨Nat.zero_le _, Nat.zero_le _⟩ (fun H locs hP hD hS => ?_)
      cases hf
      exact fn_iret hx hb hr hlocks hP hS dX5_setMask_30
set_option maxHeartbeats 4000000 in
set_option maxRecDepth 100000 in
theorem c_X5_setMask_x (l : Launch) (hfl : l.stackTraces = false) (X : cx_G) (x0 : Nat) (hh : (Nat → Nat)) (ht : (Nat → Nat)) (ch : (Nat → Nat)) (tx : (Nat → Nat)) (y : (Nat → Nat)) (hy : (Nat → Nat → Nat)) (rP : Int32) (fP : (Nat → Int32)) (rT : Int32) (fT : (Nat → Int32)) (rG : Int32) (fG : (Nat → Int32)) (rL : Int32) (fL : (Nat → Int32)) (rH : Int32) (fH : (Nat → Int32)) (gi : Int32) (di : Int32) (re : Int32) (ti : Int32) (rPT : Int32) (fPT : (Nat → Int32)) (rTT : Int32) (fTT : (Nat → Int32)) (rGT : Int32) (fGT : (Nat → Int32)) (rLT : Int32) (fLT : (Nat → Int32)) (rHT : Int32) (fHT : (Nat → Int32)) (giT : Int32) (diT : Int32) (reT : Int32) (tiT : Int32) (rS : Int32) (fS : (Nat → Int32)) (rB : Int32) (fB : (Nat → Int32)) (rO : Int32) (fO : (Nat → Int32)) (pl : Int32) (fa : Int32) (cn : Int32) (ro : Nat) (Qh : (Nat → HS)) (x1 : Int32) (x2 : Int32) (E : String) (fT' : (Nat → Int32)) (fH' : (Nat → Int32)) (cn' : Int32) (ro' : Nat) (Qh' : (Nat → HS)) (hf : f_X5_setMask x1 x2 rP fP rT fT rG fG rL fL rH fH gi di re ti cn ro Qh = some (.inl (E, fT', fH', cn', ro', Qh'))) : Tx l yX5_setMask wsX5_setMask ({ frames := 8, cells := 1, slots := 6, locals := 132 } : Room) X [.ref (x0), .int x1, .int x2] (wLR X x0 hh ht ch tx y hy rP fP rT fT rG fG rL fL rH fH gi di re ti rPT fPT rTT fTT rGT fGT rLT fLT rHT fHT giT diT reT tiT rS fS rB fB rO fO pl fa cn ro Qh) E (wLR X x0 hh ht ch tx y hy rP fP rT fT' rG fG rL fL rH fH' gi di re ti rPT fPT rTT fTT rGT fGT rLT fLT rHT fHT giT diT reT tiT rS fS rB fB rO fO pl fa cn' ro' Qh') := by
  refine tx_intro (cc := cX5_setMask) (maxL := 3) (ret := (some .int)) (by decide) rfl (wLR_fst.trans wLR_fst.symm) (Nat.le_of_ble_eq_true rfl) ?_
  intro p e s m args below meth c A ls hx hb hml hr hts hown hlocks hne hK hP hD0 hS hA hTS hTZ hl
  have hown : s.vm.findClass RX5 = some m.cls := hown
  have hl : lv_has ls 3 [(0, .ref (x0)), (1, .int x1), (2, .int x2)] := hl
  have hiX5 : ∀ w ∈ u_ws RX5 TX5 5, w ∈ wsX5_setMask := by decide +kernel
  have k10 := hts (.fieldLink RX5 10 "LentRights" "house" "LLentRights$House;") (by decide +kernel)
  have k22 := hts (.fieldLink RX5 22 "LentRights" "history" "LLentRights$History;") (by decide +kernel)
  unfold f_X5_setMask at hf
  refine lv_aload_n hx hb dX5_setMask_0 rfl (lv_at hl 0 rfl) ?_
  refine lv_iload_n hx hb dX5_setMask_1 rfl (lv_at hl 1 rfl) ?_
  rcases bx_of hf with ⟨E_3, hc_1, hf⟩ | ⟨u_2, hc_1, hf⟩
  · cases hf
    exact tx_V (As := [.int x1]) (rest := []) (nL := 3) hne hlocks ⟨hx, hb, hml, hown, hts⟩ (c_X5_requireThing_x l hfl X x0 hh ht ch tx y hy rP fP rT fT rG fG rL fL rH fH gi di re ti rPT fPT rTT fTT rGT fGT rLT fLT rHT fHT giT diT reT tiT rS fS rB fB rO fO pl fa cn ro Qh x1 E hc_1) (cwV 1 hts gX5_setMask_X5_requireThing rfl rfl rfl (by decide +kernel) ⟨Nat.le_of_ble_eq_true rfl, Nat.le_of_ble_eq_true rfl⟩) 5 rfl rfl rfl rfl hl.1 rfl (Nat.le_of_ble_eq_true rfl) dX5_setMask_2 hTS hTZ hK hP (hD0.addr (wLR_fst.trans wLR_fst.symm)) hS hA [0, 1, 2, 3, 4, 5, 6, 7, 8, 9, 10, 11, 12, 13, 14, 15, 16, 17, 18, 19, 20, 21, 22, 23, 24, 25, 26, 27, 28, 29, 30, 31, 32, 33, 34, 35, 36, 37, 38, 39, 40, 41, 42, 43, 44, 45, 46, 47, 48, 49, 50, 51, 52, 53, 54, 55, 56, 57, 58, 59, 60, 61, 62, 63, 64, 65, 66, 67, 68, 69, 70, 71, 72, 73, 74, 75, 76] (by decide +kernel) lC_a (pt_setid _ _ _ lC_a) ⟨Nat.le_of_ble_eq_true rfl, Nat.le_of_ble_eq_true rfl⟩
  · refine fn_V (v := none) (As := [.int x1]) (rest := []) (st1 := []) (ws' := (wLR X x0 hh ht ch tx y hy rP fP rT fT rG fG rL fL rH fH gi di re ti rPT fPT rTT fTT rGT fGT rLT fLT rHT fHT giT diT reT tiT rS fS rB fB rO fO pl fa cn ro Qh)) (nL := 3) ⟨hx, hb, hml, hown, hts⟩ (c_X5_requireThing l X x0 hh ht ch tx y hy rP fP rT fT rG fG rL fL rH fH gi di re ti rPT fPT rTT fTT rGT fGT rLT fLT rHT fHT giT diT reT tiT rS fS rB fB rO fO pl fa cn ro Qh x1 hc_1) (cwV 1 hts gX5_setMask_X5_requireThing rfl rfl rfl (by decide +kernel) ⟨Nat.le_of_ble_eq_true rfl, Nat.le_of_ble_eq_true rfl⟩) 5 rfl rfl rfl rfl hl.1 rfl (Nat.le_of_ble_eq_true rfl) dX5_setMask_2 hK hP (hD0.addr (wLR_fst.trans wLR_fst.symm)) hS hA [0, 1, 2, 3, 4, 5, 6, 7, 8, 9, 10, 11, 12, 13, 14, 15, 16, 17, 18, 19, 20, 21, 22, 23, 24, 25, 26, 27, 28, 29, 30, 31, 32, 33, 34, 35, 36, 37, 38, 39, 40, 41, 42, 43, 44, 45, 46, 47, 48, 49, 50, 51, 52, 53, 54, 55, 56, 57, 58, 59, 60, 61, 62, 63, 64, 65, 66, 67, 68, 69, 70, 71, 72, 73, 74, 75, 76] (by decide +kernel) lC_a (pt_setid _ _ _ lC_a) rfl ⟨Nat.zero_le _, Nat.zero_le _⟩ (fun H locs hP hD hS => ?_)
    refine lv_iload_n hx hb dX5_setMask_5 rfl (lv_at hl 2 rfl) ?_
    rcases bx_of hf with ⟨E_6, hc_4, hf⟩ | ⟨u_5, hc_4, hf⟩
    · cases hf
      exact tx_Sx (As := [.int x2]) (rest := []) (nL := 3) hne hlocks ⟨hx, hb, hml, hown, hts⟩ (c_X5_requireMask_x l hfl X x2 E hc_4) (va_cwS 1 hts gX5_setMask_X5_requireMask rfl rfl rfl (by decide +kernel) ⟨Nat.le_of_ble_eq_true rfl, Nat.le_of_ble_eq_true rfl⟩) rfl hl.1 rfl (Nat.le_of_ble_eq_true rfl) dX5_setMask_6 hTS hTZ hK hP (hD0.addr (wLR_fst.trans wLR_fst.symm)) hS hA [] (by decide +kernel) rfl (pt_setid _ _ _ rfl) ⟨Nat.le_of_ble_eq_true rfl, Nat.le_of_ble_eq_true rfl⟩
    · refine fn_Sx (v := none) (As := [.int x2]) (rest := []) (st1 := []) (ws' := (wLR X x0 hh ht ch tx y hy rP fP rT fT rG fG rL fL rH fH gi di re ti rPT fPT rTT fTT rGT fGT rLT fLT rHT fHT giT diT reT tiT rS fS rB fB rO fO pl fa cn ro Qh)) (nL := 3) ⟨hx, hb, hml, hown, hts⟩ (c_X5_requireMask l X x2 hc_4) (va_cwS 1 hts gX5_setMask_X5_requireMask rfl rfl rfl (by decide +kernel) ⟨Nat.le_of_ble_eq_true rfl, Nat.le_of_ble_eq_true rfl⟩) rfl hl.1 rfl (Nat.le_of_ble_eq_true rfl) dX5_setMask_6 hK hP (hD0.addr (wLR_fst.trans wLR_fst.symm)) hS hA [] (by decide +kernel) rfl (pt_setid _ _ _ rfl) rfl ⟨Nat.zero_le _, Nat.zero_le _⟩ (fun H locs hP hD hS => ?_)
      refine lv_aload_n hx hb dX5_setMask_9 rfl (lv_at hl 0 rfl) ?_
      refine va_get (D := X.1) (ci := 5) (v := .ref (y 0)) (C := RX5) (T := TX5) (N := 5) hx hb hts hiX5 hown hK.1 hP 0 rfl rfl 2 (by decide) k22 (fun _ h9 => h9) rfl dX5_setMask_10 ?_
      refine lv_aload_n hx hb dX5_setMask_13 rfl (lv_at hl 0 rfl) ?_
      refine va_get (D := X.1) (ci := 5) (v := .ref (hh 0)) (C := RX5) (T := TX5) (N := 5) hx hb hts hiX5 hown hK.1 hP 0 rfl rfl 0 (by decide) k10 (fun _ h9 => h9) rfl dX5_setMask_14 ?_
      obtain ⟨cn_7, ro_8, Qh_9, hc_10, hf⟩ := bd3_of hf
      refine fn_VJ (v := none) (As := [.ref (hh 0)]) (rest := []) (st1 := []) (ws' := (wLR X x0 hh ht ch tx y hy rP fP rT fT rG fG rL fL rH fH gi di re ti rPT fPT rTT fTT rGT fGT rLT fLT rHT fHT giT diT reT tiT rS fS rB fB rO fO pl fa cn_7 ro_8 Qh_9)) (nL := 3) ⟨hx, hb, hml, hown, hts⟩ (c_X1_keep l X y hy hh cn ro Qh rP fP rT fT rG fG rL fL rH fH gi di re ti cn_7 ro_8 Qh_9 hc_10) (cwV 1 hts gX5_setMask_X1_keep rfl rfl rfl (by decide +kernel) ⟨Nat.le_of_ble_eq_true rfl, Nat.le_of_ble_eq_true rfl⟩) 1 rfl rfl rfl rfl hl.1 rfl (Nat.le_of_ble_eq_true rfl) dX5_setMask_17 hK hP (hD0.addr (wLR_fst.trans wLR_fst.symm)) hS hA [31, 32, 33, 34, 35, 36, 37, 38, 39, 40, 41, 42, 43, 44, 45, 46, 47, 48, 49, 50, 51, 52, 53, 54, 55, 56, 57, 58, 59, 60, 61, 62, 63, 64, 65, 66, 67, 68, 69, 70, 71, 72, 73, 74, 75, 76, 1, 2, 3, 4, 5, 6, 7, 8, 9, 10, 11] (by decide +kernel) lC_ih lJ_ih (wLR_fst.trans wLR_fst.symm) rfl ⟨Nat.zero_le _, Nat.zero_le _⟩ (fun H locs hP hD hS => ?_)
      refine lv_aload_n hx hb dX5_setMask_20 rfl (lv_at hl 0 rfl) ?_
      refine va_get (D := X.1) (ci := 5) (v := .ref (hh 0)) (C := RX5) (T := TX5) (N := 5) hx hb hts hiX5 hown hK.1 hP 0 rfl rfl 0 (by decide) k10 (fun _ h9 => h9) rfl dX5_setMask_21 ?_
      refine lv_iload_n hx hb dX5_setMask_24 rfl (lv_at hl 1 rfl) ?_
      refine lv_iconst (v := 1) hx hb dX5_setMask_25 (by decide) ?_
      refine lv_iload_n hx hb dX5_setMask_26 rfl (lv_at hl 2 rfl) ?_
      obtain ⟨r_11, fT_12, fH_13, hc_14, hf⟩ := bd3_of hf
      refine fn_VJ (v := some (.int r_11)) (As := [.int x1, .int (1 : Int32), .int x2]) (rest := []) (st1 := [.int r_11]) (ws' := (wLR X x0 hh ht ch tx y hy rP fP rT fT_12 rG fG rL fL rH fH_13 gi di re ti rPT fPT rTT fTT rGT fGT rLT fLT rHT fHT giT diT reT tiT rS fS rB fB rO fO pl fa cn_7 ro_8 Qh_9)) (nL := 3) ⟨hx, hb, hml, hown, hts⟩ (c_X2_changeThing l X hh rP fP rT fT rG fG rL fL rH fH gi di re ti x1 (1 : Int32) x2 r_11 fT_12 fH_13 hc_14) (cwV 3 hts gX5_setMask_X2_changeThing rfl rfl rfl (by decide +kernel) ⟨Nat.le_of_ble_eq_true rfl, Nat.le_of_ble_eq_true rfl⟩) 2 rfl rfl rfl rfl hl.1 rfl (Nat.le_of_ble_eq_true rfl) dX5_setMask_27 hK hP (hD0.addr (wLR_fst.trans wLR_fst.symm)) hS hA [1, 2, 3, 4, 5, 6, 7, 8, 9, 10, 11] (by decide +kernel) lC_h lJ_h (wLR_fst.trans wLR_fst.symm) rfl ⟨Nat.zero_le _, Nat.zero_le _⟩ (fun H locs hP hD hS => ?_)
      cases hf

def f_X5_setBase (x1 : Int32) (x2 : Int32) (rP : Int32) (fP : (Nat → Int32)) (rT : Int32) (fT : (Nat → Int32)) (rG : Int32) (fG : (Nat → Int32)) (rL : Int32) (fL : (Nat → Int32)) (rH : Int32) (fH : (Nat → Int32)) (gi : Int32) (di : Int32) (re : Int32) (ti : Int32) (cn : Int32) (ro : Nat) (Qh : (Nat → HS)) : Option ((String × (Nat → Int32) × Int32 × Nat × (Nat → HS)) ⊕ (Int32 × (Nat → Int32) × Int32 × Nat × (Nat → HS))) :=
  bx (f_X5_requirePerson x1) (fun E_3 => some (.inl (E_3, fP, cn, ro, Qh))) (fun u_2 =>
  bx (f_X5_requireRange x2 (0 : Int32) (100 : Int32)) (fun E_6 => some (.inl (E_6, fP, cn, ro, Qh))) (fun u_5 =>
  bd3 (f_X1_keep cn ro Qh rP fP rT fT rG fG rL fL rH fH gi di re ti) (fun cn_7 ro_8 Qh_9 =>
  bd (f_X3_at (2 : Int32) 20 x1 (1 : Int32) rP fP) (fun r_11 =>
  bd (f_X3_put (2 : Int32) 20 x1 (1 : Int32) x2 rP fP) (fun fP_13 =>
  some (.inr (r_11, fP_13, cn_7, ro_8, Qh_9)))))))
set_option maxHeartbeats 4000000 in
set_option maxRecDepth 100000 in
theorem c_X5_setBase (l : Launch) (X : cx_G) (x0 : Nat) (hh : (Nat → Nat)) (ht : (Nat → Nat)) (ch : (Nat → Nat)) (tx : (Nat → Nat)) (y : (Nat → Nat)) (hy : (Nat → Nat → Nat)) (rP : Int32) (fP : (Nat → Int32)) (rT : Int32) (fT : (Nat → Int32)) (rG : Int32) (fG : (Nat → Int32)) (rL : Int32) (fL : (Nat → Int32)) (rH : Int32) (fH : (Nat → Int32)) (gi : Int32) (di : Int32) (re : Int32) (ti : Int32) (rPT : Int32) (fPT : (Nat → Int32)) (rTT : Int32) (fTT : (Nat → Int32)) (rGT : Int32) (fGT : (Nat → Int32)) (rLT : Int32) (fLT : (Nat → Int32)) (rHT : Int32) (fHT : (Nat → Int32)) (giT : Int32) (diT : Int32) (reT : Int32) (tiT : Int32) (rS : Int32) (fS : (Nat → Int32)) (rB : Int32) (fB : (Nat → Int32)) (rO : Int32) (fO : (Nat → Int32)) (pl : Int32) (fa : Int32) (cn : Int32) (ro : Nat) (Qh : (Nat → HS)) (x1 : Int32) (x2 : Int32) (r : Int32) (fP' : (Nat → Int32)) (cn' : Int32) (ro' : Nat) (Qh' : (Nat → HS)) (hf : f_X5_setBase x1 x2 rP fP rT fT rG fG rL fL rH fH gi di re ti cn ro Qh = some (.inr (r, fP', cn', ro', Qh'))) : Fn l yX5_setBase wsX5_setBase ({ frames := 3, cells := 0, slots := 0, locals := 65 } : Room) X [.ref (x0), .int x1, .int x2] (wLR X x0 hh ht ch tx y hy rP fP rT fT rG fG rL fL rH fH gi di re ti rPT fPT rTT fTT rGT fGT rLT fLT rHT fHT giT diT reT tiT rS fS rB fB rO fO pl fa cn ro Qh) (some (.int r)) (wLR X x0 hh ht ch tx y hy rP fP' rT fT rG fG rL fL rH fH gi di re ti rPT fPT rTT fTT rGT fGT rLT fLT rHT fHT giT diT reT tiT rS fS rB fB rO fO pl fa cn' ro' Qh') := by
  refine fn_intro (cc := cX5_setBase) (maxL := 4) (ret := (some .int)) (by decide) rfl (wLR_fst.trans wLR_fst.symm) (Nat.le_of_ble_eq_true rfl) ?_
  intro p e s m args below meth c A ls hx hb hml hr hts hown hlocks hK hP hD0 hS hA hl
  have hown : s.vm.findClass RX5 = some m.cls := hown
  have hl : lv_has ls 4 [(0, .ref (x0)), (1, .int x1), (2, .int x2)] := hl
  have hiX2 : ∀ w ∈ u_ws RX2 TX2 9, w ∈ wsX5_setBase := by decide +kernel
  have hiX5 : ∀ w ∈ u_ws RX5 TX5 5, w ∈ wsX5_setBase := by decide +kernel
  have k10 := hts (.fieldLink RX5 10 "LentRights" "house" "LLentRights$House;") (by decide +kernel)
  have k22 := hts (.fieldLink RX5 22 "LentRights" "history" "LLentRights$History;") (by decide +kernel)
  have k83 := hts (.fieldLink RX5 83 "LentRights$House" "persons" "LLentRights$Table;") (by decide +kernel)
  unfold f_X5_setBase at hf
  refine lv_iload_n hx hb dX5_setBase_0 rfl (lv_at hl 1 rfl) ?_
  rcases bx_of hf with ⟨E_3, hc_1, hf⟩ | ⟨u_2, hc_1, hf⟩
  · cases hf
  · refine fn_Sx (v := none) (As := [.int x1]) (rest := []) (st1 := []) (ws' := (wLR X x0 hh ht ch tx y hy rP fP rT fT rG fG rL fL rH fH gi di re ti rPT fPT rTT fTT rGT fGT rLT fLT rHT fHT giT diT reT tiT rS fS rB fB rO fO pl fa cn ro Qh)) (nL := 4) ⟨hx, hb, hml, hown, hts⟩ (c_X5_requirePerson l X x1 hc_1) (va_cwS 1 hts gX5_setBase_X5_requirePerson rfl rfl rfl (by decide +kernel) ⟨Nat.le_of_ble_eq_true rfl, Nat.le_of_ble_eq_true rfl⟩) rfl hl.1 rfl (Nat.le_of_ble_eq_true rfl) dX5_setBase_1 hK hP (hD0.addr (wLR_fst.trans wLR_fst.symm)) hS hA [] (by decide +kernel) rfl (pt_setid _ _ _ rfl) rfl ⟨Nat.zero_le _, Nat.zero_le _⟩ (fun H locs hP hD hS => ?_)
    refine lv_iload_n hx hb dX5_setBase_4 rfl (lv_at hl 2 rfl) ?_
    refine lv_iconst (v := 0) hx hb dX5_setBase_5 (by decide) ?_
    refine lv_bipush (v := 100) hx hb dX5_setBase_6 (by decide) ?_
    rcases bx_of hf with ⟨E_6, hc_4, hf⟩ | ⟨u_5, hc_4, hf⟩
    · cases hf
    · refine fn_Sx (v := none) (As := [.int x2, .int (0 : Int32), .int (100 : Int32)]) (rest := []) (st1 := []) (ws' := (wLR X x0 hh ht ch tx y hy rP fP rT fT rG fG rL fL rH fH gi di re ti rPT fPT rTT fTT rGT fGT rLT fLT rHT fHT giT diT reT tiT rS fS rB fB rO fO pl fa cn ro Qh)) (nL := 4) ⟨hx, hb, hml, hown, hts⟩ (c_X5_requireRange l X x2 (0 : Int32) (100 : Int32) hc_4) (va_cwS 3 hts gX5_setBase_X5_requireRange rfl rfl rfl (by decide +kernel) ⟨Nat.le_of_ble_eq_true rfl, Nat.le_of_ble_eq_true rfl⟩) rfl hl.1 rfl (Nat.le_of_ble_eq_true rfl) dX5_setBase_8 hK hP (hD0.addr (wLR_fst.trans wLR_fst.symm)) hS hA [] (by decide +kernel) rfl (pt_setid _ _ _ rfl) rfl ⟨Nat.zero_le _, Nat.zero_le _⟩ (fun H locs hP hD hS => ?_)
      refine lv_aload_n hx hb dX5_setBase_11 rfl (lv_at hl 0 rfl) ?_
      refine va_get (D := X.1) (ci := 5) (v := .ref (y 0)) (C := RX5) (T := TX5) (N := 5) hx hb hts hiX5 hown hK.1 hP 0 rfl rfl 2 (by decide) k22 (fun _ h9 => h9) rfl dX5_setBase_12 ?_
      refine lv_aload_n hx hb dX5_setBase_15 rfl (lv_at hl 0 rfl) ?_
      refine va_get (D := X.1) (ci := 5) (v := .ref (hh 0)) (C := RX5) (T := TX5) (N := 5) hx hb hts hiX5 hown hK.1 hP 0 rfl rfl 0 (by decide) k10 (fun _ h9 => h9) rfl dX5_setBase_16 ?_
      obtain ⟨cn_7, ro_8, Qh_9, hc_10, hf⟩ := bd3_of hf
      refine fn_VJ (v := none) (As := [.ref (hh 0)]) (rest := []) (st1 := []) (ws' := (wLR X x0 hh ht ch tx y hy rP fP rT fT rG fG rL fL rH fH gi di re ti rPT fPT rTT fTT rGT fGT rLT fLT rHT fHT giT diT reT tiT rS fS rB fB rO fO pl fa cn_7 ro_8 Qh_9)) (nL := 4) ⟨hx, hb, hml, hown, hts⟩ (c_X1_keep l X y hy hh cn ro Qh rP fP rT fT rG fG rL fL rH fH gi di re ti cn_7 ro_8 Qh_9 hc_10) (cwV 1 hts gX5_setBase_X1_keep rfl rfl rfl (by decide +kernel) ⟨Nat.le_of_ble_eq_true rfl, Nat.le_of_ble_eq_true rfl⟩) 1 rfl rfl rfl rfl hl.1 rfl (Nat.le_of_ble_eq_true rfl) dX5_setBase_19 hK hP (hD0.addr (wLR_fst.trans wLR_fst.symm)) hS hA [31, 32, 33, 34, 35, 36, 37, 38, 39, 40, 41, 42, 43, 44, 45, 46, 47, 48, 49, 50, 51, 52, 53, 54, 55, 56, 57, 58, 59, 60, 61, 62, 63, 64, 65, 66, 67, 68, 69, 70, 71, 72, 73, 74, 75, 76, 1, 2, 3, 4, 5, 6, 7, 8, 9, 10, 11] (by decide +kernel) lC_ih lJ_ih (wLR_fst.trans wLR_fst.symm) rfl ⟨Nat.zero_le _, Nat.zero_le _⟩ (fun H locs hP hD hS => ?_)
      refine lv_aload_n hx hb dX5_setBase_22 rfl (lv_at hl 0 rfl) ?_
      refine va_get (D := X.1) (ci := 5) (v := .ref (hh 0)) (C := RX5) (T := TX5) (N := 5) hx hb hts hiX5 hown hK.1 hP 0 rfl rfl 0 (by decide) k10 (fun _ h9 => h9) rfl dX5_setBase_23 ?_
      refine va_get (D := X.1) (ci := 2) (v := .ref (hh 1)) (C := RX2) (T := TX2) (N := 9) hx hb hts hiX2 hown hK.1 hP 1 rfl rfl 0 (by decide) k83 (fun _ h9 => h9) rfl dX5_setBase_26 ?_
      refine lv_iload_n hx hb dX5_setBase_29 rfl (lv_at hl 1 rfl) ?_
      refine lv_iconst (v := 1) hx hb dX5_setBase_30 (by decide) ?_
      obtain ⟨r_11, hc_12, hf⟩ := bd_of hf
      refine fn_V (v := some (.int r_11)) (As := [.int x1, .int (1 : Int32)]) (rest := []) (st1 := [.int r_11]) (ws' := (wLR X x0 hh ht ch tx y hy rP fP rT fT rG fG rL fL rH fH gi di re ti rPT fPT rTT fTT rGT fGT rLT fLT rHT fHT giT diT reT tiT rS fS rB fB rO fO pl fa cn_7 ro_8 Qh_9)) (nL := 4) ⟨hx, hb, hml, hown, hts⟩ (c_X3_at l X (hh 1) (hh 2) (10 : Int32) (2 : Int32) 20 rP fP x1 (1 : Int32) r_11 hc_12) (cwV 2 hts gX5_setBase_X3_at rfl rfl rfl (by decide +kernel) ⟨Nat.le_of_ble_eq_true rfl, Nat.le_of_ble_eq_true rfl⟩) 3 rfl rfl rfl rfl hl.1 rfl (Nat.le_of_ble_eq_true rfl) dX5_setBase_31 hK hP (hD0.addr (wLR_fst.trans wLR_fst.symm)) hS hA [2, 3] (by decide +kernel) rfl (pt_setid _ _ _ rfl) rfl ⟨Nat.zero_le _, Nat.zero_le _⟩ (fun H locs hP hD hS => ?_)
      refine lv_istore_n (lv' := [(3, .int r_11), (0, .ref (x0)), (1, .int x1), (2, .int x2)]) hx hb dX5_setBase_34 rfl hl (by decide) rfl (fun ls hl => ?_)
      refine lv_aload_n hx hb dX5_setBase_35 rfl (lv_at hl 1 rfl) ?_
      refine va_get (D := X.1) (ci := 5) (v := .ref (hh 0)) (C := RX5) (T := TX5) (N := 5) hx hb hts hiX5 hown hK.1 hP 0 rfl rfl 0 (by decide) k10 (fun _ h9 => h9) rfl dX5_setBase_36 ?_
      refine va_get (D := X.1) (ci := 2) (v := .ref (hh 1)) (C := RX2) (T := TX2) (N := 9) hx hb hts hiX2 hown hK.1 hP 1 rfl rfl 0 (by decide) k83 (fun _ h9 => h9) rfl dX5_setBase_39 ?_
      refine lv_iload_n hx hb dX5_setBase_42 rfl (lv_at hl 2 rfl) ?_
      refine lv_iconst (v := 1) hx hb dX5_setBase_43 (by decide) ?_
      refine lv_iload_n hx hb dX5_setBase_44 rfl (lv_at hl 3 rfl) ?_
      obtain ⟨fP_13, hc_14, hf⟩ := bd_of hf
      refine fn_VJ (v := none) (As := [.int x1, .int (1 : Int32), .int x2]) (rest := []) (st1 := []) (ws' := (wLR X x0 hh ht ch tx y hy rP fP_13 rT fT rG fG rL fL rH fH gi di re ti rPT fPT rTT fTT rGT fGT rLT fLT rHT fHT giT diT reT tiT rS fS rB fB rO fO pl fa cn_7 ro_8 Qh_9)) (nL := 4) ⟨hx, hb, hml, hown, hts⟩ (c_X3_put l X (hh 1) (hh 2) (10 : Int32) (2 : Int32) 20 rP fP x1 (1 : Int32) x2 fP_13 hc_14) (cwV 3 hts gX5_setBase_X3_put rfl rfl rfl (by decide +kernel) ⟨Nat.le_of_ble_eq_true rfl, Nat.le_of_ble_eq_true rfl⟩) 3 rfl rfl rfl rfl hl.1 rfl (Nat.le_of_ble_eq_true rfl) dX5_setBase_45 hK hP (hD0.addr (wLR_fst.trans wLR_fst.symm)) hS hA [2, 3] (by decide +kernel) rfl lJ_p (wLR_fst.trans wLR_fst.symm) rfl ⟨Nat.zero_le _, Nat.zero_le _⟩ (fun H locs hP hD hS => ?_)
      refine lv_iload_n hx hb dX5_setBase_48 rfl (lv_at hl 0 rfl) ?_
      cases hf
      exact fn_iret hx hb hr hlocks hP hS dX5_setBase_49
set_option maxHeartbeats 4000000 in
set_option maxRecDepth 100000 in
theorem c_X5_setBase_x (l : Launch) (hfl : l.stackTraces = false) (X : cx_G) (x0 : Nat) (hh : (Nat → Nat)) (ht : (Nat → Nat)) (ch : (Nat → Nat)) (tx : (Nat → Nat)) (y : (Nat → Nat)) (hy : (Nat → Nat → Nat)) (rP : Int32) (fP : (Nat → Int32)) (rT : Int32) (fT : (Nat → Int32)) (rG : Int32) (fG : (Nat → Int32)) (rL : Int32) (fL : (Nat → Int32)) (rH : Int32) (fH : (Nat → Int32)) (gi : Int32) (di : Int32) (re : Int32) (ti : Int32) (rPT : Int32) (fPT : (Nat → Int32)) (rTT : Int32) (fTT : (Nat → Int32)) (rGT : Int32) (fGT : (Nat → Int32)) (rLT : Int32) (fLT : (Nat → Int32)) (rHT : Int32) (fHT : (Nat → Int32)) (giT : Int32) (diT : Int32) (reT : Int32) (tiT : Int32) (rS : Int32) (fS : (Nat → Int32)) (rB : Int32) (fB : (Nat → Int32)) (rO : Int32) (fO : (Nat → Int32)) (pl : Int32) (fa : Int32) (cn : Int32) (ro : Nat) (Qh : (Nat → HS)) (x1 : Int32) (x2 : Int32) (E : String) (fP' : (Nat → Int32)) (cn' : Int32) (ro' : Nat) (Qh' : (Nat → HS)) (hf : f_X5_setBase x1 x2 rP fP rT fT rG fG rL fL rH fH gi di re ti cn ro Qh = some (.inl (E, fP', cn', ro', Qh'))) : Tx l yX5_setBase wsX5_setBase ({ frames := 7, cells := 1, slots := 6, locals := 112 } : Room) X [.ref (x0), .int x1, .int x2] (wLR X x0 hh ht ch tx y hy rP fP rT fT rG fG rL fL rH fH gi di re ti rPT fPT rTT fTT rGT fGT rLT fLT rHT fHT giT diT reT tiT rS fS rB fB rO fO pl fa cn ro Qh) E (wLR X x0 hh ht ch tx y hy rP fP' rT fT rG fG rL fL rH fH gi di re ti rPT fPT rTT fTT rGT fGT rLT fLT rHT fHT giT diT reT tiT rS fS rB fB rO fO pl fa cn' ro' Qh') := by
  refine tx_intro (cc := cX5_setBase) (maxL := 4) (ret := (some .int)) (by decide) rfl (wLR_fst.trans wLR_fst.symm) (Nat.le_of_ble_eq_true rfl) ?_
  intro p e s m args below meth c A ls hx hb hml hr hts hown hlocks hne hK hP hD0 hS hA hTS hTZ hl
  have hown : s.vm.findClass RX5 = some m.cls := hown
  have hl : lv_has ls 4 [(0, .ref (x0)), (1, .int x1), (2, .int x2)] := hl
  have hiX2 : ∀ w ∈ u_ws RX2 TX2 9, w ∈ wsX5_setBase := by decide +kernel
  have hiX5 : ∀ w ∈ u_ws RX5 TX5 5, w ∈ wsX5_setBase := by decide +kernel
  have k10 := hts (.fieldLink RX5 10 "LentRights" "house" "LLentRights$House;") (by decide +kernel)
  have k22 := hts (.fieldLink RX5 22 "LentRights" "history" "LLentRights$History;") (by decide +kernel)
  have k83 := hts (.fieldLink RX5 83 "LentRights$House" "persons" "LLentRights$Table;") (by decide +kernel)
  unfold f_X5_setBase at hf
  refine lv_iload_n hx hb dX5_setBase_0 rfl (lv_at hl 1 rfl) ?_
  rcases bx_of hf with ⟨E_3, hc_1, hf⟩ | ⟨u_2, hc_1, hf⟩
  · cases hf
    exact tx_Sx (As := [.int x1]) (rest := []) (nL := 4) hne hlocks ⟨hx, hb, hml, hown, hts⟩ (c_X5_requirePerson_x l hfl X x1 E hc_1) (va_cwS 1 hts gX5_setBase_X5_requirePerson rfl rfl rfl (by decide +kernel) ⟨Nat.le_of_ble_eq_true rfl, Nat.le_of_ble_eq_true rfl⟩) rfl hl.1 rfl (Nat.le_of_ble_eq_true rfl) dX5_setBase_1 hTS hTZ hK hP (hD0.addr (wLR_fst.trans wLR_fst.symm)) hS hA [] (by decide +kernel) rfl (pt_setid _ _ _ rfl) ⟨Nat.le_of_ble_eq_true rfl, Nat.le_of_ble_eq_true rfl⟩
  · refine fn_Sx (v := none) (As := [.int x1]) (rest := []) (st1 := []) (ws' := (wLR X x0 hh ht ch tx y hy rP fP rT fT rG fG rL fL rH fH gi di re ti rPT fPT rTT fTT rGT fGT rLT fLT rHT fHT giT diT reT tiT rS fS rB fB rO fO pl fa cn ro Qh)) (nL := 4) ⟨hx, hb, hml, hown, hts⟩ (c_X5_requirePerson l X x1 hc_1) (va_cwS 1 hts gX5_setBase_X5_requirePerson rfl rfl rfl (by decide +kernel) ⟨Nat.le_of_ble_eq_true rfl, Nat.le_of_ble_eq_true rfl⟩) rfl hl.1 rfl (Nat.le_of_ble_eq_true rfl) dX5_setBase_1 hK hP (hD0.addr (wLR_fst.trans wLR_fst.symm)) hS hA [] (by decide +kernel) rfl (pt_setid _ _ _ rfl) rfl ⟨Nat.zero_le _, Nat.zero_le _⟩ (fun H locs hP hD hS => ?_)
    refine lv_iload_n hx hb dX5_setBase_4 rfl (lv_at hl 2 rfl) ?_
    refine lv_iconst (v := 0) hx hb dX5_setBase_5 (by decide) ?_
    refine lv_bipush (v := 100) hx hb dX5_setBase_6 (by decide) ?_
    rcases bx_of hf with ⟨E_6, hc_4, hf⟩ | ⟨u_5, hc_4, hf⟩
    · cases hf
      exact tx_Sx (As := [.int x2, .int (0 : Int32), .int (100 : Int32)]) (rest := []) (nL := 4) hne hlocks ⟨hx, hb, hml, hown, hts⟩ (c_X5_requireRange_x l hfl X x2 (0 : Int32) (100 : Int32) E hc_4) (va_cwS 3 hts gX5_setBase_X5_requireRange rfl rfl rfl (by decide +kernel) ⟨Nat.le_of_ble_eq_true rfl, Nat.le_of_ble_eq_true rfl⟩) rfl hl.1 rfl (Nat.le_of_ble_eq_true rfl) dX5_setBase_8 hTS hTZ hK hP (hD0.addr (wLR_fst.trans wLR_fst.symm)) hS hA [] (by decide +kernel) rfl (pt_setid _ _ _ rfl) ⟨Nat.le_of_ble_eq_true rfl, Nat.le_of_ble_eq_true rfl⟩
    · refine fn_Sx (v := none) (As := [.int x2, .int (0 : Int32), .int (100 : Int32)]) (rest := []) (st1 := []) (ws' := (wLR X x0 hh ht ch tx y hy rP fP rT fT rG fG rL fL rH fH gi di re ti rPT fPT rTT fTT rGT fGT rLT fLT rHT fHT giT diT reT tiT rS fS rB fB rO fO pl fa cn ro Qh)) (nL := 4) ⟨hx, hb, hml, hown, hts⟩ (c_X5_requireRange l X x2 (0 : Int32) (100 : Int32) hc_4) (va_cwS 3 hts gX5_setBase_X5_requireRange rfl rfl rfl (by decide +kernel) ⟨Nat.le_of_ble_eq_true rfl, Nat.le_of_ble_eq_true rfl⟩) rfl hl.1 rfl (Nat.le_of_ble_eq_true rfl) dX5_setBase_8 hK hP (hD0.addr (wLR_fst.trans wLR_fst.symm)) hS hA [] (by decide +kernel) rfl (pt_setid _ _ _ rfl) rfl ⟨Nat.zero_le _, Nat.zero_le _⟩ (fun H locs hP hD hS => ?_)
      refine lv_aload_n hx hb dX5_setBase_11 rfl (lv_at hl 0 rfl) ?_
      refine va_get (D := X.1) (ci := 5) (v := .ref (y 0)) (C := RX5) (T := TX5) (N := 5) hx hb hts hiX5 hown hK.1 hP 0 rfl rfl 2 (by decide) k22 (fun _ h9 => h9) rfl dX5_setBase_12 ?_
      refine lv_aload_n hx hb dX5_setBase_15 rfl (lv_at hl 0 rfl) ?_
      refine va_get (D := X.1) (ci := 5) (v := .ref (hh 0)) (C := RX5) (T := TX5) (N := 5) hx hb hts hiX5 hown hK.1 hP 0 rfl rfl 0 (by decide) k10 (fun _ h9 => h9) rfl dX5_setBase_16 ?_
      obtain ⟨cn_7, ro_8, Qh_9, hc_10, hf⟩ := bd3_of hf
      refine fn_VJ (v := none) (As := [.ref (hh 0)]) (rest := []) (st1 := []) (ws' := (wLR X x0 hh ht ch tx y hy rP fP rT fT rG fG rL fL rH fH gi di re ti rPT fPT rTT fTT rGT fGT rLT fLT rHT fHT giT diT reT tiT rS fS rB fB rO fO pl fa cn_7 ro_8 Qh_9)) (nL := 4) ⟨hx, hb, hml, hown, hts⟩ (c_X1_keep l X y hy hh cn ro Qh rP fP rT fT rG fG rL fL rH fH gi di re ti cn_7 ro_8 Qh_9 hc_10) (cwV 1 hts gX5_setBase_X1_keep rfl rfl rfl (by decide +kernel) ⟨Nat.le_of_ble_eq_true rfl, Nat.le_of_ble_eq_true rfl⟩) 1 rfl rfl rfl rfl hl.1 rfl (Nat.le_of_ble_eq_true rfl) dX5_setBase_19 hK hP (hD0.addr (wLR_fst.trans wLR_fst.symm)) hS hA [31, 32, 33, 34, 35, 36, 37, 38, 39, 40, 41, 42, 43, 44, 45, 46, 47, 48, 49, 50, 51, 52, 53, 54, 55, 56, 57, 58, 59, 60, 61, 62, 63, 64, 65, 66, 67, 68, 69, 70, 71, 72, 73, 74, 75, 76, 1, 2, 3, 4, 5, 6, 7, 8, 9, 10, 11] (by decide +kernel) lC_ih lJ_ih (wLR_fst.trans wLR_fst.symm) rfl ⟨Nat.zero_le _, Nat.zero_le _⟩ (fun H locs hP hD hS => ?_)
      refine lv_aload_n hx hb dX5_setBase_22 rfl (lv_at hl 0 rfl) ?_
      refine va_get (D := X.1) (ci := 5) (v := .ref (hh 0)) (C := RX5) (T := TX5) (N := 5) hx hb hts hiX5 hown hK.1 hP 0 rfl rfl 0 (by decide) k10 (fun _ h9 => h9) rfl dX5_setBase_23 ?_
      refine va_get (D := X.1) (ci := 2) (v := .ref (hh 1)) (C := RX2) (T := TX2) (N := 9) hx hb hts hiX2 hown hK.1 hP 1 rfl rfl 0 (by decide) k83 (fun _ h9 => h9) rfl dX5_setBase_26 ?_
      refine lv_iload_n hx hb dX5_setBase_29 rfl (lv_at hl 1 rfl) ?_
      refine lv_iconst (v := 1) hx hb dX5_setBase_30 (by decide) ?_
      obtain ⟨r_11, hc_12, hf⟩ := bd_of hf
      refine fn_V (v := some (.int r_11)) (As := [.int x1, .int (1 : Int32)]) (rest := []) (st1 := [.int r_11]) (ws' := (wLR X x0 hh ht ch tx y hy rP fP rT fT rG fG rL fL rH fH gi di re ti rPT fPT rTT fTT rGT fGT rLT fLT rHT fHT giT diT reT tiT rS fS rB fB rO fO pl fa cn_7 ro_8 Qh_9)) (nL := 4) ⟨hx, hb, hml, hown, hts⟩ (c_X3_at l X (hh 1) (hh 2) (10 : Int32) (2 : Int32) 20 rP fP x1 (1 : Int32) r_11 hc_12) (cwV 2 hts gX5_setBase_X3_at rfl rfl rfl (by decide +kernel) ⟨Nat.le_of_ble_eq_true rfl, Nat.le_of_ble_eq_true rfl⟩) 3 rfl rfl rfl rfl hl.1 rfl (Nat.le_of_ble_eq_true rfl) dX5_setBase_31 hK hP (hD0.addr (wLR_fst.trans wLR_fst.symm)) hS hA [2, 3] (by decide +kernel) rfl (pt_setid _ _ _ rfl) rfl ⟨Nat.zero_le _, Nat.zero_le _⟩ (fun H locs hP hD hS => ?_)
      refine lv_istore_n (lv' := [(3, .int r_11), (0, .ref (x0)), (1, .int x1), (2, .int x2)]) hx hb dX5_setBase_34 rfl hl (by decide) rfl (fun ls hl => ?_)
      refine lv_aload_n hx hb dX5_setBase_35 rfl (lv_at hl 1 rfl) ?_
      refine va_get (D := X.1) (ci := 5) (v := .ref (hh 0)) (C := RX5) (T := TX5) (N := 5) hx hb hts hiX5 hown hK.1 hP 0 rfl rfl 0 (by decide) k10 (fun _ h9 => h9) rfl dX5_setBase_36 ?_
      refine va_get (D := X.1) (ci := 2) (v := .ref (hh 1)) (C := RX2) (T := TX2) (N := 9) hx hb hts hiX2 hown hK.1 hP 1 rfl rfl 0 (by decide) k83 (fun _ h9 => h9) rfl dX5_setBase_39 ?_
      refine lv_iload_n hx hb dX5_setBase_42 rfl (lv_at hl 2 rfl) ?_
      refine lv_iconst (v := 1) hx hb dX5_setBase_43 (by decide) ?_
      refine lv_iload_n hx hb dX5_setBase_44 rfl (lv_at hl 3 rfl) ?_
      obtain ⟨fP_13, hc_14, hf⟩ := bd_of hf
      refine fn_VJ (v := none) (As := [.int x1, .int (1 : Int32), .int x2]) (rest := []) (st1 := []) (ws' := (wLR X x0 hh ht ch tx y hy rP fP_13 rT fT rG fG rL fL rH fH gi di re ti rPT fPT rTT fTT rGT fGT rLT fLT rHT fHT giT diT reT tiT rS fS rB fB rO fO pl fa cn_7 ro_8 Qh_9)) (nL := 4) ⟨hx, hb, hml, hown, hts⟩ (c_X3_put l X (hh 1) (hh 2) (10 : Int32) (2 : Int32) 20 rP fP x1 (1 : Int32) x2 fP_13 hc_14) (cwV 3 hts gX5_setBase_X3_put rfl rfl rfl (by decide +kernel) ⟨Nat.le_of_ble_eq_true rfl, Nat.le_of_ble_eq_true rfl⟩) 3 rfl rfl rfl rfl hl.1 rfl (Nat.le_of_ble_eq_true rfl) dX5_setBase_45 hK hP (hD0.addr (wLR_fst.trans wLR_fst.symm)) hS hA [2, 3] (by decide +kernel) rfl lJ_p (wLR_fst.trans wLR_fst.symm) rfl ⟨Nat.zero_le _, Nat.zero_le _⟩ (fun H locs hP hD hS => ?_)
      refine lv_iload_n hx hb dX5_setBase_48 rfl (lv_at hl 0 rfl) ?_
      cases hf

def f_X5_give (x1 : Int32) (x2 : Int32) (rP : Int32) (fP : (Nat → Int32)) (rT : Int32) (fT : (Nat → Int32)) (rG : Int32) (fG : (Nat → Int32)) (rL : Int32) (fL : (Nat → Int32)) (rH : Int32) (fH : (Nat → Int32)) (gi : Int32) (di : Int32) (re : Int32) (ti : Int32) (cn : Int32) (ro : Nat) (Qh : (Nat → HS)) : Option ((String × (Nat → Int32) × (Nat → Int32) × Int32 × Nat × (Nat → HS)) ⊕ (Int32 × (Nat → Int32) × (Nat → Int32) × Int32 × Nat × (Nat → HS))) :=
  bx (f_X5_requirePerson x2) (fun E_3 => some (.inl (E_3, fT, fH, cn, ro, Qh))) (fun u_2 =>
  bx (f_X5_requireThing x1 rT) (fun E_6 => some (.inl (E_6, fT, fH, cn, ro, Qh))) (fun u_5 =>
  bd3 (f_X1_keep cn ro Qh rP fP rT fT rG fG rL fL rH fH gi di re ti) (fun cn_7 ro_8 Qh_9 =>
  bd3 (f_X2_changeThing x1 (0 : Int32) x2 rT fT rG fG rH fH) (fun r_11 fT_12 fH_13 =>
  some (.inr (r_11, fT_12, fH_13, cn_7, ro_8, Qh_9))))))
set_option maxHeartbeats 4000000 in
set_option maxRecDepth 100000 in
theorem c_X5_give (l : Launch) (X : cx_G) (x0 : Nat) (hh : (Nat → Nat)) (ht : (Nat → Nat)) (ch : (Nat → Nat)) (tx : (Nat → Nat)) (y : (Nat → Nat)) (hy : (Nat → Nat → Nat)) (rP : Int32) (fP : (Nat → Int32)) (rT : Int32) (fT : (Nat → Int32)) (rG : Int32) (fG : (Nat → Int32)) (rL : Int32) (fL : (Nat → Int32)) (rH : Int32) (fH : (Nat → Int32)) (gi : Int32) (di : Int32) (re : Int32) (ti : Int32) (rPT : Int32) (fPT : (Nat → Int32)) (rTT : Int32) (fTT : (Nat → Int32)) (rGT : Int32) (fGT : (Nat → Int32)) (rLT : Int32) (fLT : (Nat → Int32)) (rHT : Int32) (fHT : (Nat → Int32)) (giT : Int32) (diT : Int32) (reT : Int32) (tiT : Int32) (rS : Int32) (fS : (Nat → Int32)) (rB : Int32) (fB : (Nat → Int32)) (rO : Int32) (fO : (Nat → Int32)) (pl : Int32) (fa : Int32) (cn : Int32) (ro : Nat) (Qh : (Nat → HS)) (x1 : Int32) (x2 : Int32) (r : Int32) (fT' : (Nat → Int32)) (fH' : (Nat → Int32)) (cn' : Int32) (ro' : Nat) (Qh' : (Nat → HS)) (hf : f_X5_give x1 x2 rP fP rT fT rG fG rL fL rH fH gi di re ti cn ro Qh = some (.inr (r, fT', fH', cn', ro', Qh'))) : Fn l yX5_give wsX5_give ({ frames := 4, cells := 0, slots := 0, locals := 98 } : Room) X [.ref (x0), .int x1, .int x2] (wLR X x0 hh ht ch tx y hy rP fP rT fT rG fG rL fL rH fH gi di re ti rPT fPT rTT fTT rGT fGT rLT fLT rHT fHT giT diT reT tiT rS fS rB fB rO fO pl fa cn ro Qh) (some (.int r)) (wLR X x0 hh ht ch tx y hy rP fP rT fT' rG fG rL fL rH fH' gi di re ti rPT fPT rTT fTT rGT fGT rLT fLT rHT fHT giT diT reT tiT rS fS rB fB rO fO pl fa cn' ro' Qh') := by
  refine fn_intro (cc := cX5_give) (maxL := 3) (ret := (some .int)) (by decide) rfl (wLR_fst.trans wLR_fst.symm) (Nat.le_of_ble_eq_true rfl) ?_
  intro p e s m args below meth c A ls hx hb hml hr hts hown hlocks hK hP hD0 hS hA hl
  have hown : s.vm.findClass RX5 = some m.cls := hown
  have hl : lv_has ls 3 [(0, .ref (x0)), (1, .int x1), (2, .int x2)] := hl
  have hiX5 : ∀ w ∈ u_ws RX5 TX5 5, w ∈ wsX5_give := by decide +kernel
  have k10 := hts (.fieldLink RX5 10 "LentRights" "house" "LLentRights$House;") (by decide +kernel)
  have k22 := hts (.fieldLink RX5 22 "LentRights" "history" "LLentRights$History;") (by decide +kernel)
  unfold f_X5_give at hf
  refine lv_iload_n hx hb dX5_give_0 rfl (lv_at hl 2 rfl) ?_
  rcases bx_of hf with ⟨E_3, hc_1, hf⟩ | ⟨u_2, hc_1, hf⟩
  · cases hf
  · refine fn_Sx (v := none) (As := [.int x2]) (rest := []) (st1 := []) (ws' := (wLR X x0 hh ht ch tx y hy rP fP rT fT rG fG rL fL rH fH gi di re ti rPT fPT rTT fTT rGT fGT rLT fLT rHT fHT giT diT reT tiT rS fS rB fB rO fO pl fa cn ro Qh)) (nL := 3) ⟨hx, hb, hml, hown, hts⟩ (c_X5_requirePerson l X x2 hc_1) (va_cwS 1 hts gX5_give_X5_requirePerson rfl rfl rfl (by decide +kernel) ⟨Nat.le_of_ble_eq_true rfl, Nat.le_of_ble_eq_true rfl⟩) rfl hl.1 rfl (Nat.le_of_ble_eq_true rfl) dX5_give_1 hK hP (hD0.addr (wLR_fst.trans wLR_fst.symm)) hS hA [] (by decide +kernel) rfl (pt_setid _ _ _ rfl) rfl ⟨Nat.zero_le _, Nat.zero_le _⟩ (fun H locs hP hD hS => ?_)
    refine lv_aload_n hx hb dX5_give_4 rfl (lv_at hl 0 rfl) ?_
    refine lv_iload_n hx hb dX5_give_5 rfl (lv_at hl 1 rfl) ?_
    rcases bx_of hf with ⟨E_6, hc_4, hf⟩ | ⟨u_5, hc_4, hf⟩
    · cases hf
    · refine fn_V (v := none) (As := [.int x1]) (rest := []) (st1 := []) (ws' := (wLR X x0 hh ht ch tx y hy rP fP rT fT rG fG rL fL rH fH gi di re ti rPT fPT rTT fTT rGT fGT rLT fLT rHT fHT giT diT reT tiT rS fS rB fB rO fO pl fa cn ro Qh)) (nL := 3) ⟨hx, hb, hml, hown, hts⟩ (c_X5_requireThing l X x0 hh ht ch tx y hy rP fP rT fT rG fG rL fL rH fH gi di re ti rPT fPT rTT fTT rGT fGT rLT fLT rHT fHT giT diT reT tiT rS fS rB fB rO fO pl fa cn ro Qh x1 hc_4) (cwV 1 hts gX5_give_X5_requireThing rfl rfl rfl (by decide +kernel) ⟨Nat.le_of_ble_eq_true rfl, Nat.le_of_ble_eq_true rfl⟩) 5 rfl rfl rfl rfl hl.1 rfl (Nat.le_of_ble_eq_true rfl) dX5_give_6 hK hP (hD0.addr (wLR_fst.trans wLR_fst.symm)) hS hA [0, 1, 2, 3, 4, 5, 6, 7, 8, 9, 10, 11, 12, 13, 14, 15, 16, 17, 18, 19, 20, 21, 22, 23, 24, 25, 26, 27, 28, 29, 30, 31, 32, 33, 34, 35, 36, 37, 38, 39, 40, 41, 42, 43, 44, 45, 46, 47, 48, 49, 50, 51, 52, 53, 54, 55, 56, 57, 58, 59, 60, 61, 62, 63, 64, 65, 66, 67, 68, 69, 70, 71, 72, 73, 74, 75, 76] (by decide +kernel) lC_a (pt_setid _ _ _ lC_a) rfl ⟨Nat.zero_le _, Nat.zero_le _⟩ (fun H locs hP hD hS => ?_)
      refine lv_aload_n hx hb dX5_give_9 rfl (lv_at hl 0 rfl) ?_
      refine va_get (D := X.1) (ci := 5) (v := .ref (y 0)) (C := RX5) (T := TX5) (N := 5) hx hb hts hiX5 hown hK.1 hP 0 rfl rfl 2 (by decide) k22 (fun _ h9 => h9) rfl dX5_give_10 ?_
      refine lv_aload_n hx hb dX5_give_13 rfl (lv_at hl 0 rfl) ?_
      refine va_get (D := X.1) (ci := 5) (v := .ref (hh 0)) (C := RX5) (T := TX5) (N := 5) hx hb hts hiX5 hown hK.1 hP 0 rfl rfl 0 (by decide) k10 (fun _ h9 => h9) rfl dX5_give_14 ?_
      obtain ⟨cn_7, ro_8, Qh_9, hc_10, hf⟩ := bd3_of hf
      refine fn_VJ (v := none) (As := [.ref (hh 0)]) (rest := []) (st1 := []) (ws' := (wLR X x0 hh ht ch tx y hy rP fP rT fT rG fG rL fL rH fH gi di re ti rPT fPT rTT fTT rGT fGT rLT fLT rHT fHT giT diT reT tiT rS fS rB fB rO fO pl fa cn_7 ro_8 Qh_9)) (nL := 3) ⟨hx, hb, hml, hown, hts⟩ (c_X1_keep l X y hy hh cn ro Qh rP fP rT fT rG fG rL fL rH fH gi di re ti cn_7 ro_8 Qh_9 hc_10) (cwV 1 hts gX5_give_X1_keep rfl rfl rfl (by decide +kernel) ⟨Nat.le_of_ble_eq_true rfl, Nat.le_of_ble_eq_true rfl⟩) 1 rfl rfl rfl rfl hl.1 rfl (Nat.le_of_ble_eq_true rfl) dX5_give_17 hK hP (hD0.addr (wLR_fst.trans wLR_fst.symm)) hS hA [31, 32, 33, 34, 35, 36, 37, 38, 39, 40, 41, 42, 43, 44, 45, 46, 47, 48, 49, 50, 51, 52, 53, 54, 55, 56, 57, 58, 59, 60, 61, 62, 63, 64, 65, 66, 67, 68, 69, 70, 71, 72, 73, 74, 75, 76, 1, 2, 3, 4, 5, 6, 7, 8, 9, 10, 11] (by decide +kernel) lC_ih lJ_ih (wLR_fst.trans wLR_fst.symm) rfl ⟨Nat.zero_le _, Nat.zero_le _⟩ (fun H locs hP hD hS => ?_)
      refine lv_aload_n hx hb dX5_give_20 rfl (lv_at hl 0 rfl) ?_
      refine va_get (D := X.1) (ci := 5) (v := .ref (hh 0)) (C := RX5) (T := TX5) (N := 5) hx hb hts hiX5 hown hK.1 hP 0 rfl rfl 0 (by decide) k10 (fun _ h9 => h9) rfl dX5_give_21 ?_
      refine lv_iload_n hx hb dX5_give_24 rfl (lv_at hl 1 rfl) ?_
      refine lv_iconst (v := 0) hx hb dX5_give_25 (by decide) ?_
      refine lv_iload_n hx hb dX5_give_26 rfl (lv_at hl 2 rfl) ?_
      obtain ⟨r_11, fT_12, fH_13, hc_14, hf⟩ := bd3_of hf
      refine fn_VJ (v := some (.int r_11)) (As := [.int x1, .int (0 : Int32), .int x2]) (rest := []) (st1 := [.int r_11]) (ws' := (wLR X x0 hh ht ch tx y hy rP fP rT fT_12 rG fG rL fL rH fH_13 gi di re ti rPT fPT rTT fTT rGT fGT rLT fLT rHT fHT giT diT reT tiT rS fS rB fB rO fO pl fa cn_7 ro_8 Qh_9)) (nL := 3) ⟨hx, hb, hml, hown, hts⟩ (c_X2_changeThing l X hh rP fP rT fT rG fG rL fL rH fH gi di re ti x1 (0 : Int32) x2 r_11 fT_12 fH_13 hc_14) (cwV 3 hts gX5_give_X2_changeThing rfl rfl rfl (by decide +kernel) ⟨Nat.le_of_ble_eq_true rfl, Nat.le_of_ble_eq_true rfl⟩) 2 rfl rfl rfl rfl hl.1 rfl (Nat.le_of_ble_eq_true rfl) dX5_give_27 hK hP (hD0.addr (wLR_fst.trans wLR_fst.symm)) hS hA [1, 2, 3, 4, 5, 6, 7, 8, 9, 10, 11] (by decide +kernel) lC_h lJ_h (wLR_fst.trans wLR_fst.symm) rfl ⟨Nat.zero_le _, Nat.zero_le _⟩ (fun H locs hP hD hS => ?_)
      cases hf
      exact fn_iret hx hb hr hlocks hP hS dX5_give_30
set_option maxHeartbeats 4000000 in
set_option maxRecDepth 100000 in
theorem c_X5_give_x (l : Launch) (hfl : l.stackTraces = false) (X : cx_G) (x0 : Nat) (hh : (Nat → Nat)) (ht : (Nat → Nat)) (ch : (Nat → Nat)) (tx : (Nat → Nat)) (y : (Nat → Nat)) (hy : (Nat → Nat → Nat)) (rP : Int32) (fP : (Nat → Int32)) (rT : Int32) (fT : (Nat → Int32)) (rG : Int32) (fG : (Nat → Int32)) (rL : Int32) (fL : (Nat → Int32)) (rH : Int32) (fH : (Nat → Int32)) (gi : Int32) (di : Int32) (re : Int32) (ti : Int32) (rPT : Int32) (fPT : (Nat → Int32)) (rTT : Int32) (fTT : (Nat → Int32)) (rGT : Int32) (fGT : (Nat → Int32)) (rLT : Int32) (fLT : (Nat → Int32)) (rHT : Int32) (fHT : (Nat → Int32)) (giT : Int32) (diT : Int32) (reT : Int32) (tiT : Int32) (rS : Int32) (fS : (Nat → Int32)) (rB : Int32) (fB : (Nat → Int32)) (rO : Int32) (fO : (Nat → Int32)) (pl : Int32) (fa : Int32) (cn : Int32) (ro : Nat) (Qh : (Nat → HS)) (x1 : Int32) (x2 : Int32) (E : String) (fT' : (Nat → Int32)) (fH' : (Nat → Int32)) (cn' : Int32) (ro' : Nat) (Qh' : (Nat → HS)) (hf : f_X5_give x1 x2 rP fP rT fT rG fG rL fL rH fH gi di re ti cn ro Qh = some (.inl (E, fT', fH', cn', ro', Qh'))) : Tx l yX5_give wsX5_give ({ frames := 7, cells := 1, slots := 6, locals := 111 } : Room) X [.ref (x0), .int x1, .int x2] (wLR X x0 hh ht ch tx y hy rP fP rT fT rG fG rL fL rH fH gi di re ti rPT fPT rTT fTT rGT fGT rLT fLT rHT fHT giT diT reT tiT rS fS rB fB rO fO pl fa cn ro Qh) E (wLR X x0 hh ht ch tx y hy rP fP rT fT' rG fG rL fL rH fH' gi di re ti rPT fPT rTT fTT rGT fGT rLT fLT rHT fHT giT diT reT tiT rS fS rB fB rO fO pl fa cn' ro' Qh') := by
  refine tx_intro (cc := cX5_give) (maxL := 3) (ret := (some .int)) (by decide) rfl (wLR_fst.trans wLR_fst.symm) (Nat.le_of_ble_eq_true rfl) ?_
  intro p e s m args below meth c A ls hx hb hml hr hts hown hlocks hne hK hP hD0 hS hA hTS hTZ hl
  have hown : s.vm.findClass RX5 = some m.cls := hown
  have hl : lv_has ls 3 [(0, .ref (x0)), (1, .int x1), (2, .int x2)] := hl
  have hiX5 : ∀ w ∈ u_ws RX5 TX5 5, w ∈ wsX5_give := by decide +kernel
  have k10 := hts (.fieldLink RX5 10 "LentRights" "house" "LLentRights$House;") (by decide +kernel)
  have k22 := hts (.fieldLink RX5 22 "LentRights" "history" "LLentRights$History;") (by decide +kernel)
  unfold f_X5_give at hf
  refine lv_iload_n hx hb dX5_give_0 rfl (lv_at hl 2 rfl) ?_
  rcases bx_of hf with ⟨E_3, hc_1, hf⟩ | ⟨u_2, hc_1, hf⟩
  · cases hf
    exact tx_Sx (As := [.int x2]) (rest := []) (nL := 3) hne hlocks ⟨hx, hb, hml, hown, hts⟩ (c_X5_requirePerson_x l hfl X x2 E hc_1) (va_cwS 1 hts gX5_give_X5_requirePerson rfl rfl rfl (by decide +kernel) ⟨Nat.le_of_ble_eq_true rfl, Nat.le_of_ble_eq_true rfl⟩) rfl hl.1 rfl (Nat.le_of_ble_eq_true rfl) dX5_give_1 hTS hTZ hK hP (hD0.addr (wLR_fst.trans wLR_fst.symm)) hS hA [] (by decide +kernel) rfl (pt_setid _ _ _ rfl) ⟨Nat.le_of_ble_eq_true rfl, Nat.le_of_ble_eq_true rfl⟩
  · refine fn_Sx (v := none) (As := [.int x2]) (rest := []) (st1 := []) (ws' := (wLR X x0 hh ht ch tx y hy rP fP rT fT rG fG rL fL rH fH gi di re ti rPT fPT rTT fTT rGT fGT rLT fLT rHT fHT giT diT reT tiT rS fS rB fB rO fO pl fa cn ro Qh)) (nL := 3) ⟨hx, hb, hml, hown, hts⟩ (c_X5_requirePerson l X x2 hc_1) (va_cwS 1 hts gX5_give_X5_requirePerson rfl rfl rfl (by decide +kernel) ⟨Nat.le_of_ble_eq_true rfl, Nat.le_of_ble_eq_true rfl⟩) rfl hl.1 rfl (Nat.le_of_ble_eq_true rfl) dX5_give_1 hK hP (hD0.addr (wLR_fst.trans wLR_fst.symm)) hS hA [] (by decide +kernel) rfl (pt_setid _ _ _ rfl) rfl ⟨Nat.zero_le _, Nat.zero_le _⟩ (fun H locs hP hD hS => ?_)
    refine lv_aload_n hx hb dX5_give_4 rfl (lv_at hl 0 rfl) ?_
    refine lv_iload_n hx hb dX5_give_5 rfl (lv_at hl 1 rfl) ?_
    rcases bx_of hf with ⟨E_6, hc_4, hf⟩ | ⟨u_5, hc_4, hf⟩
    · cases hf
      exact tx_V (As := [.int x1]) (rest := []) (nL := 3) hne hlocks ⟨hx, hb, hml, hown, hts⟩ (c_X5_requireThing_x l hfl X x0 hh ht ch tx y hy rP fP rT fT rG fG rL fL rH fH gi di re ti rPT fPT rTT fTT rGT fGT rLT fLT rHT fHT giT diT reT tiT rS fS rB fB rO fO pl fa cn ro Qh x1 E hc_4) (cwV 1 hts gX5_give_X5_requireThing rfl rfl rfl (by decide +kernel) ⟨Nat.le_of_ble_eq_true rfl, Nat.le_of_ble_eq_true rfl⟩) 5 rfl rfl rfl rfl hl.1 rfl (Nat.le_of_ble_eq_true rfl) dX5_give_6 hTS hTZ hK hP (hD0.addr (wLR_fst.trans wLR_fst.symm)) hS hA [0, 1, 2, 3, 4, 5, 6, 7, 8, 9, 10, 11, 12, 13, 14, 15, 16, 17, 18, 19, 20, 21, 22, 23, 24, 25, 26, 27, 28, 29, 30, 31, 32, 33, 34, 35, 36, 37, 38, 39, 40, 41, 42, 43, 44, 45, 46, 47, 48, 49, 50, 51, 52, 53, 54, 55, 56, 57, 58, 59, 60, 61, 62, 63, 64, 65, 66, 67, 68, 69, 70, 71, 72, 73, 74, 75, 76] (by decide +kernel) lC_a (pt_setid _ _ _ lC_a) ⟨Nat.le_of_ble_eq_true rfl, Nat.le_of_ble_eq_true rfl⟩
    · refine fn_V (v := none) (As := [.int x1]) (rest := []) (st1 := []) (ws' := (wLR X x0 hh ht ch tx y hy rP fP rT fT rG fG rL fL rH fH gi di re ti rPT fPT rTT fTT rGT fGT rLT fLT rHT fHT giT diT reT tiT rS fS rB fB rO fO pl fa cn ro Qh)) (nL := 3) ⟨hx, hb, hml, hown, hts⟩ (c_X5_requireThing l X x0 hh ht ch tx y hy rP fP rT fT rG fG rL fL rH fH gi di re ti rPT fPT rTT fTT rGT fGT rLT fLT rHT fHT giT diT reT tiT rS fS rB fB rO fO pl fa cn ro Qh x1 hc_4) (cwV 1 hts gX5_give_X5_requireThing rfl rfl rfl (by decide +kernel) ⟨Nat.le_of_ble_eq_true rfl, Nat.le_of_ble_eq_true rfl⟩) 5 rfl rfl rfl rfl hl.1 rfl (Nat.le_of_ble_eq_true rfl) dX5_give_6 hK hP (hD0.addr (wLR_fst.trans wLR_fst.symm)) hS hA [0, 1, 2, 3, 4, 5, 6, 7, 8, 9, 10, 11, 12, 13, 14, 15, 16, 17, 18, 19, 20, 21, 22, 23, 24, 25, 26, 27, 28, 29, 30, 31, 32, 33, 34, 35, 36, 37, 38, 39, 40, 41, 42, 43, 44, 45, 46, 47, 48, 49, 50, 51, 52, 53, 54, 55, 56, 57, 58, 59, 60, 61, 62, 63, 64, 65, 66, 67, 68, 69, 70, 71, 72, 73, 74, 75, 76] (by decide +kernel) lC_a (pt_setid _ _ _ lC_a) rfl ⟨Nat.zero_le _, Nat.zero_le _⟩ (fun H locs hP hD hS => ?_)
      refine lv_aload_n hx hb dX5_give_9 rfl (lv_at hl 0 rfl) ?_
      refine va_get (D := X.1) (ci := 5) (v := .ref (y 0)) (C := RX5) (T := TX5) (N := 5) hx hb hts hiX5 hown hK.1 hP 0 rfl rfl 2 (by decide) k22 (fun _ h9 => h9) rfl dX5_give_10 ?_
      refine lv_aload_n hx hb dX5_give_13 rfl (lv_at hl 0 rfl) ?_
      refine va_get (D := X.1) (ci := 5) (v := .ref (hh 0)) (C := RX5) (T := TX5) (N := 5) hx hb hts hiX5 hown hK.1 hP 0 rfl rfl 0 (by decide) k10 (fun _ h9 => h9) rfl dX5_give_14 ?_
      obtain ⟨cn_7, ro_8, Qh_9, hc_10, hf⟩ := bd3_of hf
      refine fn_VJ (v := none) (As := [.ref (hh 0)]) (rest := []) (st1 := []) (ws' := (wLR X x0 hh ht ch tx y hy rP fP rT fT rG fG rL fL rH fH gi di re ti rPT fPT rTT fTT rGT fGT rLT fLT rHT fHT giT diT reT tiT rS fS rB fB rO fO pl fa cn_7 ro_8 Qh_9)) (nL := 3) ⟨hx, hb, hml, hown, hts⟩ (c_X1_keep l X y hy hh cn ro Qh rP fP rT fT rG fG rL fL rH fH gi di re ti cn_7 ro_8 Qh_9 hc_10) (cwV 1 hts gX5_give_X1_keep rfl rfl rfl (by decide +kernel) ⟨Nat.le_of_ble_eq_true rfl, Nat.le_of_ble_eq_true rfl⟩) 1 rfl rfl rfl rfl hl.1 rfl (Nat.le_of_ble_eq_true rfl) dX5_give_17 hK hP (hD0.addr (wLR_fst.trans wLR_fst.symm)) hS hA [31, 32, 33, 34, 35, 36, 37, 38, 39, 40, 41, 42, 43, 44, 45, 46, 47, 48, 49, 50, 51, 52, 53, 54, 55, 56, 57, 58, 59, 60, 61, 62, 63, 64, 65, 66, 67, 68, 69, 70, 71, 72, 73, 74, 75, 76, 1, 2, 3, 4, 5, 6, 7, 8, 9, 10, 11] (by decide +kernel) lC_ih lJ_ih (wLR_fst.trans wLR_fst.symm) rfl ⟨Nat.zero_le _, Nat.zero_le _⟩ (fun H locs hP hD hS => ?_)
      refine lv_aload_n hx hb dX5_give_20 rfl (lv_at hl 0 rfl) ?_
      refine va_get (D := X.1) (ci := 5) (v := .ref (hh 0)) (C := RX5) (T := TX5) (N := 5) hx hb hts hiX5 hown hK.1 hP 0 rfl rfl 0 (by decide) k10 (fun _ h9 => h9) rfl dX5_give_21 ?_
      refine lv_iload_n hx hb dX5_give_24 rfl (lv_at hl 1 rfl) ?_
      refine lv_iconst (v := 0) hx hb dX5_give_25 (by decide) ?_
      refine lv_iload_n hx hb dX5_give_26 rfl (lv_at hl 2 rfl) ?_
      obtain ⟨r_11, fT_12, fH_13, hc_14, hf⟩ := bd3_of hf
      refine fn_VJ (v := some (.int r_11)) (As := [.int x1, .int (0 : Int32), .int x2]) (rest := []) (st1 := [.int r_11]) (ws' := (wLR X x0 hh ht ch tx y hy rP fP rT fT_12 rG fG rL fL rH fH_13 gi di re ti rPT fPT rTT fTT rGT fGT rLT fLT rHT fHT giT diT reT tiT rS fS rB fB rO fO pl fa cn_7 ro_8 Qh_9)) (nL := 3) ⟨hx, hb, hml, hown, hts⟩ (c_X2_changeThing l X hh rP fP rT fT rG fG rL fL rH fH gi di re ti x1 (0 : Int32) x2 r_11 fT_12 fH_13 hc_14) (cwV 3 hts gX5_give_X2_changeThing rfl rfl rfl (by decide +kernel) ⟨Nat.le_of_ble_eq_true rfl, Nat.le_of_ble_eq_true rfl⟩) 2 rfl rfl rfl rfl hl.1 rfl (Nat.le_of_ble_eq_true rfl) dX5_give_27 hK hP (hD0.addr (wLR_fst.trans wLR_fst.symm)) hS hA [1, 2, 3, 4, 5, 6, 7, 8, 9, 10, 11] (by decide +kernel) lC_h lJ_h (wLR_fst.trans wLR_fst.symm) rfl ⟨Nat.zero_le _, Nat.zero_le _⟩ (fun H locs hP hD hS => ?_)
      cases hf

def f_X5_grant (x1 : Int32) (x2 : Int32) (x3 : Int32) (x4 : Int32) (x5 : Int32) (rP : Int32) (fP : (Nat → Int32)) (rT : Int32) (fT : (Nat → Int32)) (rG : Int32) (fG : (Nat → Int32)) (rL : Int32) (fL : (Nat → Int32)) (rH : Int32) (fH : (Nat → Int32)) (gi : Int32) (di : Int32) (re : Int32) (ti : Int32) (cn : Int32) (ro : Nat) (Qh : (Nat → HS)) : Option ((String × Int32 × (Nat → Int32) × (Nat → Int32) × Int32 × Int32 × Nat × (Nat → HS)) ⊕ (Int32 × Int32 × (Nat → Int32) × (Nat → Int32) × Int32 × Int32 × Nat × (Nat → HS))) :=
  bd (f_X2_faultOfGrant x1 x2 x3 x4 x5 rP fP rT rG rH fH) (fun r_1 =>
  bx (f_X5_requireFit r_1) (fun E_5 => some (.inl (E_5, rG, fG, fH, gi, cn, ro, Qh))) (fun u_4 =>
  if r_1 = (3 : Int32) then
  (some (.inl ("java/lang/IllegalStateException", rG, fG, fH, gi, cn, ro, Qh)))
  else
  (bd3 (f_X1_keep cn ro Qh rP fP rT fT rG fG rL fL rH fH gi di re ti) (fun cn_7 ro_8 Qh_9 =>
  bd5 (f_X2_lend x1 x2 x3 x4 x5 rT fT rG fG rH fH gi) (fun r_11 rG_12 fG_13 fH_14 gi_15 =>
  some (.inr (r_11, rG_12, fG_13, fH_14, gi_15, cn_7, ro_8, Qh_9)))))))
set_option maxHeartbeats 4000000 in
set_option maxRecDepth 100000 in
theorem c_X5_grant (l : Launch) (X : cx_G) (x0 : Nat) (hh : (Nat → Nat)) (ht : (Nat → Nat)) (ch : (Nat → Nat)) (tx : (Nat → Nat)) (y : (Nat → Nat)) (hy : (Nat → Nat → Nat)) (rP : Int32) (fP : (Nat → Int32)) (rT : Int32) (fT : (Nat → Int32)) (rG : Int32) (fG : (Nat → Int32)) (rL : Int32) (fL : (Nat → Int32)) (rH : Int32) (fH : (Nat → Int32)) (gi : Int32) (di : Int32) (re : Int32) (ti : Int32) (rPT : Int32) (fPT : (Nat → Int32)) (rTT : Int32) (fTT : (Nat → Int32)) (rGT : Int32) (fGT : (Nat → Int32)) (rLT : Int32) (fLT : (Nat → Int32)) (rHT : Int32) (fHT : (Nat → Int32)) (giT : Int32) (diT : Int32) (reT : Int32) (tiT : Int32) (rS : Int32) (fS : (Nat → Int32)) (rB : Int32) (fB : (Nat → Int32)) (rO : Int32) (fO : (Nat → Int32)) (pl : Int32) (fa : Int32) (cn : Int32) (ro : Nat) (Qh : (Nat → HS)) (x1 : Int32) (x2 : Int32) (x3 : Int32) (x4 : Int32) (x5 : Int32) (r : Int32) (rG' : Int32) (fG' : (Nat → Int32)) (fH' : (Nat → Int32)) (gi' : Int32) (cn' : Int32) (ro' : Nat) (Qh' : (Nat → HS)) (hf : f_X5_grant x1 x2 x3 x4 x5 rP fP rT fT rG fG rL fL rH fH gi di re ti cn ro Qh = some (.inr (r, rG', fG', fH', gi', cn', ro', Qh'))) : Fn l yX5_grant wsX5_grant ({ frames := 4, cells := 0, slots := 0, locals := 101 } : Room) X [.ref (x0), .int x1, .int x2, .int x3, .int x4, .int x5] (wLR X x0 hh ht ch tx y hy rP fP rT fT rG fG rL fL rH fH gi di re ti rPT fPT rTT fTT rGT fGT rLT fLT rHT fHT giT diT reT tiT rS fS rB fB rO fO pl fa cn ro Qh) (some (.int r)) (wLR X x0 hh ht ch tx y hy rP fP rT fT rG' fG' rL fL rH fH' gi' di re ti rPT fPT rTT fTT rGT fGT rLT fLT rHT fHT giT diT reT tiT rS fS rB fB rO fO pl fa cn' ro' Qh') := by
  refine fn_intro (cc := cX5_grant) (maxL := 7) (ret := (some .int)) (by decide) rfl (wLR_fst.trans wLR_fst.symm) (Nat.le_of_ble_eq_true rfl) ?_
  intro p e s m args below meth c A ls hx hb hml hr hts hown hlocks hK hP hD0 hS hA hl
  have hown : s.vm.findClass RX5 = some m.cls := hown
  have hl : lv_has ls 7 [(0, .ref (x0)), (1, .int x1), (2, .int x2), (3, .int x3), (4, .int x4), (5, .int x5)] := hl
  have hiX5 : ∀ w ∈ u_ws RX5 TX5 5, w ∈ wsX5_grant := by decide +kernel
  have k10 := hts (.fieldLink RX5 10 "LentRights" "house" "LLentRights$House;") (by decide +kernel)
  have k22 := hts (.fieldLink RX5 22 "LentRights" "history" "LLentRights$History;") (by decide +kernel)
  unfold f_X5_grant at hf
  refine lv_aload_n hx hb dX5_grant_0 rfl (lv_at hl 0 rfl) ?_
  refine va_get (D := X.1) (ci := 5) (v := .ref (hh 0)) (C := RX5) (T := TX5) (N := 5) hx hb hts hiX5 hown hK.1 hP 0 rfl rfl 0 (by decide) k10 (fun _ h9 => h9) rfl dX5_grant_1 ?_
  refine lv_iload_n hx hb dX5_grant_4 rfl (lv_at hl 1 rfl) ?_
  refine lv_iload_n hx hb dX5_grant_5 rfl (lv_at hl 2 rfl) ?_
  refine lv_iload_n hx hb dX5_grant_6 rfl (lv_at hl 3 rfl) ?_
  refine lv_iload hx hb dX5_grant_7 (lv_at hl 4 rfl) ?_
  refine lv_iload hx hb dX5_grant_9 (lv_at hl 5 rfl) ?_
  obtain ⟨r_1, hc_2, hf⟩ := bd_of hf
  refine fn_V (v := some (.int r_1)) (As := [.int x1, .int x2, .int x3, .int x4, .int x5]) (rest := []) (st1 := [.int r_1]) (ws' := (wLR X x0 hh ht ch tx y hy rP fP rT fT rG fG rL fL rH fH gi di re ti rPT fPT rTT fTT rGT fGT rLT fLT rHT fHT giT diT reT tiT rS fS rB fB rO fO pl fa cn ro Qh)) (nL := 7) ⟨hx, hb, hml, hown, hts⟩ (c_X2_faultOfGrant l X hh rP fP rT fT rG fG rL fL rH fH gi di re ti x1 x2 x3 x4 x5 r_1 hc_2) (cwV 5 hts gX5_grant_X2_faultOfGrant rfl rfl rfl (by decide +kernel) ⟨Nat.le_of_ble_eq_true rfl, Nat.le_of_ble_eq_true rfl⟩) 2 rfl rfl rfl rfl hl.1 rfl (Nat.le_of_ble_eq_true rfl) dX5_grant_11 hK hP (hD0.addr (wLR_fst.trans wLR_fst.symm)) hS hA [1, 2, 3, 4, 5, 6, 7, 8, 9, 10, 11] (by decide +kernel) lC_h (pt_setid _ _ _ lC_h) rfl ⟨Nat.zero_le _, Nat.zero_le _⟩ (fun H locs hP hD hS => ?_)
  refine lv_istore (lv' := [(6, .int r_1), (0, .ref (x0)), (1, .int x1), (2, .int x2), (3, .int x3), (4, .int x4), (5, .int x5)]) hx hb dX5_grant_14 hl (by decide) rfl (fun ls hl => ?_)
  refine lv_iload hx hb dX5_grant_16 (lv_at hl 0 rfl) ?_
  rcases bx_of hf with ⟨E_5, hc_3, hf⟩ | ⟨u_4, hc_3, hf⟩
  · cases hf
  · refine fn_Sx (v := none) (As := [.int r_1]) (rest := []) (st1 := []) (ws' := (wLR X x0 hh ht ch tx y hy rP fP rT fT rG fG rL fL rH fH gi di re ti rPT fPT rTT fTT rGT fGT rLT fLT rHT fHT giT diT reT tiT rS fS rB fB rO fO pl fa cn ro Qh)) (nL := 7) ⟨hx, hb, hml, hown, hts⟩ (c_X5_requireFit l X r_1 hc_3) (va_cwS 1 hts gX5_grant_X5_requireFit rfl rfl rfl (by decide +kernel) ⟨Nat.le_of_ble_eq_true rfl, Nat.le_of_ble_eq_true rfl⟩) rfl hl.1 rfl (Nat.le_of_ble_eq_true rfl) dX5_grant_18 hK hP (hD0.addr (wLR_fst.trans wLR_fst.symm)) hS hA [] (by decide +kernel) rfl (pt_setid _ _ _ rfl) rfl ⟨Nat.zero_le _, Nat.zero_le _⟩ (fun H locs hP hD hS => ?_)
    refine lv_iload hx hb dX5_grant_21 (lv_at hl 0 rfl) ?_
    refine lv_iconst (v := 3) hx hb dX5_grant_23 (by decide) ?_
    refine lv_icmp_ne (tgt := 37) hx hb dX5_grant_24 (by decide) (fun c_6 => ?_) (fun c_6 => ?_)
    · replace hf := fp_f c_6 hf
      refine lv_aload_n hx hb dX5_grant_37 rfl (lv_at hl 1 rfl) ?_
      refine va_get (D := X.1) (ci := 5) (v := .ref (y 0)) (C := RX5) (T := TX5) (N := 5) hx hb hts hiX5 hown hK.1 hP 0 rfl rfl 2 (by decide) k22 (fun _ h9 => h9) rfl dX5_grant_38 ?_
      refine lv_aload_n hx hb dX5_grant_41 rfl (lv_at hl 1 rfl) ?_
      refine va_get (D := X.1) (ci := 5) (v := .ref (hh 0)) (C := RX5) (T := TX5) (N := 5) hx hb hts hiX5 hown hK.1 hP 0 rfl rfl 0 (by decide) k10 (fun _ h9 => h9) rfl dX5_grant_42 ?_
      obtain ⟨cn_7, ro_8, Qh_9, hc_10, hf⟩ := bd3_of hf
      refine fn_VJ (v := none) (As := [.ref (hh 0)]) (rest := []) (st1 := []) (ws' := (wLR X x0 hh ht ch tx y hy rP fP rT fT rG fG rL fL rH fH gi di re ti rPT fPT rTT fTT rGT fGT rLT fLT rHT fHT giT diT reT tiT rS fS rB fB rO fO pl fa cn_7 ro_8 Qh_9)) (nL := 7) ⟨hx, hb, hml, hown, hts⟩ (c_X1_keep l X y hy hh cn ro Qh rP fP rT fT rG fG rL fL rH fH gi di re ti cn_7 ro_8 Qh_9 hc_10) (cwV 1 hts gX5_grant_X1_keep rfl rfl rfl (by decide +kernel) ⟨Nat.le_of_ble_eq_true rfl, Nat.le_of_ble_eq_true rfl⟩) 1 rfl rfl rfl rfl hl.1 rfl (Nat.le_of_ble_eq_true rfl) dX5_grant_45 hK hP (hD0.addr (wLR_fst.trans wLR_fst.symm)) hS hA [31, 32, 33, 34, 35, 36, 37, 38, 39, 40, 41, 42, 43, 44, 45, 46, 47, 48, 49, 50, 51, 52, 53, 54, 55, 56, 57, 58, 59, 60, 61, 62, 63, 64, 65, 66, 67, 68, 69, 70, 71, 72, 73, 74, 75, 76, 1, 2, 3, 4, 5, 6, 7, 8, 9, 10, 11] (by decide +kernel) lC_ih lJ_ih (wLR_fst.trans wLR_fst.symm) rfl ⟨Nat.zero_le _, Nat.zero_le _⟩ (fun H locs hP hD hS => ?_)
      refine lv_aload_n hx hb dX5_grant_48 rfl (lv_at hl 1 rfl) ?_
      refine va_get (D := X.1) (ci := 5) (v := .ref (hh 0)) (C := RX5) (T := TX5) (N := 5) hx hb hts hiX5 hown hK.1 hP 0 rfl rfl 0 (by decide) k10 (fun _ h9 => h9) rfl dX5_grant_49 ?_
      refine lv_iload_n hx hb dX5_grant_52 rfl (lv_at hl 2 rfl) ?_
      refine lv_iload_n hx hb dX5_grant_53 rfl (lv_at hl 3 rfl) ?_
      refine lv_iload_n hx hb dX5_grant_54 rfl (lv_at hl 4 rfl) ?_
      refine lv_iload hx hb dX5_grant_55 (lv_at hl 5 rfl) ?_
      refine lv_iload hx hb dX5_grant_57 (lv_at hl 6 rfl) ?_
      obtain ⟨r_11, rG_12, fG_13, fH_14, gi_15, hc_16, hf⟩ := bd5_of hf
      refine fn_VJ (v := some (.int r_11)) (As := [.int x1, .int x2, .int x3, .int x4, .int x5]) (rest := []) (st1 := [.int r_11]) (ws' := (wLR X x0 hh ht ch tx y hy rP fP rT fT rG_12 fG_13 rL fL rH fH_14 gi_15 di re ti rPT fPT rTT fTT rGT fGT rLT fLT rHT fHT giT diT reT tiT rS fS rB fB rO fO pl fa cn_7 ro_8 Qh_9)) (nL := 7) ⟨hx, hb, hml, hown, hts⟩ (c_X2_lend l X hh rP fP rT fT rG fG rL fL rH fH gi di re ti x1 x2 x3 x4 x5 r_11 rG_12 fG_13 fH_14 gi_15 hc_16) (cwV 5 hts gX5_grant_X2_lend rfl rfl rfl (by decide +kernel) ⟨Nat.le_of_ble_eq_true rfl, Nat.le_of_ble_eq_true rfl⟩) 2 rfl rfl rfl rfl hl.1 rfl (Nat.le_of_ble_eq_true rfl) dX5_grant_59 hK hP (hD0.addr (wLR_fst.trans wLR_fst.symm)) hS hA [1, 2, 3, 4, 5, 6, 7, 8, 9, 10, 11] (by decide +kernel) lC_h lJ_h (wLR_fst.trans wLR_fst.symm) rfl ⟨Nat.zero_le _, Nat.zero_le _⟩ (fun H locs hP hD hS => ?_)
      cases hf
      exact fn_iret hx hb hr hlocks hP hS dX5_grant_62
    · replace hf := fp_t c_6 hf
      cases hf
set_option maxHeartbeats 4000000 in
set_option maxRecDepth 100000 in
theorem c_X5_grant_x (l : Launch) (hfl : l.stackTraces = false) (X : cx_G) (x0 : Nat) (hh : (Nat → Nat)) (ht : (Nat → Nat)) (ch : (Nat → Nat)) (tx : (Nat → Nat)) (y : (Nat → Nat)) (hy : (Nat → Nat → Nat)) (rP : Int32) (fP : (Nat → Int32)) (rT : Int32) (fT : (Nat → Int32)) (rG : Int32) (fG : (Nat → Int32)) (rL : Int32) (fL : (Nat → Int32)) (rH : Int32) (fH : (Nat → Int32)) (gi : Int32) (di : Int32) (re : Int32) (ti : Int32) (rPT : Int32) (fPT : (Nat → Int32)) (rTT : Int32) (fTT : (Nat → Int32)) (rGT : Int32) (fGT : (Nat → Int32)) (rLT : Int32) (fLT : (Nat → Int32)) (rHT : Int32) (fHT : (Nat → Int32)) (giT : Int32) (diT : Int32) (reT : Int32) (tiT : Int32) (rS : Int32) (fS : (Nat → Int32)) (rB : Int32) (fB : (Nat → Int32)) (rO : Int32) (fO : (Nat → Int32)) (pl : Int32) (fa : Int32) (cn : Int32) (ro : Nat) (Qh : (Nat → HS)) (x1 : Int32) (x2 : Int32) (x3 : Int32) (x4 : Int32) (x5 : Int32) (E : String) (rG' : Int32) (fG' : (Nat → Int32)) (fH' : (Nat → Int32)) (gi' : Int32) (cn' : Int32) (ro' : Nat) (Qh' : (Nat → HS)) (hf : f_X5_grant x1 x2 x3 x4 x5 rP fP rT fT rG fG rL fL rH fH gi di re ti cn ro Qh = some (.inl (E, rG', fG', fH', gi', cn', ro', Qh'))) : Tx l yX5_grant wsX5_grant ({ frames := 7, cells := 1, slots := 6, locals := 110 } : Room) X [.ref (x0), .int x1, .int x2, .int x3, .int x4, .int x5] (wLR X x0 hh ht ch tx y hy rP fP rT fT rG fG rL fL rH fH gi di re ti rPT fPT rTT fTT rGT fGT rLT fLT rHT fHT giT diT reT tiT rS fS rB fB rO fO pl fa cn ro Qh) E (wLR X x0 hh ht ch tx y hy rP fP rT fT rG' fG' rL fL rH fH' gi' di re ti rPT fPT rTT fTT rGT fGT rLT fLT rHT fHT giT diT reT tiT rS fS rB fB rO fO pl fa cn' ro' Qh') := by
  refine tx_intro (cc := cX5_grant) (maxL := 7) (ret := (some .int)) (by decide) rfl (wLR_fst.trans wLR_fst.symm) (Nat.le_of_ble_eq_true rfl) ?_
  intro p e s m args below meth c A ls hx hb hml hr hts hown hlocks hne hK hP hD0 hS hA hTS hTZ hl
  have hown : s.vm.findClass RX5 = some m.cls := hown
  have hl : lv_has ls 7 [(0, .ref (x0)), (1, .int x1), (2, .int x2), (3, .int x3), (4, .int x4), (5, .int x5)] := hl
  have hiX5 : ∀ w ∈ u_ws RX5 TX5 5, w ∈ wsX5_grant := by decide +kernel
  have k10 := hts (.fieldLink RX5 10 "LentRights" "house" "LLentRights$House;") (by decide +kernel)
  have k22 := hts (.fieldLink RX5 22 "LentRights" "history" "LLentRights$History;") (by decide +kernel)
  unfold f_X5_grant at hf
  refine lv_aload_n hx hb dX5_grant_0 rfl (lv_at hl 0 rfl) ?_
  refine va_get (D := X.1) (ci := 5) (v := .ref (hh 0)) (C := RX5) (T := TX5) (N := 5) hx hb hts hiX5 hown hK.1 hP 0 rfl rfl 0 (by decide) k10 (fun _ h9 => h9) rfl dX5_grant_1 ?_
  refine lv_iload_n hx hb dX5_grant_4 rfl (lv_at hl 1 rfl) ?_
  refine lv_iload_n hx hb dX5_grant_5 rfl (lv_at hl 2 rfl) ?_
  refine lv_iload_n hx hb dX5_grant_6 rfl (lv_at hl 3 rfl) ?_
  refine lv_iload hx hb dX5_grant_7 (lv_at hl 4 rfl) ?_
  refine lv_iload hx hb dX5_grant_9 (lv_at hl 5 rfl) ?_
  obtain ⟨r_1, hc_2, hf⟩ := bd_of hf
  refine fn_V (v := some (.int r_1)) (As := [.int x1, .int x2, .int x3, .int x4, .int x5]) (rest := []) (st1 := [.int r_1]) (ws' := (wLR X x0 hh ht ch tx y hy rP fP rT fT rG fG rL fL rH fH gi di re ti rPT fPT rTT fTT rGT fGT rLT fLT rHT fHT giT diT reT tiT rS fS rB fB rO fO pl fa cn ro Qh)) (nL := 7) ⟨hx, hb, hml, hown, hts⟩ (c_X2_faultOfGrant l X hh rP fP rT fT rG fG rL fL rH fH gi di re ti x1 x2 x3 x4 x5 r_1 hc_2) (cwV 5 hts gX5_grant_X2_faultOfGrant rfl rfl rfl (by decide +kernel) ⟨Nat.le_of_ble_eq_true rfl, Nat.le_of_ble_eq_true rfl⟩) 2 rfl rfl rfl rfl hl.1 rfl (Nat.le_of_ble_eq_true rfl) dX5_grant_11 hK hP (hD0.addr (wLR_fst.trans wLR_fst.symm)) hS hA [1, 2, 3, 4, 5, 6, 7, 8, 9, 10, 11] (by decide +kernel) lC_h (pt_setid _ _ _ lC_h) rfl ⟨Nat.zero_le _, Nat.zero_le _⟩ (fun H locs hP hD hS => ?_)
  refine lv_istore (lv' := [(6, .int r_1), (0, .ref (x0)), (1, .int x1), (2, .int x2), (3, .int x3), (4, .int x4), (5, .int x5)]) hx hb dX5_grant_14 hl (by decide) rfl (fun ls hl => ?_)
  refine lv_iload hx hb dX5_grant_16 (lv_at hl 0 rfl) ?_
  rcases bx_of hf with ⟨E_5, hc_3, hf⟩ | ⟨u_4, hc_3, hf⟩
  · cases hf
    exact tx_Sx (As := [.int r_1]) (rest := []) (nL := 7) hne hlocks ⟨hx, hb, hml, hown, hts⟩ (c_X5_requireFit_x l hfl X r_1 E hc_3) (va_cwS 1 hts gX5_grant_X5_requireFit rfl rfl rfl (by decide +kernel) ⟨Nat.le_of_ble_eq_true rfl, Nat.le_of_ble_eq_true rfl⟩) rfl hl.1 rfl (Nat.le_of_ble_eq_true rfl) dX5_grant_18 hTS hTZ hK hP (hD0.addr (wLR_fst.trans wLR_fst.symm)) hS hA [] (by decide +kernel) rfl (pt_setid _ _ _ rfl) ⟨Nat.le_of_ble_eq_true rfl, Nat.le_of_ble_eq_true rfl⟩
  · refine fn_Sx (v := none) (As := [.int r_1]) (rest := []) (st1 := []) (ws' := (wLR X x0 hh ht ch tx y hy rP fP rT fT rG fG rL fL rH fH gi di re ti rPT fPT rTT fTT rGT fGT rLT fLT rHT fHT giT diT reT tiT rS fS rB fB rO fO pl fa cn ro Qh)) (nL := 7) ⟨hx, hb, hml, hown, hts⟩ (c_X5_requireFit l X r_1 hc_3) (va_cwS 1 hts gX5_grant_X5_requireFit rfl rfl rfl (by decide +kernel) ⟨Nat.le_of_ble_eq_true rfl, Nat.le_of_ble_eq_true rfl⟩) rfl hl.1 rfl (Nat.le_of_ble_eq_true rfl) dX5_grant_18 hK hP (hD0.addr (wLR_fst.trans wLR_fst.symm)) hS hA [] (by decide +kernel) rfl (pt_setid _ _ _ rfl) rfl ⟨Nat.zero_le _, Nat.zero_le _⟩ (fun H locs hP hD hS => ?_)
    refine lv_iload hx hb dX5_grant_21 (lv_at hl 0 rfl) ?_
    refine lv_iconst (v := 3) hx hb dX5_grant_23 (by decide) ?_
    refine lv_icmp_ne (tgt := 37) hx hb dX5_grant_24 (by decide) (fun c_6 => ?_) (fun c_6 => ?_)
    · replace hf := fp_f c_6 hf
      refine lv_aload_n hx hb dX5_grant_37 rfl (lv_at hl 1 rfl) ?_
      refine va_get (D := X.1) (ci := 5) (v := .ref (y 0)) (C := RX5) (T := TX5) (N := 5) hx hb hts hiX5 hown hK.1 hP 0 rfl rfl 2 (by decide) k22 (fun _ h9 => h9) rfl dX5_grant_38 ?_
      refine lv_aload_n hx hb dX5_grant_41 rfl (lv_at hl 1 rfl) ?_
      refine va_get (D := X.1) (ci := 5) (v := .ref (hh 0)) (C := RX5) (T := TX5) (N := 5) hx hb hts hiX5 hown hK.1 hP 0 rfl rfl 0 (by decide) k10 (fun _ h9 => h9) rfl dX5_grant_42 ?_
      obtain ⟨cn_7, ro_8, Qh_9, hc_10, hf⟩ := bd3_of hf
      refine fn_VJ (v := none) (As := [.ref (hh 0)]) (rest := []) (st1 := []) (ws' := (wLR X x0 hh ht ch tx y hy rP fP rT fT rG fG rL fL rH fH gi di re ti rPT fPT rTT fTT rGT fGT rLT fLT rHT fHT giT diT reT tiT rS fS rB fB rO fO pl fa cn_7 ro_8 Qh_9)) (nL := 7) ⟨hx, hb, hml, hown, hts⟩ (c_X1_keep l X y hy hh cn ro Qh rP fP rT fT rG fG rL fL rH fH gi di re ti cn_7 ro_8 Qh_9 hc_10) (cwV 1 hts gX5_grant_X1_keep rfl rfl rfl (by decide +kernel) ⟨Nat.le_of_ble_eq_true rfl, Nat.le_of_ble_eq_true rfl⟩) 1 rfl rfl rfl rfl hl.1 rfl (Nat.le_of_ble_eq_true rfl) dX5_grant_45 hK hP (hD0.addr (wLR_fst.trans wLR_fst.symm)) hS hA [31, 32, 33, 34, 35, 36, 37, 38, 39, 40, 41, 42, 43, 44, 45, 46, 47, 48, 49, 50, 51, 52, 53, 54, 55, 56, 57, 58, 59, 60, 61, 62, 63, 64, 65, 66, 67, 68, 69, 70, 71, 72, 73, 74, 75, 76, 1, 2, 3, 4, 5, 6, 7, 8, 9, 10, 11] (by decide +kernel) lC_ih lJ_ih (wLR_fst.trans wLR_fst.symm) rfl ⟨Nat.zero_le _, Nat.zero_le _⟩ (fun H locs hP hD hS => ?_)
      refine lv_aload_n hx hb dX5_grant_48 rfl (lv_at hl 1 rfl) ?_
      refine va_get (D := X.1) (ci := 5) (v := .ref (hh 0)) (C := RX5) (T := TX5) (N := 5) hx hb hts hiX5 hown hK.1 hP 0 rfl rfl 0 (by decide) k10 (fun _ h9 => h9) rfl dX5_grant_49 ?_
      refine lv_iload_n hx hb dX5_grant_52 rfl (lv_at hl 2 rfl) ?_
      refine lv_iload_n hx hb dX5_grant_53 rfl (lv_at hl 3 rfl) ?_
      refine lv_iload_n hx hb dX5_grant_54 rfl (lv_at hl 4 rfl) ?_
      refine lv_iload hx hb dX5_grant_55 (lv_at hl 5 rfl) ?_
      refine lv_iload hx hb dX5_grant_57 (lv_at hl 6 rfl) ?_
      obtain ⟨r_11, rG_12, fG_13, fH_14, gi_15, hc_16, hf⟩ := bd5_of hf
      refine fn_VJ (v := some (.int r_11)) (As := [.int x1, .int x2, .int x3, .int x4, .int x5]) (rest := []) (st1 := [.int r_11]) (ws' := (wLR X x0 hh ht ch tx y hy rP fP rT fT rG_12 fG_13 rL fL rH fH_14 gi_15 di re ti rPT fPT rTT fTT rGT fGT rLT fLT rHT fHT giT diT reT tiT rS fS rB fB rO fO pl fa cn_7 ro_8 Qh_9)) (nL := 7) ⟨hx, hb, hml, hown, hts⟩ (c_X2_lend l X hh rP fP rT fT rG fG rL fL rH fH gi di re ti x1 x2 x3 x4 x5 r_11 rG_12 fG_13 fH_14 gi_15 hc_16) (cwV 5 hts gX5_grant_X2_lend rfl rfl rfl (by decide +kernel) ⟨Nat.le_of_ble_eq_true rfl, Nat.le_of_ble_eq_true rfl⟩) 2 rfl rfl rfl rfl hl.1 rfl (Nat.le_of_ble_eq_true rfl) dX5_grant_59 hK hP (hD0.addr (wLR_fst.trans wLR_fst.symm)) hS hA [1, 2, 3, 4, 5, 6, 7, 8, 9, 10, 11] (by decide +kernel) lC_h lJ_h (wLR_fst.trans wLR_fst.symm) rfl ⟨Nat.zero_le _, Nat.zero_le _⟩ (fun H locs hP hD hS => ?_)
      cases hf
    · replace hf := fp_t c_6 hf
      cases hf
      exact tx_throw (is := 99) hx hb hfl hown (by decide +kernel) hne (hml.trans hl.1.symm) hlocks (hts (.classLink RX5 57 "java/lang/IllegalStateException") (by decide +kernel)) (hts (.initialized "java/lang/IllegalStateException") (by decide +kernel)) hTS.1.2.1 hTS tk_ISE (fun w hw => hts w (by unfold wsX5_grant; simp only [List.mem_cons, List.mem_append, hw, or_true, true_or])) hTZ hP hS (Nat.le_of_ble_eq_true rfl) (Nat.le_of_ble_eq_true rfl) (Nat.le_of_ble_eq_true rfl) (Nat.le_of_ble_eq_true rfl) dX5_grant_27 dX5_grant_30 dX5_grant_31 dX5_grant_33 dX5_grant_36

def f_X5_revoke (x1 : Int32) (rP : Int32) (fP : (Nat → Int32)) (rT : Int32) (fT : (Nat → Int32)) (rG : Int32) (fG : (Nat → Int32)) (rL : Int32) (fL : (Nat → Int32)) (rH : Int32) (fH : (Nat → Int32)) (gi : Int32) (di : Int32) (re : Int32) (ti : Int32) (cn : Int32) (ro : Nat) (Qh : (Nat → HS)) : Option ((String × Int32 × (Nat → Int32) × (Nat → Int32) × Int32 × Int32 × Nat × (Nat → HS)) ⊕ (Int32 × Int32 × (Nat → Int32) × (Nat → Int32) × Int32 × Int32 × Nat × (Nat → HS))) :=
  bx (f_X5_requireGrant x1 rG fG) (fun E_3 => some (.inl (E_3, rG, fG, fH, re, cn, ro, Qh))) (fun r_1 =>
  bd3 (f_X1_keep cn ro Qh rP fP rT fT rG fG rL fL rH fH gi di re ti) (fun cn_4 ro_5 Qh_6 =>
  bd5 (f_X2_takeBack r_1 rT fT rG fG rH fH re) (fun r_8 rG_9 fG_10 fH_11 re_12 =>
  some (.inr (r_8, rG_9, fG_10, fH_11, re_12, cn_4, ro_5, Qh_6)))))
set_option maxHeartbeats 4000000 in
set_option maxRecDepth 100000 in
theorem c_X5_revoke (l : Launch) (X : cx_G) (x0 : Nat) (hh : (Nat → Nat)) (ht : (Nat → Nat)) (ch : (Nat → Nat)) (tx : (Nat → Nat)) (y : (Nat → Nat)) (hy : (Nat → Nat → Nat)) (rP : Int32) (fP : (Nat → Int32)) (rT : Int32) (fT : (Nat → Int32)) (rG : Int32) (fG : (Nat → Int32)) (rL : Int32) (fL : (Nat → Int32)) (rH : Int32) (fH : (Nat → Int32)) (gi : Int32) (di : Int32) (re : Int32) (ti : Int32) (rPT : Int32) (fPT : (Nat → Int32)) (rTT : Int32) (fTT : (Nat → Int32)) (rGT : Int32) (fGT : (Nat → Int32)) (rLT : Int32) (fLT : (Nat → Int32)) (rHT : Int32) (fHT : (Nat → Int32)) (giT : Int32) (diT : Int32) (reT : Int32) (tiT : Int32) (rS : Int32) (fS : (Nat → Int32)) (rB : Int32) (fB : (Nat → Int32)) (rO : Int32) (fO : (Nat → Int32)) (pl : Int32) (fa : Int32) (cn : Int32) (ro : Nat) (Qh : (Nat → HS)) (x1 : Int32) (r : Int32) (rG' : Int32) (fG' : (Nat → Int32)) (fH' : (Nat → Int32)) (re' : Int32) (cn' : Int32) (ro' : Nat) (Qh' : (Nat → HS)) (hf : f_X5_revoke x1 rP fP rT fT rG fG rL fL rH fH gi di re ti cn ro Qh = some (.inr (r, rG', fG', fH', re', cn', ro', Qh'))) : Fn l yX5_revoke wsX5_revoke ({ frames := 4, cells := 0, slots := 0, locals := 96 } : Room) X [.ref (x0), .int x1] (wLR X x0 hh ht ch tx y hy rP fP rT fT rG fG rL fL rH fH gi di re ti rPT fPT rTT fTT rGT fGT rLT fLT rHT fHT giT diT reT tiT rS fS rB fB rO fO pl fa cn ro Qh) (some (.int r)) (wLR X x0 hh ht ch tx y hy rP fP rT fT rG' fG' rL fL rH fH' gi di re' ti rPT fPT rTT fTT rGT fGT rLT fLT rHT fHT giT diT reT tiT rS fS rB fB rO fO pl fa cn' ro' Qh') := by
  refine fn_intro (cc := cX5_revoke) (maxL := 3) (ret := (some .int)) (by decide) rfl (wLR_fst.trans wLR_fst.symm) (Nat.le_of_ble_eq_true rfl) ?_
  intro p e s m args below meth c A ls hx hb hml hr hts hown hlocks hK hP hD0 hS hA hl
  have hown : s.vm.findClass RX5 = some m.cls := hown
  have hl : lv_has ls 3 [(0, .ref (x0)), (1, .int x1)] := hl
  have hiX5 : ∀ w ∈ u_ws RX5 TX5 5, w ∈ wsX5_revoke := by decide +kernel
  have k10 := hts (.fieldLink RX5 10 "LentRights" "house" "LLentRights$House;") (by decide +kernel)
  have k22 := hts (.fieldLink RX5 22 "LentRights" "history" "LLentRights$History;") (by decide +kernel)
  unfold f_X5_revoke at hf
  refine lv_aload_n hx hb dX5_revoke_0 rfl (lv_at hl 0 rfl) ?_
  refine lv_iload_n hx hb dX5_revoke_1 rfl (lv_at hl 1 rfl) ?_
  rcases bx_of hf with ⟨E_3, hc_2, hf⟩ | ⟨r_1, hc_2, hf⟩
  · cases hf
  · refine fn_V (v := some (.int r_1)) (As := [.int x1]) (rest := []) (st1 := [.int r_1]) (ws' := (wLR X x0 hh ht ch tx y hy rP fP rT fT rG fG rL fL rH fH gi di re ti rPT fPT rTT fTT rGT fGT rLT fLT rHT fHT giT diT reT tiT rS fS rB fB rO fO pl fa cn ro Qh)) (nL := 3) ⟨hx, hb, hml, hown, hts⟩ (c_X5_requireGrant l X x0 hh ht ch tx y hy rP fP rT fT rG fG rL fL rH fH gi di re ti rPT fPT rTT fTT rGT fGT rLT fLT rHT fHT giT diT reT tiT rS fS rB fB rO fO pl fa cn ro Qh x1 r_1 hc_2) (cwV 1 hts gX5_revoke_X5_requireGrant rfl rfl rfl (by decide +kernel) ⟨Nat.le_of_ble_eq_true rfl, Nat.le_of_ble_eq_true rfl⟩) 5 rfl rfl rfl rfl hl.1 rfl (Nat.le_of_ble_eq_true rfl) dX5_revoke_2 hK hP (hD0.addr (wLR_fst.trans wLR_fst.symm)) hS hA [0, 1, 2, 3, 4, 5, 6, 7, 8, 9, 10, 11, 12, 13, 14, 15, 16, 17, 18, 19, 20, 21, 22, 23, 24, 25, 26, 27, 28, 29, 30, 31, 32, 33, 34, 35, 36, 37, 38, 39, 40, 41, 42, 43, 44, 45, 46, 47, 48, 49, 50, 51, 52, 53, 54, 55, 56, 57, 58, 59, 60, 61, 62, 63, 64, 65, 66, 67, 68, 69, 70, 71, 72, 73, 74, 75, 76] (by decide +kernel) lC_a (pt_setid _ _ _ lC_a) rfl ⟨Nat.zero_le _, Nat.zero_le _⟩ (fun H locs hP hD hS => ?_)
    refine lv_istore_n (lv' := [(2, .int r_1), (0, .ref (x0)), (1, .int x1)]) hx hb dX5_revoke_5 rfl hl (by decide) rfl (fun ls hl => ?_)
    refine lv_aload_n hx hb dX5_revoke_6 rfl (lv_at hl 1 rfl) ?_
    refine va_get (D := X.1) (ci := 5) (v := .ref (y 0)) (C := RX5) (T := TX5) (N := 5) hx hb hts hiX5 hown hK.1 hP 0 rfl rfl 2 (by decide) k22 (fun _ h9 => h9) rfl dX5_revoke_7 ?_
    refine lv_aload_n hx hb dX5_revoke_10 rfl (lv_at hl 1 rfl) ?_
    refine va_get (D := X.1) (ci := 5) (v := .ref (hh 0)) (C := RX5) (T := TX5) (N := 5) hx hb hts hiX5 hown hK.1 hP 0 rfl rfl 0 (by decide) k10 (fun _ h9 => h9) rfl dX5_revoke_11 ?_
    obtain ⟨cn_4, ro_5, Qh_6, hc_7, hf⟩ := bd3_of hf
    refine fn_VJ (v := none) (As := [.ref (hh 0)]) (rest := []) (st1 := []) (ws' := (wLR X x0 hh ht ch tx y hy rP fP rT fT rG fG rL fL rH fH gi di re ti rPT fPT rTT fTT rGT fGT rLT fLT rHT fHT giT diT reT tiT rS fS rB fB rO fO pl fa cn_4 ro_5 Qh_6)) (nL := 3) ⟨hx, hb, hml, hown, hts⟩ (c_X1_keep l X y hy hh cn ro Qh rP fP rT fT rG fG rL fL rH fH gi di re ti cn_4 ro_5 Qh_6 hc_7) (cwV 1 hts gX5_revoke_X1_keep rfl rfl rfl (by decide +kernel) ⟨Nat.le_of_ble_eq_true rfl, Nat.le_of_ble_eq_true rfl⟩) 1 rfl rfl rfl rfl hl.1 rfl (Nat.le_of_ble_eq_true rfl) dX5_revoke_14 hK hP (hD0.addr (wLR_fst.trans wLR_fst.symm)) hS hA [31, 32, 33, 34, 35, 36, 37, 38, 39, 40, 41, 42, 43, 44, 45, 46, 47, 48, 49, 50, 51, 52, 53, 54, 55, 56, 57, 58, 59, 60, 61, 62, 63, 64, 65, 66, 67, 68, 69, 70, 71, 72, 73, 74, 75, 76, 1, 2, 3, 4, 5, 6, 7, 8, 9, 10, 11] (by decide +kernel) lC_ih lJ_ih (wLR_fst.trans wLR_fst.symm) rfl ⟨Nat.zero_le _, Nat.zero_le _⟩ (fun H locs hP hD hS => ?_)
    refine lv_aload_n hx hb dX5_revoke_17 rfl (lv_at hl 1 rfl) ?_
    refine va_get (D := X.1) (ci := 5) (v := .ref (hh 0)) (C := RX5) (T := TX5) (N := 5) hx hb hts hiX5 hown hK.1 hP 0 rfl rfl 0 (by decide) k10 (fun _ h9 => h9) rfl dX5_revoke_18 ?_
    refine lv_iload_n hx hb dX5_revoke_21 rfl (lv_at hl 0 rfl) ?_
    obtain ⟨r_8, rG_9, fG_10, fH_11, re_12, hc_13, hf⟩ := bd5_of hf
    refine fn_VJ (v := some (.int r_8)) (As := [.int r_1]) (rest := []) (st1 := [.int r_8]) (ws' := (wLR X x0 hh ht ch tx y hy rP fP rT fT rG_9 fG_10 rL fL rH fH_11 gi di re_12 ti rPT fPT rTT fTT rGT fGT rLT fLT rHT fHT giT diT reT tiT rS fS rB fB rO fO pl fa cn_4 ro_5 Qh_6)) (nL := 3) ⟨hx, hb, hml, hown, hts⟩ (c_X2_takeBack l X hh rP fP rT fT rG fG rL fL rH fH gi di re ti r_1 r_8 rG_9 fG_10 fH_11 re_12 hc_13) (cwV 1 hts gX5_revoke_X2_takeBack rfl rfl rfl (by decide +kernel) ⟨Nat.le_of_ble_eq_true rfl, Nat.le_of_ble_eq_true rfl⟩) 2 rfl rfl rfl rfl hl.1 rfl (Nat.le_of_ble_eq_true rfl) dX5_revoke_22 hK hP (hD0.addr (wLR_fst.trans wLR_fst.symm)) hS hA [1, 2, 3, 4, 5, 6, 7, 8, 9, 10, 11] (by decide +kernel) lC_h lJ_h (wLR_fst.trans wLR_fst.symm) rfl ⟨Nat.zero_le _, Nat.zero_le _⟩ (fun H locs hP hD hS => ?_)
    cases hf
    exact fn_iret hx hb hr hlocks hP hS dX5_revoke_25
set_option maxHeartbeats 4000000 in
set_option maxRecDepth 100000 in
theorem c_X5_revoke_x (l : Launch) (hfl : l.stackTraces = false) (X : cx_G) (x0 : Nat) (hh : (Nat → Nat)) (ht : (Nat → Nat)) (ch : (Nat → Nat)) (tx : (Nat → Nat)) (y : (Nat → Nat)) (hy : (Nat → Nat → Nat)) (rP : Int32) (fP : (Nat → Int32)) (rT : Int32) (fT : (Nat → Int32)) (rG : Int32) (fG : (Nat → Int32)) (rL : Int32) (fL : (Nat → Int32)) (rH : Int32) (fH : (Nat → Int32)) (gi : Int32) (di : Int32) (re : Int32) (ti : Int32) (rPT : Int32) (fPT : (Nat → Int32)) (rTT : Int32) (fTT : (Nat → Int32)) (rGT : Int32) (fGT : (Nat → Int32)) (rLT : Int32) (fLT : (Nat → Int32)) (rHT : Int32) (fHT : (Nat → Int32)) (giT : Int32) (diT : Int32) (reT : Int32) (tiT : Int32) (rS : Int32) (fS : (Nat → Int32)) (rB : Int32) (fB : (Nat → Int32)) (rO : Int32) (fO : (Nat → Int32)) (pl : Int32) (fa : Int32) (cn : Int32) (ro : Nat) (Qh : (Nat → HS)) (x1 : Int32) (E : String) (rG' : Int32) (fG' : (Nat → Int32)) (fH' : (Nat → Int32)) (re' : Int32) (cn' : Int32) (ro' : Nat) (Qh' : (Nat → HS)) (hf : f_X5_revoke x1 rP fP rT fT rG fG rL fL rH fH gi di re ti cn ro Qh = some (.inl (E, rG', fG', fH', re', cn', ro', Qh'))) : Tx l yX5_revoke wsX5_revoke ({ frames := 7, cells := 1, slots := 6, locals := 112 } : Room) X [.ref (x0), .int x1] (wLR X x0 hh ht ch tx y hy rP fP rT fT rG fG rL fL rH fH gi di re ti rPT fPT rTT fTT rGT fGT rLT fLT rHT fHT giT diT reT tiT rS fS rB fB rO fO pl fa cn ro Qh) E (wLR X x0 hh ht ch tx y hy rP fP rT fT rG' fG' rL fL rH fH' gi di re' ti rPT fPT rTT fTT rGT fGT rLT fLT rHT fHT giT diT reT tiT rS fS rB fB rO fO pl fa cn' ro' Qh') := by
  refine tx_intro (cc := cX5_revoke) (maxL := 3) (ret := (some .int)) (by decide) rfl (wLR_fst.trans wLR_fst.symm) (Nat.le_of_ble_eq_true rfl) ?_
  intro p e s m args below meth c A ls hx hb hml hr hts hown hlocks hne hK hP hD0 hS hA hTS hTZ hl
  have hown : s.vm.findClass RX5 = some m.cls := hown
  have hl : lv_has ls 3 [(0, .ref (x0)), (1, .int x1)] := hl
  have hiX5 : ∀ w ∈ u_ws RX5 TX5 5, w ∈ wsX5_revoke := by decide +kernel
  have k10 := hts (.fieldLink RX5 10 "LentRights" "house" "LLentRights$House;") (by decide +kernel)
  have k22 := hts (.fieldLink RX5 22 "LentRights" "history" "LLentRights$History;") (by decide +kernel)
  unfold f_X5_revoke at hf
  refine lv_aload_n hx hb dX5_revoke_0 rfl (lv_at hl 0 rfl) ?_
  refine lv_iload_n hx hb dX5_revoke_1 rfl (lv_at hl 1 rfl) ?_
  rcases bx_of hf with ⟨E_3, hc_2, hf⟩ | ⟨r_1, hc_2, hf⟩
  · cases hf
    exact tx_V (As := [.int x1]) (rest := []) (nL := 3) hne hlocks ⟨hx, hb, hml, hown, hts⟩ (c_X5_requireGrant_x l hfl X x0 hh ht ch tx y hy rP fP rT fT rG fG rL fL rH fH gi di re ti rPT fPT rTT fTT rGT fGT rLT fLT rHT fHT giT diT reT tiT rS fS rB fB rO fO pl fa cn ro Qh x1 E hc_2) (cwV 1 hts gX5_revoke_X5_requireGrant rfl rfl rfl (by decide +kernel) ⟨Nat.le_of_ble_eq_true rfl, Nat.le_of_ble_eq_true rfl⟩) 5 rfl rfl rfl rfl hl.1 rfl (Nat.le_of_ble_eq_true rfl) dX5_revoke_2 hTS hTZ hK hP (hD0.addr (wLR_fst.trans wLR_fst.symm)) hS hA [0, 1, 2, 3, 4, 5, 6, 7, 8, 9, 10, 11, 12, 13, 14, 15, 16, 17, 18, 19, 20, 21, 22, 23, 24, 25, 26, 27, 28, 29, 30, 31, 32, 33, 34, 35, 36, 37, 38, 39, 40, 41, 42, 43, 44, 45, 46, 47, 48, 49, 50, 51, 52, 53, 54, 55, 56, 57, 58, 59, 60, 61, 62, 63, 64, 65, 66, 67, 68, 69, 70, 71, 72, 73, 74, 75, 76] (by decide +kernel) lC_a (pt_setid _ _ _ lC_a) ⟨Nat.le_of_ble_eq_true rfl, Nat.le_of_ble_eq_true rfl⟩
  · refine fn_V (v := some (.int r_1)) (As := [.int x1]) (rest := []) (st1 := [.int r_1]) (ws' := (wLR X x0 hh ht ch tx y hy rP fP rT fT rG fG rL fL rH fH gi di re ti rPT fPT rTT fTT rGT fGT rLT fLT rHT fHT giT diT reT tiT rS fS rB fB rO fO pl fa cn ro Qh)) (nL := 3) ⟨hx, hb, hml, hown, hts⟩ (c_X5_requireGrant l X x0 hh ht ch tx y hy rP fP rT fT rG fG rL fL rH fH gi di re ti rPT fPT rTT fTT rGT fGT rLT fLT rHT fHT giT diT reT tiT rS fS rB fB rO fO pl fa cn ro Qh x1 r_1 hc_2) (cwV 1 hts gX5_revoke_X5_requireGrant rfl rfl rfl (by decide +kernel) ⟨Nat.le_of_ble_eq_true rfl, Nat.le_of_ble_eq_true rfl⟩) 5 rfl rfl rfl rfl hl.1 rfl (Nat.le_of_ble_eq_true rfl) dX5_revoke_2 hK hP (hD0.addr (wLR_fst.trans wLR_fst.symm)) hS hA [0, 1, 2, 3, 4, 5, 6, 7, 8, 9, 10, 11, 12, 13, 14, 15, 16, 17, 18, 19, 20, 21, 22, 23, 24, 25, 26, 27, 28, 29, 30, 31, 32, 33, 34, 35, 36, 37, 38, 39, 40, 41, 42, 43, 44, 45, 46, 47, 48, 49, 50, 51, 52, 53, 54, 55, 56, 57, 58, 59, 60, 61, 62, 63, 64, 65, 66, 67, 68, 69, 70, 71, 72, 73, 74, 75, 76] (by decide +kernel) lC_a (pt_setid _ _ _ lC_a) rfl ⟨Nat.zero_le _, Nat.zero_le _⟩ (fun H locs hP hD hS => ?_)
    refine lv_istore_n (lv' := [(2, .int r_1), (0, .ref (x0)), (1, .int x1)]) hx hb dX5_revoke_5 rfl hl (by decide) rfl (fun ls hl => ?_)
    refine lv_aload_n hx hb dX5_revoke_6 rfl (lv_at hl 1 rfl) ?_
    refine va_get (D := X.1) (ci := 5) (v := .ref (y 0)) (C := RX5) (T := TX5) (N := 5) hx hb hts hiX5 hown hK.1 hP 0 rfl rfl 2 (by decide) k22 (fun _ h9 => h9) rfl dX5_revoke_7 ?_
    refine lv_aload_n hx hb dX5_revoke_10 rfl (lv_at hl 1 rfl) ?_
    refine va_get (D := X.1) (ci := 5) (v := .ref (hh 0)) (C := RX5) (T := TX5) (N := 5) hx hb hts hiX5 hown hK.1 hP 0 rfl rfl 0 (by decide) k10 (fun _ h9 => h9) rfl dX5_revoke_11 ?_
    obtain ⟨cn_4, ro_5, Qh_6, hc_7, hf⟩ := bd3_of hf
    refine fn_VJ (v := none) (As := [.ref (hh 0)]) (rest := []) (st1 := []) (ws' := (wLR X x0 hh ht ch tx y hy rP fP rT fT rG fG rL fL rH fH gi di re ti rPT fPT rTT fTT rGT fGT rLT fLT rHT fHT giT diT reT tiT rS fS rB fB rO fO pl fa cn_4 ro_5 Qh_6)) (nL := 3) ⟨hx, hb, hml, hown, hts⟩ (c_X1_keep l X y hy hh cn ro Qh rP fP rT fT rG fG rL fL rH fH gi di re ti cn_4 ro_5 Qh_6 hc_7) (cwV 1 hts gX5_revoke_X1_keep rfl rfl rfl (by decide +kernel) ⟨Nat.le_of_ble_eq_true rfl, Nat.le_of_ble_eq_true rfl⟩) 1 rfl rfl rfl rfl hl.1 rfl (Nat.le_of_ble_eq_true rfl) dX5_revoke_14 hK hP (hD0.addr (wLR_fst.trans wLR_fst.symm)) hS hA [31, 32, 33, 34, 35, 36, 37, 38, 39, 40, 41, 42, 43, 44, 45, 46, 47, 48, 49, 50, 51, 52, 53, 54, 55, 56, 57, 58, 59, 60, 61, 62, 63, 64, 65, 66, 67, 68, 69, 70, 71, 72, 73, 74, 75, 76, 1, 2, 3, 4, 5, 6, 7, 8, 9, 10, 11] (by decide +kernel) lC_ih lJ_ih (wLR_fst.trans wLR_fst.symm) rfl ⟨Nat.zero_le _, Nat.zero_le _⟩ (fun H locs hP hD hS => ?_)
    refine lv_aload_n hx hb dX5_revoke_17 rfl (lv_at hl 1 rfl) ?_
    refine va_get (D := X.1) (ci := 5) (v := .ref (hh 0)) (C := RX5) (T := TX5) (N := 5) hx hb hts hiX5 hown hK.1 hP 0 rfl rfl 0 (by decide) k10 (fun _ h9 => h9) rfl dX5_revoke_18 ?_
    refine lv_iload_n hx hb dX5_revoke_21 rfl (lv_at hl 0 rfl) ?_
    obtain ⟨r_8, rG_9, fG_10, fH_11, re_12, hc_13, hf⟩ := bd5_of hf
    refine fn_VJ (v := some (.int r_8)) (As := [.int r_1]) (rest := []) (st1 := [.int r_8]) (ws' := (wLR X x0 hh ht ch tx y hy rP fP rT fT rG_9 fG_10 rL fL rH fH_11 gi di re_12 ti rPT fPT rTT fTT rGT fGT rLT fLT rHT fHT giT diT reT tiT rS fS rB fB rO fO pl fa cn_4 ro_5 Qh_6)) (nL := 3) ⟨hx, hb, hml, hown, hts⟩ (c_X2_takeBack l X hh rP fP rT fT rG fG rL fL rH fH gi di re ti r_1 r_8 rG_9 fG_10 fH_11 re_12 hc_13) (cwV 1 hts gX5_revoke_X2_takeBack rfl rfl rfl (by decide +kernel) ⟨Nat.le_of_ble_eq_true rfl, Nat.le_of_ble_eq_true rfl⟩) 2 rfl rfl rfl rfl hl.1 rfl (Nat.le_of_ble_eq_true rfl) dX5_revoke_22 hK hP (hD0.addr (wLR_fst.trans wLR_fst.symm)) hS hA [1, 2, 3, 4, 5, 6, 7, 8, 9, 10, 11] (by decide +kernel) lC_h lJ_h (wLR_fst.trans wLR_fst.symm) rfl ⟨Nat.zero_le _, Nat.zero_le _⟩ (fun H locs hP hD hS => ?_)
    cases hf

def f_X5_cheer (x1 : Int32) (x2 : Int32) (rP : Int32) (fP : (Nat → Int32)) (rT : Int32) (fT : (Nat → Int32)) (rG : Int32) (fG : (Nat → Int32)) (rL : Int32) (fL : (Nat → Int32)) (rH : Int32) (fH : (Nat → Int32)) (gi : Int32) (di : Int32) (re : Int32) (ti : Int32) (cn : Int32) (ro : Nat) (Qh : (Nat → HS)) : Option ((String × (Nat → Int32) × Int32 × (Nat → Int32) × Int32 × (Nat → Int32) × (Nat → Int32) × Int32 × Int32 × Nat × (Nat → HS)) ⊕ (Int32 × (Nat → Int32) × Int32 × (Nat → Int32) × Int32 × (Nat → Int32) × (Nat → Int32) × Int32 × Int32 × Nat × (Nat → HS))) :=
  bx (f_X5_requirePerson x1) (fun E_3 => some (.inl (E_3, fP, rG, fG, rL, fL, fH, di, cn, ro, Qh))) (fun u_2 =>
  bx (f_X5_requireRange x2 (-100 : Int32) (100 : Int32)) (fun E_6 => some (.inl (E_6, fP, rG, fG, rL, fL, fH, di, cn, ro, Qh))) (fun u_5 =>
  bd3 (f_X1_keep cn ro Qh rP fP rT fT rG fG rL fL rH fH gi di re ti) (fun cn_7 ro_8 Qh_9 =>
  bd8 (f_X2_changeMood x1 x2 rP fP rT fT rG fG rL fL rH fH di ti) (fun r_11 fP_12 rG_13 fG_14 rL_15 fL_16 fH_17 di_18 =>
  some (.inr (r_11, fP_12, rG_13, fG_14, rL_15, fL_16, fH_17, di_18, cn_7, ro_8, Qh_9))))))
set_option maxHeartbeats 4000000 in
set_option maxRecDepth 100000 in
theorem c_X5_cheer (l : Launch) (X : cx_G) (x0 : Nat) (hh : (Nat → Nat)) (ht : (Nat → Nat)) (ch : (Nat → Nat)) (tx : (Nat → Nat)) (y : (Nat → Nat)) (hy : (Nat → Nat → Nat)) (rP : Int32) (fP : (Nat → Int32)) (rT : Int32) (fT : (Nat → Int32)) (rG : Int32) (fG : (Nat → Int32)) (rL : Int32) (fL : (Nat → Int32)) (rH : Int32) (fH : (Nat → Int32)) (gi : Int32) (di : Int32) (re : Int32) (ti : Int32) (rPT : Int32) (fPT : (Nat → Int32)) (rTT : Int32) (fTT : (Nat → Int32)) (rGT : Int32) (fGT : (Nat → Int32)) (rLT : Int32) (fLT : (Nat → Int32)) (rHT : Int32) (fHT : (Nat → Int32)) (giT : Int32) (diT : Int32) (reT : Int32) (tiT : Int32) (rS : Int32) (fS : (Nat → Int32)) (rB : Int32) (fB : (Nat → Int32)) (rO : Int32) (fO : (Nat → Int32)) (pl : Int32) (fa : Int32) (cn : Int32) (ro : Nat) (Qh : (Nat → HS)) (x1 : Int32) (x2 : Int32) (r : Int32) (fP' : (Nat → Int32)) (rG' : Int32) (fG' : (Nat → Int32)) (rL' : Int32) (fL' : (Nat → Int32)) (fH' : (Nat → Int32)) (di' : Int32) (cn' : Int32) (ro' : Nat) (Qh' : (Nat → HS)) (hf : f_X5_cheer x1 x2 rP fP rT fT rG fG rL fL rH fH gi di re ti cn ro Qh = some (.inr (r, fP', rG', fG', rL', fL', fH', di', cn', ro', Qh'))) : Fn l yX5_cheer wsX5_cheer ({ frames := 4, cells := 0, slots := 0, locals := 98 } : Room) X [.ref (x0), .int x1, .int x2] (wLR X x0 hh ht ch tx y hy rP fP rT fT rG fG rL fL rH fH gi di re ti rPT fPT rTT fTT rGT fGT rLT fLT rHT fHT giT diT reT tiT rS fS rB fB rO fO pl fa cn ro Qh) (some (.int r)) (wLR X x0 hh ht ch tx y hy rP fP' rT fT rG' fG' rL' fL' rH fH' gi di' re ti rPT fPT rTT fTT rGT fGT rLT fLT rHT fHT giT diT reT tiT rS fS rB fB rO fO pl fa cn' ro' Qh') := by
  refine fn_intro (cc := cX5_cheer) (maxL := 3) (ret := (some .int)) (by decide) rfl (wLR_fst.trans wLR_fst.symm) (Nat.le_of_ble_eq_true rfl) ?_
  intro p e s m args below meth c A ls hx hb hml hr hts hown hlocks hK hP hD0 hS hA hl
  have hown : s.vm.findClass RX5 = some m.cls := hown
  have hl : lv_has ls 3 [(0, .ref (x0)), (1, .int x1), (2, .int x2)] := hl
  have hiX5 : ∀ w ∈ u_ws RX5 TX5 5, w ∈ wsX5_cheer := by decide +kernel
  have k10 := hts (.fieldLink RX5 10 "LentRights" "house" "LLentRights$House;") (by decide +kernel)
  have k22 := hts (.fieldLink RX5 22 "LentRights" "history" "LLentRights$History;") (by decide +kernel)
  unfold f_X5_cheer at hf
  refine lv_iload_n hx hb dX5_cheer_0 rfl (lv_at hl 1 rfl) ?_
  rcases bx_of hf with ⟨E_3, hc_1, hf⟩ | ⟨u_2, hc_1, hf⟩
  · cases hf
  · refine fn_Sx (v := none) (As := [.int x1]) (rest := []) (st1 := []) (ws' := (wLR X x0 hh ht ch tx y hy rP fP rT fT rG fG rL fL rH fH gi di re ti rPT fPT rTT fTT rGT fGT rLT fLT rHT fHT giT diT reT tiT rS fS rB fB rO fO pl fa cn ro Qh)) (nL := 3) ⟨hx, hb, hml, hown, hts⟩ (c_X5_requirePerson l X x1 hc_1) (va_cwS 1 hts gX5_cheer_X5_requirePerson rfl rfl rfl (by decide +kernel) ⟨Nat.le_of_ble_eq_true rfl, Nat.le_of_ble_eq_true rfl⟩) rfl hl.1 rfl (Nat.le_of_ble_eq_true rfl) dX5_cheer_1 hK hP (hD0.addr (wLR_fst.trans wLR_fst.symm)) hS hA [] (by decide +kernel) rfl (pt_setid _ _ _ rfl) rfl ⟨Nat.zero_le _, Nat.zero_le _⟩ (fun H locs hP hD hS => ?_)
    refine lv_iload_n hx hb dX5_cheer_4 rfl (lv_at hl 2 rfl) ?_
    refine lv_bipush (v := -100) hx hb dX5_cheer_5 (by decide) ?_
    refine lv_bipush (v := 100) hx hb dX5_cheer_7 (by decide) ?_
    rcases bx_of hf with ⟨E_6, hc_4, hf⟩ | ⟨u_5, hc_4, hf⟩
    · cases hf
    · refine fn_Sx (v := none) (As := [.int x2, .int (-100 : Int32), .int (100 : Int32)]) (rest := []) (st1 := []) (ws' := (wLR X x0 hh ht ch tx y hy rP fP rT fT rG fG rL fL rH fH gi di re ti rPT fPT rTT fTT rGT fGT rLT fLT rHT fHT giT diT reT tiT rS fS rB fB rO fO pl fa cn ro Qh)) (nL := 3) ⟨hx, hb, hml, hown, hts⟩ (c_X5_requireRange l X x2 (-100 : Int32) (100 : Int32) hc_4) (va_cwS 3 hts gX5_cheer_X5_requireRange rfl rfl rfl (by decide +kernel) ⟨Nat.le_of_ble_eq_true rfl, Nat.le_of_ble_eq_true rfl⟩) rfl hl.1 rfl (Nat.le_of_ble_eq_true rfl) dX5_cheer_9 hK hP (hD0.addr (wLR_fst.trans wLR_fst.symm)) hS hA [] (by decide +kernel) rfl (pt_setid _ _ _ rfl) rfl ⟨Nat.zero_le _, Nat.zero_le _⟩ (fun H locs hP hD hS => ?_)
      refine lv_aload_n hx hb dX5_cheer_12 rfl (lv_at hl 0 rfl) ?_
      refine va_get (D := X.1) (ci := 5) (v := .ref (y 0)) (C := RX5) (T := TX5) (N := 5) hx hb hts hiX5 hown hK.1 hP 0 rfl rfl 2 (by decide) k22 (fun _ h9 => h9) rfl dX5_cheer_13 ?_
      refine lv_aload_n hx hb dX5_cheer_16 rfl (lv_at hl 0 rfl) ?_
      refine va_get (D := X.1) (ci := 5) (v := .ref (hh 0)) (C := RX5) (T := TX5) (N := 5) hx hb hts hiX5 hown hK.1 hP 0 rfl rfl 0 (by decide) k10 (fun _ h9 => h9) rfl dX5_cheer_17 ?_
      obtain ⟨cn_7, ro_8, Qh_9, hc_10, hf⟩ := bd3_of hf
      refine fn_VJ (v := none) (As := [.ref (hh 0)]) (rest := []) (st1 := []) (ws' := (wLR X x0 hh ht ch tx y hy rP fP rT fT rG fG rL fL rH fH gi di re ti rPT fPT rTT fTT rGT fGT rLT fLT rHT fHT giT diT reT tiT rS fS rB fB rO fO pl fa cn_7 ro_8 Qh_9)) (nL := 3) ⟨hx, hb, hml, hown, hts⟩ (c_X1_keep l X y hy hh cn ro Qh rP fP rT fT rG fG rL fL rH fH gi di re ti cn_7 ro_8 Qh_9 hc_10) (cwV 1 hts gX5_cheer_X1_keep rfl rfl rfl (by decide +kernel) ⟨Nat.le_of_ble_eq_true rfl, Nat.le_of_ble_eq_true rfl⟩) 1 rfl rfl rfl rfl hl.1 rfl (Nat.le_of_ble_eq_true rfl) dX5_cheer_20 hK hP (hD0.addr (wLR_fst.trans wLR_fst.symm)) hS hA [31, 32, 33, 34, 35, 36, 37, 38, 39, 40, 41, 42, 43, 44, 45, 46, 47, 48, 49, 50, 51, 52, 53, 54, 55, 56, 57, 58, 59, 60, 61, 62, 63, 64, 65, 66, 67, 68, 69, 70, 71, 72, 73, 74, 75, 76, 1, 2, 3, 4, 5, 6, 7, 8, 9, 10, 11] (by decide +kernel) lC_ih lJ_ih (wLR_fst.trans wLR_fst.symm) rfl ⟨Nat.zero_le _, Nat.zero_le _⟩ (fun H locs hP hD hS => ?_)
      refine lv_aload_n hx hb dX5_cheer_23 rfl (lv_at hl 0 rfl) ?_
      refine va_get (D := X.1) (ci := 5) (v := .ref (hh 0)) (C := RX5) (T := TX5) (N := 5) hx hb hts hiX5 hown hK.1 hP 0 rfl rfl 0 (by decide) k10 (fun _ h9 => h9) rfl dX5_cheer_24 ?_
      refine lv_iload_n hx hb dX5_cheer_27 rfl (lv_at hl 1 rfl) ?_
      refine lv_iload_n hx hb dX5_cheer_28 rfl (lv_at hl 2 rfl) ?_
      obtain ⟨r_11, fP_12, rG_13, fG_14, rL_15, fL_16, fH_17, di_18, hc_19, hf⟩ := bd8_of hf
      refine fn_VJ (v := some (.int r_11)) (As := [.int x1, .int x2]) (rest := []) (st1 := [.int r_11]) (ws' := (wLR X x0 hh ht ch tx y hy rP fP_12 rT fT rG_13 fG_14 rL_15 fL_16 rH fH_17 gi di_18 re ti rPT fPT rTT fTT rGT fGT rLT fLT rHT fHT giT diT reT tiT rS fS rB fB rO fO pl fa cn_7 ro_8 Qh_9)) (nL := 3) ⟨hx, hb, hml, hown, hts⟩ (c_X2_changeMood l X hh rP fP rT fT rG fG rL fL rH fH gi di re ti x1 x2 r_11 fP_12 rG_13 fG_14 rL_15 fL_16 fH_17 di_18 hc_19) (cwV 2 hts gX5_cheer_X2_changeMood rfl rfl rfl (by decide +kernel) ⟨Nat.le_of_ble_eq_true rfl, Nat.le_of_ble_eq_true rfl⟩) 2 rfl rfl rfl rfl hl.1 rfl (Nat.le_of_ble_eq_true rfl) dX5_cheer_29 hK hP (hD0.addr (wLR_fst.trans wLR_fst.symm)) hS hA [1, 2, 3, 4, 5, 6, 7, 8, 9, 10, 11] (by decide +kernel) lC_h lJ_h (wLR_fst.trans wLR_fst.symm) rfl ⟨Nat.zero_le _, Nat.zero_le _⟩ (fun H locs hP hD hS => ?_)
      cases hf
      exact fn_iret hx hb hr hlocks hP hS dX5_cheer_32
set_option maxHeartbeats 4000000 in
set_option maxRecDepth 100000 in
theorem c_X5_cheer_x (l : Launch) (hfl : l.stackTraces = false) (X : cx_G) (x0 : Nat) (hh : (Nat → Nat)) (ht : (Nat → Nat)) (ch : (Nat → Nat)) (tx : (Nat → Nat)) (y : (Nat → Nat)) (hy : (Nat → Nat → Nat)) (rP : Int32) (fP : (Nat → Int32)) (rT : Int32) (fT : (Nat → Int32)) (rG : Int32) (fG : (Nat → Int32)) (rL : Int32) (fL : (Nat → Int32)) (rH : Int32) (fH : (Nat → Int32)) (gi : Int32) (di : Int32) (re : Int32) (ti : Int32) (rPT : Int32) (fPT : (Nat → Int32)) (rTT : Int32) (fTT : (Nat → Int32)) (rGT : Int32) (fGT : (Nat → Int32)) (rLT : Int32) (fLT : (Nat → Int32)) (rHT : Int32) (fHT : (Nat → Int32)) (giT : Int32) (diT : Int32) (reT : Int32) (tiT : Int32) (rS : Int32) (fS : (Nat → Int32)) (rB : Int32) (fB : (Nat → Int32)) (rO : Int32) (fO : (Nat → Int32)) (pl : Int32) (fa : Int32) (cn : Int32) (ro : Nat) (Qh : (Nat → HS)) (x1 : Int32) (x2 : Int32) (E : String) (fP' : (Nat → Int32)) (rG' : Int32) (fG' : (Nat → Int32)) (rL' : Int32) (fL' : (Nat → Int32)) (fH' : (Nat → Int32)) (di' : Int32) (cn' : Int32) (ro' : Nat) (Qh' : (Nat → HS)) (hf : f_X5_cheer x1 x2 rP fP rT fT rG fG rL fL rH fH gi di re ti cn ro Qh = some (.inl (E, fP', rG', fG', rL', fL', fH', di', cn', ro', Qh'))) : Tx l yX5_cheer wsX5_cheer ({ frames := 7, cells := 1, slots := 6, locals := 112 } : Room) X [.ref (x0), .int x1, .int x2] (wLR X x0 hh ht ch tx y hy rP fP rT fT rG fG rL fL rH fH gi di re ti rPT fPT rTT fTT rGT fGT rLT fLT rHT fHT giT diT reT tiT rS fS rB fB rO fO pl fa cn ro Qh) E (wLR X x0 hh ht ch tx y hy rP fP' rT fT rG' fG' rL' fL' rH fH' gi di' re ti rPT fPT rTT fTT rGT fGT rLT fLT rHT fHT giT diT reT tiT rS fS rB fB rO fO pl fa cn' ro' Qh') := by
  refine tx_intro (cc := cX5_cheer) (maxL := 3) (ret := (some .int)) (by decide) rfl (wLR_fst.trans wLR_fst.symm) (Nat.le_of_ble_eq_true rfl) ?_
  intro p e s m args below meth c A ls hx hb hml hr hts hown hlocks hne hK hP hD0 hS hA hTS hTZ hl
  have hown : s.vm.findClass RX5 = some m.cls := hown
  have hl : lv_has ls 3 [(0, .ref (x0)), (1, .int x1), (2, .int x2)] := hl
  have hiX5 : ∀ w ∈ u_ws RX5 TX5 5, w ∈ wsX5_cheer := by decide +kernel
  have k10 := hts (.fieldLink RX5 10 "LentRights" "house" "LLentRights$House;") (by decide +kernel)
  have k22 := hts (.fieldLink RX5 22 "LentRights" "history" "LLentRights$History;") (by decide +kernel)
  unfold f_X5_cheer at hf
  refine lv_iload_n hx hb dX5_cheer_0 rfl (lv_at hl 1 rfl) ?_
  rcases bx_of hf with ⟨E_3, hc_1, hf⟩ | ⟨u_2, hc_1, hf⟩
  · cases hf
    exact tx_Sx (As := [.int x1]) (rest := []) (nL := 3) hne hlocks ⟨hx, hb, hml, hown, hts⟩ (c_X5_requirePerson_x l hfl X x1 E hc_1) (va_cwS 1 hts gX5_cheer_X5_requirePerson rfl rfl rfl (by decide +kernel) ⟨Nat.le_of_ble_eq_true rfl, Nat.le_of_ble_eq_true rfl⟩) rfl hl.1 rfl (Nat.le_of_ble_eq_true rfl) dX5_cheer_1 hTS hTZ hK hP (hD0.addr (wLR_fst.trans wLR_fst.symm)) hS hA [] (by decide +kernel) rfl (pt_setid _ _ _ rfl) ⟨Nat.le_of_ble_eq_true rfl, Nat.le_of_ble_eq_true rfl⟩
  · refine fn_Sx (v := none) (As := [.int x1]) (rest := []) (st1 := []) (ws' := (wLR X x0 hh ht ch tx y hy rP fP rT fT rG fG rL fL rH fH gi di re ti rPT fPT rTT fTT rGT fGT rLT fLT rHT fHT giT diT reT tiT rS fS rB fB rO fO pl fa cn ro Qh)) (nL := 3) ⟨hx, hb, hml, hown, hts⟩ (c_X5_requirePerson l X x1 hc_1) (va_cwS 1 hts gX5_cheer_X5_requirePerson rfl rfl rfl (by decide +kernel) ⟨Nat.le_of_ble_eq_true rfl, Nat.le_of_ble_eq_true rfl⟩) rfl hl.1 rfl (Nat.le_of_ble_eq_true rfl) dX5_cheer_1 hK hP (hD0.addr (wLR_fst.trans wLR_fst.symm)) hS hA [] (by decide +kernel) rfl (pt_setid _ _ _ rfl) rfl ⟨Nat.zero_le _, Nat.zero_le _⟩ (fun H locs hP hD hS => ?_)
    refine lv_iload_n hx hb dX5_cheer_4 rfl (lv_at hl 2 rfl) ?_
    refine lv_bipush (v := -100) hx hb dX5_cheer_5 (by decide) ?_
    refine lv_bipush (v := 100) hx hb dX5_cheer_7 (by decide) ?_
    rcases bx_of hf with ⟨E_6, hc_4, hf⟩ | ⟨u_5, hc_4, hf⟩
    · cases hf
      exact tx_Sx (As := [.int x2, .int (-100 : Int32), .int (100 : Int32)]) (rest := []) (nL := 3) hne hlocks ⟨hx, hb, hml, hown, hts⟩ (c_X5_requireRange_x l hfl X x2 (-100 : Int32) (100 : Int32) E hc_4) (va_cwS 3 hts gX5_cheer_X5_requireRange rfl rfl rfl (by decide +kernel) ⟨Nat.le_of_ble_eq_true rfl, Nat.le_of_ble_eq_true rfl⟩) rfl hl.1 rfl (Nat.le_of_ble_eq_true rfl) dX5_cheer_9 hTS hTZ hK hP (hD0.addr (wLR_fst.trans wLR_fst.symm)) hS hA [] (by decide +kernel) rfl (pt_setid _ _ _ rfl) ⟨Nat.le_of_ble_eq_true rfl, Nat.le_of_ble_eq_true rfl⟩
    · refine fn_Sx (v := none) (As := [.int x2, .int (-100 : Int32), .int (100 : Int32)]) (rest := []) (st1 := []) (ws' := (wLR X x0 hh ht ch tx y hy rP fP rT fT rG fG rL fL rH fH gi di re ti rPT fPT rTT fTT rGT fGT rLT fLT rHT fHT giT diT reT tiT rS fS rB fB rO fO pl fa cn ro Qh)) (nL := 3) ⟨hx, hb, hml, hown, hts⟩ (c_X5_requireRange l X x2 (-100 : Int32) (100 : Int32) hc_4) (va_cwS 3 hts gX5_cheer_X5_requireRange rfl rfl rfl (by decide +kernel) ⟨Nat.le_of_ble_eq_true rfl, Nat.le_of_ble_eq_true rfl⟩) rfl hl.1 rfl (Nat.le_of_ble_eq_true rfl) dX5_cheer_9 hK hP (hD0.addr (wLR_fst.trans wLR_fst.symm)) hS hA [] (by decide +kernel) rfl (pt_setid _ _ _ rfl) rfl ⟨Nat.zero_le _, Nat.zero_le _⟩ (fun H locs hP hD hS => ?_)
      refine lv_aload_n hx hb dX5_cheer_12 rfl (lv_at hl 0 rfl) ?_
      refine va_get (D := X.1) (ci := 5) (v := .ref (y 0)) (C := RX5) (T := TX5) (N := 5) hx hb hts hiX5 hown hK.1 hP 0 rfl rfl 2 (by decide) k22 (fun _ h9 => h9) rfl dX5_cheer_13 ?_
      refine lv_aload_n hx hb dX5_cheer_16 rfl (lv_at hl 0 rfl) ?_
      refine va_get (D := X.1) (ci := 5) (v := .ref (hh 0)) (C := RX5) (T := TX5) (N := 5) hx hb hts hiX5 hown hK.1 hP 0 rfl rfl 0 (by decide) k10 (fun _ h9 => h9) rfl dX5_cheer_17 ?_
      obtain ⟨cn_7, ro_8, Qh_9, hc_10, hf⟩ := bd3_of hf
      refine fn_VJ (v := none) (As := [.ref (hh 0)]) (rest := []) (st1 := []) (ws' := (wLR X x0 hh ht ch tx y hy rP fP rT fT rG fG rL fL rH fH gi di re ti rPT fPT rTT fTT rGT fGT rLT fLT rHT fHT giT diT reT tiT rS fS rB fB rO fO pl fa cn_7 ro_8 Qh_9)) (nL := 3) ⟨hx, hb, hml, hown, hts⟩ (c_X1_keep l X y hy hh cn ro Qh rP fP rT fT rG fG rL fL rH fH gi di re ti cn_7 ro_8 Qh_9 hc_10) (cwV 1 hts gX5_cheer_X1_keep rfl rfl rfl (by decide +kernel) ⟨Nat.le_of_ble_eq_true rfl, Nat.le_of_ble_eq_true rfl⟩) 1 rfl rfl rfl rfl hl.1 rfl (Nat.le_of_ble_eq_true rfl) dX5_cheer_20 hK hP (hD0.addr (wLR_fst.trans wLR_fst.symm)) hS hA [31, 32, 33, 34, 35, 36, 37, 38, 39, 40, 41, 42, 43, 44, 45, 46, 47, 48, 49, 50, 51, 52, 53, 54, 55, 56, 57, 58, 59, 60, 61, 62, 63, 64, 65, 66, 67, 68, 69, 70, 71, 72, 73, 74, 75, 76, 1, 2, 3, 4, 5, 6, 7, 8, 9, 10, 11] (by decide +kernel) lC_ih lJ_ih (wLR_fst.trans wLR_fst.symm) rfl ⟨Nat.zero_le _, Nat.zero_le _⟩ (fun H locs hP hD hS => ?_)
      refine lv_aload_n hx hb dX5_cheer_23 rfl (lv_at hl 0 rfl) ?_
      refine va_get (D := X.1) (ci := 5) (v := .ref (hh 0)) (C := RX5) (T := TX5) (N := 5) hx hb hts hiX5 hown hK.1 hP 0 rfl rfl 0 (by decide) k10 (fun _ h9 => h9) rfl dX5_cheer_24 ?_
      refine lv_iload_n hx hb dX5_cheer_27 rfl (lv_at hl 1 rfl) ?_
      refine lv_iload_n hx hb dX5_cheer_28 rfl (lv_at hl 2 rfl) ?_
      obtain ⟨r_11, fP_12, rG_13, fG_14, rL_15, fL_16, fH_17, di_18, hc_19, hf⟩ := bd8_of hf
      refine fn_VJ (v := some (.int r_11)) (As := [.int x1, .int x2]) (rest := []) (st1 := [.int r_11]) (ws' := (wLR X x0 hh ht ch tx y hy rP fP_12 rT fT rG_13 fG_14 rL_15 fL_16 rH fH_17 gi di_18 re ti rPT fPT rTT fTT rGT fGT rLT fLT rHT fHT giT diT reT tiT rS fS rB fB rO fO pl fa cn_7 ro_8 Qh_9)) (nL := 3) ⟨hx, hb, hml, hown, hts⟩ (c_X2_changeMood l X hh rP fP rT fT rG fG rL fL rH fH gi di re ti x1 x2 r_11 fP_12 rG_13 fG_14 rL_15 fL_16 fH_17 di_18 hc_19) (cwV 2 hts gX5_cheer_X2_changeMood rfl rfl rfl (by decide +kernel) ⟨Nat.le_of_ble_eq_true rfl, Nat.le_of_ble_eq_true rfl⟩) 2 rfl rfl rfl rfl hl.1 rfl (Nat.le_of_ble_eq_true rfl) dX5_cheer_29 hK hP (hD0.addr (wLR_fst.trans wLR_fst.symm)) hS hA [1, 2, 3, 4, 5, 6, 7, 8, 9, 10, 11] (by decide +kernel) lC_h lJ_h (wLR_fst.trans wLR_fst.symm) rfl ⟨Nat.zero_le _, Nat.zero_le _⟩ (fun H locs hP hD hS => ?_)
      cases hf

def f_X5_pass (x1 : Int32) (rP : Int32) (fP : (Nat → Int32)) (rT : Int32) (fT : (Nat → Int32)) (rG : Int32) (fG : (Nat → Int32)) (rL : Int32) (fL : (Nat → Int32)) (rH : Int32) (fH : (Nat → Int32)) (gi : Int32) (di : Int32) (re : Int32) (ti : Int32) (cn : Int32) (ro : Nat) (Qh : (Nat → HS)) : Option ((String × (Nat → Int32) × Int32 × (Nat → Int32) × Int32 × (Nat → Int32) × (Nat → Int32) × Int32 × Int32 × Int32 × Nat × (Nat → HS)) ⊕ (Int32 × (Nat → Int32) × Int32 × (Nat → Int32) × Int32 × (Nat → Int32) × (Nat → Int32) × Int32 × Int32 × Int32 × Nat × (Nat → HS))) :=
  bx (f_X5_requireRange x1 (1 : Int32) (100 : Int32)) (fun E_3 => some (.inl (E_3, fP, rG, fG, rL, fL, fH, di, ti, cn, ro, Qh))) (fun u_2 =>
  bd (f_X2_hasTimeFor x1 ti) (fun r_4 =>
  if r_4 = (0 : Int32) then
  (some (.inl ("java/lang/IllegalStateException", fP, rG, fG, rL, fL, fH, di, ti, cn, ro, Qh)))
  else
  (bd3 (f_X1_keep cn ro Qh rP fP rT fT rG fG rL fL rH fH gi di re ti) (fun cn_7 ro_8 Qh_9 =>
  bd9 (f_X2_letPass x1 rP fP rT fT rG fG rL fL rH fH di ti) (fun r_11 fP_12 rG_13 fG_14 rL_15 fL_16 fH_17 di_18 ti_19 =>
  some (.inr (r_11, fP_12, rG_13, fG_14, rL_15, fL_16, fH_17, di_18, ti_19, cn_7, ro_8, Qh_9)))))))
set_option maxHeartbeats 4000000 in
set_option maxRecDepth 100000 in
theorem c_X5_pass (l : Launch) (X : cx_G) (x0 : Nat) (hh : (Nat → Nat)) (ht : (Nat → Nat)) (ch : (Nat → Nat)) (tx : (Nat → Nat)) (y : (Nat → Nat)) (hy : (Nat → Nat → Nat)) (rP : Int32) (fP : (Nat → Int32)) (rT : Int32) (fT : (Nat → Int32)) (rG : Int32) (fG : (Nat → Int32)) (rL : Int32) (fL : (Nat → Int32)) (rH : Int32) (fH : (Nat → Int32)) (gi : Int32) (di : Int32) (re : Int32) (ti : Int32) (rPT : Int32) (fPT : (Nat → Int32)) (rTT : Int32) (fTT : (Nat → Int32)) (rGT : Int32) (fGT : (Nat → Int32)) (rLT : Int32) (fLT : (Nat → Int32)) (rHT : Int32) (fHT : (Nat → Int32)) (giT : Int32) (diT : Int32) (reT : Int32) (tiT : Int32) (rS : Int32) (fS : (Nat → Int32)) (rB : Int32) (fB : (Nat → Int32)) (rO : Int32) (fO : (Nat → Int32)) (pl : Int32) (fa : Int32) (cn : Int32) (ro : Nat) (Qh : (Nat → HS)) (x1 : Int32) (r : Int32) (fP' : (Nat → Int32)) (rG' : Int32) (fG' : (Nat → Int32)) (rL' : Int32) (fL' : (Nat → Int32)) (fH' : (Nat → Int32)) (di' : Int32) (ti' : Int32) (cn' : Int32) (ro' : Nat) (Qh' : (Nat → HS)) (hf : f_X5_pass x1 rP fP rT fT rG fG rL fL rH fH gi di re ti cn ro Qh = some (.inr (r, fP', rG', fG', rL', fL', fH', di', ti', cn', ro', Qh'))) : Fn l yX5_pass wsX5_pass ({ frames := 4, cells := 0, slots := 0, locals := 98 } : Room) X [.ref (x0), .int x1] (wLR X x0 hh ht ch tx y hy rP fP rT fT rG fG rL fL rH fH gi di re ti rPT fPT rTT fTT rGT fGT rLT fLT rHT fHT giT diT reT tiT rS fS rB fB rO fO pl fa cn ro Qh) (some (.int r)) (wLR X x0 hh ht ch tx y hy rP fP' rT fT rG' fG' rL' fL' rH fH' gi di' re ti' rPT fPT rTT fTT rGT fGT rLT fLT rHT fHT giT diT reT tiT rS fS rB fB rO fO pl fa cn' ro' Qh') := by
  refine fn_intro (cc := cX5_pass) (maxL := 2) (ret := (some .int)) (by decide) rfl (wLR_fst.trans wLR_fst.symm) (Nat.le_of_ble_eq_true rfl) ?_
  intro p e s m args below meth c A ls hx hb hml hr hts hown hlocks hK hP hD0 hS hA hl
  have hown : s.vm.findClass RX5 = some m.cls := hown
  have hl : lv_has ls 2 [(0, .ref (x0)), (1, .int x1)] := hl
  have hiX5 : ∀ w ∈ u_ws RX5 TX5 5, w ∈ wsX5_pass := by decide +kernel
  have k10 := hts (.fieldLink RX5 10 "LentRights" "house" "LLentRights$House;") (by decide +kernel)
  have k22 := hts (.fieldLink RX5 22 "LentRights" "history" "LLentRights$History;") (by decide +kernel)
  unfold f_X5_pass at hf
  refine lv_iload_n hx hb dX5_pass_0 rfl (lv_at hl 1 rfl) ?_
  refine lv_iconst (v := 1) hx hb dX5_pass_1 (by decide) ?_
  refine lv_bipush (v := 100) hx hb dX5_pass_2 (by decide) ?_
  rcases bx_of hf with ⟨E_3, hc_1, hf⟩ | ⟨u_2, hc_1, hf⟩
  · cases hf
  · refine fn_Sx (v := none) (As := [.int x1, .int (1 : Int32), .int (100 : Int32)]) (rest := []) (st1 := []) (ws' := (wLR X x0 hh ht ch tx y hy rP fP rT fT rG fG rL fL rH fH gi di re ti rPT fPT rTT fTT rGT fGT rLT fLT rHT fHT giT diT reT tiT rS fS rB fB rO fO pl fa cn ro Qh)) (nL := 2) ⟨hx, hb, hml, hown, hts⟩ (c_X5_requireRange l X x1 (1 : Int32) (100 : Int32) hc_1) (va_cwS 3 hts gX5_pass_X5_requireRange rfl rfl rfl (by decide +kernel) ⟨Nat.le_of_ble_eq_true rfl, Nat.le_of_ble_eq_true rfl⟩) rfl hl.1 rfl (Nat.le_of_ble_eq_true rfl) dX5_pass_4 hK hP (hD0.addr (wLR_fst.trans wLR_fst.symm)) hS hA [] (by decide +kernel) rfl (pt_setid _ _ _ rfl) rfl ⟨Nat.zero_le _, Nat.zero_le _⟩ (fun H locs hP hD hS => ?_)
    refine lv_aload_n hx hb dX5_pass_7 rfl (lv_at hl 0 rfl) ?_
    refine va_get (D := X.1) (ci := 5) (v := .ref (hh 0)) (C := RX5) (T := TX5) (N := 5) hx hb hts hiX5 hown hK.1 hP 0 rfl rfl 0 (by decide) k10 (fun _ h9 => h9) rfl dX5_pass_8 ?_
    refine lv_iload_n hx hb dX5_pass_11 rfl (lv_at hl 1 rfl) ?_
    obtain ⟨r_4, hc_5, hf⟩ := bd_of hf
    refine fn_V (v := some (.int r_4)) (As := [.int x1]) (rest := []) (st1 := [.int r_4]) (ws' := (wLR X x0 hh ht ch tx y hy rP fP rT fT rG fG rL fL rH fH gi di re ti rPT fPT rTT fTT rGT fGT rLT fLT rHT fHT giT diT reT tiT rS fS rB fB rO fO pl fa cn ro Qh)) (nL := 2) ⟨hx, hb, hml, hown, hts⟩ (c_X2_hasTimeFor l X hh rP fP rT fT rG fG rL fL rH fH gi di re ti x1 r_4 hc_5) (cwV 1 hts gX5_pass_X2_hasTimeFor rfl rfl rfl (by decide +kernel) ⟨Nat.le_of_ble_eq_true rfl, Nat.le_of_ble_eq_true rfl⟩) 2 rfl rfl rfl rfl hl.1 rfl (Nat.le_of_ble_eq_true rfl) dX5_pass_12 hK hP (hD0.addr (wLR_fst.trans wLR_fst.symm)) hS hA [1, 2, 3, 4, 5, 6, 7, 8, 9, 10, 11] (by decide +kernel) lC_h (pt_setid _ _ _ lC_h) rfl ⟨Nat.zero_le _, Nat.zero_le _⟩ (fun H locs hP hD hS => ?_)
    refine lv_if_ne (tgt := 28) hx hb dX5_pass_15 (by decide) (fun c_6 => ?_) (fun c_6 => ?_)
    · replace hf := fp_f c_6 hf
      refine lv_aload_n hx hb dX5_pass_28 rfl (lv_at hl 0 rfl) ?_
      refine va_get (D := X.1) (ci := 5) (v := .ref (y 0)) (C := RX5) (T := TX5) (N := 5) hx hb hts hiX5 hown hK.1 hP 0 rfl rfl 2 (by decide) k22 (fun _ h9 => h9) rfl dX5_pass_29 ?_
      refine lv_aload_n hx hb dX5_pass_32 rfl (lv_at hl 0 rfl) ?_
      refine va_get (D := X.1) (ci := 5) (v := .ref (hh 0)) (C := RX5) (T := TX5) (N := 5) hx hb hts hiX5 hown hK.1 hP 0 rfl rfl 0 (by decide) k10 (fun _ h9 => h9) rfl dX5_pass_33 ?_
      obtain ⟨cn_7, ro_8, Qh_9, hc_10, hf⟩ := bd3_of hf
      refine fn_VJ (v := none) (As := [.ref (hh 0)]) (rest := []) (st1 := []) (ws' := (wLR X x0 hh ht ch tx y hy rP fP rT fT rG fG rL fL rH fH gi di re ti rPT fPT rTT fTT rGT fGT rLT fLT rHT fHT giT diT reT tiT rS fS rB fB rO fO pl fa cn_7 ro_8 Qh_9)) (nL := 2) ⟨hx, hb, hml, hown, hts⟩ (c_X1_keep l X y hy hh cn ro Qh rP fP rT fT rG fG rL fL rH fH gi di re ti cn_7 ro_8 Qh_9 hc_10) (cwV 1 hts gX5_pass_X1_keep rfl rfl rfl (by decide +kernel) ⟨Nat.le_of_ble_eq_true rfl, Nat.le_of_ble_eq_true rfl⟩) 1 rfl rfl rfl rfl hl.1 rfl (Nat.le_of_ble_eq_true rfl) dX5_pass_36 hK hP (hD0.addr (wLR_fst.trans wLR_fst.symm)) hS hA [31, 32, 33, 34, 35, 36, 37, 38, 39, 40, 41, 42, 43, 44, 45, 46, 47, 48, 49, 50, 51, 52, 53, 54, 55, 56, 57, 58, 59, 60, 61, 62, 63, 64, 65, 66, 67, 68, 69, 70, 71, 72, 73, 74, 75, 76, 1, 2, 3, 4, 5, 6, 7, 8, 9, 10, 11] (by decide +kernel) lC_ih lJ_ih (wLR_fst.trans wLR_fst.symm) rfl ⟨Nat.zero_le _, Nat.zero_le _⟩ (fun H locs hP hD hS => ?_)
      refine lv_aload_n hx hb dX5_pass_39 rfl (lv_at hl 0 rfl) ?_
      refine va_get (D := X.1) (ci := 5) (v := .ref (hh 0)) (C := RX5) (T := TX5) (N := 5) hx hb hts hiX5 hown hK.1 hP 0 rfl rfl 0 (by decide) k10 (fun _ h9 => h9) rfl dX5_pass_40 ?_
      refine lv_iload_n hx hb dX5_pass_43 rfl (lv_at hl 1 rfl) ?_
      obtain ⟨r_11, fP_12, rG_13, fG_14, rL_15, fL_16, fH_17, di_18, ti_19, hc_20, hf⟩ := bd9_of hf
      refine fn_VJ (v := some (.int r_11)) (As := [.int x1]) (rest := []) (st1 := [.int r_11]) (ws' := (wLR X x0 hh ht ch tx y hy rP fP_12 rT fT rG_13 fG_14 rL_15 fL_16 rH fH_17 gi di_18 re ti_19 rPT fPT rTT fTT rGT fGT rLT fLT rHT fHT giT diT reT tiT rS fS rB fB rO fO pl fa cn_7 ro_8 Qh_9)) (nL := 2) ⟨hx, hb, hml, hown, hts⟩ (c_X2_letPass l X hh rP fP rT fT rG fG rL fL rH fH gi di re ti x1 r_11 fP_12 rG_13 fG_14 rL_15 fL_16 fH_17 di_18 ti_19 hc_20) (cwV 1 hts gX5_pass_X2_letPass rfl rfl rfl (by decide +kernel) ⟨Nat.le_of_ble_eq_true rfl, Nat.le_of_ble_eq_true rfl⟩) 2 rfl rfl rfl rfl hl.1 rfl (Nat.le_of_ble_eq_true rfl) dX5_pass_44 hK hP (hD0.addr (wLR_fst.trans wLR_fst.symm)) hS hA [1, 2, 3, 4, 5, 6, 7, 8, 9, 10, 11] (by decide +kernel) lC_h lJ_h (wLR_fst.trans wLR_fst.symm) rfl ⟨Nat.zero_le _, Nat.zero_le _⟩ (fun H locs hP hD hS => ?_)
      cases hf
      exact fn_iret hx hb hr hlocks hP hS dX5_pass_47
    · replace hf := fp_t c_6 hf
      cases hf
set_option maxHeartbeats 4000000 in
set_option maxRecDepth 100000 in
theorem c_X5_pass_x (l : Launch) (hfl : l.stackTraces = false) (X : cx_G) (x0 : Nat) (hh : (Nat → Nat)) (ht : (Nat → Nat)) (ch : (Nat → Nat)) (tx : (Nat → Nat)) (y : (Nat → Nat)) (hy : (Nat → Nat → Nat)) (rP : Int32) (fP : (Nat → Int32)) (rT : Int32) (fT : (Nat → Int32)) (rG : Int32) (fG : (Nat → Int32)) (rL : Int32) (fL : (Nat → Int32)) (rH : Int32) (fH : (Nat → Int32)) (gi : Int32) (di : Int32) (re : Int32) (ti : Int32) (rPT : Int32) (fPT : (Nat → Int32)) (rTT : Int32) (fTT : (Nat → Int32)) (rGT : Int32) (fGT : (Nat → Int32)) (rLT : Int32) (fLT : (Nat → Int32)) (rHT : Int32) (fHT : (Nat → Int32)) (giT : Int32) (diT : Int32) (reT : Int32) (tiT : Int32) (rS : Int32) (fS : (Nat → Int32)) (rB : Int32) (fB : (Nat → Int32)) (rO : Int32) (fO : (Nat → Int32)) (pl : Int32) (fa : Int32) (cn : Int32) (ro : Nat) (Qh : (Nat → HS)) (x1 : Int32) (E : String) (fP' : (Nat → Int32)) (rG' : Int32) (fG' : (Nat → Int32)) (rL' : Int32) (fL' : (Nat → Int32)) (fH' : (Nat → Int32)) (di' : Int32) (ti' : Int32) (cn' : Int32) (ro' : Nat) (Qh' : (Nat → HS)) (hf : f_X5_pass x1 rP fP rT fT rG fG rL fL rH fH gi di re ti cn ro Qh = some (.inl (E, fP', rG', fG', rL', fL', fH', di', ti', cn', ro', Qh'))) : Tx l yX5_pass wsX5_pass ({ frames := 7, cells := 1, slots := 6, locals := 112 } : Room) X [.ref (x0), .int x1] (wLR X x0 hh ht ch tx y hy rP fP rT fT rG fG rL fL rH fH gi di re ti rPT fPT rTT fTT rGT fGT rLT fLT rHT fHT giT diT reT tiT rS fS rB fB rO fO pl fa cn ro Qh) E (wLR X x0 hh ht ch tx y hy rP fP' rT fT rG' fG' rL' fL' rH fH' gi di' re ti' rPT fPT rTT fTT rGT fGT rLT fLT rHT fHT giT diT reT tiT rS fS rB fB rO fO pl fa cn' ro' Qh') := by
  refine tx_intro (cc := cX5_pass) (maxL := 2) (ret := (some .int)) (by decide) rfl (wLR_fst.trans wLR_fst.symm) (Nat.le_of_ble_eq_true rfl) ?_
  intro p e s m args below meth c A ls hx hb hml hr hts hown hlocks hne hK hP hD0 hS hA hTS hTZ hl
  have hown : s.vm.findClass RX5 = some m.cls := hown
  have hl : lv_has ls 2 [(0, .ref (x0)), (1, .int x1)] := hl
  have hiX5 : ∀ w ∈ u_ws RX5 TX5 5, w ∈ wsX5_pass := by decide +kernel
  have k10 := hts (.fieldLink RX5 10 "LentRights" "house" "LLentRights$House;") (by decide +kernel)
  have k22 := hts (.fieldLink RX5 22 "LentRights" "history" "LLentRights$History;") (by decide +kernel)
  unfold f_X5_pass at hf
  refine lv_iload_n hx hb dX5_pass_0 rfl (lv_at hl 1 rfl) ?_
  refine lv_iconst (v := 1) hx hb dX5_pass_1 (by decide) ?_
  refine lv_bipush (v := 100) hx hb dX5_pass_2 (by decide) ?_
  rcases bx_of hf with ⟨E_3, hc_1, hf⟩ | ⟨u_2, hc_1, hf⟩
  · cases hf
    exact tx_Sx (As := [.int x1, .int (1 : Int32), .int (100 : Int32)]) (rest := []) (nL := 2) hne hlocks ⟨hx, hb, hml, hown, hts⟩ (c_X5_requireRange_x l hfl X x1 (1 : Int32) (100 : Int32) E hc_1) (va_cwS 3 hts gX5_pass_X5_requireRange rfl rfl rfl (by decide +kernel) ⟨Nat.le_of_ble_eq_true rfl, Nat.le_of_ble_eq_true rfl⟩) rfl hl.1 rfl (Nat.le_of_ble_eq_true rfl) dX5_pass_4 hTS hTZ hK hP (hD0.addr (wLR_fst.trans wLR_fst.symm)) hS hA [] (by decide +kernel) rfl (pt_setid _ _ _ rfl) ⟨Nat.le_of_ble_eq_true rfl, Nat.le_of_ble_eq_true rfl⟩
  · refine fn_Sx (v := none) (As := [.int x1, .int (1 : Int32), .int (100 : Int32)]) (rest := []) (st1 := []) (ws' := (wLR X x0 hh ht ch tx y hy rP fP rT fT rG fG rL fL rH fH gi di re ti rPT fPT rTT fTT rGT fGT rLT fLT rHT fHT giT diT reT tiT rS fS rB fB rO fO pl fa cn ro Qh)) (nL := 2) ⟨hx, hb, hml, hown, hts⟩ (c_X5_requireRange l X x1 (1 : Int32) (100 : Int32) hc_1) (va_cwS 3 hts gX5_pass_X5_requireRange rfl rfl rfl (by decide +kernel) ⟨Nat.le_of_ble_eq_true rfl, Nat.le_of_ble_eq_true rfl⟩) rfl hl.1 rfl (Nat.le_of_ble_eq_true rfl) dX5_pass_4 hK hP (hD0.addr (wLR_fst.trans wLR_fst.symm)) hS hA [] (by decide +kernel) rfl (pt_setid _ _ _ rfl) rfl ⟨Nat.zero_le _, Nat.zero_le _⟩ (fun H locs hP hD hS => ?_)
    refine lv_aload_n hx hb dX5_pass_7 rfl (lv_at hl 0 rfl) ?_
    refine va_get (D := X.1) (ci := 5) (v := .ref (hh 0)) (C := RX5) (T := TX5) (N := 5) hx hb hts hiX5 hown hK.1 hP 0 rfl rfl 0 (by decide) k10 (fun _ h9 => h9) rfl dX5_pass_8 ?_
    refine lv_iload_n hx hb dX5_pass_11 rfl (lv_at hl 1 rfl) ?_
    obtain ⟨r_4, hc_5, hf⟩ := bd_of hf
    refine fn_V (v := some (.int r_4)) (As := [.int x1]) (rest := []) (st1 := [.int r_4]) (ws' := (wLR X x0 hh ht ch tx y hy rP fP rT fT rG fG rL fL rH fH gi di re ti rPT fPT rTT fTT rGT fGT rLT fLT rHT fHT giT diT reT tiT rS fS rB fB rO fO pl fa cn ro Qh)) (nL := 2) ⟨hx, hb, hml, hown, hts⟩ (c_X2_hasTimeFor l X hh rP fP rT fT rG fG rL fL rH fH gi di re ti x1 r_4 hc_5) (cwV 1 hts gX5_pass_X2_hasTimeFor rfl rfl rfl (by decide +kernel) ⟨Nat.le_of_ble_eq_true rfl, Nat.le_of_ble_eq_true rfl⟩) 2 rfl rfl rfl rfl hl.1 rfl (Nat.le_of_ble_eq_true rfl) dX5_pass_12 hK hP (hD0.addr (wLR_fst.trans wLR_fst.symm)) hS hA [1, 2, 3, 4, 5, 6, 7, 8, 9, 10, 11] (by decide +kernel) lC_h (pt_setid _ _ _ lC_h) rfl ⟨Nat.zero_le _, Nat.zero_le _⟩ (fun H locs hP hD hS => ?_)
    refine lv_if_ne (tgt := 28) hx hb dX5_pass_15 (by decide) (fun c_6 => ?_) (fun c_6 => ?_)
    · replace hf := fp_f c_6 hf
      refine lv_aload_n hx hb dX5_pass_28 rfl (lv_at hl 0 rfl) ?_
      refine va_get (D := X.1) (ci := 5) (v := .ref (y 0)) (C := RX5) (T := TX5) (N := 5) hx hb hts hiX5 hown hK.1 hP 0 rfl rfl 2 (by decide) k22 (fun _ h9 => h9) rfl dX5_pass_29 ?_
      refine lv_aload_n hx hb dX5_pass_32 rfl (lv_at hl 0 rfl) ?_
      refine va_get (D := X.1) (ci := 5) (v := .ref (hh 0)) (C := RX5) (T := TX5) (N := 5) hx hb hts hiX5 hown hK.1 hP 0 rfl rfl 0 (by decide) k10 (fun _ h9 => h9) rfl dX5_pass_33 ?_
      obtain ⟨cn_7, ro_8, Qh_9, hc_10, hf⟩ := bd3_of hf
      refine fn_VJ (v := none) (As := [.ref (hh 0)]) (rest := []) (st1 := []) (ws' := (wLR X x0 hh ht ch tx y hy rP fP rT fT rG fG rL fL rH fH gi di re ti rPT fPT rTT fTT rGT fGT rLT fLT rHT fHT giT diT reT tiT rS fS rB fB rO fO pl fa cn_7 ro_8 Qh_9)) (nL := 2) ⟨hx, hb, hml, hown, hts⟩ (c_X1_keep l X y hy hh cn ro Qh rP fP rT fT rG fG rL fL rH fH gi di re ti cn_7 ro_8 Qh_9 hc_10) (cwV 1 hts gX5_pass_X1_keep rfl rfl rfl (by decide +kernel) ⟨Nat.le_of_ble_eq_true rfl, Nat.le_of_ble_eq_true rfl⟩) 1 rfl rfl rfl rfl hl.1 rfl (Nat.le_of_ble_eq_true rfl) dX5_pass_36 hK hP (hD0.addr (wLR_fst.trans wLR_fst.symm)) hS hA [31, 32, 33, 34, 35, 36, 37, 38, 39, 40, 41, 42, 43, 44, 45, 46, 47, 48, 49, 50, 51, 52, 53, 54, 55, 56, 57, 58, 59, 60, 61, 62, 63, 64, 65, 66, 67, 68, 69, 70, 71, 72, 73, 74, 75, 76, 1, 2, 3, 4, 5, 6, 7, 8, 9, 10, 11] (by decide +kernel) lC_ih lJ_ih (wLR_fst.trans wLR_fst.symm) rfl ⟨Nat.zero_le _, Nat.zero_le _⟩ (fun H locs hP hD hS => ?_)
      refine lv_aload_n hx hb dX5_pass_39 rfl (lv_at hl 0 rfl) ?_
      refine va_get (D := X.1) (ci := 5) (v := .ref (hh 0)) (C := RX5) (T := TX5) (N := 5) hx hb hts hiX5 hown hK.1 hP 0 rfl rfl 0 (by decide) k10 (fun _ h9 => h9) rfl dX5_pass_40 ?_
      refine lv_iload_n hx hb dX5_pass_43 rfl (lv_at hl 1 rfl) ?_
      obtain ⟨r_11, fP_12, rG_13, fG_14, rL_15, fL_16, fH_17, di_18, ti_19, hc_20, hf⟩ := bd9_of hf
      refine fn_VJ (v := some (.int r_11)) (As := [.int x1]) (rest := []) (st1 := [.int r_11]) (ws' := (wLR X x0 hh ht ch tx y hy rP fP_12 rT fT rG_13 fG_14 rL_15 fL_16 rH fH_17 gi di_18 re ti_19 rPT fPT rTT fTT rGT fGT rLT fLT rHT fHT giT diT reT tiT rS fS rB fB rO fO pl fa cn_7 ro_8 Qh_9)) (nL := 2) ⟨hx, hb, hml, hown, hts⟩ (c_X2_letPass l X hh rP fP rT fT rG fG rL fL rH fH gi di re ti x1 r_11 fP_12 rG_13 fG_14 rL_15 fL_16 fH_17 di_18 ti_19 hc_20) (cwV 1 hts gX5_pass_X2_letPass rfl rfl rfl (by decide +kernel) ⟨Nat.le_of_ble_eq_true rfl, Nat.le_of_ble_eq_true rfl⟩) 2 rfl rfl rfl rfl hl.1 rfl (Nat.le_of_ble_eq_true rfl) dX5_pass_44 hK hP (hD0.addr (wLR_fst.trans wLR_fst.symm)) hS hA [1, 2, 3, 4, 5, 6, 7, 8, 9, 10, 11] (by decide +kernel) lC_h lJ_h (wLR_fst.trans wLR_fst.symm) rfl ⟨Nat.zero_le _, Nat.zero_le _⟩ (fun H locs hP hD hS => ?_)
      cases hf
    · replace hf := fp_t c_6 hf
      cases hf
      exact tx_throw (is := 118) hx hb hfl hown (by decide +kernel) hne (hml.trans hl.1.symm) hlocks (hts (.classLink RX5 57 "java/lang/IllegalStateException") (by decide +kernel)) (hts (.initialized "java/lang/IllegalStateException") (by decide +kernel)) hTS.1.2.2.1 hTS tk_ISE (fun w hw => hts w (by unfold wsX5_pass; simp only [List.mem_cons, List.mem_append, hw, or_true, true_or])) hTZ hP hS (Nat.le_of_ble_eq_true rfl) (Nat.le_of_ble_eq_true rfl) (Nat.le_of_ble_eq_true rfl) (Nat.le_of_ble_eq_true rfl) dX5_pass_18 dX5_pass_21 dX5_pass_22 dX5_pass_24 dX5_pass_27

def f_X5_held (x1 : Int32) (x2 : Int32) (rT : Int32) (rH : Int32) (fH : (Nat → Int32)) : Option ((String) ⊕ (Int32)) :=
  bx (f_X5_requirePerson x1) (fun E_3 => some (.inl E_3)) (fun u_2 =>
  bx (f_X5_requireThing x2 rT) (fun E_6 => some (.inl E_6)) (fun u_5 =>
  bd (f_X2_rightsOf x1 x2 rH fH) (fun r_7 =>
  some (.inr r_7))))
set_option maxHeartbeats 4000000 in
set_option maxRecDepth 100000 in
theorem c_X5_held (l : Launch) (X : cx_G) (x0 : Nat) (hh : (Nat → Nat)) (ht : (Nat → Nat)) (ch : (Nat → Nat)) (tx : (Nat → Nat)) (y : (Nat → Nat)) (hy : (Nat → Nat → Nat)) (rP : Int32) (fP : (Nat → Int32)) (rT : Int32) (fT : (Nat → Int32)) (rG : Int32) (fG : (Nat → Int32)) (rL : Int32) (fL : (Nat → Int32)) (rH : Int32) (fH : (Nat → Int32)) (gi : Int32) (di : Int32) (re : Int32) (ti : Int32) (rPT : Int32) (fPT : (Nat → Int32)) (rTT : Int32) (fTT : (Nat → Int32)) (rGT : Int32) (fGT : (Nat → Int32)) (rLT : Int32) (fLT : (Nat → Int32)) (rHT : Int32) (fHT : (Nat → Int32)) (giT : Int32) (diT : Int32) (reT : Int32) (tiT : Int32) (rS : Int32) (fS : (Nat → Int32)) (rB : Int32) (fB : (Nat → Int32)) (rO : Int32) (fO : (Nat → Int32)) (pl : Int32) (fa : Int32) (cn : Int32) (ro : Nat) (Qh : (Nat → HS)) (x1 : Int32) (x2 : Int32) (r : Int32) (hf : f_X5_held x1 x2 rT rH fH = some (.inr r)) : Fn l yX5_held wsX5_held ({ frames := 3, cells := 0, slots := 0, locals := 62 } : Room) X [.ref (x0), .int x1, .int x2] (wLR X x0 hh ht ch tx y hy rP fP rT fT rG fG rL fL rH fH gi di re ti rPT fPT rTT fTT rGT fGT rLT fLT rHT fHT giT diT reT tiT rS fS rB fB rO fO pl fa cn ro Qh) (some (.int r)) (wLR X x0 hh ht ch tx y hy rP fP rT fT rG fG rL fL rH fH gi di re ti rPT fPT rTT fTT rGT fGT rLT fLT rHT fHT giT diT reT tiT rS fS rB fB rO fO pl fa cn ro Qh) := by
  refine fn_intro (cc := cX5_held) (maxL := 3) (ret := (some .int)) (by decide) rfl rfl (Nat.le_of_ble_eq_true rfl) ?_
  intro p e s m args below meth c A ls hx hb hml hr hts hown hlocks hK hP hD0 hS hA hl
  have hown : s.vm.findClass RX5 = some m.cls := hown
  have hl : lv_has ls 3 [(0, .ref (x0)), (1, .int x1), (2, .int x2)] := hl
  have hiX5 : ∀ w ∈ u_ws RX5 TX5 5, w ∈ wsX5_held := by decide +kernel
  have k10 := hts (.fieldLink RX5 10 "LentRights" "house" "LLentRights$House;") (by decide +kernel)
  unfold f_X5_held at hf
  refine lv_iload_n hx hb dX5_held_0 rfl (lv_at hl 1 rfl) ?_
  rcases bx_of hf with ⟨E_3, hc_1, hf⟩ | ⟨u_2, hc_1, hf⟩
  · cases hf
  · refine fn_Sx (v := none) (As := [.int x1]) (rest := []) (st1 := []) (ws' := (wLR X x0 hh ht ch tx y hy rP fP rT fT rG fG rL fL rH fH gi di re ti rPT fPT rTT fTT rGT fGT rLT fLT rHT fHT giT diT reT tiT rS fS rB fB rO fO pl fa cn ro Qh)) (nL := 3) ⟨hx, hb, hml, hown, hts⟩ (c_X5_requirePerson l X x1 hc_1) (va_cwS 1 hts gX5_held_X5_requirePerson rfl rfl rfl (by decide +kernel) ⟨Nat.le_of_ble_eq_true rfl, Nat.le_of_ble_eq_true rfl⟩) rfl hl.1 rfl (Nat.le_of_ble_eq_true rfl) dX5_held_1 hK hP (hD0.addr (wLR_fst.trans wLR_fst.symm)) hS hA [] (by decide +kernel) rfl (pt_setid _ _ _ rfl) rfl ⟨Nat.zero_le _, Nat.zero_le _⟩ (fun H locs hP hD hS => ?_)
    refine lv_aload_n hx hb dX5_held_4 rfl (lv_at hl 0 rfl) ?_
    refine lv_iload_n hx hb dX5_held_5 rfl (lv_at hl 2 rfl) ?_
    rcases bx_of hf with ⟨E_6, hc_4, hf⟩ | ⟨u_5, hc_4, hf⟩
    · cases hf
    · refine fn_V (v := none) (As := [.int x2]) (rest := []) (st1 := []) (ws' := (wLR X x0 hh ht ch tx y hy rP fP rT fT rG fG rL fL rH fH gi di re ti rPT fPT rTT fTT rGT fGT rLT fLT rHT fHT giT diT reT tiT rS fS rB fB rO fO pl fa cn ro Qh)) (nL := 3) ⟨hx, hb, hml, hown, hts⟩ (c_X5_requireThing l X x0 hh ht ch tx y hy rP fP rT fT rG fG rL fL rH fH gi di re ti rPT fPT rTT fTT rGT fGT rLT fLT rHT fHT giT diT reT tiT rS fS rB fB rO fO pl fa cn ro Qh x2 hc_4) (cwV 1 hts gX5_held_X5_requireThing rfl rfl rfl (by decide +kernel) ⟨Nat.le_of_ble_eq_true rfl, Nat.le_of_ble_eq_true rfl⟩) 5 rfl rfl rfl rfl hl.1 rfl (Nat.le_of_ble_eq_true rfl) dX5_held_6 hK hP (hD0.addr (wLR_fst.trans wLR_fst.symm)) hS hA [0, 1, 2, 3, 4, 5, 6, 7, 8, 9, 10, 11, 12, 13, 14, 15, 16, 17, 18, 19, 20, 21, 22, 23, 24, 25, 26, 27, 28, 29, 30, 31, 32, 33, 34, 35, 36, 37, 38, 39, 40, 41, 42, 43, 44, 45, 46, 47, 48, 49, 50, 51, 52, 53, 54, 55, 56, 57, 58, 59, 60, 61, 62, 63, 64, 65, 66, 67, 68, 69, 70, 71, 72, 73, 74, 75, 76] (by decide +kernel) lC_a (pt_setid _ _ _ lC_a) rfl ⟨Nat.zero_le _, Nat.zero_le _⟩ (fun H locs hP hD hS => ?_)
      refine lv_aload_n hx hb dX5_held_9 rfl (lv_at hl 0 rfl) ?_
      refine va_get (D := X.1) (ci := 5) (v := .ref (hh 0)) (C := RX5) (T := TX5) (N := 5) hx hb hts hiX5 hown hK.1 hP 0 rfl rfl 0 (by decide) k10 (fun _ h9 => h9) rfl dX5_held_10 ?_
      refine lv_iload_n hx hb dX5_held_13 rfl (lv_at hl 1 rfl) ?_
      refine lv_iload_n hx hb dX5_held_14 rfl (lv_at hl 2 rfl) ?_
      obtain ⟨r_7, hc_8, hf⟩ := bd_of hf
      refine fn_V (v := some (.int r_7)) (As := [.int x1, .int x2]) (rest := []) (st1 := [.int r_7]) (ws' := (wLR X x0 hh ht ch tx y hy rP fP rT fT rG fG rL fL rH fH gi di re ti rPT fPT rTT fTT rGT fGT rLT fLT rHT fHT giT diT reT tiT rS fS rB fB rO fO pl fa cn ro Qh)) (nL := 3) ⟨hx, hb, hml, hown, hts⟩ (c_X2_rightsOf l X hh rP fP rT fT rG fG rL fL rH fH gi di re ti x1 x2 r_7 hc_8) (cwV 2 hts gX5_held_X2_rightsOf rfl rfl rfl (by decide +kernel) ⟨Nat.le_of_ble_eq_true rfl, Nat.le_of_ble_eq_true rfl⟩) 2 rfl rfl rfl rfl hl.1 rfl (Nat.le_of_ble_eq_true rfl) dX5_held_15 hK hP (hD0.addr (wLR_fst.trans wLR_fst.symm)) hS hA [1, 2, 3, 4, 5, 6, 7, 8, 9, 10, 11] (by decide +kernel) lC_h (pt_setid _ _ _ lC_h) rfl ⟨Nat.zero_le _, Nat.zero_le _⟩ (fun H locs hP hD hS => ?_)
      cases hf
      exact fn_iret hx hb hr hlocks hP hS dX5_held_18
set_option maxHeartbeats 4000000 in
set_option maxRecDepth 100000 in
theorem c_X5_held_x (l : Launch) (hfl : l.stackTraces = false) (X : cx_G) (x0 : Nat) (hh : (Nat → Nat)) (ht : (Nat → Nat)) (ch : (Nat → Nat)) (tx : (Nat → Nat)) (y : (Nat → Nat)) (hy : (Nat → Nat → Nat)) (rP : Int32) (fP : (Nat → Int32)) (rT : Int32) (fT : (Nat → Int32)) (rG : Int32) (fG : (Nat → Int32)) (rL : Int32) (fL : (Nat → Int32)) (rH : Int32) (fH : (Nat → Int32)) (gi : Int32) (di : Int32) (re : Int32) (ti : Int32) (rPT : Int32) (fPT : (Nat → Int32)) (rTT : Int32) (fTT : (Nat → Int32)) (rGT : Int32) (fGT : (Nat → Int32)) (rLT : Int32) (fLT : (Nat → Int32)) (rHT : Int32) (fHT : (Nat → Int32)) (giT : Int32) (diT : Int32) (reT : Int32) (tiT : Int32) (rS : Int32) (fS : (Nat → Int32)) (rB : Int32) (fB : (Nat → Int32)) (rO : Int32) (fO : (Nat → Int32)) (pl : Int32) (fa : Int32) (cn : Int32) (ro : Nat) (Qh : (Nat → HS)) (x1 : Int32) (x2 : Int32) (E : String) (hf : f_X5_held x1 x2 rT rH fH = some (.inl E)) : Tx l yX5_held wsX5_held ({ frames := 7, cells := 1, slots := 6, locals := 111 } : Room) X [.ref (x0), .int x1, .int x2] (wLR X x0 hh ht ch tx y hy rP fP rT fT rG fG rL fL rH fH gi di re ti rPT fPT rTT fTT rGT fGT rLT fLT rHT fHT giT diT reT tiT rS fS rB fB rO fO pl fa cn ro Qh) E (wLR X x0 hh ht ch tx y hy rP fP rT fT rG fG rL fL rH fH gi di re ti rPT fPT rTT fTT rGT fGT rLT fLT rHT fHT giT diT reT tiT rS fS rB fB rO fO pl fa cn ro Qh) := by
  refine tx_intro (cc := cX5_held) (maxL := 3) (ret := (some .int)) (by decide) rfl rfl (Nat.le_of_ble_eq_true rfl) ?_
  intro p e s m args below meth c A ls hx hb hml hr hts hown hlocks hne hK hP hD0 hS hA hTS hTZ hl
  have hown : s.vm.findClass RX5 = some m.cls := hown
  have hl : lv_has ls 3 [(0, .ref (x0)), (1, .int x1), (2, .int x2)] := hl
  have hiX5 : ∀ w ∈ u_ws RX5 TX5 5, w ∈ wsX5_held := by decide +kernel
  have k10 := hts (.fieldLink RX5 10 "LentRights" "house" "LLentRights$House;") (by decide +kernel)
  unfold f_X5_held at hf
  refine lv_iload_n hx hb dX5_held_0 rfl (lv_at hl 1 rfl) ?_
  rcases bx_of hf with ⟨E_3, hc_1, hf⟩ | ⟨u_2, hc_1, hf⟩
  · cases hf
    exact tx_Sx (As := [.int x1]) (rest := []) (nL := 3) hne hlocks ⟨hx, hb, hml, hown, hts⟩ (c_X5_requirePerson_x l hfl X x1 E hc_1) (va_cwS 1 hts gX5_held_X5_requirePerson rfl rfl rfl (by decide +kernel) ⟨Nat.le_of_ble_eq_true rfl, Nat.le_of_ble_eq_true rfl⟩) rfl hl.1 rfl (Nat.le_of_ble_eq_true rfl) dX5_held_1 hTS hTZ hK hP (hD0.addr (wLR_fst.trans wLR_fst.symm)) hS hA [] (by decide +kernel) rfl (pt_setid _ _ _ rfl) ⟨Nat.le_of_ble_eq_true rfl, Nat.le_of_ble_eq_true rfl⟩
  · refine fn_Sx (v := none) (As := [.int x1]) (rest := []) (st1 := []) (ws' := (wLR X x0 hh ht ch tx y hy rP fP rT fT rG fG rL fL rH fH gi di re ti rPT fPT rTT fTT rGT fGT rLT fLT rHT fHT giT diT reT tiT rS fS rB fB rO fO pl fa cn ro Qh)) (nL := 3) ⟨hx, hb, hml, hown, hts⟩ (c_X5_requirePerson l X x1 hc_1) (va_cwS 1 hts gX5_held_X5_requirePerson rfl rfl rfl (by decide +kernel) ⟨Nat.le_of_ble_eq_true rfl, Nat.le_of_ble_eq_true rfl⟩) rfl hl.1 rfl (Nat.le_of_ble_eq_true rfl) dX5_held_1 hK hP (hD0.addr (wLR_fst.trans wLR_fst.symm)) hS hA [] (by decide +kernel) rfl (pt_setid _ _ _ rfl) rfl ⟨Nat.zero_le _, Nat.zero_le _⟩ (fun H locs hP hD hS => ?_)
    refine lv_aload_n hx hb dX5_held_4 rfl (lv_at hl 0 rfl) ?_
    refine lv_iload_n hx hb dX5_held_5 rfl (lv_at hl 2 rfl) ?_
    rcases bx_of hf with ⟨E_6, hc_4, hf⟩ | ⟨u_5, hc_4, hf⟩
    · cases hf
      exact tx_V (As := [.int x2]) (rest := []) (nL := 3) hne hlocks ⟨hx, hb, hml, hown, hts⟩ (c_X5_requireThing_x l hfl X x0 hh ht ch tx y hy rP fP rT fT rG fG rL fL rH fH gi di re ti rPT fPT rTT fTT rGT fGT rLT fLT rHT fHT giT diT reT tiT rS fS rB fB rO fO pl fa cn ro Qh x2 E hc_4) (cwV 1 hts gX5_held_X5_requireThing rfl rfl rfl (by decide +kernel) ⟨Nat.le_of_ble_eq_true rfl, Nat.le_of_ble_eq_true rfl⟩) 5 rfl rfl rfl rfl hl.1 rfl (Nat.le_of_ble_eq_true rfl) dX5_held_6 hTS hTZ hK hP (hD0.addr (wLR_fst.trans wLR_fst.symm)) hS hA [0, 1, 2, 3, 4, 5, 6, 7, 8, 9, 10, 11, 12, 13, 14, 15, 16, 17, 18, 19, 20, 21, 22, 23, 24, 25, 26, 27, 28, 29, 30, 31, 32, 33, 34, 35, 36, 37, 38, 39, 40, 41, 42, 43, 44, 45, 46, 47, 48, 49, 50, 51, 52, 53, 54, 55, 56, 57, 58, 59, 60, 61, 62, 63, 64, 65, 66, 67, 68, 69, 70, 71, 72, 73, 74, 75, 76] (by decide +kernel) lC_a (pt_setid _ _ _ lC_a) ⟨Nat.le_of_ble_eq_true rfl, Nat.le_of_ble_eq_true rfl⟩
    · refine fn_V (v := none) (As := [.int x2]) (rest := []) (st1 := []) (ws' := (wLR X x0 hh ht ch tx y hy rP fP rT fT rG fG rL fL rH fH gi di re ti rPT fPT rTT fTT rGT fGT rLT fLT rHT fHT giT diT reT tiT rS fS rB fB rO fO pl fa cn ro Qh)) (nL := 3) ⟨hx, hb, hml, hown, hts⟩ (c_X5_requireThing l X x0 hh ht ch tx y hy rP fP rT fT rG fG rL fL rH fH gi di re ti rPT fPT rTT fTT rGT fGT rLT fLT rHT fHT giT diT reT tiT rS fS rB fB rO fO pl fa cn ro Qh x2 hc_4) (cwV 1 hts gX5_held_X5_requireThing rfl rfl rfl (by decide +kernel) ⟨Nat.le_of_ble_eq_true rfl, Nat.le_of_ble_eq_true rfl⟩) 5 rfl rfl rfl rfl hl.1 rfl (Nat.le_of_ble_eq_true rfl) dX5_held_6 hK hP (hD0.addr (wLR_fst.trans wLR_fst.symm)) hS hA [0, 1, 2, 3, 4, 5, 6, 7, 8, 9, 10, 11, 12, 13, 14, 15, 16, 17, 18, 19, 20, 21, 22, 23, 24, 25, 26, 27, 28, 29, 30, 31, 32, 33, 34, 35, 36, 37, 38, 39, 40, 41, 42, 43, 44, 45, 46, 47, 48, 49, 50, 51, 52, 53, 54, 55, 56, 57, 58, 59, 60, 61, 62, 63, 64, 65, 66, 67, 68, 69, 70, 71, 72, 73, 74, 75, 76] (by decide +kernel) lC_a (pt_setid _ _ _ lC_a) rfl ⟨Nat.zero_le _, Nat.zero_le _⟩ (fun H locs hP hD hS => ?_)
      refine lv_aload_n hx hb dX5_held_9 rfl (lv_at hl 0 rfl) ?_
      refine va_get (D := X.1) (ci := 5) (v := .ref (hh 0)) (C := RX5) (T := TX5) (N := 5) hx hb hts hiX5 hown hK.1 hP 0 rfl rfl 0 (by decide) k10 (fun _ h9 => h9) rfl dX5_held_10 ?_
      refine lv_iload_n hx hb dX5_held_13 rfl (lv_at hl 1 rfl) ?_
      refine lv_iload_n hx hb dX5_held_14 rfl (lv_at hl 2 rfl) ?_
      obtain ⟨r_7, hc_8, hf⟩ := bd_of hf
      refine fn_V (v := some (.int r_7)) (As := [.int x1, .int x2]) (rest := []) (st1 := [.int r_7]) (ws' := (wLR X x0 hh ht ch tx y hy rP fP rT fT rG fG rL fL rH fH gi di re ti rPT fPT rTT fTT rGT fGT rLT fLT rHT fHT giT diT reT tiT rS fS rB fB rO fO pl fa cn ro Qh)) (nL := 3) ⟨hx, hb, hml, hown, hts⟩ (c_X2_rightsOf l X hh rP fP rT fT rG fG rL fL rH fH gi di re ti x1 x2 r_7 hc_8) (cwV 2 hts gX5_held_X2_rightsOf rfl rfl rfl (by decide +kernel) ⟨Nat.le_of_ble_eq_true rfl, Nat.le_of_ble_eq_true rfl⟩) 2 rfl rfl rfl rfl hl.1 rfl (Nat.le_of_ble_eq_true rfl) dX5_held_15 hK hP (hD0.addr (wLR_fst.trans wLR_fst.symm)) hS hA [1, 2, 3, 4, 5, 6, 7, 8, 9, 10, 11] (by decide +kernel) lC_h (pt_setid _ _ _ lC_h) rfl ⟨Nat.zero_le _, Nat.zero_le _⟩ (fun H locs hP hD hS => ?_)
      cases hf

def f_X5_person (x1 : Int32) (x2 : Int32) (rP : Int32) (fP : (Nat → Int32)) (rT : Int32) (fT : (Nat → Int32)) (rG : Int32) (fG : (Nat → Int32)) (rH : Int32) (fH : (Nat → Int32)) : Option ((String) ⊕ (Int32)) :=
  bx (f_X5_requirePerson x1) (fun E_3 => some (.inl E_3)) (fun u_2 =>
  bx (f_X5_requireRange x2 (0 : Int32) (6 : Int32)) (fun E_6 => some (.inl E_6)) (fun u_5 =>
  bd (f_X2_aboutPerson x1 x2 rP fP rT fT rG fG rH fH) (fun r_7 =>
  some (.inr r_7))))
set_option maxHeartbeats 4000000 in
set_option maxRecDepth 100000 in
theorem c_X5_person (l : Launch) (X : cx_G) (x0 : Nat) (hh : (Nat → Nat)) (ht : (Nat → Nat)) (ch : (Nat → Nat)) (tx : (Nat → Nat)) (y : (Nat → Nat)) (hy : (Nat → Nat → Nat)) (rP : Int32) (fP : (Nat → Int32)) (rT : Int32) (fT : (Nat → Int32)) (rG : Int32) (fG : (Nat → Int32)) (rL : Int32) (fL : (Nat → Int32)) (rH : Int32) (fH : (Nat → Int32)) (gi : Int32) (di : Int32) (re : Int32) (ti : Int32) (rPT : Int32) (fPT : (Nat → Int32)) (rTT : Int32) (fTT : (Nat → Int32)) (rGT : Int32) (fGT : (Nat → Int32)) (rLT : Int32) (fLT : (Nat → Int32)) (rHT : Int32) (fHT : (Nat → Int32)) (giT : Int32) (diT : Int32) (reT : Int32) (tiT : Int32) (rS : Int32) (fS : (Nat → Int32)) (rB : Int32) (fB : (Nat → Int32)) (rO : Int32) (fO : (Nat → Int32)) (pl : Int32) (fa : Int32) (cn : Int32) (ro : Nat) (Qh : (Nat → HS)) (x1 : Int32) (x2 : Int32) (r : Int32) (hf : f_X5_person x1 x2 rP fP rT fT rG fG rH fH = some (.inr r)) : Fn l yX5_person wsX5_person ({ frames := 3, cells := 0, slots := 0, locals := 70 } : Room) X [.ref (x0), .int x1, .int x2] (wLR X x0 hh ht ch tx y hy rP fP rT fT rG fG rL fL rH fH gi di re ti rPT fPT rTT fTT rGT fGT rLT fLT rHT fHT giT diT reT tiT rS fS rB fB rO fO pl fa cn ro Qh) (some (.int r)) (wLR X x0 hh ht ch tx y hy rP fP rT fT rG fG rL fL rH fH gi di re ti rPT fPT rTT fTT rGT fGT rLT fLT rHT fHT giT diT reT tiT rS fS rB fB rO fO pl fa cn ro Qh) := by
  refine fn_intro (cc := cX5_person) (maxL := 3) (ret := (some .int)) (by decide) rfl rfl (Nat.le_of_ble_eq_true rfl) ?_
  intro p e s m args below meth c A ls hx hb hml hr hts hown hlocks hK hP hD0 hS hA hl
  have hown : s.vm.findClass RX5 = some m.cls := hown
  have hl : lv_has ls 3 [(0, .ref (x0)), (1, .int x1), (2, .int x2)] := hl
  have hiX5 : ∀ w ∈ u_ws RX5 TX5 5, w ∈ wsX5_person := by decide +kernel
  have k10 := hts (.fieldLink RX5 10 "LentRights" "house" "LLentRights$House;") (by decide +kernel)
  unfold f_X5_person at hf
  refine lv_iload_n hx hb dX5_person_0 rfl (lv_at hl 1 rfl) ?_
  rcases bx_of hf with ⟨E_3, hc_1, hf⟩ | ⟨u_2, hc_1, hf⟩
  · cases hf
  · refine fn_Sx (v := none) (As := [.int x1]) (rest := []) (st1 := []) (ws' := (wLR X x0 hh ht ch tx y hy rP fP rT fT rG fG rL fL rH fH gi di re ti rPT fPT rTT fTT rGT fGT rLT fLT rHT fHT giT diT reT tiT rS fS rB fB rO fO pl fa cn ro Qh)) (nL := 3) ⟨hx, hb, hml, hown, hts⟩ (c_X5_requirePerson l X x1 hc_1) (va_cwS 1 hts gX5_person_X5_requirePerson rfl rfl rfl (by decide +kernel) ⟨Nat.le_of_ble_eq_true rfl, Nat.le_of_ble_eq_true rfl⟩) rfl hl.1 rfl (Nat.le_of_ble_eq_true rfl) dX5_person_1 hK hP (hD0.addr (wLR_fst.trans wLR_fst.symm)) hS hA [] (by decide +kernel) rfl (pt_setid _ _ _ rfl) rfl ⟨Nat.zero_le _, Nat.zero_le _⟩ (fun H locs hP hD hS => ?_)
    refine lv_iload_n hx hb dX5_person_4 rfl (lv_at hl 2 rfl) ?_
    refine lv_iconst (v := 0) hx hb dX5_person_5 (by decide) ?_
    refine lv_bipush (v := 6) hx hb dX5_person_6 (by decide) ?_
    rcases bx_of hf with ⟨E_6, hc_4, hf⟩ | ⟨u_5, hc_4, hf⟩
    · cases hf
    · refine fn_Sx (v := none) (As := [.int x2, .int (0 : Int32), .int (6 : Int32)]) (rest := []) (st1 := []) (ws' := (wLR X x0 hh ht ch tx y hy rP fP rT fT rG fG rL fL rH fH gi di re ti rPT fPT rTT fTT rGT fGT rLT fLT rHT fHT giT diT reT tiT rS fS rB fB rO fO pl fa cn ro Qh)) (nL := 3) ⟨hx, hb, hml, hown, hts⟩ (c_X5_requireRange l X x2 (0 : Int32) (6 : Int32) hc_4) (va_cwS 3 hts gX5_person_X5_requireRange rfl rfl rfl (by decide +kernel) ⟨Nat.le_of_ble_eq_true rfl, Nat.le_of_ble_eq_true rfl⟩) rfl hl.1 rfl (Nat.le_of_ble_eq_true rfl) dX5_person_8 hK hP (hD0.addr (wLR_fst.trans wLR_fst.symm)) hS hA [] (by decide +kernel) rfl (pt_setid _ _ _ rfl) rfl ⟨Nat.zero_le _, Nat.zero_le _⟩ (fun H locs hP hD hS => ?_)
      refine lv_aload_n hx hb dX5_person_11 rfl (lv_at hl 0 rfl) ?_
      refine va_get (D := X.1) (ci := 5) (v := .ref (hh 0)) (C := RX5) (T := TX5) (N := 5) hx hb hts hiX5 hown hK.1 hP 0 rfl rfl 0 (by decide) k10 (fun _ h9 => h9) rfl dX5_person_12 ?_
      refine lv_iload_n hx hb dX5_person_15 rfl (lv_at hl 1 rfl) ?_
      refine lv_iload_n hx hb dX5_person_16 rfl (lv_at hl 2 rfl) ?_
      obtain ⟨r_7, hc_8, hf⟩ := bd_of hf
      refine fn_V (v := some (.int r_7)) (As := [.int x1, .int x2]) (rest := []) (st1 := [.int r_7]) (ws' := (wLR X x0 hh ht ch tx y hy rP fP rT fT rG fG rL fL rH fH gi di re ti rPT fPT rTT fTT rGT fGT rLT fLT rHT fHT giT diT reT tiT rS fS rB fB rO fO pl fa cn ro Qh)) (nL := 3) ⟨hx, hb, hml, hown, hts⟩ (c_X2_aboutPerson l X hh rP fP rT fT rG fG rL fL rH fH gi di re ti x1 x2 r_7 hc_8) (cwV 2 hts gX5_person_X2_aboutPerson rfl rfl rfl (by decide +kernel) ⟨Nat.le_of_ble_eq_true rfl, Nat.le_of_ble_eq_true rfl⟩) 2 rfl rfl rfl rfl hl.1 rfl (Nat.le_of_ble_eq_true rfl) dX5_person_17 hK hP (hD0.addr (wLR_fst.trans wLR_fst.symm)) hS hA [1, 2, 3, 4, 5, 6, 7, 8, 9, 10, 11] (by decide +kernel) lC_h (pt_setid _ _ _ lC_h) rfl ⟨Nat.zero_le _, Nat.zero_le _⟩ (fun H locs hP hD hS => ?_)
      cases hf
      exact fn_iret hx hb hr hlocks hP hS dX5_person_20
set_option maxHeartbeats 4000000 in
set_option maxRecDepth 100000 in
theorem c_X5_person_x (l : Launch) (hfl : l.stackTraces = false) (X : cx_G) (x0 : Nat) (hh : (Nat → Nat)) (ht : (Nat → Nat)) (ch : (Nat → Nat)) (tx : (Nat → Nat)) (y : (Nat → Nat)) (hy : (Nat → Nat → Nat)) (rP : Int32) (fP : (Nat → Int32)) (rT : Int32) (fT : (Nat → Int32)) (rG : Int32) (fG : (Nat → Int32)) (rL : Int32) (fL : (Nat → Int32)) (rH : Int32) (fH : (Nat → Int32)) (gi : Int32) (di : Int32) (re : Int32) (ti : Int32) (rPT : Int32) (fPT : (Nat → Int32)) (rTT : Int32) (fTT : (Nat → Int32)) (rGT : Int32) (fGT : (Nat → Int32)) (rLT : Int32) (fLT : (Nat → Int32)) (rHT : Int32) (fHT : (Nat → Int32)) (giT : Int32) (diT : Int32) (reT : Int32) (tiT : Int32) (rS : Int32) (fS : (Nat → Int32)) (rB : Int32) (fB : (Nat → Int32)) (rO : Int32) (fO : (Nat → Int32)) (pl : Int32) (fa : Int32) (cn : Int32) (ro : Nat) (Qh : (Nat → HS)) (x1 : Int32) (x2 : Int32) (E : String) (hf : f_X5_person x1 x2 rP fP rT fT rG fG rH fH = some (.inl E)) : Tx l yX5_person wsX5_person ({ frames := 7, cells := 1, slots := 6, locals := 112 } : Room) X [.ref (x0), .int x1, .int x2] (wLR X x0 hh ht ch tx y hy rP fP rT fT rG fG rL fL rH fH gi di re ti rPT fPT rTT fTT rGT fGT rLT fLT rHT fHT giT diT reT tiT rS fS rB fB rO fO pl fa cn ro Qh) E (wLR X x0 hh ht ch tx y hy rP fP rT fT rG fG rL fL rH fH gi di re ti rPT fPT rTT fTT rGT fGT rLT fLT rHT fHT giT diT reT tiT rS fS rB fB rO fO pl fa cn ro Qh) := by
  refine tx_intro (cc := cX5_person) (maxL := 3) (ret := (some .int)) (by decide) rfl rfl (Nat.le_of_ble_eq_true rfl) ?_
  intro p e s m args below meth c A ls hx hb hml hr hts hown hlocks hne hK hP hD0 hS hA hTS hTZ hl
  have hown : s.vm.findClass RX5 = some m.cls := hown
  have hl : lv_has ls 3 [(0, .ref (x0)), (1, .int x1), (2, .int x2)] := hl
  have hiX5 : ∀ w ∈ u_ws RX5 TX5 5, w ∈ wsX5_person := by decide +kernel
  have k10 := hts (.fieldLink RX5 10 "LentRights" "house" "LLentRights$House;") (by decide +kernel)
  unfold f_X5_person at hf
  refine lv_iload_n hx hb dX5_person_0 rfl (lv_at hl 1 rfl) ?_
  rcases bx_of hf with ⟨E_3, hc_1, hf⟩ | ⟨u_2, hc_1, hf⟩
  · cases hf
    exact tx_Sx (As := [.int x1]) (rest := []) (nL := 3) hne hlocks ⟨hx, hb, hml, hown, hts⟩ (c_X5_requirePerson_x l hfl X x1 E hc_1) (va_cwS 1 hts gX5_person_X5_requirePerson rfl rfl rfl (by decide +kernel) ⟨Nat.le_of_ble_eq_true rfl, Nat.le_of_ble_eq_true rfl⟩) rfl hl.1 rfl (Nat.le_of_ble_eq_true rfl) dX5_person_1 hTS hTZ hK hP (hD0.addr (wLR_fst.trans wLR_fst.symm)) hS hA [] (by decide +kernel) rfl (pt_setid _ _ _ rfl) ⟨Nat.le_of_ble_eq_true rfl, Nat.le_of_ble_eq_true rfl⟩
  · refine fn_Sx (v := none) (As := [.int x1]) (rest := []) (st1 := []) (ws' := (wLR X x0 hh ht ch tx y hy rP fP rT fT rG fG rL fL rH fH gi di re ti rPT fPT rTT fTT rGT fGT rLT fLT rHT fHT giT diT reT tiT rS fS rB fB rO fO pl fa cn ro Qh)) (nL := 3) ⟨hx, hb, hml, hown, hts⟩ (c_X5_requirePerson l X x1 hc_1) (va_cwS 1 hts gX5_person_X5_requirePerson rfl rfl rfl (by decide +kernel) ⟨Nat.le_of_ble_eq_true rfl, Nat.le_of_ble_eq_true rfl⟩) rfl hl.1 rfl (Nat.le_of_ble_eq_true rfl) dX5_person_1 hK hP (hD0.addr (wLR_fst.trans wLR_fst.symm)) hS hA [] (by decide +kernel) rfl (pt_setid _ _ _ rfl) rfl ⟨Nat.zero_le _, Nat.zero_le _⟩ (fun H locs hP hD hS => ?_)
    refine lv_iload_n hx hb dX5_person_4 rfl (lv_at hl 2 rfl) ?_
    refine lv_iconst (v := 0) hx hb dX5_person_5 (by decide) ?_
    refine lv_bipush (v := 6) hx hb dX5_person_6 (by decide) ?_
    rcases bx_of hf with ⟨E_6, hc_4, hf⟩ | ⟨u_5, hc_4, hf⟩
    · cases hf
      exact tx_Sx (As := [.int x2, .int (0 : Int32), .int (6 : Int32)]) (rest := []) (nL := 3) hne hlocks ⟨hx, hb, hml, hown, hts⟩ (c_X5_requireRange_x l hfl X x2 (0 : Int32) (6 : Int32) E hc_4) (va_cwS 3 hts gX5_person_X5_requireRange rfl rfl rfl (by decide +kernel) ⟨Nat.le_of_ble_eq_true rfl, Nat.le_of_ble_eq_true rfl⟩) rfl hl.1 rfl (Nat.le_of_ble_eq_true rfl) dX5_person_8 hTS hTZ hK hP (hD0.addr (wLR_fst.trans wLR_fst.symm)) hS hA [] (by decide +kernel) rfl (pt_setid _ _ _ rfl) ⟨Nat.le_of_ble_eq_true rfl, Nat.le_of_ble_eq_true rfl⟩
    · refine fn_Sx (v := none) (As := [.int x2, .int (0 : Int32), .int (6 : Int32)]) (rest := []) (st1 := []) (ws' := (wLR X x0 hh ht ch tx y hy rP fP rT fT rG fG rL fL rH fH gi di re ti rPT fPT rTT fTT rGT fGT rLT fLT rHT fHT giT diT reT tiT rS fS rB fB rO fO pl fa cn ro Qh)) (nL := 3) ⟨hx, hb, hml, hown, hts⟩ (c_X5_requireRange l X x2 (0 : Int32) (6 : Int32) hc_4) (va_cwS 3 hts gX5_person_X5_requireRange rfl rfl rfl (by decide +kernel) ⟨Nat.le_of_ble_eq_true rfl, Nat.le_of_ble_eq_true rfl⟩) rfl hl.1 rfl (Nat.le_of_ble_eq_true rfl) dX5_person_8 hK hP (hD0.addr (wLR_fst.trans wLR_fst.symm)) hS hA [] (by decide +kernel) rfl (pt_setid _ _ _ rfl) rfl ⟨Nat.zero_le _, Nat.zero_le _⟩ (fun H locs hP hD hS => ?_)
      refine lv_aload_n hx hb dX5_person_11 rfl (lv_at hl 0 rfl) ?_
      refine va_get (D := X.1) (ci := 5) (v := .ref (hh 0)) (C := RX5) (T := TX5) (N := 5) hx hb hts hiX5 hown hK.1 hP 0 rfl rfl 0 (by decide) k10 (fun _ h9 => h9) rfl dX5_person_12 ?_
      refine lv_iload_n hx hb dX5_person_15 rfl (lv_at hl 1 rfl) ?_
      refine lv_iload_n hx hb dX5_person_16 rfl (lv_at hl 2 rfl) ?_
      obtain ⟨r_7, hc_8, hf⟩ := bd_of hf
      refine fn_V (v := some (.int r_7)) (As := [.int x1, .int x2]) (rest := []) (st1 := [.int r_7]) (ws' := (wLR X x0 hh ht ch tx y hy rP fP rT fT rG fG rL fL rH fH gi di re ti rPT fPT rTT fTT rGT fGT rLT fLT rHT fHT giT diT reT tiT rS fS rB fB rO fO pl fa cn ro Qh)) (nL := 3) ⟨hx, hb, hml, hown, hts⟩ (c_X2_aboutPerson l X hh rP fP rT fT rG fG rL fL rH fH gi di re ti x1 x2 r_7 hc_8) (cwV 2 hts gX5_person_X2_aboutPerson rfl rfl rfl (by decide +kernel) ⟨Nat.le_of_ble_eq_true rfl, Nat.le_of_ble_eq_true rfl⟩) 2 rfl rfl rfl rfl hl.1 rfl (Nat.le_of_ble_eq_true rfl) dX5_person_17 hK hP (hD0.addr (wLR_fst.trans wLR_fst.symm)) hS hA [1, 2, 3, 4, 5, 6, 7, 8, 9, 10, 11] (by decide +kernel) lC_h (pt_setid _ _ _ lC_h) rfl ⟨Nat.zero_le _, Nat.zero_le _⟩ (fun H locs hP hD hS => ?_)
      cases hf

def f_X5_thing (x1 : Int32) (x2 : Int32) (rT : Int32) (fT : (Nat → Int32)) (rG : Int32) (fG : (Nat → Int32)) (rH : Int32) (fH : (Nat → Int32)) : Option ((String) ⊕ (Int32)) :=
  bx (f_X5_requireThing x1 rT) (fun E_3 => some (.inl E_3)) (fun u_2 =>
  bx (f_X5_requireRange x2 (0 : Int32) (5 : Int32)) (fun E_6 => some (.inl E_6)) (fun u_5 =>
  bd (f_X2_aboutThing x1 x2 rT fT rG fG rH fH) (fun r_7 =>
  some (.inr r_7))))
set_option maxHeartbeats 4000000 in
set_option maxRecDepth 100000 in
theorem c_X5_thing (l : Launch) (X : cx_G) (x0 : Nat) (hh : (Nat → Nat)) (ht : (Nat → Nat)) (ch : (Nat → Nat)) (tx : (Nat → Nat)) (y : (Nat → Nat)) (hy : (Nat → Nat → Nat)) (rP : Int32) (fP : (Nat → Int32)) (rT : Int32) (fT : (Nat → Int32)) (rG : Int32) (fG : (Nat → Int32)) (rL : Int32) (fL : (Nat → Int32)) (rH : Int32) (fH : (Nat → Int32)) (gi : Int32) (di : Int32) (re : Int32) (ti : Int32) (rPT : Int32) (fPT : (Nat → Int32)) (rTT : Int32) (fTT : (Nat → Int32)) (rGT : Int32) (fGT : (Nat → Int32)) (rLT : Int32) (fLT : (Nat → Int32)) (rHT : Int32) (fHT : (Nat → Int32)) (giT : Int32) (diT : Int32) (reT : Int32) (tiT : Int32) (rS : Int32) (fS : (Nat → Int32)) (rB : Int32) (fB : (Nat → Int32)) (rO : Int32) (fO : (Nat → Int32)) (pl : Int32) (fa : Int32) (cn : Int32) (ro : Nat) (Qh : (Nat → HS)) (x1 : Int32) (x2 : Int32) (r : Int32) (hf : f_X5_thing x1 x2 rT fT rG fG rH fH = some (.inr r)) : Fn l yX5_thing wsX5_thing ({ frames := 3, cells := 0, slots := 0, locals := 70 } : Room) X [.ref (x0), .int x1, .int x2] (wLR X x0 hh ht ch tx y hy rP fP rT fT rG fG rL fL rH fH gi di re ti rPT fPT rTT fTT rGT fGT rLT fLT rHT fHT giT diT reT tiT rS fS rB fB rO fO pl fa cn ro Qh) (some (.int r)) (wLR X x0 hh ht ch tx y hy rP fP rT fT rG fG rL fL rH fH gi di re ti rPT fPT rTT fTT rGT fGT rLT fLT rHT fHT giT diT reT tiT rS fS rB fB rO fO pl fa cn ro Qh) := by
  refine fn_intro (cc := cX5_thing) (maxL := 3) (ret := (some .int)) (by decide) rfl rfl (Nat.le_of_ble_eq_true rfl) ?_
  intro p e s m args below meth c A ls hx hb hml hr hts hown hlocks hK hP hD0 hS hA hl
  have hown : s.vm.findClass RX5 = some m.cls := hown
  have hl : lv_has ls 3 [(0, .ref (x0)), (1, .int x1), (2, .int x2)] := hl
  have hiX5 : ∀ w ∈ u_ws RX5 TX5 5, w ∈ wsX5_thing := by decide +kernel
  have k10 := hts (.fieldLink RX5 10 "LentRights" "house" "LLentRights$House;") (by decide +kernel)
  unfold f_X5_thing at hf
  refine lv_aload_n hx hb dX5_thing_0 rfl (lv_at hl 0 rfl) ?_
  refine lv_iload_n hx hb dX5_thing_1 rfl (lv_at hl 1 rfl) ?_
  rcases bx_of hf with ⟨E_3, hc_1, hf⟩ | ⟨u_2, hc_1, hf⟩
  · cases hf
  · refine fn_V (v := none) (As := [.int x1]) (rest := []) (st1 := []) (ws' := (wLR X x0 hh ht ch tx y hy rP fP rT fT rG fG rL fL rH fH gi di re ti rPT fPT rTT fTT rGT fGT rLT fLT rHT fHT giT diT reT tiT rS fS rB fB rO fO pl fa cn ro Qh)) (nL := 3) ⟨hx, hb, hml, hown, hts⟩ (c_X5_requireThing l X x0 hh ht ch tx y hy rP fP rT fT rG fG rL fL rH fH gi di re ti rPT fPT rTT fTT rGT fGT rLT fLT rHT fHT giT diT reT tiT rS fS rB fB rO fO pl fa cn ro Qh x1 hc_1) (cwV 1 hts gX5_thing_X5_requireThing rfl rfl rfl (by decide +kernel) ⟨Nat.le_of_ble_eq_true rfl, Nat.le_of_ble_eq_true rfl⟩) 5 rfl rfl rfl rfl hl.1 rfl (Nat.le_of_ble_eq_true rfl) dX5_thing_2 hK hP (hD0.addr (wLR_fst.trans wLR_fst.symm)) hS hA [0, 1, 2, 3, 4, 5, 6, 7, 8, 9, 10, 11, 12, 13, 14, 15, 16, 17, 18, 19, 20, 21, 22, 23, 24, 25, 26, 27, 28, 29, 30, 31, 32, 33, 34, 35, 36, 37, 38, 39, 40, 41, 42, 43, 44, 45, 46, 47, 48, 49, 50, 51, 52, 53, 54, 55, 56, 57, 58, 59, 60, 61, 62, 63, 64, 65, 66, 67, 68, 69, 70, 71, 72, 73, 74, 75, 76] (by decide +kernel) lC_a (pt_setid _ _ _ lC_a) rfl ⟨Nat.zero_le _, Nat.zero_le _⟩ (fun H locs hP hD hS => ?_)
    refine lv_iload_n hx hb dX5_thing_5 rfl (lv_at hl 2 rfl) ?_
    refine lv_iconst (v := 0) hx hb dX5_thing_6 (by decide) ?_
    refine lv_iconst (v := 5) hx hb dX5_thing_7 (by decide) ?_
    rcases bx_of hf with ⟨E_6, hc_4, hf⟩ | ⟨u_5, hc_4, hf⟩
    · cases hf
    · refine fn_Sx (v := none) (As := [.int x2, .int (0 : Int32), .int (5 : Int32)]) (rest := []) (st1 := []) (ws' := (wLR X x0 hh ht ch tx y hy rP fP rT fT rG fG rL fL rH fH gi di re ti rPT fPT rTT fTT rGT fGT rLT fLT rHT fHT giT diT reT tiT rS fS rB fB rO fO pl fa cn ro Qh)) (nL := 3) ⟨hx, hb, hml, hown, hts⟩ (c_X5_requireRange l X x2 (0 : Int32) (5 : Int32) hc_4) (va_cwS 3 hts gX5_thing_X5_requireRange rfl rfl rfl (by decide +kernel) ⟨Nat.le_of_ble_eq_true rfl, Nat.le_of_ble_eq_true rfl⟩) rfl hl.1 rfl (Nat.le_of_ble_eq_true rfl) dX5_thing_8 hK hP (hD0.addr (wLR_fst.trans wLR_fst.symm)) hS hA [] (by decide +kernel) rfl (pt_setid _ _ _ rfl) rfl ⟨Nat.zero_le _, Nat.zero_le _⟩ (fun H locs hP hD hS => ?_)
      refine lv_aload_n hx hb dX5_thing_11 rfl (lv_at hl 0 rfl) ?_
      refine va_get (D := X.1) (ci := 5) (v := .ref (hh 0)) (C := RX5) (T := TX5) (N := 5) hx hb hts hiX5 hown hK.1 hP 0 rfl rfl 0 (by decide) k10 (fun _ h9 => h9) rfl dX5_thing_12 ?_
      refine lv_iload_n hx hb dX5_thing_15 rfl (lv_at hl 1 rfl) ?_
      refine lv_iload_n hx hb dX5_thing_16 rfl (lv_at hl 2 rfl) ?_
      obtain ⟨r_7, hc_8, hf⟩ := bd_of hf
      refine fn_V (v := some (.int r_7)) (As := [.int x1, .int x2]) (rest := []) (st1 := [.int r_7]) (ws' := (wLR X x0 hh ht ch tx y hy rP fP rT fT rG fG rL fL rH fH gi di re ti rPT fPT rTT fTT rGT fGT rLT fLT rHT fHT giT diT reT tiT rS fS rB fB rO fO pl fa cn ro Qh)) (nL := 3) ⟨hx, hb, hml, hown, hts⟩ (c_X2_aboutThing l X hh rP fP rT fT rG fG rL fL rH fH gi di re ti x1 x2 r_7 hc_8) (cwV 2 hts gX5_thing_X2_aboutThing rfl rfl rfl (by decide +kernel) ⟨Nat.le_of_ble_eq_true rfl, Nat.le_of_ble_eq_true rfl⟩) 2 rfl rfl rfl rfl hl.1 rfl (Nat.le_of_ble_eq_true rfl) dX5_thing_17 hK hP (hD0.addr (wLR_fst.trans wLR_fst.symm)) hS hA [1, 2, 3, 4, 5, 6, 7, 8, 9, 10, 11] (by decide +kernel) lC_h (pt_setid _ _ _ lC_h) rfl ⟨Nat.zero_le _, Nat.zero_le _⟩ (fun H locs hP hD hS => ?_)
      cases hf
      exact fn_iret hx hb hr hlocks hP hS dX5_thing_20
set_option maxHeartbeats 4000000 in
set_option maxRecDepth 100000 in
theorem c_X5_thing_x (l : Launch) (hfl : l.stackTraces = false) (X : cx_G) (x0 : Nat) (hh : (Nat → Nat)) (ht : (Nat → Nat)) (ch : (Nat → Nat)) (tx : (Nat → Nat)) (y : (Nat → Nat)) (hy : (Nat → Nat → Nat)) (rP : Int32) (fP : (Nat → Int32)) (rT : Int32) (fT : (Nat → Int32)) (rG : Int32) (fG : (Nat → Int32)) (rL : Int32) (fL : (Nat → Int32)) (rH : Int32) (fH : (Nat → Int32)) (gi : Int32) (di : Int32) (re : Int32) (ti : Int32) (rPT : Int32) (fPT : (Nat → Int32)) (rTT : Int32) (fTT : (Nat → Int32)) (rGT : Int32) (fGT : (Nat → Int32)) (rLT : Int32) (fLT : (Nat → Int32)) (rHT : Int32) (fHT : (Nat → Int32)) (giT : Int32) (diT : Int32) (reT : Int32) (tiT : Int32) (rS : Int32) (fS : (Nat → Int32)) (rB : Int32) (fB : (Nat → Int32)) (rO : Int32) (fO : (Nat → Int32)) (pl : Int32) (fa : Int32) (cn : Int32) (ro : Nat) (Qh : (Nat → HS)) (x1 : Int32) (x2 : Int32) (E : String) (hf : f_X5_thing x1 x2 rT fT rG fG rH fH = some (.inl E)) : Tx l yX5_thing wsX5_thing ({ frames := 7, cells := 1, slots := 6, locals := 112 } : Room) X [.ref (x0), .int x1, .int x2] (wLR X x0 hh ht ch tx y hy rP fP rT fT rG fG rL fL rH fH gi di re ti rPT fPT rTT fTT rGT fGT rLT fLT rHT fHT giT diT reT tiT rS fS rB fB rO fO pl fa cn ro Qh) E (wLR X x0 hh ht ch tx y hy rP fP rT fT rG fG rL fL rH fH gi di re ti rPT fPT rTT fTT rGT fGT rLT fLT rHT fHT giT diT reT tiT rS fS rB fB rO fO pl fa cn ro Qh) := by
  refine tx_intro (cc := cX5_thing) (maxL := 3) (ret := (some .int)) (by decide) rfl rfl (Nat.le_of_ble_eq_true rfl) ?_
  intro p e s m args below meth c A ls hx hb hml hr hts hown hlocks hne hK hP hD0 hS hA hTS hTZ hl
  have hown : s.vm.findClass RX5 = some m.cls := hown
  have hl : lv_has ls 3 [(0, .ref (x0)), (1, .int x1), (2, .int x2)] := hl
  have hiX5 : ∀ w ∈ u_ws RX5 TX5 5, w ∈ wsX5_thing := by decide +kernel
  have k10 := hts (.fieldLink RX5 10 "LentRights" "house" "LLentRights$House;") (by decide +kernel)
  unfold f_X5_thing at hf
  refine lv_aload_n hx hb dX5_thing_0 rfl (lv_at hl 0 rfl) ?_
  refine lv_iload_n hx hb dX5_thing_1 rfl (lv_at hl 1 rfl) ?_
  rcases bx_of hf with ⟨E_3, hc_1, hf⟩ | ⟨u_2, hc_1, hf⟩
  · cases hf
    exact tx_V (As := [.int x1]) (rest := []) (nL := 3) hne hlocks ⟨hx, hb, hml, hown, hts⟩ (c_X5_requireThing_x l hfl X x0 hh ht ch tx y hy rP fP rT fT rG fG rL fL rH fH gi di re ti rPT fPT rTT fTT rGT fGT rLT fLT rHT fHT giT diT reT tiT rS fS rB fB rO fO pl fa cn ro Qh x1 E hc_1) (cwV 1 hts gX5_thing_X5_requireThing rfl rfl rfl (by decide +kernel) ⟨Nat.le_of_ble_eq_true rfl, Nat.le_of_ble_eq_true rfl⟩) 5 rfl rfl rfl rfl hl.1 rfl (Nat.le_of_ble_eq_true rfl) dX5_thing_2 hTS hTZ hK hP (hD0.addr (wLR_fst.trans wLR_fst.symm)) hS hA [0, 1, 2, 3, 4, 5, 6, 7, 8, 9, 10, 11, 12, 13, 14, 15, 16, 17, 18, 19, 20, 21, 22, 23, 24, 25, 26, 27, 28, 29, 30, 31, 32, 33, 34, 35, 36, 37, 38, 39, 40, 41, 42, 43, 44, 45, 46, 47, 48, 49, 50, 51, 52, 53, 54, 55, 56, 57, 58, 59, 60, 61, 62, 63, 64, 65, 66, 67, 68, 69, 70, 71, 72, 73, 74, 75, 76] (by decide +kernel) lC_a (pt_setid _ _ _ lC_a) ⟨Nat.le_of_ble_eq_true rfl, Nat.le_of_ble_eq_true rfl⟩
  · refine fn_V (v := none) (As := [.int x1]) (rest := []) (st1 := []) (ws' := (wLR X x0 hh ht ch tx y hy rP fP rT fT rG fG rL fL rH fH gi di re ti rPT fPT rTT fTT rGT fGT rLT fLT rHT fHT giT diT reT tiT rS fS rB fB rO fO pl fa cn ro Qh)) (nL := 3) ⟨hx, hb, hml, hown, hts⟩ (c_X5_requireThing l X x0 hh ht ch tx y hy rP fP rT fT rG fG rL fL rH fH gi di re ti rPT fPT rTT fTT rGT fGT rLT fLT rHT fHT giT diT reT tiT rS fS rB fB rO fO pl fa cn ro Qh x1 hc_1) (cwV 1 hts gX5_thing_X5_requireThing rfl rfl rfl (by decide +kernel) ⟨Nat.le_of_ble_eq_true rfl, Nat.le_of_ble_eq_true rfl⟩) 5 rfl rfl rfl rfl hl.1 rfl (Nat.le_of_ble_eq_true rfl) dX5_thing_2 hK hP (hD0.addr (wLR_fst.trans wLR_fst.symm)) hS hA [0, 1, 2, 3, 4, 5, 6, 7, 8, 9, 10, 11, 12, 13, 14, 15, 16, 17, 18, 19, 20, 21, 22, 23, 24, 25, 26, 27, 28, 29, 30, 31, 32, 33, 34, 35, 36, 37, 38, 39, 40, 41, 42, 43, 44, 45, 46, 47, 48, 49, 50, 51, 52, 53, 54, 55, 56, 57, 58, 59, 60, 61, 62, 63, 64, 65, 66, 67, 68, 69, 70, 71, 72, 73, 74, 75, 76] (by decide +kernel) lC_a (pt_setid _ _ _ lC_a) rfl ⟨Nat.zero_le _, Nat.zero_le _⟩ (fun H locs hP hD hS => ?_)
    refine lv_iload_n hx hb dX5_thing_5 rfl (lv_at hl 2 rfl) ?_
    refine lv_iconst (v := 0) hx hb dX5_thing_6 (by decide) ?_
    refine lv_iconst (v := 5) hx hb dX5_thing_7 (by decide) ?_
    rcases bx_of hf with ⟨E_6, hc_4, hf⟩ | ⟨u_5, hc_4, hf⟩
    · cases hf
      exact tx_Sx (As := [.int x2, .int (0 : Int32), .int (5 : Int32)]) (rest := []) (nL := 3) hne hlocks ⟨hx, hb, hml, hown, hts⟩ (c_X5_requireRange_x l hfl X x2 (0 : Int32) (5 : Int32) E hc_4) (va_cwS 3 hts gX5_thing_X5_requireRange rfl rfl rfl (by decide +kernel) ⟨Nat.le_of_ble_eq_true rfl, Nat.le_of_ble_eq_true rfl⟩) rfl hl.1 rfl (Nat.le_of_ble_eq_true rfl) dX5_thing_8 hTS hTZ hK hP (hD0.addr (wLR_fst.trans wLR_fst.symm)) hS hA [] (by decide +kernel) rfl (pt_setid _ _ _ rfl) ⟨Nat.le_of_ble_eq_true rfl, Nat.le_of_ble_eq_true rfl⟩
    · refine fn_Sx (v := none) (As := [.int x2, .int (0 : Int32), .int (5 : Int32)]) (rest := []) (st1 := []) (ws' := (wLR X x0 hh ht ch tx y hy rP fP rT fT rG fG rL fL rH fH gi di re ti rPT fPT rTT fTT rGT fGT rLT fLT rHT fHT giT diT reT tiT rS fS rB fB rO fO pl fa cn ro Qh)) (nL := 3) ⟨hx, hb, hml, hown, hts⟩ (c_X5_requireRange l X x2 (0 : Int32) (5 : Int32) hc_4) (va_cwS 3 hts gX5_thing_X5_requireRange rfl rfl rfl (by decide +kernel) ⟨Nat.le_of_ble_eq_true rfl, Nat.le_of_ble_eq_true rfl⟩) rfl hl.1 rfl (Nat.le_of_ble_eq_true rfl) dX5_thing_8 hK hP (hD0.addr (wLR_fst.trans wLR_fst.symm)) hS hA [] (by decide +kernel) rfl (pt_setid _ _ _ rfl) rfl ⟨Nat.zero_le _, Nat.zero_le _⟩ (fun H locs hP hD hS => ?_)
      refine lv_aload_n hx hb dX5_thing_11 rfl (lv_at hl 0 rfl) ?_
      refine va_get (D := X.1) (ci := 5) (v := .ref (hh 0)) (C := RX5) (T := TX5) (N := 5) hx hb hts hiX5 hown hK.1 hP 0 rfl rfl 0 (by decide) k10 (fun _ h9 => h9) rfl dX5_thing_12 ?_
      refine lv_iload_n hx hb dX5_thing_15 rfl (lv_at hl 1 rfl) ?_
      refine lv_iload_n hx hb dX5_thing_16 rfl (lv_at hl 2 rfl) ?_
      obtain ⟨r_7, hc_8, hf⟩ := bd_of hf
      refine fn_V (v := some (.int r_7)) (As := [.int x1, .int x2]) (rest := []) (st1 := [.int r_7]) (ws' := (wLR X x0 hh ht ch tx y hy rP fP rT fT rG fG rL fL rH fH gi di re ti rPT fPT rTT fTT rGT fGT rLT fLT rHT fHT giT diT reT tiT rS fS rB fB rO fO pl fa cn ro Qh)) (nL := 3) ⟨hx, hb, hml, hown, hts⟩ (c_X2_aboutThing l X hh rP fP rT fT rG fG rL fL rH fH gi di re ti x1 x2 r_7 hc_8) (cwV 2 hts gX5_thing_X2_aboutThing rfl rfl rfl (by decide +kernel) ⟨Nat.le_of_ble_eq_true rfl, Nat.le_of_ble_eq_true rfl⟩) 2 rfl rfl rfl rfl hl.1 rfl (Nat.le_of_ble_eq_true rfl) dX5_thing_17 hK hP (hD0.addr (wLR_fst.trans wLR_fst.symm)) hS hA [1, 2, 3, 4, 5, 6, 7, 8, 9, 10, 11] (by decide +kernel) lC_h (pt_setid _ _ _ lC_h) rfl ⟨Nat.zero_le _, Nat.zero_le _⟩ (fun H locs hP hD hS => ?_)
      cases hf

def f_X5_grantOf (x1 : Int32) (x2 : Int32) (rT : Int32) (fT : (Nat → Int32)) (rG : Int32) (fG : (Nat → Int32)) (rH : Int32) (fH : (Nat → Int32)) : Option ((String) ⊕ (Int32)) :=
  bx (f_X5_requireGrant x1 rG fG) (fun E_3 => some (.inl E_3)) (fun r_1 =>
  bx (f_X5_requireRange x2 (0 : Int32) (5 : Int32)) (fun E_6 => some (.inl E_6)) (fun u_5 =>
  bd (f_X2_aboutGrant r_1 x2 rT fT rG fG rH fH) (fun r_7 =>
  some (.inr r_7))))
set_option maxHeartbeats 4000000 in
set_option maxRecDepth 100000 in
theorem c_X5_grantOf (l : Launch) (X : cx_G) (x0 : Nat) (hh : (Nat → Nat)) (ht : (Nat → Nat)) (ch : (Nat → Nat)) (tx : (Nat → Nat)) (y : (Nat → Nat)) (hy : (Nat → Nat → Nat)) (rP : Int32) (fP : (Nat → Int32)) (rT : Int32) (fT : (Nat → Int32)) (rG : Int32) (fG : (Nat → Int32)) (rL : Int32) (fL : (Nat → Int32)) (rH : Int32) (fH : (Nat → Int32)) (gi : Int32) (di : Int32) (re : Int32) (ti : Int32) (rPT : Int32) (fPT : (Nat → Int32)) (rTT : Int32) (fTT : (Nat → Int32)) (rGT : Int32) (fGT : (Nat → Int32)) (rLT : Int32) (fLT : (Nat → Int32)) (rHT : Int32) (fHT : (Nat → Int32)) (giT : Int32) (diT : Int32) (reT : Int32) (tiT : Int32) (rS : Int32) (fS : (Nat → Int32)) (rB : Int32) (fB : (Nat → Int32)) (rO : Int32) (fO : (Nat → Int32)) (pl : Int32) (fa : Int32) (cn : Int32) (ro : Nat) (Qh : (Nat → HS)) (x1 : Int32) (x2 : Int32) (r : Int32) (hf : f_X5_grantOf x1 x2 rT fT rG fG rH fH = some (.inr r)) : Fn l yX5_grantOf wsX5_grantOf ({ frames := 3, cells := 0, slots := 0, locals := 69 } : Room) X [.ref (x0), .int x1, .int x2] (wLR X x0 hh ht ch tx y hy rP fP rT fT rG fG rL fL rH fH gi di re ti rPT fPT rTT fTT rGT fGT rLT fLT rHT fHT giT diT reT tiT rS fS rB fB rO fO pl fa cn ro Qh) (some (.int r)) (wLR X x0 hh ht ch tx y hy rP fP rT fT rG fG rL fL rH fH gi di re ti rPT fPT rTT fTT rGT fGT rLT fLT rHT fHT giT diT reT tiT rS fS rB fB rO fO pl fa cn ro Qh) := by
  refine fn_intro (cc := cX5_grantOf) (maxL := 4) (ret := (some .int)) (by decide) rfl rfl (Nat.le_of_ble_eq_true rfl) ?_
  intro p e s m args below meth c A ls hx hb hml hr hts hown hlocks hK hP hD0 hS hA hl
  have hown : s.vm.findClass RX5 = some m.cls := hown
  have hl : lv_has ls 4 [(0, .ref (x0)), (1, .int x1), (2, .int x2)] := hl
  have hiX5 : ∀ w ∈ u_ws RX5 TX5 5, w ∈ wsX5_grantOf := by decide +kernel
  have k10 := hts (.fieldLink RX5 10 "LentRights" "house" "LLentRights$House;") (by decide +kernel)
  unfold f_X5_grantOf at hf
  refine lv_aload_n hx hb dX5_grantOf_0 rfl (lv_at hl 0 rfl) ?_
  refine lv_iload_n hx hb dX5_grantOf_1 rfl (lv_at hl 1 rfl) ?_
  rcases bx_of hf with ⟨E_3, hc_2, hf⟩ | ⟨r_1, hc_2, hf⟩
  · cases hf
  · refine fn_V (v := some (.int r_1)) (As := [.int x1]) (rest := []) (st1 := [.int r_1]) (ws' := (wLR X x0 hh ht ch tx y hy rP fP rT fT rG fG rL fL rH fH gi di re ti rPT fPT rTT fTT rGT fGT rLT fLT rHT fHT giT diT reT tiT rS fS rB fB rO fO pl fa cn ro Qh)) (nL := 4) ⟨hx, hb, hml, hown, hts⟩ (c_X5_requireGrant l X x0 hh ht ch tx y hy rP fP rT fT rG fG rL fL rH fH gi di re ti rPT fPT rTT fTT rGT fGT rLT fLT rHT fHT giT diT reT tiT rS fS rB fB rO fO pl fa cn ro Qh x1 r_1 hc_2) (cwV 1 hts gX5_grantOf_X5_requireGrant rfl rfl rfl (by decide +kernel) ⟨Nat.le_of_ble_eq_true rfl, Nat.le_of_ble_eq_true rfl⟩) 5 rfl rfl rfl rfl hl.1 rfl (Nat.le_of_ble_eq_true rfl) dX5_grantOf_2 hK hP (hD0.addr (wLR_fst.trans wLR_fst.symm)) hS hA [0, 1, 2, 3, 4, 5, 6, 7, 8, 9, 10, 11, 12, 13, 14, 15, 16, 17, 18, 19, 20, 21, 22, 23, 24, 25, 26, 27, 28, 29, 30, 31, 32, 33, 34, 35, 36, 37, 38, 39, 40, 41, 42, 43, 44, 45, 46, 47, 48, 49, 50, 51, 52, 53, 54, 55, 56, 57, 58, 59, 60, 61, 62, 63, 64, 65, 66, 67, 68, 69, 70, 71, 72, 73, 74, 75, 76] (by decide +kernel) lC_a (pt_setid _ _ _ lC_a) rfl ⟨Nat.zero_le _, Nat.zero_le _⟩ (fun H locs hP hD hS => ?_)
    refine lv_istore_n (lv' := [(3, .int r_1), (0, .ref (x0)), (1, .int x1), (2, .int x2)]) hx hb dX5_grantOf_5 rfl hl (by decide) rfl (fun ls hl => ?_)
    refine lv_iload_n hx hb dX5_grantOf_6 rfl (lv_at hl 3 rfl) ?_
    refine lv_iconst (v := 0) hx hb dX5_grantOf_7 (by decide) ?_
    refine lv_iconst (v := 5) hx hb dX5_grantOf_8 (by decide) ?_
    rcases bx_of hf with ⟨E_6, hc_4, hf⟩ | ⟨u_5, hc_4, hf⟩
    · cases hf
    · refine fn_Sx (v := none) (As := [.int x2, .int (0 : Int32), .int (5 : Int32)]) (rest := []) (st1 := []) (ws' := (wLR X x0 hh ht ch tx y hy rP fP rT fT rG fG rL fL rH fH gi di re ti rPT fPT rTT fTT rGT fGT rLT fLT rHT fHT giT diT reT tiT rS fS rB fB rO fO pl fa cn ro Qh)) (nL := 4) ⟨hx, hb, hml, hown, hts⟩ (c_X5_requireRange l X x2 (0 : Int32) (5 : Int32) hc_4) (va_cwS 3 hts gX5_grantOf_X5_requireRange rfl rfl rfl (by decide +kernel) ⟨Nat.le_of_ble_eq_true rfl, Nat.le_of_ble_eq_true rfl⟩) rfl hl.1 rfl (Nat.le_of_ble_eq_true rfl) dX5_grantOf_9 hK hP (hD0.addr (wLR_fst.trans wLR_fst.symm)) hS hA [] (by decide +kernel) rfl (pt_setid _ _ _ rfl) rfl ⟨Nat.zero_le _, Nat.zero_le _⟩ (fun H locs hP hD hS => ?_)
      refine lv_aload_n hx hb dX5_grantOf_12 rfl (lv_at hl 1 rfl) ?_
      refine va_get (D := X.1) (ci := 5) (v := .ref (hh 0)) (C := RX5) (T := TX5) (N := 5) hx hb hts hiX5 hown hK.1 hP 0 rfl rfl 0 (by decide) k10 (fun _ h9 => h9) rfl dX5_grantOf_13 ?_
      refine lv_iload_n hx hb dX5_grantOf_16 rfl (lv_at hl 0 rfl) ?_
      refine lv_iload_n hx hb dX5_grantOf_17 rfl (lv_at hl 3 rfl) ?_
      obtain ⟨r_7, hc_8, hf⟩ := bd_of hf
      refine fn_V (v := some (.int r_7)) (As := [.int r_1, .int x2]) (rest := []) (st1 := [.int r_7]) (ws' := (wLR X x0 hh ht ch tx y hy rP fP rT fT rG fG rL fL rH fH gi di re ti rPT fPT rTT fTT rGT fGT rLT fLT rHT fHT giT diT reT tiT rS fS rB fB rO fO pl fa cn ro Qh)) (nL := 4) ⟨hx, hb, hml, hown, hts⟩ (c_X2_aboutGrant l X hh rP fP rT fT rG fG rL fL rH fH gi di re ti r_1 x2 r_7 hc_8) (cwV 2 hts gX5_grantOf_X2_aboutGrant rfl rfl rfl (by decide +kernel) ⟨Nat.le_of_ble_eq_true rfl, Nat.le_of_ble_eq_true rfl⟩) 2 rfl rfl rfl rfl hl.1 rfl (Nat.le_of_ble_eq_true rfl) dX5_grantOf_18 hK hP (hD0.addr (wLR_fst.trans wLR_fst.symm)) hS hA [1, 2, 3, 4, 5, 6, 7, 8, 9, 10, 11] (by decide +kernel) lC_h (pt_setid _ _ _ lC_h) rfl ⟨Nat.zero_le _, Nat.zero_le _⟩ (fun H locs hP hD hS => ?_)
      cases hf
      exact fn_iret hx hb hr hlocks hP hS dX5_grantOf_21
set_option maxHeartbeats 4000000 in
set_option maxRecDepth 100000 in
theorem c_X5_grantOf_x (l : Launch) (hfl : l.stackTraces = false) (X : cx_G) (x0 : Nat) (hh : (Nat → Nat)) (ht : (Nat → Nat)) (ch : (Nat → Nat)) (tx : (Nat → Nat)) (y : (Nat → Nat)) (hy : (Nat → Nat → Nat)) (rP : Int32) (fP : (Nat → Int32)) (rT : Int32) (fT : (Nat → Int32)) (rG : Int32) (fG : (Nat → Int32)) (rL : Int32) (fL : (Nat → Int32)) (rH : Int32) (fH : (Nat → Int32)) (gi : Int32) (di : Int32) (re : Int32) (ti : Int32) (rPT : Int32) (fPT : (Nat → Int32)) (rTT : Int32) (fTT : (Nat → Int32)) (rGT : Int32) (fGT : (Nat → Int32)) (rLT : Int32) (fLT : (Nat → Int32)) (rHT : Int32) (fHT : (Nat → Int32)) (giT : Int32) (diT : Int32) (reT : Int32) (tiT : Int32) (rS : Int32) (fS : (Nat → Int32)) (rB : Int32) (fB : (Nat → Int32)) (rO : Int32) (fO : (Nat → Int32)) (pl : Int32) (fa : Int32) (cn : Int32) (ro : Nat) (Qh : (Nat → HS)) (x1 : Int32) (x2 : Int32) (E : String) (hf : f_X5_grantOf x1 x2 rT fT rG fG rH fH = some (.inl E)) : Tx l yX5_grantOf wsX5_grantOf ({ frames := 7, cells := 1, slots := 6, locals := 112 } : Room) X [.ref (x0), .int x1, .int x2] (wLR X x0 hh ht ch tx y hy rP fP rT fT rG fG rL fL rH fH gi di re ti rPT fPT rTT fTT rGT fGT rLT fLT rHT fHT giT diT reT tiT rS fS rB fB rO fO pl fa cn ro Qh) E (wLR X x0 hh ht ch tx y hy rP fP rT fT rG fG rL fL rH fH gi di re ti rPT fPT rTT fTT rGT fGT rLT fLT rHT fHT giT diT reT tiT rS fS rB fB rO fO pl fa cn ro Qh) := by
  refine tx_intro (cc := cX5_grantOf) (maxL := 4) (ret := (some .int)) (by decide) rfl rfl (Nat.le_of_ble_eq_true rfl) ?_
  intro p e s m args below meth c A ls hx hb hml hr hts hown hlocks hne hK hP hD0 hS hA hTS hTZ hl
  have hown : s.vm.findClass RX5 = some m.cls := hown
  have hl : lv_has ls 4 [(0, .ref (x0)), (1, .int x1), (2, .int x2)] := hl
  have hiX5 : ∀ w ∈ u_ws RX5 TX5 5, w ∈ wsX5_grantOf := by decide +kernel
  have k10 := hts (.fieldLink RX5 10 "LentRights" "house" "LLentRights$House;") (by decide +kernel)
  unfold f_X5_grantOf at hf
  refine lv_aload_n hx hb dX5_grantOf_0 rfl (lv_at hl 0 rfl) ?_
  refine lv_iload_n hx hb dX5_grantOf_1 rfl (lv_at hl 1 rfl) ?_
  rcases bx_of hf with ⟨E_3, hc_2, hf⟩ | ⟨r_1, hc_2, hf⟩
  · cases hf
    exact tx_V (As := [.int x1]) (rest := []) (nL := 4) hne hlocks ⟨hx, hb, hml, hown, hts⟩ (c_X5_requireGrant_x l hfl X x0 hh ht ch tx y hy rP fP rT fT rG fG rL fL rH fH gi di re ti rPT fPT rTT fTT rGT fGT rLT fLT rHT fHT giT diT reT tiT rS fS rB fB rO fO pl fa cn ro Qh x1 E hc_2) (cwV 1 hts gX5_grantOf_X5_requireGrant rfl rfl rfl (by decide +kernel) ⟨Nat.le_of_ble_eq_true rfl, Nat.le_of_ble_eq_true rfl⟩) 5 rfl rfl rfl rfl hl.1 rfl (Nat.le_of_ble_eq_true rfl) dX5_grantOf_2 hTS hTZ hK hP (hD0.addr (wLR_fst.trans wLR_fst.symm)) hS hA [0, 1, 2, 3, 4, 5, 6, 7, 8, 9, 10, 11, 12, 13, 14, 15, 16, 17, 18, 19, 20, 21, 22, 23, 24, 25, 26, 27, 28, 29, 30, 31, 32, 33, 34, 35, 36, 37, 38, 39, 40, 41, 42, 43, 44, 45, 46, 47, 48, 49, 50, 51, 52, 53, 54, 55, 56, 57, 58, 59, 60, 61, 62, 63, 64, 65, 66, 67, 68, 69, 70, 71, 72, 73, 74, 75, 76] (by decide +kernel) lC_a (pt_setid _ _ _ lC_a) ⟨Nat.le_of_ble_eq_true rfl, Nat.le_of_ble_eq_true rfl⟩
  · refine fn_V (v := some (.int r_1)) (As := [.int x1]) (rest := []) (st1 := [.int r_1]) (ws' := (wLR X x0 hh ht ch tx y hy rP fP rT fT rG fG rL fL rH fH gi di re ti rPT fPT rTT fTT rGT fGT rLT fLT rHT fHT giT diT reT tiT rS fS rB fB rO fO pl fa cn ro Qh)) (nL := 4) ⟨hx, hb, hml, hown, hts⟩ (c_X5_requireGrant l X x0 hh ht ch tx y hy rP fP rT fT rG fG rL fL rH fH gi di re ti rPT fPT rTT fTT rGT fGT rLT fLT rHT fHT giT diT reT tiT rS fS rB fB rO fO pl fa cn ro Qh x1 r_1 hc_2) (cwV 1 hts gX5_grantOf_X5_requireGrant rfl rfl rfl (by decide +kernel) ⟨Nat.le_of_ble_eq_true rfl, Nat.le_of_ble_eq_true rfl⟩) 5 rfl rfl rfl rfl hl.1 rfl (Nat.le_of_ble_eq_true rfl) dX5_grantOf_2 hK hP (hD0.addr (wLR_fst.trans wLR_fst.symm)) hS hA [0, 1, 2, 3, 4, 5, 6, 7, 8, 9, 10, 11, 12, 13, 14, 15, 16, 17, 18, 19, 20, 21, 22, 23, 24, 25, 26, 27, 28, 29, 30, 31, 32, 33, 34, 35, 36, 37, 38, 39, 40, 41, 42, 43, 44, 45, 46, 47, 48, 49, 50, 51, 52, 53, 54, 55, 56, 57, 58, 59, 60, 61, 62, 63, 64, 65, 66, 67, 68, 69, 70, 71, 72, 73, 74, 75, 76] (by decide +kernel) lC_a (pt_setid _ _ _ lC_a) rfl ⟨Nat.zero_le _, Nat.zero_le _⟩ (fun H locs hP hD hS => ?_)
    refine lv_istore_n (lv' := [(3, .int r_1), (0, .ref (x0)), (1, .int x1), (2, .int x2)]) hx hb dX5_grantOf_5 rfl hl (by decide) rfl (fun ls hl => ?_)
    refine lv_iload_n hx hb dX5_grantOf_6 rfl (lv_at hl 3 rfl) ?_
    refine lv_iconst (v := 0) hx hb dX5_grantOf_7 (by decide) ?_
    refine lv_iconst (v := 5) hx hb dX5_grantOf_8 (by decide) ?_
    rcases bx_of hf with ⟨E_6, hc_4, hf⟩ | ⟨u_5, hc_4, hf⟩
    · cases hf
      exact tx_Sx (As := [.int x2, .int (0 : Int32), .int (5 : Int32)]) (rest := []) (nL := 4) hne hlocks ⟨hx, hb, hml, hown, hts⟩ (c_X5_requireRange_x l hfl X x2 (0 : Int32) (5 : Int32) E hc_4) (va_cwS 3 hts gX5_grantOf_X5_requireRange rfl rfl rfl (by decide +kernel) ⟨Nat.le_of_ble_eq_true rfl, Nat.le_of_ble_eq_true rfl⟩) rfl hl.1 rfl (Nat.le_of_ble_eq_true rfl) dX5_grantOf_9 hTS hTZ hK hP (hD0.addr (wLR_fst.trans wLR_fst.symm)) hS hA [] (by decide +kernel) rfl (pt_setid _ _ _ rfl) ⟨Nat.le_of_ble_eq_true rfl, Nat.le_of_ble_eq_true rfl⟩
    · refine fn_Sx (v := none) (As := [.int x2, .int (0 : Int32), .int (5 : Int32)]) (rest := []) (st1 := []) (ws' := (wLR X x0 hh ht ch tx y hy rP fP rT fT rG fG rL fL rH fH gi di re ti rPT fPT rTT fTT rGT fGT rLT fLT rHT fHT giT diT reT tiT rS fS rB fB rO fO pl fa cn ro Qh)) (nL := 4) ⟨hx, hb, hml, hown, hts⟩ (c_X5_requireRange l X x2 (0 : Int32) (5 : Int32) hc_4) (va_cwS 3 hts gX5_grantOf_X5_requireRange rfl rfl rfl (by decide +kernel) ⟨Nat.le_of_ble_eq_true rfl, Nat.le_of_ble_eq_true rfl⟩) rfl hl.1 rfl (Nat.le_of_ble_eq_true rfl) dX5_grantOf_9 hK hP (hD0.addr (wLR_fst.trans wLR_fst.symm)) hS hA [] (by decide +kernel) rfl (pt_setid _ _ _ rfl) rfl ⟨Nat.zero_le _, Nat.zero_le _⟩ (fun H locs hP hD hS => ?_)
      refine lv_aload_n hx hb dX5_grantOf_12 rfl (lv_at hl 1 rfl) ?_
      refine va_get (D := X.1) (ci := 5) (v := .ref (hh 0)) (C := RX5) (T := TX5) (N := 5) hx hb hts hiX5 hown hK.1 hP 0 rfl rfl 0 (by decide) k10 (fun _ h9 => h9) rfl dX5_grantOf_13 ?_
      refine lv_iload_n hx hb dX5_grantOf_16 rfl (lv_at hl 0 rfl) ?_
      refine lv_iload_n hx hb dX5_grantOf_17 rfl (lv_at hl 3 rfl) ?_
      obtain ⟨r_7, hc_8, hf⟩ := bd_of hf
      refine fn_V (v := some (.int r_7)) (As := [.int r_1, .int x2]) (rest := []) (st1 := [.int r_7]) (ws' := (wLR X x0 hh ht ch tx y hy rP fP rT fT rG fG rL fL rH fH gi di re ti rPT fPT rTT fTT rGT fGT rLT fLT rHT fHT giT diT reT tiT rS fS rB fB rO fO pl fa cn ro Qh)) (nL := 4) ⟨hx, hb, hml, hown, hts⟩ (c_X2_aboutGrant l X hh rP fP rT fT rG fG rL fL rH fH gi di re ti r_1 x2 r_7 hc_8) (cwV 2 hts gX5_grantOf_X2_aboutGrant rfl rfl rfl (by decide +kernel) ⟨Nat.le_of_ble_eq_true rfl, Nat.le_of_ble_eq_true rfl⟩) 2 rfl rfl rfl rfl hl.1 rfl (Nat.le_of_ble_eq_true rfl) dX5_grantOf_18 hK hP (hD0.addr (wLR_fst.trans wLR_fst.symm)) hS hA [1, 2, 3, 4, 5, 6, 7, 8, 9, 10, 11] (by decide +kernel) lC_h (pt_setid _ _ _ lC_h) rfl ⟨Nat.zero_le _, Nat.zero_le _⟩ (fun H locs hP hD hS => ?_)
      cases hf

def f_X5_chain (x1 : Int32) (x2 : Int32) (rT : Int32) (fT : (Nat → Int32)) (rG : Int32) (fG : (Nat → Int32)) (rH : Int32) (fH : (Nat → Int32)) (rS : Int32) (fS : (Nat → Int32)) : Option ((String × (Nat → Int32)) ⊕ (Int32 × (Nat → Int32))) :=
  bx (f_X5_requirePerson x1) (fun E_3 => some (.inl (E_3, fS))) (fun u_2 =>
  bx (f_X5_requireThing x2 rT) (fun E_6 => some (.inl (E_6, fS))) (fun u_5 =>
  bd (f_X0_measure x2 rS fS rT fT rG fG rH fH) (fun fS_7 =>
  bd (f_X0_stepsTo x1 rS fS_7) (fun r_9 =>
  some (.inr (r_9, fS_7))))))
set_option maxHeartbeats 4000000 in
set_option maxRecDepth 100000 in
theorem c_X5_chain (l : Launch) (X : cx_G) (x0 : Nat) (hh : (Nat → Nat)) (ht : (Nat → Nat)) (ch : (Nat → Nat)) (tx : (Nat → Nat)) (y : (Nat → Nat)) (hy : (Nat → Nat → Nat)) (rP : Int32) (fP : (Nat → Int32)) (rT : Int32) (fT : (Nat → Int32)) (rG : Int32) (fG : (Nat → Int32)) (rL : Int32) (fL : (Nat → Int32)) (rH : Int32) (fH : (Nat → Int32)) (gi : Int32) (di : Int32) (re : Int32) (ti : Int32) (rPT : Int32) (fPT : (Nat → Int32)) (rTT : Int32) (fTT : (Nat → Int32)) (rGT : Int32) (fGT : (Nat → Int32)) (rLT : Int32) (fLT : (Nat → Int32)) (rHT : Int32) (fHT : (Nat → Int32)) (giT : Int32) (diT : Int32) (reT : Int32) (tiT : Int32) (rS : Int32) (fS : (Nat → Int32)) (rB : Int32) (fB : (Nat → Int32)) (rO : Int32) (fO : (Nat → Int32)) (pl : Int32) (fa : Int32) (cn : Int32) (ro : Nat) (Qh : (Nat → HS)) (x1 : Int32) (x2 : Int32) (r : Int32) (fS' : (Nat → Int32)) (hf : f_X5_chain x1 x2 rT fT rG fG rH fH rS fS = some (.inr (r, fS'))) : Fn l yX5_chain wsX5_chain ({ frames := 4, cells := 0, slots := 0, locals := 97 } : Room) X [.ref (x0), .int x1, .int x2] (wLR X x0 hh ht ch tx y hy rP fP rT fT rG fG rL fL rH fH gi di re ti rPT fPT rTT fTT rGT fGT rLT fLT rHT fHT giT diT reT tiT rS fS rB fB rO fO pl fa cn ro Qh) (some (.int r)) (wLR X x0 hh ht ch tx y hy rP fP rT fT rG fG rL fL rH fH gi di re ti rPT fPT rTT fTT rGT fGT rLT fLT rHT fHT giT diT reT tiT rS fS' rB fB rO fO pl fa cn ro Qh) := by
  refine fn_intro (cc := cX5_chain) (maxL := 3) (ret := (some .int)) (by decide) rfl (wLR_fst.trans wLR_fst.symm) (Nat.le_of_ble_eq_true rfl) ?_
  intro p e s m args below meth c A ls hx hb hml hr hts hown hlocks hK hP hD0 hS hA hl
  have hown : s.vm.findClass RX5 = some m.cls := hown
  have hl : lv_has ls 3 [(0, .ref (x0)), (1, .int x1), (2, .int x2)] := hl
  have hiX5 : ∀ w ∈ u_ws RX5 TX5 5, w ∈ wsX5_chain := by decide +kernel
  have k10 := hts (.fieldLink RX5 10 "LentRights" "house" "LLentRights$House;") (by decide +kernel)
  have k29 := hts (.fieldLink RX5 29 "LentRights" "chains" "LLentRights$Chains;") (by decide +kernel)
  unfold f_X5_chain at hf
  refine lv_iload_n hx hb dX5_chain_0 rfl (lv_at hl 1 rfl) ?_
  rcases bx_of hf with ⟨E_3, hc_1, hf⟩ | ⟨u_2, hc_1, hf⟩
  · cases hf
  · refine fn_Sx (v := none) (As := [.int x1]) (rest := []) (st1 := []) (ws' := (wLR X x0 hh ht ch tx y hy rP fP rT fT rG fG rL fL rH fH gi di re ti rPT fPT rTT fTT rGT fGT rLT fLT rHT fHT giT diT reT tiT rS fS rB fB rO fO pl fa cn ro Qh)) (nL := 3) ⟨hx, hb, hml, hown, hts⟩ (c_X5_requirePerson l X x1 hc_1) (va_cwS 1 hts gX5_chain_X5_requirePerson rfl rfl rfl (by decide +kernel) ⟨Nat.le_of_ble_eq_true rfl, Nat.le_of_ble_eq_true rfl⟩) rfl hl.1 rfl (Nat.le_of_ble_eq_true rfl) dX5_chain_1 hK hP (hD0.addr (wLR_fst.trans wLR_fst.symm)) hS hA [] (by decide +kernel) rfl (pt_setid _ _ _ rfl) rfl ⟨Nat.zero_le _, Nat.zero_le _⟩ (fun H locs hP hD hS => ?_)
    refine lv_aload_n hx hb dX5_chain_4 rfl (lv_at hl 0 rfl) ?_
    refine lv_iload_n hx hb dX5_chain_5 rfl (lv_at hl 2 rfl) ?_
    rcases bx_of hf with ⟨E_6, hc_4, hf⟩ | ⟨u_5, hc_4, hf⟩
    · cases hf
    · refine fn_V (v := none) (As := [.int x2]) (rest := []) (st1 := []) (ws' := (wLR X x0 hh ht ch tx y hy rP fP rT fT rG fG rL fL rH fH gi di re ti rPT fPT rTT fTT rGT fGT rLT fLT rHT fHT giT diT reT tiT rS fS rB fB rO fO pl fa cn ro Qh)) (nL := 3) ⟨hx, hb, hml, hown, hts⟩ (c_X5_requireThing l X x0 hh ht ch tx y hy rP fP rT fT rG fG rL fL rH fH gi di re ti rPT fPT rTT fTT rGT fGT rLT fLT rHT fHT giT diT reT tiT rS fS rB fB rO fO pl fa cn ro Qh x2 hc_4) (cwV 1 hts gX5_chain_X5_requireThing rfl rfl rfl (by decide +kernel) ⟨Nat.le_of_ble_eq_true rfl, Nat.le_of_ble_eq_true rfl⟩) 5 rfl rfl rfl rfl hl.1 rfl (Nat.le_of_ble_eq_true rfl) dX5_chain_6 hK hP (hD0.addr (wLR_fst.trans wLR_fst.symm)) hS hA [0, 1, 2, 3, 4, 5, 6, 7, 8, 9, 10, 11, 12, 13, 14, 15, 16, 17, 18, 19, 20, 21, 22, 23, 24, 25, 26, 27, 28, 29, 30, 31, 32, 33, 34, 35, 36, 37, 38, 39, 40, 41, 42, 43, 44, 45, 46, 47, 48, 49, 50, 51, 52, 53, 54, 55, 56, 57, 58, 59, 60, 61, 62, 63, 64, 65, 66, 67, 68, 69, 70, 71, 72, 73, 74, 75, 76] (by decide +kernel) lC_a (pt_setid _ _ _ lC_a) rfl ⟨Nat.zero_le _, Nat.zero_le _⟩ (fun H locs hP hD hS => ?_)
      refine lv_aload_n hx hb dX5_chain_9 rfl (lv_at hl 0 rfl) ?_
      refine va_get (D := X.1) (ci := 5) (v := .ref (ch 0)) (C := RX5) (T := TX5) (N := 5) hx hb hts hiX5 hown hK.1 hP 0 rfl rfl 3 (by decide) k29 (fun _ h9 => h9) rfl dX5_chain_10 ?_
      refine lv_aload_n hx hb dX5_chain_13 rfl (lv_at hl 0 rfl) ?_
      refine va_get (D := X.1) (ci := 5) (v := .ref (hh 0)) (C := RX5) (T := TX5) (N := 5) hx hb hts hiX5 hown hK.1 hP 0 rfl rfl 0 (by decide) k10 (fun _ h9 => h9) rfl dX5_chain_14 ?_
      refine lv_iload_n hx hb dX5_chain_17 rfl (lv_at hl 2 rfl) ?_
      obtain ⟨fS_7, hc_8, hf⟩ := bd_of hf
      refine fn_VJ (v := none) (As := [.ref (hh 0), .int x2]) (rest := []) (st1 := []) (ws' := (wLR X x0 hh ht ch tx y hy rP fP rT fT rG fG rL fL rH fH gi di re ti rPT fPT rTT fTT rGT fGT rLT fLT rHT fHT giT diT reT tiT rS fS_7 rB fB rO fO pl fa cn ro Qh)) (nL := 3) ⟨hx, hb, hml, hown, hts⟩ (c_X0_measure l X ch hh rS fS rP fP rT fT rG fG rL fL rH fH gi di re ti x2 fS_7 hc_8) (cwV 2 hts gX5_chain_X0_measure rfl rfl rfl (by decide +kernel) ⟨Nat.le_of_ble_eq_true rfl, Nat.le_of_ble_eq_true rfl⟩) 0 rfl rfl rfl rfl hl.1 rfl (Nat.le_of_ble_eq_true rfl) dX5_chain_18 hK hP (hD0.addr (wLR_fst.trans wLR_fst.symm)) hS hA [23, 24, 25, 1, 2, 3, 4, 5, 6, 7, 8, 9, 10, 11] (by decide +kernel) lC_ch lJ_ch (wLR_fst.trans wLR_fst.symm) rfl ⟨Nat.zero_le _, Nat.zero_le _⟩ (fun H locs hP hD hS => ?_)
      refine lv_aload_n hx hb dX5_chain_21 rfl (lv_at hl 0 rfl) ?_
      refine va_get (D := X.1) (ci := 5) (v := .ref (ch 0)) (C := RX5) (T := TX5) (N := 5) hx hb hts hiX5 hown hK.1 hP 0 rfl rfl 3 (by decide) k29 (fun _ h9 => h9) rfl dX5_chain_22 ?_
      refine lv_iload_n hx hb dX5_chain_25 rfl (lv_at hl 1 rfl) ?_
      obtain ⟨r_9, hc_10, hf⟩ := bd_of hf
      refine fn_V (v := some (.int r_9)) (As := [.int x1]) (rest := []) (st1 := [.int r_9]) (ws' := (wLR X x0 hh ht ch tx y hy rP fP rT fT rG fG rL fL rH fH gi di re ti rPT fPT rTT fTT rGT fGT rLT fLT rHT fHT giT diT reT tiT rS fS_7 rB fB rO fO pl fa cn ro Qh)) (nL := 3) ⟨hx, hb, hml, hown, hts⟩ (c_X0_stepsTo l X ch rS fS_7 x1 r_9 hc_10) (cwV 1 hts gX5_chain_X0_stepsTo rfl rfl rfl (by decide +kernel) ⟨Nat.le_of_ble_eq_true rfl, Nat.le_of_ble_eq_true rfl⟩) 0 rfl rfl rfl rfl hl.1 rfl (Nat.le_of_ble_eq_true rfl) dX5_chain_26 hK hP (hD0.addr (wLR_fst.trans wLR_fst.symm)) hS hA [23, 24, 25] (by decide +kernel) lC_c (pt_setid _ _ _ lC_c) rfl ⟨Nat.zero_le _, Nat.zero_le _⟩ (fun H locs hP hD hS => ?_)
      cases hf
      exact fn_iret hx hb hr hlocks hP hS dX5_chain_29
set_option maxHeartbeats 4000000 in
set_option maxRecDepth 100000 in
theorem c_X5_chain_x (l : Launch) (hfl : l.stackTraces = false) (X : cx_G) (x0 : Nat) (hh : (Nat → Nat)) (ht : (Nat → Nat)) (ch : (Nat → Nat)) (tx : (Nat → Nat)) (y : (Nat → Nat)) (hy : (Nat → Nat → Nat)) (rP : Int32) (fP : (Nat → Int32)) (rT : Int32) (fT : (Nat → Int32)) (rG : Int32) (fG : (Nat → Int32)) (rL : Int32) (fL : (Nat → Int32)) (rH : Int32) (fH : (Nat → Int32)) (gi : Int32) (di : Int32) (re : Int32) (ti : Int32) (rPT : Int32) (fPT : (Nat → Int32)) (rTT : Int32) (fTT : (Nat → Int32)) (rGT : Int32) (fGT : (Nat → Int32)) (rLT : Int32) (fLT : (Nat → Int32)) (rHT : Int32) (fHT : (Nat → Int32)) (giT : Int32) (diT : Int32) (reT : Int32) (tiT : Int32) (rS : Int32) (fS : (Nat → Int32)) (rB : Int32) (fB : (Nat → Int32)) (rO : Int32) (fO : (Nat → Int32)) (pl : Int32) (fa : Int32) (cn : Int32) (ro : Nat) (Qh : (Nat → HS)) (x1 : Int32) (x2 : Int32) (E : String) (fS' : (Nat → Int32)) (hf : f_X5_chain x1 x2 rT fT rG fG rH fH rS fS = some (.inl (E, fS'))) : Tx l yX5_chain wsX5_chain ({ frames := 7, cells := 1, slots := 6, locals := 111 } : Room) X [.ref (x0), .int x1, .int x2] (wLR X x0 hh ht ch tx y hy rP fP rT fT rG fG rL fL rH fH gi di re ti rPT fPT rTT fTT rGT fGT rLT fLT rHT fHT giT diT reT tiT rS fS rB fB rO fO pl fa cn ro Qh) E (wLR X x0 hh ht ch tx y hy rP fP rT fT rG fG rL fL rH fH gi di re ti rPT fPT rTT fTT rGT fGT rLT fLT rHT fHT giT diT reT tiT rS fS' rB fB rO fO pl fa cn ro Qh) := by
  refine tx_intro (cc := cX5_chain) (maxL := 3) (ret := (some .int)) (by decide) rfl (wLR_fst.trans wLR_fst.symm) (Nat.le_of_ble_eq_true rfl) ?_
  intro p e s m args below meth c A ls hx hb hml hr hts hown hlocks hne hK hP hD0 hS hA hTS hTZ hl
  have hown : s.vm.findClass RX5 = some m.cls := hown
  have hl : lv_has ls 3 [(0, .ref (x0)), (1, .int x1), (2, .int x2)] := hl
  have hiX5 : ∀ w ∈ u_ws RX5 TX5 5, w ∈ wsX5_chain := by decide +kernel
  have k10 := hts (.fieldLink RX5 10 "LentRights" "house" "LLentRights$House;") (by decide +kernel)
  have k29 := hts (.fieldLink RX5 29 "LentRights" "chains" "LLentRights$Chains;") (by decide +kernel)
  unfold f_X5_chain at hf
  refine lv_iload_n hx hb dX5_chain_0 rfl (lv_at hl 1 rfl) ?_
  rcases bx_of hf with ⟨E_3, hc_1, hf⟩ | ⟨u_2, hc_1, hf⟩
  · cases hf
    exact tx_Sx (As := [.int x1]) (rest := []) (nL := 3) hne hlocks ⟨hx, hb, hml, hown, hts⟩ (c_X5_requirePerson_x l hfl X x1 E hc_1) (va_cwS 1 hts gX5_chain_X5_requirePerson rfl rfl rfl (by decide +kernel) ⟨Nat.le_of_ble_eq_true rfl, Nat.le_of_ble_eq_true rfl⟩) rfl hl.1 rfl (Nat.le_of_ble_eq_true rfl) dX5_chain_1 hTS hTZ hK hP (hD0.addr (wLR_fst.trans wLR_fst.symm)) hS hA [] (by decide +kernel) rfl (pt_setid _ _ _ rfl) ⟨Nat.le_of_ble_eq_true rfl, Nat.le_of_ble_eq_true rfl⟩
  · refine fn_Sx (v := none) (As := [.int x1]) (rest := []) (st1 := []) (ws' := (wLR X x0 hh ht ch tx y hy rP fP rT fT rG fG rL fL rH fH gi di re ti rPT fPT rTT fTT rGT fGT rLT fLT rHT fHT giT diT reT tiT rS fS rB fB rO fO pl fa cn ro Qh)) (nL := 3) ⟨hx, hb, hml, hown, hts⟩ (c_X5_requirePerson l X x1 hc_1) (va_cwS 1 hts gX5_chain_X5_requirePerson rfl rfl rfl (by decide +kernel) ⟨Nat.le_of_ble_eq_true rfl, Nat.le_of_ble_eq_true rfl⟩) rfl hl.1 rfl (Nat.le_of_ble_eq_true rfl) dX5_chain_1 hK hP (hD0.addr (wLR_fst.trans wLR_fst.symm)) hS hA [] (by decide +kernel) rfl (pt_setid _ _ _ rfl) rfl ⟨Nat.zero_le _, Nat.zero_le _⟩ (fun H locs hP hD hS => ?_)
    refine lv_aload_n hx hb dX5_chain_4 rfl (lv_at hl 0 rfl) ?_
    refine lv_iload_n hx hb dX5_chain_5 rfl (lv_at hl 2 rfl) ?_
    rcases bx_of hf with ⟨E_6, hc_4, hf⟩ | ⟨u_5, hc_4, hf⟩
    · cases hf
      exact tx_V (As := [.int x2]) (rest := []) (nL := 3) hne hlocks ⟨hx, hb, hml, hown, hts⟩ (c_X5_requireThing_x l hfl X x0 hh ht ch tx y hy rP fP rT fT rG fG rL fL rH fH gi di re ti rPT fPT rTT fTT rGT fGT rLT fLT rHT fHT giT diT reT tiT rS fS rB fB rO fO pl fa cn ro Qh x2 E hc_4) (cwV 1 hts gX5_chain_X5_requireThing rfl rfl rfl (by decide +kernel) ⟨Nat.le_of_ble_eq_true rfl, Nat.le_of_ble_eq_true rfl⟩) 5 rfl rfl rfl rfl hl.1 rfl (Nat.le_of_ble_eq_true rfl) dX5_chain_6 hTS hTZ hK hP (hD0.addr (wLR_fst.trans wLR_fst.symm)) hS hA [0, 1, 2, 3, 4, 5, 6, 7, 8, 9, 10, 11, 12, 13, 14, 15, 16, 17, 18, 19, 20, 21, 22, 23, 24, 25, 26, 27, 28, 29, 30, 31, 32, 33, 34, 35, 36, 37, 38, 39, 40, 41, 42, 43, 44, 45, 46, 47, 48, 49, 50, 51, 52, 53, 54, 55, 56, 57, 58, 59, 60, 61, 62, 63, 64, 65, 66, 67, 68, 69, 70, 71, 72, 73, 74, 75, 76] (by decide +kernel) lC_a (pt_setid _ _ _ lC_a) ⟨Nat.le_of_ble_eq_true rfl, Nat.le_of_ble_eq_true rfl⟩
    · refine fn_V (v := none) (As := [.int x2]) (rest := []) (st1 := []) (ws' := (wLR X x0 hh ht ch tx y hy rP fP rT fT rG fG rL fL rH fH gi di re ti rPT fPT rTT fTT rGT fGT rLT fLT rHT fHT giT diT reT tiT rS fS rB fB rO fO pl fa cn ro Qh)) (nL := 3) ⟨hx, hb, hml, hown, hts⟩ (c_X5_requireThing l X x0 hh ht ch tx y hy rP fP rT fT rG fG rL fL rH fH gi di re ti rPT fPT rTT fTT rGT fGT rLT fLT rHT fHT giT diT reT tiT rS fS rB fB rO fO pl fa cn ro Qh x2 hc_4) (cwV 1 hts gX5_chain_X5_requireThing rfl rfl rfl (by decide +kernel) ⟨Nat.le_of_ble_eq_true rfl, Nat.le_of_ble_eq_true rfl⟩) 5 rfl rfl rfl rfl hl.1 rfl (Nat.le_of_ble_eq_true rfl) dX5_chain_6 hK hP (hD0.addr (wLR_fst.trans wLR_fst.symm)) hS hA [0, 1, 2, 3, 4, 5, 6, 7, 8, 9, 10, 11, 12, 13, 14, 15, 16, 17, 18, 19, 20, 21, 22, 23, 24, 25, 26, 27, 28, 29, 30, 31, 32, 33, 34, 35, 36, 37, 38, 39, 40, 41, 42, 43, 44, 45, 46, 47, 48, 49, 50, 51, 52, 53, 54, 55, 56, 57, 58, 59, 60, 61, 62, 63, 64, 65, 66, 67, 68, 69, 70, 71, 72, 73, 74, 75, 76] (by decide +kernel) lC_a (pt_setid _ _ _ lC_a) rfl ⟨Nat.zero_le _, Nat.zero_le _⟩ (fun H locs hP hD hS => ?_)
      refine lv_aload_n hx hb dX5_chain_9 rfl (lv_at hl 0 rfl) ?_
      refine va_get (D := X.1) (ci := 5) (v := .ref (ch 0)) (C := RX5) (T := TX5) (N := 5) hx hb hts hiX5 hown hK.1 hP 0 rfl rfl 3 (by decide) k29 (fun _ h9 => h9) rfl dX5_chain_10 ?_
      refine lv_aload_n hx hb dX5_chain_13 rfl (lv_at hl 0 rfl) ?_
      refine va_get (D := X.1) (ci := 5) (v := .ref (hh 0)) (C := RX5) (T := TX5) (N := 5) hx hb hts hiX5 hown hK.1 hP 0 rfl rfl 0 (by decide) k10 (fun _ h9 => h9) rfl dX5_chain_14 ?_
      refine lv_iload_n hx hb dX5_chain_17 rfl (lv_at hl 2 rfl) ?_
      obtain ⟨fS_7, hc_8, hf⟩ := bd_of hf
      refine fn_VJ (v := none) (As := [.ref (hh 0), .int x2]) (rest := []) (st1 := []) (ws' := (wLR X x0 hh ht ch tx y hy rP fP rT fT rG fG rL fL rH fH gi di re ti rPT fPT rTT fTT rGT fGT rLT fLT rHT fHT giT diT reT tiT rS fS_7 rB fB rO fO pl fa cn ro Qh)) (nL := 3) ⟨hx, hb, hml, hown, hts⟩ (c_X0_measure l X ch hh rS fS rP fP rT fT rG fG rL fL rH fH gi di re ti x2 fS_7 hc_8) (cwV 2 hts gX5_chain_X0_measure rfl rfl rfl (by decide +kernel) ⟨Nat.le_of_ble_eq_true rfl, Nat.le_of_ble_eq_true rfl⟩) 0 rfl rfl rfl rfl hl.1 rfl (Nat.le_of_ble_eq_true rfl) dX5_chain_18 hK hP (hD0.addr (wLR_fst.trans wLR_fst.symm)) hS hA [23, 24, 25, 1, 2, 3, 4, 5, 6, 7, 8, 9, 10, 11] (by decide +kernel) lC_ch lJ_ch (wLR_fst.trans wLR_fst.symm) rfl ⟨Nat.zero_le _, Nat.zero_le _⟩ (fun H locs hP hD hS => ?_)
      refine lv_aload_n hx hb dX5_chain_21 rfl (lv_at hl 0 rfl) ?_
      refine va_get (D := X.1) (ci := 5) (v := .ref (ch 0)) (C := RX5) (T := TX5) (N := 5) hx hb hts hiX5 hown hK.1 hP 0 rfl rfl 3 (by decide) k29 (fun _ h9 => h9) rfl dX5_chain_22 ?_
      refine lv_iload_n hx hb dX5_chain_25 rfl (lv_at hl 1 rfl) ?_
      obtain ⟨r_9, hc_10, hf⟩ := bd_of hf
      refine fn_V (v := some (.int r_9)) (As := [.int x1]) (rest := []) (st1 := [.int r_9]) (ws' := (wLR X x0 hh ht ch tx y hy rP fP rT fT rG fG rL fL rH fH gi di re ti rPT fPT rTT fTT rGT fGT rLT fLT rHT fHT giT diT reT tiT rS fS_7 rB fB rO fO pl fa cn ro Qh)) (nL := 3) ⟨hx, hb, hml, hown, hts⟩ (c_X0_stepsTo l X ch rS fS_7 x1 r_9 hc_10) (cwV 1 hts gX5_chain_X0_stepsTo rfl rfl rfl (by decide +kernel) ⟨Nat.le_of_ble_eq_true rfl, Nat.le_of_ble_eq_true rfl⟩) 0 rfl rfl rfl rfl hl.1 rfl (Nat.le_of_ble_eq_true rfl) dX5_chain_26 hK hP (hD0.addr (wLR_fst.trans wLR_fst.symm)) hS hA [23, 24, 25] (by decide +kernel) lC_c (pt_setid _ _ _ lC_c) rfl ⟨Nat.zero_le _, Nat.zero_le _⟩ (fun H locs hP hD hS => ?_)
      cases hf

def f_X5_link (x1 : Int32) (x2 : Int32) (x3 : Int32) (rT : Int32) (fT : (Nat → Int32)) (rG : Int32) (fG : (Nat → Int32)) (rH : Int32) (fH : (Nat → Int32)) (rS : Int32) (fS : (Nat → Int32)) : Option ((String × (Nat → Int32)) ⊕ (Int32 × (Nat → Int32))) :=
  bx (f_X5_requirePerson x1) (fun E_3 => some (.inl (E_3, fS))) (fun u_2 =>
  bx (f_X5_requireThing x2 rT) (fun E_6 => some (.inl (E_6, fS))) (fun u_5 =>
  bd (f_X0_measure x2 rS fS rT fT rG fG rH fH) (fun fS_7 =>
  if x3 < (0 : Int32) then
  (some (.inl ("java/lang/IndexOutOfBoundsException", fS_7)))
  else
  (bd (f_X0_stepsTo x1 rS fS_7) (fun r_10 =>
  if x3 < r_10 then
  (bd (f_X0_numberAt x1 x2 x3 rS fS_7 rT fT rG fG rH fH) (fun r_13 =>
  some (.inr (r_13, fS_7))))
  else
  (some (.inl ("java/lang/IndexOutOfBoundsException", fS_7))))))))
set_option maxHeartbeats 4000000 in
set_option maxRecDepth 100000 in
theorem c_X5_link (l : Launch) (X : cx_G) (x0 : Nat) (hh : (Nat → Nat)) (ht : (Nat → Nat)) (ch : (Nat → Nat)) (tx : (Nat → Nat)) (y : (Nat → Nat)) (hy : (Nat → Nat → Nat)) (rP : Int32) (fP : (Nat → Int32)) (rT : Int32) (fT : (Nat → Int32)) (rG : Int32) (fG : (Nat → Int32)) (rL : Int32) (fL : (Nat → Int32)) (rH : Int32) (fH : (Nat → Int32)) (gi : Int32) (di : Int32) (re : Int32) (ti : Int32) (rPT : Int32) (fPT : (Nat → Int32)) (rTT : Int32) (fTT : (Nat → Int32)) (rGT : Int32) (fGT : (Nat → Int32)) (rLT : Int32) (fLT : (Nat → Int32)) (rHT : Int32) (fHT : (Nat → Int32)) (giT : Int32) (diT : Int32) (reT : Int32) (tiT : Int32) (rS : Int32) (fS : (Nat → Int32)) (rB : Int32) (fB : (Nat → Int32)) (rO : Int32) (fO : (Nat → Int32)) (pl : Int32) (fa : Int32) (cn : Int32) (ro : Nat) (Qh : (Nat → HS)) (x1 : Int32) (x2 : Int32) (x3 : Int32) (r : Int32) (fS' : (Nat → Int32)) (hf : f_X5_link x1 x2 x3 rT fT rG fG rH fH rS fS = some (.inr (r, fS'))) : Fn l yX5_link wsX5_link ({ frames := 5, cells := 0, slots := 0, locals := 125 } : Room) X [.ref (x0), .int x1, .int x2, .int x3] (wLR X x0 hh ht ch tx y hy rP fP rT fT rG fG rL fL rH fH gi di re ti rPT fPT rTT fTT rGT fGT rLT fLT rHT fHT giT diT reT tiT rS fS rB fB rO fO pl fa cn ro Qh) (some (.int r)) (wLR X x0 hh ht ch tx y hy rP fP rT fT rG fG rL fL rH fH gi di re ti rPT fPT rTT fTT rGT fGT rLT fLT rHT fHT giT diT reT tiT rS fS' rB fB rO fO pl fa cn ro Qh) := by
  refine fn_intro (cc := cX5_link) (maxL := 4) (ret := (some .int)) (by decide) rfl (wLR_fst.trans wLR_fst.symm) (Nat.le_of_ble_eq_true rfl) ?_
  intro p e s m args below meth c A ls hx hb hml hr hts hown hlocks hK hP hD0 hS hA hl
  have hown : s.vm.findClass RX5 = some m.cls := hown
  have hl : lv_has ls 4 [(0, .ref (x0)), (1, .int x1), (2, .int x2), (3, .int x3)] := hl
  have hiX5 : ∀ w ∈ u_ws RX5 TX5 5, w ∈ wsX5_link := by decide +kernel
  have k10 := hts (.fieldLink RX5 10 "LentRights" "house" "LLentRights$House;") (by decide +kernel)
  have k29 := hts (.fieldLink RX5 29 "LentRights" "chains" "LLentRights$Chains;") (by decide +kernel)
  unfold f_X5_link at hf
  refine lv_iload_n hx hb dX5_link_0 rfl (lv_at hl 1 rfl) ?_
  rcases bx_of hf with ⟨E_3, hc_1, hf⟩ | ⟨u_2, hc_1, hf⟩
  · cases hf
  · refine fn_Sx (v := none) (As := [.int x1]) (rest := []) (st1 := []) (ws' := (wLR X x0 hh ht ch tx y hy rP fP rT fT rG fG rL fL rH fH gi di re ti rPT fPT rTT fTT rGT fGT rLT fLT rHT fHT giT diT reT tiT rS fS rB fB rO fO pl fa cn ro Qh)) (nL := 4) ⟨hx, hb, hml, hown, hts⟩ (c_X5_requirePerson l X x1 hc_1) (va_cwS 1 hts gX5_link_X5_requirePerson rfl rfl rfl (by decide +kernel) ⟨Nat.le_of_ble_eq_true rfl, Nat.le_of_ble_eq_true rfl⟩) rfl hl.1 rfl (Nat.le_of_ble_eq_true rfl) dX5_link_1 hK hP (hD0.addr (wLR_fst.trans wLR_fst.symm)) hS hA [] (by decide +kernel) rfl (pt_setid _ _ _ rfl) rfl ⟨Nat.zero_le _, Nat.zero_le _⟩ (fun H locs hP hD hS => ?_)
    refine lv_aload_n hx hb dX5_link_4 rfl (lv_at hl 0 rfl) ?_
    refine lv_iload_n hx hb dX5_link_5 rfl (lv_at hl 2 rfl) ?_
    rcases bx_of hf with ⟨E_6, hc_4, hf⟩ | ⟨u_5, hc_4, hf⟩
    · cases hf
    · refine fn_V (v := none) (As := [.int x2]) (rest := []) (st1 := []) (ws' := (wLR X x0 hh ht ch tx y hy rP fP rT fT rG fG rL fL rH fH gi di re ti rPT fPT rTT fTT rGT fGT rLT fLT rHT fHT giT diT reT tiT rS fS rB fB rO fO pl fa cn ro Qh)) (nL := 4) ⟨hx, hb, hml, hown, hts⟩ (c_X5_requireThing l X x0 hh ht ch tx y hy rP fP rT fT rG fG rL fL rH fH gi di re ti rPT fPT rTT fTT rGT fGT rLT fLT rHT fHT giT diT reT tiT rS fS rB fB rO fO pl fa cn ro Qh x2 hc_4) (cwV 1 hts gX5_link_X5_requireThing rfl rfl rfl (by decide +kernel) ⟨Nat.le_of_ble_eq_true rfl, Nat.le_of_ble_eq_true rfl⟩) 5 rfl rfl rfl rfl hl.1 rfl (Nat.le_of_ble_eq_true rfl) dX5_link_6 hK hP (hD0.addr (wLR_fst.trans wLR_fst.symm)) hS hA [0, 1, 2, 3, 4, 5, 6, 7, 8, 9, 10, 11, 12, 13, 14, 15, 16, 17, 18, 19, 20, 21, 22, 23, 24, 25, 26, 27, 28, 29, 30, 31, 32, 33, 34, 35, 36, 37, 38, 39, 40, 41, 42, 43, 44, 45, 46, 47, 48, 49, 50, 51, 52, 53, 54, 55, 56, 57, 58, 59, 60, 61, 62, 63, 64, 65, 66, 67, 68, 69, 70, 71, 72, 73, 74, 75, 76] (by decide +kernel) lC_a (pt_setid _ _ _ lC_a) rfl ⟨Nat.zero_le _, Nat.zero_le _⟩ (fun H locs hP hD hS => ?_)
      refine lv_aload_n hx hb dX5_link_9 rfl (lv_at hl 0 rfl) ?_
      refine va_get (D := X.1) (ci := 5) (v := .ref (ch 0)) (C := RX5) (T := TX5) (N := 5) hx hb hts hiX5 hown hK.1 hP 0 rfl rfl 3 (by decide) k29 (fun _ h9 => h9) rfl dX5_link_10 ?_
      refine lv_aload_n hx hb dX5_link_13 rfl (lv_at hl 0 rfl) ?_
      refine va_get (D := X.1) (ci := 5) (v := .ref (hh 0)) (C := RX5) (T := TX5) (N := 5) hx hb hts hiX5 hown hK.1 hP 0 rfl rfl 0 (by decide) k10 (fun _ h9 => h9) rfl dX5_link_14 ?_
      refine lv_iload_n hx hb dX5_link_17 rfl (lv_at hl 2 rfl) ?_
      obtain ⟨fS_7, hc_8, hf⟩ := bd_of hf
      refine fn_VJ (v := none) (As := [.ref (hh 0), .int x2]) (rest := []) (st1 := []) (ws' := (wLR X x0 hh ht ch tx y hy rP fP rT fT rG fG rL fL rH fH gi di re ti rPT fPT rTT fTT rGT fGT rLT fLT rHT fHT giT diT reT tiT rS fS_7 rB fB rO fO pl fa cn ro Qh)) (nL := 4) ⟨hx, hb, hml, hown, hts⟩ (c_X0_measure l X ch hh rS fS rP fP rT fT rG fG rL fL rH fH gi di re ti x2 fS_7 hc_8) (cwV 2 hts gX5_link_X0_measure rfl rfl rfl (by decide +kernel) ⟨Nat.le_of_ble_eq_true rfl, Nat.le_of_ble_eq_true rfl⟩) 0 rfl rfl rfl rfl hl.1 rfl (Nat.le_of_ble_eq_true rfl) dX5_link_18 hK hP (hD0.addr (wLR_fst.trans wLR_fst.symm)) hS hA [23, 24, 25, 1, 2, 3, 4, 5, 6, 7, 8, 9, 10, 11] (by decide +kernel) lC_ch lJ_ch (wLR_fst.trans wLR_fst.symm) rfl ⟨Nat.zero_le _, Nat.zero_le _⟩ (fun H locs hP hD hS => ?_)
      refine lv_iload_n hx hb dX5_link_21 rfl (lv_at hl 3 rfl) ?_
      refine lv_if_lt (tgt := 37) hx hb dX5_link_22 (by decide) (fun c_9 => ?_) (fun c_9 => ?_)
      · replace hf := fp_t c_9 hf
        cases hf
      · replace hf := fp_f c_9 hf
        refine lv_iload_n hx hb dX5_link_25 rfl (lv_at hl 3 rfl) ?_
        refine lv_aload_n hx hb dX5_link_26 rfl (lv_at hl 0 rfl) ?_
        refine va_get (D := X.1) (ci := 5) (v := .ref (ch 0)) (C := RX5) (T := TX5) (N := 5) hx hb hts hiX5 hown hK.1 hP 0 rfl rfl 3 (by decide) k29 (fun _ h9 => h9) rfl dX5_link_27 ?_
        refine lv_iload_n hx hb dX5_link_30 rfl (lv_at hl 1 rfl) ?_
        obtain ⟨r_10, hc_11, hf⟩ := bd_of hf
        refine fn_V (v := some (.int r_10)) (As := [.int x1]) (rest := [.int x3]) (st1 := [.int r_10, .int x3]) (ws' := (wLR X x0 hh ht ch tx y hy rP fP rT fT rG fG rL fL rH fH gi di re ti rPT fPT rTT fTT rGT fGT rLT fLT rHT fHT giT diT reT tiT rS fS_7 rB fB rO fO pl fa cn ro Qh)) (nL := 4) ⟨hx, hb, hml, hown, hts⟩ (c_X0_stepsTo l X ch rS fS_7 x1 r_10 hc_11) (cwV 1 hts gX5_link_X0_stepsTo rfl rfl rfl (by decide +kernel) ⟨Nat.le_of_ble_eq_true rfl, Nat.le_of_ble_eq_true rfl⟩) 0 rfl rfl rfl rfl hl.1 rfl (Nat.le_of_ble_eq_true rfl) dX5_link_31 hK hP (hD0.addr (wLR_fst.trans wLR_fst.symm)) hS hA [23, 24, 25] (by decide +kernel) lC_c (pt_setid _ _ _ lC_c) rfl ⟨Nat.zero_le _, Nat.zero_le _⟩ (fun H locs hP hD hS => ?_)
        refine lv_icmp_lt (tgt := 47) hx hb dX5_link_34 (by decide) (fun c_12 => ?_) (fun c_12 => ?_)
        · replace hf := fp_t c_12 hf
          refine lv_aload_n hx hb dX5_link_47 rfl (lv_at hl 0 rfl) ?_
          refine va_get (D := X.1) (ci := 5) (v := .ref (ch 0)) (C := RX5) (T := TX5) (N := 5) hx hb hts hiX5 hown hK.1 hP 0 rfl rfl 3 (by decide) k29 (fun _ h9 => h9) rfl dX5_link_48 ?_
          refine lv_aload_n hx hb dX5_link_51 rfl (lv_at hl 0 rfl) ?_
          refine va_get (D := X.1) (ci := 5) (v := .ref (hh 0)) (C := RX5) (T := TX5) (N := 5) hx hb hts hiX5 hown hK.1 hP 0 rfl rfl 0 (by decide) k10 (fun _ h9 => h9) rfl dX5_link_52 ?_
          refine lv_iload_n hx hb dX5_link_55 rfl (lv_at hl 1 rfl) ?_
          refine lv_iload_n hx hb dX5_link_56 rfl (lv_at hl 2 rfl) ?_
          refine lv_iload_n hx hb dX5_link_57 rfl (lv_at hl 3 rfl) ?_
          obtain ⟨r_13, hc_14, hf⟩ := bd_of hf
          refine fn_V (v := some (.int r_13)) (As := [.ref (hh 0), .int x1, .int x2, .int x3]) (rest := []) (st1 := [.int r_13]) (ws' := (wLR X x0 hh ht ch tx y hy rP fP rT fT rG fG rL fL rH fH gi di re ti rPT fPT rTT fTT rGT fGT rLT fLT rHT fHT giT diT reT tiT rS fS_7 rB fB rO fO pl fa cn ro Qh)) (nL := 4) ⟨hx, hb, hml, hown, hts⟩ (c_X0_numberAt l X ch hh rS fS_7 rP fP rT fT rG fG rL fL rH fH gi di re ti x1 x2 x3 r_13 hc_14) (cwV 4 hts gX5_link_X0_numberAt rfl rfl rfl (by decide +kernel) ⟨Nat.le_of_ble_eq_true rfl, Nat.le_of_ble_eq_true rfl⟩) 0 rfl rfl rfl rfl hl.1 rfl (Nat.le_of_ble_eq_true rfl) dX5_link_58 hK hP (hD0.addr (wLR_fst.trans wLR_fst.symm)) hS hA [23, 24, 25, 1, 2, 3, 4, 5, 6, 7, 8, 9, 10, 11] (by decide +kernel) lC_ch (pt_setid _ _ _ lC_ch) rfl ⟨Nat.zero_le _, Nat.zero_le _⟩ (fun H locs hP hD hS => ?_)
          cases hf
          exact fn_iret hx hb hr hlocks hP hS dX5_link_61
        · replace hf := fp_f c_12 hf
          cases hf
set_option maxHeartbeats 4000000 in
set_option maxRecDepth 100000 in
theorem c_X5_link_x (l : Launch) (hfl : l.stackTraces = false) (X : cx_G) (x0 : Nat) (hh : (Nat → Nat)) (ht : (Nat → Nat)) (ch : (Nat → Nat)) (tx : (Nat → Nat)) (y : (Nat → Nat)) (hy : (Nat → Nat → Nat)) (rP : Int32) (fP : (Nat → Int32)) (rT : Int32) (fT : (Nat → Int32)) (rG : Int32) (fG : (Nat → Int32)) (rL : Int32) (fL : (Nat → Int32)) (rH : Int32) (fH : (Nat → Int32)) (gi : Int32) (di : Int32) (re : Int32) (ti : Int32) (rPT : Int32) (fPT : (Nat → Int32)) (rTT : Int32) (fTT : (Nat → Int32)) (rGT : Int32) (fGT : (Nat → Int32)) (rLT : Int32) (fLT : (Nat → Int32)) (rHT : Int32) (fHT : (Nat → Int32)) (giT : Int32) (diT : Int32) (reT : Int32) (tiT : Int32) (rS : Int32) (fS : (Nat → Int32)) (rB : Int32) (fB : (Nat → Int32)) (rO : Int32) (fO : (Nat → Int32)) (pl : Int32) (fa : Int32) (cn : Int32) (ro : Nat) (Qh : (Nat → HS)) (x1 : Int32) (x2 : Int32) (x3 : Int32) (E : String) (fS' : (Nat → Int32)) (hf : f_X5_link x1 x2 x3 rT fT rG fG rH fH rS fS = some (.inl (E, fS'))) : Tx l yX5_link wsX5_link ({ frames := 7, cells := 1, slots := 6, locals := 125 } : Room) X [.ref (x0), .int x1, .int x2, .int x3] (wLR X x0 hh ht ch tx y hy rP fP rT fT rG fG rL fL rH fH gi di re ti rPT fPT rTT fTT rGT fGT rLT fLT rHT fHT giT diT reT tiT rS fS rB fB rO fO pl fa cn ro Qh) E (wLR X x0 hh ht ch tx y hy rP fP rT fT rG fG rL fL rH fH gi di re ti rPT fPT rTT fTT rGT fGT rLT fLT rHT fHT giT diT reT tiT rS fS' rB fB rO fO pl fa cn ro Qh) := by
  refine tx_intro (cc := cX5_link) (maxL := 4) (ret := (some .int)) (by decide) rfl (wLR_fst.trans wLR_fst.symm) (Nat.le_of_ble_eq_true rfl) ?_
  intro p e s m args below meth c A ls hx hb hml hr hts hown hlocks hne hK hP hD0 hS hA hTS hTZ hl
  have hown : s.vm.findClass RX5 = some m.cls := hown
  have hl : lv_has ls 4 [(0, .ref (x0)), (1, .int x1), (2, .int x2), (3, .int x3)] := hl
  have hiX5 : ∀ w ∈ u_ws RX5 TX5 5, w ∈ wsX5_link := by decide +kernel
  have k10 := hts (.fieldLink RX5 10 "LentRights" "house" "LLentRights$House;") (by decide +kernel)
  have k29 := hts (.fieldLink RX5 29 "LentRights" "chains" "LLentRights$Chains;") (by decide +kernel)
  unfold f_X5_link at hf
  refine lv_iload_n hx hb dX5_link_0 rfl (lv_at hl 1 rfl) ?_
  rcases bx_of hf with ⟨E_3, hc_1, hf⟩ | ⟨u_2, hc_1, hf⟩
  · cases hf
    exact tx_Sx (As := [.int x1]) (rest := []) (nL := 4) hne hlocks ⟨hx, hb, hml, hown, hts⟩ (c_X5_requirePerson_x l hfl X x1 E hc_1) (va_cwS 1 hts gX5_link_X5_requirePerson rfl rfl rfl (by decide +kernel) ⟨Nat.le_of_ble_eq_true rfl, Nat.le_of_ble_eq_true rfl⟩) rfl hl.1 rfl (Nat.le_of_ble_eq_true rfl) dX5_link_1 hTS hTZ hK hP (hD0.addr (wLR_fst.trans wLR_fst.symm)) hS hA [] (by decide +kernel) rfl (pt_setid _ _ _ rfl) ⟨Nat.le_of_ble_eq_true rfl, Nat.le_of_ble_eq_true rfl⟩
  · refine fn_Sx (v := none) (As := [.int x1]) (rest := []) (st1 := []) (ws' := (wLR X x0 hh ht ch tx y hy rP fP rT fT rG fG rL fL rH fH gi di re ti rPT fPT rTT fTT rGT fGT rLT fLT rHT fHT giT diT reT tiT rS fS rB fB rO fO pl fa cn ro Qh)) (nL := 4) ⟨hx, hb, hml, hown, hts⟩ (c_X5_requirePerson l X x1 hc_1) (va_cwS 1 hts gX5_link_X5_requirePerson rfl rfl rfl (by decide +kernel) ⟨Nat.le_of_ble_eq_true rfl, Nat.le_of_ble_eq_true rfl⟩) rfl hl.1 rfl (Nat.le_of_ble_eq_true rfl) dX5_link_1 hK hP (hD0.addr (wLR_fst.trans wLR_fst.symm)) hS hA [] (by decide +kernel) rfl (pt_setid _ _ _ rfl) rfl ⟨Nat.zero_le _, Nat.zero_le _⟩ (fun H locs hP hD hS => ?_)
    refine lv_aload_n hx hb dX5_link_4 rfl (lv_at hl 0 rfl) ?_
    refine lv_iload_n hx hb dX5_link_5 rfl (lv_at hl 2 rfl) ?_
    rcases bx_of hf with ⟨E_6, hc_4, hf⟩ | ⟨u_5, hc_4, hf⟩
    · cases hf
      exact tx_V (As := [.int x2]) (rest := []) (nL := 4) hne hlocks ⟨hx, hb, hml, hown, hts⟩ (c_X5_requireThing_x l hfl X x0 hh ht ch tx y hy rP fP rT fT rG fG rL fL rH fH gi di re ti rPT fPT rTT fTT rGT fGT rLT fLT rHT fHT giT diT reT tiT rS fS rB fB rO fO pl fa cn ro Qh x2 E hc_4) (cwV 1 hts gX5_link_X5_requireThing rfl rfl rfl (by decide +kernel) ⟨Nat.le_of_ble_eq_true rfl, Nat.le_of_ble_eq_true rfl⟩) 5 rfl rfl rfl rfl hl.1 rfl (Nat.le_of_ble_eq_true rfl) dX5_link_6 hTS hTZ hK hP (hD0.addr (wLR_fst.trans wLR_fst.symm)) hS hA [0, 1, 2, 3, 4, 5, 6, 7, 8, 9, 10, 11, 12, 13, 14, 15, 16, 17, 18, 19, 20, 21, 22, 23, 24, 25, 26, 27, 28, 29, 30, 31, 32, 33, 34, 35, 36, 37, 38, 39, 40, 41, 42, 43, 44, 45, 46, 47, 48, 49, 50, 51, 52, 53, 54, 55, 56, 57, 58, 59, 60, 61, 62, 63, 64, 65, 66, 67, 68, 69, 70, 71, 72, 73, 74, 75, 76] (by decide +kernel) lC_a (pt_setid _ _ _ lC_a) ⟨Nat.le_of_ble_eq_true rfl, Nat.le_of_ble_eq_true rfl⟩
    · refine fn_V (v := none) (As := [.int x2]) (rest := []) (st1 := []) (ws' := (wLR X x0 hh ht ch tx y hy rP fP rT fT rG fG rL fL rH fH gi di re ti rPT fPT rTT fTT rGT fGT rLT fLT rHT fHT giT diT reT tiT rS fS rB fB rO fO pl fa cn ro Qh)) (nL := 4) ⟨hx, hb, hml, hown, hts⟩ (c_X5_requireThing l X x0 hh ht ch tx y hy rP fP rT fT rG fG rL fL rH fH gi di re ti rPT fPT rTT fTT rGT fGT rLT fLT rHT fHT giT diT reT tiT rS fS rB fB rO fO pl fa cn ro Qh x2 hc_4) (cwV 1 hts gX5_link_X5_requireThing rfl rfl rfl (by decide +kernel) ⟨Nat.le_of_ble_eq_true rfl, Nat.le_of_ble_eq_true rfl⟩) 5 rfl rfl rfl rfl hl.1 rfl (Nat.le_of_ble_eq_true rfl) dX5_link_6 hK hP (hD0.addr (wLR_fst.trans wLR_fst.symm)) hS hA [0, 1, 2, 3, 4, 5, 6, 7, 8, 9, 10, 11, 12, 13, 14, 15, 16, 17, 18, 19, 20, 21, 22, 23, 24, 25, 26, 27, 28, 29, 30, 31, 32, 33, 34, 35, 36, 37, 38, 39, 40, 41, 42, 43, 44, 45, 46, 47, 48, 49, 50, 51, 52, 53, 54, 55, 56, 57, 58, 59, 60, 61, 62, 63, 64, 65, 66, 67, 68, 69, 70, 71, 72, 73, 74, 75, 76] (by decide +kernel) lC_a (pt_setid _ _ _ lC_a) rfl ⟨Nat.zero_le _, Nat.zero_le _⟩ (fun H locs hP hD hS => ?_)
      refine lv_aload_n hx hb dX5_link_9 rfl (lv_at hl 0 rfl) ?_
      refine va_get (D := X.1) (ci := 5) (v := .ref (ch 0)) (C := RX5) (T := TX5) (N := 5) hx hb hts hiX5 hown hK.1 hP 0 rfl rfl 3 (by decide) k29 (fun _ h9 => h9) rfl dX5_link_10 ?_
      refine lv_aload_n hx hb dX5_link_13 rfl (lv_at hl 0 rfl) ?_
      refine va_get (D := X.1) (ci := 5) (v := .ref (hh 0)) (C := RX5) (T := TX5) (N := 5) hx hb hts hiX5 hown hK.1 hP 0 rfl rfl 0 (by decide) k10 (fun _ h9 => h9) rfl dX5_link_14 ?_
      refine lv_iload_n hx hb dX5_link_17 rfl (lv_at hl 2 rfl) ?_
      obtain ⟨fS_7, hc_8, hf⟩ := bd_of hf
      refine fn_VJ (v := none) (As := [.ref (hh 0), .int x2]) (rest := []) (st1 := []) (ws' := (wLR X x0 hh ht ch tx y hy rP fP rT fT rG fG rL fL rH fH gi di re ti rPT fPT rTT fTT rGT fGT rLT fLT rHT fHT giT diT reT tiT rS fS_7 rB fB rO fO pl fa cn ro Qh)) (nL := 4) ⟨hx, hb, hml, hown, hts⟩ (c_X0_measure l X ch hh rS fS rP fP rT fT rG fG rL fL rH fH gi di re ti x2 fS_7 hc_8) (cwV 2 hts gX5_link_X0_measure rfl rfl rfl (by decide +kernel) ⟨Nat.le_of_ble_eq_true rfl, Nat.le_of_ble_eq_true rfl⟩) 0 rfl rfl rfl rfl hl.1 rfl (Nat.le_of_ble_eq_true rfl) dX5_link_18 hK hP (hD0.addr (wLR_fst.trans wLR_fst.symm)) hS hA [23, 24, 25, 1, 2, 3, 4, 5, 6, 7, 8, 9, 10, 11] (by decide +kernel) lC_ch lJ_ch (wLR_fst.trans wLR_fst.symm) rfl ⟨Nat.zero_le _, Nat.zero_le _⟩ (fun H locs hP hD hS => ?_)
      refine lv_iload_n hx hb dX5_link_21 rfl (lv_at hl 3 rfl) ?_
      refine lv_if_lt (tgt := 37) hx hb dX5_link_22 (by decide) (fun c_9 => ?_) (fun c_9 => ?_)
      · replace hf := fp_t c_9 hf
        cases hf
        exact tx_throw (is := 144) hx hb hfl hown (by decide +kernel) hne (hml.trans hl.1.symm) hlocks (hts (.classLink RX5 142 "java/lang/IndexOutOfBoundsException") (by decide +kernel)) (hts (.initialized "java/lang/IndexOutOfBoundsException") (by decide +kernel)) hTS.1.2.2.2.1 hTS tk_IOB (fun w hw => hts w (by unfold wsX5_link; simp only [List.mem_cons, List.mem_append, hw, or_true, true_or])) hTZ hP hS (Nat.le_of_ble_eq_true rfl) (Nat.le_of_ble_eq_true rfl) (Nat.le_of_ble_eq_true rfl) (Nat.le_of_ble_eq_true rfl) dX5_link_37 dX5_link_40 dX5_link_41 dX5_link_43 dX5_link_46
      · replace hf := fp_f c_9 hf
        refine lv_iload_n hx hb dX5_link_25 rfl (lv_at hl 3 rfl) ?_
        refine lv_aload_n hx hb dX5_link_26 rfl (lv_at hl 0 rfl) ?_
        refine va_get (D := X.1) (ci := 5) (v := .ref (ch 0)) (C := RX5) (T := TX5) (N := 5) hx hb hts hiX5 hown hK.1 hP 0 rfl rfl 3 (by decide) k29 (fun _ h9 => h9) rfl dX5_link_27 ?_
        refine lv_iload_n hx hb dX5_link_30 rfl (lv_at hl 1 rfl) ?_
        obtain ⟨r_10, hc_11, hf⟩ := bd_of hf
        refine fn_V (v := some (.int r_10)) (As := [.int x1]) (rest := [.int x3]) (st1 := [.int r_10, .int x3]) (ws' := (wLR X x0 hh ht ch tx y hy rP fP rT fT rG fG rL fL rH fH gi di re ti rPT fPT rTT fTT rGT fGT rLT fLT rHT fHT giT diT reT tiT rS fS_7 rB fB rO fO pl fa cn ro Qh)) (nL := 4) ⟨hx, hb, hml, hown, hts⟩ (c_X0_stepsTo l X ch rS fS_7 x1 r_10 hc_11) (cwV 1 hts gX5_link_X0_stepsTo rfl rfl rfl (by decide +kernel) ⟨Nat.le_of_ble_eq_true rfl, Nat.le_of_ble_eq_true rfl⟩) 0 rfl rfl rfl rfl hl.1 rfl (Nat.le_of_ble_eq_true rfl) dX5_link_31 hK hP (hD0.addr (wLR_fst.trans wLR_fst.symm)) hS hA [23, 24, 25] (by decide +kernel) lC_c (pt_setid _ _ _ lC_c) rfl ⟨Nat.zero_le _, Nat.zero_le _⟩ (fun H locs hP hD hS => ?_)
        refine lv_icmp_lt (tgt := 47) hx hb dX5_link_34 (by decide) (fun c_12 => ?_) (fun c_12 => ?_)
        · replace hf := fp_t c_12 hf
          refine lv_aload_n hx hb dX5_link_47 rfl (lv_at hl 0 rfl) ?_
          refine va_get (D := X.1) (ci := 5) (v := .ref (ch 0)) (C := RX5) (T := TX5) (N := 5) hx hb hts hiX5 hown hK.1 hP 0 rfl rfl 3 (by decide) k29 (fun _ h9 => h9) rfl dX5_link_48 ?_
          refine lv_aload_n hx hb dX5_link_51 rfl (lv_at hl 0 rfl) ?_
          refine va_get (D := X.1) (ci := 5) (v := .ref (hh 0)) (C := RX5) (T := TX5) (N := 5) hx hb hts hiX5 hown hK.1 hP 0 rfl rfl 0 (by decide) k10 (fun _ h9 => h9) rfl dX5_link_52 ?_
          refine lv_iload_n hx hb dX5_link_55 rfl (lv_at hl 1 rfl) ?_
          refine lv_iload_n hx hb dX5_link_56 rfl (lv_at hl 2 rfl) ?_
          refine lv_iload_n hx hb dX5_link_57 rfl (lv_at hl 3 rfl) ?_
          obtain ⟨r_13, hc_14, hf⟩ := bd_of hf
          refine fn_V (v := some (.int r_13)) (As := [.ref (hh 0), .int x1, .int x2, .int x3]) (rest := []) (st1 := [.int r_13]) (ws' := (wLR X x0 hh ht ch tx y hy rP fP rT fT rG fG rL fL rH fH gi di re ti rPT fPT rTT fTT rGT fGT rLT fLT rHT fHT giT diT reT tiT rS fS_7 rB fB rO fO pl fa cn ro Qh)) (nL := 4) ⟨hx, hb, hml, hown, hts⟩ (c_X0_numberAt l X ch hh rS fS_7 rP fP rT fT rG fG rL fL rH fH gi di re ti x1 x2 x3 r_13 hc_14) (cwV 4 hts gX5_link_X0_numberAt rfl rfl rfl (by decide +kernel) ⟨Nat.le_of_ble_eq_true rfl, Nat.le_of_ble_eq_true rfl⟩) 0 rfl rfl rfl rfl hl.1 rfl (Nat.le_of_ble_eq_true rfl) dX5_link_58 hK hP (hD0.addr (wLR_fst.trans wLR_fst.symm)) hS hA [23, 24, 25, 1, 2, 3, 4, 5, 6, 7, 8, 9, 10, 11] (by decide +kernel) lC_ch (pt_setid _ _ _ lC_ch) rfl ⟨Nat.zero_le _, Nat.zero_le _⟩ (fun H locs hP hD hS => ?_)
          cases hf
        · replace hf := fp_f c_12 hf
          cases hf
          exact tx_throw (is := 144) hx hb hfl hown (by decide +kernel) hne (hml.trans hl.1.symm) hlocks (hts (.classLink RX5 142 "java/lang/IndexOutOfBoundsException") (by decide +kernel)) (hts (.initialized "java/lang/IndexOutOfBoundsException") (by decide +kernel)) hTS.1.2.2.2.1 hTS tk_IOB (fun w hw => hts w (by unfold wsX5_link; simp only [List.mem_cons, List.mem_append, hw, or_true, true_or])) hTZ hP hS (Nat.le_of_ble_eq_true rfl) (Nat.le_of_ble_eq_true rfl) (Nat.le_of_ble_eq_true rfl) (Nat.le_of_ble_eq_true rfl) dX5_link_37 dX5_link_40 dX5_link_41 dX5_link_43 dX5_link_46

def f_X5_why (x1 : Int32) (x2 : Int32) (x3 : Int32) (rT : Int32) (fT : (Nat → Int32)) (rG : Int32) (fG : (Nat → Int32)) (rH : Int32) (fH : (Nat → Int32)) : Option ((String) ⊕ (Int32)) :=
  bx (f_X5_requirePerson x1) (fun E_3 => some (.inl E_3)) (fun u_2 =>
  bx (f_X5_requireThing x2 rT) (fun E_6 => some (.inl E_6)) (fun u_5 =>
  if x3 = (1 : Int32) then
  (bd (f_X2_reasonAgainst x1 x2 x3 rT fT rG fG rH fH) (fun r_8 =>
  some (.inr r_8)))
  else
  (if x3 = (2 : Int32) then
  (bd (f_X2_reasonAgainst x1 x2 x3 rT fT rG fG rH fH) (fun r_11 =>
  some (.inr r_11)))
  else
  (if x3 = (4 : Int32) then
  (bd (f_X2_reasonAgainst x1 x2 x3 rT fT rG fG rH fH) (fun r_14 =>
  some (.inr r_14)))
  else
  (some (.inl ("java/lang/IllegalArgumentException")))))))
set_option maxHeartbeats 4000000 in
set_option maxRecDepth 100000 in
theorem c_X5_why (l : Launch) (X : cx_G) (x0 : Nat) (hh : (Nat → Nat)) (ht : (Nat → Nat)) (ch : (Nat → Nat)) (tx : (Nat → Nat)) (y : (Nat → Nat)) (hy : (Nat → Nat → Nat)) (rP : Int32) (fP : (Nat → Int32)) (rT : Int32) (fT : (Nat → Int32)) (rG : Int32) (fG : (Nat → Int32)) (rL : Int32) (fL : (Nat → Int32)) (rH : Int32) (fH : (Nat → Int32)) (gi : Int32) (di : Int32) (re : Int32) (ti : Int32) (rPT : Int32) (fPT : (Nat → Int32)) (rTT : Int32) (fTT : (Nat → Int32)) (rGT : Int32) (fGT : (Nat → Int32)) (rLT : Int32) (fLT : (Nat → Int32)) (rHT : Int32) (fHT : (Nat → Int32)) (giT : Int32) (diT : Int32) (reT : Int32) (tiT : Int32) (rS : Int32) (fS : (Nat → Int32)) (rB : Int32) (fB : (Nat → Int32)) (rO : Int32) (fO : (Nat → Int32)) (pl : Int32) (fa : Int32) (cn : Int32) (ro : Nat) (Qh : (Nat → HS)) (x1 : Int32) (x2 : Int32) (x3 : Int32) (r : Int32) (hf : f_X5_why x1 x2 x3 rT fT rG fG rH fH = some (.inr r)) : Fn l yX5_why wsX5_why ({ frames := 3, cells := 0, slots := 0, locals := 74 } : Room) X [.ref (x0), .int x1, .int x2, .int x3] (wLR X x0 hh ht ch tx y hy rP fP rT fT rG fG rL fL rH fH gi di re ti rPT fPT rTT fTT rGT fGT rLT fLT rHT fHT giT diT reT tiT rS fS rB fB rO fO pl fa cn ro Qh) (some (.int r)) (wLR X x0 hh ht ch tx y hy rP fP rT fT rG fG rL fL rH fH gi di re ti rPT fPT rTT fTT rGT fGT rLT fLT rHT fHT giT diT reT tiT rS fS rB fB rO fO pl fa cn ro Qh) := by
  refine fn_intro (cc := cX5_why) (maxL := 4) (ret := (some .int)) (by decide) rfl rfl (Nat.le_of_ble_eq_true rfl) ?_
  intro p e s m args below meth c A ls hx hb hml hr hts hown hlocks hK hP hD0 hS hA hl
  have hown : s.vm.findClass RX5 = some m.cls := hown
  have hl : lv_has ls 4 [(0, .ref (x0)), (1, .int x1), (2, .int x2), (3, .int x3)] := hl
  have hiX5 : ∀ w ∈ u_ws RX5 TX5 5, w ∈ wsX5_why := by decide +kernel
  have k10 := hts (.fieldLink RX5 10 "LentRights" "house" "LLentRights$House;") (by decide +kernel)
  unfold f_X5_why at hf
  refine lv_iload_n hx hb dX5_why_0 rfl (lv_at hl 1 rfl) ?_
  rcases bx_of hf with ⟨E_3, hc_1, hf⟩ | ⟨u_2, hc_1, hf⟩
  · cases hf
  · refine fn_Sx (v := none) (As := [.int x1]) (rest := []) (st1 := []) (ws' := (wLR X x0 hh ht ch tx y hy rP fP rT fT rG fG rL fL rH fH gi di re ti rPT fPT rTT fTT rGT fGT rLT fLT rHT fHT giT diT reT tiT rS fS rB fB rO fO pl fa cn ro Qh)) (nL := 4) ⟨hx, hb, hml, hown, hts⟩ (c_X5_requirePerson l X x1 hc_1) (va_cwS 1 hts gX5_why_X5_requirePerson rfl rfl rfl (by decide +kernel) ⟨Nat.le_of_ble_eq_true rfl, Nat.le_of_ble_eq_true rfl⟩) rfl hl.1 rfl (Nat.le_of_ble_eq_true rfl) dX5_why_1 hK hP (hD0.addr (wLR_fst.trans wLR_fst.symm)) hS hA [] (by decide +kernel) rfl (pt_setid _ _ _ rfl) rfl ⟨Nat.zero_le _, Nat.zero_le _⟩ (fun H locs hP hD hS => ?_)
    refine lv_aload_n hx hb dX5_why_4 rfl (lv_at hl 0 rfl) ?_
    refine lv_iload_n hx hb dX5_why_5 rfl (lv_at hl 2 rfl) ?_
    rcases bx_of hf with ⟨E_6, hc_4, hf⟩ | ⟨u_5, hc_4, hf⟩
    · cases hf
    · refine fn_V (v := none) (As := [.int x2]) (rest := []) (st1 := []) (ws' := (wLR X x0 hh ht ch tx y hy rP fP rT fT rG fG rL fL rH fH gi di re ti rPT fPT rTT fTT rGT fGT rLT fLT rHT fHT giT diT reT tiT rS fS rB fB rO fO pl fa cn ro Qh)) (nL := 4) ⟨hx, hb, hml, hown, hts⟩ (c_X5_requireThing l X x0 hh ht ch tx y hy rP fP rT fT rG fG rL fL rH fH gi di re ti rPT fPT rTT fTT rGT fGT rLT fLT rHT fHT giT diT reT tiT rS fS rB fB rO fO pl fa cn ro Qh x2 hc_4) (cwV 1 hts gX5_why_X5_requireThing rfl rfl rfl (by decide +kernel) ⟨Nat.le_of_ble_eq_true rfl, Nat.le_of_ble_eq_true rfl⟩) 5 rfl rfl rfl rfl hl.1 rfl (Nat.le_of_ble_eq_true rfl) dX5_why_6 hK hP (hD0.addr (wLR_fst.trans wLR_fst.symm)) hS hA [0, 1, 2, 3, 4, 5, 6, 7, 8, 9, 10, 11, 12, 13, 14, 15, 16, 17, 18, 19, 20, 21, 22, 23, 24, 25, 26, 27, 28, 29, 30, 31, 32, 33, 34, 35, 36, 37, 38, 39, 40, 41, 42, 43, 44, 45, 46, 47, 48, 49, 50, 51, 52, 53, 54, 55, 56, 57, 58, 59, 60, 61, 62, 63, 64, 65, 66, 67, 68, 69, 70, 71, 72, 73, 74, 75, 76] (by decide +kernel) lC_a (pt_setid _ _ _ lC_a) rfl ⟨Nat.zero_le _, Nat.zero_le _⟩ (fun H locs hP hD hS => ?_)
      refine lv_iload_n hx hb dX5_why_9 rfl (lv_at hl 3 rfl) ?_
      refine lv_iconst (v := 1) hx hb dX5_why_10 (by decide) ?_
      refine lv_icmp_eq (tgt := 34) hx hb dX5_why_11 (by decide) (fun c_7 => ?_) (fun c_7 => ?_)
      · replace hf := fp_t c_7 hf
        refine lv_aload_n hx hb dX5_why_34 rfl (lv_at hl 0 rfl) ?_
        refine va_get (D := X.1) (ci := 5) (v := .ref (hh 0)) (C := RX5) (T := TX5) (N := 5) hx hb hts hiX5 hown hK.1 hP 0 rfl rfl 0 (by decide) k10 (fun _ h9 => h9) rfl dX5_why_35 ?_
        refine lv_iload_n hx hb dX5_why_38 rfl (lv_at hl 1 rfl) ?_
        refine lv_iload_n hx hb dX5_why_39 rfl (lv_at hl 2 rfl) ?_
        refine lv_iload_n hx hb dX5_why_40 rfl (lv_at hl 3 rfl) ?_
        obtain ⟨r_8, hc_9, hf⟩ := bd_of hf
        refine fn_V (v := some (.int r_8)) (As := [.int x1, .int x2, .int x3]) (rest := []) (st1 := [.int r_8]) (ws' := (wLR X x0 hh ht ch tx y hy rP fP rT fT rG fG rL fL rH fH gi di re ti rPT fPT rTT fTT rGT fGT rLT fLT rHT fHT giT diT reT tiT rS fS rB fB rO fO pl fa cn ro Qh)) (nL := 4) ⟨hx, hb, hml, hown, hts⟩ (c_X2_reasonAgainst l X hh rP fP rT fT rG fG rL fL rH fH gi di re ti x1 x2 x3 r_8 hc_9) (cwV 3 hts gX5_why_X2_reasonAgainst rfl rfl rfl (by decide +kernel) ⟨Nat.le_of_ble_eq_true rfl, Nat.le_of_ble_eq_true rfl⟩) 2 rfl rfl rfl rfl hl.1 rfl (Nat.le_of_ble_eq_true rfl) dX5_why_41 hK hP (hD0.addr (wLR_fst.trans wLR_fst.symm)) hS hA [1, 2, 3, 4, 5, 6, 7, 8, 9, 10, 11] (by decide +kernel) lC_h (pt_setid _ _ _ lC_h) rfl ⟨Nat.zero_le _, Nat.zero_le _⟩ (fun H locs hP hD hS => ?_)
        cases hf
        exact fn_iret hx hb hr hlocks hP hS dX5_why_44
      · replace hf := fp_f c_7 hf
        refine lv_iload_n hx hb dX5_why_14 rfl (lv_at hl 3 rfl) ?_
        refine lv_iconst (v := 2) hx hb dX5_why_15 (by decide) ?_
        refine lv_icmp_eq (tgt := 34) hx hb dX5_why_16 (by decide) (fun c_10 => ?_) (fun c_10 => ?_)
        · replace hf := fp_t c_10 hf
          refine lv_aload_n hx hb dX5_why_34 rfl (lv_at hl 0 rfl) ?_
          refine va_get (D := X.1) (ci := 5) (v := .ref (hh 0)) (C := RX5) (T := TX5) (N := 5) hx hb hts hiX5 hown hK.1 hP 0 rfl rfl 0 (by decide) k10 (fun _ h9 => h9) rfl dX5_why_35 ?_
          refine lv_iload_n hx hb dX5_why_38 rfl (lv_at hl 1 rfl) ?_
          refine lv_iload_n hx hb dX5_why_39 rfl (lv_at hl 2 rfl) ?_
          refine lv_iload_n hx hb dX5_why_40 rfl (lv_at hl 3 rfl) ?_
          obtain ⟨r_11, hc_12, hf⟩ := bd_of hf
          refine fn_V (v := some (.int r_11)) (As := [.int x1, .int x2, .int x3]) (rest := []) (st1 := [.int r_11]) (ws' := (wLR X x0 hh ht ch tx y hy rP fP rT fT rG fG rL fL rH fH gi di re ti rPT fPT rTT fTT rGT fGT rLT fLT rHT fHT giT diT reT tiT rS fS rB fB rO fO pl fa cn ro Qh)) (nL := 4) ⟨hx, hb, hml, hown, hts⟩ (c_X2_reasonAgainst l X hh rP fP rT fT rG fG rL fL rH fH gi di re ti x1 x2 x3 r_11 hc_12) (cwV 3 hts gX5_why_X2_reasonAgainst rfl rfl rfl (by decide +kernel) ⟨Nat.le_of_ble_eq_true rfl, Nat.le_of_ble_eq_true rfl⟩) 2 rfl rfl rfl rfl hl.1 rfl (Nat.le_of_ble_eq_true rfl) dX5_why_41 hK hP (hD0.addr (wLR_fst.trans wLR_fst.symm)) hS hA [1, 2, 3, 4, 5, 6, 7, 8, 9, 10, 11] (by decide +kernel) lC_h (pt_setid _ _ _ lC_h) rfl ⟨Nat.zero_le _, Nat.zero_le _⟩ (fun H locs hP hD hS => ?_)
          cases hf
          exact fn_iret hx hb hr hlocks hP hS dX5_why_44
        · replace hf := fp_f c_10 hf
          refine lv_iload_n hx hb dX5_why_19 rfl (lv_at hl 3 rfl) ?_
          refine lv_iconst (v := 4) hx hb dX5_why_20 (by decide) ?_
          refine lv_icmp_eq (tgt := 34) hx hb dX5_why_21 (by decide) (fun c_13 => ?_) (fun c_13 => ?_)
          · replace hf := fp_t c_13 hf
            refine lv_aload_n hx hb dX5_why_34 rfl (lv_at hl 0 rfl) ?_
            refine va_get (D := X.1) (ci := 5) (v := .ref (hh 0)) (C := RX5) (T := TX5) (N := 5) hx hb hts hiX5 hown hK.1 hP 0 rfl rfl 0 (by decide) k10 (fun _ h9 => h9) rfl dX5_why_35 ?_
            refine lv_iload_n hx hb dX5_why_38 rfl (lv_at hl 1 rfl) ?_
            refine lv_iload_n hx hb dX5_why_39 rfl (lv_at hl 2 rfl) ?_
            refine lv_iload_n hx hb dX5_why_40 rfl (lv_at hl 3 rfl) ?_
            obtain ⟨r_14, hc_15, hf⟩ := bd_of hf
            refine fn_V (v := some (.int r_14)) (As := [.int x1, .int x2, .int x3]) (rest := []) (st1 := [.int r_14]) (ws' := (wLR X x0 hh ht ch tx y hy rP fP rT fT rG fG rL fL rH fH gi di re ti rPT fPT rTT fTT rGT fGT rLT fLT rHT fHT giT diT reT tiT rS fS rB fB rO fO pl fa cn ro Qh)) (nL := 4) ⟨hx, hb, hml, hown, hts⟩ (c_X2_reasonAgainst l X hh rP fP rT fT rG fG rL fL rH fH gi di re ti x1 x2 x3 r_14 hc_15) (cwV 3 hts gX5_why_X2_reasonAgainst rfl rfl rfl (by decide +kernel) ⟨Nat.le_of_ble_eq_true rfl, Nat.le_of_ble_eq_true rfl⟩) 2 rfl rfl rfl rfl hl.1 rfl (Nat.le_of_ble_eq_true rfl) dX5_why_41 hK hP (hD0.addr (wLR_fst.trans wLR_fst.symm)) hS hA [1, 2, 3, 4, 5, 6, 7, 8, 9, 10, 11] (by decide +kernel) lC_h (pt_setid _ _ _ lC_h) rfl ⟨Nat.zero_le _, Nat.zero_le _⟩ (fun H locs hP hD hS => ?_)
            cases hf
            exact fn_iret hx hb hr hlocks hP hS dX5_why_44
          · replace hf := fp_f c_13 hf
            cases hf
set_option maxHeartbeats 4000000 in
set_option maxRecDepth 100000 in
theorem c_X5_why_x (l : Launch) (hfl : l.stackTraces = false) (X : cx_G) (x0 : Nat) (hh : (Nat → Nat)) (ht : (Nat → Nat)) (ch : (Nat → Nat)) (tx : (Nat → Nat)) (y : (Nat → Nat)) (hy : (Nat → Nat → Nat)) (rP : Int32) (fP : (Nat → Int32)) (rT : Int32) (fT : (Nat → Int32)) (rG : Int32) (fG : (Nat → Int32)) (rL : Int32) (fL : (Nat → Int32)) (rH : Int32) (fH : (Nat → Int32)) (gi : Int32) (di : Int32) (re : Int32) (ti : Int32) (rPT : Int32) (fPT : (Nat → Int32)) (rTT : Int32) (fTT : (Nat → Int32)) (rGT : Int32) (fGT : (Nat → Int32)) (rLT : Int32) (fLT : (Nat → Int32)) (rHT : Int32) (fHT : (Nat → Int32)) (giT : Int32) (diT : Int32) (reT : Int32) (tiT : Int32) (rS : Int32) (fS : (Nat → Int32)) (rB : Int32) (fB : (Nat → Int32)) (rO : Int32) (fO : (Nat → Int32)) (pl : Int32) (fa : Int32) (cn : Int32) (ro : Nat) (Qh : (Nat → HS)) (x1 : Int32) (x2 : Int32) (x3 : Int32) (E : String) (hf : f_X5_why x1 x2 x3 rT fT rG fG rH fH = some (.inl E)) : Tx l yX5_why wsX5_why ({ frames := 7, cells := 1, slots := 6, locals := 111 } : Room) X [.ref (x0), .int x1, .int x2, .int x3] (wLR X x0 hh ht ch tx y hy rP fP rT fT rG fG rL fL rH fH gi di re ti rPT fPT rTT fTT rGT fGT rLT fLT rHT fHT giT diT reT tiT rS fS rB fB rO fO pl fa cn ro Qh) E (wLR X x0 hh ht ch tx y hy rP fP rT fT rG fG rL fL rH fH gi di re ti rPT fPT rTT fTT rGT fGT rLT fLT rHT fHT giT diT reT tiT rS fS rB fB rO fO pl fa cn ro Qh) := by
  refine tx_intro (cc := cX5_why) (maxL := 4) (ret := (some .int)) (by decide) rfl rfl (Nat.le_of_ble_eq_true rfl) ?_
  intro p e s m args below meth c A ls hx hb hml hr hts hown hlocks hne hK hP hD0 hS hA hTS hTZ hl
  have hown : s.vm.findClass RX5 = some m.cls := hown
  have hl : lv_has ls 4 [(0, .ref (x0)), (1, .int x1), (2, .int x2), (3, .int x3)] := hl
  have hiX5 : ∀ w ∈ u_ws RX5 TX5 5, w ∈ wsX5_why := by decide +kernel
  have k10 := hts (.fieldLink RX5 10 "LentRights" "house" "LLentRights$House;") (by decide +kernel)
  unfold f_X5_why at hf
  refine lv_iload_n hx hb dX5_why_0 rfl (lv_at hl 1 rfl) ?_
  rcases bx_of hf with ⟨E_3, hc_1, hf⟩ | ⟨u_2, hc_1, hf⟩
  · cases hf
    exact tx_Sx (As := [.int x1]) (rest := []) (nL := 4) hne hlocks ⟨hx, hb, hml, hown, hts⟩ (c_X5_requirePerson_x l hfl X x1 E hc_1) (va_cwS 1 hts gX5_why_X5_requirePerson rfl rfl rfl (by decide +kernel) ⟨Nat.le_of_ble_eq_true rfl, Nat.le_of_ble_eq_true rfl⟩) rfl hl.1 rfl (Nat.le_of_ble_eq_true rfl) dX5_why_1 hTS hTZ hK hP (hD0.addr (wLR_fst.trans wLR_fst.symm)) hS hA [] (by decide +kernel) rfl (pt_setid _ _ _ rfl) ⟨Nat.le_of_ble_eq_true rfl, Nat.le_of_ble_eq_true rfl⟩
  · refine fn_Sx (v := none) (As := [.int x1]) (rest := []) (st1 := []) (ws' := (wLR X x0 hh ht ch tx y hy rP fP rT fT rG fG rL fL rH fH gi di re ti rPT fPT rTT fTT rGT fGT rLT fLT rHT fHT giT diT reT tiT rS fS rB fB rO fO pl fa cn ro Qh)) (nL := 4) ⟨hx, hb, hml, hown, hts⟩ (c_X5_requirePerson l X x1 hc_1) (va_cwS 1 hts gX5_why_X5_requirePerson rfl rfl rfl (by decide +kernel) ⟨Nat.le_of_ble_eq_true rfl, Nat.le_of_ble_eq_true rfl⟩) rfl hl.1 rfl (Nat.le_of_ble_eq_true rfl) dX5_why_1 hK hP (hD0.addr (wLR_fst.trans wLR_fst.symm)) hS hA [] (by decide +kernel) rfl (pt_setid _ _ _ rfl) rfl ⟨Nat.zero_le _, Nat.zero_le _⟩ (fun H locs hP hD hS => ?_)
    refine lv_aload_n hx hb dX5_why_4 rfl (lv_at hl 0 rfl) ?_
    refine lv_iload_n hx hb dX5_why_5 rfl (lv_at hl 2 rfl) ?_
    rcases bx_of hf with ⟨E_6, hc_4, hf⟩ | ⟨u_5, hc_4, hf⟩
    · cases hf
      exact tx_V (As := [.int x2]) (rest := []) (nL := 4) hne hlocks ⟨hx, hb, hml, hown, hts⟩ (c_X5_requireThing_x l hfl X x0 hh ht ch tx y hy rP fP rT fT rG fG rL fL rH fH gi di re ti rPT fPT rTT fTT rGT fGT rLT fLT rHT fHT giT diT reT tiT rS fS rB fB rO fO pl fa cn ro Qh x2 E hc_4) (cwV 1 hts gX5_why_X5_requireThing rfl rfl rfl (by decide +kernel) ⟨Nat.le_of_ble_eq_true rfl, Nat.le_of_ble_eq_true rfl⟩) 5 rfl rfl rfl rfl hl.1 rfl (Nat.le_of_ble_eq_true rfl) dX5_why_6 hTS hTZ hK hP (hD0.addr (wLR_fst.trans wLR_fst.symm)) hS hA [0, 1, 2, 3, 4, 5, 6, 7, 8, 9, 10, 11, 12, 13, 14, 15, 16, 17, 18, 19, 20, 21, 22, 23, 24, 25, 26, 27, 28, 29, 30, 31, 32, 33, 34, 35, 36, 37, 38, 39, 40, 41, 42, 43, 44, 45, 46, 47, 48, 49, 50, 51, 52, 53, 54, 55, 56, 57, 58, 59, 60, 61, 62, 63, 64, 65, 66, 67, 68, 69, 70, 71, 72, 73, 74, 75, 76] (by decide +kernel) lC_a (pt_setid _ _ _ lC_a) ⟨Nat.le_of_ble_eq_true rfl, Nat.le_of_ble_eq_true rfl⟩
    · refine fn_V (v := none) (As := [.int x2]) (rest := []) (st1 := []) (ws' := (wLR X x0 hh ht ch tx y hy rP fP rT fT rG fG rL fL rH fH gi di re ti rPT fPT rTT fTT rGT fGT rLT fLT rHT fHT giT diT reT tiT rS fS rB fB rO fO pl fa cn ro Qh)) (nL := 4) ⟨hx, hb, hml, hown, hts⟩ (c_X5_requireThing l X x0 hh ht ch tx y hy rP fP rT fT rG fG rL fL rH fH gi di re ti rPT fPT rTT fTT rGT fGT rLT fLT rHT fHT giT diT reT tiT rS fS rB fB rO fO pl fa cn ro Qh x2 hc_4) (cwV 1 hts gX5_why_X5_requireThing rfl rfl rfl (by decide +kernel) ⟨Nat.le_of_ble_eq_true rfl, Nat.le_of_ble_eq_true rfl⟩) 5 rfl rfl rfl rfl hl.1 rfl (Nat.le_of_ble_eq_true rfl) dX5_why_6 hK hP (hD0.addr (wLR_fst.trans wLR_fst.symm)) hS hA [0, 1, 2, 3, 4, 5, 6, 7, 8, 9, 10, 11, 12, 13, 14, 15, 16, 17, 18, 19, 20, 21, 22, 23, 24, 25, 26, 27, 28, 29, 30, 31, 32, 33, 34, 35, 36, 37, 38, 39, 40, 41, 42, 43, 44, 45, 46, 47, 48, 49, 50, 51, 52, 53, 54, 55, 56, 57, 58, 59, 60, 61, 62, 63, 64, 65, 66, 67, 68, 69, 70, 71, 72, 73, 74, 75, 76] (by decide +kernel) lC_a (pt_setid _ _ _ lC_a) rfl ⟨Nat.zero_le _, Nat.zero_le _⟩ (fun H locs hP hD hS => ?_)
      refine lv_iload_n hx hb dX5_why_9 rfl (lv_at hl 3 rfl) ?_
      refine lv_iconst (v := 1) hx hb dX5_why_10 (by decide) ?_
      refine lv_icmp_eq (tgt := 34) hx hb dX5_why_11 (by decide) (fun c_7 => ?_) (fun c_7 => ?_)
      · replace hf := fp_t c_7 hf
        refine lv_aload_n hx hb dX5_why_34 rfl (lv_at hl 0 rfl) ?_
        refine va_get (D := X.1) (ci := 5) (v := .ref (hh 0)) (C := RX5) (T := TX5) (N := 5) hx hb hts hiX5 hown hK.1 hP 0 rfl rfl 0 (by decide) k10 (fun _ h9 => h9) rfl dX5_why_35 ?_
        refine lv_iload_n hx hb dX5_why_38 rfl (lv_at hl 1 rfl) ?_
        refine lv_iload_n hx hb dX5_why_39 rfl (lv_at hl 2 rfl) ?_
        refine lv_iload_n hx hb dX5_why_40 rfl (lv_at hl 3 rfl) ?_
        obtain ⟨r_8, hc_9, hf⟩ := bd_of hf
        refine fn_V (v := some (.int r_8)) (As := [.int x1, .int x2, .int x3]) (rest := []) (st1 := [.int r_8]) (ws' := (wLR X x0 hh ht ch tx y hy rP fP rT fT rG fG rL fL rH fH gi di re ti rPT fPT rTT fTT rGT fGT rLT fLT rHT fHT giT diT reT tiT rS fS rB fB rO fO pl fa cn ro Qh)) (nL := 4) ⟨hx, hb, hml, hown, hts⟩ (c_X2_reasonAgainst l X hh rP fP rT fT rG fG rL fL rH fH gi di re ti x1 x2 x3 r_8 hc_9) (cwV 3 hts gX5_why_X2_reasonAgainst rfl rfl rfl (by decide +kernel) ⟨Nat.le_of_ble_eq_true rfl, Nat.le_of_ble_eq_true rfl⟩) 2 rfl rfl rfl rfl hl.1 rfl (Nat.le_of_ble_eq_true rfl) dX5_why_41 hK hP (hD0.addr (wLR_fst.trans wLR_fst.symm)) hS hA [1, 2, 3, 4, 5, 6, 7, 8, 9, 10, 11] (by decide +kernel) lC_h (pt_setid _ _ _ lC_h) rfl ⟨Nat.zero_le _, Nat.zero_le _⟩ (fun H locs hP hD hS => ?_)
        cases hf
      · replace hf := fp_f c_7 hf
        refine lv_iload_n hx hb dX5_why_14 rfl (lv_at hl 3 rfl) ?_
        refine lv_iconst (v := 2) hx hb dX5_why_15 (by decide) ?_
        refine lv_icmp_eq (tgt := 34) hx hb dX5_why_16 (by decide) (fun c_10 => ?_) (fun c_10 => ?_)
        · replace hf := fp_t c_10 hf
          refine lv_aload_n hx hb dX5_why_34 rfl (lv_at hl 0 rfl) ?_
          refine va_get (D := X.1) (ci := 5) (v := .ref (hh 0)) (C := RX5) (T := TX5) (N := 5) hx hb hts hiX5 hown hK.1 hP 0 rfl rfl 0 (by decide) k10 (fun _ h9 => h9) rfl dX5_why_35 ?_
          refine lv_iload_n hx hb dX5_why_38 rfl (lv_at hl 1 rfl) ?_
          refine lv_iload_n hx hb dX5_why_39 rfl (lv_at hl 2 rfl) ?_
          refine lv_iload_n hx hb dX5_why_40 rfl (lv_at hl 3 rfl) ?_
          obtain ⟨r_11, hc_12, hf⟩ := bd_of hf
          refine fn_V (v := some (.int r_11)) (As := [.int x1, .int x2, .int x3]) (rest := []) (st1 := [.int r_11]) (ws' := (wLR X x0 hh ht ch tx y hy rP fP rT fT rG fG rL fL rH fH gi di re ti rPT fPT rTT fTT rGT fGT rLT fLT rHT fHT giT diT reT tiT rS fS rB fB rO fO pl fa cn ro Qh)) (nL := 4) ⟨hx, hb, hml, hown, hts⟩ (c_X2_reasonAgainst l X hh rP fP rT fT rG fG rL fL rH fH gi di re ti x1 x2 x3 r_11 hc_12) (cwV 3 hts gX5_why_X2_reasonAgainst rfl rfl rfl (by decide +kernel) ⟨Nat.le_of_ble_eq_true rfl, Nat.le_of_ble_eq_true rfl⟩) 2 rfl rfl rfl rfl hl.1 rfl (Nat.le_of_ble_eq_true rfl) dX5_why_41 hK hP (hD0.addr (wLR_fst.trans wLR_fst.symm)) hS hA [1, 2, 3, 4, 5, 6, 7, 8, 9, 10, 11] (by decide +kernel) lC_h (pt_setid _ _ _ lC_h) rfl ⟨Nat.zero_le _, Nat.zero_le _⟩ (fun H locs hP hD hS => ?_)
          cases hf
        · replace hf := fp_f c_10 hf
          refine lv_iload_n hx hb dX5_why_19 rfl (lv_at hl 3 rfl) ?_
          refine lv_iconst (v := 4) hx hb dX5_why_20 (by decide) ?_
          refine lv_icmp_eq (tgt := 34) hx hb dX5_why_21 (by decide) (fun c_13 => ?_) (fun c_13 => ?_)
          · replace hf := fp_t c_13 hf
            refine lv_aload_n hx hb dX5_why_34 rfl (lv_at hl 0 rfl) ?_
            refine va_get (D := X.1) (ci := 5) (v := .ref (hh 0)) (C := RX5) (T := TX5) (N := 5) hx hb hts hiX5 hown hK.1 hP 0 rfl rfl 0 (by decide) k10 (fun _ h9 => h9) rfl dX5_why_35 ?_
            refine lv_iload_n hx hb dX5_why_38 rfl (lv_at hl 1 rfl) ?_
            refine lv_iload_n hx hb dX5_why_39 rfl (lv_at hl 2 rfl) ?_
            refine lv_iload_n hx hb dX5_why_40 rfl (lv_at hl 3 rfl) ?_
            obtain ⟨r_14, hc_15, hf⟩ := bd_of hf
            refine fn_V (v := some (.int r_14)) (As := [.int x1, .int x2, .int x3]) (rest := []) (st1 := [.int r_14]) (ws' := (wLR X x0 hh ht ch tx y hy rP fP rT fT rG fG rL fL rH fH gi di re ti rPT fPT rTT fTT rGT fGT rLT fLT rHT fHT giT diT reT tiT rS fS rB fB rO fO pl fa cn ro Qh)) (nL := 4) ⟨hx, hb, hml, hown, hts⟩ (c_X2_reasonAgainst l X hh rP fP rT fT rG fG rL fL rH fH gi di re ti x1 x2 x3 r_14 hc_15) (cwV 3 hts gX5_why_X2_reasonAgainst rfl rfl rfl (by decide +kernel) ⟨Nat.le_of_ble_eq_true rfl, Nat.le_of_ble_eq_true rfl⟩) 2 rfl rfl rfl rfl hl.1 rfl (Nat.le_of_ble_eq_true rfl) dX5_why_41 hK hP (hD0.addr (wLR_fst.trans wLR_fst.symm)) hS hA [1, 2, 3, 4, 5, 6, 7, 8, 9, 10, 11] (by decide +kernel) lC_h (pt_setid _ _ _ lC_h) rfl ⟨Nat.zero_le _, Nat.zero_le _⟩ (fun H locs hP hD hS => ?_)
            cases hf
          · replace hf := fp_f c_13 hf
            cases hf
            exact tx_throw (is := 153) hx hb hfl hown (by decide +kernel) hne (hml.trans hl.1.symm) hlocks (hts (.classLink RX5 151 "java/lang/IllegalArgumentException") (by decide +kernel)) (hts (.initialized "java/lang/IllegalArgumentException") (by decide +kernel)) hTS.1.2.2.2.2.1 hTS tk_IAE (fun w hw => hts w (by unfold wsX5_why; simp only [List.mem_cons, List.mem_append, hw, or_true, true_or])) hTZ hP hS (Nat.le_of_ble_eq_true rfl) (Nat.le_of_ble_eq_true rfl) (Nat.le_of_ble_eq_true rfl) (Nat.le_of_ble_eq_true rfl) dX5_why_24 dX5_why_27 dX5_why_28 dX5_why_30 dX5_why_33

def f_X5_value (x1 : Int32) (rT : Int32) (fT : (Nat → Int32)) (rG : Int32) (fG : (Nat → Int32)) (rL : Int32) (rH : Int32) (fH : (Nat → Int32)) (gi : Int32) (di : Int32) (re : Int32) (ti : Int32) : Option ((String) ⊕ (Int32)) :=
  bx (f_X5_requireRange x1 (0 : Int32) (8 : Int32)) (fun E_3 => some (.inl E_3)) (fun u_2 =>
  bd (f_X2_aboutHouse x1 rT fT rG fG rL rH fH gi di re ti) (fun r_4 =>
  some (.inr r_4)))
set_option maxHeartbeats 4000000 in
set_option maxRecDepth 100000 in
theorem c_X5_value (l : Launch) (X : cx_G) (x0 : Nat) (hh : (Nat → Nat)) (ht : (Nat → Nat)) (ch : (Nat → Nat)) (tx : (Nat → Nat)) (y : (Nat → Nat)) (hy : (Nat → Nat → Nat)) (rP : Int32) (fP : (Nat → Int32)) (rT : Int32) (fT : (Nat → Int32)) (rG : Int32) (fG : (Nat → Int32)) (rL : Int32) (fL : (Nat → Int32)) (rH : Int32) (fH : (Nat → Int32)) (gi : Int32) (di : Int32) (re : Int32) (ti : Int32) (rPT : Int32) (fPT : (Nat → Int32)) (rTT : Int32) (fTT : (Nat → Int32)) (rGT : Int32) (fGT : (Nat → Int32)) (rLT : Int32) (fLT : (Nat → Int32)) (rHT : Int32) (fHT : (Nat → Int32)) (giT : Int32) (diT : Int32) (reT : Int32) (tiT : Int32) (rS : Int32) (fS : (Nat → Int32)) (rB : Int32) (fB : (Nat → Int32)) (rO : Int32) (fO : (Nat → Int32)) (pl : Int32) (fa : Int32) (cn : Int32) (ro : Nat) (Qh : (Nat → HS)) (x1 : Int32) (r : Int32) (hf : f_X5_value x1 rT fT rG fG rL rH fH gi di re ti = some (.inr r)) : Fn l yX5_value wsX5_value ({ frames := 4, cells := 0, slots := 0, locals := 91 } : Room) X [.ref (x0), .int x1] (wLR X x0 hh ht ch tx y hy rP fP rT fT rG fG rL fL rH fH gi di re ti rPT fPT rTT fTT rGT fGT rLT fLT rHT fHT giT diT reT tiT rS fS rB fB rO fO pl fa cn ro Qh) (some (.int r)) (wLR X x0 hh ht ch tx y hy rP fP rT fT rG fG rL fL rH fH gi di re ti rPT fPT rTT fTT rGT fGT rLT fLT rHT fHT giT diT reT tiT rS fS rB fB rO fO pl fa cn ro Qh) := by
  refine fn_intro (cc := cX5_value) (maxL := 2) (ret := (some .int)) (by decide) rfl rfl (Nat.le_of_ble_eq_true rfl) ?_
  intro p e s m args below meth c A ls hx hb hml hr hts hown hlocks hK hP hD0 hS hA hl
  have hown : s.vm.findClass RX5 = some m.cls := hown
  have hl : lv_has ls 2 [(0, .ref (x0)), (1, .int x1)] := hl
  have hiX5 : ∀ w ∈ u_ws RX5 TX5 5, w ∈ wsX5_value := by decide +kernel
  have k10 := hts (.fieldLink RX5 10 "LentRights" "house" "LLentRights$House;") (by decide +kernel)
  unfold f_X5_value at hf
  refine lv_iload_n hx hb dX5_value_0 rfl (lv_at hl 1 rfl) ?_
  refine lv_iconst (v := 0) hx hb dX5_value_1 (by decide) ?_
  refine lv_bipush (v := 8) hx hb dX5_value_2 (by decide) ?_
  rcases bx_of hf with ⟨E_3, hc_1, hf⟩ | ⟨u_2, hc_1, hf⟩
  · cases hf
  · refine fn_Sx (v := none) (As := [.int x1, .int (0 : Int32), .int (8 : Int32)]) (rest := []) (st1 := []) (ws' := (wLR X x0 hh ht ch tx y hy rP fP rT fT rG fG rL fL rH fH gi di re ti rPT fPT rTT fTT rGT fGT rLT fLT rHT fHT giT diT reT tiT rS fS rB fB rO fO pl fa cn ro Qh)) (nL := 2) ⟨hx, hb, hml, hown, hts⟩ (c_X5_requireRange l X x1 (0 : Int32) (8 : Int32) hc_1) (va_cwS 3 hts gX5_value_X5_requireRange rfl rfl rfl (by decide +kernel) ⟨Nat.le_of_ble_eq_true rfl, Nat.le_of_ble_eq_true rfl⟩) rfl hl.1 rfl (Nat.le_of_ble_eq_true rfl) dX5_value_4 hK hP (hD0.addr (wLR_fst.trans wLR_fst.symm)) hS hA [] (by decide +kernel) rfl (pt_setid _ _ _ rfl) rfl ⟨Nat.zero_le _, Nat.zero_le _⟩ (fun H locs hP hD hS => ?_)
    refine lv_aload_n hx hb dX5_value_7 rfl (lv_at hl 0 rfl) ?_
    refine va_get (D := X.1) (ci := 5) (v := .ref (hh 0)) (C := RX5) (T := TX5) (N := 5) hx hb hts hiX5 hown hK.1 hP 0 rfl rfl 0 (by decide) k10 (fun _ h9 => h9) rfl dX5_value_8 ?_
    refine lv_iload_n hx hb dX5_value_11 rfl (lv_at hl 1 rfl) ?_
    obtain ⟨r_4, hc_5, hf⟩ := bd_of hf
    refine fn_V (v := some (.int r_4)) (As := [.int x1]) (rest := []) (st1 := [.int r_4]) (ws' := (wLR X x0 hh ht ch tx y hy rP fP rT fT rG fG rL fL rH fH gi di re ti rPT fPT rTT fTT rGT fGT rLT fLT rHT fHT giT diT reT tiT rS fS rB fB rO fO pl fa cn ro Qh)) (nL := 2) ⟨hx, hb, hml, hown, hts⟩ (c_X2_aboutHouse l X hh rP fP rT fT rG fG rL fL rH fH gi di re ti x1 r_4 hc_5) (cwV 1 hts gX5_value_X2_aboutHouse rfl rfl rfl (by decide +kernel) ⟨Nat.le_of_ble_eq_true rfl, Nat.le_of_ble_eq_true rfl⟩) 2 rfl rfl rfl rfl hl.1 rfl (Nat.le_of_ble_eq_true rfl) dX5_value_12 hK hP (hD0.addr (wLR_fst.trans wLR_fst.symm)) hS hA [1, 2, 3, 4, 5, 6, 7, 8, 9, 10, 11] (by decide +kernel) lC_h (pt_setid _ _ _ lC_h) rfl ⟨Nat.zero_le _, Nat.zero_le _⟩ (fun H locs hP hD hS => ?_)
    cases hf
    exact fn_iret hx hb hr hlocks hP hS dX5_value_15
set_option maxHeartbeats 4000000 in
set_option maxRecDepth 100000 in
theorem c_X5_value_x (l : Launch) (hfl : l.stackTraces = false) (X : cx_G) (x0 : Nat) (hh : (Nat → Nat)) (ht : (Nat → Nat)) (ch : (Nat → Nat)) (tx : (Nat → Nat)) (y : (Nat → Nat)) (hy : (Nat → Nat → Nat)) (rP : Int32) (fP : (Nat → Int32)) (rT : Int32) (fT : (Nat → Int32)) (rG : Int32) (fG : (Nat → Int32)) (rL : Int32) (fL : (Nat → Int32)) (rH : Int32) (fH : (Nat → Int32)) (gi : Int32) (di : Int32) (re : Int32) (ti : Int32) (rPT : Int32) (fPT : (Nat → Int32)) (rTT : Int32) (fTT : (Nat → Int32)) (rGT : Int32) (fGT : (Nat → Int32)) (rLT : Int32) (fLT : (Nat → Int32)) (rHT : Int32) (fHT : (Nat → Int32)) (giT : Int32) (diT : Int32) (reT : Int32) (tiT : Int32) (rS : Int32) (fS : (Nat → Int32)) (rB : Int32) (fB : (Nat → Int32)) (rO : Int32) (fO : (Nat → Int32)) (pl : Int32) (fa : Int32) (cn : Int32) (ro : Nat) (Qh : (Nat → HS)) (x1 : Int32) (E : String) (hf : f_X5_value x1 rT fT rG fG rL rH fH gi di re ti = some (.inl E)) : Tx l yX5_value wsX5_value ({ frames := 7, cells := 1, slots := 6, locals := 112 } : Room) X [.ref (x0), .int x1] (wLR X x0 hh ht ch tx y hy rP fP rT fT rG fG rL fL rH fH gi di re ti rPT fPT rTT fTT rGT fGT rLT fLT rHT fHT giT diT reT tiT rS fS rB fB rO fO pl fa cn ro Qh) E (wLR X x0 hh ht ch tx y hy rP fP rT fT rG fG rL fL rH fH gi di re ti rPT fPT rTT fTT rGT fGT rLT fLT rHT fHT giT diT reT tiT rS fS rB fB rO fO pl fa cn ro Qh) := by
  refine tx_intro (cc := cX5_value) (maxL := 2) (ret := (some .int)) (by decide) rfl rfl (Nat.le_of_ble_eq_true rfl) ?_
  intro p e s m args below meth c A ls hx hb hml hr hts hown hlocks hne hK hP hD0 hS hA hTS hTZ hl
  have hown : s.vm.findClass RX5 = some m.cls := hown
  have hl : lv_has ls 2 [(0, .ref (x0)), (1, .int x1)] := hl
  have hiX5 : ∀ w ∈ u_ws RX5 TX5 5, w ∈ wsX5_value := by decide +kernel
  have k10 := hts (.fieldLink RX5 10 "LentRights" "house" "LLentRights$House;") (by decide +kernel)
  unfold f_X5_value at hf
  refine lv_iload_n hx hb dX5_value_0 rfl (lv_at hl 1 rfl) ?_
  refine lv_iconst (v := 0) hx hb dX5_value_1 (by decide) ?_
  refine lv_bipush (v := 8) hx hb dX5_value_2 (by decide) ?_
  rcases bx_of hf with ⟨E_3, hc_1, hf⟩ | ⟨u_2, hc_1, hf⟩
  · cases hf
    exact tx_Sx (As := [.int x1, .int (0 : Int32), .int (8 : Int32)]) (rest := []) (nL := 2) hne hlocks ⟨hx, hb, hml, hown, hts⟩ (c_X5_requireRange_x l hfl X x1 (0 : Int32) (8 : Int32) E hc_1) (va_cwS 3 hts gX5_value_X5_requireRange rfl rfl rfl (by decide +kernel) ⟨Nat.le_of_ble_eq_true rfl, Nat.le_of_ble_eq_true rfl⟩) rfl hl.1 rfl (Nat.le_of_ble_eq_true rfl) dX5_value_4 hTS hTZ hK hP (hD0.addr (wLR_fst.trans wLR_fst.symm)) hS hA [] (by decide +kernel) rfl (pt_setid _ _ _ rfl) ⟨Nat.le_of_ble_eq_true rfl, Nat.le_of_ble_eq_true rfl⟩
  · refine fn_Sx (v := none) (As := [.int x1, .int (0 : Int32), .int (8 : Int32)]) (rest := []) (st1 := []) (ws' := (wLR X x0 hh ht ch tx y hy rP fP rT fT rG fG rL fL rH fH gi di re ti rPT fPT rTT fTT rGT fGT rLT fLT rHT fHT giT diT reT tiT rS fS rB fB rO fO pl fa cn ro Qh)) (nL := 2) ⟨hx, hb, hml, hown, hts⟩ (c_X5_requireRange l X x1 (0 : Int32) (8 : Int32) hc_1) (va_cwS 3 hts gX5_value_X5_requireRange rfl rfl rfl (by decide +kernel) ⟨Nat.le_of_ble_eq_true rfl, Nat.le_of_ble_eq_true rfl⟩) rfl hl.1 rfl (Nat.le_of_ble_eq_true rfl) dX5_value_4 hK hP (hD0.addr (wLR_fst.trans wLR_fst.symm)) hS hA [] (by decide +kernel) rfl (pt_setid _ _ _ rfl) rfl ⟨Nat.zero_le _, Nat.zero_le _⟩ (fun H locs hP hD hS => ?_)
    refine lv_aload_n hx hb dX5_value_7 rfl (lv_at hl 0 rfl) ?_
    refine va_get (D := X.1) (ci := 5) (v := .ref (hh 0)) (C := RX5) (T := TX5) (N := 5) hx hb hts hiX5 hown hK.1 hP 0 rfl rfl 0 (by decide) k10 (fun _ h9 => h9) rfl dX5_value_8 ?_
    refine lv_iload_n hx hb dX5_value_11 rfl (lv_at hl 1 rfl) ?_
    obtain ⟨r_4, hc_5, hf⟩ := bd_of hf
    refine fn_V (v := some (.int r_4)) (As := [.int x1]) (rest := []) (st1 := [.int r_4]) (ws' := (wLR X x0 hh ht ch tx y hy rP fP rT fT rG fG rL fL rH fH gi di re ti rPT fPT rTT fTT rGT fGT rLT fLT rHT fHT giT diT reT tiT rS fS rB fB rO fO pl fa cn ro Qh)) (nL := 2) ⟨hx, hb, hml, hown, hts⟩ (c_X2_aboutHouse l X hh rP fP rT fT rG fG rL fL rH fH gi di re ti x1 r_4 hc_5) (cwV 1 hts gX5_value_X2_aboutHouse rfl rfl rfl (by decide +kernel) ⟨Nat.le_of_ble_eq_true rfl, Nat.le_of_ble_eq_true rfl⟩) 2 rfl rfl rfl rfl hl.1 rfl (Nat.le_of_ble_eq_true rfl) dX5_value_12 hK hP (hD0.addr (wLR_fst.trans wLR_fst.symm)) hS hA [1, 2, 3, 4, 5, 6, 7, 8, 9, 10, 11] (by decide +kernel) lC_h (pt_setid _ _ _ lC_h) rfl ⟨Nat.zero_le _, Nat.zero_le _⟩ (fun H locs hP hD hS => ?_)
    cases hf

def f_X5_entry (x1 : Int32) (x2 : Int32) (rL : Int32) (fL : (Nat → Int32)) : Option ((String) ⊕ (Int32)) :=
  if x1 < (0 : Int32) then
  (some (.inl ("java/lang/IndexOutOfBoundsException")))
  else
  (bd (f_X3_rows rL) (fun r_2 =>
  if x1 < r_2 then
  (bx (f_X5_requireRange x2 (0 : Int32) (2 : Int32)) (fun E_7 => some (.inl E_7)) (fun u_6 =>
  bd (f_X2_aboutEntry x1 x2 rL fL) (fun r_8 =>
  some (.inr r_8))))
  else
  (some (.inl ("java/lang/IndexOutOfBoundsException")))))
set_option maxHeartbeats 4000000 in
set_option maxRecDepth 100000 in
theorem c_X5_entry (l : Launch) (X : cx_G) (x0 : Nat) (hh : (Nat → Nat)) (ht : (Nat → Nat)) (ch : (Nat → Nat)) (tx : (Nat → Nat)) (y : (Nat → Nat)) (hy : (Nat → Nat → Nat)) (rP : Int32) (fP : (Nat → Int32)) (rT : Int32) (fT : (Nat → Int32)) (rG : Int32) (fG : (Nat → Int32)) (rL : Int32) (fL : (Nat → Int32)) (rH : Int32) (fH : (Nat → Int32)) (gi : Int32) (di : Int32) (re : Int32) (ti : Int32) (rPT : Int32) (fPT : (Nat → Int32)) (rTT : Int32) (fTT : (Nat → Int32)) (rGT : Int32) (fGT : (Nat → Int32)) (rLT : Int32) (fLT : (Nat → Int32)) (rHT : Int32) (fHT : (Nat → Int32)) (giT : Int32) (diT : Int32) (reT : Int32) (tiT : Int32) (rS : Int32) (fS : (Nat → Int32)) (rB : Int32) (fB : (Nat → Int32)) (rO : Int32) (fO : (Nat → Int32)) (pl : Int32) (fa : Int32) (cn : Int32) (ro : Nat) (Qh : (Nat → HS)) (x1 : Int32) (x2 : Int32) (r : Int32) (hf : f_X5_entry x1 x2 rL fL = some (.inr r)) : Fn l yX5_entry wsX5_entry ({ frames := 2, cells := 0, slots := 0, locals := 46 } : Room) X [.ref (x0), .int x1, .int x2] (wLR X x0 hh ht ch tx y hy rP fP rT fT rG fG rL fL rH fH gi di re ti rPT fPT rTT fTT rGT fGT rLT fLT rHT fHT giT diT reT tiT rS fS rB fB rO fO pl fa cn ro Qh) (some (.int r)) (wLR X x0 hh ht ch tx y hy rP fP rT fT rG fG rL fL rH fH gi di re ti rPT fPT rTT fTT rGT fGT rLT fLT rHT fHT giT diT reT tiT rS fS rB fB rO fO pl fa cn ro Qh) := by
  refine fn_intro (cc := cX5_entry) (maxL := 3) (ret := (some .int)) (by decide) rfl rfl (Nat.le_of_ble_eq_true rfl) ?_
  intro p e s m args below meth c A ls hx hb hml hr hts hown hlocks hK hP hD0 hS hA hl
  have hown : s.vm.findClass RX5 = some m.cls := hown
  have hl : lv_has ls 3 [(0, .ref (x0)), (1, .int x1), (2, .int x2)] := hl
  have hiX2 : ∀ w ∈ u_ws RX2 TX2 9, w ∈ wsX5_entry := by decide +kernel
  have hiX5 : ∀ w ∈ u_ws RX5 TX5 5, w ∈ wsX5_entry := by decide +kernel
  have k10 := hts (.fieldLink RX5 10 "LentRights" "house" "LLentRights$House;") (by decide +kernel)
  have k162 := hts (.fieldLink RX5 162 "LentRights$House" "log" "LLentRights$Table;") (by decide +kernel)
  unfold f_X5_entry at hf
  refine lv_iload_n hx hb dX5_entry_0 rfl (lv_at hl 1 rfl) ?_
  refine lv_if_lt (tgt := 18) hx hb dX5_entry_1 (by decide) (fun c_1 => ?_) (fun c_1 => ?_)
  · replace hf := fp_t c_1 hf
    cases hf
  · replace hf := fp_f c_1 hf
    refine lv_iload_n hx hb dX5_entry_4 rfl (lv_at hl 1 rfl) ?_
    refine lv_aload_n hx hb dX5_entry_5 rfl (lv_at hl 0 rfl) ?_
    refine va_get (D := X.1) (ci := 5) (v := .ref (hh 0)) (C := RX5) (T := TX5) (N := 5) hx hb hts hiX5 hown hK.1 hP 0 rfl rfl 0 (by decide) k10 (fun _ h9 => h9) rfl dX5_entry_6 ?_
    refine va_get (D := X.1) (ci := 2) (v := .ref (hh 7)) (C := RX2) (T := TX2) (N := 9) hx hb hts hiX2 hown hK.1 hP 1 rfl rfl 3 (by decide) k162 (fun _ h9 => h9) rfl dX5_entry_9 ?_
    obtain ⟨r_2, hc_3, hf⟩ := bd_of hf
    refine fn_V (v := some (.int r_2)) (As := []) (rest := [.int x1]) (st1 := [.int r_2, .int x1]) (ws' := (wLR X x0 hh ht ch tx y hy rP fP rT fT rG fG rL fL rH fH gi di re ti rPT fPT rTT fTT rGT fGT rLT fLT rHT fHT giT diT reT tiT rS fS rB fB rO fO pl fa cn ro Qh)) (nL := 3) ⟨hx, hb, hml, hown, hts⟩ (c_X3_rows l X (hh 7) (hh 8) (12 : Int32) (3 : Int32) 36 rL fL r_2 hc_3) (cwV 0 hts gX5_entry_X3_rows rfl rfl rfl (by decide +kernel) ⟨Nat.le_of_ble_eq_true rfl, Nat.le_of_ble_eq_true rfl⟩) 3 rfl rfl rfl rfl hl.1 rfl (Nat.le_of_ble_eq_true rfl) dX5_entry_12 hK hP (hD0.addr (wLR_fst.trans wLR_fst.symm)) hS hA [8, 9] (by decide +kernel) rfl (pt_setid _ _ _ rfl) rfl ⟨Nat.zero_le _, Nat.zero_le _⟩ (fun H locs hP hD hS => ?_)
    refine lv_icmp_lt (tgt := 28) hx hb dX5_entry_15 (by decide) (fun c_4 => ?_) (fun c_4 => ?_)
    · replace hf := fp_t c_4 hf
      refine lv_iload_n hx hb dX5_entry_28 rfl (lv_at hl 2 rfl) ?_
      refine lv_iconst (v := 0) hx hb dX5_entry_29 (by decide) ?_
      refine lv_iconst (v := 2) hx hb dX5_entry_30 (by decide) ?_
      rcases bx_of hf with ⟨E_7, hc_5, hf⟩ | ⟨u_6, hc_5, hf⟩
      · cases hf
      · refine fn_Sx (v := none) (As := [.int x2, .int (0 : Int32), .int (2 : Int32)]) (rest := []) (st1 := []) (ws' := (wLR X x0 hh ht ch tx y hy rP fP rT fT rG fG rL fL rH fH gi di re ti rPT fPT rTT fTT rGT fGT rLT fLT rHT fHT giT diT reT tiT rS fS rB fB rO fO pl fa cn ro Qh)) (nL := 3) ⟨hx, hb, hml, hown, hts⟩ (c_X5_requireRange l X x2 (0 : Int32) (2 : Int32) hc_5) (va_cwS 3 hts gX5_entry_X5_requireRange rfl rfl rfl (by decide +kernel) ⟨Nat.le_of_ble_eq_true rfl, Nat.le_of_ble_eq_true rfl⟩) rfl hl.1 rfl (Nat.le_of_ble_eq_true rfl) dX5_entry_31 hK hP (hD0.addr (wLR_fst.trans wLR_fst.symm)) hS hA [] (by decide +kernel) rfl (pt_setid _ _ _ rfl) rfl ⟨Nat.zero_le _, Nat.zero_le _⟩ (fun H locs hP hD hS => ?_)
        refine lv_aload_n hx hb dX5_entry_34 rfl (lv_at hl 0 rfl) ?_
        refine va_get (D := X.1) (ci := 5) (v := .ref (hh 0)) (C := RX5) (T := TX5) (N := 5) hx hb hts hiX5 hown hK.1 hP 0 rfl rfl 0 (by decide) k10 (fun _ h9 => h9) rfl dX5_entry_35 ?_
        refine lv_iload_n hx hb dX5_entry_38 rfl (lv_at hl 1 rfl) ?_
        refine lv_iload_n hx hb dX5_entry_39 rfl (lv_at hl 2 rfl) ?_
        obtain ⟨r_8, hc_9, hf⟩ := bd_of hf
        refine fn_V (v := some (.int r_8)) (As := [.int x1, .int x2]) (rest := []) (st1 := [.int r_8]) (ws' := (wLR X x0 hh ht ch tx y hy rP fP rT fT rG fG rL fL rH fH gi di re ti rPT fPT rTT fTT rGT fGT rLT fLT rHT fHT giT diT reT tiT rS fS rB fB rO fO pl fa cn ro Qh)) (nL := 3) ⟨hx, hb, hml, hown, hts⟩ (c_X2_aboutEntry l X hh rP fP rT fT rG fG rL fL rH fH gi di re ti x1 x2 r_8 hc_9) (cwV 2 hts gX5_entry_X2_aboutEntry rfl rfl rfl (by decide +kernel) ⟨Nat.le_of_ble_eq_true rfl, Nat.le_of_ble_eq_true rfl⟩) 2 rfl rfl rfl rfl hl.1 rfl (Nat.le_of_ble_eq_true rfl) dX5_entry_40 hK hP (hD0.addr (wLR_fst.trans wLR_fst.symm)) hS hA [1, 2, 3, 4, 5, 6, 7, 8, 9, 10, 11] (by decide +kernel) lC_h (pt_setid _ _ _ lC_h) rfl ⟨Nat.zero_le _, Nat.zero_le _⟩ (fun H locs hP hD hS => ?_)
        cases hf
        exact fn_iret hx hb hr hlocks hP hS dX5_entry_43
    · replace hf := fp_f c_4 hf
      cases hf
set_option maxHeartbeats 4000000 in
set_option maxRecDepth 100000 in
theorem c_X5_entry_x (l : Launch) (hfl : l.stackTraces = false) (X : cx_G) (x0 : Nat) (hh : (Nat → Nat)) (ht : (Nat → Nat)) (ch : (Nat → Nat)) (tx : (Nat → Nat)) (y : (Nat → Nat)) (hy : (Nat → Nat → Nat)) (rP : Int32) (fP : (Nat → Int32)) (rT : Int32) (fT : (Nat → Int32)) (rG : Int32) (fG : (Nat → Int32)) (rL : Int32) (fL : (Nat → Int32)) (rH : Int32) (fH : (Nat → Int32)) (gi : Int32) (di : Int32) (re : Int32) (ti : Int32) (rPT : Int32) (fPT : (Nat → Int32)) (rTT : Int32) (fTT : (Nat → Int32)) (rGT : Int32) (fGT : (Nat → Int32)) (rLT : Int32) (fLT : (Nat → Int32)) (rHT : Int32) (fHT : (Nat → Int32)) (giT : Int32) (diT : Int32) (reT : Int32) (tiT : Int32) (rS : Int32) (fS : (Nat → Int32)) (rB : Int32) (fB : (Nat → Int32)) (rO : Int32) (fO : (Nat → Int32)) (pl : Int32) (fa : Int32) (cn : Int32) (ro : Nat) (Qh : (Nat → HS)) (x1 : Int32) (x2 : Int32) (E : String) (hf : f_X5_entry x1 x2 rL fL = some (.inl E)) : Tx l yX5_entry wsX5_entry ({ frames := 7, cells := 1, slots := 6, locals := 112 } : Room) X [.ref (x0), .int x1, .int x2] (wLR X x0 hh ht ch tx y hy rP fP rT fT rG fG rL fL rH fH gi di re ti rPT fPT rTT fTT rGT fGT rLT fLT rHT fHT giT diT reT tiT rS fS rB fB rO fO pl fa cn ro Qh) E (wLR X x0 hh ht ch tx y hy rP fP rT fT rG fG rL fL rH fH gi di re ti rPT fPT rTT fTT rGT fGT rLT fLT rHT fHT giT diT reT tiT rS fS rB fB rO fO pl fa cn ro Qh) := by
  refine tx_intro (cc := cX5_entry) (maxL := 3) (ret := (some .int)) (by decide) rfl rfl (Nat.le_of_ble_eq_true rfl) ?_
  intro p e s m args below meth c A ls hx hb hml hr hts hown hlocks hne hK hP hD0 hS hA hTS hTZ hl
  have hown : s.vm.findClass RX5 = some m.cls := hown
  have hl : lv_has ls 3 [(0, .ref (x0)), (1, .int x1), (2, .int x2)] := hl
  have hiX2 : ∀ w ∈ u_ws RX2 TX2 9, w ∈ wsX5_entry := by decide +kernel
  have hiX5 : ∀ w ∈ u_ws RX5 TX5 5, w ∈ wsX5_entry := by decide +kernel
  have k10 := hts (.fieldLink RX5 10 "LentRights" "house" "LLentRights$House;") (by decide +kernel)
  have k162 := hts (.fieldLink RX5 162 "LentRights$House" "log" "LLentRights$Table;") (by decide +kernel)
  unfold f_X5_entry at hf
  refine lv_iload_n hx hb dX5_entry_0 rfl (lv_at hl 1 rfl) ?_
  refine lv_if_lt (tgt := 18) hx hb dX5_entry_1 (by decide) (fun c_1 => ?_) (fun c_1 => ?_)
  · replace hf := fp_t c_1 hf
    cases hf
    exact tx_throw (is := 169) hx hb hfl hown (by decide +kernel) hne (hml.trans hl.1.symm) hlocks (hts (.classLink RX5 142 "java/lang/IndexOutOfBoundsException") (by decide +kernel)) (hts (.initialized "java/lang/IndexOutOfBoundsException") (by decide +kernel)) hTS.1.2.2.2.2.2.1 hTS tk_IOB (fun w hw => hts w (by unfold wsX5_entry; simp only [List.mem_cons, List.mem_append, hw, or_true, true_or])) hTZ hP hS (Nat.le_of_ble_eq_true rfl) (Nat.le_of_ble_eq_true rfl) (Nat.le_of_ble_eq_true rfl) (Nat.le_of_ble_eq_true rfl) dX5_entry_18 dX5_entry_21 dX5_entry_22 dX5_entry_24 dX5_entry_27
  · replace hf := fp_f c_1 hf
    refine lv_iload_n hx hb dX5_entry_4 rfl (lv_at hl 1 rfl) ?_
    refine lv_aload_n hx hb dX5_entry_5 rfl (lv_at hl 0 rfl) ?_
    refine va_get (D := X.1) (ci := 5) (v := .ref (hh 0)) (C := RX5) (T := TX5) (N := 5) hx hb hts hiX5 hown hK.1 hP 0 rfl rfl 0 (by decide) k10 (fun _ h9 => h9) rfl dX5_entry_6 ?_
    refine va_get (D := X.1) (ci := 2) (v := .ref (hh 7)) (C := RX2) (T := TX2) (N := 9) hx hb hts hiX2 hown hK.1 hP 1 rfl rfl 3 (by decide) k162 (fun _ h9 => h9) rfl dX5_entry_9 ?_
    obtain ⟨r_2, hc_3, hf⟩ := bd_of hf
    refine fn_V (v := some (.int r_2)) (As := []) (rest := [.int x1]) (st1 := [.int r_2, .int x1]) (ws' := (wLR X x0 hh ht ch tx y hy rP fP rT fT rG fG rL fL rH fH gi di re ti rPT fPT rTT fTT rGT fGT rLT fLT rHT fHT giT diT reT tiT rS fS rB fB rO fO pl fa cn ro Qh)) (nL := 3) ⟨hx, hb, hml, hown, hts⟩ (c_X3_rows l X (hh 7) (hh 8) (12 : Int32) (3 : Int32) 36 rL fL r_2 hc_3) (cwV 0 hts gX5_entry_X3_rows rfl rfl rfl (by decide +kernel) ⟨Nat.le_of_ble_eq_true rfl, Nat.le_of_ble_eq_true rfl⟩) 3 rfl rfl rfl rfl hl.1 rfl (Nat.le_of_ble_eq_true rfl) dX5_entry_12 hK hP (hD0.addr (wLR_fst.trans wLR_fst.symm)) hS hA [8, 9] (by decide +kernel) rfl (pt_setid _ _ _ rfl) rfl ⟨Nat.zero_le _, Nat.zero_le _⟩ (fun H locs hP hD hS => ?_)
    refine lv_icmp_lt (tgt := 28) hx hb dX5_entry_15 (by decide) (fun c_4 => ?_) (fun c_4 => ?_)
    · replace hf := fp_t c_4 hf
      refine lv_iload_n hx hb dX5_entry_28 rfl (lv_at hl 2 rfl) ?_
      refine lv_iconst (v := 0) hx hb dX5_entry_29 (by decide) ?_
      refine lv_iconst (v := 2) hx hb dX5_entry_30 (by decide) ?_
      rcases bx_of hf with ⟨E_7, hc_5, hf⟩ | ⟨u_6, hc_5, hf⟩
      · cases hf
        exact tx_Sx (As := [.int x2, .int (0 : Int32), .int (2 : Int32)]) (rest := []) (nL := 3) hne hlocks ⟨hx, hb, hml, hown, hts⟩ (c_X5_requireRange_x l hfl X x2 (0 : Int32) (2 : Int32) E hc_5) (va_cwS 3 hts gX5_entry_X5_requireRange rfl rfl rfl (by decide +kernel) ⟨Nat.le_of_ble_eq_true rfl, Nat.le_of_ble_eq_true rfl⟩) rfl hl.1 rfl (Nat.le_of_ble_eq_true rfl) dX5_entry_31 hTS hTZ hK hP (hD0.addr (wLR_fst.trans wLR_fst.symm)) hS hA [] (by decide +kernel) rfl (pt_setid _ _ _ rfl) ⟨Nat.le_of_ble_eq_true rfl, Nat.le_of_ble_eq_true rfl⟩
      · refine fn_Sx (v := none) (As := [.int x2, .int (0 : Int32), .int (2 : Int32)]) (rest := []) (st1 := []) (ws' := (wLR X x0 hh ht ch tx y hy rP fP rT fT rG fG rL fL rH fH gi di re ti rPT fPT rTT fTT rGT fGT rLT fLT rHT fHT giT diT reT tiT rS fS rB fB rO fO pl fa cn ro Qh)) (nL := 3) ⟨hx, hb, hml, hown, hts⟩ (c_X5_requireRange l X x2 (0 : Int32) (2 : Int32) hc_5) (va_cwS 3 hts gX5_entry_X5_requireRange rfl rfl rfl (by decide +kernel) ⟨Nat.le_of_ble_eq_true rfl, Nat.le_of_ble_eq_true rfl⟩) rfl hl.1 rfl (Nat.le_of_ble_eq_true rfl) dX5_entry_31 hK hP (hD0.addr (wLR_fst.trans wLR_fst.symm)) hS hA [] (by decide +kernel) rfl (pt_setid _ _ _ rfl) rfl ⟨Nat.zero_le _, Nat.zero_le _⟩ (fun H locs hP hD hS => ?_)
        refine lv_aload_n hx hb dX5_entry_34 rfl (lv_at hl 0 rfl) ?_
        refine va_get (D := X.1) (ci := 5) (v := .ref (hh 0)) (C := RX5) (T := TX5) (N := 5) hx hb hts hiX5 hown hK.1 hP 0 rfl rfl 0 (by decide) k10 (fun _ h9 => h9) rfl dX5_entry_35 ?_
        refine lv_iload_n hx hb dX5_entry_38 rfl (lv_at hl 1 rfl) ?_
        refine lv_iload_n hx hb dX5_entry_39 rfl (lv_at hl 2 rfl) ?_
        obtain ⟨r_8, hc_9, hf⟩ := bd_of hf
        refine fn_V (v := some (.int r_8)) (As := [.int x1, .int x2]) (rest := []) (st1 := [.int r_8]) (ws' := (wLR X x0 hh ht ch tx y hy rP fP rT fT rG fG rL fL rH fH gi di re ti rPT fPT rTT fTT rGT fGT rLT fLT rHT fHT giT diT reT tiT rS fS rB fB rO fO pl fa cn ro Qh)) (nL := 3) ⟨hx, hb, hml, hown, hts⟩ (c_X2_aboutEntry l X hh rP fP rT fT rG fG rL fL rH fH gi di re ti x1 x2 r_8 hc_9) (cwV 2 hts gX5_entry_X2_aboutEntry rfl rfl rfl (by decide +kernel) ⟨Nat.le_of_ble_eq_true rfl, Nat.le_of_ble_eq_true rfl⟩) 2 rfl rfl rfl rfl hl.1 rfl (Nat.le_of_ble_eq_true rfl) dX5_entry_40 hK hP (hD0.addr (wLR_fst.trans wLR_fst.symm)) hS hA [1, 2, 3, 4, 5, 6, 7, 8, 9, 10, 11] (by decide +kernel) lC_h (pt_setid _ _ _ lC_h) rfl ⟨Nat.zero_le _, Nat.zero_le _⟩ (fun H locs hP hD hS => ?_)
        cases hf
    · replace hf := fp_f c_4 hf
      cases hf
      exact tx_throw (is := 169) hx hb hfl hown (by decide +kernel) hne (hml.trans hl.1.symm) hlocks (hts (.classLink RX5 142 "java/lang/IndexOutOfBoundsException") (by decide +kernel)) (hts (.initialized "java/lang/IndexOutOfBoundsException") (by decide +kernel)) hTS.1.2.2.2.2.2.1 hTS tk_IOB (fun w hw => hts w (by unfold wsX5_entry; simp only [List.mem_cons, List.mem_append, hw, or_true, true_or])) hTZ hP hS (Nat.le_of_ble_eq_true rfl) (Nat.le_of_ble_eq_true rfl) (Nat.le_of_ble_eq_true rfl) (Nat.le_of_ble_eq_true rfl) dX5_entry_18 dX5_entry_21 dX5_entry_22 dX5_entry_24 dX5_entry_27

def f_X5_pairsLostBy (x1 : Int32) (rP : Int32) (fP : (Nat → Int32)) (rT : Int32) (fT : (Nat → Int32)) (rG : Int32) (fG : (Nat → Int32)) (rL : Int32) (fL : (Nat → Int32)) (rH : Int32) (fH : (Nat → Int32)) (gi : Int32) (di : Int32) (re : Int32) (ti : Int32) (rPT : Int32) (fPT : (Nat → Int32)) (rTT : Int32) (fTT : (Nat → Int32)) (rGT : Int32) (fGT : (Nat → Int32)) (rLT : Int32) (fLT : (Nat → Int32)) (rHT : Int32) (fHT : (Nat → Int32)) (giT : Int32) (diT : Int32) (reT : Int32) (tiT : Int32) : Option (Int32 × Int32 × (Nat → Int32) × Int32 × (Nat → Int32) × Int32 × (Nat → Int32) × Int32 × (Nat → Int32) × Int32 × (Nat → Int32) × Int32 × Int32 × Int32 × Int32) :=
  bd14 (f_X2_takeOver rPT fPT rTT fTT rGT fGT rLT fLT rHT fHT giT diT reT tiT rP fP rT fT rG fG rL fL rH fH gi di re ti) (fun rPT_1 fPT_2 rTT_3 fTT_4 rGT_5 fGT_6 rLT_7 fLT_8 rHT_9 fHT_10 giT_11 diT_12 reT_13 tiT_14 =>
  bd8 (f_X2_changeMood x1 (-100 : Int32) rPT_1 fPT_2 rTT_3 fTT_4 rGT_5 fGT_6 rLT_7 fLT_8 rHT_9 fHT_10 diT_12 tiT_14) (fun r_16 fPT_17 rGT_18 fGT_19 rLT_20 fLT_21 fHT_22 diT_23 =>
  bd (f_X2_countPairs rT rH fH) (fun r_25 =>
  bd (f_X2_countPairs rTT_3 rHT_9 fHT_22) (fun r_27 =>
  nm (r_25 - r_27) (fun v_29 =>
  some (v_29, rPT_1, fPT_17, rTT_3, fTT_4, rGT_18, fGT_19, rLT_20, fLT_21, rHT_9, fHT_22, giT_11, diT_23, reT_13, tiT_14))))))
set_option maxHeartbeats 4000000 in
set_option maxRecDepth 100000 in
theorem c_X5_pairsLostBy (l : Launch) (X : cx_G) (x0 : Nat) (hh : (Nat → Nat)) (ht : (Nat → Nat)) (ch : (Nat → Nat)) (tx : (Nat → Nat)) (y : (Nat → Nat)) (hy : (Nat → Nat → Nat)) (rP : Int32) (fP : (Nat → Int32)) (rT : Int32) (fT : (Nat → Int32)) (rG : Int32) (fG : (Nat → Int32)) (rL : Int32) (fL : (Nat → Int32)) (rH : Int32) (fH : (Nat → Int32)) (gi : Int32) (di : Int32) (re : Int32) (ti : Int32) (rPT : Int32) (fPT : (Nat → Int32)) (rTT : Int32) (fTT : (Nat → Int32)) (rGT : Int32) (fGT : (Nat → Int32)) (rLT : Int32) (fLT : (Nat → Int32)) (rHT : Int32) (fHT : (Nat → Int32)) (giT : Int32) (diT : Int32) (reT : Int32) (tiT : Int32) (rS : Int32) (fS : (Nat → Int32)) (rB : Int32) (fB : (Nat → Int32)) (rO : Int32) (fO : (Nat → Int32)) (pl : Int32) (fa : Int32) (cn : Int32) (ro : Nat) (Qh : (Nat → HS)) (x1 : Int32) (r : Int32) (rPT' : Int32) (fPT' : (Nat → Int32)) (rTT' : Int32) (fTT' : (Nat → Int32)) (rGT' : Int32) (fGT' : (Nat → Int32)) (rLT' : Int32) (fLT' : (Nat → Int32)) (rHT' : Int32) (fHT' : (Nat → Int32)) (giT' : Int32) (diT' : Int32) (reT' : Int32) (tiT' : Int32) (hf : f_X5_pairsLostBy x1 rP fP rT fT rG fG rL fL rH fH gi di re ti rPT fPT rTT fTT rGT fGT rLT fLT rHT fHT giT diT reT tiT = some (r, rPT', fPT', rTT', fTT', rGT', fGT', rLT', fLT', rHT', fHT', giT', diT', reT', tiT')) : Fn l yX5_pairsLostBy wsX5_pairsLostBy ({ frames := 4, cells := 0, slots := 0, locals := 98 } : Room) X [.ref (x0), .int x1] (wLR X x0 hh ht ch tx y hy rP fP rT fT rG fG rL fL rH fH gi di re ti rPT fPT rTT fTT rGT fGT rLT fLT rHT fHT giT diT reT tiT rS fS rB fB rO fO pl fa cn ro Qh) (some (.int r)) (wLR X x0 hh ht ch tx y hy rP fP rT fT rG fG rL fL rH fH gi di re ti rPT' fPT' rTT' fTT' rGT' fGT' rLT' fLT' rHT' fHT' giT' diT' reT' tiT' rS fS rB fB rO fO pl fa cn ro Qh) := by
  refine fn_intro (cc := cX5_pairsLostBy) (maxL := 2) (ret := (some .int)) (by decide) rfl (wLR_fst.trans wLR_fst.symm) (Nat.le_of_ble_eq_true rfl) ?_
  intro p e s m args below meth c A ls hx hb hml hr hts hown hlocks hK hP hD0 hS hA hl
  have hown : s.vm.findClass RX5 = some m.cls := hown
  have hl : lv_has ls 2 [(0, .ref (x0)), (1, .int x1)] := hl
  have hiX5 : ∀ w ∈ u_ws RX5 TX5 5, w ∈ wsX5_pairsLostBy := by decide +kernel
  have k10 := hts (.fieldLink RX5 10 "LentRights" "house" "LLentRights$House;") (by decide +kernel)
  have k16 := hts (.fieldLink RX5 16 "LentRights" "trial" "LLentRights$House;") (by decide +kernel)
  unfold f_X5_pairsLostBy at hf
  refine lv_aload_n hx hb dX5_pairsLostBy_0 rfl (lv_at hl 0 rfl) ?_
  refine va_get (D := X.1) (ci := 5) (v := .ref (ht 0)) (C := RX5) (T := TX5) (N := 5) hx hb hts hiX5 hown hK.1 hP 0 rfl rfl 1 (by decide) k16 (fun _ h9 => h9) rfl dX5_pairsLostBy_1 ?_
  refine lv_aload_n hx hb dX5_pairsLostBy_4 rfl (lv_at hl 0 rfl) ?_
  refine va_get (D := X.1) (ci := 5) (v := .ref (hh 0)) (C := RX5) (T := TX5) (N := 5) hx hb hts hiX5 hown hK.1 hP 0 rfl rfl 0 (by decide) k10 (fun _ h9 => h9) rfl dX5_pairsLostBy_5 ?_
  obtain ⟨rPT_1, fPT_2, rTT_3, fTT_4, rGT_5, fGT_6, rLT_7, fLT_8, rHT_9, fHT_10, giT_11, diT_12, reT_13, tiT_14, hc_15, hf⟩ := bd14_of hf
  refine fn_VJ (v := none) (As := [.ref (hh 0)]) (rest := []) (st1 := []) (ws' := (wLR X x0 hh ht ch tx y hy rP fP rT fT rG fG rL fL rH fH gi di re ti rPT_1 fPT_2 rTT_3 fTT_4 rGT_5 fGT_6 rLT_7 fLT_8 rHT_9 fHT_10 giT_11 diT_12 reT_13 tiT_14 rS fS rB fB rO fO pl fa cn ro Qh)) (nL := 2) ⟨hx, hb, hml, hown, hts⟩ (c_X2_takeOver l X ht hh rPT fPT rTT fTT rGT fGT rLT fLT rHT fHT giT diT reT tiT rP fP rT fT rG fG rL fL rH fH gi di re ti rPT_1 fPT_2 rTT_3 fTT_4 rGT_5 fGT_6 rLT_7 fLT_8 rHT_9 fHT_10 giT_11 diT_12 reT_13 tiT_14 hc_15) (cwV 1 hts gX5_pairsLostBy_X2_takeOver rfl rfl rfl (by decide +kernel) ⟨Nat.le_of_ble_eq_true rfl, Nat.le_of_ble_eq_true rfl⟩) 2 rfl rfl rfl rfl hl.1 rfl (Nat.le_of_ble_eq_true rfl) dX5_pairsLostBy_8 hK hP (hD0.addr (wLR_fst.trans wLR_fst.symm)) hS hA [12, 13, 14, 15, 16, 17, 18, 19, 20, 21, 22, 1, 2, 3, 4, 5, 6, 7, 8, 9, 10, 11] (by decide +kernel) lC_th lJ_th (wLR_fst.trans wLR_fst.symm) rfl ⟨Nat.zero_le _, Nat.zero_le _⟩ (fun H locs hP hD hS => ?_)
  refine lv_aload_n hx hb dX5_pairsLostBy_11 rfl (lv_at hl 0 rfl) ?_
  refine va_get (D := X.1) (ci := 5) (v := .ref (ht 0)) (C := RX5) (T := TX5) (N := 5) hx hb hts hiX5 hown hK.1 hP 0 rfl rfl 1 (by decide) k16 (fun _ h9 => h9) rfl dX5_pairsLostBy_12 ?_
  refine lv_iload_n hx hb dX5_pairsLostBy_15 rfl (lv_at hl 1 rfl) ?_
  refine lv_bipush (v := -100) hx hb dX5_pairsLostBy_16 (by decide) ?_
  obtain ⟨r_16, fPT_17, rGT_18, fGT_19, rLT_20, fLT_21, fHT_22, diT_23, hc_24, hf⟩ := bd8_of hf
  refine fn_VJ (v := some (.int r_16)) (As := [.int x1, .int (-100 : Int32)]) (rest := []) (st1 := [.int r_16]) (ws' := (wLR X x0 hh ht ch tx y hy rP fP rT fT rG fG rL fL rH fH gi di re ti rPT_1 fPT_17 rTT_3 fTT_4 rGT_18 fGT_19 rLT_20 fLT_21 rHT_9 fHT_22 giT_11 diT_23 reT_13 tiT_14 rS fS rB fB rO fO pl fa cn ro Qh)) (nL := 2) ⟨hx, hb, hml, hown, hts⟩ (c_X2_changeMood l X ht rPT_1 fPT_2 rTT_3 fTT_4 rGT_5 fGT_6 rLT_7 fLT_8 rHT_9 fHT_10 giT_11 diT_12 reT_13 tiT_14 x1 (-100 : Int32) r_16 fPT_17 rGT_18 fGT_19 rLT_20 fLT_21 fHT_22 diT_23 hc_24) (cwV 2 hts gX5_pairsLostBy_X2_changeMood rfl rfl rfl (by decide +kernel) ⟨Nat.le_of_ble_eq_true rfl, Nat.le_of_ble_eq_true rfl⟩) 2 rfl rfl rfl rfl hl.1 rfl (Nat.le_of_ble_eq_true rfl) dX5_pairsLostBy_18 hK hP (hD0.addr (wLR_fst.trans wLR_fst.symm)) hS hA [12, 13, 14, 15, 16, 17, 18, 19, 20, 21, 22] (by decide +kernel) lC_t lJ_t (wLR_fst.trans wLR_fst.symm) rfl ⟨Nat.zero_le _, Nat.zero_le _⟩ (fun H locs hP hD hS => ?_)
  refine lv_pop hx hb dX5_pairsLostBy_21 rfl ?_
  refine lv_aload_n hx hb dX5_pairsLostBy_22 rfl (lv_at hl 0 rfl) ?_
  refine va_get (D := X.1) (ci := 5) (v := .ref (hh 0)) (C := RX5) (T := TX5) (N := 5) hx hb hts hiX5 hown hK.1 hP 0 rfl rfl 0 (by decide) k10 (fun _ h9 => h9) rfl dX5_pairsLostBy_23 ?_
  obtain ⟨r_25, hc_26, hf⟩ := bd_of hf
  refine fn_V (v := some (.int r_25)) (As := []) (rest := []) (st1 := [.int r_25]) (ws' := (wLR X x0 hh ht ch tx y hy rP fP rT fT rG fG rL fL rH fH gi di re ti rPT_1 fPT_17 rTT_3 fTT_4 rGT_18 fGT_19 rLT_20 fLT_21 rHT_9 fHT_22 giT_11 diT_23 reT_13 tiT_14 rS fS rB fB rO fO pl fa cn ro Qh)) (nL := 2) ⟨hx, hb, hml, hown, hts⟩ (c_X2_countPairs l X hh rP fP rT fT rG fG rL fL rH fH gi di re ti r_25 hc_26) (cwV 0 hts gX5_pairsLostBy_X2_countPairs rfl rfl rfl (by decide +kernel) ⟨Nat.le_of_ble_eq_true rfl, Nat.le_of_ble_eq_true rfl⟩) 2 rfl rfl rfl rfl hl.1 rfl (Nat.le_of_ble_eq_true rfl) dX5_pairsLostBy_26 hK hP (hD0.addr (wLR_fst.trans wLR_fst.symm)) hS hA [1, 2, 3, 4, 5, 6, 7, 8, 9, 10, 11] (by decide +kernel) lC_h (pt_setid _ _ _ lC_h) rfl ⟨Nat.zero_le _, Nat.zero_le _⟩ (fun H locs hP hD hS => ?_)
  refine lv_aload_n hx hb dX5_pairsLostBy_29 rfl (lv_at hl 0 rfl) ?_
  refine va_get (D := X.1) (ci := 5) (v := .ref (ht 0)) (C := RX5) (T := TX5) (N := 5) hx hb hts hiX5 hown hK.1 hP 0 rfl rfl 1 (by decide) k16 (fun _ h9 => h9) rfl dX5_pairsLostBy_30 ?_
  obtain ⟨r_27, hc_28, hf⟩ := bd_of hf
  refine fn_V (v := some (.int r_27)) (As := []) (rest := [.int r_25]) (st1 := [.int r_27, .int r_25]) (ws' := (wLR X x0 hh ht ch tx y hy rP fP rT fT rG fG rL fL rH fH gi di re ti rPT_1 fPT_17 rTT_3 fTT_4 rGT_18 fGT_19 rLT_20 fLT_21 rHT_9 fHT_22 giT_11 diT_23 reT_13 tiT_14 rS fS rB fB rO fO pl fa cn ro Qh)) (nL := 2) ⟨hx, hb, hml, hown, hts⟩ (c_X2_countPairs l X ht rPT_1 fPT_17 rTT_3 fTT_4 rGT_18 fGT_19 rLT_20 fLT_21 rHT_9 fHT_22 giT_11 diT_23 reT_13 tiT_14 r_27 hc_28) (cwV 0 hts gX5_pairsLostBy_X2_countPairs rfl rfl rfl (by decide +kernel) ⟨Nat.le_of_ble_eq_true rfl, Nat.le_of_ble_eq_true rfl⟩) 2 rfl rfl rfl rfl hl.1 rfl (Nat.le_of_ble_eq_true rfl) dX5_pairsLostBy_33 hK hP (hD0.addr (wLR_fst.trans wLR_fst.symm)) hS hA [12, 13, 14, 15, 16, 17, 18, 19, 20, 21, 22] (by decide +kernel) lC_t (pt_setid _ _ _ lC_t) rfl ⟨Nat.zero_le _, Nat.zero_le _⟩ (fun H locs hP hD hS => ?_)
  refine lv_isub hx hb dX5_pairsLostBy_36 ?_
  refine lv_topi (fun v_29 ev_29 => ?_)
  replace hf := nm_of ev_29 hf
  cases hf
  exact fn_iret hx hb hr hlocks hP hS dX5_pairsLostBy_37
