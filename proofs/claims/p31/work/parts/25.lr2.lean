def f_X5_addThing (x1 : Int32) (x2 : Int32) (rP : Int32) (fP : (Nat → Int32)) (rT : Int32) (fT : (Nat → Int32)) (rG : Int32) (fG : (Nat → Int32)) (rL : Int32) (fL : (Nat → Int32)) (rH : Int32) (fH : (Nat → Int32)) (gi : Int32) (di : Int32) (re : Int32) (ti : Int32) (cn : Int32) (ro : Nat) (Qh : (Nat → HS)) : Option ((String × Int32 × (Nat → Int32) × Int32 × (Nat → Int32) × Int32 × Nat × (Nat → HS)) ⊕ (Int32 × Int32 × (Nat → Int32) × Int32 × (Nat → Int32) × Int32 × Nat × (Nat → HS))) :=
  bx (f_X5_requirePerson x1) (fun E_3 => some (.inl (E_3, rT, fT, rH, fH, cn, ro, Qh))) (fun u_2 =>
  bx (f_X5_requireMask x2) (fun E_6 => some (.inl (E_6, rT, fT, rH, fH, cn, ro, Qh))) (fun u_5 =>
  bd (f_X3_isFull (8 : Int32) rT) (fun r_7 =>
  if r_7 = (0 : Int32) then
  (bd3 (f_X1_keep cn ro Qh rP fP rT fT rG fG rL fL rH fH gi di re ti) (fun cn_10 ro_11 Qh_12 =>
  bd5 (f_X2_takeIn x1 x2 rT fT rG fG rH fH) (fun r_14 rT_15 fT_16 rH_17 fH_18 =>
  some (.inr (r_14, rT_15, fT_16, rH_17, fH_18, cn_10, ro_11, Qh_12)))))
  else
  (some (.inl ("java/lang/IllegalStateException", rT, fT, rH, fH, cn, ro, Qh))))))
set_option maxHeartbeats 4000000 in
set_option maxRecDepth 100000 in
theorem c_X5_addThing (l : Launch) (X : cx_G) (x0 : Nat) (hh : (Nat → Nat)) (ht : (Nat → Nat)) (ch : (Nat → Nat)) (tx : (Nat → Nat)) (y : (Nat → Nat)) (hy : (Nat → Nat → Nat)) (rP : Int32) (fP : (Nat → Int32)) (rT : Int32) (fT : (Nat → Int32)) (rG : Int32) (fG : (Nat → Int32)) (rL : Int32) (fL : (Nat → Int32)) (rH : Int32) (fH : (Nat → Int32)) (gi : Int32) (di : Int32) (re : Int32) (ti : Int32) (rPT : Int32) (fPT : (Nat → Int32)) (rTT : Int32) (fTT : (Nat → Int32)) (rGT : Int32) (fGT : (Nat → Int32)) (rLT : Int32) (fLT : (Nat → Int32)) (rHT : Int32) (fHT : (Nat → Int32)) (giT : Int32) (diT : Int32) (reT : Int32) (tiT : Int32) (rS : Int32) (fS : (Nat → Int32)) (rB : Int32) (fB : (Nat → Int32)) (rO : Int32) (fO : (Nat → Int32)) (pl : Int32) (fa : Int32) (cn : Int32) (ro : Nat) (Qh : (Nat → HS)) (x1 : Int32) (x2 : Int32) (r : Int32) (rT' : Int32) (fT' : (Nat → Int32)) (rH' : Int32) (fH' : (Nat → Int32)) (cn' : Int32) (ro' : Nat) (Qh' : (Nat → HS)) (hf : f_X5_addThing x1 x2 rP fP rT fT rG fG rL fL rH fH gi di re ti cn ro Qh = some (.inr (r, rT', fT', rH', fH', cn', ro', Qh'))) : Fn l yX5_addThing wsX5_addThing ({ frames := 4, cells := 0, slots := 0, locals := 97 } : Room) X [.ref (x0), .int x1, .int x2] (wLR X x0 hh ht ch tx y hy rP fP rT fT rG fG rL fL rH fH gi di re ti rPT fPT rTT fTT rGT fGT rLT fLT rHT fHT giT diT reT tiT rS fS rB fB rO fO pl fa cn ro Qh) (some (.int r)) (wLR X x0 hh ht ch tx y hy rP fP rT' fT' rG fG rL fL rH' fH' gi di re ti rPT fPT rTT fTT rGT fGT rLT fLT rHT fHT giT diT reT tiT rS fS rB fB rO fO pl fa cn' ro' Qh') := by
  refine fn_intro (cc := cX5_addThing) (maxL := 3) (ret := (some .int)) (by decide) rfl (wLR_fst.trans wLR_fst.symm) (Nat.le_of_ble_eq_true rfl) ?_
  intro p e s m args below meth c A ls hx hb hml hr hts hown hlocks hK hP hD0 hS hA hl
  have hown : s.vm.findClass RX5 = some m.cls := hown
  have hl : lv_has ls 3 [(0, .ref (x0)), (1, .int x1), (2, .int x2)] := hl
  have hiX2 : ∀ w ∈ u_ws RX2 TX2 9, w ∈ wsX5_addThing := by decide +kernel
  have hiX5 : ∀ w ∈ u_ws RX5 TX5 5, w ∈ wsX5_addThing := by decide +kernel
  have k10 := hts (.fieldLink RX5 10 "LentRights" "house" "LLentRights$House;") (by decide +kernel)
  have k22 := hts (.fieldLink RX5 22 "LentRights" "history" "LLentRights$History;") (by decide +kernel)
  have k47 := hts (.fieldLink RX5 47 "LentRights$House" "things" "LLentRights$Table;") (by decide +kernel)
  unfold f_X5_addThing at hf
  refine lv_iload_n hx hb dX5_addThing_0 rfl (lv_at hl 1 rfl) ?_
  rcases bx_of hf with ⟨E_3, hc_1, hf⟩ | ⟨u_2, hc_1, hf⟩
  · cases hf
  · refine fn_Sx (v := none) (As := [.int x1]) (rest := []) (st1 := []) (ws' := (wLR X x0 hh ht ch tx y hy rP fP rT fT rG fG rL fL rH fH gi di re ti rPT fPT rTT fTT rGT fGT rLT fLT rHT fHT giT diT reT tiT rS fS rB fB rO fO pl fa cn ro Qh)) (nL := 3) ⟨hx, hb, hml, hown, hts⟩ (c_X5_requirePerson l X x1 hc_1) (va_cwS 1 hts gX5_addThing_X5_requirePerson rfl rfl rfl (by decide +kernel) ⟨Nat.le_of_ble_eq_true rfl, Nat.le_of_ble_eq_true rfl⟩) rfl hl.1 rfl (Nat.le_of_ble_eq_true rfl) dX5_addThing_1 hK hP (hD0.addr (wLR_fst.trans wLR_fst.symm)) hS hA [] (by decide +kernel) rfl (pt_setid _ _ _ rfl) rfl ⟨Nat.zero_le _, Nat.zero_le _⟩ (fun H locs hP hD hS => ?_)
    refine lv_iload_n hx hb dX5_addThing_4 rfl (lv_at hl 2 rfl) ?_
    rcases bx_of hf with ⟨E_6, hc_4, hf⟩ | ⟨u_5, hc_4, hf⟩
    · cases hf
    · refine fn_Sx (v := none) (As := [.int x2]) (rest := []) (st1 := []) (ws' := (wLR X x0 hh ht ch tx y hy rP fP rT fT rG fG rL fL rH fH gi di re ti rPT fPT rTT fTT rGT fGT rLT fLT rHT fHT giT diT reT tiT rS fS rB fB rO fO pl fa cn ro Qh)) (nL := 3) ⟨hx, hb, hml, hown, hts⟩ (c_X5_requireMask l X x2 hc_4) (va_cwS 1 hts gX5_addThing_X5_requireMask rfl rfl rfl (by decide +kernel) ⟨Nat.le_of_ble_eq_true rfl, Nat.le_of_ble_eq_true rfl⟩) rfl hl.1 rfl (Nat.le_of_ble_eq_true rfl) dX5_addThing_5 hK hP (hD0.addr (wLR_fst.trans wLR_fst.symm)) hS hA [] (by decide +kernel) rfl (pt_setid _ _ _ rfl) rfl ⟨Nat.zero_le _, Nat.zero_le _⟩ (fun H locs hP hD hS => ?_)
      refine lv_aload_n hx hb dX5_addThing_8 rfl (lv_at hl 0 rfl) ?_
      refine va_get (D := X.1) (ci := 5) (v := .ref (hh 0)) (C := RX5) (T := TX5) (N := 5) hx hb hts hiX5 hown hK.1 hP 0 rfl rfl 0 (by decide) k10 (fun _ h9 => h9) rfl dX5_addThing_9 ?_
      refine va_get (D := X.1) (ci := 2) (v := .ref (hh 3)) (C := RX2) (T := TX2) (N := 9) hx hb hts hiX2 hown hK.1 hP 1 rfl rfl 1 (by decide) k47 (fun _ h9 => h9) rfl dX5_addThing_12 ?_
      obtain ⟨r_7, hc_8, hf⟩ := bd_of hf
      refine fn_V (v := some (.int r_7)) (As := []) (rest := []) (st1 := [.int r_7]) (ws' := (wLR X x0 hh ht ch tx y hy rP fP rT fT rG fG rL fL rH fH gi di re ti rPT fPT rTT fTT rGT fGT rLT fLT rHT fHT giT diT reT tiT rS fS rB fB rO fO pl fa cn ro Qh)) (nL := 3) ⟨hx, hb, hml, hown, hts⟩ (c_X3_isFull l X (hh 3) (hh 4) (8 : Int32) (2 : Int32) 16 rT fT r_7 hc_8) (cwV 0 hts gX5_addThing_X3_isFull rfl rfl rfl (by decide +kernel) ⟨Nat.le_of_ble_eq_true rfl, Nat.le_of_ble_eq_true rfl⟩) 3 rfl rfl rfl rfl hl.1 rfl (Nat.le_of_ble_eq_true rfl) dX5_addThing_15 hK hP (hD0.addr (wLR_fst.trans wLR_fst.symm)) hS hA [4, 5] (by decide +kernel) rfl (pt_setid _ _ _ rfl) rfl ⟨Nat.zero_le _, Nat.zero_le _⟩ (fun H locs hP hD hS => ?_)
      refine lv_if_eq (tgt := 31) hx hb dX5_addThing_18 (by decide) (fun c_9 => ?_) (fun c_9 => ?_)
      · replace hf := fp_t c_9 hf
        refine lv_aload_n hx hb dX5_addThing_31 rfl (lv_at hl 0 rfl) ?_
        refine va_get (D := X.1) (ci := 5) (v := .ref (y 0)) (C := RX5) (T := TX5) (N := 5) hx hb hts hiX5 hown hK.1 hP 0 rfl rfl 2 (by decide) k22 (fun _ h9 => h9) rfl dX5_addThing_32 ?_
        refine lv_aload_n hx hb dX5_addThing_35 rfl (lv_at hl 0 rfl) ?_
        refine va_get (D := X.1) (ci := 5) (v := .ref (hh 0)) (C := RX5) (T := TX5) (N := 5) hx hb hts hiX5 hown hK.1 hP 0 rfl rfl 0 (by decide) k10 (fun _ h9 => h9) rfl dX5_addThing_36 ?_
        obtain ⟨cn_10, ro_11, Qh_12, hc_13, hf⟩ := bd3_of hf
        refine fn_VJ (v := none) (As := [.ref (hh 0)]) (rest := []) (st1 := []) (ws' := (wLR X x0 hh ht ch tx y hy rP fP rT fT rG fG rL fL rH fH gi di re ti rPT fPT rTT fTT rGT fGT rLT fLT rHT fHT giT diT reT tiT rS fS rB fB rO fO pl fa cn_10 ro_11 Qh_12)) (nL := 3) ⟨hx, hb, hml, hown, hts⟩ (c_X1_keep l X y hy hh cn ro Qh rP fP rT fT rG fG rL fL rH fH gi di re ti cn_10 ro_11 Qh_12 hc_13) (cwV 1 hts gX5_addThing_X1_keep rfl rfl rfl (by decide +kernel) ⟨Nat.le_of_ble_eq_true rfl, Nat.le_of_ble_eq_true rfl⟩) 1 rfl rfl rfl rfl hl.1 rfl (Nat.le_of_ble_eq_true rfl) dX5_addThing_39 hK hP (hD0.addr (wLR_fst.trans wLR_fst.symm)) hS hA [31, 32, 33, 34, 35, 36, 37, 38, 39, 40, 41, 42, 43, 44, 45, 46, 47, 48, 49, 50, 51, 52, 53, 54, 55, 56, 57, 58, 59, 60, 61, 62, 63, 64, 65, 66, 67, 68, 69, 70, 71, 72, 73, 74, 75, 76, 1, 2, 3, 4, 5, 6, 7, 8, 9, 10, 11] (by decide +kernel) lC_ih lJ_ih (wLR_fst.trans wLR_fst.symm) rfl ⟨Nat.zero_le _, Nat.zero_le _⟩ (fun H locs hP hD hS => ?_)
        refine lv_aload_n hx hb dX5_addThing_42 rfl (lv_at hl 0 rfl) ?_
        refine va_get (D := X.1) (ci := 5) (v := .ref (hh 0)) (C := RX5) (T := TX5) (N := 5) hx hb hts hiX5 hown hK.1 hP 0 rfl rfl 0 (by decide) k10 (fun _ h9 => h9) rfl dX5_addThing_43 ?_
        refine lv_iload_n hx hb dX5_addThing_46 rfl (lv_at hl 1 rfl) ?_
        refine lv_iload_n hx hb dX5_addThing_47 rfl (lv_at hl 2 rfl) ?_
        obtain ⟨r_14, rT_15, fT_16, rH_17, fH_18, hc_19, hf⟩ := bd5_of hf
        refine fn_VJ (v := some (.int r_14)) (As := [.int x1, .int x2]) (rest := []) (st1 := [.int r_14]) (ws' := (wLR X x0 hh ht ch tx y hy rP fP rT_15 fT_16 rG fG rL fL rH_17 fH_18 gi di re ti rPT fPT rTT fTT rGT fGT rLT fLT rHT fHT giT diT reT tiT rS fS rB fB rO fO pl fa cn_10 ro_11 Qh_12)) (nL := 3) ⟨hx, hb, hml, hown, hts⟩ (c_X2_takeIn l X hh rP fP rT fT rG fG rL fL rH fH gi di re ti x1 x2 r_14 rT_15 fT_16 rH_17 fH_18 hc_19) (cwV 2 hts gX5_addThing_X2_takeIn rfl rfl rfl (by decide +kernel) ⟨Nat.le_of_ble_eq_true rfl, Nat.le_of_ble_eq_true rfl⟩) 2 rfl rfl rfl rfl hl.1 rfl (Nat.le_of_ble_eq_true rfl) dX5_addThing_48 hK hP (hD0.addr (wLR_fst.trans wLR_fst.symm)) hS hA [1, 2, 3, 4, 5, 6, 7, 8, 9, 10, 11] (by decide +kernel) lC_h lJ_h (wLR_fst.trans wLR_fst.symm) rfl ⟨Nat.zero_le _, Nat.zero_le _⟩ (fun H locs hP hD hS => ?_)
        cases hf
        exact fn_iret hx hb hr hlocks hP hS dX5_addThing_51
      · replace hf := fp_f c_9 hf
        cases hf

def f_X5_setMask (x1 : Int32) (x2 : Int32) (rP : Int32) (fP : (Nat → Int32)) (rT : Int32) (fT : (Nat → Int32)) (rG : Int32) (fG : (Nat → Int32)) (rL : Int32) (fL : (Nat → Int32)) (rH : Int32) (fH : (Nat → Int32)) (gi : Int32) (di : Int32) (re : Int32) (ti : Int32) (cn : Int32) (ro : Nat) (Qh : (Nat → HS)) : Option ((String × (Nat → Int32) × (Nat → Int32) × Int32 × Nat × (Nat → HS)) ⊕ (Int32 × (Nat → Int32) × (Nat → Int32) × Int32 × Nat × (Nat → HS))) :=
  bx (f_X5_requireThing x1 rT) (fun E_3 => some (.inl (E_3, fT, fH, cn, ro, Qh))) (fun u_2 =>
  bx (f_X5_requireMask x2) (fun E_6 => some (.inl (E_6, fT, fH, cn, ro, Qh))) (fun u_5 =>
  bd3 (f_X1_keep cn ro Qh rP fP rT fT rG fG rL fL rH fH gi di re ti) (fun cn_7 ro_8 Qh_9 =>
  bd3 (f_X2_changeThing x1 (1 : Int32) x2 rT fT rG fG rH fH) (fun r_11 fT_12 fH_13 =>
  some (.inr (r_11, fT_12, fH_13, cn_7, ro_8, Qh_9))))))
set_option maxHeartbeats 4000000 in
set_option maxRecDepth 100000 in
theorem c_X5_setMask (l : Launch) (X : cx_G) (x0 : Nat) (hh : (Nat → Nat)) (ht : (Nat → Nat)) (ch : (Nat → Nat)) (tx : (Nat → Nat)) (y : (Nat → Nat)) (hy : (Nat → Nat → Nat)) (rP : Int32) (fP : (Nat → Int32)) (rT : Int32) (fT : (Nat → Int32)) (rG : Int32) (fG : (Nat → Int32)) (rL : Int32) (fL : (Nat → Int32)) (rH : Int32) (fH : (Nat → Int32)) (gi : Int32) (di : Int32) (re : Int32) (ti : Int32) (rPT : Int32) (fPT : (Nat → Int32)) (rTT : Int32) (fTT : (Nat → Int32)) (rGT : Int32) (fGT : (Nat → Int32)) (rLT : Int32) (fLT : (Nat → Int32)) (rHT : Int32) (fHT : (Nat → Int32)) (giT : Int32) (diT : Int32) (reT : Int32) (tiT : Int32) (rS : Int32) (fS : (Nat → Int32)) (rB : Int32) (fB : (Nat → Int32)) (rO : Int32) (fO : (Nat → Int32)) (pl : Int32) (fa : Int32) (cn : Int32) (ro : Nat) (Qh : (Nat → HS)) (x1 : Int32) (x2 : Int32) (r : Int32) (fT' : (Nat → Int32)) (fH' : (Nat → Int32)) (cn' : Int32) (ro' : Nat) (Qh' : (Nat → HS)) (hf : f_X5_setMask x1 x2 rP fP rT fT rG fG rL fL rH fH gi di re ti cn ro Qh = some (.inr (r, fT', fH', cn', ro', Qh'))) : Fn l yX5_setMask wsX5_setMask ({ frames := 4, cells := 0, slots := 0, locals := 98 } : Room) X [.ref (x0), .int x1, .int x2] (wLR X x0 hh ht ch tx y hy rP fP rT fT rG fG rL fL rH fH gi di re ti rPT fPT rTT fTT rGT fGT rLT fLT rHT fHT giT diT reT tiT rS fS rB fB rO fO pl fa cn ro Qh) (some (.int r)) (wLR X x0 hh ht ch tx y hy rP fP rT fT' rG fG rL fL rH fH' gi di re ti rPT fPT rTT fTT rGT fGT rLT fLT rHT fHT giT diT reT tiT rS fS rB fB rO fO pl fa cn' ro' Qh') := by
  refine fn_intro (cc := cX5_setMask) (maxL := 3) (ret := (some .int)) (by decide) rfl (wLR_fst.trans wLR_fst.symm) (Nat.le_of_ble_eq_true rfl) ?_
  intro p e s m args below meth c A ls hx hb hml hr hts hown hlocks hK hP hD0 hS hA hl
  have hown : s.vm.findClass RX5 = some m.cls := hown
  have hl : lv_has ls 3 [(0, .ref (x0)), (1, .int x1), (2, .int x2)] := hl
  have hiX5 : ∀ w ∈ u_ws RX5 TX5 5, w ∈ wsX5_setMask := by decide +kernel
  have k10 := hts (.fieldLink RX5 10 "LentRights" "house" "LLentRights$House;") (by decide +kernel)
  have k22 := hts (.fieldLink RX5 22 "LentRights" "history" "LLentRights$History;") (by decide +kernel)
  unfold f_X5_setMask at hf
  refine lv_aload_n hx hb dX5_setMask_0 rfl (lv_at hl 0 rfl) ?_
  refine lv_iload_n hx hb dX5_setMask_1 rfl (lv_at hl 1 rfl) ?_
  rcases bx_of hf with ⟨E_3, hc_1, hf⟩ | ⟨u_2, hc_1, hf⟩
  · cases hf
  · refine fn_V (v := none) (As := [.int x1]) (rest := []) (st1 := []) (ws' := (wLR X x0 hh ht ch tx y hy rP fP rT fT rG fG rL fL rH fH gi di re ti rPT fPT rTT fTT rGT fGT rLT fLT rHT fHT giT diT reT tiT rS fS rB fB rO fO pl fa cn ro Qh)) (nL := 3) ⟨hx, hb, hml, hown, hts⟩ (c_X5_requireThing l X x0 hh ht ch tx y hy rP fP rT fT rG fG rL fL rH fH gi di re ti rPT fPT rTT fTT rGT fGT rLT fLT rHT fHT giT diT reT tiT rS fS rB fB rO fO pl fa cn ro Qh x1 hc_1) (cwV 1 hts gX5_setMask_X5_requireThing rfl rfl rfl (by decide +kernel) ⟨Nat.le_of_ble_eq_true rfl, Nat.le_of_ble_eq_true rfl⟩) 5 rfl rfl rfl rfl hl.1 rfl (Nat.le_of_ble_eq_true rfl) dX5_setMask_2 hK hP (hD0.addr (wLR_fst.trans wLR_fst.symm)) hS hA [0, 1, 2, 3, 4, 5, 6, 7, 8, 9, 10, 11, 12, 13, 14, 15, 16, 17, 18, 19, 20, 21, 22, 23, 24, 25, 26, 27, 28, 29, 30, 31, 32, 33, 34, 35, 36, 37, 38, 39, 40, 41, 42, 43, 44, 45, 46, 47, 48, 49, 50, 51, 52, 53, 54, 55, 56, 57, 58, 59, 60, 61, 62, 63, 64, 65, 66, 67, 68, 69, 70, 71, 72, 73, 74, 75, 76] (by decide +kernel) lC_a (pt_setid _ _ _ lC_a) rfl ⟨Nat.zero_le _, Nat.zero_le _⟩ (fun H locs hP hD hS => ?_)
    refine lv_iload_n hx hb dX5_setMask_5 rfl (lv_at hl 2 rfl) ?_
    rcases bx_of hf with ⟨E_6, hc_4, hf⟩ | ⟨u_5, hc_4, hf⟩
    · cases hf
    · refine fn_Sx (v := none) (As := [.int x2]) (rest := []) (st1 := []) (ws' := (wLR X x0 hh ht ch tx y hy rP fP rT fT rG fG rL fL rH fH gi di re ti rPT fPT rTT fTT rGT fGT rLT fLT rHT fHT giT diT reT tiT rS fS rB fB rO fO pl fa cn ro Qh)) (nL := 3) ⟨hx, hb, hml, hown, hts⟩ (c_X5_requireMask l X x2 hc_4) (va_cwS 1 hts gX5_setMask_X5_requireMask rfl rfl rfl (by decide +kernel) ⟨Nat.le_of_ble_eq_true rfl, Nat.le_of_ble_eq_true rfl⟩) rfl hl.1 rfl (Nat.le_of_ble_eq_true rfl) dX5_setMask_6 hK hP (hD0.addr (wLR_fst.trans wLR_fst.symm)) hS hA [] (by decide +kernel) rfl (pt_setid _ _ _ rfl) rfl ⟨Nat.zero_le _, Nat.zero_le _⟩ (fun H locs hP hD hS => ?_)
      refine lv_aload_n hx hb dX5_setMask_9 rfl (lv_at hl 0 rfl) ?_
      refine va_get (D := X.1) (ci := 5) (v := .ref (y 0)) (C := RX5) (T := TX5) (N := 5) hx hb hts hiX5 hown hK.1 hP 0 rfl rfl 2 (by decide) k22 (fun _ h9 => h9) rfl dX5_setMask_10 ?_
      refine lv_aload_n hx hb dX5_setMask_13 rfl (lv_at hl 0 rfl) ?_
      refine va_get (D := X.1) (ci := 5) (v := .ref (hh 0)) (C := RX5) (T := TX5) (N := 5) hx hb hts hiX5 hown hK.1 hP 0 rfl rfl 0 (by decide) k10 (fun _ h9 => h9) rfl dX5_setMask_14 ?_
      obtain ⟨cn_7, ro_8, Qh_9, hc_10, hf⟩ := bd3_of hf
      refine fn_VJ (v := none) (As := [.ref (hh 0)]) (rest := []) (st1 := []) (ws' := (wLR X x0 hh ht ch tx y hy rP fP rT fT rG fG rL fL rH fH gi di re ti rPT fPT rTT fTT rGT fGT rLT fLT rHT fHT giT diT reT tiT rS fS rB fB rO fO pl fa cn_7 ro_8 Qh_9)) (nL := 3) ⟨hx, hb, hml, hown, hts⟩ (c_X1_keep l X y hy hh cn ro Qh rP fP rT fT rG fG rL fL rH fH gi di re ti cn_7 ro_8 Qh_9 hc_10) (cwV 1 hts gX5_setMask_X1_keep rfl rfl rfl (by decide +kernel) ⟨Nat.le_of_ble_eq_true rfl, Nat.le_of_ble_eq_true rfl⟩) 1 rfl rfl rfl rfl hl.1 rfl (Nat.le_of_ble_eq_true rfl) dX5_setMask_17 hK hP (hD0.addr (wLR_fst.trans wLR_fst.symm)) hS hA [31, 32, 33, 34, 35, 36, 37, 38, 39, 40, 41, 42, 43, 44, 45, 46, 47, 48, 49, 50, 51, 52, 53, 54, 55, 56, 57, 58, 59, 60, 61, 62, 63, 64, 65, 66, 67, 68, 69, 70, 71, 72, 73, 74, 75, 76, 1, 2, 3, 4, 5, 6, 7, 8, 9, 10, 11] (by decide +kernel) lC_ih lJ_ih (wLR_fst.trans wLR_fst.symm) rfl ⟨Nat.zero_le _, Nat.zero_le _⟩ (fun H locs hP hD hS => ?_)
      refine lv_aload_n hx hb dX5_setMask_20 rfl (lv_at hl 0 rfl) ?_
      refine va_get (D := X.1) (ci := 5) (v := .ref (hh 0)) (C := RX5) (T := TX5) (N := 5) hx hb hts hiX5 hown hK.1 hP 0 rfl rfl 0 (by decide) k10 (fun _ h9 => h9) rfl dX5_setMask_21 ?_
      refine lv_iload_n hx hb dX5_setMask_24 rfl (lv_at hl 1 rfl) ?_
      refine lv_iconst (v := 1) hx hb dX5_setMask_25 (by decide) ?_
      refine lv_iload_n hx hb dX5_setMask_26 rfl (lv_at hl 2 rfl) ?_
      obtain ⟨r_11, fT_12, fH_13, hc_14, hf⟩ := bd3_of hf
      refine fn_VJ (v := some (.int r_11)) (As := [.int x1, .int (1 : Int32), .int x2]) (rest := []) (st1 := [.int r_11]) (ws' := (wLR X x0 hh ht ch tx y hy rP fP rT fT_12 rG fG rL fL rH fH_13 gi di re ti rPT fPT rTT fTT rGT fGT rLT fLT rHT fHT giT diT reT tiT rS fS rB fB rO fO pl fa cn_7 ro_8 Qh_9)) (nL := 3) ⟨hx, hb, hml, hown, hts⟩ (c_X2_changeThing l X hh rP fP rT fT rG fG rL fL rH fH gi di re ti x1 (1 : Int32) x2 r_11 fT_12 fH_13 hc_14) (cwV 3 hts gX5_setMask_X2_changeThing rfl rfl rfl (by decide +kernel) ⟨Nat.le_of_ble_eq_true rfl, Nat.le_of_ble_eq_true rfl⟩) 2 rfl rfl rfl rfl hl.1 rfl (Nat.le_of_ble_eq_true rfl) dX5_setMask_27 hK hP (hD0.addr (wLR_fst.trans wLR_fst.symm)) hS hA [1, 2, 3, 4, 5, 6, 7, 8, 9, 10, 11] (by decide +kernel) lC_h lJ_h (wLR_fst.trans wLR_fst.symm) rfl ⟨Nat.zero_le _, Nat.zero_le _⟩ (fun H locs hP hD hS => ?_)
      cases hf
      exact fn_iret hx hb hr hlocks hP hS dX5_setMask_30

def f_X5_setBase (x1 : Int32) (x2 : Int32) (rP : Int32) (fP : (Nat → Int32)) (rT : Int32) (fT : (Nat → Int32)) (rG : Int32) (fG : (Nat → Int32)) (rL : Int32) (fL : (Nat → Int32)) (rH : Int32) (fH : (Nat → Int32)) (gi : Int32) (di : Int32) (re : Int32) (ti : Int32) (cn : Int32) (ro : Nat) (Qh : (Nat → HS)) : Option ((String × (Nat → Int32) × Int32 × Nat × (Nat → HS)) ⊕ (Int32 × (Nat → Int32) × Int32 × Nat × (Nat → HS))) :=
  bx (f_X5_requirePerson x1) (fun E_3 => some (.inl (E_3, fP, cn, ro, Qh))) (fun u_2 =>
  bx (f_X5_requireRange x2 (0 : Int32) (100 : Int32)) (fun E_6 => some (.inl (E_6, fP, cn, ro, Qh))) (fun u_5 =>
  bd3 (f_X1_keep cn ro Qh rP fP rT fT rG fG rL fL rH fH gi di re ti) (fun cn_7 ro_8 Qh_9 =>
  bd (f_X3_at (2 : Int32) 20 x1 (1 : Int32) rP fP) (fun r_11 =>
  bd (f_X3_put (2 : Int32) 20 x1 (1 : Int32) x2 rP fP) (fun fP_13 =>
  some (.inr (r_11, fP_13, cn_7, ro_8, Qh_9)))))))
set_option maxHeartbeats 4000000 in
set_option maxRecDepth 100000 in
theorem c_X5_setBase (l : Launch) (X : cx_G) (x0 : Nat) (hh : (Nat → Nat)) (ht : (Nat → Nat)) (ch : (Nat → Nat)) (tx : (Nat → Nat)) (y : (Nat → Nat)) (hy : (Nat → Nat → Nat)) (rP : Int32) (fP : (Nat → Int32)) (rT : Int32) (fT : (Nat → Int32)) (rG : Int32) (fG : (Nat → Int32)) (rL : Int32) (fL : (Nat → Int32)) (rH : Int32) (fH : (Nat → Int32)) (gi : Int32) (di : Int32) (re : Int32) (ti : Int32) (rPT : Int32) (fPT : (Nat → Int32)) (rTT : Int32) (fTT : (Nat → Int32)) (rGT : Int32) (fGT : (Nat → Int32)) (rLT : Int32) (fLT : (Nat → Int32)) (rHT : Int32) (fHT : (Nat → Int32)) (giT : Int32) (diT : Int32) (reT : Int32) (tiT : Int32) (rS : Int32) (fS : (Nat → Int32)) (rB : Int32) (fB : (Nat → Int32)) (rO : Int32) (fO : (Nat → Int32)) (pl : Int32) (fa : Int32) (cn : Int32) (ro : Nat) (Qh : (Nat → HS)) (x1 : Int32) (x2 : Int32) (r : Int32) (fP' : (Nat → Int32)) (cn' : Int32) (ro' : Nat) (Qh' : (Nat → HS)) (hf : f_X5_setBase x1 x2 rP fP rT fT rG fG rL fL rH fH gi di re ti cn ro Qh = some (.inr (r, fP', cn', ro', Qh'))) : Fn l yX5_setBase wsX5_setBase ({ frames := 3, cells := 0, slots := 0, locals := 65 } : Room) X [.ref (x0), .int x1, .int x2] (wLR X x0 hh ht ch tx y hy rP fP rT fT rG fG rL fL rH fH gi di re ti rPT fPT rTT fTT rGT fGT rLT fLT rHT fHT giT diT reT tiT rS fS rB fB rO fO pl fa cn ro Qh) (some (.int r)) (wLR X x0 hh ht ch tx y hy rP fP' rT fT rG fG rL fL rH fH gi di re ti rPT fPT rTT fTT rGT fGT rLT fLT rHT fHT giT diT reT tiT rS fS rB fB rO fO pl fa cn' ro' Qh') := by
  refine fn_intro (cc := cX5_setBase) (maxL := 4) (ret := (some .int)) (by decide) rfl (wLR_fst.trans wLR_fst.symm) (Nat.le_of_ble_eq_true rfl) ?_
  intro p e s m args below meth c A ls hx hb hml hr hts hown hlocks hK hP hD0 hS hA hl
  have hown : s.vm.findClass RX5 = some m.cls := hown
  have hl : lv_has ls 4 [(0, .ref (x0)), (1, .int x1), (2, .int x2)] := hl
  have hiX2 : ∀ w ∈ u_ws RX2 TX2 9, w ∈ wsX5_setBase := by decide +kernel
  have hiX5 : ∀ w ∈ u_ws RX5 TX5 5, w ∈ wsX5_setBase := by decide +kernel
  have k10 := hts (.fieldLink RX5 10 "LentRights" "house" "LLentRights$House;") (by decide +kernel)
  have k22 := hts (.fieldLink RX5 22 "LentRights" "history" "LLentRights$History;") (by decide +kernel)
  have k83 := hts (.fieldLink RX5 83 "LentRights$House" "persons" "LLentRights$Table;") (by decide +kernel)
  unfold f_X5_setBase at hf
  refine lv_iload_n hx hb dX5_setBase_0 rfl (lv_at hl 1 rfl) ?_
  rcases bx_of hf with ⟨E_3, hc_1, hf⟩ | ⟨u_2, hc_1, hf⟩
  · cases hf
  · refine fn_Sx (v := none) (As := [.int x1]) (rest := []) (st1 := []) (ws' := (wLR X x0 hh ht ch tx y hy rP fP rT fT rG fG rL fL rH fH gi di re ti rPT fPT rTT fTT rGT fGT rLT fLT rHT fHT giT diT reT tiT rS fS rB fB rO fO pl fa cn ro Qh)) (nL := 4) ⟨hx, hb, hml, hown, hts⟩ (c_X5_requirePerson l X x1 hc_1) (va_cwS 1 hts gX5_setBase_X5_requirePerson rfl rfl rfl (by decide +kernel) ⟨Nat.le_of_ble_eq_true rfl, Nat.le_of_ble_eq_true rfl⟩) rfl hl.1 rfl (Nat.le_of_ble_eq_true rfl) dX5_setBase_1 hK hP (hD0.addr (wLR_fst.trans wLR_fst.symm)) hS hA [] (by decide +kernel) rfl (pt_setid _ _ _ rfl) rfl ⟨Nat.zero_le _, Nat.zero_le _⟩ (fun H locs hP hD hS => ?_)
    refine lv_iload_n hx hb dX5_setBase_4 rfl (lv_at hl 2 rfl) ?_
    refine lv_iconst (v := 0) hx hb dX5_setBase_5 (by decide) ?_
    refine lv_bipush (v := 100) hx hb dX5_setBase_6 (by decide) ?_
    rcases bx_of hf with ⟨E_6, hc_4, hf⟩ | ⟨u_5, hc_4, hf⟩
    · cases hf
    · refine fn_Sx (v := none) (As := [.int x2, .int (0 : Int32), .int (100 : Int32)]) (rest := []) (st1 := []) (ws' := (wLR X x0 hh ht ch tx y hy rP fP rT fT rG fG rL fL rH fH gi di re ti rPT fPT rTT fTT rGT fGT rLT fLT rHT fHT giT diT reT tiT rS fS rB fB rO fO pl fa cn ro Qh)) (nL := 4) ⟨hx, hb, hml, hown, hts⟩ (c_X5_requireRange l X x2 (0 : Int32) (100 : Int32) hc_4) (va_cwS 3 hts gX5_setBase_X5_requireRange rfl rfl rfl (by decide +kernel) ⟨Nat.le_of_ble_eq_true rfl, Nat.le_of_ble_eq_true rfl⟩) rfl hl.1 rfl (Nat.le_of_ble_eq_true rfl) dX5_setBase_8 hK hP (hD0.addr (wLR_fst.trans wLR_fst.symm)) hS hA [] (by decide +kernel) rfl (pt_setid _ _ _ rfl) rfl ⟨Nat.zero_le _, Nat.zero_le _⟩ (fun H locs hP hD hS => ?_)
      refine lv_aload_n hx hb dX5_setBase_11 rfl (lv_at hl 0 rfl) ?_
      refine va_get (D := X.1) (ci := 5) (v := .ref (y 0)) (C := RX5) (T := TX5) (N := 5) hx hb hts hiX5 hown hK.1 hP 0 rfl rfl 2 (by decide) k22 (fun _ h9 => h9) rfl dX5_setBase_12 ?_
      refine lv_aload_n hx hb dX5_setBase_15 rfl (lv_at hl 0 rfl) ?_
      refine va_get (D := X.1) (ci := 5) (v := .ref (hh 0)) (C := RX5) (T := TX5) (N := 5) hx hb hts hiX5 hown hK.1 hP 0 rfl rfl 0 (by decide) k10 (fun _ h9 => h9) rfl dX5_setBase_16 ?_
      obtain ⟨cn_7, ro_8, Qh_9, hc_10, hf⟩ := bd3_of hf
      refine fn_VJ (v := none) (As := [.ref (hh 0)]) (rest := []) (st1 := []) (ws' := (wLR X x0 hh ht ch tx y hy rP fP rT fT rG fG rL fL rH fH gi di re ti rPT fPT rTT fTT rGT fGT rLT fLT rHT fHT giT diT reT tiT rS fS rB fB rO fO pl fa cn_7 ro_8 Qh_9)) (nL := 4) ⟨hx, hb, hml, hown, hts⟩ (c_X1_keep l X y hy hh cn ro Qh rP fP rT fT rG fG rL fL rH fH gi di re ti cn_7 ro_8 Qh_9 hc_10) (cwV 1 hts gX5_setBase_X1_keep rfl rfl rfl (by decide +kernel) ⟨Nat.le_of_ble_eq_true rfl, Nat.le_of_ble_eq_true rfl⟩) 1 rfl rfl rfl rfl hl.1 rfl (Nat.le_of_ble_eq_true rfl) dX5_setBase_19 hK hP (hD0.addr (wLR_fst.trans wLR_fst.symm)) hS hA [31, 32, 33, 34, 35, 36, 37, 38, 39, 40, 41, 42, 43, 44, 45, 46, 47, 48, 49, 50, 51, 52, 53, 54, 55, 56, 57, 58, 59, 60, 61, 62, 63, 64, 65, 66, 67, 68, 69, 70, 71, 72, 73, 74, 75, 76, 1, 2, 3, 4, 5, 6, 7, 8, 9, 10, 11] (by decide +kernel) lC_ih lJ_ih (wLR_fst.trans wLR_fst.symm) rfl ⟨Nat.zero_le _, Nat.zero_le _⟩ (fun H locs hP hD hS => ?_)
      refine lv_aload_n hx hb dX5_setBase_22 rfl (lv_at hl 0 rfl) ?_
      refine va_get (D := X.1) (ci := 5) (v := .ref (hh 0)) (C := RX5) (T := TX5) (N := 5) hx hb hts hiX5 hown hK.1 hP 0 rfl rfl 0 (by decide) k10 (fun _ h9 => h9) rfl dX5_setBase_23 ?_
      refine va_get (D := X.1) (ci := 2) (v := .ref (hh 1)) (C := RX2) (T := TX2) (N := 9) hx hb hts hiX2 hown hK.1 hP 1 rfl rfl 0 (by decide) k83 (fun _ h9 => h9) rfl dX5_setBase_26 ?_
      refine lv_iload_n hx hb dX5_setBase_29 rfl (lv_at hl 1 rfl) ?_
      refine lv_iconst (v := 1) hx hb dX5_setBase_30 (by decide) ?_
      obtain ⟨r_11, hc_12, hf⟩ := bd_of hf
      refine fn_V (v := some (.int r_11)) (As := [.int x1, .int (1 : Int32)]) (rest := []) (st1 := [.int r_11]) (ws' := (wLR X x0 hh ht ch tx y hy rP fP rT fT rG fG rL fL rH fH gi di re ti rPT fPT rTT fTT rGT fGT rLT fLT rHT fHT giT diT reT tiT rS fS rB fB rO fO pl fa cn_7 ro_8 Qh_9)) (nL := 4) ⟨hx, hb, hml, hown, hts⟩ (c_X3_at l X (hh 1) (hh 2) (10 : Int32) (2 : Int32) 20 rP fP x1 (1 : Int32) r_11 hc_12) (cwV 2 hts gX5_setBase_X3_at rfl rfl rfl (by decide +kernel) ⟨Nat.le_of_ble_eq_true rfl, Nat.le_of_ble_eq_true rfl⟩) 3 rfl rfl rfl rfl hl.1 rfl (Nat.le_of_ble_eq_true rfl) dX5_setBase_31 hK hP (hD0.addr (wLR_fst.trans wLR_fst.symm)) hS hA [2, 3] (by decide +kernel) rfl (pt_setid _ _ _ rfl) rfl ⟨Nat.zero_le _, Nat.zero_le _⟩ (fun H locs hP hD hS => ?_)
      refine lv_istore_n (lv' := [(3, .int r_11), (0, .ref (x0)), (1, .int x1), (2, .int x2)]) hx hb dX5_setBase_34 rfl hl (by decide) rfl (fun ls hl => ?_)
      refine lv_aload_n hx hb dX5_setBase_35 rfl (lv_at hl 1 rfl) ?_
      refine va_get (D := X.1) (ci := 5) (v := .ref (hh 0)) (C := RX5) (T := TX5) (N := 5) hx hb hts hiX5 hown hK.1 hP 0 rfl rfl 0 (by decide) k10 (fun _ h9 => h9) rfl dX5_setBase_36 ?_
      refine va_get (D := X.1) (ci := 2) (v := .ref (hh 1)) (C := RX2) (T := TX2) (N := 9) hx hb hts hiX2 hown hK.1 hP 1 rfl rfl 0 (by decide) k83 (fun _ h9 => h9) rfl dX5_setBase_39 ?_
      refine lv_iload_n hx hb dX5_setBase_42 rfl (lv_at hl 2 rfl) ?_
      refine lv_iconst (v := 1) hx hb dX5_setBase_43 (by decide) ?_
      refine lv_iload_n hx hb dX5_setBase_44 rfl (lv_at hl 3 rfl) ?_
      obtain ⟨fP_13, hc_14, hf⟩ := bd_of hf
      refine fn_VJ (v := none) (As := [.int x1, .int (1 : Int32), .int x2]) (rest := []) (st1 := []) (ws' := (wLR X x0 hh ht ch tx y hy rP fP_13 rT fT rG fG rL fL rH fH gi di re ti rPT fPT rTT fTT rGT fGT rLT fLT rHT fHT giT diT reT tiT rS fS rB fB rO fO pl fa cn_7 ro_8 Qh_9)) (nL := 4) ⟨hx, hb, hml, hown, hts⟩ (c_X3_put l X (hh 1) (hh 2) (10 : Int32) (2 : Int32) 20 rP fP x1 (1 : Int32) x2 fP_13 hc_14) (cwV 3 hts gX5_setBase_X3_put rfl rfl rfl (by decide +kernel) ⟨Nat.le_of_ble_eq_true rfl, Nat.le_of_ble_eq_true rfl⟩) 3 rfl rfl rfl rfl hl.1 rfl (Nat.le_of_ble_eq_true rfl) dX5_setBase_45 hK hP (hD0.addr (wLR_fst.trans wLR_fst.symm)) hS hA [2, 3] (by decide +kernel) rfl lJ_p (wLR_fst.trans wLR_fst.symm) rfl ⟨Nat.zero_le _, Nat.zero_le _⟩ (fun H locs hP hD hS => ?_)
      refine lv_iload_n hx hb dX5_setBase_48 rfl (lv_at hl 0 rfl) ?_
      cases hf
      exact fn_iret hx hb hr hlocks hP hS dX5_setBase_49

def f_X5_give (x1 : Int32) (x2 : Int32) (rP : Int32) (fP : (Nat → Int32)) (rT : Int32) (fT : (Nat → Int32)) (rG : Int32) (fG : (Nat → Int32)) (rL : Int32) (fL : (Nat → Int32)) (rH : Int32) (fH : (Nat → Int32)) (gi : Int32) (di : Int32) (re : Int32) (ti : Int32) (cn : Int32) (ro : Nat) (Qh : (Nat → HS)) : Option ((String × (Nat → Int32) × (Nat → Int32) × Int32 × Nat × (Nat → HS)) ⊕ (Int32 × (Nat → Int32) × (Nat → Int32) × Int32 × Nat × (Nat → HS))) :=
  bx (f_X5_requirePerson x2) (fun E_3 => some (.inl (E_3, fT, fH, cn, ro, Qh))) (fun u_2 =>
  bx (f_X5_requireThing x1 rT) (fun E_6 => some (.inl (E_6, fT, fH, cn, ro, Qh))) (fun u_5 =>
  bd3 (f_X1_keep cn ro Qh rP fP rT fT rG fG rL fL rH fH gi di re ti) (fun cn_7 ro_8 Qh_9 =>
  bd3 (f_X2_changeThing x1 (0 : Int32) x2 rT fT rG fG rH fH) (fun r_11 fT_12 fH_13 =>
  some (.inr (r_11, fT_12, fH_13, cn_7, ro_8, Qh_9))))))
set_option maxHeartbeats 4000000 in
set_option maxRecDepth 100000 in
theorem c_X5_give (l : Launch) (X : cx_G) (x0 : Nat) (hh : (Nat → Nat)) (ht : (Nat → Nat)) (ch : (Nat → Nat)) (tx : (Nat → Nat)) (y : (Nat → Nat)) (hy : (Nat → Nat → Nat)) (rP : Int32) (fP : (Nat → Int32)) (rT : Int32) (fT : (Nat → Int32)) (rG : Int32) (fG : (Nat → Int32)) (rL : Int32) (fL : (Nat → Int32)) (rH : Int32) (fH : (Nat → Int32)) (gi : Int32) (di : Int32) (re : Int32) (ti : Int32) (rPT : Int32) (fPT : (Nat → Int32)) (rTT : Int32) (fTT : (Nat → Int32)) (rGT : Int32) (fGT : (Nat → Int32)) (rLT : Int32) (fLT : (Nat → Int32)) (rHT : Int32) (fHT : (Nat → Int32)) (giT : Int32) (diT : Int32) (reT : Int32) (tiT : Int32) (rS : Int32) (fS : (Nat → Int32)) (rB : Int32) (fB : (Nat → Int32)) (rO : Int32) (fO : (Nat → Int32)) (pl : Int32) (fa : Int32) (cn : Int32) (ro : Nat) (Qh : (Nat → HS)) (x1 : Int32) (x2 : Int32) (r : Int32) (fT' : (Nat → Int32)) (fH' : (Nat → Int32)) (cn' : Int32) (ro' : Nat) (Qh' : (Nat → HS)) (hf : f_X5_give x1 x2 rP fP rT fT rG fG rL fL rH fH gi di re ti cn ro Qh = some (.inr (r, fT', fH', cn', ro', Qh'))) : Fn l yX5_give wsX5_give ({ frames := 4, cells := 0, slots := 0, locals := 98 } : Room) X [.ref (x0), .int x1, .int x2] (wLR X x0 hh ht ch tx y hy rP fP rT fT rG fG rL fL rH fH gi di re ti rPT fPT rTT fTT rGT fGT rLT fLT rHT fHT giT diT reT tiT rS fS rB fB rO fO pl fa cn ro Qh) (some (.int r)) (wLR X x0 hh ht ch tx y hy rP fP rT fT' rG fG rL fL rH fH' gi di re ti rPT fPT rTT fTT rGT fGT rLT fLT rHT fHT giT diT reT tiT rS fS rB fB rO fO pl fa cn' ro' Qh') := by
  refine fn_intro (cc := cX5_give) (maxL := 3) (ret := (some .int)) (by decide) rfl (wLR_fst.trans wLR_fst.symm) (Nat.le_of_ble_eq_true rfl) ?_
  intro p e s m args below meth c A ls hx hb hml hr hts hown hlocks hK hP hD0 hS hA hl
  have hown : s.vm.findClass RX5 = some m.cls := hown
  have hl : lv_has ls 3 [(0, .ref (x0)), (1, .int x1), (2, .int x2)] := hl
  have hiX5 : ∀ w ∈ u_ws RX5 TX5 5, w ∈ wsX5_give := by decide +kernel
  have k10 := hts (.fieldLink RX5 10 "LentRights" "house" "LLentRights$House;") (by decide +kernel)
  have k22 := hts (.fieldLink RX5 22 "LentRights" "history" "LLentRights$History;") (by decide +kernel)
  unfold f_X5_give at hf
  refine lv_iload_n hx hb dX5_give_0 rfl (lv_at hl 2 rfl) ?_
  rcases bx_of hf with ⟨E_3, hc_1, hf⟩ | ⟨u_2, hc_1, hf⟩
  · cases hf
  · refine fn_Sx (v := none) (As := [.int x2]) (rest := []) (st1 := []) (ws' := (wLR X x0 hh ht ch tx y hy rP fP rT fT rG fG rL fL rH fH gi di re ti rPT fPT rTT fTT rGT fGT rLT fLT rHT fHT giT diT reT tiT rS fS rB fB rO fO pl fa cn ro Qh)) (nL := 3) ⟨hx, hb, hml, hown, hts⟩ (c_X5_requirePerson l X x2 hc_1) (va_cwS 1 hts gX5_give_X5_requirePerson rfl rfl rfl (by decide +kernel) ⟨Nat.le_of_ble_eq_true rfl, Nat.le_of_ble_eq_true rfl⟩) rfl hl.1 rfl (Nat.le_of_ble_eq_true rfl) dX5_give_1 hK hP (hD0.addr (wLR_fst.trans wLR_fst.symm)) hS hA [] (by decide +kernel) rfl (pt_setid _ _ _ rfl) rfl ⟨Nat.zero_le _, Nat.zero_le _⟩ (fun H locs hP hD hS => ?_)
    refine lv_aload_n hx hb dX5_give_4 rfl (lv_at hl 0 rfl) ?_
    refine lv_iload_n hx hb dX5_give_5 rfl (lv_at hl 1 rfl) ?_
    rcases bx_of hf with ⟨E_6, hc_4, hf⟩ | ⟨u_5, hc_4, hf⟩
    · cases hf
    · refine fn_V (v := none) (As := [.int x1]) (rest := []) (st1 := []) (ws' := (wLR X x0 hh ht ch tx y hy rP fP rT fT rG fG rL fL rH fH gi di re ti rPT fPT rTT fTT rGT fGT rLT fLT rHT fHT giT diT reT tiT rS fS rB fB rO fO pl fa cn ro Qh)) (nL := 3) ⟨hx, hb, hml, hown, hts⟩ (c_X5_requireThing l X x0 hh ht ch tx y hy rP fP rT fT rG fG rL fL rH fH gi di re ti rPT fPT rTT fTT rGT fGT rLT fLT rHT fHT giT diT reT tiT rS fS rB fB rO fO pl fa cn ro Qh x1 hc_4) (cwV 1 hts gX5_give_X5_requireThing rfl rfl rfl (by decide +kernel) ⟨Nat.le_of_ble_eq_true rfl, Nat.le_of_ble_eq_true rfl⟩) 5 rfl rfl rfl rfl hl.1 rfl (Nat.le_of_ble_eq_true rfl) dX5_give_6 hK hP (hD0.addr (wLR_fst.trans wLR_fst.symm)) hS hA [0, 1, 2, 3, 4, 5, 6, 7, 8, 9, 10, 11, 12, 13, 14, 15, 16, 17, 18, 19, 20, 21, 22, 23, 24, 25, 26, 27, 28, 29, 30, 31, 32, 33, 34, 35, 36, 37, 38, 39, 40, 41, 42, 43, 44, 45, 46, 47, 48, 49, 50, 51, 52, 53, 54, 55, 56, 57, 58, 59, 60, 61, 62, 63, 64, 65, 66, 67, 68, 69, 70, 71, 72, 73, 74, 75, 76] (by decide +kernel) lC_a (pt_setid _ _ _ lC_a) rfl ⟨Nat.zero_le _, Nat.zero_le _⟩ (fun H locs hP hD hS => ?_)
      refine lv_aload_n hx hb dX5_give_9 rfl (lv_at hl 0 rfl) ?_
      refine va_get (D := X.1) (ci := 5) (v := .ref (y 0)) (C := RX5) (T := TX5) (N := 5) hx hb hts hiX5 hown hK.1 hP 0 rfl rfl 2 (by decide) k22 (fun _ h9 => h9) rfl dX5_give_10 ?_
      refine lv_aload_n hx hb dX5_give_13 rfl (lv_at hl 0 rfl) ?_
      refine va_get (D := X.1) (ci := 5) (v := .ref (hh 0)) (C := RX5) (T := TX5) (N := 5) hx hb hts hiX5 hown hK.1 hP 0 rfl rfl 0 (by decide) k10 (fun _ h9 => h9) rfl dX5_give_14 ?_
      obtain ⟨cn_7, ro_8, Qh_9, hc_10, hf⟩ := bd3_of hf
      refine fn_VJ (v := none) (As := [.ref (hh 0)]) (rest := []) (st1 := []) (ws' := (wLR X x0 hh ht ch tx y hy rP fP rT fT rG fG rL fL rH fH gi di re ti rPT fPT rTT fTT rGT fGT rLT fLT rHT fHT giT diT reT tiT rS fS rB fB rO fO pl fa cn_7 ro_8 Qh_9)) (nL := 3) ⟨hx, hb, hml, hown, hts⟩ (c_X1_keep l X y hy hh cn ro Qh rP fP rT fT rG fG rL fL rH fH gi di re ti cn_7 ro_8 Qh_9 hc_10) (cwV 1 hts gX5_give_X1_keep rfl rfl rfl (by decide +kernel) ⟨Nat.le_of_ble_eq_true rfl, Nat.le_of_ble_eq_true rfl⟩) 1 rfl rfl rfl rfl hl.1 rfl (Nat.le_of_ble_eq_true rfl) dX5_give_17 hK hP (hD0.addr (wLR_fst.trans wLR_fst.symm)) hS hA [31, 32, 33, 34, 35, 36, 37, 38, 39, 40, 41, 42, 43, 44, 45, 46, 47, 48, 49, 50, 51, 52, 53, 54, 55, 56, 57, 58, 59, 60, 61, 62, 63, 64, 65, 66, 67, 68, 69, 70, 71, 72, 73, 74, 75, 76, 1, 2, 3, 4, 5, 6, 7, 8, 9, 10, 11] (by decide +kernel) lC_ih lJ_ih (wLR_fst.trans wLR_fst.symm) rfl ⟨Nat.zero_le _, Nat.zero_le _⟩ (fun H locs hP hD hS => ?_)
      refine lv_aload_n hx hb dX5_give_20 rfl (lv_at hl 0 rfl) ?_
      refine va_get (D := X.1) (ci := 5) (v := .ref (hh 0)) (C := RX5) (T := TX5) (N := 5) hx hb hts hiX5 hown hK.1 hP 0 rfl rfl 0 (by decide) k10 (fun _ h9 => h9) rfl dX5_give_21 ?_
      refine lv_iload_n hx hb dX5_give_24 rfl (lv_at hl 1 rfl) ?_
      refine lv_iconst (v := 0) hx hb dX5_give_25 (by decide) ?_
      refine lv_iload_n hx hb dX5_give_26 rfl (lv_at hl 2 rfl) ?_
      obtain ⟨r_11, fT_12, fH_13, hc_14, hf⟩ := bd3_of hf
      refine fn_VJ (v := some (.int r_11)) (As := [.int x1, .int (0 : Int32), .int x2]) (rest := []) (st1 := [.int r_11]) (ws' := (wLR X x0 hh ht ch tx y hy rP fP rT fT_12 rG fG rL fL rH fH_13 gi di re ti rPT fPT rTT fTT rGT fGT rLT fLT rHT fHT giT diT reT tiT rS fS rB fB rO fO pl fa cn_7 ro_8 Qh_9)) (nL := 3) ⟨hx, hb, hml, hown, hts⟩ (c_X2_changeThing l X hh rP fP rT fT rG fG rL fL rH fH gi di re ti x1 (0 : Int32) x2 r_11 fT_12 fH_13 hc_14) (cwV 3 hts gX5_give_X2_changeThing rfl rfl rfl (by decide +kernel) ⟨Nat.le_of_ble_eq_true rfl, Nat.le_of_ble_eq_true rfl⟩) 2 rfl rfl rfl rfl hl.1 rfl (Nat.le_of_ble_eq_true rfl) dX5_give_27 hK hP (hD0.addr (wLR_fst.trans wLR_fst.symm)) hS hA [1, 2, 3, 4, 5, 6, 7, 8, 9, 10, 11] (by decide +kernel) lC_h lJ_h (wLR_fst.trans wLR_fst.symm) rfl ⟨Nat.zero_le _, Nat.zero_le _⟩ (fun H locs hP hD hS => ?_)
      cases hf
      exact fn_iret hx hb hr hlocks hP hS dX5_give_30

def f_X5_grant (x1 : Int32) (x2 : Int32) (x3 : Int32) (x4 : Int32) (x5 : Int32) (rP : Int32) (fP : (Nat → Int32)) (rT : Int32) (fT : (Nat → Int32)) (rG : Int32) (fG : (Nat → Int32)) (rL : Int32) (fL : (Nat → Int32)) (rH : Int32) (fH : (Nat → Int32)) (gi : Int32) (di : Int32) (re : Int32) (ti : Int32) (cn : Int32) (ro : Nat) (Qh : (Nat → HS)) : Option ((String × Int32 × (Nat → Int32) × (Nat → Int32) × Int32 × Int32 × Nat × (Nat → HS)) ⊕ (Int32 × Int32 × (Nat → Int32) × (Nat → Int32) × Int32 × Int32 × Nat × (Nat → HS))) :=
  bd (f_X2_faultOfGrant x1 x2 x3 x4 x5 rP fP rT rG rH fH) (fun r_1 =>
  bx (f_X5_requireFit r_1) (fun E_5 => some (.inl (E_5, rG, fG, fH, gi, cn, ro, Qh))) (fun u_4 =>
  if r_1 = (3 : Int32) then
  (some (.inl ("java/lang/IllegalStateException", rG, fG, fH, gi, cn, ro, Qh)))
  else
  (bd3 (f_X1_keep cn ro Qh rP fP rT fT rG fG rL fL rH fH gi di re ti) (fun cn_7 ro_8 Qh_9 =>
  bd5 (f_X2_lend x1 x2 x3 x4 x5 rT fT rG fG rH fH gi) (fun r_11 rG_12 fG_13 fH_14 gi_15 =>
  some (.inr (r_11, rG_12, fG_13, fH_14, gi_15, cn_7, ro_8, Qh_9)))))))
set_option maxHeartbeats 4000000 in
set_option maxRecDepth 100000 in
theorem c_X5_grant (l : Launch) (X : cx_G) (x0 : Nat) (hh : (Nat → Nat)) (ht : (Nat → Nat)) (ch : (Nat → Nat)) (tx : (Nat → Nat)) (y : (Nat → Nat)) (hy : (Nat → Nat → Nat)) (rP : Int32) (fP : (Nat → Int32)) (rT : Int32) (fT : (Nat → Int32)) (rG : Int32) (fG : (Nat → Int32)) (rL : Int32) (fL : (Nat → Int32)) (rH : Int32) (fH : (Nat → Int32)) (gi : Int32) (di : Int32) (re : Int32) (ti : Int32) (rPT : Int32) (fPT : (Nat → Int32)) (rTT : Int32) (fTT : (Nat → Int32)) (rGT : Int32) (fGT : (Nat → Int32)) (rLT : Int32) (fLT : (Nat → Int32)) (rHT : Int32) (fHT : (Nat → Int32)) (giT : Int32) (diT : Int32) (reT : Int32) (tiT : Int32) (rS : Int32) (fS : (Nat → Int32)) (rB : Int32) (fB : (Nat → Int32)) (rO : Int32) (fO : (Nat → Int32)) (pl : Int32) (fa : Int32) (cn : Int32) (ro : Nat) (Qh : (Nat → HS)) (x1 : Int32) (x2 : Int32) (x3 : Int32) (x4 : Int32) (x5 : Int32) (r : Int32) (rG' : Int32) (fG' : (Nat → Int32)) (fH' : (Nat → Int32)) (gi' : Int32) (cn' : Int32) (ro' : Nat) (Qh' : (Nat → HS)) (hf : f_X5_grant x1 x2 x3 x4 x5 rP fP rT fT rG fG rL fL rH fH gi di re ti cn ro Qh = some (.inr (r, rG', fG', fH', gi', cn', ro', Qh'))) : Fn l yX5_grant wsX5_grant ({ frames := 4, cells := 0, slots := 0, locals := 101 } : Room) X [.ref (x0), .int x1, .int x2, .int x3, .int x4, .int x5] (wLR X x0 hh ht ch tx y hy rP fP rT fT rG fG rL fL rH fH gi di re ti rPT fPT rTT fTT rGT fGT rLT fLT rHT fHT giT diT reT tiT rS fS rB fB rO fO pl fa cn ro Qh) (some (.int r)) (wLR X x0 hh ht ch tx y hy rP fP rT fT rG' fG' rL fL rH fH' gi' di re ti rPT fPT rTT fTT rGT fGT rLT fLT rHT fHT giT diT reT tiT rS fS rB fB rO fO pl fa cn' ro' Qh') := by
  refine fn_intro (cc := cX5_grant) (maxL := 7) (ret := (some .int)) (by decide) rfl (wLR_fst.trans wLR_fst.symm) (Nat.le_of_ble_eq_true rfl) ?_
  intro p e s m args below meth c A ls hx hb hml hr hts hown hlocks hK hP hD0 hS hA hl
  have hown : s.vm.findClass RX5 = some m.cls := hown
  have hl : lv_has ls 7 [(0, .ref (x0)), (1, .int x1), (2, .int x2), (3, .int x3), (4, .int x4), (5, .int x5)] := hl
  have hiX5 : ∀ w ∈ u_ws RX5 TX5 5, w ∈ wsX5_grant := by decide +kernel
  have k10 := hts (.fieldLink RX5 10 "LentRights" "house" "LLentRights$House;") (by decide +kernel)
  have k22 := hts (.fieldLink RX5 22 "LentRights" "history" "LLentRights$History;") (by decide +kernel)
  unfold f_X5_grant at hf
  refine lv_aload_n hx hb dX5_grant_0 rfl (lv_at hl 0 rfl) ?_
  refine va_get (D := X.1) (ci := 5) (v := .ref (hh 0)) (C := RX5) (T := TX5) (N := 5) hx hb hts hiX5 hown hK.1 hP 0 rfl rfl 0 (by decide) k10 (fun _ h9 => h9) rfl dX5_grant_1 ?_
  refine lv_iload_n hx hb dX5_grant_4 rfl (lv_at hl 1 rfl) ?_
  refine lv_iload_n hx hb dX5_grant_5 rfl (lv_at hl 2 rfl) ?_
  refine lv_iload_n hx hb dX5_grant_6 rfl (lv_at hl 3 rfl) ?_
  refine lv_iload hx hb dX5_grant_7 (lv_at hl 4 rfl) ?_
  refine lv_iload hx hb dX5_grant_9 (lv_at hl 5 rfl) ?_
  obtain ⟨r_1, hc_2, hf⟩ := bd_of hf
  refine fn_V (v := some (.int r_1)) (As := [.int x1, .int x2, .int x3, .int x4, .int x5]) (rest := []) (st1 := [.int r_1]) (ws' := (wLR X x0 hh ht ch tx y hy rP fP rT fT rG fG rL fL rH fH gi di re ti rPT fPT rTT fTT rGT fGT rLT fLT rHT fHT giT diT reT tiT rS fS rB fB rO fO pl fa cn ro Qh)) (nL := 7) ⟨hx, hb, hml, hown, hts⟩ (c_X2_faultOfGrant l X hh rP fP rT fT rG fG rL fL rH fH gi di re ti x1 x2 x3 x4 x5 r_1 hc_2) (cwV 5 hts gX5_grant_X2_faultOfGrant rfl rfl rfl (by decide +kernel) ⟨Nat.le_of_ble_eq_true rfl, Nat.le_of_ble_eq_true rfl⟩) 2 rfl rfl rfl rfl hl.1 rfl (Nat.le_of_ble_eq_true rfl) dX5_grant_11 hK hP (hD0.addr (wLR_fst.trans wLR_fst.symm)) hS hA [1, 2, 3, 4, 5, 6, 7, 8, 9, 10, 11] (by decide +kernel) lC_h (pt_setid _ _ _ lC_h) rfl ⟨Nat.zero_le _, Nat.zero_le _⟩ (fun H locs hP hD hS => ?_)
  refine lv_istore (lv' := [(6, .int r_1), (0, .ref (x0)), (1, .int x1), (2, .int x2), (3, .int x3), (4, .int x4), (5, .int x5)]) hx hb dX5_grant_14 hl (by decide) rfl (fun ls hl => ?_)
  refine lv_iload hx hb dX5_grant_16 (lv_at hl 0 rfl) ?_
  rcases bx_of hf with ⟨E_5, hc_3, hf⟩ | ⟨u_4, hc_3, hf⟩
  · cases hf
  · refine fn_Sx (v := none) (As := [.int r_1]) (rest := []) (st1 := []) (ws' := (wLR X x0 hh ht ch tx y hy rP fP rT fT rG fG rL fL rH fH gi di re ti rPT fPT rTT fTT rGT fGT rLT fLT rHT fHT giT diT reT tiT rS fS rB fB rO fO pl fa cn ro Qh)) (nL := 7) ⟨hx, hb, hml, hown, hts⟩ (c_X5_requireFit l X r_1 hc_3) (va_cwS 1 hts gX5_grant_X5_requireFit rfl rfl rfl (by decide +kernel) ⟨Nat.le_of_ble_eq_true rfl, Nat.le_of_ble_eq_true rfl⟩) rfl hl.1 rfl (Nat.le_of_ble_eq_true rfl) dX5_grant_18 hK hP (hD0.addr (wLR_fst.trans wLR_fst.symm)) hS hA [] (by decide +kernel) rfl (pt_setid _ _ _ rfl) rfl ⟨Nat.zero_le _, Nat.zero_le _⟩ (fun H locs hP hD hS => ?_)
    refine lv_iload hx hb dX5_grant_21 (lv_at hl 0 rfl) ?_
    refine lv_iconst (v := 3) hx hb dX5_grant_23 (by decide) ?_
    refine lv_icmp_ne (tgt := 37) hx hb dX5_grant_24 (by decide) (fun c_6 => ?_) (fun c_6 => ?_)
    · replace hf := fp_f c_6 hf
      refine lv_aload_n hx hb dX5_grant_37 rfl (lv_at hl 1 rfl) ?_
      refine va_get (D := X.1) (ci := 5) (v := .ref (y 0)) (C := RX5) (T := TX5) (N := 5) hx hb hts hiX5 hown hK.1 hP 0 rfl rfl 2 (by decide) k22 (fun _ h9 => h9) rfl dX5_grant_38 ?_
      refine lv_aload_n hx hb dX5_grant_41 rfl (lv_at hl 1 rfl) ?_
      refine va_get (D := X.1) (ci := 5) (v := .ref (hh 0)) (C := RX5) (T := TX5) (N := 5) hx hb hts hiX5 hown hK.1 hP 0 rfl rfl 0 (by decide) k10 (fun _ h9 => h9) rfl dX5_grant_42 ?_
      obtain ⟨cn_7, ro_8, Qh_9, hc_10, hf⟩ := bd3_of hf
      refine fn_VJ (v := none) (As := [.ref (hh 0)]) (rest := []) (st1 := []) (ws' := (wLR X x0 hh ht ch tx y hy rP fP rT fT rG fG rL fL rH fH gi di re ti rPT fPT rTT fTT rGT fGT rLT fLT rHT fHT giT diT reT tiT rS fS rB fB rO fO pl fa cn_7 ro_8 Qh_9)) (nL := 7) ⟨hx, hb, hml, hown, hts⟩ (c_X1_keep l X y hy hh cn ro Qh rP fP rT fT rG fG rL fL rH fH gi di re ti cn_7 ro_8 Qh_9 hc_10) (cwV 1 hts gX5_grant_X1_keep rfl rfl rfl (by decide +kernel) ⟨Nat.le_of_ble_eq_true rfl, Nat.le_of_ble_eq_true rfl⟩) 1 rfl rfl rfl rfl hl.1 rfl (Nat.le_of_ble_eq_true rfl) dX5_grant_45 hK hP (hD0.addr (wLR_fst.trans wLR_fst.symm)) hS hA [31, 32, 33, 34, 35, 36, 37, 38, 39, 40, 41, 42, 43, 44, 45, 46, 47, 48, 49, 50, 51, 52, 53, 54, 55, 56, 57, 58, 59, 60, 61, 62, 63, 64, 65, 66, 67, 68, 69, 70, 71, 72, 73, 74, 75, 76, 1, 2, 3, 4, 5, 6, 7, 8, 9, 10, 11] (by decide +kernel) lC_ih lJ_ih (wLR_fst.trans wLR_fst.symm) rfl ⟨Nat.zero_le _, Nat.zero_le _⟩ (fun H locs hP hD hS => ?_)
      refine lv_aload_n hx hb dX5_grant_48 rfl (lv_at hl 1 rfl) ?_
      refine va_get (D := X.1) (ci := 5) (v := .ref (hh 0)) (C := RX5) (T := TX5) (N := 5) hx hb hts hiX5 hown hK.1 hP 0 rfl rfl 0 (by decide) k10 (fun _ h9 => h9) rfl dX5_grant_49 ?_
      refine lv_iload_n hx hb dX5_grant_52 rfl (lv_at hl 2 rfl) ?_
      refine lv_iload_n hx hb dX5_grant_53 rfl (lv_at hl 3 rfl) ?_
      refine lv_iload_n hx hb dX5_grant_54 rfl (lv_at hl 4 rfl) ?_
      refine lv_iload hx hb dX5_grant_55 (lv_at hl 5 rfl) ?_
      refine lv_iload hx hb dX5_grant_57 (lv_at hl 6 rfl) ?_
      obtain ⟨r_11, rG_12, fG_13, fH_14, gi_15, hc_16, hf⟩ := bd5_of hf
      refine fn_VJ (v := some (.int r_11)) (As := [.int x1, .int x2, .int x3, .int x4, .int x5]) (rest := []) (st1 := [.int r_11]) (ws' := (wLR X x0 hh ht ch tx y hy rP fP rT fT rG_12 fG_13 rL fL rH fH_14 gi_15 di re ti rPT fPT rTT fTT rGT fGT rLT fLT rHT fHT giT diT reT tiT rS fS rB fB rO fO pl fa cn_7 ro_8 Qh_9)) (nL := 7) ⟨hx, hb, hml, hown, hts⟩ (c_X2_lend l X hh rP fP rT fT rG fG rL fL rH fH gi di re ti x1 x2 x3 x4 x5 r_11 rG_12 fG_13 fH_14 gi_15 hc_16) (cwV 5 hts gX5_grant_X2_lend rfl rfl rfl (by decide +kernel) ⟨Nat.le_of_ble_eq_true rfl, Nat.le_of_ble_eq_true rfl⟩) 2 rfl rfl rfl rfl hl.1 rfl (Nat.le_of_ble_eq_true rfl) dX5_grant_59 hK hP (hD0.addr (wLR_fst.trans wLR_fst.symm)) hS hA [1, 2, 3, 4, 5, 6, 7, 8, 9, 10, 11] (by decide +kernel) lC_h lJ_h (wLR_fst.trans wLR_fst.symm) rfl ⟨Nat.zero_le _, Nat.zero_le _⟩ (fun H locs hP hD hS => ?_)
      cases hf
      exact fn_iret hx hb hr hlocks hP hS dX5_grant_62
    · replace hf := fp_t c_6 hf
      cases hf

def f_X5_cheer (x1 : Int32) (x2 : Int32) (rP : Int32) (fP : (Nat → Int32)) (rT : Int32) (fT : (Nat → Int32)) (rG : Int32) (fG : (Nat → Int32)) (rL : Int32) (fL : (Nat → Int32)) (rH : Int32) (fH : (Nat → Int32)) (gi : Int32) (di : Int32) (re : Int32) (ti : Int32) (cn : Int32) (ro : Nat) (Qh : (Nat → HS)) : Option ((String × (Nat → Int32) × Int32 × (Nat → Int32) × Int32 × (Nat → Int32) × (Nat → Int32) × Int32 × Int32 × Nat × (Nat → HS)) ⊕ (Int32 × (Nat → Int32) × Int32 × (Nat → Int32) × Int32 × (Nat → Int32) × (Nat → Int32) × Int32 × Int32 × Nat × (Nat → HS))) :=
  bx (f_X5_requirePerson x1) (fun E_3 => some (.inl (E_3, fP, rG, fG, rL, fL, fH, di, cn, ro, Qh))) (fun u_2 =>
  bx (f_X5_requireRange x2 (-100 : Int32) (100 : Int32)) (fun E_6 => some (.inl (E_6, fP, rG, fG, rL, fL, fH, di, cn, ro, Qh))) (fun u_5 =>
  bd3 (f_X1_keep cn ro Qh rP fP rT fT rG fG rL fL rH fH gi di re ti) (fun cn_7 ro_8 Qh_9 =>
  bd8 (f_X2_changeMood x1 x2 rP fP rT fT rG fG rL fL rH fH di ti) (fun r_11 fP_12 rG_13 fG_14 rL_15 fL_16 fH_17 di_18 =>
  some (.inr (r_11, fP_12, rG_13, fG_14, rL_15, fL_16, fH_17, di_18, cn_7, ro_8, Qh_9))))))
set_option maxHeartbeats 4000000 in
set_option maxRecDepth 100000 in
theorem c_X5_cheer (l : Launch) (X : cx_G) (x0 : Nat) (hh : (Nat → Nat)) (ht : (Nat → Nat)) (ch : (Nat → Nat)) (tx : (Nat → Nat)) (y : (Nat → Nat)) (hy : (Nat → Nat → Nat)) (rP : Int32) (fP : (Nat → Int32)) (rT : Int32) (fT : (Nat → Int32)) (rG : Int32) (fG : (Nat → Int32)) (rL : Int32) (fL : (Nat → Int32)) (rH : Int32) (fH : (Nat → Int32)) (gi : Int32) (di : Int32) (re : Int32) (ti : Int32) (rPT : Int32) (fPT : (Nat → Int32)) (rTT : Int32) (fTT : (Nat → Int32)) (rGT : Int32) (fGT : (Nat → Int32)) (rLT : Int32) (fLT : (Nat → Int32)) (rHT : Int32) (fHT : (Nat → Int32)) (giT : Int32) (diT : Int32) (reT : Int32) (tiT : Int32) (rS : Int32) (fS : (Nat → Int32)) (rB : Int32) (fB : (Nat → Int32)) (rO : Int32) (fO : (Nat → Int32)) (pl : Int32) (fa : Int32) (cn : Int32) (ro : Nat) (Qh : (Nat → HS)) (x1 : Int32) (x2 : Int32) (r : Int32) (fP' : (Nat → Int32)) (rG' : Int32) (fG' : (Nat → Int32)) (rL' : Int32) (fL' : (Nat → Int32)) (fH' : (Nat → Int32)) (di' : Int32) (cn' : Int32) (ro' : Nat) (Qh' : (Nat → HS)) (hf : f_X5_cheer x1 x2 rP fP rT fT rG fG rL fL rH fH gi di re ti cn ro Qh = some (.inr (r, fP', rG', fG', rL', fL', fH', di', cn', ro', Qh'))) : Fn l yX5_cheer wsX5_cheer ({ frames := 4, cells := 0, slots := 0, locals := 98 } : Room) X [.ref (x0), .int x1, .int x2] (wLR X x0 hh ht ch tx y hy rP fP rT fT rG fG rL fL rH fH gi di re ti rPT fPT rTT fTT rGT fGT rLT fLT rHT fHT giT diT reT tiT rS fS rB fB rO fO pl fa cn ro Qh) (some (.int r)) (wLR X x0 hh ht ch tx y hy rP fP' rT fT rG' fG' rL' fL' rH fH' gi di' re ti rPT fPT rTT fTT rGT fGT rLT fLT rHT fHT giT diT reT tiT rS fS rB fB rO fO pl fa cn' ro' Qh') := by
  refine fn_intro (cc := cX5_cheer) (maxL := 3) (ret := (some .int)) (by decide) rfl (wLR_fst.trans wLR_fst.symm) (Nat.le_of_ble_eq_true rfl) ?_
  intro p e s m args below meth c A ls hx hb hml hr hts hown hlocks hK hP hD0 hS hA hl
  have hown : s.vm.findClass RX5 = some m.cls := hown
  have hl : lv_has ls 3 [(0, .ref (x0)), (1, .int x1), (2, .int x2)] := hl
  have hiX5 : ∀ w ∈ u_ws RX5 TX5 5, w ∈ wsX5_cheer := by decide +kernel
  have k10 := hts (.fieldLink RX5 10 "LentRights" "house" "LLentRights$House;") (by decide +kernel)
  have k22 := hts (.fieldLink RX5 22 "LentRights" "history" "LLentRights$History;") (by decide +kernel)
  unfold f_X5_cheer at hf
  refine lv_iload_n hx hb dX5_cheer_0 rfl (lv_at hl 1 rfl) ?_
  rcases bx_of hf with ⟨E_3, hc_1, hf⟩ | ⟨u_2, hc_1, hf⟩
  · cases hf
  · refine fn_Sx (v := none) (As := [.int x1]) (rest := []) (st1 := []) (ws' := (wLR X x0 hh ht ch tx y hy rP fP rT fT rG fG rL fL rH fH gi di re ti rPT fPT rTT fTT rGT fGT rLT fLT rHT fHT giT diT reT tiT rS fS rB fB rO fO pl fa cn ro Qh)) (nL := 3) ⟨hx, hb, hml, hown, hts⟩ (c_X5_requirePerson l X x1 hc_1) (va_cwS 1 hts gX5_cheer_X5_requirePerson rfl rfl rfl (by decide +kernel) ⟨Nat.le_of_ble_eq_true rfl, Nat.le_of_ble_eq_true rfl⟩) rfl hl.1 rfl (Nat.le_of_ble_eq_true rfl) dX5_cheer_1 hK hP (hD0.addr (wLR_fst.trans wLR_fst.symm)) hS hA [] (by decide +kernel) rfl (pt_setid _ _ _ rfl) rfl ⟨Nat.zero_le _, Nat.zero_le _⟩ (fun H locs hP hD hS => ?_)
    refine lv_iload_n hx hb dX5_cheer_4 rfl (lv_at hl 2 rfl) ?_
    refine lv_bipush (v := -100) hx hb dX5_cheer_5 (by decide) ?_
    refine lv_bipush (v := 100) hx hb dX5_cheer_7 (by decide) ?_
    rcases bx_of hf with ⟨E_6, hc_4, hf⟩ | ⟨u_5, hc_4, hf⟩
    · cases hf
    · refine fn_Sx (v := none) (As := [.int x2, .int (-100 : Int32), .int (100 : Int32)]) (rest := []) (st1 := []) (ws' := (wLR X x0 hh ht ch tx y hy rP fP rT fT rG fG rL fL rH fH gi di re ti rPT fPT rTT fTT rGT fGT rLT fLT rHT fHT giT diT reT tiT rS fS rB fB rO fO pl fa cn ro Qh)) (nL := 3) ⟨hx, hb, hml, hown, hts⟩ (c_X5_requireRange l X x2 (-100 : Int32) (100 : Int32) hc_4) (va_cwS 3 hts gX5_cheer_X5_requireRange rfl rfl rfl (by decide +kernel) ⟨Nat.le_of_ble_eq_true rfl, Nat.le_of_ble_eq_true rfl⟩) rfl hl.1 rfl (Nat.le_of_ble_eq_true rfl) dX5_cheer_9 hK hP (hD0.addr (wLR_fst.trans wLR_fst.symm)) hS hA [] (by decide +kernel) rfl (pt_setid _ _ _ rfl) rfl ⟨Nat.zero_le _, Nat.zero_le _⟩ (fun H locs hP hD hS => ?_)
      refine lv_aload_n hx hb dX5_cheer_12 rfl (lv_at hl 0 rfl) ?_
      refine va_get (D := X.1) (ci := 5) (v := .ref (y 0)) (C := RX5) (T := TX5) (N := 5) hx hb hts hiX5 hown hK.1 hP 0 rfl rfl 2 (by decide) k22 (fun _ h9 => h9) rfl dX5_cheer_13 ?_
      refine lv_aload_n hx hb dX5_cheer_16 rfl (lv_at hl 0 rfl) ?_
      refine va_get (D := X.1) (ci := 5) (v := .ref (hh 0)) (C := RX5) (T := TX5) (N := 5) hx hb hts hiX5 hown hK.1 hP 0 rfl rfl 0 (by decide) k10 (fun _ h9 => h9) rfl dX5_cheer_17 ?_
      obtain ⟨cn_7, ro_8, Qh_9, hc_10, hf⟩ := bd3_of hf
      refine fn_VJ (v := none) (As := [.ref (hh 0)]) (rest := []) (st1 := []) (ws' := (wLR X x0 hh ht ch tx y hy rP fP rT fT rG fG rL fL rH fH gi di re ti rPT fPT rTT fTT rGT fGT rLT fLT rHT fHT giT diT reT tiT rS fS rB fB rO fO pl fa cn_7 ro_8 Qh_9)) (nL := 3) ⟨hx, hb, hml, hown, hts⟩ (c_X1_keep l X y hy hh cn ro Qh rP fP rT fT rG fG rL fL rH fH gi di re ti cn_7 ro_8 Qh_9 hc_10) (cwV 1 hts gX5_cheer_X1_keep rfl rfl rfl (by decide +kernel) ⟨Nat.le_of_ble_eq_true rfl, Nat.le_of_ble_eq_true rfl⟩) 1 rfl rfl rfl rfl hl.1 rfl (Nat.le_of_ble_eq_true rfl) dX5_cheer_20 hK hP (hD0.addr (wLR_fst.trans wLR_fst.symm)) hS hA [31, 32, 33, 34, 35, 36, 37, 38, 39, 40, 41, 42, 43, 44, 45, 46, 47, 48, 49, 50, 51, 52, 53, 54, 55, 56, 57, 58, 59, 60, 61, 62, 63, 64, 65, 66, 67, 68, 69, 70, 71, 72, 73, 74, 75, 76, 1, 2, 3, 4, 5, 6, 7, 8, 9, 10, 11] (by decide +kernel) lC_ih lJ_ih (wLR_fst.trans wLR_fst.symm) rfl ⟨Nat.zero_le _, Nat.zero_le _⟩ (fun H locs hP hD hS => ?_)
      refine lv_aload_n hx hb dX5_cheer_23 rfl (lv_at hl 0 rfl) ?_
      refine va_get (D := X.1) (ci := 5) (v := .ref (hh 0)) (C := RX5) (T := TX5) (N := 5) hx hb hts hiX5 hown hK.1 hP 0 rfl rfl 0 (by decide) k10 (fun _ h9 => h9) rfl dX5_cheer_24 ?_
      refine lv_iload_n hx hb dX5_cheer_27 rfl (lv_at hl 1 rfl) ?_
      refine lv_iload_n hx hb dX5_cheer_28 rfl (lv_at hl 2 rfl) ?_
      obtain ⟨r_11, fP_12, rG_13, fG_14, rL_15, fL_16, fH_17, di_18, hc_19, hf⟩ := bd8_of hf
      refine fn_VJ (v := some (.int r_11)) (As := [.int x1, .int x2]) (rest := []) (st1 := [.int r_11]) (ws' := (wLR X x0 hh ht ch tx y hy rP fP_12 rT fT rG_13 fG_14 rL_15 fL_16 rH fH_17 gi di_18 re ti rPT fPT rTT fTT rGT fGT rLT fLT rHT fHT giT diT reT tiT rS fS rB fB rO fO pl fa cn_7 ro_8 Qh_9)) (nL := 3) ⟨hx, hb, hml, hown, hts⟩ (c_X2_changeMood l X hh rP fP rT fT rG fG rL fL rH fH gi di re ti x1 x2 r_11 fP_12 rG_13 fG_14 rL_15 fL_16 fH_17 di_18 hc_19) (cwV 2 hts gX5_cheer_X2_changeMood rfl rfl rfl (by decide +kernel) ⟨Nat.le_of_ble_eq_true rfl, Nat.le_of_ble_eq_true rfl⟩) 2 rfl rfl rfl rfl hl.1 rfl (Nat.le_of_ble_eq_true rfl) dX5_cheer_29 hK hP (hD0.addr (wLR_fst.trans wLR_fst.symm)) hS hA [1, 2, 3, 4, 5, 6, 7, 8, 9, 10, 11] (by decide +kernel) lC_h lJ_h (wLR_fst.trans wLR_fst.symm) rfl ⟨Nat.zero_le _, Nat.zero_le _⟩ (fun H locs hP hD hS => ?_)
      cases hf
      exact fn_iret hx hb hr hlocks hP hS dX5_cheer_32

def f_X5_pass (x1 : Int32) (rP : Int32) (fP : (Nat → Int32)) (rT : Int32) (fT : (Nat → Int32)) (rG : Int32) (fG : (Nat → Int32)) (rL : Int32) (fL : (Nat → Int32)) (rH : Int32) (fH : (Nat → Int32)) (gi : Int32) (di : Int32) (re : Int32) (ti : Int32) (cn : Int32) (ro : Nat) (Qh : (Nat → HS)) : Option ((String × (Nat → Int32) × Int32 × (Nat → Int32) × Int32 × (Nat → Int32) × (Nat → Int32) × Int32 × Int32 × Int32 × Nat × (Nat → HS)) ⊕ (Int32 × (Nat → Int32) × Int32 × (Nat → Int32) × Int32 × (Nat → Int32) × (Nat → Int32) × Int32 × Int32 × Int32 × Nat × (Nat → HS))) :=
  bx (f_X5_requireRange x1 (1 : Int32) (100 : Int32)) (fun E_3 => some (.inl (E_3, fP, rG, fG, rL, fL, fH, di, ti, cn, ro, Qh))) (fun u_2 =>
  bd (f_X2_hasTimeFor x1 ti) (fun r_4 =>
  if r_4 = (0 : Int32) then
  (some (.inl ("java/lang/IllegalStateException", fP, rG, fG, rL, fL, fH, di, ti, cn, ro, Qh)))
  else
  (bd3 (f_X1_keep cn ro Qh rP fP rT fT rG fG rL fL rH fH gi di re ti) (fun cn_7 ro_8 Qh_9 =>
  bd9 (f_X2_letPass x1 rP fP rT fT rG fG rL fL rH fH di ti) (fun r_11 fP_12 rG_13 fG_14 rL_15 fL_16 fH_17 di_18 ti_19 =>
  some (.inr (r_11, fP_12, rG_13, fG_14, rL_15, fL_16, fH_17, di_18, ti_19, cn_7, ro_8, Qh_9)))))))
set_option maxHeartbeats 4000000 in
set_option maxRecDepth 100000 in
theorem c_X5_pass (l : Launch) (X : cx_G) (x0 : Nat) (hh : (Nat → Nat)) (ht : (Nat → Nat)) (ch : (Nat → Nat)) (tx : (Nat → Nat)) (y : (Nat → Nat)) (hy : (Nat → Nat → Nat)) (rP : Int32) (fP : (Nat → Int32)) (rT : Int32) (fT : (Nat → Int32)) (rG : Int32) (fG : (Nat → Int32)) (rL : Int32) (fL : (Nat → Int32)) (rH : Int32) (fH : (Nat → Int32)) (gi : Int32) (di : Int32) (re : Int32) (ti : Int32) (rPT : Int32) (fPT : (Nat → Int32)) (rTT : Int32) (fTT : (Nat → Int32)) (rGT : Int32) (fGT : (Nat → Int32)) (rLT : Int32) (fLT : (Nat → Int32)) (rHT : Int32) (fHT : (Nat → Int32)) (giT : Int32) (diT : Int32) (reT : Int32) (tiT : Int32) (rS : Int32) (fS : (Nat → Int32)) (rB : Int32) (fB : (Nat → Int32)) (rO : Int32) (fO : (Nat → Int32)) (pl : Int32) (fa : Int32) (cn : Int32) (ro : Nat) (Qh : (Nat → HS)) (x1 : Int32) (r : Int32) (fP' : (Nat → Int32)) (rG' : Int32) (fG' : (Nat → Int32)) (rL' : Int32) (fL' : (Nat → Int32)) (fH' : (Nat → Int32)) (di' : Int32) (ti' : Int32) (cn' : Int32) (ro' : Nat) (Qh' : (Nat → HS)) (hf : f_X5_pass x1 rP fP rT fT rG fG rL fL rH fH gi di re ti cn ro Qh = some (.inr (r, fP', rG', fG', rL', fL', fH', di', ti', cn', ro', Qh'))) : Fn l yX5_pass wsX5_pass ({ frames := 4, cells := 0, slots := 0, locals := 98 } : Room) X [.ref (x0), .int x1] (wLR X x0 hh ht ch tx y hy rP fP rT fT rG fG rL fL rH fH gi di re ti rPT fPT rTT fTT rGT fGT rLT fLT rHT fHT giT diT reT tiT rS fS rB fB rO fO pl fa cn ro Qh) (some (.int r)) (wLR X x0 hh ht ch tx y hy rP fP' rT fT rG' fG' rL' fL' rH fH' gi di' re ti' rPT fPT rTT fTT rGT fGT rLT fLT rHT fHT giT diT reT tiT rS fS rB fB rO fO pl fa cn' ro' Qh') := by
  refine fn_intro (cc := cX5_pass) (maxL := 2) (ret := (some .int)) (by decide) rfl (wLR_fst.trans wLR_fst.symm) (Nat.le_of_ble_eq_true rfl) ?_
  intro p e s m args below meth c A ls hx hb hml hr hts hown hlocks hK hP hD0 hS hA hl
  have hown : s.vm.findClass RX5 = some m.cls := hown
  have hl : lv_has ls 2 [(0, .ref (x0)), (1, .int x1)] := hl
  have hiX5 : ∀ w ∈ u_ws RX5 TX5 5, w ∈ wsX5_pass := by decide +kernel
  have k10 := hts (.fieldLink RX5 10 "LentRights" "house" "LLentRights$House;") (by decide +kernel)
  have k22 := hts (.fieldLink RX5 22 "LentRights" "history" "LLentRights$History;") (by decide +kernel)
  unfold f_X5_pass at hf
  refine lv_iload_n hx hb dX5_pass_0 rfl (lv_at hl 1 rfl) ?_
  refine lv_iconst (v := 1) hx hb dX5_pass_1 (by decide) ?_
  refine lv_bipush (v := 100) hx hb dX5_pass_2 (by decide) ?_
  rcases bx_of hf with ⟨E_3, hc_1, hf⟩ | ⟨u_2, hc_1, hf⟩
  · cases hf
  · refine fn_Sx (v := none) (As := [.int x1, .int (1 : Int32), .int (100 : Int32)]) (rest := []) (st1 := []) (ws' := (wLR X x0 hh ht ch tx y hy rP fP rT fT rG fG rL fL rH fH gi di re ti rPT fPT rTT fTT rGT fGT rLT fLT rHT fHT giT diT reT tiT rS fS rB fB rO fO pl fa cn ro Qh)) (nL := 2) ⟨hx, hb, hml, hown, hts⟩ (c_X5_requireRange l X x1 (1 : Int32) (100 : Int32) hc_1) (va_cwS 3 hts gX5_pass_X5_requireRange rfl rfl rfl (by decide +kernel) ⟨Nat.le_of_ble_eq_true rfl, Nat.le_of_ble_eq_true rfl⟩) rfl hl.1 rfl (Nat.le_of_ble_eq_true rfl) dX5_pass_4 hK hP (hD0.addr (wLR_fst.trans wLR_fst.symm)) hS hA [] (by decide +kernel) rfl (pt_setid _ _ _ rfl) rfl ⟨Nat.zero_le _, Nat.zero_le _⟩ (fun H locs hP hD hS => ?_)
    refine lv_aload_n hx hb dX5_pass_7 rfl (lv_at hl 0 rfl) ?_
    refine va_get (D := X.1) (ci := 5) (v := .ref (hh 0)) (C := RX5) (T := TX5) (N := 5) hx hb hts hiX5 hown hK.1 hP 0 rfl rfl 0 (by decide) k10 (fun _ h9 => h9) rfl dX5_pass_8 ?_
    refine lv_iload_n hx hb dX5_pass_11 rfl (lv_at hl 1 rfl) ?_
    obtain ⟨r_4, hc_5, hf⟩ := bd_of hf
    refine fn_V (v := some (.int r_4)) (As := [.int x1]) (rest := []) (st1 := [.int r_4]) (ws' := (wLR X x0 hh ht ch tx y hy rP fP rT fT rG fG rL fL rH fH gi di re ti rPT fPT rTT fTT rGT fGT rLT fLT rHT fHT giT diT reT tiT rS fS rB fB rO fO pl fa cn ro Qh)) (nL := 2) ⟨hx, hb, hml, hown, hts⟩ (c_X2_hasTimeFor l X hh rP fP rT fT rG fG rL fL rH fH gi di re ti x1 r_4 hc_5) (cwV 1 hts gX5_pass_X2_hasTimeFor rfl rfl rfl (by decide +kernel) ⟨Nat.le_of_ble_eq_true rfl, Nat.le_of_ble_eq_true rfl⟩) 2 rfl rfl rfl rfl hl.1 rfl (Nat.le_of_ble_eq_true rfl) dX5_pass_12 hK hP (hD0.addr (wLR_fst.trans wLR_fst.symm)) hS hA [1, 2, 3, 4, 5, 6, 7, 8, 9, 10, 11] (by decide +kernel) lC_h (pt_setid _ _ _ lC_h) rfl ⟨Nat.zero_le _, Nat.zero_le _⟩ (fun H locs hP hD hS => ?_)
    refine lv_if_ne (tgt := 28) hx hb dX5_pass_15 (by decide) (fun c_6 => ?_) (fun c_6 => ?_)
    · replace hf := fp_f c_6 hf
      refine lv_aload_n hx hb dX5_pass_28 rfl (lv_at hl 0 rfl) ?_
      refine va_get (D := X.1) (ci := 5) (v := .ref (y 0)) (C := RX5) (T := TX5) (N := 5) hx hb hts hiX5 hown hK.1 hP 0 rfl rfl 2 (by decide) k22 (fun _ h9 => h9) rfl dX5_pass_29 ?_
      refine lv_aload_n hx hb dX5_pass_32 rfl (lv_at hl 0 rfl) ?_
      refine va_get (D := X.1) (ci := 5) (v := .ref (hh 0)) (C := RX5) (T := TX5) (N := 5) hx hb hts hiX5 hown hK.1 hP 0 rfl rfl 0 (by decide) k10 (fun _ h9 => h9) rfl dX5_pass_33 ?_
      obtain ⟨cn_7, ro_8, Qh_9, hc_10, hf⟩ := bd3_of hf
      refine fn_VJ (v := none) (As := [.ref (hh 0)]) (rest := []) (st1 := []) (ws' := (wLR X x0 hh ht ch tx y hy rP fP rT fT rG fG rL fL rH fH gi di re ti rPT fPT rTT fTT rGT fGT rLT fLT rHT fHT giT diT reT tiT rS fS rB fB rO fO pl fa cn_7 ro_8 Qh_9)) (nL := 2) ⟨hx, hb, hml, hown, hts⟩ (c_X1_keep l X y hy hh cn ro Qh rP fP rT fT rG fG rL fL rH fH gi di re ti cn_7 ro_8 Qh_9 hc_10) (cwV 1 hts gX5_pass_X1_keep rfl rfl rfl (by decide +kernel) ⟨Nat.le_of_ble_eq_true rfl, Nat.le_of_ble_eq_true rfl⟩) 1 rfl rfl rfl rfl hl.1 rfl (Nat.le_of_ble_eq_true rfl) dX5_pass_36 hK hP (hD0.addr (wLR_fst.trans wLR_fst.symm)) hS hA [31, 32, 33, 34, 35, 36, 37, 38, 39, 40, 41, 42, 43, 44, 45, 46, 47, 48, 49, 50, 51, 52, 53, 54, 55, 56, 57, 58, 59, 60, 61, 62, 63, 64, 65, 66, 67, 68, 69, 70, 71, 72, 73, 74, 75, 76, 1, 2, 3, 4, 5, 6, 7, 8, 9, 10, 11] (by decide +kernel) lC_ih lJ_ih (wLR_fst.trans wLR_fst.symm) rfl ⟨Nat.zero_le _, Nat.zero_le _⟩ (fun H locs hP hD hS => ?_)
      refine lv_aload_n hx hb dX5_pass_39 rfl (lv_at hl 0 rfl) ?_
      refine va_get (D := X.1) (ci := 5) (v := .ref (hh 0)) (C := RX5) (T := TX5) (N := 5) hx hb hts hiX5 hown hK.1 hP 0 rfl rfl 0 (by decide) k10 (fun _ h9 => h9) rfl dX5_pass_40 ?_
      refine lv_iload_n hx hb dX5_pass_43 rfl (lv_at hl 1 rfl) ?_
      obtain ⟨r_11, fP_12, rG_13, fG_14, rL_15, fL_16, fH_17, di_18, ti_19, hc_20, hf⟩ := bd9_of hf
      refine fn_VJ (v := some (.int r_11)) (As := [.int x1]) (rest := []) (st1 := [.int r_11]) (ws' := (wLR X x0 hh ht ch tx y hy rP fP_12 rT fT rG_13 fG_14 rL_15 fL_16 rH fH_17 gi di_18 re ti_19 rPT fPT rTT fTT rGT fGT rLT fLT rHT fHT giT diT reT tiT rS fS rB fB rO fO pl fa cn_7 ro_8 Qh_9)) (nL := 2) ⟨hx, hb, hml, hown, hts⟩ (c_X2_letPass l X hh rP fP rT fT rG fG rL fL rH fH gi di re ti x1 r_11 fP_12 rG_13 fG_14 rL_15 fL_16 fH_17 di_18 ti_19 hc_20) (cwV 1 hts gX5_pass_X2_letPass rfl rfl rfl (by decide +kernel) ⟨Nat.le_of_ble_eq_true rfl, Nat.le_of_ble_eq_true rfl⟩) 2 rfl rfl rfl rfl hl.1 rfl (Nat.le_of_ble_eq_true rfl) dX5_pass_44 hK hP (hD0.addr (wLR_fst.trans wLR_fst.symm)) hS hA [1, 2, 3, 4, 5, 6, 7, 8, 9, 10, 11] (by decide +kernel) lC_h lJ_h (wLR_fst.trans wLR_fst.symm) rfl ⟨Nat.zero_le _, Nat.zero_le _⟩ (fun H locs hP hD hS => ?_)
      cases hf
      exact fn_iret hx hb hr hlocks hP hS dX5_pass_47
    · replace hf := fp_t c_6 hf
      cases hf

def f_X5_held (x1 : Int32) (x2 : Int32) (rT : Int32) (rH : Int32) (fH : (Nat → Int32)) : Option ((String) ⊕ (Int32)) :=
  bx (f_X5_requirePerson x1) (fun E_3 => some (.inl E_3)) (fun u_2 =>
  bx (f_X5_requireThing x2 rT) (fun E_6 => some (.inl E_6)) (fun u_5 =>
  bd (f_X2_rightsOf x1 x2 rH fH) (fun r_7 =>
  some (.inr r_7))))
set_option maxHeartbeats 4000000 in
set_option maxRecDepth 100000 in
theorem c_X5_held (l : Launch) (X : cx_G) (x0 : Nat) (hh : (Nat → Nat)) (ht : (Nat → Nat)) (ch : (Nat → Nat)) (tx : (Nat → Nat)) (y : (Nat → Nat)) (hy : (Nat → Nat → Nat)) (rP : Int32) (fP : (Nat → Int32)) (rT : Int32) (fT : (Nat → Int32)) (rG : Int32) (fG : (Nat → Int32)) (rL : Int32) (fL : (Nat → Int32)) (rH : Int32) (fH : (Nat → Int32)) (gi : Int32) (di : Int32) (re : Int32) (ti : Int32) (rPT : Int32) (fPT : (Nat → Int32)) (rTT : Int32) (fTT : (Nat → Int32)) (rGT : Int32) (fGT : (Nat → Int32)) (rLT : Int32) (fLT : (Nat → Int32)) (rHT : Int32) (fHT : (Nat → Int32)) (giT : Int32) (diT : Int32) (reT : Int32) (tiT : Int32) (rS : Int32) (fS : (Nat → Int32)) (rB : Int32) (fB : (Nat → Int32)) (rO : Int32) (fO : (Nat → Int32)) (pl : Int32) (fa : Int32) (cn : Int32) (ro : Nat) (Qh : (Nat → HS)) (x1 : Int32) (x2 : Int32) (r : Int32) (hf : f_X5_held x1 x2 rT rH fH = some (.inr r)) : Fn l yX5_held wsX5_held ({ frames := 3, cells := 0, slots := 0, locals := 62 } : Room) X [.ref (x0), .int x1, .int x2] (wLR X x0 hh ht ch tx y hy rP fP rT fT rG fG rL fL rH fH gi di re ti rPT fPT rTT fTT rGT fGT rLT fLT rHT fHT giT diT reT tiT rS fS rB fB rO fO pl fa cn ro Qh) (some (.int r)) (wLR X x0 hh ht ch tx y hy rP fP rT fT rG fG rL fL rH fH gi di re ti rPT fPT rTT fTT rGT fGT rLT fLT rHT fHT giT diT reT tiT rS fS rB fB rO fO pl fa cn ro Qh) := by
  refine fn_intro (cc := cX5_held) (maxL := 3) (ret := (some .int)) (by decide) rfl rfl (Nat.le_of_ble_eq_true rfl) ?_
  intro p e s m args below meth c A ls hx hb hml hr hts hown hlocks hK hP hD0 hS hA hl
  have hown : s.vm.findClass RX5 = some m.cls := hown
  have hl : lv_has ls 3 [(0, .ref (x0)), (1, .int x1), (2, .int x2)] := hl
  have hiX5 : ∀ w ∈ u_ws RX5 TX5 5, w ∈ wsX5_held := by decide +kernel
  have k10 := hts (.fieldLink RX5 10 "LentRights" "house" "LLentRights$House;") (by decide +kernel)
  unfold f_X5_held at hf
  refine lv_iload_n hx hb dX5_held_0 rfl (lv_at hl 1 rfl) ?_
  rcases bx_of hf with ⟨E_3, hc_1, hf⟩ | ⟨u_2, hc_1, hf⟩
  · cases hf
  · refine fn_Sx (v := none) (As := [.int x1]) (rest := []) (st1 := []) (ws' := (wLR X x0 hh ht ch tx y hy rP fP rT fT rG fG rL fL rH fH gi di re ti rPT fPT rTT fTT rGT fGT rLT fLT rHT fHT giT diT reT tiT rS fS rB fB rO fO pl fa cn ro Qh)) (nL := 3) ⟨hx, hb, hml, hown, hts⟩ (c_X5_requirePerson l X x1 hc_1) (va_cwS 1 hts gX5_held_X5_requirePerson rfl rfl rfl (by decide +kernel) ⟨Nat.le_of_ble_eq_true rfl, Nat.le_of_ble_eq_true rfl⟩) rfl hl.1 rfl (Nat.le_of_ble_eq_true rfl) dX5_held_1 hK hP (hD0.addr (wLR_fst.trans wLR_fst.symm)) hS hA [] (by decide +kernel) rfl (pt_setid _ _ _ rfl) rfl ⟨Nat.zero_le _, Nat.zero_le _⟩ (fun H locs hP hD hS => ?_)
    refine lv_aload_n hx hb dX5_held_4 rfl (lv_at hl 0 rfl) ?_
    refine lv_iload_n hx hb dX5_held_5 rfl (lv_at hl 2 rfl) ?_
    rcases bx_of hf with ⟨E_6, hc_4, hf⟩ | ⟨u_5, hc_4, hf⟩
    · cases hf
    · refine fn_V (v := none) (As := [.int x2]) (rest := []) (st1 := []) (ws' := (wLR X x0 hh ht ch tx y hy rP fP rT fT rG fG rL fL rH fH gi di re ti rPT fPT rTT fTT rGT fGT rLT fLT rHT fHT giT diT reT tiT rS fS rB fB rO fO pl fa cn ro Qh)) (nL := 3) ⟨hx, hb, hml, hown, hts⟩ (c_X5_requireThing l X x0 hh ht ch tx y hy rP fP rT fT rG fG rL fL rH fH gi di re ti rPT fPT rTT fTT rGT fGT rLT fLT rHT fHT giT diT reT tiT rS fS rB fB rO fO pl fa cn ro Qh x2 hc_4) (cwV 1 hts gX5_held_X5_requireThing rfl rfl rfl (by decide +kernel) ⟨Nat.le_of_ble_eq_true rfl, Nat.le_of_ble_eq_true rfl⟩) 5 rfl rfl rfl rfl hl.1 rfl (Nat.le_of_ble_eq_true rfl) dX5_held_6 hK hP (hD0.addr (wLR_fst.trans wLR_fst.symm)) hS hA [0, 1, 2, 3, 4, 5, 6, 7, 8, 9, 10, 11, 12, 13, 14, 15, 16, 17, 18, 19, 20, 21, 22, 23, 24, 25, 26, 27, 28, 29, 30, 31, 32, 33, 34, 35, 36, 37, 38, 39, 40, 41, 42, 43, 44, 45, 46, 47, 48, 49, 50, 51, 52, 53, 54, 55, 56, 57, 58, 59, 60, 61, 62, 63, 64, 65, 66, 67, 68, 69, 70, 71, 72, 73, 74, 75, 76] (by decide +kernel) lC_a (pt_setid _ _ _ lC_a) rfl ⟨Nat.zero_le _, Nat.zero_le _⟩ (fun H locs hP hD hS => ?_)
      refine lv_aload_n hx hb dX5_held_9 rfl (lv_at hl 0 rfl) ?_
      refine va_get (D := X.1) (ci := 5) (v := .ref (hh 0)) (C := RX5) (T := TX5) (N := 5) hx hb hts hiX5 hown hK.1 hP 0 rfl rfl 0 (by decide) k10 (fun _ h9 => h9) rfl dX5_held_10 ?_
      refine lv_iload_n hx hb dX5_held_13 rfl (lv_at hl 1 rfl) ?_
      refine lv_iload_n hx hb dX5_held_14 rfl (lv_at hl 2 rfl) ?_
      obtain ⟨r_7, hc_8, hf⟩ := bd_of hf
      refine fn_V (v := some (.int r_7)) (As := [.int x1, .int x2]) (rest := []) (st1 := [.int r_7]) (ws' := (wLR X x0 hh ht ch tx y hy rP fP rT fT rG fG rL fL rH fH gi di re ti rPT fPT rTT fTT rGT fGT rLT fLT rHT fHT giT diT reT tiT rS fS rB fB rO fO pl fa cn ro Qh)) (nL := 3) ⟨hx, hb, hml, hown, hts⟩ (c_X2_rightsOf l X hh rP fP rT fT rG fG rL fL rH fH gi di re ti x1 x2 r_7 hc_8) (cwV 2 hts gX5_held_X2_rightsOf rfl rfl rfl (by decide +kernel) ⟨Nat.le_of_ble_eq_true rfl, Nat.le_of_ble_eq_true rfl⟩) 2 rfl rfl rfl rfl hl.1 rfl (Nat.le_of_ble_eq_true rfl) dX5_held_15 hK hP (hD0.addr (wLR_fst.trans wLR_fst.symm)) hS hA [1, 2, 3, 4, 5, 6, 7, 8, 9, 10, 11] (by decide +kernel) lC_h (pt_setid _ _ _ lC_h) rfl ⟨Nat.zero_le _, Nat.zero_le _⟩ (fun H locs hP hD hS => ?_)
      cases hf
      exact fn_iret hx hb hr hlocks hP hS dX5_held_18

def f_X5_person (x1 : Int32) (x2 : Int32) (rP : Int32) (fP : (Nat → Int32)) (rT : Int32) (fT : (Nat → Int32)) (rG : Int32) (fG : (Nat → Int32)) (rH : Int32) (fH : (Nat → Int32)) : Option ((String) ⊕ (Int32)) :=
  bx (f_X5_requirePerson x1) (fun E_3 => some (.inl E_3)) (fun u_2 =>
  bx (f_X5_requireRange x2 (0 : Int32) (6 : Int32)) (fun E_6 => some (.inl E_6)) (fun u_5 =>
  bd (f_X2_aboutPerson x1 x2 rP fP rT fT rG fG rH fH) (fun r_7 =>
  some (.inr r_7))))
set_option maxHeartbeats 4000000 in
set_option maxRecDepth 100000 in
theorem c_X5_person (l : Launch) (X : cx_G) (x0 : Nat) (hh : (Nat → Nat)) (ht : (Nat → Nat)) (ch : (Nat → Nat)) (tx : (Nat → Nat)) (y : (Nat → Nat)) (hy : (Nat → Nat → Nat)) (rP : Int32) (fP : (Nat → Int32)) (rT : Int32) (fT : (Nat → Int32)) (rG : Int32) (fG : (Nat → Int32)) (rL : Int32) (fL : (Nat → Int32)) (rH : Int32) (fH : (Nat → Int32)) (gi : Int32) (di : Int32) (re : Int32) (ti : Int32) (rPT : Int32) (fPT : (Nat → Int32)) (rTT : Int32) (fTT : (Nat → Int32)) (rGT : Int32) (fGT : (Nat → Int32)) (rLT : Int32) (fLT : (Nat → Int32)) (rHT : Int32) (fHT : (Nat → Int32)) (giT : Int32) (diT : Int32) (reT : Int32) (tiT : Int32) (rS : Int32) (fS : (Nat → Int32)) (rB : Int32) (fB : (Nat → Int32)) (rO : Int32) (fO : (Nat → Int32)) (pl : Int32) (fa : Int32) (cn : Int32) (ro : Nat) (Qh : (Nat → HS)) (x1 : Int32) (x2 : Int32) (r : Int32) (hf : f_X5_person x1 x2 rP fP rT fT rG fG rH fH = some (.inr r)) : Fn l yX5_person wsX5_person ({ frames := 3, cells := 0, slots := 0, locals := 70 } : Room) X [.ref (x0), .int x1, .int x2] (wLR X x0 hh ht ch tx y hy rP fP rT fT rG fG rL fL rH fH gi di re ti rPT fPT rTT fTT rGT fGT rLT fLT rHT fHT giT diT reT tiT rS fS rB fB rO fO pl fa cn ro Qh) (some (.int r)) (wLR X x0 hh ht ch tx y hy rP fP rT fT rG fG rL fL rH fH gi di re ti rPT fPT rTT fTT rGT fGT rLT fLT rHT fHT giT diT reT tiT rS fS rB fB rO fO pl fa cn ro Qh) := by
  refine fn_intro (cc := cX5_person) (maxL := 3) (ret := (some .int)) (by decide) rfl rfl (Nat.le_of_ble_eq_true rfl) ?_
  intro p e s m args below meth c A ls hx hb hml hr hts hown hlocks hK hP hD0 hS hA hl
  have hown : s.vm.findClass RX5 = some m.cls := hown
  have hl : lv_has ls 3 [(0, .ref (x0)), (1, .int x1), (2, .int x2)] := hl
  have hiX5 : ∀ w ∈ u_ws RX5 TX5 5, w ∈ wsX5_person := by decide +kernel
  have k10 := hts (.fieldLink RX5 10 "LentRights" "house" "LLentRights$House;") (by decide +kernel)
  unfold f_X5_person at hf
  refine lv_iload_n hx hb dX5_person_0 rfl (lv_at hl 1 rfl) ?_
  rcases bx_of hf with ⟨E_3, hc_1, hf⟩ | ⟨u_2, hc_1, hf⟩
  · cases hf
  · refine fn_Sx (v := none) (As := [.int x1]) (rest := []) (st1 := []) (ws' := (wLR X x0 hh ht ch tx y hy rP fP rT fT rG fG rL fL rH fH gi di re ti rPT fPT rTT fTT rGT fGT rLT fLT rHT fHT giT diT reT tiT rS fS rB fB rO fO pl fa cn ro Qh)) (nL := 3) ⟨hx, hb, hml, hown, hts⟩ (c_X5_requirePerson l X x1 hc_1) (va_cwS 1 hts gX5_person_X5_requirePerson rfl rfl rfl (by decide +kernel) ⟨Nat.le_of_ble_eq_true rfl, Nat.le_of_ble_eq_true rfl⟩) rfl hl.1 rfl (Nat.le_of_ble_eq_true rfl) dX5_person_1 hK hP (hD0.addr (wLR_fst.trans wLR_fst.symm)) hS hA [] (by decide +kernel) rfl (pt_setid _ _ _ rfl) rfl ⟨Nat.zero_le _, Nat.zero_le _⟩ (fun H locs hP hD hS => ?_)
    refine lv_iload_n hx hb dX5_person_4 rfl (lv_at hl 2 rfl) ?_
    refine lv_iconst (v := 0) hx hb dX5_person_5 (by decide) ?_
    refine lv_bipush (v := 6) hx hb dX5_person_6 (by decide) ?_
    rcases bx_of hf with ⟨E_6, hc_4, hf⟩ | ⟨u_5, hc_4, hf⟩
    · cases hf
    · refine fn_Sx (v := none) (As := [.int x2, .int (0 : Int32), .int (6 : Int32)]) (rest := []) (st1 := []) (ws' := (wLR X x0 hh ht ch tx y hy rP fP rT fT rG fG rL fL rH fH gi di re ti rPT fPT rTT fTT rGT fGT rLT fLT rHT fHT giT diT reT tiT rS fS rB fB rO fO pl fa cn ro Qh)) (nL := 3) ⟨hx, hb, hml, hown, hts⟩ (c_X5_requireRange l X x2 (0 : Int32) (6 : Int32) hc_4) (va_cwS 3 hts gX5_person_X5_requireRange rfl rfl rfl (by decide +kernel) ⟨Nat.le_of_ble_eq_true rfl, Nat.le_of_ble_eq_true rfl⟩) rfl hl.1 rfl (Nat.le_of_ble_eq_true rfl) dX5_person_8 hK hP (hD0.addr (wLR_fst.trans wLR_fst.symm)) hS hA [] (by decide +kernel) rfl (pt_setid _ _ _ rfl) rfl ⟨Nat.zero_le _, Nat.zero_le _⟩ (fun H locs hP hD hS => ?_)
      refine lv_aload_n hx hb dX5_person_11 rfl (lv_at hl 0 rfl) ?_
      refine va_get (D := X.1) (ci := 5) (v := .ref (hh 0)) (C := RX5) (T := TX5) (N := 5) hx hb hts hiX5 hown hK.1 hP 0 rfl rfl 0 (by decide) k10 (fun _ h9 => h9) rfl dX5_person_12 ?_
      refine lv_iload_n hx hb dX5_person_15 rfl (lv_at hl 1 rfl) ?_
      refine lv_iload_n hx hb dX5_person_16 rfl (lv_at hl 2 rfl) ?_
      obtain ⟨r_7, hc_8, hf⟩ := bd_of hf
      refine fn_V (v := some (.int r_7)) (As := [.int x1, .int x2]) (rest := []) (st1 := [.int r_7]) (ws' := (wLR X x0 hh ht ch tx y hy rP fP rT fT rG fG rL fL rH fH gi di re ti rPT fPT rTT fTT rGT fGT rLT fLT rHT fHT giT diT reT tiT rS fS rB fB rO fO pl fa cn ro Qh)) (nL := 3) ⟨hx, hb, hml, hown, hts⟩ (c_X2_aboutPerson l X hh rP fP rT fT rG fG rL fL rH fH gi di re ti x1 x2 r_7 hc_8) (cwV 2 hts gX5_person_X2_aboutPerson rfl rfl rfl (by decide +kernel) ⟨Nat.le_of_ble_eq_true rfl, Nat.le_of_ble_eq_true rfl⟩) 2 rfl rfl rfl rfl hl.1 rfl (Nat.le_of_ble_eq_true rfl) dX5_person_17 hK hP (hD0.addr (wLR_fst.trans wLR_fst.symm)) hS hA [1, 2, 3, 4, 5, 6, 7, 8, 9, 10, 11] (by decide +kernel) lC_h (pt_setid _ _ _ lC_h) rfl ⟨Nat.zero_le _, Nat.zero_le _⟩ (fun H locs hP hD hS => ?_)
      cases hf
      exact fn_iret hx hb hr hlocks hP hS dX5_person_20

def f_X5_thing (x1 : Int32) (x2 : Int32) (rT : Int32) (fT : (Nat → Int32)) (rG : Int32) (fG : (Nat → Int32)) (rH : Int32) (fH : (Nat → Int32)) : Option ((String) ⊕ (Int32)) :=
  bx (f_X5_requireThing x1 rT) (fun E_3 => some (.inl E_3)) (fun u_2 =>
  bx (f_X5_requireRange x2 (0 : Int32) (5 : Int32)) (fun E_6 => some (.inl E_6)) (fun u_5 =>
  bd (f_X2_aboutThing x1 x2 rT fT rG fG rH fH) (fun r_7 =>
  some (.inr r_7))))
set_option maxHeartbeats 4000000 in
set_option maxRecDepth 100000 in
theorem c_X5_thing (l : Launch) (X : cx_G) (x0 : Nat) (hh : (Nat → Nat)) (ht : (Nat → Nat)) (ch : (Nat → Nat)) (tx : (Nat → Nat)) (y : (Nat → Nat)) (hy : (Nat → Nat → Nat)) (rP : Int32) (fP : (Nat → Int32)) (rT : Int32) (fT : (Nat → Int32)) (rG : Int32) (fG : (Nat → Int32)) (rL : Int32) (fL : (Nat → Int32)) (rH : Int32) (fH : (Nat → Int32)) (gi : Int32) (di : Int32) (re : Int32) (ti : Int32) (rPT : Int32) (fPT : (Nat → Int32)) (rTT : Int32) (fTT : (Nat → Int32)) (rGT : Int32) (fGT : (Nat → Int32)) (rLT : Int32) (fLT : (Nat → Int32)) (rHT : Int32) (fHT : (Nat → Int32)) (giT : Int32) (diT : Int32) (reT : Int32) (tiT : Int32) (rS : Int32) (fS : (Nat → Int32)) (rB : Int32) (fB : (Nat → Int32)) (rO : Int32) (fO : (Nat → Int32)) (pl : Int32) (fa : Int32) (cn : Int32) (ro : Nat) (Qh : (Nat → HS)) (x1 : Int32) (x2 : Int32) (r : Int32) (hf : f_X5_thing x1 x2 rT fT rG fG rH fH = some (.inr r)) : Fn l yX5_thing wsX5_thing ({ frames := 3, cells := 0, slots := 0, locals := 70 } : Room) X [.ref (x0), .int x1, .int x2] (wLR X x0 hh ht ch tx y hy rP fP rT fT rG fG rL fL rH fH gi di re ti rPT fPT rTT fTT rGT fGT rLT fLT rHT fHT giT diT reT tiT rS fS rB fB rO fO pl fa cn ro Qh) (some (.int r)) (wLR X x0 hh ht ch tx y hy rP fP rT fT rG fG rL fL rH fH gi di re ti rPT fPT rTT fTT rGT fGT rLT fLT rHT fHT giT diT reT tiT rS fS rB fB rO fO pl fa cn ro Qh) := by
  refine fn_intro (cc := cX5_thing) (maxL := 3) (ret := (some .int)) (by decide) rfl rfl (Nat.le_of_ble_eq_true rfl) ?_
  intro p e s m args below meth c A ls hx hb hml hr hts hown hlocks hK hP hD0 hS hA hl
  have hown : s.vm.findClass RX5 = some m.cls := hown
  have hl : lv_has ls 3 [(0, .ref (x0)), (1, .int x1), (2, .int x2)] := hl
  have hiX5 : ∀ w ∈ u_ws RX5 TX5 5, w ∈ wsX5_thing := by decide +kernel
  have k10 := hts (.fieldLink RX5 10 "LentRights" "house" "LLentRights$House;") (by decide +kernel)
  unfold f_X5_thing at hf
  refine lv_aload_n hx hb dX5_thing_0 rfl (lv_at hl 0 rfl) ?_
  refine lv_iload_n hx hb dX5_thing_1 rfl (lv_at hl 1 rfl) ?_
  rcases bx_of hf with ⟨E_3, hc_1, hf⟩ | ⟨u_2, hc_1, hf⟩
  · cases hf
  · refine fn_V (v := none) (As := [.int x1]) (rest := []) (st1 := []) (ws' := (wLR X x0 hh ht ch tx y hy rP fP rT fT rG fG rL fL rH fH gi di re ti rPT fPT rTT fTT rGT fGT rLT fLT rHT fHT giT diT reT tiT rS fS rB fB rO fO pl fa cn ro Qh)) (nL := 3) ⟨hx, hb, hml, hown, hts⟩ (c_X5_requireThing l X x0 hh ht ch tx y hy rP fP rT fT rG fG rL fL rH fH gi di re ti rPT fPT rTT fTT rGT fGT rLT fLT rHT fHT giT diT reT tiT rS fS rB fB rO fO pl fa cn ro Qh x1 hc_1) (cwV 1 hts gX5_thing_X5_requireThing rfl rfl rfl (by decide +kernel) ⟨Nat.le_of_ble_eq_true rfl, Nat.le_of_ble_eq_true rfl⟩) 5 rfl rfl rfl rfl hl.1 rfl (Nat.le_of_ble_eq_true rfl) dX5_thing_2 hK hP (hD0.addr (wLR_fst.trans wLR_fst.symm)) hS hA [0, 1, 2, 3, 4, 5, 6, 7, 8, 9, 10, 11, 12, 13, 14, 15, 16, 17, 18, 19, 20, 21, 22, 23, 24, 25, 26, 27, 28, 29, 30, 31, 32, 33, 34, 35, 36, 37, 38, 39, 40, 41, 42, 43, 44, 45, 46, 47, 48, 49, 50, 51, 52, 53, 54, 55, 56, 57, 58, 59, 60, 61, 62, 63, 64, 65, 66, 67, 68, 69, 70, 71, 72, 73, 74, 75, 76] (by decide +kernel) lC_a (pt_setid _ _ _ lC_a) rfl ⟨Nat.zero_le _, Nat.zero_le _⟩ (fun H locs hP hD hS => ?_)
    refine lv_iload_n hx hb dX5_thing_5 rfl (lv_at hl 2 rfl) ?_
    refine lv_iconst (v := 0) hx hb dX5_thing_6 (by decide) ?_
    refine lv_iconst (v := 5) hx hb dX5_thing_7 (by decide) ?_
    rcases bx_of hf with ⟨E_6, hc_4, hf⟩ | ⟨u_5, hc_4, hf⟩
    · cases hf
    · refine fn_Sx (v := none) (As := [.int x2, .int (0 : Int32), .int (5 : Int32)]) (rest := []) (st1 := []) (ws' := (wLR X x0 hh ht ch tx y hy rP fP rT fT rG fG rL fL rH fH gi di re ti rPT fPT rTT fTT rGT fGT rLT fLT rHT fHT giT diT reT tiT rS fS rB fB rO fO pl fa cn ro Qh)) (nL := 3) ⟨hx, hb, hml, hown, hts⟩ (c_X5_requireRange l X x2 (0 : Int32) (5 : Int32) hc_4) (va_cwS 3 hts gX5_thing_X5_requireRange rfl rfl rfl (by decide +kernel) ⟨Nat.le_of_ble_eq_true rfl, Nat.le_of_ble_eq_true rfl⟩) rfl hl.1 rfl (Nat.le_of_ble_eq_true rfl) dX5_thing_8 hK hP (hD0.addr (wLR_fst.trans wLR_fst.symm)) hS hA [] (by decide +kernel) rfl (pt_setid _ _ _ rfl) rfl ⟨Nat.zero_le _, Nat.zero_le _⟩ (fun H locs hP hD hS => ?_)
      refine lv_aload_n hx hb dX5_thing_11 rfl (lv_at hl 0 rfl) ?_
      refine va_get (D := X.1) (ci := 5) (v := .ref (hh 0)) (C := RX5) (T := TX5) (N := 5) hx hb hts hiX5 hown hK.1 hP 0 rfl rfl 0 (by decide) k10 (fun _ h9 => h9) rfl dX5_thing_12 ?_
      refine lv_iload_n hx hb dX5_thing_15 rfl (lv_at hl 1 rfl) ?_
      refine lv_iload_n hx hb dX5_thing_16 rfl (lv_at hl 2 rfl) ?_
      obtain ⟨r_7, hc_8, hf⟩ := bd_of hf
      refine fn_V (v := some (.int r_7)) (As := [.int x1, .int x2]) (rest := []) (st1 := [.int r_7]) (ws' := (wLR X x0 hh ht ch tx y hy rP fP rT fT rG fG rL fL rH fH gi di re ti rPT fPT rTT fTT rGT fGT rLT fLT rHT fHT giT diT reT tiT rS fS rB fB rO fO pl fa cn ro Qh)) (nL := 3) ⟨hx, hb, hml, hown, hts⟩ (c_X2_aboutThing l X hh rP fP rT fT rG fG rL fL rH fH gi di re ti x1 x2 r_7 hc_8) (cwV 2 hts gX5_thing_X2_aboutThing rfl rfl rfl (by decide +kernel) ⟨Nat.le_of_ble_eq_true rfl, Nat.le_of_ble_eq_true rfl⟩) 2 rfl rfl rfl rfl hl.1 rfl (Nat.le_of_ble_eq_true rfl) dX5_thing_17 hK hP (hD0.addr (wLR_fst.trans wLR_fst.symm)) hS hA [1, 2, 3, 4, 5, 6, 7, 8, 9, 10, 11] (by decide +kernel) lC_h (pt_setid _ _ _ lC_h) rfl ⟨Nat.zero_le _, Nat.zero_le _⟩ (fun H locs hP hD hS => ?_)
      cases hf
      exact fn_iret hx hb hr hlocks hP hS dX5_thing_20
