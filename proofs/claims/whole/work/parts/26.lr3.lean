def f_X5_lostBy (x1 : Int32) (rP : Int32) (fP : (Nat → Int32)) (rT : Int32) (fT : (Nat → Int32)) (rG : Int32) (fG : (Nat → Int32)) (rL : Int32) (fL : (Nat → Int32)) (rH : Int32) (fH : (Nat → Int32)) (gi : Int32) (di : Int32) (re : Int32) (ti : Int32) (rPT : Int32) (fPT : (Nat → Int32)) (rTT : Int32) (fTT : (Nat → Int32)) (rGT : Int32) (fGT : (Nat → Int32)) (rLT : Int32) (fLT : (Nat → Int32)) (rHT : Int32) (fHT : (Nat → Int32)) (giT : Int32) (diT : Int32) (reT : Int32) (tiT : Int32) : Option ((String × Int32 × (Nat → Int32) × Int32 × (Nat → Int32) × Int32 × (Nat → Int32) × Int32 × (Nat → Int32) × Int32 × (Nat → Int32) × Int32 × Int32 × Int32 × Int32) ⊕ (Int32 × Int32 × (Nat → Int32) × Int32 × (Nat → Int32) × Int32 × (Nat → Int32) × Int32 × (Nat → Int32) × Int32 × (Nat → Int32) × Int32 × Int32 × Int32 × Int32)) :=
  bx (f_X5_requirePerson x1) (fun E_3 => some (.inl (E_3, rPT, fPT, rTT, fTT, rGT, fGT, rLT, fLT, rHT, fHT, giT, diT, reT, tiT))) (fun u_2 =>
  bd15 (f_X5_pairsLostBy x1 rP fP rT fT rG fG rL fL rH fH gi di re ti rPT fPT rTT fTT rGT fGT rLT fLT rHT fHT giT diT reT tiT) (fun r_4 rPT_5 fPT_6 rTT_7 fTT_8 rGT_9 fGT_10 rLT_11 fLT_12 rHT_13 fHT_14 giT_15 diT_16 reT_17 tiT_18 =>
  some (.inr (r_4, rPT_5, fPT_6, rTT_7, fTT_8, rGT_9, fGT_10, rLT_11, fLT_12, rHT_13, fHT_14, giT_15, diT_16, reT_17, tiT_18))))
set_option maxHeartbeats 4000000 in
set_option maxRecDepth 100000 in
theorem c_X5_lostBy (l : Launch) (X : cx_G) (x0 : Nat) (hh : (Nat → Nat)) (ht : (Nat → Nat)) (ch : (Nat → Nat)) (tx : (Nat → Nat)) (y : (Nat → Nat)) (hy : (Nat → Nat → Nat)) (rP : Int32) (fP : (Nat → Int32)) (rT : Int32) (fT : (Nat → Int32)) (rG : Int32) (fG : (Nat → Int32)) (rL : Int32) (fL : (Nat → Int32)) (rH : Int32) (fH : (Nat → Int32)) (gi : Int32) (di : Int32) (re : Int32) (ti : Int32) (rPT : Int32) (fPT : (Nat → Int32)) (rTT : Int32) (fTT : (Nat → Int32)) (rGT : Int32) (fGT : (Nat → Int32)) (rLT : Int32) (fLT : (Nat → Int32)) (rHT : Int32) (fHT : (Nat → Int32)) (giT : Int32) (diT : Int32) (reT : Int32) (tiT : Int32) (rS : Int32) (fS : (Nat → Int32)) (rB : Int32) (fB : (Nat → Int32)) (rO : Int32) (fO : (Nat → Int32)) (pl : Int32) (fa : Int32) (cn : Int32) (ro : Nat) (Qh : (Nat → HS)) (x1 : Int32) (r : Int32) (rPT' : Int32) (fPT' : (Nat → Int32)) (rTT' : Int32) (fTT' : (Nat → Int32)) (rGT' : Int32) (fGT' : (Nat → Int32)) (rLT' : Int32) (fLT' : (Nat → Int32)) (rHT' : Int32) (fHT' : (Nat → Int32)) (giT' : Int32) (diT' : Int32) (reT' : Int32) (tiT' : Int32) (hf : f_X5_lostBy x1 rP fP rT fT rG fG rL fL rH fH gi di re ti rPT fPT rTT fTT rGT fGT rLT fLT rHT fHT giT diT reT tiT = some (.inr (r, rPT', fPT', rTT', fTT', rGT', fGT', rLT', fLT', rHT', fHT', giT', diT', reT', tiT'))) : Fn l yX5_lostBy wsX5_lostBy ({ frames := 5, cells := 0, slots := 0, locals := 119 } : Room) X [.ref (x0), .int x1] (wLR X x0 hh ht ch tx y hy rP fP rT fT rG fG rL fL rH fH gi di re ti rPT fPT rTT fTT rGT fGT rLT fLT rHT fHT giT diT reT tiT rS fS rB fB rO fO pl fa cn ro Qh) (some (.int r)) (wLR X x0 hh ht ch tx y hy rP fP rT fT rG fG rL fL rH fH gi di re ti rPT' fPT' rTT' fTT' rGT' fGT' rLT' fLT' rHT' fHT' giT' diT' reT' tiT' rS fS rB fB rO fO pl fa cn ro Qh) := by
  refine fn_intro (cc := cX5_lostBy) (maxL := 2) (ret := (some .int)) (by decide) rfl (wLR_fst.trans wLR_fst.symm) (Nat.le_of_ble_eq_true rfl) ?_
  intro p e s m args below meth c A ls hx hb hml hr hts hown hlocks hK hP hD0 hS hA hl
  have hown : s.vm.findClass RX5 = some m.cls := hown
  have hl : lv_has ls 2 [(0, .ref (x0)), (1, .int x1)] := hl
  unfold f_X5_lostBy at hf
  refine lv_iload_n hx hb dX5_lostBy_0 rfl (lv_at hl 1 rfl) ?_
  rcases bx_of hf with ⟨E_3, hc_1, hf⟩ | ⟨u_2, hc_1, hf⟩
  · cases hf
  · refine fn_Sx (v := none) (As := [.int x1]) (rest := []) (st1 := []) (ws' := (wLR X x0 hh ht ch tx y hy rP fP rT fT rG fG rL fL rH fH gi di re ti rPT fPT rTT fTT rGT fGT rLT fLT rHT fHT giT diT reT tiT rS fS rB fB rO fO pl fa cn ro Qh)) (nL := 2) ⟨hx, hb, hml, hown, hts⟩ (c_X5_requirePerson l X x1 hc_1) (va_cwS 1 hts gX5_lostBy_X5_requirePerson rfl rfl rfl (by decide +kernel) ⟨Nat.le_of_ble_eq_true rfl, Nat.le_of_ble_eq_true rfl⟩) rfl hl.1 rfl (Nat.le_of_ble_eq_true rfl) dX5_lostBy_1 hK hP (hD0.addr (wLR_fst.trans wLR_fst.symm)) hS hA [] (by decide +kernel) rfl (pt_setid _ _ _ rfl) rfl ⟨Nat.zero_le _, Nat.zero_le _⟩ (fun H locs hP hD hS => ?_)
    refine lv_aload_n hx hb dX5_lostBy_4 rfl (lv_at hl 0 rfl) ?_
    refine lv_iload_n hx hb dX5_lostBy_5 rfl (lv_at hl 1 rfl) ?_
    obtain ⟨r_4, rPT_5, fPT_6, rTT_7, fTT_8, rGT_9, fGT_10, rLT_11, fLT_12, rHT_13, fHT_14, giT_15, diT_16, reT_17, tiT_18, hc_19, hf⟩ := bd15_of hf
    refine fn_VJ (v := some (.int r_4)) (As := [.int x1]) (rest := []) (st1 := [.int r_4]) (ws' := (wLR X x0 hh ht ch tx y hy rP fP rT fT rG fG rL fL rH fH gi di re ti rPT_5 fPT_6 rTT_7 fTT_8 rGT_9 fGT_10 rLT_11 fLT_12 rHT_13 fHT_14 giT_15 diT_16 reT_17 tiT_18 rS fS rB fB rO fO pl fa cn ro Qh)) (nL := 2) ⟨hx, hb, hml, hown, hts⟩ (c_X5_pairsLostBy l X x0 hh ht ch tx y hy rP fP rT fT rG fG rL fL rH fH gi di re ti rPT fPT rTT fTT rGT fGT rLT fLT rHT fHT giT diT reT tiT rS fS rB fB rO fO pl fa cn ro Qh x1 r_4 rPT_5 fPT_6 rTT_7 fTT_8 rGT_9 fGT_10 rLT_11 fLT_12 rHT_13 fHT_14 giT_15 diT_16 reT_17 tiT_18 hc_19) (cwV 1 hts gX5_lostBy_X5_pairsLostBy rfl rfl rfl (by decide +kernel) ⟨Nat.le_of_ble_eq_true rfl, Nat.le_of_ble_eq_true rfl⟩) 5 rfl rfl rfl rfl hl.1 rfl (Nat.le_of_ble_eq_true rfl) dX5_lostBy_6 hK hP (hD0.addr (wLR_fst.trans wLR_fst.symm)) hS hA [0, 1, 2, 3, 4, 5, 6, 7, 8, 9, 10, 11, 12, 13, 14, 15, 16, 17, 18, 19, 20, 21, 22, 23, 24, 25, 26, 27, 28, 29, 30, 31, 32, 33, 34, 35, 36, 37, 38, 39, 40, 41, 42, 43, 44, 45, 46, 47, 48, 49, 50, 51, 52, 53, 54, 55, 56, 57, 58, 59, 60, 61, 62, 63, 64, 65, 66, 67, 68, 69, 70, 71, 72, 73, 74, 75, 76] (by decide +kernel) lC_a lJ_a (wLR_fst.trans wLR_fst.symm) rfl ⟨Nat.zero_le _, Nat.zero_le _⟩ (fun H locs hP hD hS => ?_)
    cases hf
    exact fn_iret hx hb hr hlocks hP hS dX5_lostBy_9
set_option maxHeartbeats 4000000 in
set_option maxRecDepth 100000 in
theorem c_X5_lostBy_x (l : Launch) (hfl : l.stackTraces = false) (X : cx_G) (x0 : Nat) (hh : (Nat → Nat)) (ht : (Nat → Nat)) (ch : (Nat → Nat)) (tx : (Nat → Nat)) (y : (Nat → Nat)) (hy : (Nat → Nat → Nat)) (rP : Int32) (fP : (Nat → Int32)) (rT : Int32) (fT : (Nat → Int32)) (rG : Int32) (fG : (Nat → Int32)) (rL : Int32) (fL : (Nat → Int32)) (rH : Int32) (fH : (Nat → Int32)) (gi : Int32) (di : Int32) (re : Int32) (ti : Int32) (rPT : Int32) (fPT : (Nat → Int32)) (rTT : Int32) (fTT : (Nat → Int32)) (rGT : Int32) (fGT : (Nat → Int32)) (rLT : Int32) (fLT : (Nat → Int32)) (rHT : Int32) (fHT : (Nat → Int32)) (giT : Int32) (diT : Int32) (reT : Int32) (tiT : Int32) (rS : Int32) (fS : (Nat → Int32)) (rB : Int32) (fB : (Nat → Int32)) (rO : Int32) (fO : (Nat → Int32)) (pl : Int32) (fa : Int32) (cn : Int32) (ro : Nat) (Qh : (Nat → HS)) (x1 : Int32) (E : String) (rPT' : Int32) (fPT' : (Nat → Int32)) (rTT' : Int32) (fTT' : (Nat → Int32)) (rGT' : Int32) (fGT' : (Nat → Int32)) (rLT' : Int32) (fLT' : (Nat → Int32)) (rHT' : Int32) (fHT' : (Nat → Int32)) (giT' : Int32) (diT' : Int32) (reT' : Int32) (tiT' : Int32) (hf : f_X5_lostBy x1 rP fP rT fT rG fG rL fL rH fH gi di re ti rPT fPT rTT fTT rGT fGT rLT fLT rHT fHT giT diT reT tiT = some (.inl (E, rPT', fPT', rTT', fTT', rGT', fGT', rLT', fLT', rHT', fHT', giT', diT', reT', tiT'))) : Tx l yX5_lostBy wsX5_lostBy ({ frames := 7, cells := 1, slots := 6, locals := 119 } : Room) X [.ref (x0), .int x1] (wLR X x0 hh ht ch tx y hy rP fP rT fT rG fG rL fL rH fH gi di re ti rPT fPT rTT fTT rGT fGT rLT fLT rHT fHT giT diT reT tiT rS fS rB fB rO fO pl fa cn ro Qh) E (wLR X x0 hh ht ch tx y hy rP fP rT fT rG fG rL fL rH fH gi di re ti rPT' fPT' rTT' fTT' rGT' fGT' rLT' fLT' rHT' fHT' giT' diT' reT' tiT' rS fS rB fB rO fO pl fa cn ro Qh) := by
  refine tx_intro (cc := cX5_lostBy) (maxL := 2) (ret := (some .int)) (by decide) rfl (wLR_fst.trans wLR_fst.symm) (Nat.le_of_ble_eq_true rfl) ?_
  intro p e s m args below meth c A ls hx hb hml hr hts hown hlocks hne hK hP hD0 hS hA hTS hTZ hl
  have hown : s.vm.findClass RX5 = some m.cls := hown
  have hl : lv_has ls 2 [(0, .ref (x0)), (1, .int x1)] := hl
  unfold f_X5_lostBy at hf
  refine lv_iload_n hx hb dX5_lostBy_0 rfl (lv_at hl 1 rfl) ?_
  rcases bx_of hf with ⟨E_3, hc_1, hf⟩ | ⟨u_2, hc_1, hf⟩
  · cases hf
    exact tx_Sx (As := [.int x1]) (rest := []) (nL := 2) hne hlocks ⟨hx, hb, hml, hown, hts⟩ (c_X5_requirePerson_x l hfl X x1 E hc_1) (va_cwS 1 hts gX5_lostBy_X5_requirePerson rfl rfl rfl (by decide +kernel) ⟨Nat.le_of_ble_eq_true rfl, Nat.le_of_ble_eq_true rfl⟩) rfl hl.1 rfl (Nat.le_of_ble_eq_true rfl) dX5_lostBy_1 hTS hTZ hK hP (hD0.addr (wLR_fst.trans wLR_fst.symm)) hS hA [] (by decide +kernel) rfl (pt_setid _ _ _ rfl) ⟨Nat.le_of_ble_eq_true rfl, Nat.le_of_ble_eq_true rfl⟩
  · refine fn_Sx (v := none) (As := [.int x1]) (rest := []) (st1 := []) (ws' := (wLR X x0 hh ht ch tx y hy rP fP rT fT rG fG rL fL rH fH gi di re ti rPT fPT rTT fTT rGT fGT rLT fLT rHT fHT giT diT reT tiT rS fS rB fB rO fO pl fa cn ro Qh)) (nL := 2) ⟨hx, hb, hml, hown, hts⟩ (c_X5_requirePerson l X x1 hc_1) (va_cwS 1 hts gX5_lostBy_X5_requirePerson rfl rfl rfl (by decide +kernel) ⟨Nat.le_of_ble_eq_true rfl, Nat.le_of_ble_eq_true rfl⟩) rfl hl.1 rfl (Nat.le_of_ble_eq_true rfl) dX5_lostBy_1 hK hP (hD0.addr (wLR_fst.trans wLR_fst.symm)) hS hA [] (by decide +kernel) rfl (pt_setid _ _ _ rfl) rfl ⟨Nat.zero_le _, Nat.zero_le _⟩ (fun H locs hP hD hS => ?_)
    refine lv_aload_n hx hb dX5_lostBy_4 rfl (lv_at hl 0 rfl) ?_
    refine lv_iload_n hx hb dX5_lostBy_5 rfl (lv_at hl 1 rfl) ?_
    obtain ⟨r_4, rPT_5, fPT_6, rTT_7, fTT_8, rGT_9, fGT_10, rLT_11, fLT_12, rHT_13, fHT_14, giT_15, diT_16, reT_17, tiT_18, hc_19, hf⟩ := bd15_of hf
    refine fn_VJ (v := some (.int r_4)) (As := [.int x1]) (rest := []) (st1 := [.int r_4]) (ws' := (wLR X x0 hh ht ch tx y hy rP fP rT fT rG fG rL fL rH fH gi di re ti rPT_5 fPT_6 rTT_7 fTT_8 rGT_9 fGT_10 rLT_11 fLT_12 rHT_13 fHT_14 giT_15 diT_16 reT_17 tiT_18 rS fS rB fB rO fO pl fa cn ro Qh)) (nL := 2) ⟨hx, hb, hml, hown, hts⟩ (c_X5_pairsLostBy l X x0 hh ht ch tx y hy rP fP rT fT rG fG rL fL rH fH gi di re ti rPT fPT rTT fTT rGT fGT rLT fLT rHT fHT giT diT reT tiT rS fS rB fB rO fO pl fa cn ro Qh x1 r_4 rPT_5 fPT_6 rTT_7 fTT_8 rGT_9 fGT_10 rLT_11 fLT_12 rHT_13 fHT_14 giT_15 diT_16 reT_17 tiT_18 hc_19) (cwV 1 hts gX5_lostBy_X5_pairsLostBy rfl rfl rfl (by decide +kernel) ⟨Nat.le_of_ble_eq_true rfl, Nat.le_of_ble_eq_true rfl⟩) 5 rfl rfl rfl rfl hl.1 rfl (Nat.le_of_ble_eq_true rfl) dX5_lostBy_6 hK hP (hD0.addr (wLR_fst.trans wLR_fst.symm)) hS hA [0, 1, 2, 3, 4, 5, 6, 7, 8, 9, 10, 11, 12, 13, 14, 15, 16, 17, 18, 19, 20, 21, 22, 23, 24, 25, 26, 27, 28, 29, 30, 31, 32, 33, 34, 35, 36, 37, 38, 39, 40, 41, 42, 43, 44, 45, 46, 47, 48, 49, 50, 51, 52, 53, 54, 55, 56, 57, 58, 59, 60, 61, 62, 63, 64, 65, 66, 67, 68, 69, 70, 71, 72, 73, 74, 75, 76] (by decide +kernel) lC_a lJ_a (wLR_fst.trans wLR_fst.symm) rfl ⟨Nat.zero_le _, Nat.zero_le _⟩ (fun H locs hP hD hS => ?_)
    cases hf

def f_X5_mostNeeded_L6 (rP : Int32) (fP : (Nat → Int32)) (rT : Int32) (fT : (Nat → Int32)) (rG : Int32) (fG : (Nat → Int32)) (rL : Int32) (fL : (Nat → Int32)) (rH : Int32) (fH : (Nat → Int32)) (gi : Int32) (di : Int32) (re : Int32) (ti : Int32) : Nat → Int32 → Int32 → Int32 → Int32 → (Nat → Int32) → Int32 → (Nat → Int32) → Int32 → (Nat → Int32) → Int32 → (Nat → Int32) → Int32 → (Nat → Int32) → Int32 → Int32 → Int32 → Int32 →  Option (Int32 × Int32 × (Nat → Int32) × Int32 × (Nat → Int32) × Int32 × (Nat → Int32) × Int32 × (Nat → Int32) × Int32 × (Nat → Int32) × Int32 × Int32 × Int32 × Int32)
  | 0, _, _, _, _, _, _, _, _, _, _, _, _, _, _, _, _, _ => none
  | k_ + 1, x1, x2, x3, rPT, fPT, rTT, fTT, rGT, fGT, rLT, fLT, rHT, fHT, giT, diT, reT, tiT =>
    if (10 : Int32) ≤ x3 then
    (some (x1, rPT, fPT, rTT, fTT, rGT, fGT, rLT, fLT, rHT, fHT, giT, diT, reT, tiT))
    else
    (bd15 (f_X5_pairsLostBy x3 rP fP rT fT rG fG rL fL rH fH gi di re ti rPT fPT rTT fTT rGT fGT rLT fLT rHT fHT giT diT reT tiT) (fun r_2 rPT_3 fPT_4 rTT_5 fTT_6 rGT_7 fGT_8 rLT_9 fLT_10 rHT_11 fHT_12 giT_13 diT_14 reT_15 tiT_16 =>
    if r_2 ≤ x2 then
    (nm (x3 + (1 : Int32)) (fun v_19 =>
    f_X5_mostNeeded_L6 rP fP rT fT rG fG rL fL rH fH gi di re ti k_ x1 x2 v_19 rPT_3 fPT_4 rTT_5 fTT_6 rGT_7 fGT_8 rLT_9 fLT_10 rHT_11 fHT_12 giT_13 diT_14 reT_15 tiT_16))
    else
    (nm (x3 + (1 : Int32)) (fun v_20 =>
    f_X5_mostNeeded_L6 rP fP rT fT rG fG rL fL rH fH gi di re ti k_ x3 r_2 v_20 rPT_3 fPT_4 rTT_5 fTT_6 rGT_7 fGT_8 rLT_9 fLT_10 rHT_11 fHT_12 giT_13 diT_14 reT_15 tiT_16))))
def f_X5_mostNeeded (rP : Int32) (fP : (Nat → Int32)) (rT : Int32) (fT : (Nat → Int32)) (rG : Int32) (fG : (Nat → Int32)) (rL : Int32) (fL : (Nat → Int32)) (rH : Int32) (fH : (Nat → Int32)) (gi : Int32) (di : Int32) (re : Int32) (ti : Int32) (rPT : Int32) (fPT : (Nat → Int32)) (rTT : Int32) (fTT : (Nat → Int32)) (rGT : Int32) (fGT : (Nat → Int32)) (rLT : Int32) (fLT : (Nat → Int32)) (rHT : Int32) (fHT : (Nat → Int32)) (giT : Int32) (diT : Int32) (reT : Int32) (tiT : Int32) : Option (Int32 × Int32 × (Nat → Int32) × Int32 × (Nat → Int32) × Int32 × (Nat → Int32) × Int32 × (Nat → Int32) × Int32 × (Nat → Int32) × Int32 × Int32 × Int32 × Int32) :=
  bd15 (f_X5_mostNeeded_L6 rP fP rT fT rG fG rL fL rH fH gi di re ti FU (-1 : Int32) (0 : Int32) (0 : Int32) rPT fPT rTT fTT rGT fGT rLT fLT rHT fHT giT diT reT tiT) (fun y1_21 rPT_22 fPT_23 rTT_24 fTT_25 rGT_26 fGT_27 rLT_28 fLT_29 rHT_30 fHT_31 giT_32 diT_33 reT_34 tiT_35 =>
  some (y1_21, rPT_22, fPT_23, rTT_24, fTT_25, rGT_26, fGT_27, rLT_28, fLT_29, rHT_30, fHT_31, giT_32, diT_33, reT_34, tiT_35))
set_option maxHeartbeats 4000000 in
set_option maxRecDepth 100000 in
theorem c_X5_mostNeeded (l : Launch) (X : cx_G) (x0 : Nat) (hh : (Nat → Nat)) (ht : (Nat → Nat)) (ch : (Nat → Nat)) (tx : (Nat → Nat)) (y : (Nat → Nat)) (hy : (Nat → Nat → Nat)) (rP : Int32) (fP : (Nat → Int32)) (rT : Int32) (fT : (Nat → Int32)) (rG : Int32) (fG : (Nat → Int32)) (rL : Int32) (fL : (Nat → Int32)) (rH : Int32) (fH : (Nat → Int32)) (gi : Int32) (di : Int32) (re : Int32) (ti : Int32) (rPT : Int32) (fPT : (Nat → Int32)) (rTT : Int32) (fTT : (Nat → Int32)) (rGT : Int32) (fGT : (Nat → Int32)) (rLT : Int32) (fLT : (Nat → Int32)) (rHT : Int32) (fHT : (Nat → Int32)) (giT : Int32) (diT : Int32) (reT : Int32) (tiT : Int32) (rS : Int32) (fS : (Nat → Int32)) (rB : Int32) (fB : (Nat → Int32)) (rO : Int32) (fO : (Nat → Int32)) (pl : Int32) (fa : Int32) (cn : Int32) (ro : Nat) (Qh : (Nat → HS)) (r : Int32) (rPT' : Int32) (fPT' : (Nat → Int32)) (rTT' : Int32) (fTT' : (Nat → Int32)) (rGT' : Int32) (fGT' : (Nat → Int32)) (rLT' : Int32) (fLT' : (Nat → Int32)) (rHT' : Int32) (fHT' : (Nat → Int32)) (giT' : Int32) (diT' : Int32) (reT' : Int32) (tiT' : Int32) (hf : f_X5_mostNeeded rP fP rT fT rG fG rL fL rH fH gi di re ti rPT fPT rTT fTT rGT fGT rLT fLT rHT fHT giT diT reT tiT = some (r, rPT', fPT', rTT', fTT', rGT', fGT', rLT', fLT', rHT', fHT', giT', diT', reT', tiT')) : Fn l yX5_mostNeeded wsX5_mostNeeded ({ frames := 5, cells := 0, slots := 0, locals := 119 } : Room) X [.ref (x0)] (wLR X x0 hh ht ch tx y hy rP fP rT fT rG fG rL fL rH fH gi di re ti rPT fPT rTT fTT rGT fGT rLT fLT rHT fHT giT diT reT tiT rS fS rB fB rO fO pl fa cn ro Qh) (some (.int r)) (wLR X x0 hh ht ch tx y hy rP fP rT fT rG fG rL fL rH fH gi di re ti rPT' fPT' rTT' fTT' rGT' fGT' rLT' fLT' rHT' fHT' giT' diT' reT' tiT' rS fS rB fB rO fO pl fa cn ro Qh) := by
  refine fn_intro (cc := cX5_mostNeeded) (maxL := 5) (ret := (some .int)) (by decide) rfl (wLR_fst.trans wLR_fst.symm) (Nat.le_of_ble_eq_true rfl) ?_
  intro p e s m args below meth c A ls hx hb hml hr hts hown hlocks hK hP hD0 hS hA hl
  have hown : s.vm.findClass RX5 = some m.cls := hown
  have hl : lv_has ls 5 [(0, .ref (x0))] := hl
  have loop_6 : ∀ (Q : State → Prop) (y1 : Int32) (rPTo : Int32) (fPTo : (Nat → Int32)) (rTTo : Int32) (fTTo : (Nat → Int32)) (rGTo : Int32) (fGTo : (Nat → Int32)) (rLTo : Int32) (fLTo : (Nat → Int32)) (rHTo : Int32) (fHTo : (Nat → Int32)) (giTo : Int32) (diTo : Int32) (reTo : Int32) (tiTo : Int32), (∀ (H : Heap) (locs : List Loc) (ls : Array Slot), va_P X.1 vwCl (wLR X x0 hh ht ch tx y hy rP fP rT fT rG fG rL fL rH fH gi di re ti rPTo fPTo rTTo fTTo rGTo fGTo rLTo fLTo rHTo fHTo giTo diTo reTo tiTo rS fS rB fB rO fO pl fa cn ro Qh) H → va_S A s.heap H locs → lv_has ls 5 [(1, .int y1)] → W p l e ({ frames := 5, cells := 0, slots := 0, locals := 119 } : Room) s m args below meth c H locs 0 0 Q (F0 m 36 ls [])) → ∀ (k_ : Nat) (x1 : Int32) (x2 : Int32) (x3 : Int32) (rPT : Int32) (fPT : (Nat → Int32)) (rTT : Int32) (fTT : (Nat → Int32)) (rGT : Int32) (fGT : (Nat → Int32)) (rLT : Int32) (fLT : (Nat → Int32)) (rHT : Int32) (fHT : (Nat → Int32)) (giT : Int32) (diT : Int32) (reT : Int32) (tiT : Int32) (H : Heap) (locs : List Loc) (ls : Array Slot), f_X5_mostNeeded_L6 rP fP rT fT rG fG rL fL rH fH gi di re ti k_ x1 x2 x3 rPT fPT rTT fTT rGT fGT rLT fLT rHT fHT giT diT reT tiT = some (y1, rPTo, fPTo, rTTo, fTTo, rGTo, fGTo, rLTo, fLTo, rHTo, fHTo, giTo, diTo, reTo, tiTo) → va_P X.1 vwCl (wLR X x0 hh ht ch tx y hy rP fP rT fT rG fG rL fL rH fH gi di re ti rPT fPT rTT fTT rGT fGT rLT fLT rHT fHT giT diT reT tiT rS fS rB fB rO fO pl fa cn ro Qh) H → va_S A s.heap H locs → lv_has ls 5 [(0, .ref (x0)), (1, .int x1), (2, .int x2), (3, .int x3)] → W p l e ({ frames := 5, cells := 0, slots := 0, locals := 119 } : Room) s m args below meth c H locs 0 0 Q (F0 m 6 ls []) := by
    intro Q y1 rPTo fPTo rTTo fTTo rGTo fGTo rLTo fLTo rHTo fHTo giTo diTo reTo tiTo kx k_
    induction k_ with
    | zero => intro x1 x2 x3 rPT fPT rTT fTT rGT fGT rLT fLT rHT fHT giT diT reT tiT H locs ls hf; exact nomatch (show (none : Option (Int32 × Int32 × (Nat → Int32) × Int32 × (Nat → Int32) × Int32 × (Nat → Int32) × Int32 × (Nat → Int32) × Int32 × (Nat → Int32) × Int32 × Int32 × Int32 × Int32)) = some _ from hf)
    | succ k_ ih =>
      intro x1 x2 x3 rPT fPT rTT fTT rGT fGT rLT fLT rHT fHT giT diT reT tiT H locs ls hf hP hS hl
      unfold f_X5_mostNeeded_L6 at hf
      refine lv_iload_n hx hb dX5_mostNeeded_6 rfl (lv_at hl 3 rfl) ?_
      refine lv_bipush (v := 10) hx hb dX5_mostNeeded_7 (by decide) ?_
      refine lv_icmp_ge (tgt := 36) hx hb dX5_mostNeeded_9 (by decide) (fun c_1 => ?_) (fun c_1 => ?_)
      · replace hf := fp_t c_1 hf
        cases hf
        exact kx _ _ _ hP hS (lv_sub hl [1] rfl)
      · replace hf := fp_f c_1 hf
        refine lv_aload_n hx hb dX5_mostNeeded_12 rfl (lv_at hl 0 rfl) ?_
        refine lv_iload_n hx hb dX5_mostNeeded_13 rfl (lv_at hl 3 rfl) ?_
        obtain ⟨r_2, rPT_3, fPT_4, rTT_5, fTT_6, rGT_7, fGT_8, rLT_9, fLT_10, rHT_11, fHT_12, giT_13, diT_14, reT_15, tiT_16, hc_17, hf⟩ := bd15_of hf
        refine fn_VJ (v := some (.int r_2)) (As := [.int x3]) (rest := []) (st1 := [.int r_2]) (ws' := (wLR X x0 hh ht ch tx y hy rP fP rT fT rG fG rL fL rH fH gi di re ti rPT_3 fPT_4 rTT_5 fTT_6 rGT_7 fGT_8 rLT_9 fLT_10 rHT_11 fHT_12 giT_13 diT_14 reT_15 tiT_16 rS fS rB fB rO fO pl fa cn ro Qh)) (nL := 5) ⟨hx, hb, hml, hown, hts⟩ (c_X5_pairsLostBy l X x0 hh ht ch tx y hy rP fP rT fT rG fG rL fL rH fH gi di re ti rPT fPT rTT fTT rGT fGT rLT fLT rHT fHT giT diT reT tiT rS fS rB fB rO fO pl fa cn ro Qh x3 r_2 rPT_3 fPT_4 rTT_5 fTT_6 rGT_7 fGT_8 rLT_9 fLT_10 rHT_11 fHT_12 giT_13 diT_14 reT_15 tiT_16 hc_17) (cwV 1 hts gX5_mostNeeded_X5_pairsLostBy rfl rfl rfl (by decide +kernel) ⟨Nat.le_of_ble_eq_true rfl, Nat.le_of_ble_eq_true rfl⟩) 5 rfl rfl rfl rfl hl.1 rfl (Nat.le_of_ble_eq_true rfl) dX5_mostNeeded_14 hK hP (hD0.addr (wLR_fst.trans wLR_fst.symm)) hS hA [0, 1, 2, 3, 4, 5, 6, 7, 8, 9, 10, 11, 12, 13, 14, 15, 16, 17, 18, 19, 20, 21, 22, 23, 24, 25, 26, 27, 28, 29, 30, 31, 32, 33, 34, 35, 36, 37, 38, 39, 40, 41, 42, 43, 44, 45, 46, 47, 48, 49, 50, 51, 52, 53, 54, 55, 56, 57, 58, 59, 60, 61, 62, 63, 64, 65, 66, 67, 68, 69, 70, 71, 72, 73, 74, 75, 76] (by decide +kernel) lC_a lJ_a (wLR_fst.trans wLR_fst.symm) rfl ⟨Nat.zero_le _, Nat.zero_le _⟩ (fun H locs hP hD hS => ?_)
        refine lv_istore (lv' := [(4, .int r_2), (0, .ref (x0)), (1, .int x1), (2, .int x2), (3, .int x3)]) hx hb dX5_mostNeeded_17 hl (by decide) rfl (fun ls hl => ?_)
        refine lv_iload hx hb dX5_mostNeeded_19 (lv_at hl 0 rfl) ?_
        refine lv_iload_n hx hb dX5_mostNeeded_21 rfl (lv_at hl 3 rfl) ?_
        refine lv_icmp_le (tgt := 30) hx hb dX5_mostNeeded_22 (by decide) (fun c_18 => ?_) (fun c_18 => ?_)
        · replace hf := fp_t c_18 hf
          obtain ⟨v_19, ev_19⟩ : ∃ y : Int32, y = x3 + (1 : Int32) := ⟨_, rfl⟩
          replace hf := nm_of ev_19 hf
          refine lv_iinc (v := v_19) (lv' := [(3, .int v_19), (4, .int r_2), (0, .ref (x0)), (1, .int x1), (2, .int x2)]) hx hb dX5_mostNeeded_30 hl (k := 4) rfl (by rw [ev_19]; rfl) (by decide) rfl (fun ls hl => ?_)
          refine lv_goto (tgt := 6) hx hb dX5_mostNeeded_33 (by decide) ?_
          exact ih x1 x2 v_19 rPT_3 fPT_4 rTT_5 fTT_6 rGT_7 fGT_8 rLT_9 fLT_10 rHT_11 fHT_12 giT_13 diT_14 reT_15 tiT_16 _ _ _ hf hP hS (lv_sub hl [2, 3, 4, 0] rfl)
        · replace hf := fp_f c_18 hf
          refine lv_iload hx hb dX5_mostNeeded_25 (lv_at hl 0 rfl) ?_
          refine lv_istore_n (lv' := [(2, .int r_2), (4, .int r_2), (0, .ref (x0)), (1, .int x1), (3, .int x3)]) hx hb dX5_mostNeeded_27 rfl hl (by decide) rfl (fun ls hl => ?_)
          refine lv_iload_n hx hb dX5_mostNeeded_28 rfl (lv_at hl 4 rfl) ?_
          refine lv_istore_n (lv' := [(1, .int x3), (2, .int r_2), (4, .int r_2), (0, .ref (x0)), (3, .int x3)]) hx hb dX5_mostNeeded_29 rfl hl (by decide) rfl (fun ls hl => ?_)
          obtain ⟨v_20, ev_20⟩ : ∃ y : Int32, y = x3 + (1 : Int32) := ⟨_, rfl⟩
          replace hf := nm_of ev_20 hf
          refine lv_iinc (v := v_20) (lv' := [(3, .int v_20), (1, .int x3), (2, .int r_2), (4, .int r_2), (0, .ref (x0))]) hx hb dX5_mostNeeded_30 hl (k := 4) rfl (by rw [ev_20]; rfl) (by decide) rfl (fun ls hl => ?_)
          refine lv_goto (tgt := 6) hx hb dX5_mostNeeded_33 (by decide) ?_
          exact ih x3 r_2 v_20 rPT_3 fPT_4 rTT_5 fTT_6 rGT_7 fGT_8 rLT_9 fLT_10 rHT_11 fHT_12 giT_13 diT_14 reT_15 tiT_16 _ _ _ hf hP hS (lv_sub hl [4, 1, 2, 0] rfl)
  unfold f_X5_mostNeeded at hf
  refine lv_iconst (v := -1) hx hb dX5_mostNeeded_0 (by decide) ?_
  refine lv_istore_n (lv' := [(1, .int (-1 : Int32)), (0, .ref (x0))]) hx hb dX5_mostNeeded_1 rfl hl (by decide) rfl (fun ls hl => ?_)
  refine lv_iconst (v := 0) hx hb dX5_mostNeeded_2 (by decide) ?_
  refine lv_istore_n (lv' := [(2, .int (0 : Int32)), (1, .int (-1 : Int32)), (0, .ref (x0))]) hx hb dX5_mostNeeded_3 rfl hl (by decide) rfl (fun ls hl => ?_)
  refine lv_iconst (v := 0) hx hb dX5_mostNeeded_4 (by decide) ?_
  refine lv_istore_n (lv' := [(3, .int (0 : Int32)), (2, .int (0 : Int32)), (1, .int (-1 : Int32)), (0, .ref (x0))]) hx hb dX5_mostNeeded_5 rfl hl (by decide) rfl (fun ls hl => ?_)
  obtain ⟨y1_21, rPT_22, fPT_23, rTT_24, fTT_25, rGT_26, fGT_27, rLT_28, fLT_29, rHT_30, fHT_31, giT_32, diT_33, reT_34, tiT_35, hL_36, hf⟩ := bd15_of hf
  refine loop_6 _ y1_21 rPT_22 fPT_23 rTT_24 fTT_25 rGT_26 fGT_27 rLT_28 fLT_29 rHT_30 fHT_31 giT_32 diT_33 reT_34 tiT_35 (fun H locs ls hP hS hl => ?_) FU (-1 : Int32) (0 : Int32) (0 : Int32) rPT fPT rTT fTT rGT fGT rLT fLT rHT fHT giT diT reT tiT _ _ _ hL_36 hP hS (lv_sub hl [3, 2, 1, 0] rfl)
  refine lv_iload_n hx hb dX5_mostNeeded_36 rfl (lv_at hl 0 rfl) ?_
  cases hf
  exact fn_iret hx hb hr hlocks hP hS dX5_mostNeeded_37

def f_X5_seenIn (x1 : Int32) (rP : Int32) (fP : (Nat → Int32)) (rT : Int32) (fT : (Nat → Int32)) (rG : Int32) (fG : (Nat → Int32)) (rL : Int32) (fL : (Nat → Int32)) (rH : Int32) (fH : (Nat → Int32)) (gi : Int32) (di : Int32) (re : Int32) (ti : Int32) (rPT : Int32) (fPT : (Nat → Int32)) (rTT : Int32) (fTT : (Nat → Int32)) (rGT : Int32) (fGT : (Nat → Int32)) (rLT : Int32) (fLT : (Nat → Int32)) (rHT : Int32) (fHT : (Nat → Int32)) (giT : Int32) (diT : Int32) (reT : Int32) (tiT : Int32) : Option ((String × Int32 × (Nat → Int32) × Int32 × (Nat → Int32) × Int32 × (Nat → Int32) × Int32 × (Nat → Int32) × Int32 × (Nat → Int32) × Int32 × Int32 × Int32 × Int32) ⊕ (Int32 × Int32 × (Nat → Int32) × Int32 × (Nat → Int32) × Int32 × (Nat → Int32) × Int32 × (Nat → Int32) × Int32 × (Nat → Int32) × Int32 × Int32 × Int32 × Int32)) :=
  bx (f_X5_requireRange x1 (0 : Int32) (100 : Int32)) (fun E_3 => some (.inl (E_3, rPT, fPT, rTT, fTT, rGT, fGT, rLT, fLT, rHT, fHT, giT, diT, reT, tiT))) (fun u_2 =>
  bd14 (f_X2_takeOver rPT fPT rTT fTT rGT fGT rLT fLT rHT fHT giT diT reT tiT rP fP rT fT rG fG rL fL rH fH gi di re ti) (fun rPT_4 fPT_5 rTT_6 fTT_7 rGT_8 fGT_9 rLT_10 fLT_11 rHT_12 fHT_13 giT_14 diT_15 reT_16 tiT_17 =>
  bd9 (f_X2_letPass x1 rPT_4 fPT_5 rTT_6 fTT_7 rGT_8 fGT_9 rLT_10 fLT_11 rHT_12 fHT_13 diT_15 tiT_17) (fun r_19 fPT_20 rGT_21 fGT_22 rLT_23 fLT_24 fHT_25 diT_26 tiT_27 =>
  bd (f_X2_countPairs rTT_6 rHT_12 fHT_25) (fun r_29 =>
  some (.inr (r_29, rPT_4, fPT_20, rTT_6, fTT_7, rGT_21, fGT_22, rLT_23, fLT_24, rHT_12, fHT_25, giT_14, diT_26, reT_16, tiT_27))))))
set_option maxHeartbeats 4000000 in
set_option maxRecDepth 100000 in
theorem c_X5_seenIn (l : Launch) (X : cx_G) (x0 : Nat) (hh : (Nat → Nat)) (ht : (Nat → Nat)) (ch : (Nat → Nat)) (tx : (Nat → Nat)) (y : (Nat → Nat)) (hy : (Nat → Nat → Nat)) (rP : Int32) (fP : (Nat → Int32)) (rT : Int32) (fT : (Nat → Int32)) (rG : Int32) (fG : (Nat → Int32)) (rL : Int32) (fL : (Nat → Int32)) (rH : Int32) (fH : (Nat → Int32)) (gi : Int32) (di : Int32) (re : Int32) (ti : Int32) (rPT : Int32) (fPT : (Nat → Int32)) (rTT : Int32) (fTT : (Nat → Int32)) (rGT : Int32) (fGT : (Nat → Int32)) (rLT : Int32) (fLT : (Nat → Int32)) (rHT : Int32) (fHT : (Nat → Int32)) (giT : Int32) (diT : Int32) (reT : Int32) (tiT : Int32) (rS : Int32) (fS : (Nat → Int32)) (rB : Int32) (fB : (Nat → Int32)) (rO : Int32) (fO : (Nat → Int32)) (pl : Int32) (fa : Int32) (cn : Int32) (ro : Nat) (Qh : (Nat → HS)) (x1 : Int32) (r : Int32) (rPT' : Int32) (fPT' : (Nat → Int32)) (rTT' : Int32) (fTT' : (Nat → Int32)) (rGT' : Int32) (fGT' : (Nat → Int32)) (rLT' : Int32) (fLT' : (Nat → Int32)) (rHT' : Int32) (fHT' : (Nat → Int32)) (giT' : Int32) (diT' : Int32) (reT' : Int32) (tiT' : Int32) (hf : f_X5_seenIn x1 rP fP rT fT rG fG rL fL rH fH gi di re ti rPT fPT rTT fTT rGT fGT rLT fLT rHT fHT giT diT reT tiT = some (.inr (r, rPT', fPT', rTT', fTT', rGT', fGT', rLT', fLT', rHT', fHT', giT', diT', reT', tiT'))) : Fn l yX5_seenIn wsX5_seenIn ({ frames := 4, cells := 0, slots := 0, locals := 98 } : Room) X [.ref (x0), .int x1] (wLR X x0 hh ht ch tx y hy rP fP rT fT rG fG rL fL rH fH gi di re ti rPT fPT rTT fTT rGT fGT rLT fLT rHT fHT giT diT reT tiT rS fS rB fB rO fO pl fa cn ro Qh) (some (.int r)) (wLR X x0 hh ht ch tx y hy rP fP rT fT rG fG rL fL rH fH gi di re ti rPT' fPT' rTT' fTT' rGT' fGT' rLT' fLT' rHT' fHT' giT' diT' reT' tiT' rS fS rB fB rO fO pl fa cn ro Qh) := by
  refine fn_intro (cc := cX5_seenIn) (maxL := 2) (ret := (some .int)) (by decide) rfl (wLR_fst.trans wLR_fst.symm) (Nat.le_of_ble_eq_true rfl) ?_
  intro p e s m args below meth c A ls hx hb hml hr hts hown hlocks hK hP hD0 hS hA hl
  have hown : s.vm.findClass RX5 = some m.cls := hown
  have hl : lv_has ls 2 [(0, .ref (x0)), (1, .int x1)] := hl
  have hiX5 : ∀ w ∈ u_ws RX5 TX5 5, w ∈ wsX5_seenIn := by decide +kernel
  have k10 := hts (.fieldLink RX5 10 "LentRights" "house" "LLentRights$House;") (by decide +kernel)
  have k16 := hts (.fieldLink RX5 16 "LentRights" "trial" "LLentRights$House;") (by decide +kernel)
  unfold f_X5_seenIn at hf
  refine lv_iload_n hx hb dX5_seenIn_0 rfl (lv_at hl 1 rfl) ?_
  refine lv_iconst (v := 0) hx hb dX5_seenIn_1 (by decide) ?_
  refine lv_bipush (v := 100) hx hb dX5_seenIn_2 (by decide) ?_
  rcases bx_of hf with ⟨E_3, hc_1, hf⟩ | ⟨u_2, hc_1, hf⟩
  · cases hf
  · refine fn_Sx (v := none) (As := [.int x1, .int (0 : Int32), .int (100 : Int32)]) (rest := []) (st1 := []) (ws' := (wLR X x0 hh ht ch tx y hy rP fP rT fT rG fG rL fL rH fH gi di re ti rPT fPT rTT fTT rGT fGT rLT fLT rHT fHT giT diT reT tiT rS fS rB fB rO fO pl fa cn ro Qh)) (nL := 2) ⟨hx, hb, hml, hown, hts⟩ (c_X5_requireRange l X x1 (0 : Int32) (100 : Int32) hc_1) (va_cwS 3 hts gX5_seenIn_X5_requireRange rfl rfl rfl (by decide +kernel) ⟨Nat.le_of_ble_eq_true rfl, Nat.le_of_ble_eq_true rfl⟩) rfl hl.1 rfl (Nat.le_of_ble_eq_true rfl) dX5_seenIn_4 hK hP (hD0.addr (wLR_fst.trans wLR_fst.symm)) hS hA [] (by decide +kernel) rfl (pt_setid _ _ _ rfl) rfl ⟨Nat.zero_le _, Nat.zero_le _⟩ (fun H locs hP hD hS => ?_)
    refine lv_aload_n hx hb dX5_seenIn_7 rfl (lv_at hl 0 rfl) ?_
    refine va_get (D := X.1) (ci := 5) (v := .ref (ht 0)) (C := RX5) (T := TX5) (N := 5) hx hb hts hiX5 hown hK.1 hP 0 rfl rfl 1 (by decide) k16 (fun _ h9 => h9) rfl dX5_seenIn_8 ?_
    refine lv_aload_n hx hb dX5_seenIn_11 rfl (lv_at hl 0 rfl) ?_
    refine va_get (D := X.1) (ci := 5) (v := .ref (hh 0)) (C := RX5) (T := TX5) (N := 5) hx hb hts hiX5 hown hK.1 hP 0 rfl rfl 0 (by decide) k10 (fun _ h9 => h9) rfl dX5_seenIn_12 ?_
    obtain ⟨rPT_4, fPT_5, rTT_6, fTT_7, rGT_8, fGT_9, rLT_10, fLT_11, rHT_12, fHT_13, giT_14, diT_15, reT_16, tiT_17, hc_18, hf⟩ := bd14_of hf
    refine fn_VJ (v := none) (As := [.ref (hh 0)]) (rest := []) (st1 := []) (ws' := (wLR X x0 hh ht ch tx y hy rP fP rT fT rG fG rL fL rH fH gi di re ti rPT_4 fPT_5 rTT_6 fTT_7 rGT_8 fGT_9 rLT_10 fLT_11 rHT_12 fHT_13 giT_14 diT_15 reT_16 tiT_17 rS fS rB fB rO fO pl fa cn ro Qh)) (nL := 2) ⟨hx, hb, hml, hown, hts⟩ (c_X2_takeOver l X ht hh rPT fPT rTT fTT rGT fGT rLT fLT rHT fHT giT diT reT tiT rP fP rT fT rG fG rL fL rH fH gi di re ti rPT_4 fPT_5 rTT_6 fTT_7 rGT_8 fGT_9 rLT_10 fLT_11 rHT_12 fHT_13 giT_14 diT_15 reT_16 tiT_17 hc_18) (cwV 1 hts gX5_seenIn_X2_takeOver rfl rfl rfl (by decide +kernel) ⟨Nat.le_of_ble_eq_true rfl, Nat.le_of_ble_eq_true rfl⟩) 2 rfl rfl rfl rfl hl.1 rfl (Nat.le_of_ble_eq_true rfl) dX5_seenIn_15 hK hP (hD0.addr (wLR_fst.trans wLR_fst.symm)) hS hA [12, 13, 14, 15, 16, 17, 18, 19, 20, 21, 22, 1, 2, 3, 4, 5, 6, 7, 8, 9, 10, 11] (by decide +kernel) lC_th lJ_th (wLR_fst.trans wLR_fst.symm) rfl ⟨Nat.zero_le _, Nat.zero_le _⟩ (fun H locs hP hD hS => ?_)
    refine lv_aload_n hx hb dX5_seenIn_18 rfl (lv_at hl 0 rfl) ?_
    refine va_get (D := X.1) (ci := 5) (v := .ref (ht 0)) (C := RX5) (T := TX5) (N := 5) hx hb hts hiX5 hown hK.1 hP 0 rfl rfl 1 (by decide) k16 (fun _ h9 => h9) rfl dX5_seenIn_19 ?_
    refine lv_iload_n hx hb dX5_seenIn_22 rfl (lv_at hl 1 rfl) ?_
    obtain ⟨r_19, fPT_20, rGT_21, fGT_22, rLT_23, fLT_24, fHT_25, diT_26, tiT_27, hc_28, hf⟩ := bd9_of hf
    refine fn_VJ (v := some (.int r_19)) (As := [.int x1]) (rest := []) (st1 := [.int r_19]) (ws' := (wLR X x0 hh ht ch tx y hy rP fP rT fT rG fG rL fL rH fH gi di re ti rPT_4 fPT_20 rTT_6 fTT_7 rGT_21 fGT_22 rLT_23 fLT_24 rHT_12 fHT_25 giT_14 diT_26 reT_16 tiT_27 rS fS rB fB rO fO pl fa cn ro Qh)) (nL := 2) ⟨hx, hb, hml, hown, hts⟩ (c_X2_letPass l X ht rPT_4 fPT_5 rTT_6 fTT_7 rGT_8 fGT_9 rLT_10 fLT_11 rHT_12 fHT_13 giT_14 diT_15 reT_16 tiT_17 x1 r_19 fPT_20 rGT_21 fGT_22 rLT_23 fLT_24 fHT_25 diT_26 tiT_27 hc_28) (cwV 1 hts gX5_seenIn_X2_letPass rfl rfl rfl (by decide +kernel) ⟨Nat.le_of_ble_eq_true rfl, Nat.le_of_ble_eq_true rfl⟩) 2 rfl rfl rfl rfl hl.1 rfl (Nat.le_of_ble_eq_true rfl) dX5_seenIn_23 hK hP (hD0.addr (wLR_fst.trans wLR_fst.symm)) hS hA [12, 13, 14, 15, 16, 17, 18, 19, 20, 21, 22] (by decide +kernel) lC_t lJ_t (wLR_fst.trans wLR_fst.symm) rfl ⟨Nat.zero_le _, Nat.zero_le _⟩ (fun H locs hP hD hS => ?_)
    refine lv_pop hx hb dX5_seenIn_26 rfl ?_
    refine lv_aload_n hx hb dX5_seenIn_27 rfl (lv_at hl 0 rfl) ?_
    refine va_get (D := X.1) (ci := 5) (v := .ref (ht 0)) (C := RX5) (T := TX5) (N := 5) hx hb hts hiX5 hown hK.1 hP 0 rfl rfl 1 (by decide) k16 (fun _ h9 => h9) rfl dX5_seenIn_28 ?_
    obtain ⟨r_29, hc_30, hf⟩ := bd_of hf
    refine fn_V (v := some (.int r_29)) (As := []) (rest := []) (st1 := [.int r_29]) (ws' := (wLR X x0 hh ht ch tx y hy rP fP rT fT rG fG rL fL rH fH gi di re ti rPT_4 fPT_20 rTT_6 fTT_7 rGT_21 fGT_22 rLT_23 fLT_24 rHT_12 fHT_25 giT_14 diT_26 reT_16 tiT_27 rS fS rB fB rO fO pl fa cn ro Qh)) (nL := 2) ⟨hx, hb, hml, hown, hts⟩ (c_X2_countPairs l X ht rPT_4 fPT_20 rTT_6 fTT_7 rGT_21 fGT_22 rLT_23 fLT_24 rHT_12 fHT_25 giT_14 diT_26 reT_16 tiT_27 r_29 hc_30) (cwV 0 hts gX5_seenIn_X2_countPairs rfl rfl rfl (by decide +kernel) ⟨Nat.le_of_ble_eq_true rfl, Nat.le_of_ble_eq_true rfl⟩) 2 rfl rfl rfl rfl hl.1 rfl (Nat.le_of_ble_eq_true rfl) dX5_seenIn_31 hK hP (hD0.addr (wLR_fst.trans wLR_fst.symm)) hS hA [12, 13, 14, 15, 16, 17, 18, 19, 20, 21, 22] (by decide +kernel) lC_t (pt_setid _ _ _ lC_t) rfl ⟨Nat.zero_le _, Nat.zero_le _⟩ (fun H locs hP hD hS => ?_)
    cases hf
    exact fn_iret hx hb hr hlocks hP hS dX5_seenIn_34
set_option maxHeartbeats 4000000 in
set_option maxRecDepth 100000 in
theorem c_X5_seenIn_x (l : Launch) (hfl : l.stackTraces = false) (X : cx_G) (x0 : Nat) (hh : (Nat → Nat)) (ht : (Nat → Nat)) (ch : (Nat → Nat)) (tx : (Nat → Nat)) (y : (Nat → Nat)) (hy : (Nat → Nat → Nat)) (rP : Int32) (fP : (Nat → Int32)) (rT : Int32) (fT : (Nat → Int32)) (rG : Int32) (fG : (Nat → Int32)) (rL : Int32) (fL : (Nat → Int32)) (rH : Int32) (fH : (Nat → Int32)) (gi : Int32) (di : Int32) (re : Int32) (ti : Int32) (rPT : Int32) (fPT : (Nat → Int32)) (rTT : Int32) (fTT : (Nat → Int32)) (rGT : Int32) (fGT : (Nat → Int32)) (rLT : Int32) (fLT : (Nat → Int32)) (rHT : Int32) (fHT : (Nat → Int32)) (giT : Int32) (diT : Int32) (reT : Int32) (tiT : Int32) (rS : Int32) (fS : (Nat → Int32)) (rB : Int32) (fB : (Nat → Int32)) (rO : Int32) (fO : (Nat → Int32)) (pl : Int32) (fa : Int32) (cn : Int32) (ro : Nat) (Qh : (Nat → HS)) (x1 : Int32) (E : String) (rPT' : Int32) (fPT' : (Nat → Int32)) (rTT' : Int32) (fTT' : (Nat → Int32)) (rGT' : Int32) (fGT' : (Nat → Int32)) (rLT' : Int32) (fLT' : (Nat → Int32)) (rHT' : Int32) (fHT' : (Nat → Int32)) (giT' : Int32) (diT' : Int32) (reT' : Int32) (tiT' : Int32) (hf : f_X5_seenIn x1 rP fP rT fT rG fG rL fL rH fH gi di re ti rPT fPT rTT fTT rGT fGT rLT fLT rHT fHT giT diT reT tiT = some (.inl (E, rPT', fPT', rTT', fTT', rGT', fGT', rLT', fLT', rHT', fHT', giT', diT', reT', tiT'))) : Tx l yX5_seenIn wsX5_seenIn ({ frames := 7, cells := 1, slots := 6, locals := 112 } : Room) X [.ref (x0), .int x1] (wLR X x0 hh ht ch tx y hy rP fP rT fT rG fG rL fL rH fH gi di re ti rPT fPT rTT fTT rGT fGT rLT fLT rHT fHT giT diT reT tiT rS fS rB fB rO fO pl fa cn ro Qh) E (wLR X x0 hh ht ch tx y hy rP fP rT fT rG fG rL fL rH fH gi di re ti rPT' fPT' rTT' fTT' rGT' fGT' rLT' fLT' rHT' fHT' giT' diT' reT' tiT' rS fS rB fB rO fO pl fa cn ro Qh) := by
  refine tx_intro (cc := cX5_seenIn) (maxL := 2) (ret := (some .int)) (by decide) rfl (wLR_fst.trans wLR_fst.symm) (Nat.le_of_ble_eq_true rfl) ?_
  intro p e s m args below meth c A ls hx hb hml hr hts hown hlocks hne hK hP hD0 hS hA hTS hTZ hl
  have hown : s.vm.findClass RX5 = some m.cls := hown
  have hl : lv_has ls 2 [(0, .ref (x0)), (1, .int x1)] := hl
  have hiX5 : ∀ w ∈ u_ws RX5 TX5 5, w ∈ wsX5_seenIn := by decide +kernel
  have k10 := hts (.fieldLink RX5 10 "LentRights" "house" "LLentRights$House;") (by decide +kernel)
  have k16 := hts (.fieldLink RX5 16 "LentRights" "trial" "LLentRights$House;") (by decide +kernel)
  unfold f_X5_seenIn at hf
  refine lv_iload_n hx hb dX5_seenIn_0 rfl (lv_at hl 1 rfl) ?_
  refine lv_iconst (v := 0) hx hb dX5_seenIn_1 (by decide) ?_
  refine lv_bipush (v := 100) hx hb dX5_seenIn_2 (by decide) ?_
  rcases bx_of hf with ⟨E_3, hc_1, hf⟩ | ⟨u_2, hc_1, hf⟩
  · cases hf
    exact tx_Sx (As := [.int x1, .int (0 : Int32), .int (100 : Int32)]) (rest := []) (nL := 2) hne hlocks ⟨hx, hb, hml, hown, hts⟩ (c_X5_requireRange_x l hfl X x1 (0 : Int32) (100 : Int32) E hc_1) (va_cwS 3 hts gX5_seenIn_X5_requireRange rfl rfl rfl (by decide +kernel) ⟨Nat.le_of_ble_eq_true rfl, Nat.le_of_ble_eq_true rfl⟩) rfl hl.1 rfl (Nat.le_of_ble_eq_true rfl) dX5_seenIn_4 hTS hTZ hK hP (hD0.addr (wLR_fst.trans wLR_fst.symm)) hS hA [] (by decide +kernel) rfl (pt_setid _ _ _ rfl) ⟨Nat.le_of_ble_eq_true rfl, Nat.le_of_ble_eq_true rfl⟩
  · refine fn_Sx (v := none) (As := [.int x1, .int (0 : Int32), .int (100 : Int32)]) (rest := []) (st1 := []) (ws' := (wLR X x0 hh ht ch tx y hy rP fP rT fT rG fG rL fL rH fH gi di re ti rPT fPT rTT fTT rGT fGT rLT fLT rHT fHT giT diT reT tiT rS fS rB fB rO fO pl fa cn ro Qh)) (nL := 2) ⟨hx, hb, hml, hown, hts⟩ (c_X5_requireRange l X x1 (0 : Int32) (100 : Int32) hc_1) (va_cwS 3 hts gX5_seenIn_X5_requireRange rfl rfl rfl (by decide +kernel) ⟨Nat.le_of_ble_eq_true rfl, Nat.le_of_ble_eq_true rfl⟩) rfl hl.1 rfl (Nat.le_of_ble_eq_true rfl) dX5_seenIn_4 hK hP (hD0.addr (wLR_fst.trans wLR_fst.symm)) hS hA [] (by decide +kernel) rfl (pt_setid _ _ _ rfl) rfl ⟨Nat.zero_le _, Nat.zero_le _⟩ (fun H locs hP hD hS => ?_)
    refine lv_aload_n hx hb dX5_seenIn_7 rfl (lv_at hl 0 rfl) ?_
    refine va_get (D := X.1) (ci := 5) (v := .ref (ht 0)) (C := RX5) (T := TX5) (N := 5) hx hb hts hiX5 hown hK.1 hP 0 rfl rfl 1 (by decide) k16 (fun _ h9 => h9) rfl dX5_seenIn_8 ?_
    refine lv_aload_n hx hb dX5_seenIn_11 rfl (lv_at hl 0 rfl) ?_
    refine va_get (D := X.1) (ci := 5) (v := .ref (hh 0)) (C := RX5) (T := TX5) (N := 5) hx hb hts hiX5 hown hK.1 hP 0 rfl rfl 0 (by decide) k10 (fun _ h9 => h9) rfl dX5_seenIn_12 ?_
    obtain ⟨rPT_4, fPT_5, rTT_6, fTT_7, rGT_8, fGT_9, rLT_10, fLT_11, rHT_12, fHT_13, giT_14, diT_15, reT_16, tiT_17, hc_18, hf⟩ := bd14_of hf
    refine fn_VJ (v := none) (As := [.ref (hh 0)]) (rest := []) (st1 := []) (ws' := (wLR X x0 hh ht ch tx y hy rP fP rT fT rG fG rL fL rH fH gi di re ti rPT_4 fPT_5 rTT_6 fTT_7 rGT_8 fGT_9 rLT_10 fLT_11 rHT_12 fHT_13 giT_14 diT_15 reT_16 tiT_17 rS fS rB fB rO fO pl fa cn ro Qh)) (nL := 2) ⟨hx, hb, hml, hown, hts⟩ (c_X2_takeOver l X ht hh rPT fPT rTT fTT rGT fGT rLT fLT rHT fHT giT diT reT tiT rP fP rT fT rG fG rL fL rH fH gi di re ti rPT_4 fPT_5 rTT_6 fTT_7 rGT_8 fGT_9 rLT_10 fLT_11 rHT_12 fHT_13 giT_14 diT_15 reT_16 tiT_17 hc_18) (cwV 1 hts gX5_seenIn_X2_takeOver rfl rfl rfl (by decide +kernel) ⟨Nat.le_of_ble_eq_true rfl, Nat.le_of_ble_eq_true rfl⟩) 2 rfl rfl rfl rfl hl.1 rfl (Nat.le_of_ble_eq_true rfl) dX5_seenIn_15 hK hP (hD0.addr (wLR_fst.trans wLR_fst.symm)) hS hA [12, 13, 14, 15, 16, 17, 18, 19, 20, 21, 22, 1, 2, 3, 4, 5, 6, 7, 8, 9, 10, 11] (by decide +kernel) lC_th lJ_th (wLR_fst.trans wLR_fst.symm) rfl ⟨Nat.zero_le _, Nat.zero_le _⟩ (fun H locs hP hD hS => ?_)
    refine lv_aload_n hx hb dX5_seenIn_18 rfl (lv_at hl 0 rfl) ?_
    refine va_get (D := X.1) (ci := 5) (v := .ref (ht 0)) (C := RX5) (T := TX5) (N := 5) hx hb hts hiX5 hown hK.1 hP 0 rfl rfl 1 (by decide) k16 (fun _ h9 => h9) rfl dX5_seenIn_19 ?_
    refine lv_iload_n hx hb dX5_seenIn_22 rfl (lv_at hl 1 rfl) ?_
    obtain ⟨r_19, fPT_20, rGT_21, fGT_22, rLT_23, fLT_24, fHT_25, diT_26, tiT_27, hc_28, hf⟩ := bd9_of hf
    refine fn_VJ (v := some (.int r_19)) (As := [.int x1]) (rest := []) (st1 := [.int r_19]) (ws' := (wLR X x0 hh ht ch tx y hy rP fP rT fT rG fG rL fL rH fH gi di re ti rPT_4 fPT_20 rTT_6 fTT_7 rGT_21 fGT_22 rLT_23 fLT_24 rHT_12 fHT_25 giT_14 diT_26 reT_16 tiT_27 rS fS rB fB rO fO pl fa cn ro Qh)) (nL := 2) ⟨hx, hb, hml, hown, hts⟩ (c_X2_letPass l X ht rPT_4 fPT_5 rTT_6 fTT_7 rGT_8 fGT_9 rLT_10 fLT_11 rHT_12 fHT_13 giT_14 diT_15 reT_16 tiT_17 x1 r_19 fPT_20 rGT_21 fGT_22 rLT_23 fLT_24 fHT_25 diT_26 tiT_27 hc_28) (cwV 1 hts gX5_seenIn_X2_letPass rfl rfl rfl (by decide +kernel) ⟨Nat.le_of_ble_eq_true rfl, Nat.le_of_ble_eq_true rfl⟩) 2 rfl rfl rfl rfl hl.1 rfl (Nat.le_of_ble_eq_true rfl) dX5_seenIn_23 hK hP (hD0.addr (wLR_fst.trans wLR_fst.symm)) hS hA [12, 13, 14, 15, 16, 17, 18, 19, 20, 21, 22] (by decide +kernel) lC_t lJ_t (wLR_fst.trans wLR_fst.symm) rfl ⟨Nat.zero_le _, Nat.zero_le _⟩ (fun H locs hP hD hS => ?_)
    refine lv_pop hx hb dX5_seenIn_26 rfl ?_
    refine lv_aload_n hx hb dX5_seenIn_27 rfl (lv_at hl 0 rfl) ?_
    refine va_get (D := X.1) (ci := 5) (v := .ref (ht 0)) (C := RX5) (T := TX5) (N := 5) hx hb hts hiX5 hown hK.1 hP 0 rfl rfl 1 (by decide) k16 (fun _ h9 => h9) rfl dX5_seenIn_28 ?_
    obtain ⟨r_29, hc_30, hf⟩ := bd_of hf
    refine fn_V (v := some (.int r_29)) (As := []) (rest := []) (st1 := [.int r_29]) (ws' := (wLR X x0 hh ht ch tx y hy rP fP rT fT rG fG rL fL rH fH gi di re ti rPT_4 fPT_20 rTT_6 fTT_7 rGT_21 fGT_22 rLT_23 fLT_24 rHT_12 fHT_25 giT_14 diT_26 reT_16 tiT_27 rS fS rB fB rO fO pl fa cn ro Qh)) (nL := 2) ⟨hx, hb, hml, hown, hts⟩ (c_X2_countPairs l X ht rPT_4 fPT_20 rTT_6 fTT_7 rGT_21 fGT_22 rLT_23 fLT_24 rHT_12 fHT_25 giT_14 diT_26 reT_16 tiT_27 r_29 hc_30) (cwV 0 hts gX5_seenIn_X2_countPairs rfl rfl rfl (by decide +kernel) ⟨Nat.le_of_ble_eq_true rfl, Nat.le_of_ble_eq_true rfl⟩) 2 rfl rfl rfl rfl hl.1 rfl (Nat.le_of_ble_eq_true rfl) dX5_seenIn_31 hK hP (hD0.addr (wLR_fst.trans wLR_fst.symm)) hS hA [12, 13, 14, 15, 16, 17, 18, 19, 20, 21, 22] (by decide +kernel) lC_t (pt_setid _ _ _ lC_t) rfl ⟨Nat.zero_le _, Nat.zero_le _⟩ (fun H locs hP hD hS => ?_)
    cases hf

def f_X5_gainBy (x1 : Int32) (x2 : Int32) (x3 : Int32) (x4 : Int32) (x5 : Int32) (rP : Int32) (fP : (Nat → Int32)) (rT : Int32) (fT : (Nat → Int32)) (rG : Int32) (fG : (Nat → Int32)) (rL : Int32) (fL : (Nat → Int32)) (rH : Int32) (fH : (Nat → Int32)) (gi : Int32) (di : Int32) (re : Int32) (ti : Int32) (rPT : Int32) (fPT : (Nat → Int32)) (rTT : Int32) (fTT : (Nat → Int32)) (rGT : Int32) (fGT : (Nat → Int32)) (rLT : Int32) (fLT : (Nat → Int32)) (rHT : Int32) (fHT : (Nat → Int32)) (giT : Int32) (diT : Int32) (reT : Int32) (tiT : Int32) : Option ((String × Int32 × (Nat → Int32) × Int32 × (Nat → Int32) × Int32 × (Nat → Int32) × Int32 × (Nat → Int32) × Int32 × (Nat → Int32) × Int32 × Int32 × Int32 × Int32) ⊕ (Int32 × Int32 × (Nat → Int32) × Int32 × (Nat → Int32) × Int32 × (Nat → Int32) × Int32 × (Nat → Int32) × Int32 × (Nat → Int32) × Int32 × Int32 × Int32 × Int32)) :=
  bd (f_X2_faultOfGrant x1 x2 x3 x4 x5 rP fP rT rG rH fH) (fun r_1 =>
  bx (f_X5_requireFit r_1) (fun E_5 => some (.inl (E_5, rPT, fPT, rTT, fTT, rGT, fGT, rLT, fLT, rHT, fHT, giT, diT, reT, tiT))) (fun u_4 =>
  if r_1 = (3 : Int32) then
  (some (.inr ((-1 : Int32), rPT, fPT, rTT, fTT, rGT, fGT, rLT, fLT, rHT, fHT, giT, diT, reT, tiT)))
  else
  (bd14 (f_X2_takeOver rPT fPT rTT fTT rGT fGT rLT fLT rHT fHT giT diT reT tiT rP fP rT fT rG fG rL fL rH fH gi di re ti) (fun rPT_7 fPT_8 rTT_9 fTT_10 rGT_11 fGT_12 rLT_13 fLT_14 rHT_15 fHT_16 giT_17 diT_18 reT_19 tiT_20 =>
  bd5 (f_X2_lend x1 x2 x3 x4 x5 rTT_9 fTT_10 rGT_11 fGT_12 rHT_15 fHT_16 giT_17) (fun r_22 rGT_23 fGT_24 fHT_25 giT_26 =>
  bd (f_X2_countPairs rTT_9 rHT_15 fHT_25) (fun r_28 =>
  bd (f_X2_countPairs rT rH fH) (fun r_30 =>
  nm (r_28 - r_30) (fun v_32 =>
  some (.inr (v_32, rPT_7, fPT_8, rTT_9, fTT_10, rGT_23, fGT_24, rLT_13, fLT_14, rHT_15, fHT_25, giT_26, diT_18, reT_19, tiT_20))))))))))
set_option maxHeartbeats 4000000 in
set_option maxRecDepth 100000 in
theorem c_X5_gainBy (l : Launch) (X : cx_G) (x0 : Nat) (hh : (Nat → Nat)) (ht : (Nat → Nat)) (ch : (Nat → Nat)) (tx : (Nat → Nat)) (y : (Nat → Nat)) (hy : (Nat → Nat → Nat)) (rP : Int32) (fP : (Nat → Int32)) (rT : Int32) (fT : (Nat → Int32)) (rG : Int32) (fG : (Nat → Int32)) (rL : Int32) (fL : (Nat → Int32)) (rH : Int32) (fH : (Nat → Int32)) (gi : Int32) (di : Int32) (re : Int32) (ti : Int32) (rPT : Int32) (fPT : (Nat → Int32)) (rTT : Int32) (fTT : (Nat → Int32)) (rGT : Int32) (fGT : (Nat → Int32)) (rLT : Int32) (fLT : (Nat → Int32)) (rHT : Int32) (fHT : (Nat → Int32)) (giT : Int32) (diT : Int32) (reT : Int32) (tiT : Int32) (rS : Int32) (fS : (Nat → Int32)) (rB : Int32) (fB : (Nat → Int32)) (rO : Int32) (fO : (Nat → Int32)) (pl : Int32) (fa : Int32) (cn : Int32) (ro : Nat) (Qh : (Nat → HS)) (x1 : Int32) (x2 : Int32) (x3 : Int32) (x4 : Int32) (x5 : Int32) (r : Int32) (rPT' : Int32) (fPT' : (Nat → Int32)) (rTT' : Int32) (fTT' : (Nat → Int32)) (rGT' : Int32) (fGT' : (Nat → Int32)) (rLT' : Int32) (fLT' : (Nat → Int32)) (rHT' : Int32) (fHT' : (Nat → Int32)) (giT' : Int32) (diT' : Int32) (reT' : Int32) (tiT' : Int32) (hf : f_X5_gainBy x1 x2 x3 x4 x5 rP fP rT fT rG fG rL fL rH fH gi di re ti rPT fPT rTT fTT rGT fGT rLT fLT rHT fHT giT diT reT tiT = some (.inr (r, rPT', fPT', rTT', fTT', rGT', fGT', rLT', fLT', rHT', fHT', giT', diT', reT', tiT'))) : Fn l yX5_gainBy wsX5_gainBy ({ frames := 4, cells := 0, slots := 0, locals := 101 } : Room) X [.ref (x0), .int x1, .int x2, .int x3, .int x4, .int x5] (wLR X x0 hh ht ch tx y hy rP fP rT fT rG fG rL fL rH fH gi di re ti rPT fPT rTT fTT rGT fGT rLT fLT rHT fHT giT diT reT tiT rS fS rB fB rO fO pl fa cn ro Qh) (some (.int r)) (wLR X x0 hh ht ch tx y hy rP fP rT fT rG fG rL fL rH fH gi di re ti rPT' fPT' rTT' fTT' rGT' fGT' rLT' fLT' rHT' fHT' giT' diT' reT' tiT' rS fS rB fB rO fO pl fa cn ro Qh) := by
  refine fn_intro (cc := cX5_gainBy) (maxL := 7) (ret := (some .int)) (by decide) rfl (wLR_fst.trans wLR_fst.symm) (Nat.le_of_ble_eq_true rfl) ?_
  intro p e s m args below meth c A ls hx hb hml hr hts hown hlocks hK hP hD0 hS hA hl
  have hown : s.vm.findClass RX5 = some m.cls := hown
  have hl : lv_has ls 7 [(0, .ref (x0)), (1, .int x1), (2, .int x2), (3, .int x3), (4, .int x4), (5, .int x5)] := hl
  have hiX5 : ∀ w ∈ u_ws RX5 TX5 5, w ∈ wsX5_gainBy := by decide +kernel
  have k10 := hts (.fieldLink RX5 10 "LentRights" "house" "LLentRights$House;") (by decide +kernel)
  have k16 := hts (.fieldLink RX5 16 "LentRights" "trial" "LLentRights$House;") (by decide +kernel)
  unfold f_X5_gainBy at hf
  refine lv_aload_n hx hb dX5_gainBy_0 rfl (lv_at hl 0 rfl) ?_
  refine va_get (D := X.1) (ci := 5) (v := .ref (hh 0)) (C := RX5) (T := TX5) (N := 5) hx hb hts hiX5 hown hK.1 hP 0 rfl rfl 0 (by decide) k10 (fun _ h9 => h9) rfl dX5_gainBy_1 ?_
  refine lv_iload_n hx hb dX5_gainBy_4 rfl (lv_at hl 1 rfl) ?_
  refine lv_iload_n hx hb dX5_gainBy_5 rfl (lv_at hl 2 rfl) ?_
  refine lv_iload_n hx hb dX5_gainBy_6 rfl (lv_at hl 3 rfl) ?_
  refine lv_iload hx hb dX5_gainBy_7 (lv_at hl 4 rfl) ?_
  refine lv_iload hx hb dX5_gainBy_9 (lv_at hl 5 rfl) ?_
  obtain ⟨r_1, hc_2, hf⟩ := bd_of hf
  refine fn_V (v := some (.int r_1)) (As := [.int x1, .int x2, .int x3, .int x4, .int x5]) (rest := []) (st1 := [.int r_1]) (ws' := (wLR X x0 hh ht ch tx y hy rP fP rT fT rG fG rL fL rH fH gi di re ti rPT fPT rTT fTT rGT fGT rLT fLT rHT fHT giT diT reT tiT rS fS rB fB rO fO pl fa cn ro Qh)) (nL := 7) ⟨hx, hb, hml, hown, hts⟩ (c_X2_faultOfGrant l X hh rP fP rT fT rG fG rL fL rH fH gi di re ti x1 x2 x3 x4 x5 r_1 hc_2) (cwV 5 hts gX5_gainBy_X2_faultOfGrant rfl rfl rfl (by decide +kernel) ⟨Nat.le_of_ble_eq_true rfl, Nat.le_of_ble_eq_true rfl⟩) 2 rfl rfl rfl rfl hl.1 rfl (Nat.le_of_ble_eq_true rfl) dX5_gainBy_11 hK hP (hD0.addr (wLR_fst.trans wLR_fst.symm)) hS hA [1, 2, 3, 4, 5, 6, 7, 8, 9, 10, 11] (by decide +kernel) lC_h (pt_setid _ _ _ lC_h) rfl ⟨Nat.zero_le _, Nat.zero_le _⟩ (fun H locs hP hD hS => ?_)
  refine lv_istore (lv' := [(6, .int r_1), (0, .ref (x0)), (1, .int x1), (2, .int x2), (3, .int x3), (4, .int x4), (5, .int x5)]) hx hb dX5_gainBy_14 hl (by decide) rfl (fun ls hl => ?_)
  refine lv_iload hx hb dX5_gainBy_16 (lv_at hl 0 rfl) ?_
  rcases bx_of hf with ⟨E_5, hc_3, hf⟩ | ⟨u_4, hc_3, hf⟩
  · cases hf
  · refine fn_Sx (v := none) (As := [.int r_1]) (rest := []) (st1 := []) (ws' := (wLR X x0 hh ht ch tx y hy rP fP rT fT rG fG rL fL rH fH gi di re ti rPT fPT rTT fTT rGT fGT rLT fLT rHT fHT giT diT reT tiT rS fS rB fB rO fO pl fa cn ro Qh)) (nL := 7) ⟨hx, hb, hml, hown, hts⟩ (c_X5_requireFit l X r_1 hc_3) (va_cwS 1 hts gX5_gainBy_X5_requireFit rfl rfl rfl (by decide +kernel) ⟨Nat.le_of_ble_eq_true rfl, Nat.le_of_ble_eq_true rfl⟩) rfl hl.1 rfl (Nat.le_of_ble_eq_true rfl) dX5_gainBy_18 hK hP (hD0.addr (wLR_fst.trans wLR_fst.symm)) hS hA [] (by decide +kernel) rfl (pt_setid _ _ _ rfl) rfl ⟨Nat.zero_le _, Nat.zero_le _⟩ (fun H locs hP hD hS => ?_)
    refine lv_iload hx hb dX5_gainBy_21 (lv_at hl 0 rfl) ?_
    refine lv_iconst (v := 3) hx hb dX5_gainBy_23 (by decide) ?_
    refine lv_icmp_ne (tgt := 29) hx hb dX5_gainBy_24 (by decide) (fun c_6 => ?_) (fun c_6 => ?_)
    · replace hf := fp_f c_6 hf
      refine lv_aload_n hx hb dX5_gainBy_29 rfl (lv_at hl 1 rfl) ?_
      refine va_get (D := X.1) (ci := 5) (v := .ref (ht 0)) (C := RX5) (T := TX5) (N := 5) hx hb hts hiX5 hown hK.1 hP 0 rfl rfl 1 (by decide) k16 (fun _ h9 => h9) rfl dX5_gainBy_30 ?_
      refine lv_aload_n hx hb dX5_gainBy_33 rfl (lv_at hl 1 rfl) ?_
      refine va_get (D := X.1) (ci := 5) (v := .ref (hh 0)) (C := RX5) (T := TX5) (N := 5) hx hb hts hiX5 hown hK.1 hP 0 rfl rfl 0 (by decide) k10 (fun _ h9 => h9) rfl dX5_gainBy_34 ?_
      obtain ⟨rPT_7, fPT_8, rTT_9, fTT_10, rGT_11, fGT_12, rLT_13, fLT_14, rHT_15, fHT_16, giT_17, diT_18, reT_19, tiT_20, hc_21, hf⟩ := bd14_of hf
      refine fn_VJ (v := none) (As := [.ref (hh 0)]) (rest := []) (st1 := []) (ws' := (wLR X x0 hh ht ch tx y hy rP fP rT fT rG fG rL fL rH fH gi di re ti rPT_7 fPT_8 rTT_9 fTT_10 rGT_11 fGT_12 rLT_13 fLT_14 rHT_15 fHT_16 giT_17 diT_18 reT_19 tiT_20 rS fS rB fB rO fO pl fa cn ro Qh)) (nL := 7) ⟨hx, hb, hml, hown, hts⟩ (c_X2_takeOver l X ht hh rPT fPT rTT fTT rGT fGT rLT fLT rHT fHT giT diT reT tiT rP fP rT fT rG fG rL fL rH fH gi di re ti rPT_7 fPT_8 rTT_9 fTT_10 rGT_11 fGT_12 rLT_13 fLT_14 rHT_15 fHT_16 giT_17 diT_18 reT_19 tiT_20 hc_21) (cwV 1 hts gX5_gainBy_X2_takeOver rfl rfl rfl (by decide +kernel) ⟨Nat.le_of_ble_eq_true rfl, Nat.le_of_ble_eq_true rfl⟩) 2 rfl rfl rfl rfl hl.1 rfl (Nat.le_of_ble_eq_true rfl) dX5_gainBy_37 hK hP (hD0.addr (wLR_fst.trans wLR_fst.symm)) hS hA [12, 13, 14, 15, 16, 17, 18, 19, 20, 21, 22, 1, 2, 3, 4, 5, 6, 7, 8, 9, 10, 11] (by decide +kernel) lC_th lJ_th (wLR_fst.trans wLR_fst.symm) rfl ⟨Nat.zero_le _, Nat.zero_le _⟩ (fun H locs hP hD hS => ?_)
      refine lv_aload_n hx hb dX5_gainBy_40 rfl (lv_at hl 1 rfl) ?_
      refine va_get (D := X.1) (ci := 5) (v := .ref (ht 0)) (C := RX5) (T := TX5) (N := 5) hx hb hts hiX5 hown hK.1 hP 0 rfl rfl 1 (by decide) k16 (fun _ h9 => h9) rfl dX5_gainBy_41 ?_
      refine lv_iload_n hx hb dX5_gainBy_44 rfl (lv_at hl 2 rfl) ?_
      refine lv_iload_n hx hb dX5_gainBy_45 rfl (lv_at hl 3 rfl) ?_
      refine lv_iload_n hx hb dX5_gainBy_46 rfl (lv_at hl 4 rfl) ?_
      refine lv_iload hx hb dX5_gainBy_47 (lv_at hl 5 rfl) ?_
      refine lv_iload hx hb dX5_gainBy_49 (lv_at hl 6 rfl) ?_
      obtain ⟨r_22, rGT_23, fGT_24, fHT_25, giT_26, hc_27, hf⟩ := bd5_of hf
      refine fn_VJ (v := some (.int r_22)) (As := [.int x1, .int x2, .int x3, .int x4, .int x5]) (rest := []) (st1 := [.int r_22]) (ws' := (wLR X x0 hh ht ch tx y hy rP fP rT fT rG fG rL fL rH fH gi di re ti rPT_7 fPT_8 rTT_9 fTT_10 rGT_23 fGT_24 rLT_13 fLT_14 rHT_15 fHT_25 giT_26 diT_18 reT_19 tiT_20 rS fS rB fB rO fO pl fa cn ro Qh)) (nL := 7) ⟨hx, hb, hml, hown, hts⟩ (c_X2_lend l X ht rPT_7 fPT_8 rTT_9 fTT_10 rGT_11 fGT_12 rLT_13 fLT_14 rHT_15 fHT_16 giT_17 diT_18 reT_19 tiT_20 x1 x2 x3 x4 x5 r_22 rGT_23 fGT_24 fHT_25 giT_26 hc_27) (cwV 5 hts gX5_gainBy_X2_lend rfl rfl rfl (by decide +kernel) ⟨Nat.le_of_ble_eq_true rfl, Nat.le_of_ble_eq_true rfl⟩) 2 rfl rfl rfl rfl hl.1 rfl (Nat.le_of_ble_eq_true rfl) dX5_gainBy_51 hK hP (hD0.addr (wLR_fst.trans wLR_fst.symm)) hS hA [12, 13, 14, 15, 16, 17, 18, 19, 20, 21, 22] (by decide +kernel) lC_t lJ_t (wLR_fst.trans wLR_fst.symm) rfl ⟨Nat.zero_le _, Nat.zero_le _⟩ (fun H locs hP hD hS => ?_)
      refine lv_pop hx hb dX5_gainBy_54 rfl ?_
      refine lv_aload_n hx hb dX5_gainBy_55 rfl (lv_at hl 1 rfl) ?_
      refine va_get (D := X.1) (ci := 5) (v := .ref (ht 0)) (C := RX5) (T := TX5) (N := 5) hx hb hts hiX5 hown hK.1 hP 0 rfl rfl 1 (by decide) k16 (fun _ h9 => h9) rfl dX5_gainBy_56 ?_
      obtain ⟨r_28, hc_29, hf⟩ := bd_of hf
      refine fn_V (v := some (.int r_28)) (As := []) (rest := []) (st1 := [.int r_28]) (ws' := (wLR X x0 hh ht ch tx y hy rP fP rT fT rG fG rL fL rH fH gi di re ti rPT_7 fPT_8 rTT_9 fTT_10 rGT_23 fGT_24 rLT_13 fLT_14 rHT_15 fHT_25 giT_26 diT_18 reT_19 tiT_20 rS fS rB fB rO fO pl fa cn ro Qh)) (nL := 7) ⟨hx, hb, hml, hown, hts⟩ (c_X2_countPairs l X ht rPT_7 fPT_8 rTT_9 fTT_10 rGT_23 fGT_24 rLT_13 fLT_14 rHT_15 fHT_25 giT_26 diT_18 reT_19 tiT_20 r_28 hc_29) (cwV 0 hts gX5_gainBy_X2_countPairs rfl rfl rfl (by decide +kernel) ⟨Nat.le_of_ble_eq_true rfl, Nat.le_of_ble_eq_true rfl⟩) 2 rfl rfl rfl rfl hl.1 rfl (Nat.le_of_ble_eq_true rfl) dX5_gainBy_59 hK hP (hD0.addr (wLR_fst.trans wLR_fst.symm)) hS hA [12, 13, 14, 15, 16, 17, 18, 19, 20, 21, 22] (by decide +kernel) lC_t (pt_setid _ _ _ lC_t) rfl ⟨Nat.zero_le _, Nat.zero_le _⟩ (fun H locs hP hD hS => ?_)
      refine lv_aload_n hx hb dX5_gainBy_62 rfl (lv_at hl 1 rfl) ?_
      refine va_get (D := X.1) (ci := 5) (v := .ref (hh 0)) (C := RX5) (T := TX5) (N := 5) hx hb hts hiX5 hown hK.1 hP 0 rfl rfl 0 (by decide) k10 (fun _ h9 => h9) rfl dX5_gainBy_63 ?_
      obtain ⟨r_30, hc_31, hf⟩ := bd_of hf
      refine fn_V (v := some (.int r_30)) (As := []) (rest := [.int r_28]) (st1 := [.int r_30, .int r_28]) (ws' := (wLR X x0 hh ht ch tx y hy rP fP rT fT rG fG rL fL rH fH gi di re ti rPT_7 fPT_8 rTT_9 fTT_10 rGT_23 fGT_24 rLT_13 fLT_14 rHT_15 fHT_25 giT_26 diT_18 reT_19 tiT_20 rS fS rB fB rO fO pl fa cn ro Qh)) (nL := 7) ⟨hx, hb, hml, hown, hts⟩ (c_X2_countPairs l X hh rP fP rT fT rG fG rL fL rH fH gi di re ti r_30 hc_31) (cwV 0 hts gX5_gainBy_X2_countPairs rfl rfl rfl (by decide +kernel) ⟨Nat.le_of_ble_eq_true rfl, Nat.le_of_ble_eq_true rfl⟩) 2 rfl rfl rfl rfl hl.1 rfl (Nat.le_of_ble_eq_true rfl) dX5_gainBy_66 hK hP (hD0.addr (wLR_fst.trans wLR_fst.symm)) hS hA [1, 2, 3, 4, 5, 6, 7, 8, 9, 10, 11] (by decide +kernel) lC_h (pt_setid _ _ _ lC_h) rfl ⟨Nat.zero_le _, Nat.zero_le _⟩ (fun H locs hP hD hS => ?_)
      refine lv_isub hx hb dX5_gainBy_69 ?_
      refine lv_topi (fun v_32 ev_32 => ?_)
      replace hf := nm_of ev_32 hf
      cases hf
      exact fn_iret hx hb hr hlocks hP hS dX5_gainBy_70
    · replace hf := fp_t c_6 hf
      refine lv_iconst (v := -1) hx hb dX5_gainBy_27 (by decide) ?_
      cases hf
      exact fn_iret hx hb hr hlocks hP hS dX5_gainBy_28
set_option maxHeartbeats 4000000 in
set_option maxRecDepth 100000 in
theorem c_X5_gainBy_x (l : Launch) (hfl : l.stackTraces = false) (X : cx_G) (x0 : Nat) (hh : (Nat → Nat)) (ht : (Nat → Nat)) (ch : (Nat → Nat)) (tx : (Nat → Nat)) (y : (Nat → Nat)) (hy : (Nat → Nat → Nat)) (rP : Int32) (fP : (Nat → Int32)) (rT : Int32) (fT : (Nat → Int32)) (rG : Int32) (fG : (Nat → Int32)) (rL : Int32) (fL : (Nat → Int32)) (rH : Int32) (fH : (Nat → Int32)) (gi : Int32) (di : Int32) (re : Int32) (ti : Int32) (rPT : Int32) (fPT : (Nat → Int32)) (rTT : Int32) (fTT : (Nat → Int32)) (rGT : Int32) (fGT : (Nat → Int32)) (rLT : Int32) (fLT : (Nat → Int32)) (rHT : Int32) (fHT : (Nat → Int32)) (giT : Int32) (diT : Int32) (reT : Int32) (tiT : Int32) (rS : Int32) (fS : (Nat → Int32)) (rB : Int32) (fB : (Nat → Int32)) (rO : Int32) (fO : (Nat → Int32)) (pl : Int32) (fa : Int32) (cn : Int32) (ro : Nat) (Qh : (Nat → HS)) (x1 : Int32) (x2 : Int32) (x3 : Int32) (x4 : Int32) (x5 : Int32) (E : String) (rPT' : Int32) (fPT' : (Nat → Int32)) (rTT' : Int32) (fTT' : (Nat → Int32)) (rGT' : Int32) (fGT' : (Nat → Int32)) (rLT' : Int32) (fLT' : (Nat → Int32)) (rHT' : Int32) (fHT' : (Nat → Int32)) (giT' : Int32) (diT' : Int32) (reT' : Int32) (tiT' : Int32) (hf : f_X5_gainBy x1 x2 x3 x4 x5 rP fP rT fT rG fG rL fL rH fH gi di re ti rPT fPT rTT fTT rGT fGT rLT fLT rHT fHT giT diT reT tiT = some (.inl (E, rPT', fPT', rTT', fTT', rGT', fGT', rLT', fLT', rHT', fHT', giT', diT', reT', tiT'))) : Tx l yX5_gainBy wsX5_gainBy ({ frames := 7, cells := 1, slots := 6, locals := 110 } : Room) X [.ref (x0), .int x1, .int x2, .int x3, .int x4, .int x5] (wLR X x0 hh ht ch tx y hy rP fP rT fT rG fG rL fL rH fH gi di re ti rPT fPT rTT fTT rGT fGT rLT fLT rHT fHT giT diT reT tiT rS fS rB fB rO fO pl fa cn ro Qh) E (wLR X x0 hh ht ch tx y hy rP fP rT fT rG fG rL fL rH fH gi di re ti rPT' fPT' rTT' fTT' rGT' fGT' rLT' fLT' rHT' fHT' giT' diT' reT' tiT' rS fS rB fB rO fO pl fa cn ro Qh) := by
  refine tx_intro (cc := cX5_gainBy) (maxL := 7) (ret := (some .int)) (by decide) rfl (wLR_fst.trans wLR_fst.symm) (Nat.le_of_ble_eq_true rfl) ?_
  intro p e s m args below meth c A ls hx hb hml hr hts hown hlocks hne hK hP hD0 hS hA hTS hTZ hl
  have hown : s.vm.findClass RX5 = some m.cls := hown
  have hl : lv_has ls 7 [(0, .ref (x0)), (1, .int x1), (2, .int x2), (3, .int x3), (4, .int x4), (5, .int x5)] := hl
  have hiX5 : ∀ w ∈ u_ws RX5 TX5 5, w ∈ wsX5_gainBy := by decide +kernel
  have k10 := hts (.fieldLink RX5 10 "LentRights" "house" "LLentRights$House;") (by decide +kernel)
  have k16 := hts (.fieldLink RX5 16 "LentRights" "trial" "LLentRights$House;") (by decide +kernel)
  unfold f_X5_gainBy at hf
  refine lv_aload_n hx hb dX5_gainBy_0 rfl (lv_at hl 0 rfl) ?_
  refine va_get (D := X.1) (ci := 5) (v := .ref (hh 0)) (C := RX5) (T := TX5) (N := 5) hx hb hts hiX5 hown hK.1 hP 0 rfl rfl 0 (by decide) k10 (fun _ h9 => h9) rfl dX5_gainBy_1 ?_
  refine lv_iload_n hx hb dX5_gainBy_4 rfl (lv_at hl 1 rfl) ?_
  refine lv_iload_n hx hb dX5_gainBy_5 rfl (lv_at hl 2 rfl) ?_
  refine lv_iload_n hx hb dX5_gainBy_6 rfl (lv_at hl 3 rfl) ?_
  refine lv_iload hx hb dX5_gainBy_7 (lv_at hl 4 rfl) ?_
  refine lv_iload hx hb dX5_gainBy_9 (lv_at hl 5 rfl) ?_
  obtain ⟨r_1, hc_2, hf⟩ := bd_of hf
  refine fn_V (v := some (.int r_1)) (As := [.int x1, .int x2, .int x3, .int x4, .int x5]) (rest := []) (st1 := [.int r_1]) (ws' := (wLR X x0 hh ht ch tx y hy rP fP rT fT rG fG rL fL rH fH gi di re ti rPT fPT rTT fTT rGT fGT rLT fLT rHT fHT giT diT reT tiT rS fS rB fB rO fO pl fa cn ro Qh)) (nL := 7) ⟨hx, hb, hml, hown, hts⟩ (c_X2_faultOfGrant l X hh rP fP rT fT rG fG rL fL rH fH gi di re ti x1 x2 x3 x4 x5 r_1 hc_2) (cwV 5 hts gX5_gainBy_X2_faultOfGrant rfl rfl rfl (by decide +kernel) ⟨Nat.le_of_ble_eq_true rfl, Nat.le_of_ble_eq_true rfl⟩) 2 rfl rfl rfl rfl hl.1 rfl (Nat.le_of_ble_eq_true rfl) dX5_gainBy_11 hK hP (hD0.addr (wLR_fst.trans wLR_fst.symm)) hS hA [1, 2, 3, 4, 5, 6, 7, 8, 9, 10, 11] (by decide +kernel) lC_h (pt_setid _ _ _ lC_h) rfl ⟨Nat.zero_le _, Nat.zero_le _⟩ (fun H locs hP hD hS => ?_)
  refine lv_istore (lv' := [(6, .int r_1), (0, .ref (x0)), (1, .int x1), (2, .int x2), (3, .int x3), (4, .int x4), (5, .int x5)]) hx hb dX5_gainBy_14 hl (by decide) rfl (fun ls hl => ?_)
  refine lv_iload hx hb dX5_gainBy_16 (lv_at hl 0 rfl) ?_
  rcases bx_of hf with ⟨E_5, hc_3, hf⟩ | ⟨u_4, hc_3, hf⟩
  · cases hf
    exact tx_Sx (As := [.int r_1]) (rest := []) (nL := 7) hne hlocks ⟨hx, hb, hml, hown, hts⟩ (c_X5_requireFit_x l hfl X r_1 E hc_3) (va_cwS 1 hts gX5_gainBy_X5_requireFit rfl rfl rfl (by decide +kernel) ⟨Nat.le_of_ble_eq_true rfl, Nat.le_of_ble_eq_true rfl⟩) rfl hl.1 rfl (Nat.le_of_ble_eq_true rfl) dX5_gainBy_18 hTS hTZ hK hP (hD0.addr (wLR_fst.trans wLR_fst.symm)) hS hA [] (by decide +kernel) rfl (pt_setid _ _ _ rfl) ⟨Nat.le_of_ble_eq_true rfl, Nat.le_of_ble_eq_true rfl⟩
  · refine fn_Sx (v := none) (As := [.int r_1]) (rest := []) (st1 := []) (ws' := (wLR X x0 hh ht ch tx y hy rP fP rT fT rG fG rL fL rH fH gi di re ti rPT fPT rTT fTT rGT fGT rLT fLT rHT fHT giT diT reT tiT rS fS rB fB rO fO pl fa cn ro Qh)) (nL := 7) ⟨hx, hb, hml, hown, hts⟩ (c_X5_requireFit l X r_1 hc_3) (va_cwS 1 hts gX5_gainBy_X5_requireFit rfl rfl rfl (by decide +kernel) ⟨Nat.le_of_ble_eq_true rfl, Nat.le_of_ble_eq_true rfl⟩) rfl hl.1 rfl (Nat.le_of_ble_eq_true rfl) dX5_gainBy_18 hK hP (hD0.addr (wLR_fst.trans wLR_fst.symm)) hS hA [] (by decide +kernel) rfl (pt_setid _ _ _ rfl) rfl ⟨Nat.zero_le _, Nat.zero_le _⟩ (fun H locs hP hD hS => ?_)
    refine lv_iload hx hb dX5_gainBy_21 (lv_at hl 0 rfl) ?_
    refine lv_iconst (v := 3) hx hb dX5_gainBy_23 (by decide) ?_
    refine lv_icmp_ne (tgt := 29) hx hb dX5_gainBy_24 (by decide) (fun c_6 => ?_) (fun c_6 => ?_)
    · replace hf := fp_f c_6 hf
      refine lv_aload_n hx hb dX5_gainBy_29 rfl (lv_at hl 1 rfl) ?_
      refine va_get (D := X.1) (ci := 5) (v := .ref (ht 0)) (C := RX5) (T := TX5) (N := 5) hx hb hts hiX5 hown hK.1 hP 0 rfl rfl 1 (by decide) k16 (fun _ h9 => h9) rfl dX5_gainBy_30 ?_
      refine lv_aload_n hx hb dX5_gainBy_33 rfl (lv_at hl 1 rfl) ?_
      refine va_get (D := X.1) (ci := 5) (v := .ref (hh 0)) (C := RX5) (T := TX5) (N := 5) hx hb hts hiX5 hown hK.1 hP 0 rfl rfl 0 (by decide) k10 (fun _ h9 => h9) rfl dX5_gainBy_34 ?_
      obtain ⟨rPT_7, fPT_8, rTT_9, fTT_10, rGT_11, fGT_12, rLT_13, fLT_14, rHT_15, fHT_16, giT_17, diT_18, reT_19, tiT_20, hc_21, hf⟩ := bd14_of hf
      refine fn_VJ (v := none) (As := [.ref (hh 0)]) (rest := []) (st1 := []) (ws' := (wLR X x0 hh ht ch tx y hy rP fP rT fT rG fG rL fL rH fH gi di re ti rPT_7 fPT_8 rTT_9 fTT_10 rGT_11 fGT_12 rLT_13 fLT_14 rHT_15 fHT_16 giT_17 diT_18 reT_19 tiT_20 rS fS rB fB rO fO pl fa cn ro Qh)) (nL := 7) ⟨hx, hb, hml, hown, hts⟩ (c_X2_takeOver l X ht hh rPT fPT rTT fTT rGT fGT rLT fLT rHT fHT giT diT reT tiT rP fP rT fT rG fG rL fL rH fH gi di re ti rPT_7 fPT_8 rTT_9 fTT_10 rGT_11 fGT_12 rLT_13 fLT_14 rHT_15 fHT_16 giT_17 diT_18 reT_19 tiT_20 hc_21) (cwV 1 hts gX5_gainBy_X2_takeOver rfl rfl rfl (by decide +kernel) ⟨Nat.le_of_ble_eq_true rfl, Nat.le_of_ble_eq_true rfl⟩) 2 rfl rfl rfl rfl hl.1 rfl (Nat.le_of_ble_eq_true rfl) dX5_gainBy_37 hK hP (hD0.addr (wLR_fst.trans wLR_fst.symm)) hS hA [12, 13, 14, 15, 16, 17, 18, 19, 20, 21, 22, 1, 2, 3, 4, 5, 6, 7, 8, 9, 10, 11] (by decide +kernel) lC_th lJ_th (wLR_fst.trans wLR_fst.symm) rfl ⟨Nat.zero_le _, Nat.zero_le _⟩ (fun H locs hP hD hS => ?_)
      refine lv_aload_n hx hb dX5_gainBy_40 rfl (lv_at hl 1 rfl) ?_
      refine va_get (D := X.1) (ci := 5) (v := .ref (ht 0)) (C := RX5) (T := TX5) (N := 5) hx hb hts hiX5 hown hK.1 hP 0 rfl rfl 1 (by decide) k16 (fun _ h9 => h9) rfl dX5_gainBy_41 ?_
      refine lv_iload_n hx hb dX5_gainBy_44 rfl (lv_at hl 2 rfl) ?_
      refine lv_iload_n hx hb dX5_gainBy_45 rfl (lv_at hl 3 rfl) ?_
      refine lv_iload_n hx hb dX5_gainBy_46 rfl (lv_at hl 4 rfl) ?_
      refine lv_iload hx hb dX5_gainBy_47 (lv_at hl 5 rfl) ?_
      refine lv_iload hx hb dX5_gainBy_49 (lv_at hl 6 rfl) ?_
      obtain ⟨r_22, rGT_23, fGT_24, fHT_25, giT_26, hc_27, hf⟩ := bd5_of hf
      refine fn_VJ (v := some (.int r_22)) (As := [.int x1, .int x2, .int x3, .int x4, .int x5]) (rest := []) (st1 := [.int r_22]) (ws' := (wLR X x0 hh ht ch tx y hy rP fP rT fT rG fG rL fL rH fH gi di re ti rPT_7 fPT_8 rTT_9 fTT_10 rGT_23 fGT_24 rLT_13 fLT_14 rHT_15 fHT_25 giT_26 diT_18 reT_19 tiT_20 rS fS rB fB rO fO pl fa cn ro Qh)) (nL := 7) ⟨hx, hb, hml, hown, hts⟩ (c_X2_lend l X ht rPT_7 fPT_8 rTT_9 fTT_10 rGT_11 fGT_12 rLT_13 fLT_14 rHT_15 fHT_16 giT_17 diT_18 reT_19 tiT_20 x1 x2 x3 x4 x5 r_22 rGT_23 fGT_24 fHT_25 giT_26 hc_27) (cwV 5 hts gX5_gainBy_X2_lend rfl rfl rfl (by decide +kernel) ⟨Nat.le_of_ble_eq_true rfl, Nat.le_of_ble_eq_true rfl⟩) 2 rfl rfl rfl rfl hl.1 rfl (Nat.le_of_ble_eq_true rfl) dX5_gainBy_51 hK hP (hD0.addr (wLR_fst.trans wLR_fst.symm)) hS hA [12, 13, 14, 15, 16, 17, 18, 19, 20, 21, 22] (by decide +kernel) lC_t lJ_t (wLR_fst.trans wLR_fst.symm) rfl ⟨Nat.zero_le _, Nat.zero_le _⟩ (fun H locs hP hD hS => ?_)
      refine lv_pop hx hb dX5_gainBy_54 rfl ?_
      refine lv_aload_n hx hb dX5_gainBy_55 rfl (lv_at hl 1 rfl) ?_
      refine va_get (D := X.1) (ci := 5) (v := .ref (ht 0)) (C := RX5) (T := TX5) (N := 5) hx hb hts hiX5 hown hK.1 hP 0 rfl rfl 1 (by decide) k16 (fun _ h9 => h9) rfl dX5_gainBy_56 ?_
      obtain ⟨r_28, hc_29, hf⟩ := bd_of hf
      refine fn_V (v := some (.int r_28)) (As := []) (rest := []) (st1 := [.int r_28]) (ws' := (wLR X x0 hh ht ch tx y hy rP fP rT fT rG fG rL fL rH fH gi di re ti rPT_7 fPT_8 rTT_9 fTT_10 rGT_23 fGT_24 rLT_13 fLT_14 rHT_15 fHT_25 giT_26 diT_18 reT_19 tiT_20 rS fS rB fB rO fO pl fa cn ro Qh)) (nL := 7) ⟨hx, hb, hml, hown, hts⟩ (c_X2_countPairs l X ht rPT_7 fPT_8 rTT_9 fTT_10 rGT_23 fGT_24 rLT_13 fLT_14 rHT_15 fHT_25 giT_26 diT_18 reT_19 tiT_20 r_28 hc_29) (cwV 0 hts gX5_gainBy_X2_countPairs rfl rfl rfl (by decide +kernel) ⟨Nat.le_of_ble_eq_true rfl, Nat.le_of_ble_eq_true rfl⟩) 2 rfl rfl rfl rfl hl.1 rfl (Nat.le_of_ble_eq_true rfl) dX5_gainBy_59 hK hP (hD0.addr (wLR_fst.trans wLR_fst.symm)) hS hA [12, 13, 14, 15, 16, 17, 18, 19, 20, 21, 22] (by decide +kernel) lC_t (pt_setid _ _ _ lC_t) rfl ⟨Nat.zero_le _, Nat.zero_le _⟩ (fun H locs hP hD hS => ?_)
      refine lv_aload_n hx hb dX5_gainBy_62 rfl (lv_at hl 1 rfl) ?_
      refine va_get (D := X.1) (ci := 5) (v := .ref (hh 0)) (C := RX5) (T := TX5) (N := 5) hx hb hts hiX5 hown hK.1 hP 0 rfl rfl 0 (by decide) k10 (fun _ h9 => h9) rfl dX5_gainBy_63 ?_
      obtain ⟨r_30, hc_31, hf⟩ := bd_of hf
      refine fn_V (v := some (.int r_30)) (As := []) (rest := [.int r_28]) (st1 := [.int r_30, .int r_28]) (ws' := (wLR X x0 hh ht ch tx y hy rP fP rT fT rG fG rL fL rH fH gi di re ti rPT_7 fPT_8 rTT_9 fTT_10 rGT_23 fGT_24 rLT_13 fLT_14 rHT_15 fHT_25 giT_26 diT_18 reT_19 tiT_20 rS fS rB fB rO fO pl fa cn ro Qh)) (nL := 7) ⟨hx, hb, hml, hown, hts⟩ (c_X2_countPairs l X hh rP fP rT fT rG fG rL fL rH fH gi di re ti r_30 hc_31) (cwV 0 hts gX5_gainBy_X2_countPairs rfl rfl rfl (by decide +kernel) ⟨Nat.le_of_ble_eq_true rfl, Nat.le_of_ble_eq_true rfl⟩) 2 rfl rfl rfl rfl hl.1 rfl (Nat.le_of_ble_eq_true rfl) dX5_gainBy_66 hK hP (hD0.addr (wLR_fst.trans wLR_fst.symm)) hS hA [1, 2, 3, 4, 5, 6, 7, 8, 9, 10, 11] (by decide +kernel) lC_h (pt_setid _ _ _ lC_h) rfl ⟨Nat.zero_le _, Nat.zero_le _⟩ (fun H locs hP hD hS => ?_)
      refine lv_isub hx hb dX5_gainBy_69 ?_
      refine lv_topi (fun v_32 ev_32 => ?_)
      replace hf := nm_of ev_32 hf
      cases hf
    · replace hf := fp_t c_6 hf
      refine lv_iconst (v := -1) hx hb dX5_gainBy_27 (by decide) ?_
      cases hf

def f_X5_patience (x1 : Int32) (rP : Int32) (fP : (Nat → Int32)) (rG : Int32) (fG : (Nat → Int32)) : Option ((String) ⊕ (Int32)) :=
  bx (f_X5_requirePerson x1) (fun E_3 => some (.inl E_3)) (fun u_2 =>
  bd (f_X3_at (2 : Int32) 20 x1 (0 : Int32) rP fP) (fun r_4 =>
  bd (f_X2_greatestThreshold x1 rG fG) (fun r_6 =>
  nm (r_4 - r_6) (fun v_8 =>
  some (.inr v_8)))))
set_option maxHeartbeats 4000000 in
set_option maxRecDepth 100000 in
theorem c_X5_patience (l : Launch) (X : cx_G) (x0 : Nat) (hh : (Nat → Nat)) (ht : (Nat → Nat)) (ch : (Nat → Nat)) (tx : (Nat → Nat)) (y : (Nat → Nat)) (hy : (Nat → Nat → Nat)) (rP : Int32) (fP : (Nat → Int32)) (rT : Int32) (fT : (Nat → Int32)) (rG : Int32) (fG : (Nat → Int32)) (rL : Int32) (fL : (Nat → Int32)) (rH : Int32) (fH : (Nat → Int32)) (gi : Int32) (di : Int32) (re : Int32) (ti : Int32) (rPT : Int32) (fPT : (Nat → Int32)) (rTT : Int32) (fTT : (Nat → Int32)) (rGT : Int32) (fGT : (Nat → Int32)) (rLT : Int32) (fLT : (Nat → Int32)) (rHT : Int32) (fHT : (Nat → Int32)) (giT : Int32) (diT : Int32) (reT : Int32) (tiT : Int32) (rS : Int32) (fS : (Nat → Int32)) (rB : Int32) (fB : (Nat → Int32)) (rO : Int32) (fO : (Nat → Int32)) (pl : Int32) (fa : Int32) (cn : Int32) (ro : Nat) (Qh : (Nat → HS)) (x1 : Int32) (r : Int32) (hf : f_X5_patience x1 rP fP rG fG = some (.inr r)) : Fn l yX5_patience wsX5_patience ({ frames := 3, cells := 0, slots := 0, locals := 62 } : Room) X [.ref (x0), .int x1] (wLR X x0 hh ht ch tx y hy rP fP rT fT rG fG rL fL rH fH gi di re ti rPT fPT rTT fTT rGT fGT rLT fLT rHT fHT giT diT reT tiT rS fS rB fB rO fO pl fa cn ro Qh) (some (.int r)) (wLR X x0 hh ht ch tx y hy rP fP rT fT rG fG rL fL rH fH gi di re ti rPT fPT rTT fTT rGT fGT rLT fLT rHT fHT giT diT reT tiT rS fS rB fB rO fO pl fa cn ro Qh) := by
  refine fn_intro (cc := cX5_patience) (maxL := 2) (ret := (some .int)) (by decide) rfl rfl (Nat.le_of_ble_eq_true rfl) ?_
  intro p e s m args below meth c A ls hx hb hml hr hts hown hlocks hK hP hD0 hS hA hl
  have hown : s.vm.findClass RX5 = some m.cls := hown
  have hl : lv_has ls 2 [(0, .ref (x0)), (1, .int x1)] := hl
  have hiX2 : ∀ w ∈ u_ws RX2 TX2 9, w ∈ wsX5_patience := by decide +kernel
  have hiX5 : ∀ w ∈ u_ws RX5 TX5 5, w ∈ wsX5_patience := by decide +kernel
  have k10 := hts (.fieldLink RX5 10 "LentRights" "house" "LLentRights$House;") (by decide +kernel)
  have k83 := hts (.fieldLink RX5 83 "LentRights$House" "persons" "LLentRights$Table;") (by decide +kernel)
  unfold f_X5_patience at hf
  refine lv_iload_n hx hb dX5_patience_0 rfl (lv_at hl 1 rfl) ?_
  rcases bx_of hf with ⟨E_3, hc_1, hf⟩ | ⟨u_2, hc_1, hf⟩
  · cases hf
  · refine fn_Sx (v := none) (As := [.int x1]) (rest := []) (st1 := []) (ws' := (wLR X x0 hh ht ch tx y hy rP fP rT fT rG fG rL fL rH fH gi di re ti rPT fPT rTT fTT rGT fGT rLT fLT rHT fHT giT diT reT tiT rS fS rB fB rO fO pl fa cn ro Qh)) (nL := 2) ⟨hx, hb, hml, hown, hts⟩ (c_X5_requirePerson l X x1 hc_1) (va_cwS 1 hts gX5_patience_X5_requirePerson rfl rfl rfl (by decide +kernel) ⟨Nat.le_of_ble_eq_true rfl, Nat.le_of_ble_eq_true rfl⟩) rfl hl.1 rfl (Nat.le_of_ble_eq_true rfl) dX5_patience_1 hK hP (hD0.addr (wLR_fst.trans wLR_fst.symm)) hS hA [] (by decide +kernel) rfl (pt_setid _ _ _ rfl) rfl ⟨Nat.zero_le _, Nat.zero_le _⟩ (fun H locs hP hD hS => ?_)
    refine lv_aload_n hx hb dX5_patience_4 rfl (lv_at hl 0 rfl) ?_
    refine va_get (D := X.1) (ci := 5) (v := .ref (hh 0)) (C := RX5) (T := TX5) (N := 5) hx hb hts hiX5 hown hK.1 hP 0 rfl rfl 0 (by decide) k10 (fun _ h9 => h9) rfl dX5_patience_5 ?_
    refine va_get (D := X.1) (ci := 2) (v := .ref (hh 1)) (C := RX2) (T := TX2) (N := 9) hx hb hts hiX2 hown hK.1 hP 1 rfl rfl 0 (by decide) k83 (fun _ h9 => h9) rfl dX5_patience_8 ?_
    refine lv_iload_n hx hb dX5_patience_11 rfl (lv_at hl 1 rfl) ?_
    refine lv_iconst (v := 0) hx hb dX5_patience_12 (by decide) ?_
    obtain ⟨r_4, hc_5, hf⟩ := bd_of hf
    refine fn_V (v := some (.int r_4)) (As := [.int x1, .int (0 : Int32)]) (rest := []) (st1 := [.int r_4]) (ws' := (wLR X x0 hh ht ch tx y hy rP fP rT fT rG fG rL fL rH fH gi di re ti rPT fPT rTT fTT rGT fGT rLT fLT rHT fHT giT diT reT tiT rS fS rB fB rO fO pl fa cn ro Qh)) (nL := 2) ⟨hx, hb, hml, hown, hts⟩ (c_X3_at l X (hh 1) (hh 2) (10 : Int32) (2 : Int32) 20 rP fP x1 (0 : Int32) r_4 hc_5) (cwV 2 hts gX5_patience_X3_at rfl rfl rfl (by decide +kernel) ⟨Nat.le_of_ble_eq_true rfl, Nat.le_of_ble_eq_true rfl⟩) 3 rfl rfl rfl rfl hl.1 rfl (Nat.le_of_ble_eq_true rfl) dX5_patience_13 hK hP (hD0.addr (wLR_fst.trans wLR_fst.symm)) hS hA [2, 3] (by decide +kernel) rfl (pt_setid _ _ _ rfl) rfl ⟨Nat.zero_le _, Nat.zero_le _⟩ (fun H locs hP hD hS => ?_)
    refine lv_aload_n hx hb dX5_patience_16 rfl (lv_at hl 0 rfl) ?_
    refine va_get (D := X.1) (ci := 5) (v := .ref (hh 0)) (C := RX5) (T := TX5) (N := 5) hx hb hts hiX5 hown hK.1 hP 0 rfl rfl 0 (by decide) k10 (fun _ h9 => h9) rfl dX5_patience_17 ?_
    refine lv_iload_n hx hb dX5_patience_20 rfl (lv_at hl 1 rfl) ?_
    obtain ⟨r_6, hc_7, hf⟩ := bd_of hf
    refine fn_V (v := some (.int r_6)) (As := [.int x1]) (rest := [.int r_4]) (st1 := [.int r_6, .int r_4]) (ws' := (wLR X x0 hh ht ch tx y hy rP fP rT fT rG fG rL fL rH fH gi di re ti rPT fPT rTT fTT rGT fGT rLT fLT rHT fHT giT diT reT tiT rS fS rB fB rO fO pl fa cn ro Qh)) (nL := 2) ⟨hx, hb, hml, hown, hts⟩ (c_X2_greatestThreshold l X hh rP fP rT fT rG fG rL fL rH fH gi di re ti x1 r_6 hc_7) (cwV 1 hts gX5_patience_X2_greatestThreshold rfl rfl rfl (by decide +kernel) ⟨Nat.le_of_ble_eq_true rfl, Nat.le_of_ble_eq_true rfl⟩) 2 rfl rfl rfl rfl hl.1 rfl (Nat.le_of_ble_eq_true rfl) dX5_patience_21 hK hP (hD0.addr (wLR_fst.trans wLR_fst.symm)) hS hA [1, 2, 3, 4, 5, 6, 7, 8, 9, 10, 11] (by decide +kernel) lC_h (pt_setid _ _ _ lC_h) rfl ⟨Nat.zero_le _, Nat.zero_le _⟩ (fun H locs hP hD hS => ?_)
    refine lv_isub hx hb dX5_patience_24 ?_
    refine lv_topi (fun v_8 ev_8 => ?_)
    replace hf := nm_of ev_8 hf
    cases hf
    exact fn_iret hx hb hr hlocks hP hS dX5_patience_25
set_option maxHeartbeats 4000000 in
set_option maxRecDepth 100000 in
theorem c_X5_patience_x (l : Launch) (hfl : l.stackTraces = false) (X : cx_G) (x0 : Nat) (hh : (Nat → Nat)) (ht : (Nat → Nat)) (ch : (Nat → Nat)) (tx : (Nat → Nat)) (y : (Nat → Nat)) (hy : (Nat → Nat → Nat)) (rP : Int32) (fP : (Nat → Int32)) (rT : Int32) (fT : (Nat → Int32)) (rG : Int32) (fG : (Nat → Int32)) (rL : Int32) (fL : (Nat → Int32)) (rH : Int32) (fH : (Nat → Int32)) (gi : Int32) (di : Int32) (re : Int32) (ti : Int32) (rPT : Int32) (fPT : (Nat → Int32)) (rTT : Int32) (fTT : (Nat → Int32)) (rGT : Int32) (fGT : (Nat → Int32)) (rLT : Int32) (fLT : (Nat → Int32)) (rHT : Int32) (fHT : (Nat → Int32)) (giT : Int32) (diT : Int32) (reT : Int32) (tiT : Int32) (rS : Int32) (fS : (Nat → Int32)) (rB : Int32) (fB : (Nat → Int32)) (rO : Int32) (fO : (Nat → Int32)) (pl : Int32) (fa : Int32) (cn : Int32) (ro : Nat) (Qh : (Nat → HS)) (x1 : Int32) (E : String) (hf : f_X5_patience x1 rP fP rG fG = some (.inl E)) : Tx l yX5_patience wsX5_patience ({ frames := 7, cells := 1, slots := 6, locals := 110 } : Room) X [.ref (x0), .int x1] (wLR X x0 hh ht ch tx y hy rP fP rT fT rG fG rL fL rH fH gi di re ti rPT fPT rTT fTT rGT fGT rLT fLT rHT fHT giT diT reT tiT rS fS rB fB rO fO pl fa cn ro Qh) E (wLR X x0 hh ht ch tx y hy rP fP rT fT rG fG rL fL rH fH gi di re ti rPT fPT rTT fTT rGT fGT rLT fLT rHT fHT giT diT reT tiT rS fS rB fB rO fO pl fa cn ro Qh) := by
  refine tx_intro (cc := cX5_patience) (maxL := 2) (ret := (some .int)) (by decide) rfl rfl (Nat.le_of_ble_eq_true rfl) ?_
  intro p e s m args below meth c A ls hx hb hml hr hts hown hlocks hne hK hP hD0 hS hA hTS hTZ hl
  have hown : s.vm.findClass RX5 = some m.cls := hown
  have hl : lv_has ls 2 [(0, .ref (x0)), (1, .int x1)] := hl
  have hiX2 : ∀ w ∈ u_ws RX2 TX2 9, w ∈ wsX5_patience := by decide +kernel
  have hiX5 : ∀ w ∈ u_ws RX5 TX5 5, w ∈ wsX5_patience := by decide +kernel
  have k10 := hts (.fieldLink RX5 10 "LentRights" "house" "LLentRights$House;") (by decide +kernel)
  have k83 := hts (.fieldLink RX5 83 "LentRights$House" "persons" "LLentRights$Table;") (by decide +kernel)
  unfold f_X5_patience at hf
  refine lv_iload_n hx hb dX5_patience_0 rfl (lv_at hl 1 rfl) ?_
  rcases bx_of hf with ⟨E_3, hc_1, hf⟩ | ⟨u_2, hc_1, hf⟩
  · cases hf
    exact tx_Sx (As := [.int x1]) (rest := []) (nL := 2) hne hlocks ⟨hx, hb, hml, hown, hts⟩ (c_X5_requirePerson_x l hfl X x1 E hc_1) (va_cwS 1 hts gX5_patience_X5_requirePerson rfl rfl rfl (by decide +kernel) ⟨Nat.le_of_ble_eq_true rfl, Nat.le_of_ble_eq_true rfl⟩) rfl hl.1 rfl (Nat.le_of_ble_eq_true rfl) dX5_patience_1 hTS hTZ hK hP (hD0.addr (wLR_fst.trans wLR_fst.symm)) hS hA [] (by decide +kernel) rfl (pt_setid _ _ _ rfl) ⟨Nat.le_of_ble_eq_true rfl, Nat.le_of_ble_eq_true rfl⟩
  · refine fn_Sx (v := none) (As := [.int x1]) (rest := []) (st1 := []) (ws' := (wLR X x0 hh ht ch tx y hy rP fP rT fT rG fG rL fL rH fH gi di re ti rPT fPT rTT fTT rGT fGT rLT fLT rHT fHT giT diT reT tiT rS fS rB fB rO fO pl fa cn ro Qh)) (nL := 2) ⟨hx, hb, hml, hown, hts⟩ (c_X5_requirePerson l X x1 hc_1) (va_cwS 1 hts gX5_patience_X5_requirePerson rfl rfl rfl (by decide +kernel) ⟨Nat.le_of_ble_eq_true rfl, Nat.le_of_ble_eq_true rfl⟩) rfl hl.1 rfl (Nat.le_of_ble_eq_true rfl) dX5_patience_1 hK hP (hD0.addr (wLR_fst.trans wLR_fst.symm)) hS hA [] (by decide +kernel) rfl (pt_setid _ _ _ rfl) rfl ⟨Nat.zero_le _, Nat.zero_le _⟩ (fun H locs hP hD hS => ?_)
    refine lv_aload_n hx hb dX5_patience_4 rfl (lv_at hl 0 rfl) ?_
    refine va_get (D := X.1) (ci := 5) (v := .ref (hh 0)) (C := RX5) (T := TX5) (N := 5) hx hb hts hiX5 hown hK.1 hP 0 rfl rfl 0 (by decide) k10 (fun _ h9 => h9) rfl dX5_patience_5 ?_
    refine va_get (D := X.1) (ci := 2) (v := .ref (hh 1)) (C := RX2) (T := TX2) (N := 9) hx hb hts hiX2 hown hK.1 hP 1 rfl rfl 0 (by decide) k83 (fun _ h9 => h9) rfl dX5_patience_8 ?_
    refine lv_iload_n hx hb dX5_patience_11 rfl (lv_at hl 1 rfl) ?_
    refine lv_iconst (v := 0) hx hb dX5_patience_12 (by decide) ?_
    obtain ⟨r_4, hc_5, hf⟩ := bd_of hf
    refine fn_V (v := some (.int r_4)) (As := [.int x1, .int (0 : Int32)]) (rest := []) (st1 := [.int r_4]) (ws' := (wLR X x0 hh ht ch tx y hy rP fP rT fT rG fG rL fL rH fH gi di re ti rPT fPT rTT fTT rGT fGT rLT fLT rHT fHT giT diT reT tiT rS fS rB fB rO fO pl fa cn ro Qh)) (nL := 2) ⟨hx, hb, hml, hown, hts⟩ (c_X3_at l X (hh 1) (hh 2) (10 : Int32) (2 : Int32) 20 rP fP x1 (0 : Int32) r_4 hc_5) (cwV 2 hts gX5_patience_X3_at rfl rfl rfl (by decide +kernel) ⟨Nat.le_of_ble_eq_true rfl, Nat.le_of_ble_eq_true rfl⟩) 3 rfl rfl rfl rfl hl.1 rfl (Nat.le_of_ble_eq_true rfl) dX5_patience_13 hK hP (hD0.addr (wLR_fst.trans wLR_fst.symm)) hS hA [2, 3] (by decide +kernel) rfl (pt_setid _ _ _ rfl) rfl ⟨Nat.zero_le _, Nat.zero_le _⟩ (fun H locs hP hD hS => ?_)
    refine lv_aload_n hx hb dX5_patience_16 rfl (lv_at hl 0 rfl) ?_
    refine va_get (D := X.1) (ci := 5) (v := .ref (hh 0)) (C := RX5) (T := TX5) (N := 5) hx hb hts hiX5 hown hK.1 hP 0 rfl rfl 0 (by decide) k10 (fun _ h9 => h9) rfl dX5_patience_17 ?_
    refine lv_iload_n hx hb dX5_patience_20 rfl (lv_at hl 1 rfl) ?_
    obtain ⟨r_6, hc_7, hf⟩ := bd_of hf
    refine fn_V (v := some (.int r_6)) (As := [.int x1]) (rest := [.int r_4]) (st1 := [.int r_6, .int r_4]) (ws' := (wLR X x0 hh ht ch tx y hy rP fP rT fT rG fG rL fL rH fH gi di re ti rPT fPT rTT fTT rGT fGT rLT fLT rHT fHT giT diT reT tiT rS fS rB fB rO fO pl fa cn ro Qh)) (nL := 2) ⟨hx, hb, hml, hown, hts⟩ (c_X2_greatestThreshold l X hh rP fP rT fT rG fG rL fL rH fH gi di re ti x1 r_6 hc_7) (cwV 1 hts gX5_patience_X2_greatestThreshold rfl rfl rfl (by decide +kernel) ⟨Nat.le_of_ble_eq_true rfl, Nat.le_of_ble_eq_true rfl⟩) 2 rfl rfl rfl rfl hl.1 rfl (Nat.le_of_ble_eq_true rfl) dX5_patience_21 hK hP (hD0.addr (wLR_fst.trans wLR_fst.symm)) hS hA [1, 2, 3, 4, 5, 6, 7, 8, 9, 10, 11] (by decide +kernel) lC_h (pt_setid _ _ _ lC_h) rfl ⟨Nat.zero_le _, Nat.zero_le _⟩ (fun H locs hP hD hS => ?_)
    refine lv_isub hx hb dX5_patience_24 ?_
    refine lv_topi (fun v_8 ev_8 => ?_)
    replace hf := nm_of ev_8 hf
    cases hf

def f_X5_meanChain_L35 (rS : Int32) (fS : (Nat → Int32)) : Nat → Int32 → Int32 → Int32 →  Option (Int32 × Int32)
  | 0, _, _, _ => none
  | k_ + 1, x1, x2, x4 =>
    if (10 : Int32) ≤ x4 then
    (some (x1, x2))
    else
    (bd (f_X0_stepsTo x4 rS fS) (fun r_2 =>
    if r_2 = (-1 : Int32) then
    (nm (x4 + (1 : Int32)) (fun v_5 =>
    f_X5_meanChain_L35 rS fS k_ x1 x2 v_5))
    else
    (nm (x1 + (1 : Int32)) (fun v_6 =>
    nm (x2 + r_2) (fun v_7 =>
    nm (x4 + (1 : Int32)) (fun v_8 =>
    f_X5_meanChain_L35 rS fS k_ v_6 v_7 v_8))))))
def f_X5_meanChain_L6 (rT : Int32) (fT : (Nat → Int32)) (rG : Int32) (fG : (Nat → Int32)) (rH : Int32) (fH : (Nat → Int32)) (rS : Int32) : Nat → Int32 → Int32 → Int32 → (Nat → Int32) →  Option (Int32 × Int32 × (Nat → Int32))
  | 0, _, _, _, _ => none
  | k_ + 1, x1, x2, x3, fS =>
    bd (f_X3_rows rT) (fun r_9 =>
    if r_9 ≤ x3 then
    (some (x1, x2, fS))
    else
    (bd (f_X0_measure x3 rS fS rT fT rG fG rH fH) (fun fS_12 =>
    bd2 (f_X5_meanChain_L35 rS fS_12 FU x1 x2 (0 : Int32)) (fun y1_14 y2_15 =>
    nm (x3 + (1 : Int32)) (fun v_17 =>
    f_X5_meanChain_L6 rT fT rG fG rH fH rS k_ y1_14 y2_15 v_17 fS_12)))))
def f_X5_meanChain (rT : Int32) (fT : (Nat → Int32)) (rG : Int32) (fG : (Nat → Int32)) (rH : Int32) (fH : (Nat → Int32)) (rS : Int32) (fS : (Nat → Int32)) : Option (UInt64 × (Nat → Int32)) :=
  bd3 (f_X5_meanChain_L6 rT fT rG fG rH fH rS FU (0 : Int32) (0 : Int32) (0 : Int32) fS) (fun y1_18 y2_19 fS_20 =>
  if y1_18 = (0 : Int32) then
  (some (FP.dconst0, fS_20))
  else
  (nz (FP.ddiv (FP.i2d y2_19) (FP.i2d y1_18)) (
  some (FP.ddiv (FP.i2d y2_19) (FP.i2d y1_18), fS_20))))
set_option maxHeartbeats 4000000 in
set_option maxRecDepth 100000 in
theorem c_X5_meanChain (l : Launch) (X : cx_G) (x0 : Nat) (hh : (Nat → Nat)) (ht : (Nat → Nat)) (ch : (Nat → Nat)) (tx : (Nat → Nat)) (y : (Nat → Nat)) (hy : (Nat → Nat → Nat)) (rP : Int32) (fP : (Nat → Int32)) (rT : Int32) (fT : (Nat → Int32)) (rG : Int32) (fG : (Nat → Int32)) (rL : Int32) (fL : (Nat → Int32)) (rH : Int32) (fH : (Nat → Int32)) (gi : Int32) (di : Int32) (re : Int32) (ti : Int32) (rPT : Int32) (fPT : (Nat → Int32)) (rTT : Int32) (fTT : (Nat → Int32)) (rGT : Int32) (fGT : (Nat → Int32)) (rLT : Int32) (fLT : (Nat → Int32)) (rHT : Int32) (fHT : (Nat → Int32)) (giT : Int32) (diT : Int32) (reT : Int32) (tiT : Int32) (rS : Int32) (fS : (Nat → Int32)) (rB : Int32) (fB : (Nat → Int32)) (rO : Int32) (fO : (Nat → Int32)) (pl : Int32) (fa : Int32) (cn : Int32) (ro : Nat) (Qh : (Nat → HS)) (r : UInt64) (fS' : (Nat → Int32)) (hf : f_X5_meanChain rT fT rG fG rH fH rS fS = some (r, fS')) : Fn l yX5_meanChain wsX5_meanChain ({ frames := 4, cells := 0, slots := 0, locals := 97 } : Room) X [.ref (x0)] (wLR X x0 hh ht ch tx y hy rP fP rT fT rG fG rL fL rH fH gi di re ti rPT fPT rTT fTT rGT fGT rLT fLT rHT fHT giT diT reT tiT rS fS rB fB rO fO pl fa cn ro Qh) (some (.double r)) (wLR X x0 hh ht ch tx y hy rP fP rT fT rG fG rL fL rH fH gi di re ti rPT fPT rTT fTT rGT fGT rLT fLT rHT fHT giT diT reT tiT rS fS' rB fB rO fO pl fa cn ro Qh) := by
  refine fn_intro (cc := cX5_meanChain) (maxL := 6) (ret := (some .double)) (by decide) rfl (wLR_fst.trans wLR_fst.symm) (Nat.le_of_ble_eq_true rfl) ?_
  intro p e s m args below meth c A ls hx hb hml hr hts hown hlocks hK hP hD0 hS hA hl
  have hown : s.vm.findClass RX5 = some m.cls := hown
  have hl : lv_has ls 6 [(0, .ref (x0))] := hl
  have hiX2 : ∀ w ∈ u_ws RX2 TX2 9, w ∈ wsX5_meanChain := by decide +kernel
  have hiX5 : ∀ w ∈ u_ws RX5 TX5 5, w ∈ wsX5_meanChain := by decide +kernel
  have k10 := hts (.fieldLink RX5 10 "LentRights" "house" "LLentRights$House;") (by decide +kernel)
  have k29 := hts (.fieldLink RX5 29 "LentRights" "chains" "LLentRights$Chains;") (by decide +kernel)
  have k47 := hts (.fieldLink RX5 47 "LentRights$House" "things" "LLentRights$Table;") (by decide +kernel)
  have loop_35 : ∀ (Q : State → Prop) (x3 : Int32) (fS : (Nat → Int32)) (y1 : Int32) (y2 : Int32), (∀ (H : Heap) (locs : List Loc) (ls : Array Slot), va_P X.1 vwCl (wLR X x0 hh ht ch tx y hy rP fP rT fT rG fG rL fL rH fH gi di re ti rPT fPT rTT fTT rGT fGT rLT fLT rHT fHT giT diT reT tiT rS fS rB fB rO fO pl fa cn ro Qh) H → va_S A s.heap H locs → lv_has ls 6 [(0, .ref (x0)), (1, .int y1), (2, .int y2), (3, .int x3)] → W p l e ({ frames := 4, cells := 0, slots := 0, locals := 97 } : Room) s m args below meth c H locs 0 0 Q (F0 m 73 ls [])) → ∀ (k_ : Nat) (x1 : Int32) (x2 : Int32) (x4 : Int32) (H : Heap) (locs : List Loc) (ls : Array Slot), f_X5_meanChain_L35 rS fS k_ x1 x2 x4 = some (y1, y2) → va_P X.1 vwCl (wLR X x0 hh ht ch tx y hy rP fP rT fT rG fG rL fL rH fH gi di re ti rPT fPT rTT fTT rGT fGT rLT fLT rHT fHT giT diT reT tiT rS fS rB fB rO fO pl fa cn ro Qh) H → va_S A s.heap H locs → lv_has ls 6 [(0, .ref (x0)), (1, .int x1), (2, .int x2), (3, .int x3), (4, .int x4)] → W p l e ({ frames := 4, cells := 0, slots := 0, locals := 97 } : Room) s m args below meth c H locs 0 0 Q (F0 m 35 ls []) := by
    intro Q x3 fS y1 y2 kx k_
    induction k_ with
    | zero => intro x1 x2 x4 H locs ls hf; exact nomatch (show (none : Option (Int32 × Int32)) = some _ from hf)
    | succ k_ ih =>
      intro x1 x2 x4 H locs ls hf hP hS hl
      unfold f_X5_meanChain_L35 at hf
      refine lv_iload hx hb dX5_meanChain_35 (lv_at hl 4 rfl) ?_
      refine lv_bipush (v := 10) hx hb dX5_meanChain_37 (by decide) ?_
      refine lv_icmp_ge (tgt := 73) hx hb dX5_meanChain_39 (by decide) (fun c_1 => ?_) (fun c_1 => ?_)
      · replace hf := fp_t c_1 hf
        cases hf
        exact kx _ _ _ hP hS (lv_sub hl [0, 1, 2, 3] rfl)
      · replace hf := fp_f c_1 hf
        refine lv_aload_n hx hb dX5_meanChain_42 rfl (lv_at hl 0 rfl) ?_
        refine va_get (D := X.1) (ci := 5) (v := .ref (ch 0)) (C := RX5) (T := TX5) (N := 5) hx hb hts hiX5 hown hK.1 hP 0 rfl rfl 3 (by decide) k29 (fun _ h9 => h9) rfl dX5_meanChain_43 ?_
        refine lv_iload hx hb dX5_meanChain_46 (lv_at hl 4 rfl) ?_
        obtain ⟨r_2, hc_3, hf⟩ := bd_of hf
        refine fn_V (v := some (.int r_2)) (As := [.int x4]) (rest := []) (st1 := [.int r_2]) (ws' := (wLR X x0 hh ht ch tx y hy rP fP rT fT rG fG rL fL rH fH gi di re ti rPT fPT rTT fTT rGT fGT rLT fLT rHT fHT giT diT reT tiT rS fS rB fB rO fO pl fa cn ro Qh)) (nL := 6) ⟨hx, hb, hml, hown, hts⟩ (c_X0_stepsTo l X ch rS fS x4 r_2 hc_3) (cwV 1 hts gX5_meanChain_X0_stepsTo rfl rfl rfl (by decide +kernel) ⟨Nat.le_of_ble_eq_true rfl, Nat.le_of_ble_eq_true rfl⟩) 0 rfl rfl rfl rfl hl.1 rfl (Nat.le_of_ble_eq_true rfl) dX5_meanChain_48 hK hP (hD0.addr (wLR_fst.trans wLR_fst.symm)) hS hA [23, 24, 25] (by decide +kernel) lC_c (pt_setid _ _ _ lC_c) rfl ⟨Nat.zero_le _, Nat.zero_le _⟩ (fun H locs hP hD hS => ?_)
        refine lv_istore (lv' := [(5, .int r_2), (0, .ref (x0)), (1, .int x1), (2, .int x2), (3, .int x3), (4, .int x4)]) hx hb dX5_meanChain_51 hl (by decide) rfl (fun ls hl => ?_)
        refine lv_iload hx hb dX5_meanChain_53 (lv_at hl 0 rfl) ?_
        refine lv_iconst (v := -1) hx hb dX5_meanChain_55 (by decide) ?_
        refine lv_icmp_eq (tgt := 67) hx hb dX5_meanChain_56 (by decide) (fun c_4 => ?_) (fun c_4 => ?_)
        · replace hf := fp_t c_4 hf
          obtain ⟨v_5, ev_5⟩ : ∃ y : Int32, y = x4 + (1 : Int32) := ⟨_, rfl⟩
          replace hf := nm_of ev_5 hf
          refine lv_iinc (v := v_5) (lv' := [(4, .int v_5), (5, .int r_2), (0, .ref (x0)), (1, .int x1), (2, .int x2), (3, .int x3)]) hx hb dX5_meanChain_67 hl (k := 5) rfl (by rw [ev_5]; rfl) (by decide) rfl (fun ls hl => ?_)
          refine lv_goto (tgt := 35) hx hb dX5_meanChain_70 (by decide) ?_
          exact ih x1 x2 v_5 _ _ _ hf hP hS (lv_sub hl [2, 3, 4, 5, 0] rfl)
        · replace hf := fp_f c_4 hf
          obtain ⟨v_6, ev_6⟩ : ∃ y : Int32, y = x1 + (1 : Int32) := ⟨_, rfl⟩
          replace hf := nm_of ev_6 hf
          refine lv_iinc (v := v_6) (lv' := [(1, .int v_6), (5, .int r_2), (0, .ref (x0)), (2, .int x2), (3, .int x3), (4, .int x4)]) hx hb dX5_meanChain_59 hl (k := 2) rfl (by rw [ev_6]; rfl) (by decide) rfl (fun ls hl => ?_)
          refine lv_iload_n hx hb dX5_meanChain_62 rfl (lv_at hl 3 rfl) ?_
          refine lv_iload hx hb dX5_meanChain_63 (lv_at hl 1 rfl) ?_
          refine lv_iadd hx hb dX5_meanChain_65 ?_
          refine lv_topi (fun v_7 ev_7 => ?_)
          replace hf := nm_of ev_7 hf
          refine lv_istore_n (lv' := [(2, .int v_7), (1, .int v_6), (5, .int r_2), (0, .ref (x0)), (3, .int x3), (4, .int x4)]) hx hb dX5_meanChain_66 rfl hl (by decide) rfl (fun ls hl => ?_)
          obtain ⟨v_8, ev_8⟩ : ∃ y : Int32, y = x4 + (1 : Int32) := ⟨_, rfl⟩
          replace hf := nm_of ev_8 hf
          refine lv_iinc (v := v_8) (lv' := [(4, .int v_8), (2, .int v_7), (1, .int v_6), (5, .int r_2), (0, .ref (x0)), (3, .int x3)]) hx hb dX5_meanChain_67 hl (k := 5) rfl (by rw [ev_8]; rfl) (by decide) rfl (fun ls hl => ?_)
          refine lv_goto (tgt := 35) hx hb dX5_meanChain_70 (by decide) ?_
          exact ih v_6 v_7 v_8 _ _ _ hf hP hS (lv_sub hl [4, 2, 1, 5, 0] rfl)
  have loop_6 : ∀ (Q : State → Prop) (y1 : Int32) (y2 : Int32) (fSo : (Nat → Int32)), (∀ (H : Heap) (locs : List Loc) (ls : Array Slot), va_P X.1 vwCl (wLR X x0 hh ht ch tx y hy rP fP rT fT rG fG rL fL rH fH gi di re ti rPT fPT rTT fTT rGT fGT rLT fLT rHT fHT giT diT reT tiT rS fSo rB fB rO fO pl fa cn ro Qh) H → va_S A s.heap H locs → lv_has ls 6 [(1, .int y1), (2, .int y2)] → W p l e ({ frames := 4, cells := 0, slots := 0, locals := 97 } : Room) s m args below meth c H locs 0 0 Q (F0 m 79 ls [])) → ∀ (k_ : Nat) (x1 : Int32) (x2 : Int32) (x3 : Int32) (fS : (Nat → Int32)) (H : Heap) (locs : List Loc) (ls : Array Slot), f_X5_meanChain_L6 rT fT rG fG rH fH rS k_ x1 x2 x3 fS = some (y1, y2, fSo) → va_P X.1 vwCl (wLR X x0 hh ht ch tx y hy rP fP rT fT rG fG rL fL rH fH gi di re ti rPT fPT rTT fTT rGT fGT rLT fLT rHT fHT giT diT reT tiT rS fS rB fB rO fO pl fa cn ro Qh) H → va_S A s.heap H locs → lv_has ls 6 [(0, .ref (x0)), (1, .int x1), (2, .int x2), (3, .int x3)] → W p l e ({ frames := 4, cells := 0, slots := 0, locals := 97 } : Room) s m args below meth c H locs 0 0 Q (F0 m 6 ls []) := by
    intro Q y1 y2 fSo kx k_
    induction k_ with
    | zero => intro x1 x2 x3 fS H locs ls hf; exact nomatch (show (none : Option (Int32 × Int32 × (Nat → Int32))) = some _ from hf)
    | succ k_ ih =>
      intro x1 x2 x3 fS H locs ls hf hP hS hl
      unfold f_X5_meanChain_L6 at hf
      refine lv_iload_n hx hb dX5_meanChain_6 rfl (lv_at hl 3 rfl) ?_
      refine lv_aload_n hx hb dX5_meanChain_7 rfl (lv_at hl 0 rfl) ?_
      refine va_get (D := X.1) (ci := 5) (v := .ref (hh 0)) (C := RX5) (T := TX5) (N := 5) hx hb hts hiX5 hown hK.1 hP 0 rfl rfl 0 (by decide) k10 (fun _ h9 => h9) rfl dX5_meanChain_8 ?_
      refine va_get (D := X.1) (ci := 2) (v := .ref (hh 3)) (C := RX2) (T := TX2) (N := 9) hx hb hts hiX2 hown hK.1 hP 1 rfl rfl 1 (by decide) k47 (fun _ h9 => h9) rfl dX5_meanChain_11 ?_
      obtain ⟨r_9, hc_10, hf⟩ := bd_of hf
      refine fn_V (v := some (.int r_9)) (As := []) (rest := [.int x3]) (st1 := [.int r_9, .int x3]) (ws' := (wLR X x0 hh ht ch tx y hy rP fP rT fT rG fG rL fL rH fH gi di re ti rPT fPT rTT fTT rGT fGT rLT fLT rHT fHT giT diT reT tiT rS fS rB fB rO fO pl fa cn ro Qh)) (nL := 6) ⟨hx, hb, hml, hown, hts⟩ (c_X3_rows l X (hh 3) (hh 4) (8 : Int32) (2 : Int32) 16 rT fT r_9 hc_10) (cwV 0 hts gX5_meanChain_X3_rows rfl rfl rfl (by decide +kernel) ⟨Nat.le_of_ble_eq_true rfl, Nat.le_of_ble_eq_true rfl⟩) 3 rfl rfl rfl rfl hl.1 rfl (Nat.le_of_ble_eq_true rfl) dX5_meanChain_14 hK hP (hD0.addr (wLR_fst.trans wLR_fst.symm)) hS hA [4, 5] (by decide +kernel) rfl (pt_setid _ _ _ rfl) rfl ⟨Nat.zero_le _, Nat.zero_le _⟩ (fun H locs hP hD hS => ?_)
      refine lv_icmp_ge (tgt := 79) hx hb dX5_meanChain_17 (by decide) (fun c_11 => ?_) (fun c_11 => ?_)
      · replace hf := fp_t c_11 hf
        cases hf
        exact kx _ _ _ hP hS (lv_sub hl [1, 2] rfl)
      · replace hf := fp_f c_11 hf
        refine lv_aload_n hx hb dX5_meanChain_20 rfl (lv_at hl 0 rfl) ?_
        refine va_get (D := X.1) (ci := 5) (v := .ref (ch 0)) (C := RX5) (T := TX5) (N := 5) hx hb hts hiX5 hown hK.1 hP 0 rfl rfl 3 (by decide) k29 (fun _ h9 => h9) rfl dX5_meanChain_21 ?_
        refine lv_aload_n hx hb dX5_meanChain_24 rfl (lv_at hl 0 rfl) ?_
        refine va_get (D := X.1) (ci := 5) (v := .ref (hh 0)) (C := RX5) (T := TX5) (N := 5) hx hb hts hiX5 hown hK.1 hP 0 rfl rfl 0 (by decide) k10 (fun _ h9 => h9) rfl dX5_meanChain_25 ?_
        refine lv_iload_n hx hb dX5_meanChain_28 rfl (lv_at hl 3 rfl) ?_
        obtain ⟨fS_12, hc_13, hf⟩ := bd_of hf
        refine fn_VJ (v := none) (As := [.ref (hh 0), .int x3]) (rest := []) (st1 := []) (ws' := (wLR X x0 hh ht ch tx y hy rP fP rT fT rG fG rL fL rH fH gi di re ti rPT fPT rTT fTT rGT fGT rLT fLT rHT fHT giT diT reT tiT rS fS_12 rB fB rO fO pl fa cn ro Qh)) (nL := 6) ⟨hx, hb, hml, hown, hts⟩ (c_X0_measure l X ch hh rS fS rP fP rT fT rG fG rL fL rH fH gi di re ti x3 fS_12 hc_13) (cwV 2 hts gX5_meanChain_X0_measure rfl rfl rfl (by decide +kernel) ⟨Nat.le_of_ble_eq_true rfl, Nat.le_of_ble_eq_true rfl⟩) 0 rfl rfl rfl rfl hl.1 rfl (Nat.le_of_ble_eq_true rfl) dX5_meanChain_29 hK hP (hD0.addr (wLR_fst.trans wLR_fst.symm)) hS hA [23, 24, 25, 1, 2, 3, 4, 5, 6, 7, 8, 9, 10, 11] (by decide +kernel) lC_ch lJ_ch (wLR_fst.trans wLR_fst.symm) rfl ⟨Nat.zero_le _, Nat.zero_le _⟩ (fun H locs hP hD hS => ?_)
        refine lv_iconst (v := 0) hx hb dX5_meanChain_32 (by decide) ?_
        refine lv_istore (lv' := [(4, .int (0 : Int32)), (0, .ref (x0)), (1, .int x1), (2, .int x2), (3, .int x3)]) hx hb dX5_meanChain_33 hl (by decide) rfl (fun ls hl => ?_)
        obtain ⟨y1_14, y2_15, hL_16, hf⟩ := bd2_of hf
        refine loop_35 _ x3 fS_12 y1_14 y2_15 (fun H locs ls hP hS hl => ?_) FU x1 x2 (0 : Int32) _ _ _ hL_16 hP hS (lv_sub hl [1, 2, 3, 4, 0] rfl)
        obtain ⟨v_17, ev_17⟩ : ∃ y : Int32, y = x3 + (1 : Int32) := ⟨_, rfl⟩
        replace hf := nm_of ev_17 hf
        refine lv_iinc (v := v_17) (lv' := [(3, .int v_17), (0, .ref (x0)), (1, .int y1_14), (2, .int y2_15)]) hx hb dX5_meanChain_73 hl (k := 3) rfl (by rw [ev_17]; rfl) (by decide) rfl (fun ls hl => ?_)
        refine lv_goto (tgt := 6) hx hb dX5_meanChain_76 (by decide) ?_
        exact ih y1_14 y2_15 v_17 fS_12 _ _ _ hf hP hS (lv_sub hl [1, 2, 3, 0] rfl)
  unfold f_X5_meanChain at hf
  refine lv_iconst (v := 0) hx hb dX5_meanChain_0 (by decide) ?_
  refine lv_istore_n (lv' := [(1, .int (0 : Int32)), (0, .ref (x0))]) hx hb dX5_meanChain_1 rfl hl (by decide) rfl (fun ls hl => ?_)
  refine lv_iconst (v := 0) hx hb dX5_meanChain_2 (by decide) ?_
  refine lv_istore_n (lv' := [(2, .int (0 : Int32)), (1, .int (0 : Int32)), (0, .ref (x0))]) hx hb dX5_meanChain_3 rfl hl (by decide) rfl (fun ls hl => ?_)
  refine lv_iconst (v := 0) hx hb dX5_meanChain_4 (by decide) ?_
  refine lv_istore_n (lv' := [(3, .int (0 : Int32)), (2, .int (0 : Int32)), (1, .int (0 : Int32)), (0, .ref (x0))]) hx hb dX5_meanChain_5 rfl hl (by decide) rfl (fun ls hl => ?_)
  obtain ⟨y1_18, y2_19, fS_20, hL_21, hf⟩ := bd3_of hf
  refine loop_6 _ y1_18 y2_19 fS_20 (fun H locs ls hP hS hl => ?_) FU (0 : Int32) (0 : Int32) (0 : Int32) fS _ _ _ hL_21 hP hS (lv_sub hl [3, 2, 1, 0] rfl)
  refine lv_iload_n hx hb dX5_meanChain_79 rfl (lv_at hl 0 rfl) ?_
  refine lv_if_ne (tgt := 87) hx hb dX5_meanChain_80 (by decide) (fun c_22 => ?_) (fun c_22 => ?_)
  · replace hf := fp_f c_22 hf
    refine lv_iload_n hx hb dX5_meanChain_87 rfl (lv_at hl 1 rfl) ?_
    refine lv_i2d hx hb dX5_meanChain_88 ?_
    refine lv_iload_n hx hb dX5_meanChain_89 rfl (lv_at hl 0 rfl) ?_
    refine lv_i2d hx hb dX5_meanChain_90 ?_
    obtain ⟨hn_23, hf⟩ := nz_of hf
    refine lv_ddiv hx hb dX5_meanChain_91 hn_23 ?_
    cases hf
    exact fn_dret hx hb hr hlocks hP hS dX5_meanChain_92
  · replace hf := fp_t c_22 hf
    refine lv_dconst0 hx hb dX5_meanChain_83 ?_
    refine lv_goto (tgt := 92) hx hb dX5_meanChain_84 (by decide) ?_
    cases hf
    exact fn_dret hx hb hr hlocks hP hS dX5_meanChain_92

def f_X5_append (x1 : Int32) (rB : Int32) (fB : (Nat → Int32)) : Option ((String × Int32 × (Nat → Int32)) ⊕ (Int32 × Int32 × (Nat → Int32))) :=
  bx (f_X5_requireRange x1 (0 : Int32) (127 : Int32)) (fun E_3 => some (.inl (E_3, rB, fB))) (fun u_2 =>
  bd (f_X4_isFull rB) (fun r_4 =>
  if r_4 = (0 : Int32) then
  (bd2 (f_X4_add x1 rB fB) (fun rB_7 fB_8 =>
  bd (f_X4_length rB_7) (fun r_10 =>
  some (.inr (r_10, rB_7, fB_8)))))
  else
  (some (.inl ("java/lang/IllegalStateException", rB, fB)))))
set_option maxHeartbeats 4000000 in
set_option maxRecDepth 100000 in
theorem c_X5_append (l : Launch) (X : cx_G) (x0 : Nat) (hh : (Nat → Nat)) (ht : (Nat → Nat)) (ch : (Nat → Nat)) (tx : (Nat → Nat)) (y : (Nat → Nat)) (hy : (Nat → Nat → Nat)) (rP : Int32) (fP : (Nat → Int32)) (rT : Int32) (fT : (Nat → Int32)) (rG : Int32) (fG : (Nat → Int32)) (rL : Int32) (fL : (Nat → Int32)) (rH : Int32) (fH : (Nat → Int32)) (gi : Int32) (di : Int32) (re : Int32) (ti : Int32) (rPT : Int32) (fPT : (Nat → Int32)) (rTT : Int32) (fTT : (Nat → Int32)) (rGT : Int32) (fGT : (Nat → Int32)) (rLT : Int32) (fLT : (Nat → Int32)) (rHT : Int32) (fHT : (Nat → Int32)) (giT : Int32) (diT : Int32) (reT : Int32) (tiT : Int32) (rS : Int32) (fS : (Nat → Int32)) (rB : Int32) (fB : (Nat → Int32)) (rO : Int32) (fO : (Nat → Int32)) (pl : Int32) (fa : Int32) (cn : Int32) (ro : Nat) (Qh : (Nat → HS)) (x1 : Int32) (r : Int32) (rB' : Int32) (fB' : (Nat → Int32)) (hf : f_X5_append x1 rB fB = some (.inr (r, rB', fB'))) : Fn l yX5_append wsX5_append ({ frames := 2, cells := 0, slots := 0, locals := 46 } : Room) X [.ref (x0), .int x1] (wLR X x0 hh ht ch tx y hy rP fP rT fT rG fG rL fL rH fH gi di re ti rPT fPT rTT fTT rGT fGT rLT fLT rHT fHT giT diT reT tiT rS fS rB fB rO fO pl fa cn ro Qh) (some (.int r)) (wLR X x0 hh ht ch tx y hy rP fP rT fT rG fG rL fL rH fH gi di re ti rPT fPT rTT fTT rGT fGT rLT fLT rHT fHT giT diT reT tiT rS fS rB' fB' rO fO pl fa cn ro Qh) := by
  refine fn_intro (cc := cX5_append) (maxL := 2) (ret := (some .int)) (by decide) rfl (wLR_fst.trans wLR_fst.symm) (Nat.le_of_ble_eq_true rfl) ?_
  intro p e s m args below meth c A ls hx hb hml hr hts hown hlocks hK hP hD0 hS hA hl
  have hown : s.vm.findClass RX5 = some m.cls := hown
  have hl : lv_has ls 2 [(0, .ref (x0)), (1, .int x1)] := hl
  have hiX5 : ∀ w ∈ u_ws RX5 TX5 5, w ∈ wsX5_append := by decide +kernel
  have k36 := hts (.fieldLink RX5 36 "LentRights" "text" "LLentRights$Text;") (by decide +kernel)
  unfold f_X5_append at hf
  refine lv_iload_n hx hb dX5_append_0 rfl (lv_at hl 1 rfl) ?_
  refine lv_iconst (v := 0) hx hb dX5_append_1 (by decide) ?_
  refine lv_bipush (v := 127) hx hb dX5_append_2 (by decide) ?_
  rcases bx_of hf with ⟨E_3, hc_1, hf⟩ | ⟨u_2, hc_1, hf⟩
  · cases hf
  · refine fn_Sx (v := none) (As := [.int x1, .int (0 : Int32), .int (127 : Int32)]) (rest := []) (st1 := []) (ws' := (wLR X x0 hh ht ch tx y hy rP fP rT fT rG fG rL fL rH fH gi di re ti rPT fPT rTT fTT rGT fGT rLT fLT rHT fHT giT diT reT tiT rS fS rB fB rO fO pl fa cn ro Qh)) (nL := 2) ⟨hx, hb, hml, hown, hts⟩ (c_X5_requireRange l X x1 (0 : Int32) (127 : Int32) hc_1) (va_cwS 3 hts gX5_append_X5_requireRange rfl rfl rfl (by decide +kernel) ⟨Nat.le_of_ble_eq_true rfl, Nat.le_of_ble_eq_true rfl⟩) rfl hl.1 rfl (Nat.le_of_ble_eq_true rfl) dX5_append_4 hK hP (hD0.addr (wLR_fst.trans wLR_fst.symm)) hS hA [] (by decide +kernel) rfl (pt_setid _ _ _ rfl) rfl ⟨Nat.zero_le _, Nat.zero_le _⟩ (fun H locs hP hD hS => ?_)
    refine lv_aload_n hx hb dX5_append_7 rfl (lv_at hl 0 rfl) ?_
    refine va_get (D := X.1) (ci := 5) (v := .ref (tx 0)) (C := RX5) (T := TX5) (N := 5) hx hb hts hiX5 hown hK.1 hP 0 rfl rfl 4 (by decide) k36 (fun _ h9 => h9) rfl dX5_append_8 ?_
    obtain ⟨r_4, hc_5, hf⟩ := bd_of hf
    refine fn_V (v := some (.int r_4)) (As := []) (rest := []) (st1 := [.int r_4]) (ws' := (wLR X x0 hh ht ch tx y hy rP fP rT fT rG fG rL fL rH fH gi di re ti rPT fPT rTT fTT rGT fGT rLT fLT rHT fHT giT diT reT tiT rS fS rB fB rO fO pl fa cn ro Qh)) (nL := 2) ⟨hx, hb, hml, hown, hts⟩ (c_X4_isFull l X tx rB fB rO fO pl fa r_4 hc_5) (cwV 0 hts gX5_append_X4_isFull rfl rfl rfl (by decide +kernel) ⟨Nat.le_of_ble_eq_true rfl, Nat.le_of_ble_eq_true rfl⟩) 4 rfl rfl rfl rfl hl.1 rfl (Nat.le_of_ble_eq_true rfl) dX5_append_11 hK hP (hD0.addr (wLR_fst.trans wLR_fst.symm)) hS hA [26, 27, 28, 29, 30] (by decide +kernel) lC_x (pt_setid _ _ _ lC_x) rfl ⟨Nat.zero_le _, Nat.zero_le _⟩ (fun H locs hP hD hS => ?_)
    refine lv_if_eq (tgt := 27) hx hb dX5_append_14 (by decide) (fun c_6 => ?_) (fun c_6 => ?_)
    · replace hf := fp_t c_6 hf
      refine lv_aload_n hx hb dX5_append_27 rfl (lv_at hl 0 rfl) ?_
      refine va_get (D := X.1) (ci := 5) (v := .ref (tx 0)) (C := RX5) (T := TX5) (N := 5) hx hb hts hiX5 hown hK.1 hP 0 rfl rfl 4 (by decide) k36 (fun _ h9 => h9) rfl dX5_append_28 ?_
      refine lv_iload_n hx hb dX5_append_31 rfl (lv_at hl 1 rfl) ?_
      obtain ⟨rB_7, fB_8, hc_9, hf⟩ := bd2_of hf
      refine fn_VJ (v := none) (As := [.int x1]) (rest := []) (st1 := []) (ws' := (wLR X x0 hh ht ch tx y hy rP fP rT fT rG fG rL fL rH fH gi di re ti rPT fPT rTT fTT rGT fGT rLT fLT rHT fHT giT diT reT tiT rS fS rB_7 fB_8 rO fO pl fa cn ro Qh)) (nL := 2) ⟨hx, hb, hml, hown, hts⟩ (c_X4_add l X tx rB fB rO fO pl fa x1 rB_7 fB_8 hc_9) (cwV 1 hts gX5_append_X4_add rfl rfl rfl (by decide +kernel) ⟨Nat.le_of_ble_eq_true rfl, Nat.le_of_ble_eq_true rfl⟩) 4 rfl rfl rfl rfl hl.1 rfl (Nat.le_of_ble_eq_true rfl) dX5_append_32 hK hP (hD0.addr (wLR_fst.trans wLR_fst.symm)) hS hA [26, 27, 28, 29, 30] (by decide +kernel) lC_x lJ_x (wLR_fst.trans wLR_fst.symm) rfl ⟨Nat.zero_le _, Nat.zero_le _⟩ (fun H locs hP hD hS => ?_)
      refine lv_aload_n hx hb dX5_append_35 rfl (lv_at hl 0 rfl) ?_
      refine va_get (D := X.1) (ci := 5) (v := .ref (tx 0)) (C := RX5) (T := TX5) (N := 5) hx hb hts hiX5 hown hK.1 hP 0 rfl rfl 4 (by decide) k36 (fun _ h9 => h9) rfl dX5_append_36 ?_
      obtain ⟨r_10, hc_11, hf⟩ := bd_of hf
      refine fn_V (v := some (.int r_10)) (As := []) (rest := []) (st1 := [.int r_10]) (ws' := (wLR X x0 hh ht ch tx y hy rP fP rT fT rG fG rL fL rH fH gi di re ti rPT fPT rTT fTT rGT fGT rLT fLT rHT fHT giT diT reT tiT rS fS rB_7 fB_8 rO fO pl fa cn ro Qh)) (nL := 2) ⟨hx, hb, hml, hown, hts⟩ (c_X4_length l X tx rB_7 fB_8 rO fO pl fa r_10 hc_11) (cwV 0 hts gX5_append_X4_length rfl rfl rfl (by decide +kernel) ⟨Nat.le_of_ble_eq_true rfl, Nat.le_of_ble_eq_true rfl⟩) 4 rfl rfl rfl rfl hl.1 rfl (Nat.le_of_ble_eq_true rfl) dX5_append_39 hK hP (hD0.addr (wLR_fst.trans wLR_fst.symm)) hS hA [26, 27, 28, 29, 30] (by decide +kernel) lC_x (pt_setid _ _ _ lC_x) rfl ⟨Nat.zero_le _, Nat.zero_le _⟩ (fun H locs hP hD hS => ?_)
      cases hf
      exact fn_iret hx hb hr hlocks hP hS dX5_append_42
    · replace hf := fp_f c_6 hf
      cases hf
set_option maxHeartbeats 4000000 in
set_option maxRecDepth 100000 in
theorem c_X5_append_x (l : Launch) (hfl : l.stackTraces = false) (X : cx_G) (x0 : Nat) (hh : (Nat → Nat)) (ht : (Nat → Nat)) (ch : (Nat → Nat)) (tx : (Nat → Nat)) (y : (Nat → Nat)) (hy : (Nat → Nat → Nat)) (rP : Int32) (fP : (Nat → Int32)) (rT : Int32) (fT : (Nat → Int32)) (rG : Int32) (fG : (Nat → Int32)) (rL : Int32) (fL : (Nat → Int32)) (rH : Int32) (fH : (Nat → Int32)) (gi : Int32) (di : Int32) (re : Int32) (ti : Int32) (rPT : Int32) (fPT : (Nat → Int32)) (rTT : Int32) (fTT : (Nat → Int32)) (rGT : Int32) (fGT : (Nat → Int32)) (rLT : Int32) (fLT : (Nat → Int32)) (rHT : Int32) (fHT : (Nat → Int32)) (giT : Int32) (diT : Int32) (reT : Int32) (tiT : Int32) (rS : Int32) (fS : (Nat → Int32)) (rB : Int32) (fB : (Nat → Int32)) (rO : Int32) (fO : (Nat → Int32)) (pl : Int32) (fa : Int32) (cn : Int32) (ro : Nat) (Qh : (Nat → HS)) (x1 : Int32) (E : String) (rB' : Int32) (fB' : (Nat → Int32)) (hf : f_X5_append x1 rB fB = some (.inl (E, rB', fB'))) : Tx l yX5_append wsX5_append ({ frames := 7, cells := 1, slots := 6, locals := 112 } : Room) X [.ref (x0), .int x1] (wLR X x0 hh ht ch tx y hy rP fP rT fT rG fG rL fL rH fH gi di re ti rPT fPT rTT fTT rGT fGT rLT fLT rHT fHT giT diT reT tiT rS fS rB fB rO fO pl fa cn ro Qh) E (wLR X x0 hh ht ch tx y hy rP fP rT fT rG fG rL fL rH fH gi di re ti rPT fPT rTT fTT rGT fGT rLT fLT rHT fHT giT diT reT tiT rS fS rB' fB' rO fO pl fa cn ro Qh) := by
  refine tx_intro (cc := cX5_append) (maxL := 2) (ret := (some .int)) (by decide) rfl (wLR_fst.trans wLR_fst.symm) (Nat.le_of_ble_eq_true rfl) ?_
  intro p e s m args below meth c A ls hx hb hml hr hts hown hlocks hne hK hP hD0 hS hA hTS hTZ hl
  have hown : s.vm.findClass RX5 = some m.cls := hown
  have hl : lv_has ls 2 [(0, .ref (x0)), (1, .int x1)] := hl
  have hiX5 : ∀ w ∈ u_ws RX5 TX5 5, w ∈ wsX5_append := by decide +kernel
  have k36 := hts (.fieldLink RX5 36 "LentRights" "text" "LLentRights$Text;") (by decide +kernel)
  unfold f_X5_append at hf
  refine lv_iload_n hx hb dX5_append_0 rfl (lv_at hl 1 rfl) ?_
  refine lv_iconst (v := 0) hx hb dX5_append_1 (by decide) ?_
  refine lv_bipush (v := 127) hx hb dX5_append_2 (by decide) ?_
  rcases bx_of hf with ⟨E_3, hc_1, hf⟩ | ⟨u_2, hc_1, hf⟩
  · cases hf
    exact tx_Sx (As := [.int x1, .int (0 : Int32), .int (127 : Int32)]) (rest := []) (nL := 2) hne hlocks ⟨hx, hb, hml, hown, hts⟩ (c_X5_requireRange_x l hfl X x1 (0 : Int32) (127 : Int32) E hc_1) (va_cwS 3 hts gX5_append_X5_requireRange rfl rfl rfl (by decide +kernel) ⟨Nat.le_of_ble_eq_true rfl, Nat.le_of_ble_eq_true rfl⟩) rfl hl.1 rfl (Nat.le_of_ble_eq_true rfl) dX5_append_4 hTS hTZ hK hP (hD0.addr (wLR_fst.trans wLR_fst.symm)) hS hA [] (by decide +kernel) rfl (pt_setid _ _ _ rfl) ⟨Nat.le_of_ble_eq_true rfl, Nat.le_of_ble_eq_true rfl⟩
  · refine fn_Sx (v := none) (As := [.int x1, .int (0 : Int32), .int (127 : Int32)]) (rest := []) (st1 := []) (ws' := (wLR X x0 hh ht ch tx y hy rP fP rT fT rG fG rL fL rH fH gi di re ti rPT fPT rTT fTT rGT fGT rLT fLT rHT fHT giT diT reT tiT rS fS rB fB rO fO pl fa cn ro Qh)) (nL := 2) ⟨hx, hb, hml, hown, hts⟩ (c_X5_requireRange l X x1 (0 : Int32) (127 : Int32) hc_1) (va_cwS 3 hts gX5_append_X5_requireRange rfl rfl rfl (by decide +kernel) ⟨Nat.le_of_ble_eq_true rfl, Nat.le_of_ble_eq_true rfl⟩) rfl hl.1 rfl (Nat.le_of_ble_eq_true rfl) dX5_append_4 hK hP (hD0.addr (wLR_fst.trans wLR_fst.symm)) hS hA [] (by decide +kernel) rfl (pt_setid _ _ _ rfl) rfl ⟨Nat.zero_le _, Nat.zero_le _⟩ (fun H locs hP hD hS => ?_)
    refine lv_aload_n hx hb dX5_append_7 rfl (lv_at hl 0 rfl) ?_
    refine va_get (D := X.1) (ci := 5) (v := .ref (tx 0)) (C := RX5) (T := TX5) (N := 5) hx hb hts hiX5 hown hK.1 hP 0 rfl rfl 4 (by decide) k36 (fun _ h9 => h9) rfl dX5_append_8 ?_
    obtain ⟨r_4, hc_5, hf⟩ := bd_of hf
    refine fn_V (v := some (.int r_4)) (As := []) (rest := []) (st1 := [.int r_4]) (ws' := (wLR X x0 hh ht ch tx y hy rP fP rT fT rG fG rL fL rH fH gi di re ti rPT fPT rTT fTT rGT fGT rLT fLT rHT fHT giT diT reT tiT rS fS rB fB rO fO pl fa cn ro Qh)) (nL := 2) ⟨hx, hb, hml, hown, hts⟩ (c_X4_isFull l X tx rB fB rO fO pl fa r_4 hc_5) (cwV 0 hts gX5_append_X4_isFull rfl rfl rfl (by decide +kernel) ⟨Nat.le_of_ble_eq_true rfl, Nat.le_of_ble_eq_true rfl⟩) 4 rfl rfl rfl rfl hl.1 rfl (Nat.le_of_ble_eq_true rfl) dX5_append_11 hK hP (hD0.addr (wLR_fst.trans wLR_fst.symm)) hS hA [26, 27, 28, 29, 30] (by decide +kernel) lC_x (pt_setid _ _ _ lC_x) rfl ⟨Nat.zero_le _, Nat.zero_le _⟩ (fun H locs hP hD hS => ?_)
    refine lv_if_eq (tgt := 27) hx hb dX5_append_14 (by decide) (fun c_6 => ?_) (fun c_6 => ?_)
    · replace hf := fp_t c_6 hf
      refine lv_aload_n hx hb dX5_append_27 rfl (lv_at hl 0 rfl) ?_
      refine va_get (D := X.1) (ci := 5) (v := .ref (tx 0)) (C := RX5) (T := TX5) (N := 5) hx hb hts hiX5 hown hK.1 hP 0 rfl rfl 4 (by decide) k36 (fun _ h9 => h9) rfl dX5_append_28 ?_
      refine lv_iload_n hx hb dX5_append_31 rfl (lv_at hl 1 rfl) ?_
      obtain ⟨rB_7, fB_8, hc_9, hf⟩ := bd2_of hf
      refine fn_VJ (v := none) (As := [.int x1]) (rest := []) (st1 := []) (ws' := (wLR X x0 hh ht ch tx y hy rP fP rT fT rG fG rL fL rH fH gi di re ti rPT fPT rTT fTT rGT fGT rLT fLT rHT fHT giT diT reT tiT rS fS rB_7 fB_8 rO fO pl fa cn ro Qh)) (nL := 2) ⟨hx, hb, hml, hown, hts⟩ (c_X4_add l X tx rB fB rO fO pl fa x1 rB_7 fB_8 hc_9) (cwV 1 hts gX5_append_X4_add rfl rfl rfl (by decide +kernel) ⟨Nat.le_of_ble_eq_true rfl, Nat.le_of_ble_eq_true rfl⟩) 4 rfl rfl rfl rfl hl.1 rfl (Nat.le_of_ble_eq_true rfl) dX5_append_32 hK hP (hD0.addr (wLR_fst.trans wLR_fst.symm)) hS hA [26, 27, 28, 29, 30] (by decide +kernel) lC_x lJ_x (wLR_fst.trans wLR_fst.symm) rfl ⟨Nat.zero_le _, Nat.zero_le _⟩ (fun H locs hP hD hS => ?_)
      refine lv_aload_n hx hb dX5_append_35 rfl (lv_at hl 0 rfl) ?_
      refine va_get (D := X.1) (ci := 5) (v := .ref (tx 0)) (C := RX5) (T := TX5) (N := 5) hx hb hts hiX5 hown hK.1 hP 0 rfl rfl 4 (by decide) k36 (fun _ h9 => h9) rfl dX5_append_36 ?_
      obtain ⟨r_10, hc_11, hf⟩ := bd_of hf
      refine fn_V (v := some (.int r_10)) (As := []) (rest := []) (st1 := [.int r_10]) (ws' := (wLR X x0 hh ht ch tx y hy rP fP rT fT rG fG rL fL rH fH gi di re ti rPT fPT rTT fTT rGT fGT rLT fLT rHT fHT giT diT reT tiT rS fS rB_7 fB_8 rO fO pl fa cn ro Qh)) (nL := 2) ⟨hx, hb, hml, hown, hts⟩ (c_X4_length l X tx rB_7 fB_8 rO fO pl fa r_10 hc_11) (cwV 0 hts gX5_append_X4_length rfl rfl rfl (by decide +kernel) ⟨Nat.le_of_ble_eq_true rfl, Nat.le_of_ble_eq_true rfl⟩) 4 rfl rfl rfl rfl hl.1 rfl (Nat.le_of_ble_eq_true rfl) dX5_append_39 hK hP (hD0.addr (wLR_fst.trans wLR_fst.symm)) hS hA [26, 27, 28, 29, 30] (by decide +kernel) lC_x (pt_setid _ _ _ lC_x) rfl ⟨Nat.zero_le _, Nat.zero_le _⟩ (fun H locs hP hD hS => ?_)
      cases hf
    · replace hf := fp_f c_6 hf
      cases hf
      exact tx_throw (is := 187) hx hb hfl hown (by decide +kernel) hne (hml.trans hl.1.symm) hlocks (hts (.classLink RX5 57 "java/lang/IllegalStateException") (by decide +kernel)) (hts (.initialized "java/lang/IllegalStateException") (by decide +kernel)) hTS.1.2.2.2.2.2.2.1 hTS tk_ISE (fun w hw => hts w (by unfold wsX5_append; simp only [List.mem_cons, List.mem_append, hw, or_true, true_or])) hTZ hP hS (Nat.le_of_ble_eq_true rfl) (Nat.le_of_ble_eq_true rfl) (Nat.le_of_ble_eq_true rfl) (Nat.le_of_ble_eq_true rfl) dX5_append_17 dX5_append_20 dX5_append_21 dX5_append_23 dX5_append_26

def f_X5_clearText (rB : Int32) : Option (Int32 × Int32) :=
  bd (f_X4_length rB) (fun r_1 =>
  bd (f_X4_empty rB) (fun rB_3 =>
  some (r_1, rB_3)))
set_option maxHeartbeats 4000000 in
set_option maxRecDepth 100000 in
theorem c_X5_clearText (l : Launch) (X : cx_G) (x0 : Nat) (hh : (Nat → Nat)) (ht : (Nat → Nat)) (ch : (Nat → Nat)) (tx : (Nat → Nat)) (y : (Nat → Nat)) (hy : (Nat → Nat → Nat)) (rP : Int32) (fP : (Nat → Int32)) (rT : Int32) (fT : (Nat → Int32)) (rG : Int32) (fG : (Nat → Int32)) (rL : Int32) (fL : (Nat → Int32)) (rH : Int32) (fH : (Nat → Int32)) (gi : Int32) (di : Int32) (re : Int32) (ti : Int32) (rPT : Int32) (fPT : (Nat → Int32)) (rTT : Int32) (fTT : (Nat → Int32)) (rGT : Int32) (fGT : (Nat → Int32)) (rLT : Int32) (fLT : (Nat → Int32)) (rHT : Int32) (fHT : (Nat → Int32)) (giT : Int32) (diT : Int32) (reT : Int32) (tiT : Int32) (rS : Int32) (fS : (Nat → Int32)) (rB : Int32) (fB : (Nat → Int32)) (rO : Int32) (fO : (Nat → Int32)) (pl : Int32) (fa : Int32) (cn : Int32) (ro : Nat) (Qh : (Nat → HS)) (r : Int32) (rB' : Int32) (hf : f_X5_clearText rB = some (r, rB')) : Fn l yX5_clearText wsX5_clearText ({ frames := 2, cells := 0, slots := 0, locals := 40 } : Room) X [.ref (x0)] (wLR X x0 hh ht ch tx y hy rP fP rT fT rG fG rL fL rH fH gi di re ti rPT fPT rTT fTT rGT fGT rLT fLT rHT fHT giT diT reT tiT rS fS rB fB rO fO pl fa cn ro Qh) (some (.int r)) (wLR X x0 hh ht ch tx y hy rP fP rT fT rG fG rL fL rH fH gi di re ti rPT fPT rTT fTT rGT fGT rLT fLT rHT fHT giT diT reT tiT rS fS rB' fB rO fO pl fa cn ro Qh) := by
  refine fn_intro (cc := cX5_clearText) (maxL := 2) (ret := (some .int)) (by decide) rfl (wLR_fst.trans wLR_fst.symm) (Nat.le_of_ble_eq_true rfl) ?_
  intro p e s m args below meth c A ls hx hb hml hr hts hown hlocks hK hP hD0 hS hA hl
  have hown : s.vm.findClass RX5 = some m.cls := hown
  have hl : lv_has ls 2 [(0, .ref (x0))] := hl
  have hiX5 : ∀ w ∈ u_ws RX5 TX5 5, w ∈ wsX5_clearText := by decide +kernel
  have k36 := hts (.fieldLink RX5 36 "LentRights" "text" "LLentRights$Text;") (by decide +kernel)
  unfold f_X5_clearText at hf
  refine lv_aload_n hx hb dX5_clearText_0 rfl (lv_at hl 0 rfl) ?_
  refine va_get (D := X.1) (ci := 5) (v := .ref (tx 0)) (C := RX5) (T := TX5) (N := 5) hx hb hts hiX5 hown hK.1 hP 0 rfl rfl 4 (by decide) k36 (fun _ h9 => h9) rfl dX5_clearText_1 ?_
  obtain ⟨r_1, hc_2, hf⟩ := bd_of hf
  refine fn_V (v := some (.int r_1)) (As := []) (rest := []) (st1 := [.int r_1]) (ws' := (wLR X x0 hh ht ch tx y hy rP fP rT fT rG fG rL fL rH fH gi di re ti rPT fPT rTT fTT rGT fGT rLT fLT rHT fHT giT diT reT tiT rS fS rB fB rO fO pl fa cn ro Qh)) (nL := 2) ⟨hx, hb, hml, hown, hts⟩ (c_X4_length l X tx rB fB rO fO pl fa r_1 hc_2) (cwV 0 hts gX5_clearText_X4_length rfl rfl rfl (by decide +kernel) ⟨Nat.le_of_ble_eq_true rfl, Nat.le_of_ble_eq_true rfl⟩) 4 rfl rfl rfl rfl hl.1 rfl (Nat.le_of_ble_eq_true rfl) dX5_clearText_4 hK hP (hD0.addr (wLR_fst.trans wLR_fst.symm)) hS hA [26, 27, 28, 29, 30] (by decide +kernel) lC_x (pt_setid _ _ _ lC_x) rfl ⟨Nat.zero_le _, Nat.zero_le _⟩ (fun H locs hP hD hS => ?_)
  refine lv_istore_n (lv' := [(1, .int r_1), (0, .ref (x0))]) hx hb dX5_clearText_7 rfl hl (by decide) rfl (fun ls hl => ?_)
  refine lv_aload_n hx hb dX5_clearText_8 rfl (lv_at hl 1 rfl) ?_
  refine va_get (D := X.1) (ci := 5) (v := .ref (tx 0)) (C := RX5) (T := TX5) (N := 5) hx hb hts hiX5 hown hK.1 hP 0 rfl rfl 4 (by decide) k36 (fun _ h9 => h9) rfl dX5_clearText_9 ?_
  obtain ⟨rB_3, hc_4, hf⟩ := bd_of hf
  refine fn_VJ (v := none) (As := []) (rest := []) (st1 := []) (ws' := (wLR X x0 hh ht ch tx y hy rP fP rT fT rG fG rL fL rH fH gi di re ti rPT fPT rTT fTT rGT fGT rLT fLT rHT fHT giT diT reT tiT rS fS rB_3 fB rO fO pl fa cn ro Qh)) (nL := 2) ⟨hx, hb, hml, hown, hts⟩ (c_X4_empty l X tx rB fB rO fO pl fa rB_3 hc_4) (cwV 0 hts gX5_clearText_X4_empty rfl rfl rfl (by decide +kernel) ⟨Nat.le_of_ble_eq_true rfl, Nat.le_of_ble_eq_true rfl⟩) 4 rfl rfl rfl rfl hl.1 rfl (Nat.le_of_ble_eq_true rfl) dX5_clearText_12 hK hP (hD0.addr (wLR_fst.trans wLR_fst.symm)) hS hA [26, 27, 28, 29, 30] (by decide +kernel) lC_x lJ_x (wLR_fst.trans wLR_fst.symm) rfl ⟨Nat.zero_le _, Nat.zero_le _⟩ (fun H locs hP hD hS => ?_)
  refine lv_iload_n hx hb dX5_clearText_15 rfl (lv_at hl 0 rfl) ?_
  cases hf
  exact fn_iret hx hb hr hlocks hP hS dX5_clearText_16

def f_X5_obeyGrant (x2 : Int32) (rP : Int32) (fP : (Nat → Int32)) (rT : Int32) (fT : (Nat → Int32)) (rG : Int32) (fG : (Nat → Int32)) (rH : Int32) (fH : (Nat → Int32)) (gi : Int32) (rO : Int32) (fO : (Nat → Int32)) : Option (Int32 × Int32 × (Nat → Int32) × (Nat → Int32) × Int32) :=
  bd (f_X3_at (6 : Int32) 600 x2 (1 : Int32) rO fO) (fun r_1 =>
  bd (f_X3_at (6 : Int32) 600 x2 (2 : Int32) rO fO) (fun r_3 =>
  bd (f_X3_at (6 : Int32) 600 x2 (3 : Int32) rO fO) (fun r_5 =>
  bd (f_X3_at (6 : Int32) 600 x2 (4 : Int32) rO fO) (fun r_7 =>
  bd (f_X3_at (6 : Int32) 600 x2 (5 : Int32) rO fO) (fun r_9 =>
  bd (f_X2_faultOfGrant r_1 r_3 r_5 r_7 r_9 rP fP rT rG rH fH) (fun r_11 =>
  if r_11 = (0 : Int32) then
  (bd5 (f_X2_lend r_1 r_3 r_5 r_7 r_9 rT fT rG fG rH fH gi) (fun r_14 rG_15 fG_16 fH_17 gi_18 =>
  some ((1 : Int32), rG_15, fG_16, fH_17, gi_18)))
  else
  (some ((0 : Int32), rG, fG, fH, gi))))))))
theorem z_X5_obeyGrant {x2 : Int32} {rP : Int32} {fP : (Nat → Int32)} {rT : Int32} {fT : (Nat → Int32)} {rG : Int32} {fG : (Nat → Int32)} {rH : Int32} {fH : (Nat → Int32)} {gi : Int32} {rO : Int32} {fO : (Nat → Int32)} {r : Int32} {rG' : Int32} {fG' : (Nat → Int32)} {fH' : (Nat → Int32)} {gi' : Int32} (hf : f_X5_obeyGrant x2 rP fP rT fT rG fG rH fH gi rO fO = some (r, rG', fG', fH', gi')) : r = 0 ∨ r = 1 := by
  unfold f_X5_obeyGrant at hf
  obtain ⟨r_1, hc_2, hf⟩ := bd_of hf
  obtain ⟨r_3, hc_4, hf⟩ := bd_of hf
  obtain ⟨r_5, hc_6, hf⟩ := bd_of hf
  obtain ⟨r_7, hc_8, hf⟩ := bd_of hf
  obtain ⟨r_9, hc_10, hf⟩ := bd_of hf
  obtain ⟨r_11, hc_12, hf⟩ := bd_of hf
  by_cases c_13 : r_11 = (0 : Int32)
  · replace hf := fp_t c_13 hf
    obtain ⟨r_14, rG_15, fG_16, fH_17, gi_18, hc_19, hf⟩ := bd5_of hf
    cases hf
    exact Or.inr rfl
  · replace hf := fp_f c_13 hf
    cases hf
    exact Or.inl rfl
set_option maxHeartbeats 4000000 in
set_option maxRecDepth 100000 in
theorem c_X5_obeyGrant (l : Launch) (X : cx_G) (x0 : Nat) (hh : (Nat → Nat)) (ht : (Nat → Nat)) (ch : (Nat → Nat)) (tx : (Nat → Nat)) (y : (Nat → Nat)) (hy : (Nat → Nat → Nat)) (rP : Int32) (fP : (Nat → Int32)) (rT : Int32) (fT : (Nat → Int32)) (rG : Int32) (fG : (Nat → Int32)) (rL : Int32) (fL : (Nat → Int32)) (rH : Int32) (fH : (Nat → Int32)) (gi : Int32) (di : Int32) (re : Int32) (ti : Int32) (rPT : Int32) (fPT : (Nat → Int32)) (rTT : Int32) (fTT : (Nat → Int32)) (rGT : Int32) (fGT : (Nat → Int32)) (rLT : Int32) (fLT : (Nat → Int32)) (rHT : Int32) (fHT : (Nat → Int32)) (giT : Int32) (diT : Int32) (reT : Int32) (tiT : Int32) (rS : Int32) (fS : (Nat → Int32)) (rB : Int32) (fB : (Nat → Int32)) (rO : Int32) (fO : (Nat → Int32)) (pl : Int32) (fa : Int32) (cn : Int32) (ro : Nat) (Qh : (Nat → HS)) (x2 : Int32) (r : Int32) (rG' : Int32) (fG' : (Nat → Int32)) (fH' : (Nat → Int32)) (gi' : Int32) (hf : f_X5_obeyGrant x2 rP fP rT fT rG fG rH fH gi rO fO = some (r, rG', fG', fH', gi')) : Fn l yX5_obeyGrant wsX5_obeyGrant ({ frames := 4, cells := 0, slots := 0, locals := 101 } : Room) X [.ref (x0), .ref (tx 3), .int x2] (wLR X x0 hh ht ch tx y hy rP fP rT fT rG fG rL fL rH fH gi di re ti rPT fPT rTT fTT rGT fGT rLT fLT rHT fHT giT diT reT tiT rS fS rB fB rO fO pl fa cn ro Qh) (some (.int r)) (wLR X x0 hh ht ch tx y hy rP fP rT fT rG' fG' rL fL rH fH' gi' di re ti rPT fPT rTT fTT rGT fGT rLT fLT rHT fHT giT diT reT tiT rS fS rB fB rO fO pl fa cn ro Qh) := by
  refine fn_intro (cc := cX5_obeyGrant) (maxL := 8) (ret := (some .boolean)) (by decide) rfl (wLR_fst.trans wLR_fst.symm) (Nat.le_of_ble_eq_true rfl) ?_
  intro p e s m args below meth c A ls hx hb hml hr hts hown hlocks hK hP hD0 hS hA hl
  have hown : s.vm.findClass RX5 = some m.cls := hown
  have hl : lv_has ls 8 [(0, .ref (x0)), (1, .ref (tx 3)), (2, .int x2)] := hl
  have hiX5 : ∀ w ∈ u_ws RX5 TX5 5, w ∈ wsX5_obeyGrant := by decide +kernel
  have k10 := hts (.fieldLink RX5 10 "LentRights" "house" "LLentRights$House;") (by decide +kernel)
  unfold f_X5_obeyGrant at hf
  refine lv_aload_n hx hb dX5_obeyGrant_0 rfl (lv_at hl 1 rfl) ?_
  refine lv_iload_n hx hb dX5_obeyGrant_1 rfl (lv_at hl 2 rfl) ?_
  refine lv_iconst (v := 1) hx hb dX5_obeyGrant_2 (by decide) ?_
  obtain ⟨r_1, hc_2, hf⟩ := bd_of hf
  refine fn_V (v := some (.int r_1)) (As := [.int x2, .int (1 : Int32)]) (rest := []) (st1 := [.int r_1]) (ws' := (wLR X x0 hh ht ch tx y hy rP fP rT fT rG fG rL fL rH fH gi di re ti rPT fPT rTT fTT rGT fGT rLT fLT rHT fHT giT diT reT tiT rS fS rB fB rO fO pl fa cn ro Qh)) (nL := 8) ⟨hx, hb, hml, hown, hts⟩ (c_X3_at l X (tx 3) (tx 4) (100 : Int32) (6 : Int32) 600 rO fO x2 (1 : Int32) r_1 hc_2) (cwV 2 hts gX5_obeyGrant_X3_at rfl rfl rfl (by decide +kernel) ⟨Nat.le_of_ble_eq_true rfl, Nat.le_of_ble_eq_true rfl⟩) 3 rfl rfl rfl rfl hl.1 rfl (Nat.le_of_ble_eq_true rfl) dX5_obeyGrant_3 hK hP (hD0.addr (wLR_fst.trans wLR_fst.symm)) hS hA [29, 30] (by decide +kernel) rfl (pt_setid _ _ _ rfl) rfl ⟨Nat.zero_le _, Nat.zero_le _⟩ (fun H locs hP hD hS => ?_)
  refine lv_istore_n (lv' := [(3, .int r_1), (0, .ref (x0)), (1, .ref (tx 3)), (2, .int x2)]) hx hb dX5_obeyGrant_6 rfl hl (by decide) rfl (fun ls hl => ?_)
  refine lv_aload_n hx hb dX5_obeyGrant_7 rfl (lv_at hl 2 rfl) ?_
  refine lv_iload_n hx hb dX5_obeyGrant_8 rfl (lv_at hl 3 rfl) ?_
  refine lv_iconst (v := 2) hx hb dX5_obeyGrant_9 (by decide) ?_
  obtain ⟨r_3, hc_4, hf⟩ := bd_of hf
  refine fn_V (v := some (.int r_3)) (As := [.int x2, .int (2 : Int32)]) (rest := []) (st1 := [.int r_3]) (ws' := (wLR X x0 hh ht ch tx y hy rP fP rT fT rG fG rL fL rH fH gi di re ti rPT fPT rTT fTT rGT fGT rLT fLT rHT fHT giT diT reT tiT rS fS rB fB rO fO pl fa cn ro Qh)) (nL := 8) ⟨hx, hb, hml, hown, hts⟩ (c_X3_at l X (tx 3) (tx 4) (100 : Int32) (6 : Int32) 600 rO fO x2 (2 : Int32) r_3 hc_4) (cwV 2 hts gX5_obeyGrant_X3_at rfl rfl rfl (by decide +kernel) ⟨Nat.le_of_ble_eq_true rfl, Nat.le_of_ble_eq_true rfl⟩) 3 rfl rfl rfl rfl hl.1 rfl (Nat.le_of_ble_eq_true rfl) dX5_obeyGrant_10 hK hP (hD0.addr (wLR_fst.trans wLR_fst.symm)) hS hA [29, 30] (by decide +kernel) rfl (pt_setid _ _ _ rfl) rfl ⟨Nat.zero_le _, Nat.zero_le _⟩ (fun H locs hP hD hS => ?_)
  refine lv_istore (lv' := [(4, .int r_3), (3, .int r_1), (0, .ref (x0)), (1, .ref (tx 3)), (2, .int x2)]) hx hb dX5_obeyGrant_13 hl (by decide) rfl (fun ls hl => ?_)
  refine lv_aload_n hx hb dX5_obeyGrant_15 rfl (lv_at hl 3 rfl) ?_
  refine lv_iload_n hx hb dX5_obeyGrant_16 rfl (lv_at hl 4 rfl) ?_
  refine lv_iconst (v := 3) hx hb dX5_obeyGrant_17 (by decide) ?_
  obtain ⟨r_5, hc_6, hf⟩ := bd_of hf
  refine fn_V (v := some (.int r_5)) (As := [.int x2, .int (3 : Int32)]) (rest := []) (st1 := [.int r_5]) (ws' := (wLR X x0 hh ht ch tx y hy rP fP rT fT rG fG rL fL rH fH gi di re ti rPT fPT rTT fTT rGT fGT rLT fLT rHT fHT giT diT reT tiT rS fS rB fB rO fO pl fa cn ro Qh)) (nL := 8) ⟨hx, hb, hml, hown, hts⟩ (c_X3_at l X (tx 3) (tx 4) (100 : Int32) (6 : Int32) 600 rO fO x2 (3 : Int32) r_5 hc_6) (cwV 2 hts gX5_obeyGrant_X3_at rfl rfl rfl (by decide +kernel) ⟨Nat.le_of_ble_eq_true rfl, Nat.le_of_ble_eq_true rfl⟩) 3 rfl rfl rfl rfl hl.1 rfl (Nat.le_of_ble_eq_true rfl) dX5_obeyGrant_18 hK hP (hD0.addr (wLR_fst.trans wLR_fst.symm)) hS hA [29, 30] (by decide +kernel) rfl (pt_setid _ _ _ rfl) rfl ⟨Nat.zero_le _, Nat.zero_le _⟩ (fun H locs hP hD hS => ?_)
  refine lv_istore (lv' := [(5, .int r_5), (4, .int r_3), (3, .int r_1), (0, .ref (x0)), (1, .ref (tx 3)), (2, .int x2)]) hx hb dX5_obeyGrant_21 hl (by decide) rfl (fun ls hl => ?_)
  refine lv_aload_n hx hb dX5_obeyGrant_23 rfl (lv_at hl 4 rfl) ?_
  refine lv_iload_n hx hb dX5_obeyGrant_24 rfl (lv_at hl 5 rfl) ?_
  refine lv_iconst (v := 4) hx hb dX5_obeyGrant_25 (by decide) ?_
  obtain ⟨r_7, hc_8, hf⟩ := bd_of hf
  refine fn_V (v := some (.int r_7)) (As := [.int x2, .int (4 : Int32)]) (rest := []) (st1 := [.int r_7]) (ws' := (wLR X x0 hh ht ch tx y hy rP fP rT fT rG fG rL fL rH fH gi di re ti rPT fPT rTT fTT rGT fGT rLT fLT rHT fHT giT diT reT tiT rS fS rB fB rO fO pl fa cn ro Qh)) (nL := 8) ⟨hx, hb, hml, hown, hts⟩ (c_X3_at l X (tx 3) (tx 4) (100 : Int32) (6 : Int32) 600 rO fO x2 (4 : Int32) r_7 hc_8) (cwV 2 hts gX5_obeyGrant_X3_at rfl rfl rfl (by decide +kernel) ⟨Nat.le_of_ble_eq_true rfl, Nat.le_of_ble_eq_true rfl⟩) 3 rfl rfl rfl rfl hl.1 rfl (Nat.le_of_ble_eq_true rfl) dX5_obeyGrant_26 hK hP (hD0.addr (wLR_fst.trans wLR_fst.symm)) hS hA [29, 30] (by decide +kernel) rfl (pt_setid _ _ _ rfl) rfl ⟨Nat.zero_le _, Nat.zero_le _⟩ (fun H locs hP hD hS => ?_)
  refine lv_istore (lv' := [(6, .int r_7), (5, .int r_5), (4, .int r_3), (3, .int r_1), (0, .ref (x0)), (1, .ref (tx 3)), (2, .int x2)]) hx hb dX5_obeyGrant_29 hl (by decide) rfl (fun ls hl => ?_)
  refine lv_aload_n hx hb dX5_obeyGrant_31 rfl (lv_at hl 5 rfl) ?_
  refine lv_iload_n hx hb dX5_obeyGrant_32 rfl (lv_at hl 6 rfl) ?_
  refine lv_iconst (v := 5) hx hb dX5_obeyGrant_33 (by decide) ?_
  obtain ⟨r_9, hc_10, hf⟩ := bd_of hf
  refine fn_V (v := some (.int r_9)) (As := [.int x2, .int (5 : Int32)]) (rest := []) (st1 := [.int r_9]) (ws' := (wLR X x0 hh ht ch tx y hy rP fP rT fT rG fG rL fL rH fH gi di re ti rPT fPT rTT fTT rGT fGT rLT fLT rHT fHT giT diT reT tiT rS fS rB fB rO fO pl fa cn ro Qh)) (nL := 8) ⟨hx, hb, hml, hown, hts⟩ (c_X3_at l X (tx 3) (tx 4) (100 : Int32) (6 : Int32) 600 rO fO x2 (5 : Int32) r_9 hc_10) (cwV 2 hts gX5_obeyGrant_X3_at rfl rfl rfl (by decide +kernel) ⟨Nat.le_of_ble_eq_true rfl, Nat.le_of_ble_eq_true rfl⟩) 3 rfl rfl rfl rfl hl.1 rfl (Nat.le_of_ble_eq_true rfl) dX5_obeyGrant_34 hK hP (hD0.addr (wLR_fst.trans wLR_fst.symm)) hS hA [29, 30] (by decide +kernel) rfl (pt_setid _ _ _ rfl) rfl ⟨Nat.zero_le _, Nat.zero_le _⟩ (fun H locs hP hD hS => ?_)
  refine lv_istore (lv' := [(7, .int r_9), (6, .int r_7), (5, .int r_5), (4, .int r_3), (3, .int r_1), (0, .ref (x0)), (1, .ref (tx 3)), (2, .int x2)]) hx hb dX5_obeyGrant_37 hl (by decide) rfl (fun ls hl => ?_)
  refine lv_aload_n hx hb dX5_obeyGrant_39 rfl (lv_at hl 5 rfl) ?_
  refine va_get (D := X.1) (ci := 5) (v := .ref (hh 0)) (C := RX5) (T := TX5) (N := 5) hx hb hts hiX5 hown hK.1 hP 0 rfl rfl 0 (by decide) k10 (fun _ h9 => h9) rfl dX5_obeyGrant_40 ?_
  refine lv_iload_n hx hb dX5_obeyGrant_43 rfl (lv_at hl 4 rfl) ?_
  refine lv_iload hx hb dX5_obeyGrant_44 (lv_at hl 3 rfl) ?_
  refine lv_iload hx hb dX5_obeyGrant_46 (lv_at hl 2 rfl) ?_
  refine lv_iload hx hb dX5_obeyGrant_48 (lv_at hl 1 rfl) ?_
  refine lv_iload hx hb dX5_obeyGrant_50 (lv_at hl 0 rfl) ?_
  obtain ⟨r_11, hc_12, hf⟩ := bd_of hf
  refine fn_V (v := some (.int r_11)) (As := [.int r_1, .int r_3, .int r_5, .int r_7, .int r_9]) (rest := []) (st1 := [.int r_11]) (ws' := (wLR X x0 hh ht ch tx y hy rP fP rT fT rG fG rL fL rH fH gi di re ti rPT fPT rTT fTT rGT fGT rLT fLT rHT fHT giT diT reT tiT rS fS rB fB rO fO pl fa cn ro Qh)) (nL := 8) ⟨hx, hb, hml, hown, hts⟩ (c_X2_faultOfGrant l X hh rP fP rT fT rG fG rL fL rH fH gi di re ti r_1 r_3 r_5 r_7 r_9 r_11 hc_12) (cwV 5 hts gX5_obeyGrant_X2_faultOfGrant rfl rfl rfl (by decide +kernel) ⟨Nat.le_of_ble_eq_true rfl, Nat.le_of_ble_eq_true rfl⟩) 2 rfl rfl rfl rfl hl.1 rfl (Nat.le_of_ble_eq_true rfl) dX5_obeyGrant_52 hK hP (hD0.addr (wLR_fst.trans wLR_fst.symm)) hS hA [1, 2, 3, 4, 5, 6, 7, 8, 9, 10, 11] (by decide +kernel) lC_h (pt_setid _ _ _ lC_h) rfl ⟨Nat.zero_le _, Nat.zero_le _⟩ (fun H locs hP hD hS => ?_)
  refine lv_if_eq (tgt := 60) hx hb dX5_obeyGrant_55 (by decide) (fun c_13 => ?_) (fun c_13 => ?_)
  · replace hf := fp_t c_13 hf
    refine lv_aload_n hx hb dX5_obeyGrant_60 rfl (lv_at hl 5 rfl) ?_
    refine va_get (D := X.1) (ci := 5) (v := .ref (hh 0)) (C := RX5) (T := TX5) (N := 5) hx hb hts hiX5 hown hK.1 hP 0 rfl rfl 0 (by decide) k10 (fun _ h9 => h9) rfl dX5_obeyGrant_61 ?_
    refine lv_iload_n hx hb dX5_obeyGrant_64 rfl (lv_at hl 4 rfl) ?_
    refine lv_iload hx hb dX5_obeyGrant_65 (lv_at hl 3 rfl) ?_
    refine lv_iload hx hb dX5_obeyGrant_67 (lv_at hl 2 rfl) ?_
    refine lv_iload hx hb dX5_obeyGrant_69 (lv_at hl 1 rfl) ?_
    refine lv_iload hx hb dX5_obeyGrant_71 (lv_at hl 0 rfl) ?_
    obtain ⟨r_14, rG_15, fG_16, fH_17, gi_18, hc_19, hf⟩ := bd5_of hf
    refine fn_VJ (v := some (.int r_14)) (As := [.int r_1, .int r_3, .int r_5, .int r_7, .int r_9]) (rest := []) (st1 := [.int r_14]) (ws' := (wLR X x0 hh ht ch tx y hy rP fP rT fT rG_15 fG_16 rL fL rH fH_17 gi_18 di re ti rPT fPT rTT fTT rGT fGT rLT fLT rHT fHT giT diT reT tiT rS fS rB fB rO fO pl fa cn ro Qh)) (nL := 8) ⟨hx, hb, hml, hown, hts⟩ (c_X2_lend l X hh rP fP rT fT rG fG rL fL rH fH gi di re ti r_1 r_3 r_5 r_7 r_9 r_14 rG_15 fG_16 fH_17 gi_18 hc_19) (cwV 5 hts gX5_obeyGrant_X2_lend rfl rfl rfl (by decide +kernel) ⟨Nat.le_of_ble_eq_true rfl, Nat.le_of_ble_eq_true rfl⟩) 2 rfl rfl rfl rfl hl.1 rfl (Nat.le_of_ble_eq_true rfl) dX5_obeyGrant_73 hK hP (hD0.addr (wLR_fst.trans wLR_fst.symm)) hS hA [1, 2, 3, 4, 5, 6, 7, 8, 9, 10, 11] (by decide +kernel) lC_h lJ_h (wLR_fst.trans wLR_fst.symm) rfl ⟨Nat.zero_le _, Nat.zero_le _⟩ (fun H locs hP hD hS => ?_)
    refine lv_pop hx hb dX5_obeyGrant_76 rfl ?_
    refine lv_iconst (v := 1) hx hb dX5_obeyGrant_77 (by decide) ?_
    cases hf
    exact fn_zret hx hb hr rfl hlocks hP hS dX5_obeyGrant_78
  · replace hf := fp_f c_13 hf
    refine lv_iconst (v := 0) hx hb dX5_obeyGrant_58 (by decide) ?_
    cases hf
    exact fn_zret hx hb hr rfl hlocks hP hS dX5_obeyGrant_59

def f_X5_obeyRevoke (x1 : Int32) (rT : Int32) (fT : (Nat → Int32)) (rG : Int32) (fG : (Nat → Int32)) (rH : Int32) (fH : (Nat → Int32)) (re : Int32) : Option (Int32 × Int32 × (Nat → Int32) × (Nat → Int32) × Int32) :=
  bd (f_X2_placeOf x1 rG fG) (fun r_1 =>
  if r_1 = (-1 : Int32) then
  (some ((0 : Int32), rG, fG, fH, re))
  else
  (bd5 (f_X2_takeBack r_1 rT fT rG fG rH fH re) (fun r_4 rG_5 fG_6 fH_7 re_8 =>
  some ((1 : Int32), rG_5, fG_6, fH_7, re_8))))
theorem z_X5_obeyRevoke {x1 : Int32} {rT : Int32} {fT : (Nat → Int32)} {rG : Int32} {fG : (Nat → Int32)} {rH : Int32} {fH : (Nat → Int32)} {re : Int32} {r : Int32} {rG' : Int32} {fG' : (Nat → Int32)} {fH' : (Nat → Int32)} {re' : Int32} (hf : f_X5_obeyRevoke x1 rT fT rG fG rH fH re = some (r, rG', fG', fH', re')) : r = 0 ∨ r = 1 := by
  unfold f_X5_obeyRevoke at hf
  obtain ⟨r_1, hc_2, hf⟩ := bd_of hf
  by_cases c_3 : r_1 = (-1 : Int32)
  · replace hf := fp_t c_3 hf
    cases hf
    exact Or.inl rfl
  · replace hf := fp_f c_3 hf
    obtain ⟨r_4, rG_5, fG_6, fH_7, re_8, hc_9, hf⟩ := bd5_of hf
    cases hf
    exact Or.inr rfl
set_option maxHeartbeats 4000000 in
set_option maxRecDepth 100000 in
theorem c_X5_obeyRevoke (l : Launch) (X : cx_G) (x0 : Nat) (hh : (Nat → Nat)) (ht : (Nat → Nat)) (ch : (Nat → Nat)) (tx : (Nat → Nat)) (y : (Nat → Nat)) (hy : (Nat → Nat → Nat)) (rP : Int32) (fP : (Nat → Int32)) (rT : Int32) (fT : (Nat → Int32)) (rG : Int32) (fG : (Nat → Int32)) (rL : Int32) (fL : (Nat → Int32)) (rH : Int32) (fH : (Nat → Int32)) (gi : Int32) (di : Int32) (re : Int32) (ti : Int32) (rPT : Int32) (fPT : (Nat → Int32)) (rTT : Int32) (fTT : (Nat → Int32)) (rGT : Int32) (fGT : (Nat → Int32)) (rLT : Int32) (fLT : (Nat → Int32)) (rHT : Int32) (fHT : (Nat → Int32)) (giT : Int32) (diT : Int32) (reT : Int32) (tiT : Int32) (rS : Int32) (fS : (Nat → Int32)) (rB : Int32) (fB : (Nat → Int32)) (rO : Int32) (fO : (Nat → Int32)) (pl : Int32) (fa : Int32) (cn : Int32) (ro : Nat) (Qh : (Nat → HS)) (x1 : Int32) (r : Int32) (rG' : Int32) (fG' : (Nat → Int32)) (fH' : (Nat → Int32)) (re' : Int32) (hf : f_X5_obeyRevoke x1 rT fT rG fG rH fH re = some (r, rG', fG', fH', re')) : Fn l yX5_obeyRevoke wsX5_obeyRevoke ({ frames := 4, cells := 0, slots := 0, locals := 96 } : Room) X [.ref (x0), .int x1] (wLR X x0 hh ht ch tx y hy rP fP rT fT rG fG rL fL rH fH gi di re ti rPT fPT rTT fTT rGT fGT rLT fLT rHT fHT giT diT reT tiT rS fS rB fB rO fO pl fa cn ro Qh) (some (.int r)) (wLR X x0 hh ht ch tx y hy rP fP rT fT rG' fG' rL fL rH fH' gi di re' ti rPT fPT rTT fTT rGT fGT rLT fLT rHT fHT giT diT reT tiT rS fS rB fB rO fO pl fa cn ro Qh) := by
  refine fn_intro (cc := cX5_obeyRevoke) (maxL := 3) (ret := (some .boolean)) (by decide) rfl (wLR_fst.trans wLR_fst.symm) (Nat.le_of_ble_eq_true rfl) ?_
  intro p e s m args below meth c A ls hx hb hml hr hts hown hlocks hK hP hD0 hS hA hl
  have hown : s.vm.findClass RX5 = some m.cls := hown
  have hl : lv_has ls 3 [(0, .ref (x0)), (1, .int x1)] := hl
  have hiX5 : ∀ w ∈ u_ws RX5 TX5 5, w ∈ wsX5_obeyRevoke := by decide +kernel
  have k10 := hts (.fieldLink RX5 10 "LentRights" "house" "LLentRights$House;") (by decide +kernel)
  unfold f_X5_obeyRevoke at hf
  refine lv_aload_n hx hb dX5_obeyRevoke_0 rfl (lv_at hl 0 rfl) ?_
  refine va_get (D := X.1) (ci := 5) (v := .ref (hh 0)) (C := RX5) (T := TX5) (N := 5) hx hb hts hiX5 hown hK.1 hP 0 rfl rfl 0 (by decide) k10 (fun _ h9 => h9) rfl dX5_obeyRevoke_1 ?_
  refine lv_iload_n hx hb dX5_obeyRevoke_4 rfl (lv_at hl 1 rfl) ?_
  obtain ⟨r_1, hc_2, hf⟩ := bd_of hf
  refine fn_V (v := some (.int r_1)) (As := [.int x1]) (rest := []) (st1 := [.int r_1]) (ws' := (wLR X x0 hh ht ch tx y hy rP fP rT fT rG fG rL fL rH fH gi di re ti rPT fPT rTT fTT rGT fGT rLT fLT rHT fHT giT diT reT tiT rS fS rB fB rO fO pl fa cn ro Qh)) (nL := 3) ⟨hx, hb, hml, hown, hts⟩ (c_X2_placeOf l X hh rP fP rT fT rG fG rL fL rH fH gi di re ti x1 r_1 hc_2) (cwV 1 hts gX5_obeyRevoke_X2_placeOf rfl rfl rfl (by decide +kernel) ⟨Nat.le_of_ble_eq_true rfl, Nat.le_of_ble_eq_true rfl⟩) 2 rfl rfl rfl rfl hl.1 rfl (Nat.le_of_ble_eq_true rfl) dX5_obeyRevoke_5 hK hP (hD0.addr (wLR_fst.trans wLR_fst.symm)) hS hA [1, 2, 3, 4, 5, 6, 7, 8, 9, 10, 11] (by decide +kernel) lC_h (pt_setid _ _ _ lC_h) rfl ⟨Nat.zero_le _, Nat.zero_le _⟩ (fun H locs hP hD hS => ?_)
  refine lv_istore_n (lv' := [(2, .int r_1), (0, .ref (x0)), (1, .int x1)]) hx hb dX5_obeyRevoke_8 rfl hl (by decide) rfl (fun ls hl => ?_)
  refine lv_iload_n hx hb dX5_obeyRevoke_9 rfl (lv_at hl 0 rfl) ?_
  refine lv_iconst (v := -1) hx hb dX5_obeyRevoke_10 (by decide) ?_
  refine lv_icmp_ne (tgt := 16) hx hb dX5_obeyRevoke_11 (by decide) (fun c_3 => ?_) (fun c_3 => ?_)
  · replace hf := fp_f c_3 hf
    refine lv_aload_n hx hb dX5_obeyRevoke_16 rfl (lv_at hl 1 rfl) ?_
    refine va_get (D := X.1) (ci := 5) (v := .ref (hh 0)) (C := RX5) (T := TX5) (N := 5) hx hb hts hiX5 hown hK.1 hP 0 rfl rfl 0 (by decide) k10 (fun _ h9 => h9) rfl dX5_obeyRevoke_17 ?_
    refine lv_iload_n hx hb dX5_obeyRevoke_20 rfl (lv_at hl 0 rfl) ?_
    obtain ⟨r_4, rG_5, fG_6, fH_7, re_8, hc_9, hf⟩ := bd5_of hf
    refine fn_VJ (v := some (.int r_4)) (As := [.int r_1]) (rest := []) (st1 := [.int r_4]) (ws' := (wLR X x0 hh ht ch tx y hy rP fP rT fT rG_5 fG_6 rL fL rH fH_7 gi di re_8 ti rPT fPT rTT fTT rGT fGT rLT fLT rHT fHT giT diT reT tiT rS fS rB fB rO fO pl fa cn ro Qh)) (nL := 3) ⟨hx, hb, hml, hown, hts⟩ (c_X2_takeBack l X hh rP fP rT fT rG fG rL fL rH fH gi di re ti r_1 r_4 rG_5 fG_6 fH_7 re_8 hc_9) (cwV 1 hts gX5_obeyRevoke_X2_takeBack rfl rfl rfl (by decide +kernel) ⟨Nat.le_of_ble_eq_true rfl, Nat.le_of_ble_eq_true rfl⟩) 2 rfl rfl rfl rfl hl.1 rfl (Nat.le_of_ble_eq_true rfl) dX5_obeyRevoke_21 hK hP (hD0.addr (wLR_fst.trans wLR_fst.symm)) hS hA [1, 2, 3, 4, 5, 6, 7, 8, 9, 10, 11] (by decide +kernel) lC_h lJ_h (wLR_fst.trans wLR_fst.symm) rfl ⟨Nat.zero_le _, Nat.zero_le _⟩ (fun H locs hP hD hS => ?_)
    refine lv_pop hx hb dX5_obeyRevoke_24 rfl ?_
    refine lv_iconst (v := 1) hx hb dX5_obeyRevoke_25 (by decide) ?_
    cases hf
    exact fn_zret hx hb hr rfl hlocks hP hS dX5_obeyRevoke_26
  · replace hf := fp_t c_3 hf
    refine lv_iconst (v := 0) hx hb dX5_obeyRevoke_14 (by decide) ?_
    cases hf
    exact fn_zret hx hb hr rfl hlocks hP hS dX5_obeyRevoke_15

def f_X5_obeyPass (x1 : Int32) (rP : Int32) (fP : (Nat → Int32)) (rT : Int32) (fT : (Nat → Int32)) (rG : Int32) (fG : (Nat → Int32)) (rL : Int32) (fL : (Nat → Int32)) (rH : Int32) (fH : (Nat → Int32)) (di : Int32) (ti : Int32) : Option (Int32 × (Nat → Int32) × Int32 × (Nat → Int32) × Int32 × (Nat → Int32) × (Nat → Int32) × Int32 × Int32) :=
  bd (f_X2_hasTimeFor x1 ti) (fun r_1 =>
  if r_1 = (0 : Int32) then
  (some ((0 : Int32), fP, rG, fG, rL, fL, fH, di, ti))
  else
  (bd9 (f_X2_letPass x1 rP fP rT fT rG fG rL fL rH fH di ti) (fun r_4 fP_5 rG_6 fG_7 rL_8 fL_9 fH_10 di_11 ti_12 =>
  some ((1 : Int32), fP_5, rG_6, fG_7, rL_8, fL_9, fH_10, di_11, ti_12))))
theorem z_X5_obeyPass {x1 : Int32} {rP : Int32} {fP : (Nat → Int32)} {rT : Int32} {fT : (Nat → Int32)} {rG : Int32} {fG : (Nat → Int32)} {rL : Int32} {fL : (Nat → Int32)} {rH : Int32} {fH : (Nat → Int32)} {di : Int32} {ti : Int32} {r : Int32} {fP' : (Nat → Int32)} {rG' : Int32} {fG' : (Nat → Int32)} {rL' : Int32} {fL' : (Nat → Int32)} {fH' : (Nat → Int32)} {di' : Int32} {ti' : Int32} (hf : f_X5_obeyPass x1 rP fP rT fT rG fG rL fL rH fH di ti = some (r, fP', rG', fG', rL', fL', fH', di', ti')) : r = 0 ∨ r = 1 := by
  unfold f_X5_obeyPass at hf
  obtain ⟨r_1, hc_2, hf⟩ := bd_of hf
  by_cases c_3 : r_1 = (0 : Int32)
  · replace hf := fp_t c_3 hf
    cases hf
    exact Or.inl rfl
  · replace hf := fp_f c_3 hf
    obtain ⟨r_4, fP_5, rG_6, fG_7, rL_8, fL_9, fH_10, di_11, ti_12, hc_13, hf⟩ := bd9_of hf
    cases hf
    exact Or.inr rfl
set_option maxHeartbeats 4000000 in
set_option maxRecDepth 100000 in
theorem c_X5_obeyPass (l : Launch) (X : cx_G) (x0 : Nat) (hh : (Nat → Nat)) (ht : (Nat → Nat)) (ch : (Nat → Nat)) (tx : (Nat → Nat)) (y : (Nat → Nat)) (hy : (Nat → Nat → Nat)) (rP : Int32) (fP : (Nat → Int32)) (rT : Int32) (fT : (Nat → Int32)) (rG : Int32) (fG : (Nat → Int32)) (rL : Int32) (fL : (Nat → Int32)) (rH : Int32) (fH : (Nat → Int32)) (gi : Int32) (di : Int32) (re : Int32) (ti : Int32) (rPT : Int32) (fPT : (Nat → Int32)) (rTT : Int32) (fTT : (Nat → Int32)) (rGT : Int32) (fGT : (Nat → Int32)) (rLT : Int32) (fLT : (Nat → Int32)) (rHT : Int32) (fHT : (Nat → Int32)) (giT : Int32) (diT : Int32) (reT : Int32) (tiT : Int32) (rS : Int32) (fS : (Nat → Int32)) (rB : Int32) (fB : (Nat → Int32)) (rO : Int32) (fO : (Nat → Int32)) (pl : Int32) (fa : Int32) (cn : Int32) (ro : Nat) (Qh : (Nat → HS)) (x1 : Int32) (r : Int32) (fP' : (Nat → Int32)) (rG' : Int32) (fG' : (Nat → Int32)) (rL' : Int32) (fL' : (Nat → Int32)) (fH' : (Nat → Int32)) (di' : Int32) (ti' : Int32) (hf : f_X5_obeyPass x1 rP fP rT fT rG fG rL fL rH fH di ti = some (r, fP', rG', fG', rL', fL', fH', di', ti')) : Fn l yX5_obeyPass wsX5_obeyPass ({ frames := 4, cells := 0, slots := 0, locals := 98 } : Room) X [.ref (x0), .int x1] (wLR X x0 hh ht ch tx y hy rP fP rT fT rG fG rL fL rH fH gi di re ti rPT fPT rTT fTT rGT fGT rLT fLT rHT fHT giT diT reT tiT rS fS rB fB rO fO pl fa cn ro Qh) (some (.int r)) (wLR X x0 hh ht ch tx y hy rP fP' rT fT rG' fG' rL' fL' rH fH' gi di' re ti' rPT fPT rTT fTT rGT fGT rLT fLT rHT fHT giT diT reT tiT rS fS rB fB rO fO pl fa cn ro Qh) := by
  refine fn_intro (cc := cX5_obeyPass) (maxL := 2) (ret := (some .boolean)) (by decide) rfl (wLR_fst.trans wLR_fst.symm) (Nat.le_of_ble_eq_true rfl) ?_
  intro p e s m args below meth c A ls hx hb hml hr hts hown hlocks hK hP hD0 hS hA hl
  have hown : s.vm.findClass RX5 = some m.cls := hown
  have hl : lv_has ls 2 [(0, .ref (x0)), (1, .int x1)] := hl
  have hiX5 : ∀ w ∈ u_ws RX5 TX5 5, w ∈ wsX5_obeyPass := by decide +kernel
  have k10 := hts (.fieldLink RX5 10 "LentRights" "house" "LLentRights$House;") (by decide +kernel)
  unfold f_X5_obeyPass at hf
  refine lv_aload_n hx hb dX5_obeyPass_0 rfl (lv_at hl 0 rfl) ?_
  refine va_get (D := X.1) (ci := 5) (v := .ref (hh 0)) (C := RX5) (T := TX5) (N := 5) hx hb hts hiX5 hown hK.1 hP 0 rfl rfl 0 (by decide) k10 (fun _ h9 => h9) rfl dX5_obeyPass_1 ?_
  refine lv_iload_n hx hb dX5_obeyPass_4 rfl (lv_at hl 1 rfl) ?_
  obtain ⟨r_1, hc_2, hf⟩ := bd_of hf
  refine fn_V (v := some (.int r_1)) (As := [.int x1]) (rest := []) (st1 := [.int r_1]) (ws' := (wLR X x0 hh ht ch tx y hy rP fP rT fT rG fG rL fL rH fH gi di re ti rPT fPT rTT fTT rGT fGT rLT fLT rHT fHT giT diT reT tiT rS fS rB fB rO fO pl fa cn ro Qh)) (nL := 2) ⟨hx, hb, hml, hown, hts⟩ (c_X2_hasTimeFor l X hh rP fP rT fT rG fG rL fL rH fH gi di re ti x1 r_1 hc_2) (cwV 1 hts gX5_obeyPass_X2_hasTimeFor rfl rfl rfl (by decide +kernel) ⟨Nat.le_of_ble_eq_true rfl, Nat.le_of_ble_eq_true rfl⟩) 2 rfl rfl rfl rfl hl.1 rfl (Nat.le_of_ble_eq_true rfl) dX5_obeyPass_5 hK hP (hD0.addr (wLR_fst.trans wLR_fst.symm)) hS hA [1, 2, 3, 4, 5, 6, 7, 8, 9, 10, 11] (by decide +kernel) lC_h (pt_setid _ _ _ lC_h) rfl ⟨Nat.zero_le _, Nat.zero_le _⟩ (fun H locs hP hD hS => ?_)
  refine lv_if_ne (tgt := 13) hx hb dX5_obeyPass_8 (by decide) (fun c_3 => ?_) (fun c_3 => ?_)
  · replace hf := fp_f c_3 hf
    refine lv_aload_n hx hb dX5_obeyPass_13 rfl (lv_at hl 0 rfl) ?_
    refine va_get (D := X.1) (ci := 5) (v := .ref (hh 0)) (C := RX5) (T := TX5) (N := 5) hx hb hts hiX5 hown hK.1 hP 0 rfl rfl 0 (by decide) k10 (fun _ h9 => h9) rfl dX5_obeyPass_14 ?_
    refine lv_iload_n hx hb dX5_obeyPass_17 rfl (lv_at hl 1 rfl) ?_
    obtain ⟨r_4, fP_5, rG_6, fG_7, rL_8, fL_9, fH_10, di_11, ti_12, hc_13, hf⟩ := bd9_of hf
    refine fn_VJ (v := some (.int r_4)) (As := [.int x1]) (rest := []) (st1 := [.int r_4]) (ws' := (wLR X x0 hh ht ch tx y hy rP fP_5 rT fT rG_6 fG_7 rL_8 fL_9 rH fH_10 gi di_11 re ti_12 rPT fPT rTT fTT rGT fGT rLT fLT rHT fHT giT diT reT tiT rS fS rB fB rO fO pl fa cn ro Qh)) (nL := 2) ⟨hx, hb, hml, hown, hts⟩ (c_X2_letPass l X hh rP fP rT fT rG fG rL fL rH fH gi di re ti x1 r_4 fP_5 rG_6 fG_7 rL_8 fL_9 fH_10 di_11 ti_12 hc_13) (cwV 1 hts gX5_obeyPass_X2_letPass rfl rfl rfl (by decide +kernel) ⟨Nat.le_of_ble_eq_true rfl, Nat.le_of_ble_eq_true rfl⟩) 2 rfl rfl rfl rfl hl.1 rfl (Nat.le_of_ble_eq_true rfl) dX5_obeyPass_18 hK hP (hD0.addr (wLR_fst.trans wLR_fst.symm)) hS hA [1, 2, 3, 4, 5, 6, 7, 8, 9, 10, 11] (by decide +kernel) lC_h lJ_h (wLR_fst.trans wLR_fst.symm) rfl ⟨Nat.zero_le _, Nat.zero_le _⟩ (fun H locs hP hD hS => ?_)
    refine lv_pop hx hb dX5_obeyPass_21 rfl ?_
    refine lv_iconst (v := 1) hx hb dX5_obeyPass_22 (by decide) ?_
    cases hf
    exact fn_zret hx hb hr rfl hlocks hP hS dX5_obeyPass_23
  · replace hf := fp_t c_3 hf
    refine lv_iconst (v := 0) hx hb dX5_obeyPass_11 (by decide) ?_
    cases hf
    exact fn_zret hx hb hr rfl hlocks hP hS dX5_obeyPass_12

def f_X5_obey (x2 : Int32) (rP : Int32) (fP : (Nat → Int32)) (rT : Int32) (fT : (Nat → Int32)) (rG : Int32) (fG : (Nat → Int32)) (rL : Int32) (fL : (Nat → Int32)) (rH : Int32) (fH : (Nat → Int32)) (gi : Int32) (di : Int32) (re : Int32) (ti : Int32) (rO : Int32) (fO : (Nat → Int32)) : Option (Int32 × (Nat → Int32) × Int32 × (Nat → Int32) × Int32 × (Nat → Int32) × (Nat → Int32) × Int32 × Int32 × Int32 × Int32) :=
  bd (f_X3_at (6 : Int32) 600 x2 (1 : Int32) rO fO) (fun r_1 =>
  bd (f_X3_at (6 : Int32) 600 x2 (0 : Int32) rO fO) (fun r_3 =>
  if r_3 = (99 : Int32) then
  (bd (f_X3_at (6 : Int32) 600 x2 (2 : Int32) rO fO) (fun r_6 =>
  bd8 (f_X2_changeMood r_1 r_6 rP fP rT fT rG fG rL fL rH fH di ti) (fun r_8 fP_9 rG_10 fG_11 rL_12 fL_13 fH_14 di_15 =>
  some ((1 : Int32), fP_9, rG_10, fG_11, rL_12, fL_13, fH_14, gi, di_15, re, ti))))
  else
  (if r_3 = (103 : Int32) then
  (bd5 (f_X5_obeyGrant x2 rP fP rT fT rG fG rH fH gi rO fO) (fun r_18 rG_19 fG_20 fH_21 gi_22 =>
  some (r_18, fP, rG_19, fG_20, rL, fL, fH_21, gi_22, di, re, ti)))
  else
  (if r_3 = (116 : Int32) then
  (bd9 (f_X5_obeyPass r_1 rP fP rT fT rG fG rL fL rH fH di ti) (fun r_25 fP_26 rG_27 fG_28 rL_29 fL_30 fH_31 di_32 ti_33 =>
  some (r_25, fP_26, rG_27, fG_28, rL_29, fL_30, fH_31, gi, di_32, re, ti_33)))
  else
  (if r_3 = (118 : Int32) then
  (bd5 (f_X5_obeyRevoke r_1 rT fT rG fG rH fH re) (fun r_36 rG_37 fG_38 fH_39 re_40 =>
  some (r_36, fP, rG_37, fG_38, rL, fL, fH_39, gi, di, re_40, ti)))
  else
  (some ((0 : Int32), fP, rG, fG, rL, fL, fH, gi, di, re, ti)))))))
theorem z_X5_obey {x2 : Int32} {rP : Int32} {fP : (Nat → Int32)} {rT : Int32} {fT : (Nat → Int32)} {rG : Int32} {fG : (Nat → Int32)} {rL : Int32} {fL : (Nat → Int32)} {rH : Int32} {fH : (Nat → Int32)} {gi : Int32} {di : Int32} {re : Int32} {ti : Int32} {rO : Int32} {fO : (Nat → Int32)} {r : Int32} {fP' : (Nat → Int32)} {rG' : Int32} {fG' : (Nat → Int32)} {rL' : Int32} {fL' : (Nat → Int32)} {fH' : (Nat → Int32)} {gi' : Int32} {di' : Int32} {re' : Int32} {ti' : Int32} (hf : f_X5_obey x2 rP fP rT fT rG fG rL fL rH fH gi di re ti rO fO = some (r, fP', rG', fG', rL', fL', fH', gi', di', re', ti')) : r = 0 ∨ r = 1 := by
  unfold f_X5_obey at hf
  obtain ⟨r_1, hc_2, hf⟩ := bd_of hf
  obtain ⟨r_3, hc_4, hf⟩ := bd_of hf
  by_cases c_5 : r_3 = (99 : Int32)
  · replace hf := fp_t c_5 hf
    obtain ⟨r_6, hc_7, hf⟩ := bd_of hf
    obtain ⟨r_8, fP_9, rG_10, fG_11, rL_12, fL_13, fH_14, di_15, hc_16, hf⟩ := bd8_of hf
    cases hf
    exact Or.inr rfl
  · replace hf := fp_f c_5 hf
    by_cases c_17 : r_3 = (103 : Int32)
    · replace hf := fp_t c_17 hf
      obtain ⟨r_18, rG_19, fG_20, fH_21, gi_22, hc_23, hf⟩ := bd5_of hf
      cases hf
      exact z_X5_obeyGrant hc_23
    · replace hf := fp_f c_17 hf
      by_cases c_24 : r_3 = (116 : Int32)
      · replace hf := fp_t c_24 hf
        obtain ⟨r_25, fP_26, rG_27, fG_28, rL_29, fL_30, fH_31, di_32, ti_33, hc_34, hf⟩ := bd9_of hf
        cases hf
        exact z_X5_obeyPass hc_34
      · replace hf := fp_f c_24 hf
        by_cases c_35 : r_3 = (118 : Int32)
        · replace hf := fp_t c_35 hf
          obtain ⟨r_36, rG_37, fG_38, fH_39, re_40, hc_41, hf⟩ := bd5_of hf
          cases hf
          exact z_X5_obeyRevoke hc_41
        · replace hf := fp_f c_35 hf
          cases hf
          exact Or.inl rfl
set_option maxHeartbeats 4000000 in
set_option maxRecDepth 100000 in
theorem c_X5_obey (l : Launch) (X : cx_G) (x0 : Nat) (hh : (Nat → Nat)) (ht : (Nat → Nat)) (ch : (Nat → Nat)) (tx : (Nat → Nat)) (y : (Nat → Nat)) (hy : (Nat → Nat → Nat)) (rP : Int32) (fP : (Nat → Int32)) (rT : Int32) (fT : (Nat → Int32)) (rG : Int32) (fG : (Nat → Int32)) (rL : Int32) (fL : (Nat → Int32)) (rH : Int32) (fH : (Nat → Int32)) (gi : Int32) (di : Int32) (re : Int32) (ti : Int32) (rPT : Int32) (fPT : (Nat → Int32)) (rTT : Int32) (fTT : (Nat → Int32)) (rGT : Int32) (fGT : (Nat → Int32)) (rLT : Int32) (fLT : (Nat → Int32)) (rHT : Int32) (fHT : (Nat → Int32)) (giT : Int32) (diT : Int32) (reT : Int32) (tiT : Int32) (rS : Int32) (fS : (Nat → Int32)) (rB : Int32) (fB : (Nat → Int32)) (rO : Int32) (fO : (Nat → Int32)) (pl : Int32) (fa : Int32) (cn : Int32) (ro : Nat) (Qh : (Nat → HS)) (x2 : Int32) (r : Int32) (fP' : (Nat → Int32)) (rG' : Int32) (fG' : (Nat → Int32)) (rL' : Int32) (fL' : (Nat → Int32)) (fH' : (Nat → Int32)) (gi' : Int32) (di' : Int32) (re' : Int32) (ti' : Int32) (hf : f_X5_obey x2 rP fP rT fT rG fG rL fL rH fH gi di re ti rO fO = some (r, fP', rG', fG', rL', fL', fH', gi', di', re', ti')) : Fn l yX5_obey wsX5_obey ({ frames := 5, cells := 0, slots := 0, locals := 128 } : Room) X [.ref (x0), .ref (tx 3), .int x2] (wLR X x0 hh ht ch tx y hy rP fP rT fT rG fG rL fL rH fH gi di re ti rPT fPT rTT fTT rGT fGT rLT fLT rHT fHT giT diT reT tiT rS fS rB fB rO fO pl fa cn ro Qh) (some (.int r)) (wLR X x0 hh ht ch tx y hy rP fP' rT fT rG' fG' rL' fL' rH fH' gi' di' re' ti' rPT fPT rTT fTT rGT fGT rLT fLT rHT fHT giT diT reT tiT rS fS rB fB rO fO pl fa cn ro Qh) := by
  refine fn_intro (cc := cX5_obey) (maxL := 4) (ret := (some .boolean)) (by decide) rfl (wLR_fst.trans wLR_fst.symm) (Nat.le_of_ble_eq_true rfl) ?_
  intro p e s m args below meth c A ls hx hb hml hr hts hown hlocks hK hP hD0 hS hA hl
  have hown : s.vm.findClass RX5 = some m.cls := hown
  have hl : lv_has ls 4 [(0, .ref (x0)), (1, .ref (tx 3)), (2, .int x2)] := hl
  have hiX5 : ∀ w ∈ u_ws RX5 TX5 5, w ∈ wsX5_obey := by decide +kernel
  have k10 := hts (.fieldLink RX5 10 "LentRights" "house" "LLentRights$House;") (by decide +kernel)
  unfold f_X5_obey at hf
  refine lv_aload_n hx hb dX5_obey_0 rfl (lv_at hl 1 rfl) ?_
  refine lv_iload_n hx hb dX5_obey_1 rfl (lv_at hl 2 rfl) ?_
  refine lv_iconst (v := 1) hx hb dX5_obey_2 (by decide) ?_
  obtain ⟨r_1, hc_2, hf⟩ := bd_of hf
  refine fn_V (v := some (.int r_1)) (As := [.int x2, .int (1 : Int32)]) (rest := []) (st1 := [.int r_1]) (ws' := (wLR X x0 hh ht ch tx y hy rP fP rT fT rG fG rL fL rH fH gi di re ti rPT fPT rTT fTT rGT fGT rLT fLT rHT fHT giT diT reT tiT rS fS rB fB rO fO pl fa cn ro Qh)) (nL := 4) ⟨hx, hb, hml, hown, hts⟩ (c_X3_at l X (tx 3) (tx 4) (100 : Int32) (6 : Int32) 600 rO fO x2 (1 : Int32) r_1 hc_2) (cwV 2 hts gX5_obey_X3_at rfl rfl rfl (by decide +kernel) ⟨Nat.le_of_ble_eq_true rfl, Nat.le_of_ble_eq_true rfl⟩) 3 rfl rfl rfl rfl hl.1 rfl (Nat.le_of_ble_eq_true rfl) dX5_obey_3 hK hP (hD0.addr (wLR_fst.trans wLR_fst.symm)) hS hA [29, 30] (by decide +kernel) rfl (pt_setid _ _ _ rfl) rfl ⟨Nat.zero_le _, Nat.zero_le _⟩ (fun H locs hP hD hS => ?_)
  refine lv_istore_n (lv' := [(3, .int r_1), (0, .ref (x0)), (1, .ref (tx 3)), (2, .int x2)]) hx hb dX5_obey_6 rfl hl (by decide) rfl (fun ls hl => ?_)
  refine lv_aload_n hx hb dX5_obey_7 rfl (lv_at hl 2 rfl) ?_
  refine lv_iload_n hx hb dX5_obey_8 rfl (lv_at hl 3 rfl) ?_
  refine lv_iconst (v := 0) hx hb dX5_obey_9 (by decide) ?_
  obtain ⟨r_3, hc_4, hf⟩ := bd_of hf
  refine fn_V (v := some (.int r_3)) (As := [.int x2, .int (0 : Int32)]) (rest := []) (st1 := [.int r_3]) (ws' := (wLR X x0 hh ht ch tx y hy rP fP rT fT rG fG rL fL rH fH gi di re ti rPT fPT rTT fTT rGT fGT rLT fLT rHT fHT giT diT reT tiT rS fS rB fB rO fO pl fa cn ro Qh)) (nL := 4) ⟨hx, hb, hml, hown, hts⟩ (c_X3_at l X (tx 3) (tx 4) (100 : Int32) (6 : Int32) 600 rO fO x2 (0 : Int32) r_3 hc_4) (cwV 2 hts gX5_obey_X3_at rfl rfl rfl (by decide +kernel) ⟨Nat.le_of_ble_eq_true rfl, Nat.le_of_ble_eq_true rfl⟩) 3 rfl rfl rfl rfl hl.1 rfl (Nat.le_of_ble_eq_true rfl) dX5_obey_10 hK hP (hD0.addr (wLR_fst.trans wLR_fst.symm)) hS hA [29, 30] (by decide +kernel) rfl (pt_setid _ _ _ rfl) rfl ⟨Nat.zero_le _, Nat.zero_le _⟩ (fun H locs hP hD hS => ?_)
  by_cases c_5 : r_3 = (99 : Int32)
  · replace hf := fp_t c_5 hf
    refine lv_lookup (off := 56) (tgt := 69) hx hb dX5_obey_13 (by decide) (by rw [c_5]; rfl) (by decide) ?_
    refine lv_aload_n hx hb dX5_obey_69 rfl (lv_at hl 1 rfl) ?_
    refine va_get (D := X.1) (ci := 5) (v := .ref (hh 0)) (C := RX5) (T := TX5) (N := 5) hx hb hts hiX5 hown hK.1 hP 0 rfl rfl 0 (by decide) k10 (fun _ h9 => h9) rfl dX5_obey_70 ?_
    refine lv_iload_n hx hb dX5_obey_73 rfl (lv_at hl 0 rfl) ?_
    refine lv_aload_n hx hb dX5_obey_74 rfl (lv_at hl 2 rfl) ?_
    refine lv_iload_n hx hb dX5_obey_75 rfl (lv_at hl 3 rfl) ?_
    refine lv_iconst (v := 2) hx hb dX5_obey_76 (by decide) ?_
    obtain ⟨r_6, hc_7, hf⟩ := bd_of hf
    refine fn_V (v := some (.int r_6)) (As := [.int x2, .int (2 : Int32)]) (rest := [.int r_1, .ref (hh 0)]) (st1 := [.int r_6, .int r_1, .ref (hh 0)]) (ws' := (wLR X x0 hh ht ch tx y hy rP fP rT fT rG fG rL fL rH fH gi di re ti rPT fPT rTT fTT rGT fGT rLT fLT rHT fHT giT diT reT tiT rS fS rB fB rO fO pl fa cn ro Qh)) (nL := 4) ⟨hx, hb, hml, hown, hts⟩ (c_X3_at l X (tx 3) (tx 4) (100 : Int32) (6 : Int32) 600 rO fO x2 (2 : Int32) r_6 hc_7) (cwV 2 hts gX5_obey_X3_at rfl rfl rfl (by decide +kernel) ⟨Nat.le_of_ble_eq_true rfl, Nat.le_of_ble_eq_true rfl⟩) 3 rfl rfl rfl rfl hl.1 rfl (Nat.le_of_ble_eq_true rfl) dX5_obey_77 hK hP (hD0.addr (wLR_fst.trans wLR_fst.symm)) hS hA [29, 30] (by decide +kernel) rfl (pt_setid _ _ _ rfl) rfl ⟨Nat.zero_le _, Nat.zero_le _⟩ (fun H locs hP hD hS => ?_)
    obtain ⟨r_8, fP_9, rG_10, fG_11, rL_12, fL_13, fH_14, di_15, hc_16, hf⟩ := bd8_of hf
    refine fn_VJ (v := some (.int r_8)) (As := [.int r_1, .int r_6]) (rest := []) (st1 := [.int r_8]) (ws' := (wLR X x0 hh ht ch tx y hy rP fP_9 rT fT rG_10 fG_11 rL_12 fL_13 rH fH_14 gi di_15 re ti rPT fPT rTT fTT rGT fGT rLT fLT rHT fHT giT diT reT tiT rS fS rB fB rO fO pl fa cn ro Qh)) (nL := 4) ⟨hx, hb, hml, hown, hts⟩ (c_X2_changeMood l X hh rP fP rT fT rG fG rL fL rH fH gi di re ti r_1 r_6 r_8 fP_9 rG_10 fG_11 rL_12 fL_13 fH_14 di_15 hc_16) (cwV 2 hts gX5_obey_X2_changeMood rfl rfl rfl (by decide +kernel) ⟨Nat.le_of_ble_eq_true rfl, Nat.le_of_ble_eq_true rfl⟩) 2 rfl rfl rfl rfl hl.1 rfl (Nat.le_of_ble_eq_true rfl) dX5_obey_80 hK hP (hD0.addr (wLR_fst.trans wLR_fst.symm)) hS hA [1, 2, 3, 4, 5, 6, 7, 8, 9, 10, 11] (by decide +kernel) lC_h lJ_h (wLR_fst.trans wLR_fst.symm) rfl ⟨Nat.zero_le _, Nat.zero_le _⟩ (fun H locs hP hD hS => ?_)
    refine lv_pop hx hb dX5_obey_83 rfl ?_
    refine lv_iconst (v := 1) hx hb dX5_obey_84 (by decide) ?_
    cases hf
    exact fn_zret hx hb hr rfl hlocks hP hS dX5_obey_85
  · replace hf := fp_f c_5 hf
    by_cases c_17 : r_3 = (103 : Int32)
    · replace hf := fp_t c_17 hf
      refine lv_lookup (off := 43) (tgt := 56) hx hb dX5_obey_13 (by decide) (by rw [c_17]; rfl) (by decide) ?_
      refine lv_aload_n hx hb dX5_obey_56 rfl (lv_at hl 1 rfl) ?_
      refine lv_aload_n hx hb dX5_obey_57 rfl (lv_at hl 2 rfl) ?_
      refine lv_iload_n hx hb dX5_obey_58 rfl (lv_at hl 3 rfl) ?_
      obtain ⟨r_18, rG_19, fG_20, fH_21, gi_22, hc_23, hf⟩ := bd5_of hf
      refine fn_VJ (v := some (.int r_18)) (As := [.ref (tx 3), .int x2]) (rest := []) (st1 := [.int r_18]) (ws' := (wLR X x0 hh ht ch tx y hy rP fP rT fT rG_19 fG_20 rL fL rH fH_21 gi_22 di re ti rPT fPT rTT fTT rGT fGT rLT fLT rHT fHT giT diT reT tiT rS fS rB fB rO fO pl fa cn ro Qh)) (nL := 4) ⟨hx, hb, hml, hown, hts⟩ (c_X5_obeyGrant l X x0 hh ht ch tx y hy rP fP rT fT rG fG rL fL rH fH gi di re ti rPT fPT rTT fTT rGT fGT rLT fLT rHT fHT giT diT reT tiT rS fS rB fB rO fO pl fa cn ro Qh x2 r_18 rG_19 fG_20 fH_21 gi_22 hc_23) (cwV 2 hts gX5_obey_X5_obeyGrant rfl rfl rfl (by decide +kernel) ⟨Nat.le_of_ble_eq_true rfl, Nat.le_of_ble_eq_true rfl⟩) 5 rfl rfl rfl rfl hl.1 rfl (Nat.le_of_ble_eq_true rfl) dX5_obey_59 hK hP (hD0.addr (wLR_fst.trans wLR_fst.symm)) hS hA [0, 1, 2, 3, 4, 5, 6, 7, 8, 9, 10, 11, 12, 13, 14, 15, 16, 17, 18, 19, 20, 21, 22, 23, 24, 25, 26, 27, 28, 29, 30, 31, 32, 33, 34, 35, 36, 37, 38, 39, 40, 41, 42, 43, 44, 45, 46, 47, 48, 49, 50, 51, 52, 53, 54, 55, 56, 57, 58, 59, 60, 61, 62, 63, 64, 65, 66, 67, 68, 69, 70, 71, 72, 73, 74, 75, 76] (by decide +kernel) lC_a lJ_a (wLR_fst.trans wLR_fst.symm) rfl ⟨Nat.zero_le _, Nat.zero_le _⟩ (fun H locs hP hD hS => ?_)
      cases hf
      exact fn_zret hx hb hr (z_narrow (z_X5_obeyGrant hc_23)) hlocks hP hS dX5_obey_62
    · replace hf := fp_f c_17 hf
      by_cases c_24 : r_3 = (116 : Int32)
      · replace hf := fp_t c_24 hf
        refine lv_lookup (off := 73) (tgt := 86) hx hb dX5_obey_13 (by decide) (by rw [c_24]; rfl) (by decide) ?_
        refine lv_aload_n hx hb dX5_obey_86 rfl (lv_at hl 1 rfl) ?_
        refine lv_iload_n hx hb dX5_obey_87 rfl (lv_at hl 0 rfl) ?_
        obtain ⟨r_25, fP_26, rG_27, fG_28, rL_29, fL_30, fH_31, di_32, ti_33, hc_34, hf⟩ := bd9_of hf
        refine fn_VJ (v := some (.int r_25)) (As := [.int r_1]) (rest := []) (st1 := [.int r_25]) (ws' := (wLR X x0 hh ht ch tx y hy rP fP_26 rT fT rG_27 fG_28 rL_29 fL_30 rH fH_31 gi di_32 re ti_33 rPT fPT rTT fTT rGT fGT rLT fLT rHT fHT giT diT reT tiT rS fS rB fB rO fO pl fa cn ro Qh)) (nL := 4) ⟨hx, hb, hml, hown, hts⟩ (c_X5_obeyPass l X x0 hh ht ch tx y hy rP fP rT fT rG fG rL fL rH fH gi di re ti rPT fPT rTT fTT rGT fGT rLT fLT rHT fHT giT diT reT tiT rS fS rB fB rO fO pl fa cn ro Qh r_1 r_25 fP_26 rG_27 fG_28 rL_29 fL_30 fH_31 di_32 ti_33 hc_34) (cwV 1 hts gX5_obey_X5_obeyPass rfl rfl rfl (by decide +kernel) ⟨Nat.le_of_ble_eq_true rfl, Nat.le_of_ble_eq_true rfl⟩) 5 rfl rfl rfl rfl hl.1 rfl (Nat.le_of_ble_eq_true rfl) dX5_obey_88 hK hP (hD0.addr (wLR_fst.trans wLR_fst.symm)) hS hA [0, 1, 2, 3, 4, 5, 6, 7, 8, 9, 10, 11, 12, 13, 14, 15, 16, 17, 18, 19, 20, 21, 22, 23, 24, 25, 26, 27, 28, 29, 30, 31, 32, 33, 34, 35, 36, 37, 38, 39, 40, 41, 42, 43, 44, 45, 46, 47, 48, 49, 50, 51, 52, 53, 54, 55, 56, 57, 58, 59, 60, 61, 62, 63, 64, 65, 66, 67, 68, 69, 70, 71, 72, 73, 74, 75, 76] (by decide +kernel) lC_a lJ_a (wLR_fst.trans wLR_fst.symm) rfl ⟨Nat.zero_le _, Nat.zero_le _⟩ (fun H locs hP hD hS => ?_)
        cases hf
        exact fn_zret hx hb hr (z_narrow (z_X5_obeyPass hc_34)) hlocks hP hS dX5_obey_91
      · replace hf := fp_f c_24 hf
        by_cases c_35 : r_3 = (118 : Int32)
        · replace hf := fp_t c_35 hf
          refine lv_lookup (off := 50) (tgt := 63) hx hb dX5_obey_13 (by decide) (by rw [c_35]; rfl) (by decide) ?_
          refine lv_aload_n hx hb dX5_obey_63 rfl (lv_at hl 1 rfl) ?_
          refine lv_iload_n hx hb dX5_obey_64 rfl (lv_at hl 0 rfl) ?_
          obtain ⟨r_36, rG_37, fG_38, fH_39, re_40, hc_41, hf⟩ := bd5_of hf
          refine fn_VJ (v := some (.int r_36)) (As := [.int r_1]) (rest := []) (st1 := [.int r_36]) (ws' := (wLR X x0 hh ht ch tx y hy rP fP rT fT rG_37 fG_38 rL fL rH fH_39 gi di re_40 ti rPT fPT rTT fTT rGT fGT rLT fLT rHT fHT giT diT reT tiT rS fS rB fB rO fO pl fa cn ro Qh)) (nL := 4) ⟨hx, hb, hml, hown, hts⟩ (c_X5_obeyRevoke l X x0 hh ht ch tx y hy rP fP rT fT rG fG rL fL rH fH gi di re ti rPT fPT rTT fTT rGT fGT rLT fLT rHT fHT giT diT reT tiT rS fS rB fB rO fO pl fa cn ro Qh r_1 r_36 rG_37 fG_38 fH_39 re_40 hc_41) (cwV 1 hts gX5_obey_X5_obeyRevoke rfl rfl rfl (by decide +kernel) ⟨Nat.le_of_ble_eq_true rfl, Nat.le_of_ble_eq_true rfl⟩) 5 rfl rfl rfl rfl hl.1 rfl (Nat.le_of_ble_eq_true rfl) dX5_obey_65 hK hP (hD0.addr (wLR_fst.trans wLR_fst.symm)) hS hA [0, 1, 2, 3, 4, 5, 6, 7, 8, 9, 10, 11, 12, 13, 14, 15, 16, 17, 18, 19, 20, 21, 22, 23, 24, 25, 26, 27, 28, 29, 30, 31, 32, 33, 34, 35, 36, 37, 38, 39, 40, 41, 42, 43, 44, 45, 46, 47, 48, 49, 50, 51, 52, 53, 54, 55, 56, 57, 58, 59, 60, 61, 62, 63, 64, 65, 66, 67, 68, 69, 70, 71, 72, 73, 74, 75, 76] (by decide +kernel) lC_a lJ_a (wLR_fst.trans wLR_fst.symm) rfl ⟨Nat.zero_le _, Nat.zero_le _⟩ (fun H locs hP hD hS => ?_)
          cases hf
          exact fn_zret hx hb hr (z_narrow (z_X5_obeyRevoke hc_41)) hlocks hP hS dX5_obey_68
        · replace hf := fp_f c_35 hf
          have hsw : Op.lookupswitch.offset [(99, 56), (103, 43), (116, 73), (118, 50)] 79 r_3.toInt = 79 := by
            rw [Op.lookupswitch.offset_cons, if_neg (show ¬ (99 : Int) = r_3.toInt from sw_ne (99 : Int32) c_5), Op.lookupswitch.offset_cons, if_neg (show ¬ (103 : Int) = r_3.toInt from sw_ne (103 : Int32) c_17), Op.lookupswitch.offset_cons, if_neg (show ¬ (116 : Int) = r_3.toInt from sw_ne (116 : Int32) c_24), Op.lookupswitch.offset_cons, if_neg (show ¬ (118 : Int) = r_3.toInt from sw_ne (118 : Int32) c_35), Op.lookupswitch.offset_nil]
          refine lv_lookup (off := 79) (tgt := 92) hx hb dX5_obey_13 (by decide) hsw (by decide) ?_
          refine lv_iconst (v := 0) hx hb dX5_obey_92 (by decide) ?_
          cases hf
          exact fn_zret hx hb hr rfl hlocks hP hS dX5_obey_93

def f_X5_carryOut_L39 (rP : Int32) (rT : Int32) (fT : (Nat → Int32)) (rH : Int32) (rB : Int32) (fB : (Nat → Int32)) (rO : Int32) (fO : (Nat → Int32)) (pl : Int32) (fa : Int32) (cn : Int32) (ro : Nat) (Qh : (Nat → HS)) : Nat → Int32 → (Nat → Int32) → Int32 → (Nat → Int32) → Int32 → (Nat → Int32) → (Nat → Int32) → Int32 → Int32 → Int32 → Int32 →  Option (Int32 × (Nat → Int32) × Int32 × (Nat → Int32) × Int32 × (Nat → Int32) × (Nat → Int32) × Int32 × Int32 × Int32 × Int32 × Int32 × (Nat → Int32) × Int32 × Int32 × Int32 × Nat × (Nat → HS))
  | 0, _, _, _, _, _, _, _, _, _, _, _ => none
  | k_ + 1, x3, fP, rG, fG, rL, fL, fH, gi, di, re, ti =>
    bd (f_X3_rows rO) (fun r_1 =>
    if r_1 ≤ x3 then
    (bd (f_X3_rows rO) (fun r_4 =>
    some (r_4, fP, rG, fG, rL, fL, fH, gi, di, re, ti, rO, fO, pl, fa, cn, ro, Qh)))
    else
    (bd11 (f_X5_obey x3 rP fP rT fT rG fG rL fL rH fH gi di re ti rO fO) (fun r_6 fP_7 rG_8 fG_9 rL_10 fL_11 fH_12 gi_13 di_14 re_15 ti_16 =>
    if r_6 = (0 : Int32) then
    (some (x3, fP_7, rG_8, fG_9, rL_10, fL_11, fH_12, gi_13, di_14, re_15, ti_16, rO, fO, pl, fa, cn, ro, Qh))
    else
    (nm (x3 + (1 : Int32)) (fun v_19 =>
    f_X5_carryOut_L39 rP rT fT rH rB fB rO fO pl fa cn ro Qh k_ v_19 fP_7 rG_8 fG_9 rL_10 fL_11 fH_12 gi_13 di_14 re_15 ti_16)))))
def f_X5_carryOut (rP : Int32) (fP : (Nat → Int32)) (rT : Int32) (fT : (Nat → Int32)) (rG : Int32) (fG : (Nat → Int32)) (rL : Int32) (fL : (Nat → Int32)) (rH : Int32) (fH : (Nat → Int32)) (gi : Int32) (di : Int32) (re : Int32) (ti : Int32) (rB : Int32) (fB : (Nat → Int32)) (rO : Int32) (fO : (Nat → Int32)) (pl : Int32) (fa : Int32) (cn : Int32) (ro : Nat) (Qh : (Nat → HS)) : Option (Int32 × (Nat → Int32) × Int32 × (Nat → Int32) × Int32 × (Nat → Int32) × (Nat → Int32) × Int32 × Int32 × Int32 × Int32 × Int32 × (Nat → Int32) × Int32 × Int32 × Int32 × Nat × (Nat → HS)) :=
  bd5 (f_X4_read rB fB rO fO pl fa) (fun r_20 rO_21 fO_22 pl_23 fa_24 =>
  if r_20 = (-1 : Int32) then
  (bd3 (f_X1_keep cn ro Qh rP fP rT fT rG fG rL fL rH fH gi di re ti) (fun cn_27 ro_28 Qh_29 =>
  f_X5_carryOut_L39 rP rT fT rH rB fB rO_21 fO_22 pl_23 fa_24 cn_27 ro_28 Qh_29 FU (0 : Int32) fP rG fG rL fL fH gi di re ti))
  else
  (nm ((-10 : Int32) - r_20) (fun v_31 =>
  some (v_31, fP, rG, fG, rL, fL, fH, gi, di, re, ti, rO_21, fO_22, pl_23, fa_24, cn, ro, Qh))))
set_option maxHeartbeats 4000000 in
set_option maxRecDepth 100000 in
theorem c_X5_carryOut (l : Launch) (X : cx_G) (x0 : Nat) (hh : (Nat → Nat)) (ht : (Nat → Nat)) (ch : (Nat → Nat)) (tx : (Nat → Nat)) (y : (Nat → Nat)) (hy : (Nat → Nat → Nat)) (rP : Int32) (fP : (Nat → Int32)) (rT : Int32) (fT : (Nat → Int32)) (rG : Int32) (fG : (Nat → Int32)) (rL : Int32) (fL : (Nat → Int32)) (rH : Int32) (fH : (Nat → Int32)) (gi : Int32) (di : Int32) (re : Int32) (ti : Int32) (rPT : Int32) (fPT : (Nat → Int32)) (rTT : Int32) (fTT : (Nat → Int32)) (rGT : Int32) (fGT : (Nat → Int32)) (rLT : Int32) (fLT : (Nat → Int32)) (rHT : Int32) (fHT : (Nat → Int32)) (giT : Int32) (diT : Int32) (reT : Int32) (tiT : Int32) (rS : Int32) (fS : (Nat → Int32)) (rB : Int32) (fB : (Nat → Int32)) (rO : Int32) (fO : (Nat → Int32)) (pl : Int32) (fa : Int32) (cn : Int32) (ro : Nat) (Qh : (Nat → HS)) (r : Int32) (fP' : (Nat → Int32)) (rG' : Int32) (fG' : (Nat → Int32)) (rL' : Int32) (fL' : (Nat → Int32)) (fH' : (Nat → Int32)) (gi' : Int32) (di' : Int32) (re' : Int32) (ti' : Int32) (rO' : Int32) (fO' : (Nat → Int32)) (pl' : Int32) (fa' : Int32) (cn' : Int32) (ro' : Nat) (Qh' : (Nat → HS)) (hf : f_X5_carryOut rP fP rT fT rG fG rL fL rH fH gi di re ti rB fB rO fO pl fa cn ro Qh = some (r, fP', rG', fG', rL', fL', fH', gi', di', re', ti', rO', fO', pl', fa', cn', ro', Qh')) : Fn l yX5_carryOut wsX5_carryOut ({ frames := 6, cells := 0, slots := 0, locals := 151 } : Room) X [.ref (x0)] (wLR X x0 hh ht ch tx y hy rP fP rT fT rG fG rL fL rH fH gi di re ti rPT fPT rTT fTT rGT fGT rLT fLT rHT fHT giT diT reT tiT rS fS rB fB rO fO pl fa cn ro Qh) (some (.int r)) (wLR X x0 hh ht ch tx y hy rP fP' rT fT rG' fG' rL' fL' rH fH' gi' di' re' ti' rPT fPT rTT fTT rGT fGT rLT fLT rHT fHT giT diT reT tiT rS fS rB fB rO' fO' pl' fa' cn' ro' Qh') := by
  refine fn_intro (cc := cX5_carryOut) (maxL := 4) (ret := (some .int)) (by decide) rfl (wLR_fst.trans wLR_fst.symm) (Nat.le_of_ble_eq_true rfl) ?_
  intro p e s m args below meth c A ls hx hb hml hr hts hown hlocks hK hP hD0 hS hA hl
  have hown : s.vm.findClass RX5 = some m.cls := hown
  have hl : lv_has ls 4 [(0, .ref (x0))] := hl
  have hiX4 : ∀ w ∈ u_ws RX4 TX4 4, w ∈ wsX5_carryOut := by decide +kernel
  have hiX5 : ∀ w ∈ u_ws RX5 TX5 5, w ∈ wsX5_carryOut := by decide +kernel
  have k10 := hts (.fieldLink RX5 10 "LentRights" "house" "LLentRights$House;") (by decide +kernel)
  have k22 := hts (.fieldLink RX5 22 "LentRights" "history" "LLentRights$History;") (by decide +kernel)
  have k36 := hts (.fieldLink RX5 36 "LentRights" "text" "LLentRights$Text;") (by decide +kernel)
  have k201 := hts (.fieldLink RX5 201 "LentRights$Text" "orders" "LLentRights$Table;") (by decide +kernel)
  have loop_39 : ∀ (rO : Int32) (fO : (Nat → Int32)) (pl : Int32) (fa : Int32) (cn : Int32) (ro : Nat) (Qh : (Nat → HS)) (k_ : Nat) (x3 : Int32) (fP : (Nat → Int32)) (rG : Int32) (fG : (Nat → Int32)) (rL : Int32) (fL : (Nat → Int32)) (fH : (Nat → Int32)) (gi : Int32) (di : Int32) (re : Int32) (ti : Int32) (H : Heap) (locs : List Loc) (ls : Array Slot), f_X5_carryOut_L39 rP rT fT rH rB fB rO fO pl fa cn ro Qh k_ x3 fP rG fG rL fL fH gi di re ti = some (r, fP', rG', fG', rL', fL', fH', gi', di', re', ti', rO', fO', pl', fa', cn', ro', Qh') → va_P X.1 vwCl (wLR X x0 hh ht ch tx y hy rP fP rT fT rG fG rL fL rH fH gi di re ti rPT fPT rTT fTT rGT fGT rLT fLT rHT fHT giT diT reT tiT rS fS rB fB rO fO pl fa cn ro Qh) H → va_S A s.heap H locs → lv_has ls 4 [(0, .ref (x0)), (2, .ref (tx 3)), (3, .int x3)] → W p l e ({ frames := 6, cells := 0, slots := 0, locals := 151 } : Room) s m args below meth c H locs 0 0 (fn_Z below X (some (.int r)) (wLR X x0 hh ht ch tx y hy rP fP' rT fT rG' fG' rL' fL' rH fH' gi' di' re' ti' rPT fPT rTT fTT rGT fGT rLT fLT rHT fHT giT diT reT tiT rS fS rB fB rO' fO' pl' fa' cn' ro' Qh') A args s) (F0 m 39 ls []) := by
    intro rO fO pl fa cn ro Qh k_
    induction k_ with
    | zero => intro x3 fP rG fG rL fL fH gi di re ti H locs ls hf; exact nomatch (show (none : Option (Int32 × (Nat → Int32) × Int32 × (Nat → Int32) × Int32 × (Nat → Int32) × (Nat → Int32) × Int32 × Int32 × Int32 × Int32 × Int32 × (Nat → Int32) × Int32 × Int32 × Int32 × Nat × (Nat → HS))) = some _ from hf)
    | succ k_ ih =>
      intro x3 fP rG fG rL fL fH gi di re ti H locs ls hf hP hS hl
      unfold f_X5_carryOut_L39 at hf
      refine lv_iload_n hx hb dX5_carryOut_39 rfl (lv_at hl 2 rfl) ?_
      refine lv_aload_n hx hb dX5_carryOut_40 rfl (lv_at hl 1 rfl) ?_
      obtain ⟨r_1, hc_2, hf⟩ := bd_of hf
      refine fn_V (v := some (.int r_1)) (As := []) (rest := [.int x3]) (st1 := [.int r_1, .int x3]) (ws' := (wLR X x0 hh ht ch tx y hy rP fP rT fT rG fG rL fL rH fH gi di re ti rPT fPT rTT fTT rGT fGT rLT fLT rHT fHT giT diT reT tiT rS fS rB fB rO fO pl fa cn ro Qh)) (nL := 4) ⟨hx, hb, hml, hown, hts⟩ (c_X3_rows l X (tx 3) (tx 4) (100 : Int32) (6 : Int32) 600 rO fO r_1 hc_2) (cwV 0 hts gX5_carryOut_X3_rows rfl rfl rfl (by decide +kernel) ⟨Nat.le_of_ble_eq_true rfl, Nat.le_of_ble_eq_true rfl⟩) 3 rfl rfl rfl rfl hl.1 rfl (Nat.le_of_ble_eq_true rfl) dX5_carryOut_41 hK hP (hD0.addr (wLR_fst.trans wLR_fst.symm)) hS hA [29, 30] (by decide +kernel) rfl (pt_setid _ _ _ rfl) rfl ⟨Nat.zero_le _, Nat.zero_le _⟩ (fun H locs hP hD hS => ?_)
      refine lv_icmp_ge (tgt := 64) hx hb dX5_carryOut_44 (by decide) (fun c_3 => ?_) (fun c_3 => ?_)
      · replace hf := fp_t c_3 hf
        refine lv_aload_n hx hb dX5_carryOut_64 rfl (lv_at hl 1 rfl) ?_
        obtain ⟨r_4, hc_5, hf⟩ := bd_of hf
        refine fn_V (v := some (.int r_4)) (As := []) (rest := []) (st1 := [.int r_4]) (ws' := (wLR X x0 hh ht ch tx y hy rP fP rT fT rG fG rL fL rH fH gi di re ti rPT fPT rTT fTT rGT fGT rLT fLT rHT fHT giT diT reT tiT rS fS rB fB rO fO pl fa cn ro Qh)) (nL := 4) ⟨hx, hb, hml, hown, hts⟩ (c_X3_rows l X (tx 3) (tx 4) (100 : Int32) (6 : Int32) 600 rO fO r_4 hc_5) (cwV 0 hts gX5_carryOut_X3_rows rfl rfl rfl (by decide +kernel) ⟨Nat.le_of_ble_eq_true rfl, Nat.le_of_ble_eq_true rfl⟩) 3 rfl rfl rfl rfl hl.1 rfl (Nat.le_of_ble_eq_true rfl) dX5_carryOut_65 hK hP (hD0.addr (wLR_fst.trans wLR_fst.symm)) hS hA [29, 30] (by decide +kernel) rfl (pt_setid _ _ _ rfl) rfl ⟨Nat.zero_le _, Nat.zero_le _⟩ (fun H locs hP hD hS => ?_)
        cases hf
        exact fn_iret hx hb hr hlocks hP hS dX5_carryOut_68
      · replace hf := fp_f c_3 hf
        refine lv_aload_n hx hb dX5_carryOut_47 rfl (lv_at hl 0 rfl) ?_
        refine lv_aload_n hx hb dX5_carryOut_48 rfl (lv_at hl 1 rfl) ?_
        refine lv_iload_n hx hb dX5_carryOut_49 rfl (lv_at hl 2 rfl) ?_
        obtain ⟨r_6, fP_7, rG_8, fG_9, rL_10, fL_11, fH_12, gi_13, di_14, re_15, ti_16, hc_17, hf⟩ := bd11_of hf
        refine fn_VJ (v := some (.int r_6)) (As := [.ref (tx 3), .int x3]) (rest := []) (st1 := [.int r_6]) (ws' := (wLR X x0 hh ht ch tx y hy rP fP_7 rT fT rG_8 fG_9 rL_10 fL_11 rH fH_12 gi_13 di_14 re_15 ti_16 rPT fPT rTT fTT rGT fGT rLT fLT rHT fHT giT diT reT tiT rS fS rB fB rO fO pl fa cn ro Qh)) (nL := 4) ⟨hx, hb, hml, hown, hts⟩ (c_X5_obey l X x0 hh ht ch tx y hy rP fP rT fT rG fG rL fL rH fH gi di re ti rPT fPT rTT fTT rGT fGT rLT fLT rHT fHT giT diT reT tiT rS fS rB fB rO fO pl fa cn ro Qh x3 r_6 fP_7 rG_8 fG_9 rL_10 fL_11 fH_12 gi_13 di_14 re_15 ti_16 hc_17) (cwV 2 hts gX5_carryOut_X5_obey rfl rfl rfl (by decide +kernel) ⟨Nat.le_of_ble_eq_true rfl, Nat.le_of_ble_eq_true rfl⟩) 5 rfl rfl rfl rfl hl.1 rfl (Nat.le_of_ble_eq_true rfl) dX5_carryOut_50 hK hP (hD0.addr (wLR_fst.trans wLR_fst.symm)) hS hA [0, 1, 2, 3, 4, 5, 6, 7, 8, 9, 10, 11, 12, 13, 14, 15, 16, 17, 18, 19, 20, 21, 22, 23, 24, 25, 26, 27, 28, 29, 30, 31, 32, 33, 34, 35, 36, 37, 38, 39, 40, 41, 42, 43, 44, 45, 46, 47, 48, 49, 50, 51, 52, 53, 54, 55, 56, 57, 58, 59, 60, 61, 62, 63, 64, 65, 66, 67, 68, 69, 70, 71, 72, 73, 74, 75, 76] (by decide +kernel) lC_a lJ_a (wLR_fst.trans wLR_fst.symm) rfl ⟨Nat.zero_le _, Nat.zero_le _⟩ (fun H locs hP hD hS => ?_)
        refine lv_if_ne (tgt := 58) hx hb dX5_carryOut_53 (by decide) (fun c_18 => ?_) (fun c_18 => ?_)
        · replace hf := fp_f c_18 hf
          obtain ⟨v_19, ev_19⟩ : ∃ y : Int32, y = x3 + (1 : Int32) := ⟨_, rfl⟩
          replace hf := nm_of ev_19 hf
          refine lv_iinc (v := v_19) (lv' := [(3, .int v_19), (0, .ref (x0)), (2, .ref (tx 3))]) hx hb dX5_carryOut_58 hl (k := 2) rfl (by rw [ev_19]; rfl) (by decide) rfl (fun ls hl => ?_)
          refine lv_goto (tgt := 39) hx hb dX5_carryOut_61 (by decide) ?_
          exact ih v_19 fP_7 rG_8 fG_9 rL_10 fL_11 fH_12 gi_13 di_14 re_15 ti_16 _ _ _ hf hP hS (lv_sub hl [1, 2, 0] rfl)
        · replace hf := fp_t c_18 hf
          refine lv_iload_n hx hb dX5_carryOut_56 rfl (lv_at hl 2 rfl) ?_
          cases hf
          exact fn_iret hx hb hr hlocks hP hS dX5_carryOut_57
  unfold f_X5_carryOut at hf
  refine lv_aload_n hx hb dX5_carryOut_0 rfl (lv_at hl 0 rfl) ?_
  refine va_get (D := X.1) (ci := 5) (v := .ref (tx 0)) (C := RX5) (T := TX5) (N := 5) hx hb hts hiX5 hown hK.1 hP 0 rfl rfl 4 (by decide) k36 (fun _ h9 => h9) rfl dX5_carryOut_1 ?_
  obtain ⟨r_20, rO_21, fO_22, pl_23, fa_24, hc_25, hf⟩ := bd5_of hf
  refine fn_VJ (v := some (.int r_20)) (As := []) (rest := []) (st1 := [.int r_20]) (ws' := (wLR X x0 hh ht ch tx y hy rP fP rT fT rG fG rL fL rH fH gi di re ti rPT fPT rTT fTT rGT fGT rLT fLT rHT fHT giT diT reT tiT rS fS rB fB rO_21 fO_22 pl_23 fa_24 cn ro Qh)) (nL := 4) ⟨hx, hb, hml, hown, hts⟩ (c_X4_read l X tx rB fB rO fO pl fa r_20 rO_21 fO_22 pl_23 fa_24 hc_25) (cwV 0 hts gX5_carryOut_X4_read rfl rfl rfl (by decide +kernel) ⟨Nat.le_of_ble_eq_true rfl, Nat.le_of_ble_eq_true rfl⟩) 4 rfl rfl rfl rfl hl.1 rfl (Nat.le_of_ble_eq_true rfl) dX5_carryOut_4 hK hP (hD0.addr (wLR_fst.trans wLR_fst.symm)) hS hA [26, 27, 28, 29, 30] (by decide +kernel) lC_x lJ_x (wLR_fst.trans wLR_fst.symm) rfl ⟨Nat.zero_le _, Nat.zero_le _⟩ (fun H locs hP hD hS => ?_)
  refine lv_istore_n (lv' := [(1, .int r_20), (0, .ref (x0))]) hx hb dX5_carryOut_7 rfl hl (by decide) rfl (fun ls hl => ?_)
  refine lv_iload_n hx hb dX5_carryOut_8 rfl (lv_at hl 0 rfl) ?_
  refine lv_iconst (v := -1) hx hb dX5_carryOut_9 (by decide) ?_
  refine lv_icmp_eq (tgt := 18) hx hb dX5_carryOut_10 (by decide) (fun c_26 => ?_) (fun c_26 => ?_)
  · replace hf := fp_t c_26 hf
    refine lv_aload_n hx hb dX5_carryOut_18 rfl (lv_at hl 1 rfl) ?_
    refine va_get (D := X.1) (ci := 5) (v := .ref (y 0)) (C := RX5) (T := TX5) (N := 5) hx hb hts hiX5 hown hK.1 hP 0 rfl rfl 2 (by decide) k22 (fun _ h9 => h9) rfl dX5_carryOut_19 ?_
    refine lv_aload_n hx hb dX5_carryOut_22 rfl (lv_at hl 1 rfl) ?_
    refine va_get (D := X.1) (ci := 5) (v := .ref (hh 0)) (C := RX5) (T := TX5) (N := 5) hx hb hts hiX5 hown hK.1 hP 0 rfl rfl 0 (by decide) k10 (fun _ h9 => h9) rfl dX5_carryOut_23 ?_
    obtain ⟨cn_27, ro_28, Qh_29, hc_30, hf⟩ := bd3_of hf
    refine fn_VJ (v := none) (As := [.ref (hh 0)]) (rest := []) (st1 := []) (ws' := (wLR X x0 hh ht ch tx y hy rP fP rT fT rG fG rL fL rH fH gi di re ti rPT fPT rTT fTT rGT fGT rLT fLT rHT fHT giT diT reT tiT rS fS rB fB rO_21 fO_22 pl_23 fa_24 cn_27 ro_28 Qh_29)) (nL := 4) ⟨hx, hb, hml, hown, hts⟩ (c_X1_keep l X y hy hh cn ro Qh rP fP rT fT rG fG rL fL rH fH gi di re ti cn_27 ro_28 Qh_29 hc_30) (cwV 1 hts gX5_carryOut_X1_keep rfl rfl rfl (by decide +kernel) ⟨Nat.le_of_ble_eq_true rfl, Nat.le_of_ble_eq_true rfl⟩) 1 rfl rfl rfl rfl hl.1 rfl (Nat.le_of_ble_eq_true rfl) dX5_carryOut_26 hK hP (hD0.addr (wLR_fst.trans wLR_fst.symm)) hS hA [31, 32, 33, 34, 35, 36, 37, 38, 39, 40, 41, 42, 43, 44, 45, 46, 47, 48, 49, 50, 51, 52, 53, 54, 55, 56, 57, 58, 59, 60, 61, 62, 63, 64, 65, 66, 67, 68, 69, 70, 71, 72, 73, 74, 75, 76, 1, 2, 3, 4, 5, 6, 7, 8, 9, 10, 11] (by decide +kernel) lC_ih lJ_ih (wLR_fst.trans wLR_fst.symm) rfl ⟨Nat.zero_le _, Nat.zero_le _⟩ (fun H locs hP hD hS => ?_)
    refine lv_aload_n hx hb dX5_carryOut_29 rfl (lv_at hl 1 rfl) ?_
    refine va_get (D := X.1) (ci := 5) (v := .ref (tx 0)) (C := RX5) (T := TX5) (N := 5) hx hb hts hiX5 hown hK.1 hP 0 rfl rfl 4 (by decide) k36 (fun _ h9 => h9) rfl dX5_carryOut_30 ?_
    refine va_get (D := X.1) (ci := 4) (v := .ref (tx 3)) (C := RX4) (T := TX4) (N := 4) hx hb hts hiX4 hown hK.1 hP 26 rfl rfl 1 (by decide) k201 (fun _ h9 => h9) rfl dX5_carryOut_33 ?_
    refine lv_astore_n (lv' := [(2, .ref (tx 3)), (1, .int r_20), (0, .ref (x0))]) hx hb dX5_carryOut_36 rfl hl (by decide) rfl (fun ls hl => ?_)
    refine lv_iconst (v := 0) hx hb dX5_carryOut_37 (by decide) ?_
    refine lv_istore_n (lv' := [(3, .int (0 : Int32)), (2, .ref (tx 3)), (1, .int r_20), (0, .ref (x0))]) hx hb dX5_carryOut_38 rfl hl (by decide) rfl (fun ls hl => ?_)
    exact loop_39 rO_21 fO_22 pl_23 fa_24 cn_27 ro_28 Qh_29 FU (0 : Int32) fP rG fG rL fL fH gi di re ti _ _ _ hf hP hS (lv_sub hl [3, 1, 0] rfl)
  · replace hf := fp_f c_26 hf
    refine lv_bipush (v := -10) hx hb dX5_carryOut_13 (by decide) ?_
    refine lv_iload_n hx hb dX5_carryOut_15 rfl (lv_at hl 0 rfl) ?_
    refine lv_isub hx hb dX5_carryOut_16 ?_
    refine lv_topi (fun v_31 ev_31 => ?_)
    replace hf := nm_of ev_31 hf
    cases hf
    exact fn_iret hx hb hr hlocks hP hS dX5_carryOut_17

def f_X5_undo (rP : Int32) (fP : (Nat → Int32)) (rT : Int32) (fT : (Nat → Int32)) (rG : Int32) (fG : (Nat → Int32)) (rL : Int32) (fL : (Nat → Int32)) (rH : Int32) (fH : (Nat → Int32)) (gi : Int32) (di : Int32) (re : Int32) (ti : Int32) (cn : Int32) (ro : Nat) (Qh : (Nat → HS)) : Option ((String × Int32 × (Nat → Int32) × Int32 × (Nat → Int32) × Int32 × (Nat → Int32) × Int32 × (Nat → Int32) × Int32 × (Nat → Int32) × Int32 × Int32 × Int32 × Int32 × Int32) ⊕ (Int32 × Int32 × (Nat → Int32) × Int32 × (Nat → Int32) × Int32 × (Nat → Int32) × Int32 × (Nat → Int32) × Int32 × (Nat → Int32) × Int32 × Int32 × Int32 × Int32 × Int32)) :=
  bd (f_X1_count cn) (fun r_1 =>
  if r_1 = (0 : Int32) then
  (some (.inl ("java/lang/IllegalStateException", rP, fP, rT, fT, rG, fG, rL, fL, rH, fH, gi, di, re, ti, cn)))
  else
  (bd15 (f_X1_giveBack cn ro Qh rP fP rT fT rG fG rL fL rH fH gi di re ti) (fun cn_4 rP_5 fP_6 rT_7 fT_8 rG_9 fG_10 rL_11 fL_12 rH_13 fH_14 gi_15 di_16 re_17 ti_18 =>
  bd (f_X1_count cn_4) (fun r_20 =>
  some (.inr (r_20, rP_5, fP_6, rT_7, fT_8, rG_9, fG_10, rL_11, fL_12, rH_13, fH_14, gi_15, di_16, re_17, ti_18, cn_4))))))
set_option maxHeartbeats 4000000 in
set_option maxRecDepth 100000 in
theorem c_X5_undo (l : Launch) (X : cx_G) (x0 : Nat) (hh : (Nat → Nat)) (ht : (Nat → Nat)) (ch : (Nat → Nat)) (tx : (Nat → Nat)) (y : (Nat → Nat)) (hy : (Nat → Nat → Nat)) (rP : Int32) (fP : (Nat → Int32)) (rT : Int32) (fT : (Nat → Int32)) (rG : Int32) (fG : (Nat → Int32)) (rL : Int32) (fL : (Nat → Int32)) (rH : Int32) (fH : (Nat → Int32)) (gi : Int32) (di : Int32) (re : Int32) (ti : Int32) (rPT : Int32) (fPT : (Nat → Int32)) (rTT : Int32) (fTT : (Nat → Int32)) (rGT : Int32) (fGT : (Nat → Int32)) (rLT : Int32) (fLT : (Nat → Int32)) (rHT : Int32) (fHT : (Nat → Int32)) (giT : Int32) (diT : Int32) (reT : Int32) (tiT : Int32) (rS : Int32) (fS : (Nat → Int32)) (rB : Int32) (fB : (Nat → Int32)) (rO : Int32) (fO : (Nat → Int32)) (pl : Int32) (fa : Int32) (cn : Int32) (ro : Nat) (Qh : (Nat → HS)) (r : Int32) (rP' : Int32) (fP' : (Nat → Int32)) (rT' : Int32) (fT' : (Nat → Int32)) (rG' : Int32) (fG' : (Nat → Int32)) (rL' : Int32) (fL' : (Nat → Int32)) (rH' : Int32) (fH' : (Nat → Int32)) (gi' : Int32) (di' : Int32) (re' : Int32) (ti' : Int32) (cn' : Int32) (hf : f_X5_undo rP fP rT fT rG fG rL fL rH fH gi di re ti cn ro Qh = some (.inr (r, rP', fP', rT', fT', rG', fG', rL', fL', rH', fH', gi', di', re', ti', cn'))) : Fn l yX5_undo wsX5_undo ({ frames := 3, cells := 0, slots := 0, locals := 66 } : Room) X [.ref (x0)] (wLR X x0 hh ht ch tx y hy rP fP rT fT rG fG rL fL rH fH gi di re ti rPT fPT rTT fTT rGT fGT rLT fLT rHT fHT giT diT reT tiT rS fS rB fB rO fO pl fa cn ro Qh) (some (.int r)) (wLR X x0 hh ht ch tx y hy rP' fP' rT' fT' rG' fG' rL' fL' rH' fH' gi' di' re' ti' rPT fPT rTT fTT rGT fGT rLT fLT rHT fHT giT diT reT tiT rS fS rB fB rO fO pl fa cn' ro Qh) := by
  refine fn_intro (cc := cX5_undo) (maxL := 1) (ret := (some .int)) (by decide) rfl (wLR_fst.trans wLR_fst.symm) (Nat.le_of_ble_eq_true rfl) ?_
  intro p e s m args below meth c A ls hx hb hml hr hts hown hlocks hK hP hD0 hS hA hl
  have hown : s.vm.findClass RX5 = some m.cls := hown
  have hl : lv_has ls 1 [(0, .ref (x0))] := hl
  have hiX5 : ∀ w ∈ u_ws RX5 TX5 5, w ∈ wsX5_undo := by decide +kernel
  have k10 := hts (.fieldLink RX5 10 "LentRights" "house" "LLentRights$House;") (by decide +kernel)
  have k22 := hts (.fieldLink RX5 22 "LentRights" "history" "LLentRights$History;") (by decide +kernel)
  unfold f_X5_undo at hf
  refine lv_aload_n hx hb dX5_undo_0 rfl (lv_at hl 0 rfl) ?_
  refine va_get (D := X.1) (ci := 5) (v := .ref (y 0)) (C := RX5) (T := TX5) (N := 5) hx hb hts hiX5 hown hK.1 hP 0 rfl rfl 2 (by decide) k22 (fun _ h9 => h9) rfl dX5_undo_1 ?_
  obtain ⟨r_1, hc_2, hf⟩ := bd_of hf
  refine fn_V (v := some (.int r_1)) (As := []) (rest := []) (st1 := [.int r_1]) (ws' := (wLR X x0 hh ht ch tx y hy rP fP rT fT rG fG rL fL rH fH gi di re ti rPT fPT rTT fTT rGT fGT rLT fLT rHT fHT giT diT reT tiT rS fS rB fB rO fO pl fa cn ro Qh)) (nL := 1) ⟨hx, hb, hml, hown, hts⟩ (c_X1_count l X y hy cn ro Qh r_1 hc_2) (cwV 0 hts gX5_undo_X1_count rfl rfl rfl (by decide +kernel) ⟨Nat.le_of_ble_eq_true rfl, Nat.le_of_ble_eq_true rfl⟩) 1 rfl rfl rfl rfl hl.1 rfl (Nat.le_of_ble_eq_true rfl) dX5_undo_4 hK hP (hD0.addr (wLR_fst.trans wLR_fst.symm)) hS hA [31, 32, 33, 34, 35, 36, 37, 38, 39, 40, 41, 42, 43, 44, 45, 46, 47, 48, 49, 50, 51, 52, 53, 54, 55, 56, 57, 58, 59, 60, 61, 62, 63, 64, 65, 66, 67, 68, 69, 70, 71, 72, 73, 74, 75, 76] (by decide +kernel) lC_i (pt_setid _ _ _ lC_i) rfl ⟨Nat.zero_le _, Nat.zero_le _⟩ (fun H locs hP hD hS => ?_)
  refine lv_if_ne (tgt := 20) hx hb dX5_undo_7 (by decide) (fun c_3 => ?_) (fun c_3 => ?_)
  · replace hf := fp_f c_3 hf
    refine lv_aload_n hx hb dX5_undo_20 rfl (lv_at hl 0 rfl) ?_
    refine va_get (D := X.1) (ci := 5) (v := .ref (y 0)) (C := RX5) (T := TX5) (N := 5) hx hb hts hiX5 hown hK.1 hP 0 rfl rfl 2 (by decide) k22 (fun _ h9 => h9) rfl dX5_undo_21 ?_
    refine lv_aload_n hx hb dX5_undo_24 rfl (lv_at hl 0 rfl) ?_
    refine va_get (D := X.1) (ci := 5) (v := .ref (hh 0)) (C := RX5) (T := TX5) (N := 5) hx hb hts hiX5 hown hK.1 hP 0 rfl rfl 0 (by decide) k10 (fun _ h9 => h9) rfl dX5_undo_25 ?_
    obtain ⟨cn_4, rP_5, fP_6, rT_7, fT_8, rG_9, fG_10, rL_11, fL_12, rH_13, fH_14, gi_15, di_16, re_17, ti_18, hc_19, hf⟩ := bd15_of hf
    refine fn_VJ (v := none) (As := [.ref (hh 0)]) (rest := []) (st1 := []) (ws' := (wLR X x0 hh ht ch tx y hy rP_5 fP_6 rT_7 fT_8 rG_9 fG_10 rL_11 fL_12 rH_13 fH_14 gi_15 di_16 re_17 ti_18 rPT fPT rTT fTT rGT fGT rLT fLT rHT fHT giT diT reT tiT rS fS rB fB rO fO pl fa cn_4 ro Qh)) (nL := 1) ⟨hx, hb, hml, hown, hts⟩ (c_X1_giveBack l X y hy hh cn ro Qh rP fP rT fT rG fG rL fL rH fH gi di re ti cn_4 rP_5 fP_6 rT_7 fT_8 rG_9 fG_10 rL_11 fL_12 rH_13 fH_14 gi_15 di_16 re_17 ti_18 hc_19) (cwV 1 hts gX5_undo_X1_giveBack rfl rfl rfl (by decide +kernel) ⟨Nat.le_of_ble_eq_true rfl, Nat.le_of_ble_eq_true rfl⟩) 1 rfl rfl rfl rfl hl.1 rfl (Nat.le_of_ble_eq_true rfl) dX5_undo_28 hK hP (hD0.addr (wLR_fst.trans wLR_fst.symm)) hS hA [31, 32, 33, 34, 35, 36, 37, 38, 39, 40, 41, 42, 43, 44, 45, 46, 47, 48, 49, 50, 51, 52, 53, 54, 55, 56, 57, 58, 59, 60, 61, 62, 63, 64, 65, 66, 67, 68, 69, 70, 71, 72, 73, 74, 75, 76, 1, 2, 3, 4, 5, 6, 7, 8, 9, 10, 11] (by decide +kernel) lC_ih lJ_ih (wLR_fst.trans wLR_fst.symm) rfl ⟨Nat.zero_le _, Nat.zero_le _⟩ (fun H locs hP hD hS => ?_)
    refine lv_aload_n hx hb dX5_undo_31 rfl (lv_at hl 0 rfl) ?_
    refine va_get (D := X.1) (ci := 5) (v := .ref (y 0)) (C := RX5) (T := TX5) (N := 5) hx hb hts hiX5 hown hK.1 hP 0 rfl rfl 2 (by decide) k22 (fun _ h9 => h9) rfl dX5_undo_32 ?_
    obtain ⟨r_20, hc_21, hf⟩ := bd_of hf
    refine fn_V (v := some (.int r_20)) (As := []) (rest := []) (st1 := [.int r_20]) (ws' := (wLR X x0 hh ht ch tx y hy rP_5 fP_6 rT_7 fT_8 rG_9 fG_10 rL_11 fL_12 rH_13 fH_14 gi_15 di_16 re_17 ti_18 rPT fPT rTT fTT rGT fGT rLT fLT rHT fHT giT diT reT tiT rS fS rB fB rO fO pl fa cn_4 ro Qh)) (nL := 1) ⟨hx, hb, hml, hown, hts⟩ (c_X1_count l X y hy cn_4 ro Qh r_20 hc_21) (cwV 0 hts gX5_undo_X1_count rfl rfl rfl (by decide +kernel) ⟨Nat.le_of_ble_eq_true rfl, Nat.le_of_ble_eq_true rfl⟩) 1 rfl rfl rfl rfl hl.1 rfl (Nat.le_of_ble_eq_true rfl) dX5_undo_35 hK hP (hD0.addr (wLR_fst.trans wLR_fst.symm)) hS hA [31, 32, 33, 34, 35, 36, 37, 38, 39, 40, 41, 42, 43, 44, 45, 46, 47, 48, 49, 50, 51, 52, 53, 54, 55, 56, 57, 58, 59, 60, 61, 62, 63, 64, 65, 66, 67, 68, 69, 70, 71, 72, 73, 74, 75, 76] (by decide +kernel) lC_i (pt_setid _ _ _ lC_i) rfl ⟨Nat.zero_le _, Nat.zero_le _⟩ (fun H locs hP hD hS => ?_)
    cases hf
    exact fn_iret hx hb hr hlocks hP hS dX5_undo_38
  · replace hf := fp_t c_3 hf
    cases hf
set_option maxHeartbeats 4000000 in
set_option maxRecDepth 100000 in
theorem c_X5_undo_x (l : Launch) (hfl : l.stackTraces = false) (X : cx_G) (x0 : Nat) (hh : (Nat → Nat)) (ht : (Nat → Nat)) (ch : (Nat → Nat)) (tx : (Nat → Nat)) (y : (Nat → Nat)) (hy : (Nat → Nat → Nat)) (rP : Int32) (fP : (Nat → Int32)) (rT : Int32) (fT : (Nat → Int32)) (rG : Int32) (fG : (Nat → Int32)) (rL : Int32) (fL : (Nat → Int32)) (rH : Int32) (fH : (Nat → Int32)) (gi : Int32) (di : Int32) (re : Int32) (ti : Int32) (rPT : Int32) (fPT : (Nat → Int32)) (rTT : Int32) (fTT : (Nat → Int32)) (rGT : Int32) (fGT : (Nat → Int32)) (rLT : Int32) (fLT : (Nat → Int32)) (rHT : Int32) (fHT : (Nat → Int32)) (giT : Int32) (diT : Int32) (reT : Int32) (tiT : Int32) (rS : Int32) (fS : (Nat → Int32)) (rB : Int32) (fB : (Nat → Int32)) (rO : Int32) (fO : (Nat → Int32)) (pl : Int32) (fa : Int32) (cn : Int32) (ro : Nat) (Qh : (Nat → HS)) (E : String) (rP' : Int32) (fP' : (Nat → Int32)) (rT' : Int32) (fT' : (Nat → Int32)) (rG' : Int32) (fG' : (Nat → Int32)) (rL' : Int32) (fL' : (Nat → Int32)) (rH' : Int32) (fH' : (Nat → Int32)) (gi' : Int32) (di' : Int32) (re' : Int32) (ti' : Int32) (cn' : Int32) (hf : f_X5_undo rP fP rT fT rG fG rL fL rH fH gi di re ti cn ro Qh = some (.inl (E, rP', fP', rT', fT', rG', fG', rL', fL', rH', fH', gi', di', re', ti', cn'))) : Tx l yX5_undo wsX5_undo ({ frames := 6, cells := 1, slots := 6, locals := 90 } : Room) X [.ref (x0)] (wLR X x0 hh ht ch tx y hy rP fP rT fT rG fG rL fL rH fH gi di re ti rPT fPT rTT fTT rGT fGT rLT fLT rHT fHT giT diT reT tiT rS fS rB fB rO fO pl fa cn ro Qh) E (wLR X x0 hh ht ch tx y hy rP' fP' rT' fT' rG' fG' rL' fL' rH' fH' gi' di' re' ti' rPT fPT rTT fTT rGT fGT rLT fLT rHT fHT giT diT reT tiT rS fS rB fB rO fO pl fa cn' ro Qh) := by
  refine tx_intro (cc := cX5_undo) (maxL := 1) (ret := (some .int)) (by decide) rfl (wLR_fst.trans wLR_fst.symm) (Nat.le_of_ble_eq_true rfl) ?_
  intro p e s m args below meth c A ls hx hb hml hr hts hown hlocks hne hK hP hD0 hS hA hTS hTZ hl
  have hown : s.vm.findClass RX5 = some m.cls := hown
  have hl : lv_has ls 1 [(0, .ref (x0))] := hl
  have hiX5 : ∀ w ∈ u_ws RX5 TX5 5, w ∈ wsX5_undo := by decide +kernel
  have k10 := hts (.fieldLink RX5 10 "LentRights" "house" "LLentRights$House;") (by decide +kernel)
  have k22 := hts (.fieldLink RX5 22 "LentRights" "history" "LLentRights$History;") (by decide +kernel)
  unfold f_X5_undo at hf
  refine lv_aload_n hx hb dX5_undo_0 rfl (lv_at hl 0 rfl) ?_
  refine va_get (D := X.1) (ci := 5) (v := .ref (y 0)) (C := RX5) (T := TX5) (N := 5) hx hb hts hiX5 hown hK.1 hP 0 rfl rfl 2 (by decide) k22 (fun _ h9 => h9) rfl dX5_undo_1 ?_
  obtain ⟨r_1, hc_2, hf⟩ := bd_of hf
  refine fn_V (v := some (.int r_1)) (As := []) (rest := []) (st1 := [.int r_1]) (ws' := (wLR X x0 hh ht ch tx y hy rP fP rT fT rG fG rL fL rH fH gi di re ti rPT fPT rTT fTT rGT fGT rLT fLT rHT fHT giT diT reT tiT rS fS rB fB rO fO pl fa cn ro Qh)) (nL := 1) ⟨hx, hb, hml, hown, hts⟩ (c_X1_count l X y hy cn ro Qh r_1 hc_2) (cwV 0 hts gX5_undo_X1_count rfl rfl rfl (by decide +kernel) ⟨Nat.le_of_ble_eq_true rfl, Nat.le_of_ble_eq_true rfl⟩) 1 rfl rfl rfl rfl hl.1 rfl (Nat.le_of_ble_eq_true rfl) dX5_undo_4 hK hP (hD0.addr (wLR_fst.trans wLR_fst.symm)) hS hA [31, 32, 33, 34, 35, 36, 37, 38, 39, 40, 41, 42, 43, 44, 45, 46, 47, 48, 49, 50, 51, 52, 53, 54, 55, 56, 57, 58, 59, 60, 61, 62, 63, 64, 65, 66, 67, 68, 69, 70, 71, 72, 73, 74, 75, 76] (by decide +kernel) lC_i (pt_setid _ _ _ lC_i) rfl ⟨Nat.zero_le _, Nat.zero_le _⟩ (fun H locs hP hD hS => ?_)
  refine lv_if_ne (tgt := 20) hx hb dX5_undo_7 (by decide) (fun c_3 => ?_) (fun c_3 => ?_)
  · replace hf := fp_f c_3 hf
    refine lv_aload_n hx hb dX5_undo_20 rfl (lv_at hl 0 rfl) ?_
    refine va_get (D := X.1) (ci := 5) (v := .ref (y 0)) (C := RX5) (T := TX5) (N := 5) hx hb hts hiX5 hown hK.1 hP 0 rfl rfl 2 (by decide) k22 (fun _ h9 => h9) rfl dX5_undo_21 ?_
    refine lv_aload_n hx hb dX5_undo_24 rfl (lv_at hl 0 rfl) ?_
    refine va_get (D := X.1) (ci := 5) (v := .ref (hh 0)) (C := RX5) (T := TX5) (N := 5) hx hb hts hiX5 hown hK.1 hP 0 rfl rfl 0 (by decide) k10 (fun _ h9 => h9) rfl dX5_undo_25 ?_
    obtain ⟨cn_4, rP_5, fP_6, rT_7, fT_8, rG_9, fG_10, rL_11, fL_12, rH_13, fH_14, gi_15, di_16, re_17, ti_18, hc_19, hf⟩ := bd15_of hf
    refine fn_VJ (v := none) (As := [.ref (hh 0)]) (rest := []) (st1 := []) (ws' := (wLR X x0 hh ht ch tx y hy rP_5 fP_6 rT_7 fT_8 rG_9 fG_10 rL_11 fL_12 rH_13 fH_14 gi_15 di_16 re_17 ti_18 rPT fPT rTT fTT rGT fGT rLT fLT rHT fHT giT diT reT tiT rS fS rB fB rO fO pl fa cn_4 ro Qh)) (nL := 1) ⟨hx, hb, hml, hown, hts⟩ (c_X1_giveBack l X y hy hh cn ro Qh rP fP rT fT rG fG rL fL rH fH gi di re ti cn_4 rP_5 fP_6 rT_7 fT_8 rG_9 fG_10 rL_11 fL_12 rH_13 fH_14 gi_15 di_16 re_17 ti_18 hc_19) (cwV 1 hts gX5_undo_X1_giveBack rfl rfl rfl (by decide +kernel) ⟨Nat.le_of_ble_eq_true rfl, Nat.le_of_ble_eq_true rfl⟩) 1 rfl rfl rfl rfl hl.1 rfl (Nat.le_of_ble_eq_true rfl) dX5_undo_28 hK hP (hD0.addr (wLR_fst.trans wLR_fst.symm)) hS hA [31, 32, 33, 34, 35, 36, 37, 38, 39, 40, 41, 42, 43, 44, 45, 46, 47, 48, 49, 50, 51, 52, 53, 54, 55, 56, 57, 58, 59, 60, 61, 62, 63, 64, 65, 66, 67, 68, 69, 70, 71, 72, 73, 74, 75, 76, 1, 2, 3, 4, 5, 6, 7, 8, 9, 10, 11] (by decide +kernel) lC_ih lJ_ih (wLR_fst.trans wLR_fst.symm) rfl ⟨Nat.zero_le _, Nat.zero_le _⟩ (fun H locs hP hD hS => ?_)
    refine lv_aload_n hx hb dX5_undo_31 rfl (lv_at hl 0 rfl) ?_
    refine va_get (D := X.1) (ci := 5) (v := .ref (y 0)) (C := RX5) (T := TX5) (N := 5) hx hb hts hiX5 hown hK.1 hP 0 rfl rfl 2 (by decide) k22 (fun _ h9 => h9) rfl dX5_undo_32 ?_
    obtain ⟨r_20, hc_21, hf⟩ := bd_of hf
    refine fn_V (v := some (.int r_20)) (As := []) (rest := []) (st1 := [.int r_20]) (ws' := (wLR X x0 hh ht ch tx y hy rP_5 fP_6 rT_7 fT_8 rG_9 fG_10 rL_11 fL_12 rH_13 fH_14 gi_15 di_16 re_17 ti_18 rPT fPT rTT fTT rGT fGT rLT fLT rHT fHT giT diT reT tiT rS fS rB fB rO fO pl fa cn_4 ro Qh)) (nL := 1) ⟨hx, hb, hml, hown, hts⟩ (c_X1_count l X y hy cn_4 ro Qh r_20 hc_21) (cwV 0 hts gX5_undo_X1_count rfl rfl rfl (by decide +kernel) ⟨Nat.le_of_ble_eq_true rfl, Nat.le_of_ble_eq_true rfl⟩) 1 rfl rfl rfl rfl hl.1 rfl (Nat.le_of_ble_eq_true rfl) dX5_undo_35 hK hP (hD0.addr (wLR_fst.trans wLR_fst.symm)) hS hA [31, 32, 33, 34, 35, 36, 37, 38, 39, 40, 41, 42, 43, 44, 45, 46, 47, 48, 49, 50, 51, 52, 53, 54, 55, 56, 57, 58, 59, 60, 61, 62, 63, 64, 65, 66, 67, 68, 69, 70, 71, 72, 73, 74, 75, 76] (by decide +kernel) lC_i (pt_setid _ _ _ lC_i) rfl ⟨Nat.zero_le _, Nat.zero_le _⟩ (fun H locs hP hD hS => ?_)
    cases hf
  · replace hf := fp_t c_3 hf
    cases hf
    exact tx_throw (is := 211) hx hb hfl hown (by decide +kernel) hne (hml.trans hl.1.symm) hlocks (hts (.classLink RX5 57 "java/lang/IllegalStateException") (by decide +kernel)) (hts (.initialized "java/lang/IllegalStateException") (by decide +kernel)) hTS.1.2.2.2.2.2.2.2.1 hTS tk_ISE (fun w hw => hts w (by unfold wsX5_undo; simp only [List.mem_cons, List.mem_append, hw, or_true, true_or])) hTZ hP hS (Nat.le_of_ble_eq_true rfl) (Nat.le_of_ble_eq_true rfl) (Nat.le_of_ble_eq_true rfl) (Nat.le_of_ble_eq_true rfl) dX5_undo_10 dX5_undo_13 dX5_undo_14 dX5_undo_16 dX5_undo_19

def f_X5_hashOfPersons_L15 (x5 : Int32) (rP : Int32) (fP : (Nat → Int32)) (rT : Int32) (fT : (Nat → Int32)) (rG : Int32) (fG : (Nat → Int32)) (rH : Int32) (fH : (Nat → Int32)) : Nat → Int64 → Int32 →  Option (Int64)
  | 0, _, _ => none
  | k_ + 1, x3, x6 =>
    if (6 : Int32) < x6 then
    (some x3)
    else
    (bd (f_X2_aboutPerson x5 x6 rP fP rT fT rG fG rH fH) (fun r_2 =>
    nm (((31 : Int64) * x3) + r_2.toInt64) (fun v_4 =>
    nm (x6 + (1 : Int32)) (fun v_5 =>
    f_X5_hashOfPersons_L15 x5 rP fP rT fT rG fG rH fH k_ v_4 v_5))))
def f_X5_hashOfPersons_L5 (rP : Int32) (fP : (Nat → Int32)) (rT : Int32) (fT : (Nat → Int32)) (rG : Int32) (fG : (Nat → Int32)) (rH : Int32) (fH : (Nat → Int32)) : Nat → Int64 → Int32 →  Option (Int64)
  | 0, _, _ => none
  | k_ + 1, x3, x5 =>
    if (10 : Int32) ≤ x5 then
    (some x3)
    else
    (bd (f_X5_hashOfPersons_L15 x5 rP fP rT fT rG fG rH fH FU x3 (0 : Int32)) (fun y3_7 =>
    nm (x5 + (1 : Int32)) (fun v_9 =>
    f_X5_hashOfPersons_L5 rP fP rT fT rG fG rH fH k_ y3_7 v_9)))
def f_X5_hashOfPersons (x1 : Int64) (rP : Int32) (fP : (Nat → Int32)) (rT : Int32) (fT : (Nat → Int32)) (rG : Int32) (fG : (Nat → Int32)) (rH : Int32) (fH : (Nat → Int32)) : Option (Int64) :=
  bd (f_X5_hashOfPersons_L5 rP fP rT fT rG fG rH fH FU x1 (0 : Int32)) (fun y3_10 =>
  some y3_10)
set_option maxHeartbeats 4000000 in
set_option maxRecDepth 100000 in
theorem c_X5_hashOfPersons (l : Launch) (X : cx_G) (x0 : Nat) (hh : (Nat → Nat)) (ht : (Nat → Nat)) (ch : (Nat → Nat)) (tx : (Nat → Nat)) (y : (Nat → Nat)) (hy : (Nat → Nat → Nat)) (rP : Int32) (fP : (Nat → Int32)) (rT : Int32) (fT : (Nat → Int32)) (rG : Int32) (fG : (Nat → Int32)) (rL : Int32) (fL : (Nat → Int32)) (rH : Int32) (fH : (Nat → Int32)) (gi : Int32) (di : Int32) (re : Int32) (ti : Int32) (rPT : Int32) (fPT : (Nat → Int32)) (rTT : Int32) (fTT : (Nat → Int32)) (rGT : Int32) (fGT : (Nat → Int32)) (rLT : Int32) (fLT : (Nat → Int32)) (rHT : Int32) (fHT : (Nat → Int32)) (giT : Int32) (diT : Int32) (reT : Int32) (tiT : Int32) (rS : Int32) (fS : (Nat → Int32)) (rB : Int32) (fB : (Nat → Int32)) (rO : Int32) (fO : (Nat → Int32)) (pl : Int32) (fa : Int32) (cn : Int32) (ro : Nat) (Qh : (Nat → HS)) (x1 : Int64) (r : Int64) (hf : f_X5_hashOfPersons x1 rP fP rT fT rG fG rH fH = some r) : Fn l yX5_hashOfPersons wsX5_hashOfPersons ({ frames := 3, cells := 0, slots := 0, locals := 70 } : Room) X [.ref (x0), .long x1] (wLR X x0 hh ht ch tx y hy rP fP rT fT rG fG rL fL rH fH gi di re ti rPT fPT rTT fTT rGT fGT rLT fLT rHT fHT giT diT reT tiT rS fS rB fB rO fO pl fa cn ro Qh) (some (.long r)) (wLR X x0 hh ht ch tx y hy rP fP rT fT rG fG rL fL rH fH gi di re ti rPT fPT rTT fTT rGT fGT rLT fLT rHT fHT giT diT reT tiT rS fS rB fB rO fO pl fa cn ro Qh) := by
  refine fn_intro (cc := cX5_hashOfPersons) (maxL := 7) (ret := (some .long)) (by decide) rfl rfl (Nat.le_of_ble_eq_true rfl) ?_
  intro p e s m args below meth c A ls hx hb hml hr hts hown hlocks hK hP hD0 hS hA hl
  have hown : s.vm.findClass RX5 = some m.cls := hown
  have hl : lv_has ls 7 [(0, .ref (x0)), (1, .long x1)] := hl
  have hiX5 : ∀ w ∈ u_ws RX5 TX5 5, w ∈ wsX5_hashOfPersons := by decide +kernel
  have k10 := hts (.fieldLink RX5 10 "LentRights" "house" "LLentRights$House;") (by decide +kernel)
  have loop_15 : ∀ (Q : State → Prop) (x5 : Int32) (y3 : Int64), (∀ (H : Heap) (locs : List Loc) (ls : Array Slot), va_P X.1 vwCl (wLR X x0 hh ht ch tx y hy rP fP rT fT rG fG rL fL rH fH gi di re ti rPT fPT rTT fTT rGT fGT rLT fLT rHT fHT giT diT reT tiT rS fS rB fB rO fO pl fa cn ro Qh) H → va_S A s.heap H locs → lv_has ls 7 [(0, .ref (x0)), (3, .long y3), (5, .int x5)] → W p l e ({ frames := 3, cells := 0, slots := 0, locals := 70 } : Room) s m args below meth c H locs 0 0 Q (F0 m 47 ls [])) → ∀ (k_ : Nat) (x3 : Int64) (x6 : Int32) (H : Heap) (locs : List Loc) (ls : Array Slot), f_X5_hashOfPersons_L15 x5 rP fP rT fT rG fG rH fH k_ x3 x6 = some y3 → va_P X.1 vwCl (wLR X x0 hh ht ch tx y hy rP fP rT fT rG fG rL fL rH fH gi di re ti rPT fPT rTT fTT rGT fGT rLT fLT rHT fHT giT diT reT tiT rS fS rB fB rO fO pl fa cn ro Qh) H → va_S A s.heap H locs → lv_has ls 7 [(0, .ref (x0)), (3, .long x3), (5, .int x5), (6, .int x6)] → W p l e ({ frames := 3, cells := 0, slots := 0, locals := 70 } : Room) s m args below meth c H locs 0 0 Q (F0 m 15 ls []) := by
    intro Q x5 y3 kx k_
    induction k_ with
    | zero => intro x3 x6 H locs ls hf; exact nomatch (show (none : Option (Int64)) = some _ from hf)
    | succ k_ ih =>
      intro x3 x6 H locs ls hf hP hS hl
      unfold f_X5_hashOfPersons_L15 at hf
      refine lv_iload hx hb dX5_hashOfPersons_15 (lv_at hl 3 rfl) ?_
      refine lv_bipush (v := 6) hx hb dX5_hashOfPersons_17 (by decide) ?_
      refine lv_icmp_gt (tgt := 47) hx hb dX5_hashOfPersons_19 (by decide) (fun c_1 => ?_) (fun c_1 => ?_)
      · replace hf := fp_t c_1 hf
        cases hf
        exact kx _ _ _ hP hS (lv_sub hl [0, 1, 2] rfl)
      · replace hf := fp_f c_1 hf
        refine lv_ldc2 hx hb hown (hts (.constantLong RX5 218 (31)) (by decide +kernel)) dX5_hashOfPersons_22 ?_
        refine lv_lload_n hx hb dX5_hashOfPersons_25 rfl (lv_at hl 1 rfl) ?_
        refine lv_lmul hx hb dX5_hashOfPersons_26 ?_
        refine lv_aload_n hx hb dX5_hashOfPersons_27 rfl (lv_at hl 0 rfl) ?_
        refine va_get (D := X.1) (ci := 5) (v := .ref (hh 0)) (C := RX5) (T := TX5) (N := 5) hx hb hts hiX5 hown hK.1 hP 0 rfl rfl 0 (by decide) k10 (fun _ h9 => h9) rfl dX5_hashOfPersons_28 ?_
        refine lv_iload hx hb dX5_hashOfPersons_31 (lv_at hl 2 rfl) ?_
        refine lv_iload hx hb dX5_hashOfPersons_33 (lv_at hl 3 rfl) ?_
        obtain ⟨r_2, hc_3, hf⟩ := bd_of hf
        refine fn_V (v := some (.int r_2)) (As := [.int x5, .int x6]) (rest := [.long ((31 : Int64) * x3)]) (st1 := [.int r_2, .long ((31 : Int64) * x3)]) (ws' := (wLR X x0 hh ht ch tx y hy rP fP rT fT rG fG rL fL rH fH gi di re ti rPT fPT rTT fTT rGT fGT rLT fLT rHT fHT giT diT reT tiT rS fS rB fB rO fO pl fa cn ro Qh)) (nL := 7) ⟨hx, hb, hml, hown, hts⟩ (c_X2_aboutPerson l X hh rP fP rT fT rG fG rL fL rH fH gi di re ti x5 x6 r_2 hc_3) (cwV 2 hts gX5_hashOfPersons_X2_aboutPerson rfl rfl rfl (by decide +kernel) ⟨Nat.le_of_ble_eq_true rfl, Nat.le_of_ble_eq_true rfl⟩) 2 rfl rfl rfl rfl hl.1 rfl (Nat.le_of_ble_eq_true rfl) dX5_hashOfPersons_35 hK hP (hD0.addr (wLR_fst.trans wLR_fst.symm)) hS hA [1, 2, 3, 4, 5, 6, 7, 8, 9, 10, 11] (by decide +kernel) lC_h (pt_setid _ _ _ lC_h) rfl ⟨Nat.zero_le _, Nat.zero_le _⟩ (fun H locs hP hD hS => ?_)
        refine lv_i2l (v := r_2.toInt64) hx hb dX5_hashOfPersons_38 rfl ?_
        refine lv_ladd hx hb dX5_hashOfPersons_39 ?_
        refine lv_topl (fun v_4 ev_4 => ?_)
        replace hf := nm_of ev_4 hf
        refine lv_lstore_n (lv' := [(3, .long v_4), (0, .ref (x0)), (5, .int x5), (6, .int x6)]) hx hb dX5_hashOfPersons_40 rfl hl (by decide) rfl (fun ls hl => ?_)
        obtain ⟨v_5, ev_5⟩ : ∃ y : Int32, y = x6 + (1 : Int32) := ⟨_, rfl⟩
        replace hf := nm_of ev_5 hf
        refine lv_iinc (v := v_5) (lv' := [(6, .int v_5), (3, .long v_4), (0, .ref (x0)), (5, .int x5)]) hx hb dX5_hashOfPersons_41 hl (k := 3) rfl (by rw [ev_5]; rfl) (by decide) rfl (fun ls hl => ?_)
        refine lv_goto (tgt := 15) hx hb dX5_hashOfPersons_44 (by decide) ?_
        exact ih v_4 v_5 _ _ _ hf hP hS (lv_sub hl [2, 1, 3, 0] rfl)
  have loop_5 : ∀ (Q : State → Prop) (y3 : Int64), (∀ (H : Heap) (locs : List Loc) (ls : Array Slot), va_P X.1 vwCl (wLR X x0 hh ht ch tx y hy rP fP rT fT rG fG rL fL rH fH gi di re ti rPT fPT rTT fTT rGT fGT rLT fLT rHT fHT giT diT reT tiT rS fS rB fB rO fO pl fa cn ro Qh) H → va_S A s.heap H locs → lv_has ls 7 [(3, .long y3)] → W p l e ({ frames := 3, cells := 0, slots := 0, locals := 70 } : Room) s m args below meth c H locs 0 0 Q (F0 m 53 ls [])) → ∀ (k_ : Nat) (x3 : Int64) (x5 : Int32) (H : Heap) (locs : List Loc) (ls : Array Slot), f_X5_hashOfPersons_L5 rP fP rT fT rG fG rH fH k_ x3 x5 = some y3 → va_P X.1 vwCl (wLR X x0 hh ht ch tx y hy rP fP rT fT rG fG rL fL rH fH gi di re ti rPT fPT rTT fTT rGT fGT rLT fLT rHT fHT giT diT reT tiT rS fS rB fB rO fO pl fa cn ro Qh) H → va_S A s.heap H locs → lv_has ls 7 [(0, .ref (x0)), (3, .long x3), (5, .int x5)] → W p l e ({ frames := 3, cells := 0, slots := 0, locals := 70 } : Room) s m args below meth c H locs 0 0 Q (F0 m 5 ls []) := by
    intro Q y3 kx k_
    induction k_ with
    | zero => intro x3 x5 H locs ls hf; exact nomatch (show (none : Option (Int64)) = some _ from hf)
    | succ k_ ih =>
      intro x3 x5 H locs ls hf hP hS hl
      unfold f_X5_hashOfPersons_L5 at hf
      refine lv_iload hx hb dX5_hashOfPersons_5 (lv_at hl 2 rfl) ?_
      refine lv_bipush (v := 10) hx hb dX5_hashOfPersons_7 (by decide) ?_
      refine lv_icmp_ge (tgt := 53) hx hb dX5_hashOfPersons_9 (by decide) (fun c_6 => ?_) (fun c_6 => ?_)
      · replace hf := fp_t c_6 hf
        cases hf
        exact kx _ _ _ hP hS (lv_sub hl [1] rfl)
      · replace hf := fp_f c_6 hf
        refine lv_iconst (v := 0) hx hb dX5_hashOfPersons_12 (by decide) ?_
        refine lv_istore (lv' := [(6, .int (0 : Int32)), (0, .ref (x0)), (3, .long x3), (5, .int x5)]) hx hb dX5_hashOfPersons_13 hl (by decide) rfl (fun ls hl => ?_)
        obtain ⟨y3_7, hL_8, hf⟩ := bd_of hf
        refine loop_15 _ x5 y3_7 (fun H locs ls hP hS hl => ?_) FU x3 (0 : Int32) _ _ _ hL_8 hP hS (lv_sub hl [1, 2, 3, 0] rfl)
        obtain ⟨v_9, ev_9⟩ : ∃ y : Int32, y = x5 + (1 : Int32) := ⟨_, rfl⟩
        replace hf := nm_of ev_9 hf
        refine lv_iinc (v := v_9) (lv' := [(5, .int v_9), (0, .ref (x0)), (3, .long y3_7)]) hx hb dX5_hashOfPersons_47 hl (k := 2) rfl (by rw [ev_9]; rfl) (by decide) rfl (fun ls hl => ?_)
        refine lv_goto (tgt := 5) hx hb dX5_hashOfPersons_50 (by decide) ?_
        exact ih y3_7 v_9 _ _ _ hf hP hS (lv_sub hl [1, 2, 0] rfl)
  unfold f_X5_hashOfPersons at hf
  refine lv_lload_n hx hb dX5_hashOfPersons_0 rfl (lv_at hl 1 rfl) ?_
  refine lv_lstore_n (lv' := [(3, .long x1), (0, .ref (x0)), (1, .long x1)]) hx hb dX5_hashOfPersons_1 rfl hl (by decide) rfl (fun ls hl => ?_)
  refine lv_iconst (v := 0) hx hb dX5_hashOfPersons_2 (by decide) ?_
  refine lv_istore (lv' := [(5, .int (0 : Int32)), (3, .long x1), (0, .ref (x0)), (1, .long x1)]) hx hb dX5_hashOfPersons_3 hl (by decide) rfl (fun ls hl => ?_)
  obtain ⟨y3_10, hL_11, hf⟩ := bd_of hf
  refine loop_5 _ y3_10 (fun H locs ls hP hS hl => ?_) FU x1 (0 : Int32) _ _ _ hL_11 hP hS (lv_sub hl [2, 1, 0] rfl)
  refine lv_lload_n hx hb dX5_hashOfPersons_53 rfl (lv_at hl 0 rfl) ?_
  cases hf
  exact fn_lret hx hb hr hlocks hP hS dX5_hashOfPersons_54

def f_X5_hashOfThings_L23 (x5 : Int32) (rT : Int32) (fT : (Nat → Int32)) (rG : Int32) (fG : (Nat → Int32)) (rH : Int32) (fH : (Nat → Int32)) : Nat → Int64 → Int32 →  Option (Int64)
  | 0, _, _ => none
  | k_ + 1, x3, x6 =>
    if (5 : Int32) < x6 then
    (some x3)
    else
    (bd (f_X2_aboutThing x5 x6 rT fT rG fG rH fH) (fun r_2 =>
    nm (((31 : Int64) * x3) + r_2.toInt64) (fun v_4 =>
    nm (x6 + (1 : Int32)) (fun v_5 =>
    f_X5_hashOfThings_L23 x5 rT fT rG fG rH fH k_ v_4 v_5))))
def f_X5_hashOfThings_L5 (rT : Int32) (fT : (Nat → Int32)) (rG : Int32) (fG : (Nat → Int32)) (rH : Int32) (fH : (Nat → Int32)) : Nat → Int64 → Int32 →  Option (Int64)
  | 0, _, _ => none
  | k_ + 1, x3, x5 =>
    bd (f_X3_rows rT) (fun r_6 =>
    if r_6 ≤ x5 then
    (some x3)
    else
    (bd (f_X5_hashOfThings_L23 x5 rT fT rG fG rH fH FU x3 (0 : Int32)) (fun y3_9 =>
    nm (x5 + (1 : Int32)) (fun v_11 =>
    f_X5_hashOfThings_L5 rT fT rG fG rH fH k_ y3_9 v_11))))
def f_X5_hashOfThings (x1 : Int64) (rT : Int32) (fT : (Nat → Int32)) (rG : Int32) (fG : (Nat → Int32)) (rH : Int32) (fH : (Nat → Int32)) : Option (Int64) :=
  bd (f_X5_hashOfThings_L5 rT fT rG fG rH fH FU x1 (0 : Int32)) (fun y3_12 =>
  some y3_12)
set_option maxHeartbeats 4000000 in
set_option maxRecDepth 100000 in
theorem c_X5_hashOfThings (l : Launch) (X : cx_G) (x0 : Nat) (hh : (Nat → Nat)) (ht : (Nat → Nat)) (ch : (Nat → Nat)) (tx : (Nat → Nat)) (y : (Nat → Nat)) (hy : (Nat → Nat → Nat)) (rP : Int32) (fP : (Nat → Int32)) (rT : Int32) (fT : (Nat → Int32)) (rG : Int32) (fG : (Nat → Int32)) (rL : Int32) (fL : (Nat → Int32)) (rH : Int32) (fH : (Nat → Int32)) (gi : Int32) (di : Int32) (re : Int32) (ti : Int32) (rPT : Int32) (fPT : (Nat → Int32)) (rTT : Int32) (fTT : (Nat → Int32)) (rGT : Int32) (fGT : (Nat → Int32)) (rLT : Int32) (fLT : (Nat → Int32)) (rHT : Int32) (fHT : (Nat → Int32)) (giT : Int32) (diT : Int32) (reT : Int32) (tiT : Int32) (rS : Int32) (fS : (Nat → Int32)) (rB : Int32) (fB : (Nat → Int32)) (rO : Int32) (fO : (Nat → Int32)) (pl : Int32) (fa : Int32) (cn : Int32) (ro : Nat) (Qh : (Nat → HS)) (x1 : Int64) (r : Int64) (hf : f_X5_hashOfThings x1 rT fT rG fG rH fH = some r) : Fn l yX5_hashOfThings wsX5_hashOfThings ({ frames := 3, cells := 0, slots := 0, locals := 70 } : Room) X [.ref (x0), .long x1] (wLR X x0 hh ht ch tx y hy rP fP rT fT rG fG rL fL rH fH gi di re ti rPT fPT rTT fTT rGT fGT rLT fLT rHT fHT giT diT reT tiT rS fS rB fB rO fO pl fa cn ro Qh) (some (.long r)) (wLR X x0 hh ht ch tx y hy rP fP rT fT rG fG rL fL rH fH gi di re ti rPT fPT rTT fTT rGT fGT rLT fLT rHT fHT giT diT reT tiT rS fS rB fB rO fO pl fa cn ro Qh) := by
  refine fn_intro (cc := cX5_hashOfThings) (maxL := 7) (ret := (some .long)) (by decide) rfl rfl (Nat.le_of_ble_eq_true rfl) ?_
  intro p e s m args below meth c A ls hx hb hml hr hts hown hlocks hK hP hD0 hS hA hl
  have hown : s.vm.findClass RX5 = some m.cls := hown
  have hl : lv_has ls 7 [(0, .ref (x0)), (1, .long x1)] := hl
  have hiX2 : ∀ w ∈ u_ws RX2 TX2 9, w ∈ wsX5_hashOfThings := by decide +kernel
  have hiX5 : ∀ w ∈ u_ws RX5 TX5 5, w ∈ wsX5_hashOfThings := by decide +kernel
  have k10 := hts (.fieldLink RX5 10 "LentRights" "house" "LLentRights$House;") (by decide +kernel)
  have k47 := hts (.fieldLink RX5 47 "LentRights$House" "things" "LLentRights$Table;") (by decide +kernel)
  have loop_23 : ∀ (Q : State → Prop) (x5 : Int32) (y3 : Int64), (∀ (H : Heap) (locs : List Loc) (ls : Array Slot), va_P X.1 vwCl (wLR X x0 hh ht ch tx y hy rP fP rT fT rG fG rL fL rH fH gi di re ti rPT fPT rTT fTT rGT fGT rLT fLT rHT fHT giT diT reT tiT rS fS rB fB rO fO pl fa cn ro Qh) H → va_S A s.heap H locs → lv_has ls 7 [(0, .ref (x0)), (3, .long y3), (5, .int x5)] → W p l e ({ frames := 3, cells := 0, slots := 0, locals := 70 } : Room) s m args below meth c H locs 0 0 Q (F0 m 54 ls [])) → ∀ (k_ : Nat) (x3 : Int64) (x6 : Int32) (H : Heap) (locs : List Loc) (ls : Array Slot), f_X5_hashOfThings_L23 x5 rT fT rG fG rH fH k_ x3 x6 = some y3 → va_P X.1 vwCl (wLR X x0 hh ht ch tx y hy rP fP rT fT rG fG rL fL rH fH gi di re ti rPT fPT rTT fTT rGT fGT rLT fLT rHT fHT giT diT reT tiT rS fS rB fB rO fO pl fa cn ro Qh) H → va_S A s.heap H locs → lv_has ls 7 [(0, .ref (x0)), (3, .long x3), (5, .int x5), (6, .int x6)] → W p l e ({ frames := 3, cells := 0, slots := 0, locals := 70 } : Room) s m args below meth c H locs 0 0 Q (F0 m 23 ls []) := by
    intro Q x5 y3 kx k_
    induction k_ with
    | zero => intro x3 x6 H locs ls hf; exact nomatch (show (none : Option (Int64)) = some _ from hf)
    | succ k_ ih =>
      intro x3 x6 H locs ls hf hP hS hl
      unfold f_X5_hashOfThings_L23 at hf
      refine lv_iload hx hb dX5_hashOfThings_23 (lv_at hl 3 rfl) ?_
      refine lv_iconst (v := 5) hx hb dX5_hashOfThings_25 (by decide) ?_
      refine lv_icmp_gt (tgt := 54) hx hb dX5_hashOfThings_26 (by decide) (fun c_1 => ?_) (fun c_1 => ?_)
      · replace hf := fp_t c_1 hf
        cases hf
        exact kx _ _ _ hP hS (lv_sub hl [0, 1, 2] rfl)
      · replace hf := fp_f c_1 hf
        refine lv_ldc2 hx hb hown (hts (.constantLong RX5 218 (31)) (by decide +kernel)) dX5_hashOfThings_29 ?_
        refine lv_lload_n hx hb dX5_hashOfThings_32 rfl (lv_at hl 1 rfl) ?_
        refine lv_lmul hx hb dX5_hashOfThings_33 ?_
        refine lv_aload_n hx hb dX5_hashOfThings_34 rfl (lv_at hl 0 rfl) ?_
        refine va_get (D := X.1) (ci := 5) (v := .ref (hh 0)) (C := RX5) (T := TX5) (N := 5) hx hb hts hiX5 hown hK.1 hP 0 rfl rfl 0 (by decide) k10 (fun _ h9 => h9) rfl dX5_hashOfThings_35 ?_
        refine lv_iload hx hb dX5_hashOfThings_38 (lv_at hl 2 rfl) ?_
        refine lv_iload hx hb dX5_hashOfThings_40 (lv_at hl 3 rfl) ?_
        obtain ⟨r_2, hc_3, hf⟩ := bd_of hf
        refine fn_V (v := some (.int r_2)) (As := [.int x5, .int x6]) (rest := [.long ((31 : Int64) * x3)]) (st1 := [.int r_2, .long ((31 : Int64) * x3)]) (ws' := (wLR X x0 hh ht ch tx y hy rP fP rT fT rG fG rL fL rH fH gi di re ti rPT fPT rTT fTT rGT fGT rLT fLT rHT fHT giT diT reT tiT rS fS rB fB rO fO pl fa cn ro Qh)) (nL := 7) ⟨hx, hb, hml, hown, hts⟩ (c_X2_aboutThing l X hh rP fP rT fT rG fG rL fL rH fH gi di re ti x5 x6 r_2 hc_3) (cwV 2 hts gX5_hashOfThings_X2_aboutThing rfl rfl rfl (by decide +kernel) ⟨Nat.le_of_ble_eq_true rfl, Nat.le_of_ble_eq_true rfl⟩) 2 rfl rfl rfl rfl hl.1 rfl (Nat.le_of_ble_eq_true rfl) dX5_hashOfThings_42 hK hP (hD0.addr (wLR_fst.trans wLR_fst.symm)) hS hA [1, 2, 3, 4, 5, 6, 7, 8, 9, 10, 11] (by decide +kernel) lC_h (pt_setid _ _ _ lC_h) rfl ⟨Nat.zero_le _, Nat.zero_le _⟩ (fun H locs hP hD hS => ?_)
        refine lv_i2l (v := r_2.toInt64) hx hb dX5_hashOfThings_45 rfl ?_
        refine lv_ladd hx hb dX5_hashOfThings_46 ?_
        refine lv_topl (fun v_4 ev_4 => ?_)
        replace hf := nm_of ev_4 hf
        refine lv_lstore_n (lv' := [(3, .long v_4), (0, .ref (x0)), (5, .int x5), (6, .int x6)]) hx hb dX5_hashOfThings_47 rfl hl (by decide) rfl (fun ls hl => ?_)
        obtain ⟨v_5, ev_5⟩ : ∃ y : Int32, y = x6 + (1 : Int32) := ⟨_, rfl⟩
        replace hf := nm_of ev_5 hf
        refine lv_iinc (v := v_5) (lv' := [(6, .int v_5), (3, .long v_4), (0, .ref (x0)), (5, .int x5)]) hx hb dX5_hashOfThings_48 hl (k := 3) rfl (by rw [ev_5]; rfl) (by decide) rfl (fun ls hl => ?_)
        refine lv_goto (tgt := 23) hx hb dX5_hashOfThings_51 (by decide) ?_
        exact ih v_4 v_5 _ _ _ hf hP hS (lv_sub hl [2, 1, 3, 0] rfl)
  have loop_5 : ∀ (Q : State → Prop) (y3 : Int64), (∀ (H : Heap) (locs : List Loc) (ls : Array Slot), va_P X.1 vwCl (wLR X x0 hh ht ch tx y hy rP fP rT fT rG fG rL fL rH fH gi di re ti rPT fPT rTT fTT rGT fGT rLT fLT rHT fHT giT diT reT tiT rS fS rB fB rO fO pl fa cn ro Qh) H → va_S A s.heap H locs → lv_has ls 7 [(3, .long y3)] → W p l e ({ frames := 3, cells := 0, slots := 0, locals := 70 } : Room) s m args below meth c H locs 0 0 Q (F0 m 60 ls [])) → ∀ (k_ : Nat) (x3 : Int64) (x5 : Int32) (H : Heap) (locs : List Loc) (ls : Array Slot), f_X5_hashOfThings_L5 rT fT rG fG rH fH k_ x3 x5 = some y3 → va_P X.1 vwCl (wLR X x0 hh ht ch tx y hy rP fP rT fT rG fG rL fL rH fH gi di re ti rPT fPT rTT fTT rGT fGT rLT fLT rHT fHT giT diT reT tiT rS fS rB fB rO fO pl fa cn ro Qh) H → va_S A s.heap H locs → lv_has ls 7 [(0, .ref (x0)), (3, .long x3), (5, .int x5)] → W p l e ({ frames := 3, cells := 0, slots := 0, locals := 70 } : Room) s m args below meth c H locs 0 0 Q (F0 m 5 ls []) := by
    intro Q y3 kx k_
    induction k_ with
    | zero => intro x3 x5 H locs ls hf; exact nomatch (show (none : Option (Int64)) = some _ from hf)
    | succ k_ ih =>
      intro x3 x5 H locs ls hf hP hS hl
      unfold f_X5_hashOfThings_L5 at hf
      refine lv_iload hx hb dX5_hashOfThings_5 (lv_at hl 2 rfl) ?_
      refine lv_aload_n hx hb dX5_hashOfThings_7 rfl (lv_at hl 0 rfl) ?_
      refine va_get (D := X.1) (ci := 5) (v := .ref (hh 0)) (C := RX5) (T := TX5) (N := 5) hx hb hts hiX5 hown hK.1 hP 0 rfl rfl 0 (by decide) k10 (fun _ h9 => h9) rfl dX5_hashOfThings_8 ?_
      refine va_get (D := X.1) (ci := 2) (v := .ref (hh 3)) (C := RX2) (T := TX2) (N := 9) hx hb hts hiX2 hown hK.1 hP 1 rfl rfl 1 (by decide) k47 (fun _ h9 => h9) rfl dX5_hashOfThings_11 ?_
      obtain ⟨r_6, hc_7, hf⟩ := bd_of hf
      refine fn_V (v := some (.int r_6)) (As := []) (rest := [.int x5]) (st1 := [.int r_6, .int x5]) (ws' := (wLR X x0 hh ht ch tx y hy rP fP rT fT rG fG rL fL rH fH gi di re ti rPT fPT rTT fTT rGT fGT rLT fLT rHT fHT giT diT reT tiT rS fS rB fB rO fO pl fa cn ro Qh)) (nL := 7) ⟨hx, hb, hml, hown, hts⟩ (c_X3_rows l X (hh 3) (hh 4) (8 : Int32) (2 : Int32) 16 rT fT r_6 hc_7) (cwV 0 hts gX5_hashOfThings_X3_rows rfl rfl rfl (by decide +kernel) ⟨Nat.le_of_ble_eq_true rfl, Nat.le_of_ble_eq_true rfl⟩) 3 rfl rfl rfl rfl hl.1 rfl (Nat.le_of_ble_eq_true rfl) dX5_hashOfThings_14 hK hP (hD0.addr (wLR_fst.trans wLR_fst.symm)) hS hA [4, 5] (by decide +kernel) rfl (pt_setid _ _ _ rfl) rfl ⟨Nat.zero_le _, Nat.zero_le _⟩ (fun H locs hP hD hS => ?_)
      refine lv_icmp_ge (tgt := 60) hx hb dX5_hashOfThings_17 (by decide) (fun c_8 => ?_) (fun c_8 => ?_)
      · replace hf := fp_t c_8 hf
        cases hf
        exact kx _ _ _ hP hS (lv_sub hl [1] rfl)
      · replace hf := fp_f c_8 hf
        refine lv_iconst (v := 0) hx hb dX5_hashOfThings_20 (by decide) ?_
        refine lv_istore (lv' := [(6, .int (0 : Int32)), (0, .ref (x0)), (3, .long x3), (5, .int x5)]) hx hb dX5_hashOfThings_21 hl (by decide) rfl (fun ls hl => ?_)
        obtain ⟨y3_9, hL_10, hf⟩ := bd_of hf
        refine loop_23 _ x5 y3_9 (fun H locs ls hP hS hl => ?_) FU x3 (0 : Int32) _ _ _ hL_10 hP hS (lv_sub hl [1, 2, 3, 0] rfl)
        obtain ⟨v_11, ev_11⟩ : ∃ y : Int32, y = x5 + (1 : Int32) := ⟨_, rfl⟩
        replace hf := nm_of ev_11 hf
        refine lv_iinc (v := v_11) (lv' := [(5, .int v_11), (0, .ref (x0)), (3, .long y3_9)]) hx hb dX5_hashOfThings_54 hl (k := 2) rfl (by rw [ev_11]; rfl) (by decide) rfl (fun ls hl => ?_)
        refine lv_goto (tgt := 5) hx hb dX5_hashOfThings_57 (by decide) ?_
        exact ih y3_9 v_11 _ _ _ hf hP hS (lv_sub hl [1, 2, 0] rfl)
  unfold f_X5_hashOfThings at hf
  refine lv_lload_n hx hb dX5_hashOfThings_0 rfl (lv_at hl 1 rfl) ?_
  refine lv_lstore_n (lv' := [(3, .long x1), (0, .ref (x0)), (1, .long x1)]) hx hb dX5_hashOfThings_1 rfl hl (by decide) rfl (fun ls hl => ?_)
  refine lv_iconst (v := 0) hx hb dX5_hashOfThings_2 (by decide) ?_
  refine lv_istore (lv' := [(5, .int (0 : Int32)), (3, .long x1), (0, .ref (x0)), (1, .long x1)]) hx hb dX5_hashOfThings_3 hl (by decide) rfl (fun ls hl => ?_)
  obtain ⟨y3_12, hL_13, hf⟩ := bd_of hf
  refine loop_5 _ y3_12 (fun H locs ls hP hS hl => ?_) FU x1 (0 : Int32) _ _ _ hL_13 hP hS (lv_sub hl [2, 1, 0] rfl)
  refine lv_lload_n hx hb dX5_hashOfThings_60 rfl (lv_at hl 0 rfl) ?_
  cases hf
  exact fn_lret hx hb hr hlocks hP hS dX5_hashOfThings_61

def f_X5_hashOfGrants_L44 (x5 : Int32) (rT : Int32) (fT : (Nat → Int32)) (rG : Int32) (fG : (Nat → Int32)) (rH : Int32) (fH : (Nat → Int32)) : Nat → Int64 → Int32 →  Option (Int64)
  | 0, _, _ => none
  | k_ + 1, x3, x6 =>
    if (5 : Int32) < x6 then
    (some x3)
    else
    (bd (f_X2_aboutGrant x5 x6 rT fT rG fG rH fH) (fun r_2 =>
    nm (((31 : Int64) * x3) + r_2.toInt64) (fun v_4 =>
    nm (x6 + (1 : Int32)) (fun v_5 =>
    f_X5_hashOfGrants_L44 x5 rT fT rG fG rH fH k_ v_4 v_5))))
def f_X5_hashOfGrants_L5 (rT : Int32) (fT : (Nat → Int32)) (rG : Int32) (fG : (Nat → Int32)) (rH : Int32) (fH : (Nat → Int32)) : Nat → Int64 → Int32 →  Option (Int64)
  | 0, _, _ => none
  | k_ + 1, x3, x5 =>
    bd (f_X3_rows rG) (fun r_6 =>
    if r_6 ≤ x5 then
    (some x3)
    else
    (bd (f_X3_at (6 : Int32) 240 x5 (5 : Int32) rG fG) (fun r_9 =>
    nm (((31 : Int64) * x3) + r_9.toInt64) (fun v_11 =>
    bd (f_X5_hashOfGrants_L44 x5 rT fT rG fG rH fH FU v_11 (0 : Int32)) (fun y3_12 =>
    nm (x5 + (1 : Int32)) (fun v_14 =>
    f_X5_hashOfGrants_L5 rT fT rG fG rH fH k_ y3_12 v_14))))))
def f_X5_hashOfGrants (x1 : Int64) (rT : Int32) (fT : (Nat → Int32)) (rG : Int32) (fG : (Nat → Int32)) (rH : Int32) (fH : (Nat → Int32)) : Option (Int64) :=
  bd (f_X5_hashOfGrants_L5 rT fT rG fG rH fH FU x1 (0 : Int32)) (fun y3_15 =>
  some y3_15)
set_option maxHeartbeats 4000000 in
set_option maxRecDepth 100000 in
theorem c_X5_hashOfGrants (l : Launch) (X : cx_G) (x0 : Nat) (hh : (Nat → Nat)) (ht : (Nat → Nat)) (ch : (Nat → Nat)) (tx : (Nat → Nat)) (y : (Nat → Nat)) (hy : (Nat → Nat → Nat)) (rP : Int32) (fP : (Nat → Int32)) (rT : Int32) (fT : (Nat → Int32)) (rG : Int32) (fG : (Nat → Int32)) (rL : Int32) (fL : (Nat → Int32)) (rH : Int32) (fH : (Nat → Int32)) (gi : Int32) (di : Int32) (re : Int32) (ti : Int32) (rPT : Int32) (fPT : (Nat → Int32)) (rTT : Int32) (fTT : (Nat → Int32)) (rGT : Int32) (fGT : (Nat → Int32)) (rLT : Int32) (fLT : (Nat → Int32)) (rHT : Int32) (fHT : (Nat → Int32)) (giT : Int32) (diT : Int32) (reT : Int32) (tiT : Int32) (rS : Int32) (fS : (Nat → Int32)) (rB : Int32) (fB : (Nat → Int32)) (rO : Int32) (fO : (Nat → Int32)) (pl : Int32) (fa : Int32) (cn : Int32) (ro : Nat) (Qh : (Nat → HS)) (x1 : Int64) (r : Int64) (hf : f_X5_hashOfGrants x1 rT fT rG fG rH fH = some r) : Fn l yX5_hashOfGrants wsX5_hashOfGrants ({ frames := 3, cells := 0, slots := 0, locals := 69 } : Room) X [.ref (x0), .long x1] (wLR X x0 hh ht ch tx y hy rP fP rT fT rG fG rL fL rH fH gi di re ti rPT fPT rTT fTT rGT fGT rLT fLT rHT fHT giT diT reT tiT rS fS rB fB rO fO pl fa cn ro Qh) (some (.long r)) (wLR X x0 hh ht ch tx y hy rP fP rT fT rG fG rL fL rH fH gi di re ti rPT fPT rTT fTT rGT fGT rLT fLT rHT fHT giT diT reT tiT rS fS rB fB rO fO pl fa cn ro Qh) := by
  refine fn_intro (cc := cX5_hashOfGrants) (maxL := 7) (ret := (some .long)) (by decide) rfl rfl (Nat.le_of_ble_eq_true rfl) ?_
  intro p e s m args below meth c A ls hx hb hml hr hts hown hlocks hK hP hD0 hS hA hl
  have hown : s.vm.findClass RX5 = some m.cls := hown
  have hl : lv_has ls 7 [(0, .ref (x0)), (1, .long x1)] := hl
  have hiX2 : ∀ w ∈ u_ws RX2 TX2 9, w ∈ wsX5_hashOfGrants := by decide +kernel
  have hiX5 : ∀ w ∈ u_ws RX5 TX5 5, w ∈ wsX5_hashOfGrants := by decide +kernel
  have k10 := hts (.fieldLink RX5 10 "LentRights" "house" "LLentRights$House;") (by decide +kernel)
  have k233 := hts (.fieldLink RX5 233 "LentRights$House" "grants" "LLentRights$Table;") (by decide +kernel)
  have loop_44 : ∀ (Q : State → Prop) (x5 : Int32) (y3 : Int64), (∀ (H : Heap) (locs : List Loc) (ls : Array Slot), va_P X.1 vwCl (wLR X x0 hh ht ch tx y hy rP fP rT fT rG fG rL fL rH fH gi di re ti rPT fPT rTT fTT rGT fGT rLT fLT rHT fHT giT diT reT tiT rS fS rB fB rO fO pl fa cn ro Qh) H → va_S A s.heap H locs → lv_has ls 7 [(0, .ref (x0)), (3, .long y3), (5, .int x5)] → W p l e ({ frames := 3, cells := 0, slots := 0, locals := 69 } : Room) s m args below meth c H locs 0 0 Q (F0 m 75 ls [])) → ∀ (k_ : Nat) (x3 : Int64) (x6 : Int32) (H : Heap) (locs : List Loc) (ls : Array Slot), f_X5_hashOfGrants_L44 x5 rT fT rG fG rH fH k_ x3 x6 = some y3 → va_P X.1 vwCl (wLR X x0 hh ht ch tx y hy rP fP rT fT rG fG rL fL rH fH gi di re ti rPT fPT rTT fTT rGT fGT rLT fLT rHT fHT giT diT reT tiT rS fS rB fB rO fO pl fa cn ro Qh) H → va_S A s.heap H locs → lv_has ls 7 [(0, .ref (x0)), (3, .long x3), (5, .int x5), (6, .int x6)] → W p l e ({ frames := 3, cells := 0, slots := 0, locals := 69 } : Room) s m args below meth c H locs 0 0 Q (F0 m 44 ls []) := by
    intro Q x5 y3 kx k_
    induction k_ with
    | zero => intro x3 x6 H locs ls hf; exact nomatch (show (none : Option (Int64)) = some _ from hf)
    | succ k_ ih =>
      intro x3 x6 H locs ls hf hP hS hl
      unfold f_X5_hashOfGrants_L44 at hf
      refine lv_iload hx hb dX5_hashOfGrants_44 (lv_at hl 3 rfl) ?_
      refine lv_iconst (v := 5) hx hb dX5_hashOfGrants_46 (by decide) ?_
      refine lv_icmp_gt (tgt := 75) hx hb dX5_hashOfGrants_47 (by decide) (fun c_1 => ?_) (fun c_1 => ?_)
      · replace hf := fp_t c_1 hf
        cases hf
        exact kx _ _ _ hP hS (lv_sub hl [0, 1, 2] rfl)
      · replace hf := fp_f c_1 hf
        refine lv_ldc2 hx hb hown (hts (.constantLong RX5 218 (31)) (by decide +kernel)) dX5_hashOfGrants_50 ?_
        refine lv_lload_n hx hb dX5_hashOfGrants_53 rfl (lv_at hl 1 rfl) ?_
        refine lv_lmul hx hb dX5_hashOfGrants_54 ?_
        refine lv_aload_n hx hb dX5_hashOfGrants_55 rfl (lv_at hl 0 rfl) ?_
        refine va_get (D := X.1) (ci := 5) (v := .ref (hh 0)) (C := RX5) (T := TX5) (N := 5) hx hb hts hiX5 hown hK.1 hP 0 rfl rfl 0 (by decide) k10 (fun _ h9 => h9) rfl dX5_hashOfGrants_56 ?_
        refine lv_iload hx hb dX5_hashOfGrants_59 (lv_at hl 2 rfl) ?_
        refine lv_iload hx hb dX5_hashOfGrants_61 (lv_at hl 3 rfl) ?_
        obtain ⟨r_2, hc_3, hf⟩ := bd_of hf
        refine fn_V (v := some (.int r_2)) (As := [.int x5, .int x6]) (rest := [.long ((31 : Int64) * x3)]) (st1 := [.int r_2, .long ((31 : Int64) * x3)]) (ws' := (wLR X x0 hh ht ch tx y hy rP fP rT fT rG fG rL fL rH fH gi di re ti rPT fPT rTT fTT rGT fGT rLT fLT rHT fHT giT diT reT tiT rS fS rB fB rO fO pl fa cn ro Qh)) (nL := 7) ⟨hx, hb, hml, hown, hts⟩ (c_X2_aboutGrant l X hh rP fP rT fT rG fG rL fL rH fH gi di re ti x5 x6 r_2 hc_3) (cwV 2 hts gX5_hashOfGrants_X2_aboutGrant rfl rfl rfl (by decide +kernel) ⟨Nat.le_of_ble_eq_true rfl, Nat.le_of_ble_eq_true rfl⟩) 2 rfl rfl rfl rfl hl.1 rfl (Nat.le_of_ble_eq_true rfl) dX5_hashOfGrants_63 hK hP (hD0.addr (wLR_fst.trans wLR_fst.symm)) hS hA [1, 2, 3, 4, 5, 6, 7, 8, 9, 10, 11] (by decide +kernel) lC_h (pt_setid _ _ _ lC_h) rfl ⟨Nat.zero_le _, Nat.zero_le _⟩ (fun H locs hP hD hS => ?_)
        refine lv_i2l (v := r_2.toInt64) hx hb dX5_hashOfGrants_66 rfl ?_
        refine lv_ladd hx hb dX5_hashOfGrants_67 ?_
        refine lv_topl (fun v_4 ev_4 => ?_)
        replace hf := nm_of ev_4 hf
        refine lv_lstore_n (lv' := [(3, .long v_4), (0, .ref (x0)), (5, .int x5), (6, .int x6)]) hx hb dX5_hashOfGrants_68 rfl hl (by decide) rfl (fun ls hl => ?_)
        obtain ⟨v_5, ev_5⟩ : ∃ y : Int32, y = x6 + (1 : Int32) := ⟨_, rfl⟩
        replace hf := nm_of ev_5 hf
        refine lv_iinc (v := v_5) (lv' := [(6, .int v_5), (3, .long v_4), (0, .ref (x0)), (5, .int x5)]) hx hb dX5_hashOfGrants_69 hl (k := 3) rfl (by rw [ev_5]; rfl) (by decide) rfl (fun ls hl => ?_)
        refine lv_goto (tgt := 44) hx hb dX5_hashOfGrants_72 (by decide) ?_
        exact ih v_4 v_5 _ _ _ hf hP hS (lv_sub hl [2, 1, 3, 0] rfl)
  have loop_5 : ∀ (Q : State → Prop) (y3 : Int64), (∀ (H : Heap) (locs : List Loc) (ls : Array Slot), va_P X.1 vwCl (wLR X x0 hh ht ch tx y hy rP fP rT fT rG fG rL fL rH fH gi di re ti rPT fPT rTT fTT rGT fGT rLT fLT rHT fHT giT diT reT tiT rS fS rB fB rO fO pl fa cn ro Qh) H → va_S A s.heap H locs → lv_has ls 7 [(3, .long y3)] → W p l e ({ frames := 3, cells := 0, slots := 0, locals := 69 } : Room) s m args below meth c H locs 0 0 Q (F0 m 81 ls [])) → ∀ (k_ : Nat) (x3 : Int64) (x5 : Int32) (H : Heap) (locs : List Loc) (ls : Array Slot), f_X5_hashOfGrants_L5 rT fT rG fG rH fH k_ x3 x5 = some y3 → va_P X.1 vwCl (wLR X x0 hh ht ch tx y hy rP fP rT fT rG fG rL fL rH fH gi di re ti rPT fPT rTT fTT rGT fGT rLT fLT rHT fHT giT diT reT tiT rS fS rB fB rO fO pl fa cn ro Qh) H → va_S A s.heap H locs → lv_has ls 7 [(0, .ref (x0)), (3, .long x3), (5, .int x5)] → W p l e ({ frames := 3, cells := 0, slots := 0, locals := 69 } : Room) s m args below meth c H locs 0 0 Q (F0 m 5 ls []) := by
    intro Q y3 kx k_
    induction k_ with
    | zero => intro x3 x5 H locs ls hf; exact nomatch (show (none : Option (Int64)) = some _ from hf)
    | succ k_ ih =>
      intro x3 x5 H locs ls hf hP hS hl
      unfold f_X5_hashOfGrants_L5 at hf
      refine lv_iload hx hb dX5_hashOfGrants_5 (lv_at hl 2 rfl) ?_
      refine lv_aload_n hx hb dX5_hashOfGrants_7 rfl (lv_at hl 0 rfl) ?_
      refine va_get (D := X.1) (ci := 5) (v := .ref (hh 0)) (C := RX5) (T := TX5) (N := 5) hx hb hts hiX5 hown hK.1 hP 0 rfl rfl 0 (by decide) k10 (fun _ h9 => h9) rfl dX5_hashOfGrants_8 ?_
      refine va_get (D := X.1) (ci := 2) (v := .ref (hh 5)) (C := RX2) (T := TX2) (N := 9) hx hb hts hiX2 hown hK.1 hP 1 rfl rfl 2 (by decide) k233 (fun _ h9 => h9) rfl dX5_hashOfGrants_11 ?_
      obtain ⟨r_6, hc_7, hf⟩ := bd_of hf
      refine fn_V (v := some (.int r_6)) (As := []) (rest := [.int x5]) (st1 := [.int r_6, .int x5]) (ws' := (wLR X x0 hh ht ch tx y hy rP fP rT fT rG fG rL fL rH fH gi di re ti rPT fPT rTT fTT rGT fGT rLT fLT rHT fHT giT diT reT tiT rS fS rB fB rO fO pl fa cn ro Qh)) (nL := 7) ⟨hx, hb, hml, hown, hts⟩ (c_X3_rows l X (hh 5) (hh 6) (40 : Int32) (6 : Int32) 240 rG fG r_6 hc_7) (cwV 0 hts gX5_hashOfGrants_X3_rows rfl rfl rfl (by decide +kernel) ⟨Nat.le_of_ble_eq_true rfl, Nat.le_of_ble_eq_true rfl⟩) 3 rfl rfl rfl rfl hl.1 rfl (Nat.le_of_ble_eq_true rfl) dX5_hashOfGrants_14 hK hP (hD0.addr (wLR_fst.trans wLR_fst.symm)) hS hA [6, 7] (by decide +kernel) rfl (pt_setid _ _ _ rfl) rfl ⟨Nat.zero_le _, Nat.zero_le _⟩ (fun H locs hP hD hS => ?_)
      refine lv_icmp_ge (tgt := 81) hx hb dX5_hashOfGrants_17 (by decide) (fun c_8 => ?_) (fun c_8 => ?_)
      · replace hf := fp_t c_8 hf
        cases hf
        exact kx _ _ _ hP hS (lv_sub hl [1] rfl)
      · replace hf := fp_f c_8 hf
        refine lv_ldc2 hx hb hown (hts (.constantLong RX5 218 (31)) (by decide +kernel)) dX5_hashOfGrants_20 ?_
        refine lv_lload_n hx hb dX5_hashOfGrants_23 rfl (lv_at hl 1 rfl) ?_
        refine lv_lmul hx hb dX5_hashOfGrants_24 ?_
        refine lv_aload_n hx hb dX5_hashOfGrants_25 rfl (lv_at hl 0 rfl) ?_
        refine va_get (D := X.1) (ci := 5) (v := .ref (hh 0)) (C := RX5) (T := TX5) (N := 5) hx hb hts hiX5 hown hK.1 hP 0 rfl rfl 0 (by decide) k10 (fun _ h9 => h9) rfl dX5_hashOfGrants_26 ?_
        refine va_get (D := X.1) (ci := 2) (v := .ref (hh 5)) (C := RX2) (T := TX2) (N := 9) hx hb hts hiX2 hown hK.1 hP 1 rfl rfl 2 (by decide) k233 (fun _ h9 => h9) rfl dX5_hashOfGrants_29 ?_
        refine lv_iload hx hb dX5_hashOfGrants_32 (lv_at hl 2 rfl) ?_
        refine lv_iconst (v := 5) hx hb dX5_hashOfGrants_34 (by decide) ?_
        obtain ⟨r_9, hc_10, hf⟩ := bd_of hf
        refine fn_V (v := some (.int r_9)) (As := [.int x5, .int (5 : Int32)]) (rest := [.long ((31 : Int64) * x3)]) (st1 := [.int r_9, .long ((31 : Int64) * x3)]) (ws' := (wLR X x0 hh ht ch tx y hy rP fP rT fT rG fG rL fL rH fH gi di re ti rPT fPT rTT fTT rGT fGT rLT fLT rHT fHT giT diT reT tiT rS fS rB fB rO fO pl fa cn ro Qh)) (nL := 7) ⟨hx, hb, hml, hown, hts⟩ (c_X3_at l X (hh 5) (hh 6) (40 : Int32) (6 : Int32) 240 rG fG x5 (5 : Int32) r_9 hc_10) (cwV 2 hts gX5_hashOfGrants_X3_at rfl rfl rfl (by decide +kernel) ⟨Nat.le_of_ble_eq_true rfl, Nat.le_of_ble_eq_true rfl⟩) 3 rfl rfl rfl rfl hl.1 rfl (Nat.le_of_ble_eq_true rfl) dX5_hashOfGrants_35 hK hP (hD0.addr (wLR_fst.trans wLR_fst.symm)) hS hA [6, 7] (by decide +kernel) rfl (pt_setid _ _ _ rfl) rfl ⟨Nat.zero_le _, Nat.zero_le _⟩ (fun H locs hP hD hS => ?_)
        refine lv_i2l (v := r_9.toInt64) hx hb dX5_hashOfGrants_38 rfl ?_
        refine lv_ladd hx hb dX5_hashOfGrants_39 ?_
        refine lv_topl (fun v_11 ev_11 => ?_)
        replace hf := nm_of ev_11 hf
        refine lv_lstore_n (lv' := [(3, .long v_11), (0, .ref (x0)), (5, .int x5)]) hx hb dX5_hashOfGrants_40 rfl hl (by decide) rfl (fun ls hl => ?_)
        refine lv_iconst (v := 0) hx hb dX5_hashOfGrants_41 (by decide) ?_
        refine lv_istore (lv' := [(6, .int (0 : Int32)), (3, .long v_11), (0, .ref (x0)), (5, .int x5)]) hx hb dX5_hashOfGrants_42 hl (by decide) rfl (fun ls hl => ?_)
        obtain ⟨y3_12, hL_13, hf⟩ := bd_of hf
        refine loop_44 _ x5 y3_12 (fun H locs ls hP hS hl => ?_) FU v_11 (0 : Int32) _ _ _ hL_13 hP hS (lv_sub hl [2, 1, 3, 0] rfl)
        obtain ⟨v_14, ev_14⟩ : ∃ y : Int32, y = x5 + (1 : Int32) := ⟨_, rfl⟩
        replace hf := nm_of ev_14 hf
        refine lv_iinc (v := v_14) (lv' := [(5, .int v_14), (0, .ref (x0)), (3, .long y3_12)]) hx hb dX5_hashOfGrants_75 hl (k := 2) rfl (by rw [ev_14]; rfl) (by decide) rfl (fun ls hl => ?_)
        refine lv_goto (tgt := 5) hx hb dX5_hashOfGrants_78 (by decide) ?_
        exact ih y3_12 v_14 _ _ _ hf hP hS (lv_sub hl [1, 2, 0] rfl)
  unfold f_X5_hashOfGrants at hf
  refine lv_lload_n hx hb dX5_hashOfGrants_0 rfl (lv_at hl 1 rfl) ?_
  refine lv_lstore_n (lv' := [(3, .long x1), (0, .ref (x0)), (1, .long x1)]) hx hb dX5_hashOfGrants_1 rfl hl (by decide) rfl (fun ls hl => ?_)
  refine lv_iconst (v := 0) hx hb dX5_hashOfGrants_2 (by decide) ?_
  refine lv_istore (lv' := [(5, .int (0 : Int32)), (3, .long x1), (0, .ref (x0)), (1, .long x1)]) hx hb dX5_hashOfGrants_3 hl (by decide) rfl (fun ls hl => ?_)
  obtain ⟨y3_15, hL_16, hf⟩ := bd_of hf
  refine loop_5 _ y3_15 (fun H locs ls hP hS hl => ?_) FU x1 (0 : Int32) _ _ _ hL_16 hP hS (lv_sub hl [2, 1, 0] rfl)
  refine lv_lload_n hx hb dX5_hashOfGrants_81 rfl (lv_at hl 0 rfl) ?_
  cases hf
  exact fn_lret hx hb hr hlocks hP hS dX5_hashOfGrants_82

def f_X5_hashOfLog_L23 (x5 : Int32) (rL : Int32) (fL : (Nat → Int32)) : Nat → Int64 → Int32 →  Option (Int64)
  | 0, _, _ => none
  | k_ + 1, x3, x6 =>
    if (2 : Int32) < x6 then
    (some x3)
    else
    (bd (f_X2_aboutEntry x5 x6 rL fL) (fun r_2 =>
    nm (((31 : Int64) * x3) + r_2.toInt64) (fun v_4 =>
    nm (x6 + (1 : Int32)) (fun v_5 =>
    f_X5_hashOfLog_L23 x5 rL fL k_ v_4 v_5))))
def f_X5_hashOfLog_L5 (rL : Int32) (fL : (Nat → Int32)) : Nat → Int64 → Int32 →  Option (Int64)
  | 0, _, _ => none
  | k_ + 1, x3, x5 =>
    bd (f_X3_rows rL) (fun r_6 =>
    if r_6 ≤ x5 then
    (some x3)
    else
    (bd (f_X5_hashOfLog_L23 x5 rL fL FU x3 (0 : Int32)) (fun y3_9 =>
    nm (x5 + (1 : Int32)) (fun v_11 =>
    f_X5_hashOfLog_L5 rL fL k_ y3_9 v_11))))
def f_X5_hashOfLog (x1 : Int64) (rL : Int32) (fL : (Nat → Int32)) : Option (Int64) :=
  bd (f_X5_hashOfLog_L5 rL fL FU x1 (0 : Int32)) (fun y3_12 =>
  some y3_12)
set_option maxHeartbeats 4000000 in
set_option maxRecDepth 100000 in
theorem c_X5_hashOfLog (l : Launch) (X : cx_G) (x0 : Nat) (hh : (Nat → Nat)) (ht : (Nat → Nat)) (ch : (Nat → Nat)) (tx : (Nat → Nat)) (y : (Nat → Nat)) (hy : (Nat → Nat → Nat)) (rP : Int32) (fP : (Nat → Int32)) (rT : Int32) (fT : (Nat → Int32)) (rG : Int32) (fG : (Nat → Int32)) (rL : Int32) (fL : (Nat → Int32)) (rH : Int32) (fH : (Nat → Int32)) (gi : Int32) (di : Int32) (re : Int32) (ti : Int32) (rPT : Int32) (fPT : (Nat → Int32)) (rTT : Int32) (fTT : (Nat → Int32)) (rGT : Int32) (fGT : (Nat → Int32)) (rLT : Int32) (fLT : (Nat → Int32)) (rHT : Int32) (fHT : (Nat → Int32)) (giT : Int32) (diT : Int32) (reT : Int32) (tiT : Int32) (rS : Int32) (fS : (Nat → Int32)) (rB : Int32) (fB : (Nat → Int32)) (rO : Int32) (fO : (Nat → Int32)) (pl : Int32) (fa : Int32) (cn : Int32) (ro : Nat) (Qh : (Nat → HS)) (x1 : Int64) (r : Int64) (hf : f_X5_hashOfLog x1 rL fL = some r) : Fn l yX5_hashOfLog wsX5_hashOfLog ({ frames := 2, cells := 0, slots := 0, locals := 46 } : Room) X [.ref (x0), .long x1] (wLR X x0 hh ht ch tx y hy rP fP rT fT rG fG rL fL rH fH gi di re ti rPT fPT rTT fTT rGT fGT rLT fLT rHT fHT giT diT reT tiT rS fS rB fB rO fO pl fa cn ro Qh) (some (.long r)) (wLR X x0 hh ht ch tx y hy rP fP rT fT rG fG rL fL rH fH gi di re ti rPT fPT rTT fTT rGT fGT rLT fLT rHT fHT giT diT reT tiT rS fS rB fB rO fO pl fa cn ro Qh) := by
  refine fn_intro (cc := cX5_hashOfLog) (maxL := 7) (ret := (some .long)) (by decide) rfl rfl (Nat.le_of_ble_eq_true rfl) ?_
  intro p e s m args below meth c A ls hx hb hml hr hts hown hlocks hK hP hD0 hS hA hl
  have hown : s.vm.findClass RX5 = some m.cls := hown
  have hl : lv_has ls 7 [(0, .ref (x0)), (1, .long x1)] := hl
  have hiX2 : ∀ w ∈ u_ws RX2 TX2 9, w ∈ wsX5_hashOfLog := by decide +kernel
  have hiX5 : ∀ w ∈ u_ws RX5 TX5 5, w ∈ wsX5_hashOfLog := by decide +kernel
  have k10 := hts (.fieldLink RX5 10 "LentRights" "house" "LLentRights$House;") (by decide +kernel)
  have k162 := hts (.fieldLink RX5 162 "LentRights$House" "log" "LLentRights$Table;") (by decide +kernel)
  have loop_23 : ∀ (Q : State → Prop) (x5 : Int32) (y3 : Int64), (∀ (H : Heap) (locs : List Loc) (ls : Array Slot), va_P X.1 vwCl (wLR X x0 hh ht ch tx y hy rP fP rT fT rG fG rL fL rH fH gi di re ti rPT fPT rTT fTT rGT fGT rLT fLT rHT fHT giT diT reT tiT rS fS rB fB rO fO pl fa cn ro Qh) H → va_S A s.heap H locs → lv_has ls 7 [(0, .ref (x0)), (3, .long y3), (5, .int x5)] → W p l e ({ frames := 2, cells := 0, slots := 0, locals := 46 } : Room) s m args below meth c H locs 0 0 Q (F0 m 54 ls [])) → ∀ (k_ : Nat) (x3 : Int64) (x6 : Int32) (H : Heap) (locs : List Loc) (ls : Array Slot), f_X5_hashOfLog_L23 x5 rL fL k_ x3 x6 = some y3 → va_P X.1 vwCl (wLR X x0 hh ht ch tx y hy rP fP rT fT rG fG rL fL rH fH gi di re ti rPT fPT rTT fTT rGT fGT rLT fLT rHT fHT giT diT reT tiT rS fS rB fB rO fO pl fa cn ro Qh) H → va_S A s.heap H locs → lv_has ls 7 [(0, .ref (x0)), (3, .long x3), (5, .int x5), (6, .int x6)] → W p l e ({ frames := 2, cells := 0, slots := 0, locals := 46 } : Room) s m args below meth c H locs 0 0 Q (F0 m 23 ls []) := by
    intro Q x5 y3 kx k_
    induction k_ with
    | zero => intro x3 x6 H locs ls hf; exact nomatch (show (none : Option (Int64)) = some _ from hf)
    | succ k_ ih =>
      intro x3 x6 H locs ls hf hP hS hl
      unfold f_X5_hashOfLog_L23 at hf
      refine lv_iload hx hb dX5_hashOfLog_23 (lv_at hl 3 rfl) ?_
      refine lv_iconst (v := 2) hx hb dX5_hashOfLog_25 (by decide) ?_
      refine lv_icmp_gt (tgt := 54) hx hb dX5_hashOfLog_26 (by decide) (fun c_1 => ?_) (fun c_1 => ?_)
      · replace hf := fp_t c_1 hf
        cases hf
        exact kx _ _ _ hP hS (lv_sub hl [0, 1, 2] rfl)
      · replace hf := fp_f c_1 hf
        refine lv_ldc2 hx hb hown (hts (.constantLong RX5 218 (31)) (by decide +kernel)) dX5_hashOfLog_29 ?_
        refine lv_lload_n hx hb dX5_hashOfLog_32 rfl (lv_at hl 1 rfl) ?_
        refine lv_lmul hx hb dX5_hashOfLog_33 ?_
        refine lv_aload_n hx hb dX5_hashOfLog_34 rfl (lv_at hl 0 rfl) ?_
        refine va_get (D := X.1) (ci := 5) (v := .ref (hh 0)) (C := RX5) (T := TX5) (N := 5) hx hb hts hiX5 hown hK.1 hP 0 rfl rfl 0 (by decide) k10 (fun _ h9 => h9) rfl dX5_hashOfLog_35 ?_
        refine lv_iload hx hb dX5_hashOfLog_38 (lv_at hl 2 rfl) ?_
        refine lv_iload hx hb dX5_hashOfLog_40 (lv_at hl 3 rfl) ?_
        obtain ⟨r_2, hc_3, hf⟩ := bd_of hf
        refine fn_V (v := some (.int r_2)) (As := [.int x5, .int x6]) (rest := [.long ((31 : Int64) * x3)]) (st1 := [.int r_2, .long ((31 : Int64) * x3)]) (ws' := (wLR X x0 hh ht ch tx y hy rP fP rT fT rG fG rL fL rH fH gi di re ti rPT fPT rTT fTT rGT fGT rLT fLT rHT fHT giT diT reT tiT rS fS rB fB rO fO pl fa cn ro Qh)) (nL := 7) ⟨hx, hb, hml, hown, hts⟩ (c_X2_aboutEntry l X hh rP fP rT fT rG fG rL fL rH fH gi di re ti x5 x6 r_2 hc_3) (cwV 2 hts gX5_hashOfLog_X2_aboutEntry rfl rfl rfl (by decide +kernel) ⟨Nat.le_of_ble_eq_true rfl, Nat.le_of_ble_eq_true rfl⟩) 2 rfl rfl rfl rfl hl.1 rfl (Nat.le_of_ble_eq_true rfl) dX5_hashOfLog_42 hK hP (hD0.addr (wLR_fst.trans wLR_fst.symm)) hS hA [1, 2, 3, 4, 5, 6, 7, 8, 9, 10, 11] (by decide +kernel) lC_h (pt_setid _ _ _ lC_h) rfl ⟨Nat.zero_le _, Nat.zero_le _⟩ (fun H locs hP hD hS => ?_)
        refine lv_i2l (v := r_2.toInt64) hx hb dX5_hashOfLog_45 rfl ?_
        refine lv_ladd hx hb dX5_hashOfLog_46 ?_
        refine lv_topl (fun v_4 ev_4 => ?_)
        replace hf := nm_of ev_4 hf
        refine lv_lstore_n (lv' := [(3, .long v_4), (0, .ref (x0)), (5, .int x5), (6, .int x6)]) hx hb dX5_hashOfLog_47 rfl hl (by decide) rfl (fun ls hl => ?_)
        obtain ⟨v_5, ev_5⟩ : ∃ y : Int32, y = x6 + (1 : Int32) := ⟨_, rfl⟩
        replace hf := nm_of ev_5 hf
        refine lv_iinc (v := v_5) (lv' := [(6, .int v_5), (3, .long v_4), (0, .ref (x0)), (5, .int x5)]) hx hb dX5_hashOfLog_48 hl (k := 3) rfl (by rw [ev_5]; rfl) (by decide) rfl (fun ls hl => ?_)
        refine lv_goto (tgt := 23) hx hb dX5_hashOfLog_51 (by decide) ?_
        exact ih v_4 v_5 _ _ _ hf hP hS (lv_sub hl [2, 1, 3, 0] rfl)
  have loop_5 : ∀ (Q : State → Prop) (y3 : Int64), (∀ (H : Heap) (locs : List Loc) (ls : Array Slot), va_P X.1 vwCl (wLR X x0 hh ht ch tx y hy rP fP rT fT rG fG rL fL rH fH gi di re ti rPT fPT rTT fTT rGT fGT rLT fLT rHT fHT giT diT reT tiT rS fS rB fB rO fO pl fa cn ro Qh) H → va_S A s.heap H locs → lv_has ls 7 [(3, .long y3)] → W p l e ({ frames := 2, cells := 0, slots := 0, locals := 46 } : Room) s m args below meth c H locs 0 0 Q (F0 m 60 ls [])) → ∀ (k_ : Nat) (x3 : Int64) (x5 : Int32) (H : Heap) (locs : List Loc) (ls : Array Slot), f_X5_hashOfLog_L5 rL fL k_ x3 x5 = some y3 → va_P X.1 vwCl (wLR X x0 hh ht ch tx y hy rP fP rT fT rG fG rL fL rH fH gi di re ti rPT fPT rTT fTT rGT fGT rLT fLT rHT fHT giT diT reT tiT rS fS rB fB rO fO pl fa cn ro Qh) H → va_S A s.heap H locs → lv_has ls 7 [(0, .ref (x0)), (3, .long x3), (5, .int x5)] → W p l e ({ frames := 2, cells := 0, slots := 0, locals := 46 } : Room) s m args below meth c H locs 0 0 Q (F0 m 5 ls []) := by
    intro Q y3 kx k_
    induction k_ with
    | zero => intro x3 x5 H locs ls hf; exact nomatch (show (none : Option (Int64)) = some _ from hf)
    | succ k_ ih =>
      intro x3 x5 H locs ls hf hP hS hl
      unfold f_X5_hashOfLog_L5 at hf
      refine lv_iload hx hb dX5_hashOfLog_5 (lv_at hl 2 rfl) ?_
      refine lv_aload_n hx hb dX5_hashOfLog_7 rfl (lv_at hl 0 rfl) ?_
      refine va_get (D := X.1) (ci := 5) (v := .ref (hh 0)) (C := RX5) (T := TX5) (N := 5) hx hb hts hiX5 hown hK.1 hP 0 rfl rfl 0 (by decide) k10 (fun _ h9 => h9) rfl dX5_hashOfLog_8 ?_
      refine va_get (D := X.1) (ci := 2) (v := .ref (hh 7)) (C := RX2) (T := TX2) (N := 9) hx hb hts hiX2 hown hK.1 hP 1 rfl rfl 3 (by decide) k162 (fun _ h9 => h9) rfl dX5_hashOfLog_11 ?_
      obtain ⟨r_6, hc_7, hf⟩ := bd_of hf
      refine fn_V (v := some (.int r_6)) (As := []) (rest := [.int x5]) (st1 := [.int r_6, .int x5]) (ws' := (wLR X x0 hh ht ch tx y hy rP fP rT fT rG fG rL fL rH fH gi di re ti rPT fPT rTT fTT rGT fGT rLT fLT rHT fHT giT diT reT tiT rS fS rB fB rO fO pl fa cn ro Qh)) (nL := 7) ⟨hx, hb, hml, hown, hts⟩ (c_X3_rows l X (hh 7) (hh 8) (12 : Int32) (3 : Int32) 36 rL fL r_6 hc_7) (cwV 0 hts gX5_hashOfLog_X3_rows rfl rfl rfl (by decide +kernel) ⟨Nat.le_of_ble_eq_true rfl, Nat.le_of_ble_eq_true rfl⟩) 3 rfl rfl rfl rfl hl.1 rfl (Nat.le_of_ble_eq_true rfl) dX5_hashOfLog_14 hK hP (hD0.addr (wLR_fst.trans wLR_fst.symm)) hS hA [8, 9] (by decide +kernel) rfl (pt_setid _ _ _ rfl) rfl ⟨Nat.zero_le _, Nat.zero_le _⟩ (fun H locs hP hD hS => ?_)
      refine lv_icmp_ge (tgt := 60) hx hb dX5_hashOfLog_17 (by decide) (fun c_8 => ?_) (fun c_8 => ?_)
      · replace hf := fp_t c_8 hf
        cases hf
        exact kx _ _ _ hP hS (lv_sub hl [1] rfl)
      · replace hf := fp_f c_8 hf
        refine lv_iconst (v := 0) hx hb dX5_hashOfLog_20 (by decide) ?_
        refine lv_istore (lv' := [(6, .int (0 : Int32)), (0, .ref (x0)), (3, .long x3), (5, .int x5)]) hx hb dX5_hashOfLog_21 hl (by decide) rfl (fun ls hl => ?_)
        obtain ⟨y3_9, hL_10, hf⟩ := bd_of hf
        refine loop_23 _ x5 y3_9 (fun H locs ls hP hS hl => ?_) FU x3 (0 : Int32) _ _ _ hL_10 hP hS (lv_sub hl [1, 2, 3, 0] rfl)
        obtain ⟨v_11, ev_11⟩ : ∃ y : Int32, y = x5 + (1 : Int32) := ⟨_, rfl⟩
        replace hf := nm_of ev_11 hf
        refine lv_iinc (v := v_11) (lv' := [(5, .int v_11), (0, .ref (x0)), (3, .long y3_9)]) hx hb dX5_hashOfLog_54 hl (k := 2) rfl (by rw [ev_11]; rfl) (by decide) rfl (fun ls hl => ?_)
        refine lv_goto (tgt := 5) hx hb dX5_hashOfLog_57 (by decide) ?_
        exact ih y3_9 v_11 _ _ _ hf hP hS (lv_sub hl [1, 2, 0] rfl)
  unfold f_X5_hashOfLog at hf
  refine lv_lload_n hx hb dX5_hashOfLog_0 rfl (lv_at hl 1 rfl) ?_
  refine lv_lstore_n (lv' := [(3, .long x1), (0, .ref (x0)), (1, .long x1)]) hx hb dX5_hashOfLog_1 rfl hl (by decide) rfl (fun ls hl => ?_)
  refine lv_iconst (v := 0) hx hb dX5_hashOfLog_2 (by decide) ?_
  refine lv_istore (lv' := [(5, .int (0 : Int32)), (3, .long x1), (0, .ref (x0)), (1, .long x1)]) hx hb dX5_hashOfLog_3 hl (by decide) rfl (fun ls hl => ?_)
  obtain ⟨y3_12, hL_13, hf⟩ := bd_of hf
  refine loop_5 _ y3_12 (fun H locs ls hP hS hl => ?_) FU x1 (0 : Int32) _ _ _ hL_13 hP hS (lv_sub hl [2, 1, 0] rfl)
  refine lv_lload_n hx hb dX5_hashOfLog_60 rfl (lv_at hl 0 rfl) ?_
  cases hf
  exact fn_lret hx hb hr hlocks hP hS dX5_hashOfLog_61

def f_X5_digest_L15 (rT : Int32) (fT : (Nat → Int32)) (rG : Int32) (fG : (Nat → Int32)) (rL : Int32) (rH : Int32) (fH : (Nat → Int32)) (gi : Int32) (di : Int32) (re : Int32) (ti : Int32) : Nat → Int64 → Int32 →  Option (Int64)
  | 0, _, _ => none
  | k_ + 1, x1, x3 =>
    if (8 : Int32) < x3 then
    (some x1)
    else
    (bd (f_X2_aboutHouse x3 rT fT rG fG rL rH fH gi di re ti) (fun r_2 =>
    nm (((31 : Int64) * x1) + r_2.toInt64) (fun v_4 =>
    nm (x3 + (1 : Int32)) (fun v_5 =>
    f_X5_digest_L15 rT fT rG fG rL rH fH gi di re ti k_ v_4 v_5))))
def f_X5_digest (rP : Int32) (fP : (Nat → Int32)) (rT : Int32) (fT : (Nat → Int32)) (rG : Int32) (fG : (Nat → Int32)) (rL : Int32) (fL : (Nat → Int32)) (rH : Int32) (fH : (Nat → Int32)) (gi : Int32) (di : Int32) (re : Int32) (ti : Int32) (rB : Int32) (cn : Int32) : Option (Int64) :=
  bd (f_X4_length rB) (fun r_6 =>
  nm ((113801 : Int64) + r_6.toInt64) (fun v_8 =>
  bd (f_X5_digest_L15 rT fT rG fG rL rH fH gi di re ti FU v_8 (0 : Int32)) (fun y1_9 =>
  bd (f_X5_hashOfPersons y1_9 rP fP rT fT rG fG rH fH) (fun r_11 =>
  bd (f_X5_hashOfThings r_11 rT fT rG fG rH fH) (fun r_13 =>
  bd (f_X5_hashOfGrants r_13 rT fT rG fG rH fH) (fun r_15 =>
  bd (f_X5_hashOfLog r_15 rL fL) (fun r_17 =>
  bd (f_X1_count cn) (fun r_19 =>
  nm (((31 : Int64) * r_17) + r_19.toInt64) (fun v_21 =>
  some v_21)))))))))
set_option maxHeartbeats 4000000 in
set_option maxRecDepth 100000 in
theorem c_X5_digest (l : Launch) (X : cx_G) (x0 : Nat) (hh : (Nat → Nat)) (ht : (Nat → Nat)) (ch : (Nat → Nat)) (tx : (Nat → Nat)) (y : (Nat → Nat)) (hy : (Nat → Nat → Nat)) (rP : Int32) (fP : (Nat → Int32)) (rT : Int32) (fT : (Nat → Int32)) (rG : Int32) (fG : (Nat → Int32)) (rL : Int32) (fL : (Nat → Int32)) (rH : Int32) (fH : (Nat → Int32)) (gi : Int32) (di : Int32) (re : Int32) (ti : Int32) (rPT : Int32) (fPT : (Nat → Int32)) (rTT : Int32) (fTT : (Nat → Int32)) (rGT : Int32) (fGT : (Nat → Int32)) (rLT : Int32) (fLT : (Nat → Int32)) (rHT : Int32) (fHT : (Nat → Int32)) (giT : Int32) (diT : Int32) (reT : Int32) (tiT : Int32) (rS : Int32) (fS : (Nat → Int32)) (rB : Int32) (fB : (Nat → Int32)) (rO : Int32) (fO : (Nat → Int32)) (pl : Int32) (fa : Int32) (cn : Int32) (ro : Nat) (Qh : (Nat → HS)) (r : Int64) (hf : f_X5_digest rP fP rT fT rG fG rL fL rH fH gi di re ti rB cn = some r) : Fn l yX5_digest wsX5_digest ({ frames := 4, cells := 0, slots := 0, locals := 96 } : Room) X [.ref (x0)] (wLR X x0 hh ht ch tx y hy rP fP rT fT rG fG rL fL rH fH gi di re ti rPT fPT rTT fTT rGT fGT rLT fLT rHT fHT giT diT reT tiT rS fS rB fB rO fO pl fa cn ro Qh) (some (.long r)) (wLR X x0 hh ht ch tx y hy rP fP rT fT rG fG rL fL rH fH gi di re ti rPT fPT rTT fTT rGT fGT rLT fLT rHT fHT giT diT reT tiT rS fS rB fB rO fO pl fa cn ro Qh) := by
  refine fn_intro (cc := cX5_digest) (maxL := 4) (ret := (some .long)) (by decide) rfl rfl (Nat.le_of_ble_eq_true rfl) ?_
  intro p e s m args below meth c A ls hx hb hml hr hts hown hlocks hK hP hD0 hS hA hl
  have hown : s.vm.findClass RX5 = some m.cls := hown
  have hl : lv_has ls 4 [(0, .ref (x0))] := hl
  have hiX5 : ∀ w ∈ u_ws RX5 TX5 5, w ∈ wsX5_digest := by decide +kernel
  have k10 := hts (.fieldLink RX5 10 "LentRights" "house" "LLentRights$House;") (by decide +kernel)
  have k22 := hts (.fieldLink RX5 22 "LentRights" "history" "LLentRights$History;") (by decide +kernel)
  have k36 := hts (.fieldLink RX5 36 "LentRights" "text" "LLentRights$Text;") (by decide +kernel)
  have loop_15 : ∀ (Q : State → Prop) (y1 : Int64), (∀ (H : Heap) (locs : List Loc) (ls : Array Slot), va_P X.1 vwCl (wLR X x0 hh ht ch tx y hy rP fP rT fT rG fG rL fL rH fH gi di re ti rPT fPT rTT fTT rGT fGT rLT fLT rHT fHT giT diT reT tiT rS fS rB fB rO fO pl fa cn ro Qh) H → va_S A s.heap H locs → lv_has ls 4 [(0, .ref (x0)), (1, .long y1)] → W p l e ({ frames := 4, cells := 0, slots := 0, locals := 96 } : Room) s m args below meth c H locs 0 0 Q (F0 m 43 ls [])) → ∀ (k_ : Nat) (x1 : Int64) (x3 : Int32) (H : Heap) (locs : List Loc) (ls : Array Slot), f_X5_digest_L15 rT fT rG fG rL rH fH gi di re ti k_ x1 x3 = some y1 → va_P X.1 vwCl (wLR X x0 hh ht ch tx y hy rP fP rT fT rG fG rL fL rH fH gi di re ti rPT fPT rTT fTT rGT fGT rLT fLT rHT fHT giT diT reT tiT rS fS rB fB rO fO pl fa cn ro Qh) H → va_S A s.heap H locs → lv_has ls 4 [(0, .ref (x0)), (1, .long x1), (3, .int x3)] → W p l e ({ frames := 4, cells := 0, slots := 0, locals := 96 } : Room) s m args below meth c H locs 0 0 Q (F0 m 15 ls []) := by
    intro Q y1 kx k_
    induction k_ with
    | zero => intro x1 x3 H locs ls hf; exact nomatch (show (none : Option (Int64)) = some _ from hf)
    | succ k_ ih =>
      intro x1 x3 H locs ls hf hP hS hl
      unfold f_X5_digest_L15 at hf
      refine lv_iload_n hx hb dX5_digest_15 rfl (lv_at hl 2 rfl) ?_
      refine lv_bipush (v := 8) hx hb dX5_digest_16 (by decide) ?_
      refine lv_icmp_gt (tgt := 43) hx hb dX5_digest_18 (by decide) (fun c_1 => ?_) (fun c_1 => ?_)
      · replace hf := fp_t c_1 hf
        cases hf
        exact kx _ _ _ hP hS (lv_sub hl [0, 1] rfl)
      · replace hf := fp_f c_1 hf
        refine lv_ldc2 hx hb hown (hts (.constantLong RX5 218 (31)) (by decide +kernel)) dX5_digest_21 ?_
        refine lv_lload_n hx hb dX5_digest_24 rfl (lv_at hl 1 rfl) ?_
        refine lv_lmul hx hb dX5_digest_25 ?_
        refine lv_aload_n hx hb dX5_digest_26 rfl (lv_at hl 0 rfl) ?_
        refine va_get (D := X.1) (ci := 5) (v := .ref (hh 0)) (C := RX5) (T := TX5) (N := 5) hx hb hts hiX5 hown hK.1 hP 0 rfl rfl 0 (by decide) k10 (fun _ h9 => h9) rfl dX5_digest_27 ?_
        refine lv_iload_n hx hb dX5_digest_30 rfl (lv_at hl 2 rfl) ?_
        obtain ⟨r_2, hc_3, hf⟩ := bd_of hf
        refine fn_V (v := some (.int r_2)) (As := [.int x3]) (rest := [.long ((31 : Int64) * x1)]) (st1 := [.int r_2, .long ((31 : Int64) * x1)]) (ws' := (wLR X x0 hh ht ch tx y hy rP fP rT fT rG fG rL fL rH fH gi di re ti rPT fPT rTT fTT rGT fGT rLT fLT rHT fHT giT diT reT tiT rS fS rB fB rO fO pl fa cn ro Qh)) (nL := 4) ⟨hx, hb, hml, hown, hts⟩ (c_X2_aboutHouse l X hh rP fP rT fT rG fG rL fL rH fH gi di re ti x3 r_2 hc_3) (cwV 1 hts gX5_digest_X2_aboutHouse rfl rfl rfl (by decide +kernel) ⟨Nat.le_of_ble_eq_true rfl, Nat.le_of_ble_eq_true rfl⟩) 2 rfl rfl rfl rfl hl.1 rfl (Nat.le_of_ble_eq_true rfl) dX5_digest_31 hK hP (hD0.addr (wLR_fst.trans wLR_fst.symm)) hS hA [1, 2, 3, 4, 5, 6, 7, 8, 9, 10, 11] (by decide +kernel) lC_h (pt_setid _ _ _ lC_h) rfl ⟨Nat.zero_le _, Nat.zero_le _⟩ (fun H locs hP hD hS => ?_)
        refine lv_i2l (v := r_2.toInt64) hx hb dX5_digest_34 rfl ?_
        refine lv_ladd hx hb dX5_digest_35 ?_
        refine lv_topl (fun v_4 ev_4 => ?_)
        replace hf := nm_of ev_4 hf
        refine lv_lstore_n (lv' := [(1, .long v_4), (0, .ref (x0)), (3, .int x3)]) hx hb dX5_digest_36 rfl hl (by decide) rfl (fun ls hl => ?_)
        obtain ⟨v_5, ev_5⟩ : ∃ y : Int32, y = x3 + (1 : Int32) := ⟨_, rfl⟩
        replace hf := nm_of ev_5 hf
        refine lv_iinc (v := v_5) (lv' := [(3, .int v_5), (1, .long v_4), (0, .ref (x0))]) hx hb dX5_digest_37 hl (k := 2) rfl (by rw [ev_5]; rfl) (by decide) rfl (fun ls hl => ?_)
        refine lv_goto (tgt := 15) hx hb dX5_digest_40 (by decide) ?_
        exact ih v_4 v_5 _ _ _ hf hP hS (lv_sub hl [2, 1, 0] rfl)
  unfold f_X5_digest at hf
  refine lv_ldc2 hx hb hown (hts (.constantLong RX5 216 (113801)) (by decide +kernel)) dX5_digest_0 ?_
  refine lv_aload_n hx hb dX5_digest_3 rfl (lv_at hl 0 rfl) ?_
  refine va_get (D := X.1) (ci := 5) (v := .ref (tx 0)) (C := RX5) (T := TX5) (N := 5) hx hb hts hiX5 hown hK.1 hP 0 rfl rfl 4 (by decide) k36 (fun _ h9 => h9) rfl dX5_digest_4 ?_
  obtain ⟨r_6, hc_7, hf⟩ := bd_of hf
  refine fn_V (v := some (.int r_6)) (As := []) (rest := [.long (113801 : Int64)]) (st1 := [.int r_6, .long (113801 : Int64)]) (ws' := (wLR X x0 hh ht ch tx y hy rP fP rT fT rG fG rL fL rH fH gi di re ti rPT fPT rTT fTT rGT fGT rLT fLT rHT fHT giT diT reT tiT rS fS rB fB rO fO pl fa cn ro Qh)) (nL := 4) ⟨hx, hb, hml, hown, hts⟩ (c_X4_length l X tx rB fB rO fO pl fa r_6 hc_7) (cwV 0 hts gX5_digest_X4_length rfl rfl rfl (by decide +kernel) ⟨Nat.le_of_ble_eq_true rfl, Nat.le_of_ble_eq_true rfl⟩) 4 rfl rfl rfl rfl hl.1 rfl (Nat.le_of_ble_eq_true rfl) dX5_digest_7 hK hP (hD0.addr (wLR_fst.trans wLR_fst.symm)) hS hA [26, 27, 28, 29, 30] (by decide +kernel) lC_x (pt_setid _ _ _ lC_x) rfl ⟨Nat.zero_le _, Nat.zero_le _⟩ (fun H locs hP hD hS => ?_)
  refine lv_i2l (v := r_6.toInt64) hx hb dX5_digest_10 rfl ?_
  refine lv_ladd hx hb dX5_digest_11 ?_
  refine lv_topl (fun v_8 ev_8 => ?_)
  replace hf := nm_of ev_8 hf
  refine lv_lstore_n (lv' := [(1, .long v_8), (0, .ref (x0))]) hx hb dX5_digest_12 rfl hl (by decide) rfl (fun ls hl => ?_)
  refine lv_iconst (v := 0) hx hb dX5_digest_13 (by decide) ?_
  refine lv_istore_n (lv' := [(3, .int (0 : Int32)), (1, .long v_8), (0, .ref (x0))]) hx hb dX5_digest_14 rfl hl (by decide) rfl (fun ls hl => ?_)
  obtain ⟨y1_9, hL_10, hf⟩ := bd_of hf
  refine loop_15 _ y1_9 (fun H locs ls hP hS hl => ?_) FU v_8 (0 : Int32) _ _ _ hL_10 hP hS (lv_sub hl [2, 1, 0] rfl)
  refine lv_aload_n hx hb dX5_digest_43 rfl (lv_at hl 0 rfl) ?_
  refine lv_lload_n hx hb dX5_digest_44 rfl (lv_at hl 1 rfl) ?_
  obtain ⟨r_11, hc_12, hf⟩ := bd_of hf
  refine fn_V (v := some (.long r_11)) (As := [.long y1_9]) (rest := []) (st1 := [.long r_11]) (ws' := (wLR X x0 hh ht ch tx y hy rP fP rT fT rG fG rL fL rH fH gi di re ti rPT fPT rTT fTT rGT fGT rLT fLT rHT fHT giT diT reT tiT rS fS rB fB rO fO pl fa cn ro Qh)) (nL := 4) ⟨hx, hb, hml, hown, hts⟩ (c_X5_hashOfPersons l X x0 hh ht ch tx y hy rP fP rT fT rG fG rL fL rH fH gi di re ti rPT fPT rTT fTT rGT fGT rLT fLT rHT fHT giT diT reT tiT rS fS rB fB rO fO pl fa cn ro Qh y1_9 r_11 hc_12) (cwV 1 hts gX5_digest_X5_hashOfPersons rfl rfl rfl (by decide +kernel) ⟨Nat.le_of_ble_eq_true rfl, Nat.le_of_ble_eq_true rfl⟩) 5 rfl rfl rfl rfl hl.1 rfl (Nat.le_of_ble_eq_true rfl) dX5_digest_45 hK hP (hD0.addr (wLR_fst.trans wLR_fst.symm)) hS hA [0, 1, 2, 3, 4, 5, 6, 7, 8, 9, 10, 11, 12, 13, 14, 15, 16, 17, 18, 19, 20, 21, 22, 23, 24, 25, 26, 27, 28, 29, 30, 31, 32, 33, 34, 35, 36, 37, 38, 39, 40, 41, 42, 43, 44, 45, 46, 47, 48, 49, 50, 51, 52, 53, 54, 55, 56, 57, 58, 59, 60, 61, 62, 63, 64, 65, 66, 67, 68, 69, 70, 71, 72, 73, 74, 75, 76] (by decide +kernel) lC_a (pt_setid _ _ _ lC_a) rfl ⟨Nat.zero_le _, Nat.zero_le _⟩ (fun H locs hP hD hS => ?_)
  refine lv_lstore_n (lv' := [(1, .long r_11), (0, .ref (x0))]) hx hb dX5_digest_48 rfl hl (by decide) rfl (fun ls hl => ?_)
  refine lv_aload_n hx hb dX5_digest_49 rfl (lv_at hl 1 rfl) ?_
  refine lv_lload_n hx hb dX5_digest_50 rfl (lv_at hl 0 rfl) ?_
  obtain ⟨r_13, hc_14, hf⟩ := bd_of hf
  refine fn_V (v := some (.long r_13)) (As := [.long r_11]) (rest := []) (st1 := [.long r_13]) (ws' := (wLR X x0 hh ht ch tx y hy rP fP rT fT rG fG rL fL rH fH gi di re ti rPT fPT rTT fTT rGT fGT rLT fLT rHT fHT giT diT reT tiT rS fS rB fB rO fO pl fa cn ro Qh)) (nL := 4) ⟨hx, hb, hml, hown, hts⟩ (c_X5_hashOfThings l X x0 hh ht ch tx y hy rP fP rT fT rG fG rL fL rH fH gi di re ti rPT fPT rTT fTT rGT fGT rLT fLT rHT fHT giT diT reT tiT rS fS rB fB rO fO pl fa cn ro Qh r_11 r_13 hc_14) (cwV 1 hts gX5_digest_X5_hashOfThings rfl rfl rfl (by decide +kernel) ⟨Nat.le_of_ble_eq_true rfl, Nat.le_of_ble_eq_true rfl⟩) 5 rfl rfl rfl rfl hl.1 rfl (Nat.le_of_ble_eq_true rfl) dX5_digest_51 hK hP (hD0.addr (wLR_fst.trans wLR_fst.symm)) hS hA [0, 1, 2, 3, 4, 5, 6, 7, 8, 9, 10, 11, 12, 13, 14, 15, 16, 17, 18, 19, 20, 21, 22, 23, 24, 25, 26, 27, 28, 29, 30, 31, 32, 33, 34, 35, 36, 37, 38, 39, 40, 41, 42, 43, 44, 45, 46, 47, 48, 49, 50, 51, 52, 53, 54, 55, 56, 57, 58, 59, 60, 61, 62, 63, 64, 65, 66, 67, 68, 69, 70, 71, 72, 73, 74, 75, 76] (by decide +kernel) lC_a (pt_setid _ _ _ lC_a) rfl ⟨Nat.zero_le _, Nat.zero_le _⟩ (fun H locs hP hD hS => ?_)
  refine lv_lstore_n (lv' := [(1, .long r_13), (0, .ref (x0))]) hx hb dX5_digest_54 rfl hl (by decide) rfl (fun ls hl => ?_)
  refine lv_aload_n hx hb dX5_digest_55 rfl (lv_at hl 1 rfl) ?_
  refine lv_lload_n hx hb dX5_digest_56 rfl (lv_at hl 0 rfl) ?_
  obtain ⟨r_15, hc_16, hf⟩ := bd_of hf
  refine fn_V (v := some (.long r_15)) (As := [.long r_13]) (rest := []) (st1 := [.long r_15]) (ws' := (wLR X x0 hh ht ch tx y hy rP fP rT fT rG fG rL fL rH fH gi di re ti rPT fPT rTT fTT rGT fGT rLT fLT rHT fHT giT diT reT tiT rS fS rB fB rO fO pl fa cn ro Qh)) (nL := 4) ⟨hx, hb, hml, hown, hts⟩ (c_X5_hashOfGrants l X x0 hh ht ch tx y hy rP fP rT fT rG fG rL fL rH fH gi di re ti rPT fPT rTT fTT rGT fGT rLT fLT rHT fHT giT diT reT tiT rS fS rB fB rO fO pl fa cn ro Qh r_13 r_15 hc_16) (cwV 1 hts gX5_digest_X5_hashOfGrants rfl rfl rfl (by decide +kernel) ⟨Nat.le_of_ble_eq_true rfl, Nat.le_of_ble_eq_true rfl⟩) 5 rfl rfl rfl rfl hl.1 rfl (Nat.le_of_ble_eq_true rfl) dX5_digest_57 hK hP (hD0.addr (wLR_fst.trans wLR_fst.symm)) hS hA [0, 1, 2, 3, 4, 5, 6, 7, 8, 9, 10, 11, 12, 13, 14, 15, 16, 17, 18, 19, 20, 21, 22, 23, 24, 25, 26, 27, 28, 29, 30, 31, 32, 33, 34, 35, 36, 37, 38, 39, 40, 41, 42, 43, 44, 45, 46, 47, 48, 49, 50, 51, 52, 53, 54, 55, 56, 57, 58, 59, 60, 61, 62, 63, 64, 65, 66, 67, 68, 69, 70, 71, 72, 73, 74, 75, 76] (by decide +kernel) lC_a (pt_setid _ _ _ lC_a) rfl ⟨Nat.zero_le _, Nat.zero_le _⟩ (fun H locs hP hD hS => ?_)
  refine lv_lstore_n (lv' := [(1, .long r_15), (0, .ref (x0))]) hx hb dX5_digest_60 rfl hl (by decide) rfl (fun ls hl => ?_)
  refine lv_aload_n hx hb dX5_digest_61 rfl (lv_at hl 1 rfl) ?_
  refine lv_lload_n hx hb dX5_digest_62 rfl (lv_at hl 0 rfl) ?_
  obtain ⟨r_17, hc_18, hf⟩ := bd_of hf
  refine fn_V (v := some (.long r_17)) (As := [.long r_15]) (rest := []) (st1 := [.long r_17]) (ws' := (wLR X x0 hh ht ch tx y hy rP fP rT fT rG fG rL fL rH fH gi di re ti rPT fPT rTT fTT rGT fGT rLT fLT rHT fHT giT diT reT tiT rS fS rB fB rO fO pl fa cn ro Qh)) (nL := 4) ⟨hx, hb, hml, hown, hts⟩ (c_X5_hashOfLog l X x0 hh ht ch tx y hy rP fP rT fT rG fG rL fL rH fH gi di re ti rPT fPT rTT fTT rGT fGT rLT fLT rHT fHT giT diT reT tiT rS fS rB fB rO fO pl fa cn ro Qh r_15 r_17 hc_18) (cwV 1 hts gX5_digest_X5_hashOfLog rfl rfl rfl (by decide +kernel) ⟨Nat.le_of_ble_eq_true rfl, Nat.le_of_ble_eq_true rfl⟩) 5 rfl rfl rfl rfl hl.1 rfl (Nat.le_of_ble_eq_true rfl) dX5_digest_63 hK hP (hD0.addr (wLR_fst.trans wLR_fst.symm)) hS hA [0, 1, 2, 3, 4, 5, 6, 7, 8, 9, 10, 11, 12, 13, 14, 15, 16, 17, 18, 19, 20, 21, 22, 23, 24, 25, 26, 27, 28, 29, 30, 31, 32, 33, 34, 35, 36, 37, 38, 39, 40, 41, 42, 43, 44, 45, 46, 47, 48, 49, 50, 51, 52, 53, 54, 55, 56, 57, 58, 59, 60, 61, 62, 63, 64, 65, 66, 67, 68, 69, 70, 71, 72, 73, 74, 75, 76] (by decide +kernel) lC_a (pt_setid _ _ _ lC_a) rfl ⟨Nat.zero_le _, Nat.zero_le _⟩ (fun H locs hP hD hS => ?_)
  refine lv_lstore_n (lv' := [(1, .long r_17), (0, .ref (x0))]) hx hb dX5_digest_66 rfl hl (by decide) rfl (fun ls hl => ?_)
  refine lv_ldc2 hx hb hown (hts (.constantLong RX5 218 (31)) (by decide +kernel)) dX5_digest_67 ?_
  refine lv_lload_n hx hb dX5_digest_70 rfl (lv_at hl 0 rfl) ?_
  refine lv_lmul hx hb dX5_digest_71 ?_
  refine lv_aload_n hx hb dX5_digest_72 rfl (lv_at hl 1 rfl) ?_
  refine va_get (D := X.1) (ci := 5) (v := .ref (y 0)) (C := RX5) (T := TX5) (N := 5) hx hb hts hiX5 hown hK.1 hP 0 rfl rfl 2 (by decide) k22 (fun _ h9 => h9) rfl dX5_digest_73 ?_
  obtain ⟨r_19, hc_20, hf⟩ := bd_of hf
  refine fn_V (v := some (.int r_19)) (As := []) (rest := [.long ((31 : Int64) * r_17)]) (st1 := [.int r_19, .long ((31 : Int64) * r_17)]) (ws' := (wLR X x0 hh ht ch tx y hy rP fP rT fT rG fG rL fL rH fH gi di re ti rPT fPT rTT fTT rGT fGT rLT fLT rHT fHT giT diT reT tiT rS fS rB fB rO fO pl fa cn ro Qh)) (nL := 4) ⟨hx, hb, hml, hown, hts⟩ (c_X1_count l X y hy cn ro Qh r_19 hc_20) (cwV 0 hts gX5_digest_X1_count rfl rfl rfl (by decide +kernel) ⟨Nat.le_of_ble_eq_true rfl, Nat.le_of_ble_eq_true rfl⟩) 1 rfl rfl rfl rfl hl.1 rfl (Nat.le_of_ble_eq_true rfl) dX5_digest_76 hK hP (hD0.addr (wLR_fst.trans wLR_fst.symm)) hS hA [31, 32, 33, 34, 35, 36, 37, 38, 39, 40, 41, 42, 43, 44, 45, 46, 47, 48, 49, 50, 51, 52, 53, 54, 55, 56, 57, 58, 59, 60, 61, 62, 63, 64, 65, 66, 67, 68, 69, 70, 71, 72, 73, 74, 75, 76] (by decide +kernel) lC_i (pt_setid _ _ _ lC_i) rfl ⟨Nat.zero_le _, Nat.zero_le _⟩ (fun H locs hP hD hS => ?_)
  refine lv_i2l (v := r_19.toInt64) hx hb dX5_digest_79 rfl ?_
  refine lv_ladd hx hb dX5_digest_80 ?_
  refine lv_topl (fun v_21 ev_21 => ?_)
  replace hf := nm_of ev_21 hf
  cases hf
  exact fn_lret hx hb hr hlocks hP hS dX5_digest_81
