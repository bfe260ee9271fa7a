def f_L_cell (L : Nat) (xs : Nat → Int32) (x1 : Int32) : Option Int32 :=
  if Int32.ofNat L ≤ x1 then
  (nm ((1359893119 : Int32) * (x1 + (467 : Int32))) (fun v_2 =>
  some v_2))
  else
  (ix x1 L (
  nm (xs x1.toNatClampNeg) (fun v_4 =>
  some v_4)))
set_option maxHeartbeats 4000000 in
set_option maxRecDepth 100000 in
theorem c_L_cell (l : Launch) (X : cx_G) (b L : Nat) (xs : Nat → Int32) (x1 r : Int32) (hf : f_L_cell L xs x1 = some r) : Fs l yL_cell wsL_cell ({ frames := 0, cells := 0, slots := 0, locals := 0 } : Room) X [.ref b, .int x1] b L xs (some (.int r)) := by
  refine fs_intro (cc := cL_cell) (maxL := 2) (ret := (some .int)) (by decide) rfl (Nat.le_of_ble_eq_true rfl) ?_
  intro p e s m args below meth c A ls hx hb hml hr hts hown hlocks hK hP hD0 hS hA hX hbl hbA hl
  have hown : s.vm.findClass RL = some m.cls := hown
  have hl : lv_has ls 2 [(0, .ref b), (1, .int x1)] := hl
  unfold f_L_cell at hf
  refine lv_iload_n hx hb dL_cell_0 rfl (lv_at hl 1 rfl) ?_
  refine lv_aload_n hx hb dL_cell_1 rfl (lv_at hl 0 rfl) ?_
  refine va_slen hx hb hX hbl hbA hS dL_cell_2 ?_
  refine lv_icmp_ge (tgt := 12) hx hb dL_cell_3 (by decide) (fun c_1 => ?_) (fun c_1 => ?_)
  · replace hf := fp_t c_1 hf
    refine lv_ldc hx hb hown (hts (.constant RL 7 (1359893119)) (by decide +kernel)) dL_cell_12 ?_
    refine lv_iload_n hx hb dL_cell_14 rfl (lv_at hl 1 rfl) ?_
    refine lv_sipush (v := 467) hx hb dL_cell_15 (by decide) ?_
    refine lv_iadd hx hb dL_cell_18 ?_
    refine lv_imul hx hb dL_cell_19 ?_
    refine lv_topi (fun v_2 ev_2 => ?_)
    replace hf := nm_of ev_2 hf
    cases hf
    exact fn_iret hx hb hr hlocks hP hS dL_cell_20
  · replace hf := fp_f c_1 hf
    refine lv_aload_n hx hb dL_cell_6 rfl (lv_at hl 0 rfl) ?_
    refine lv_iload_n hx hb dL_cell_7 rfl (lv_at hl 1 rfl) ?_
    obtain ⟨hi_3, hf⟩ := ix_of hf
    refine va_sld hx hb hX hbl hbA hS hi_3 dL_cell_8 ?_
    refine lv_goto (tgt := 20) hx hb dL_cell_9 (by decide) ?_
    refine lv_topi (fun v_4 ev_4 => ?_)
    replace hf := nm_of ev_4 hf
    cases hf
    exact fn_iret hx hb hr hlocks hP hS dL_cell_20
def f_L_up (x0 : Int32) (x1 : Int32) : Option (Int32) :=
  dz x1 (
  nm ((x0 &&& (2147483647 : Int32)) - (x0 &&& (2147483647 : Int32)) / x1 * x1) (fun v_2 =>
  some v_2))
set_option maxHeartbeats 4000000 in
set_option maxRecDepth 100000 in
theorem c_L_up (l : Launch) (X : cx_G) (x0 : Int32) (x1 : Int32) (r : Int32) (hf : f_L_up x0 x1 = some r) : Fn l yL_up wsL_up ({ frames := 0, cells := 0, slots := 0, locals := 0 } : Room) X [.int x0, .int x1] ([] : va_W) (some (.int r)) ([] : va_W) := by
  refine fn_intro (cc := cL_up) (maxL := 2) (ret := (some .int)) (by decide) rfl rfl (Nat.le_of_ble_eq_true rfl) ?_
  intro p e s m args below meth c A ls hx hb hml hr hts hown hlocks hK hP hD0 hS hA hl
  have hown : s.vm.findClass RL = some m.cls := hown
  have hl : lv_has ls 2 [(0, .int x0), (1, .int x1)] := hl
  unfold f_L_up at hf
  refine lv_iload_n hx hb dL_up_0 rfl (lv_at hl 0 rfl) ?_
  refine lv_ldc hx hb hown (hts (.constant RL 8 (2147483647)) (by decide +kernel)) dL_up_1 ?_
  refine lv_iand hx hb dL_up_3 ?_
  refine lv_iload_n hx hb dL_up_4 rfl (lv_at hl 1 rfl) ?_
  obtain ⟨hz_1, hf⟩ := dz_of hf
  refine lv_irem hx hb dL_up_5 hz_1 ?_
  refine lv_topi (fun v_2 ev_2 => ?_)
  replace hf := nm_of ev_2 hf
  cases hf
  exact fn_iret hx hb hr hlocks hP hS dL_up_6
def f_L_isStep (x2 : Int32) (so : LSt) (sp : LSt) : Option (LSt × LSt) :=
  nm (x2 >>> ((4 : Int32) &&& 31)) (fun v_1 =>
  bd (f_L_up v_1 (10 : Int32)) (fun r_2 =>
  bd (f_L_up (v_1 >>> ((4 : Int32) &&& 31)) (3 : Int32)) (fun r_4 =>
  bd (f_L_up x2 (11 : Int32)) (fun r_6 =>
  if r_6 = (0 : Int32) then
  (bd (f_L_up (v_1 >>> ((6 : Int32) &&& 31)) (120 : Int32)) (fun r_9 =>
  bd2 (f_B_cheer r_2 (r_9 - (80 : Int32)) so) (fun r_11 so_12 =>
  bd (f_L_up (v_1 >>> ((6 : Int32) &&& 31)) (120 : Int32)) (fun r_14 =>
  bd2 (f_B_cheer ((9 : Int32) - r_2) (r_14 - (80 : Int32)) sp) (fun r_16 sp_17 =>
  if r_11 = r_16 then
  (some (so_12, sp_17))
  else
  (none))))))
  else
  (if r_6 = (1 : Int32) then
  (bd (f_L_up (v_1 >>> ((4 : Int32) &&& 31)) (101 : Int32)) (fun r_21 =>
  bd2 (f_B_setBase r_2 r_21 so) (fun r_23 so_24 =>
  bd (f_L_up (v_1 >>> ((4 : Int32) &&& 31)) (101 : Int32)) (fun r_26 =>
  bd2 (f_B_setBase ((9 : Int32) - r_2) r_26 sp) (fun r_28 sp_29 =>
  if r_23 = r_28 then
  (some (so_24, sp_29))
  else
  (none))))))
  else
  (if r_6 = (2 : Int32) then
  (bd (f_L_up (v_1 >>> ((6 : Int32) &&& 31)) (8 : Int32)) (fun r_33 =>
  bd2 (f_B_setMask r_4 (r_33 ||| (5 : Int32)) so) (fun r_35 so_36 =>
  bd (f_L_up (v_1 >>> ((6 : Int32) &&& 31)) (8 : Int32)) (fun r_38 =>
  bd2 (f_B_setMask r_4 (r_38 ||| (5 : Int32)) sp) (fun r_40 sp_41 =>
  if r_35 = r_40 then
  (some (so_36, sp_41))
  else
  (none))))))
  else
  (if r_6 = (3 : Int32) then
  (bd2 (f_B_give r_4 r_2 so) (fun r_45 so_46 =>
  bd2 (f_B_give r_4 ((9 : Int32) - r_2) sp) (fun r_48 sp_49 =>
  if r_45 = (9 : Int32) - r_48 then
  (some (so_46, sp_49))
  else
  (none))))
  else
  (if r_6 = (4 : Int32) then
  (bd (f_L_up v_1 (40 : Int32)) (fun r_53 =>
  bd2 (f_B_pass ((1 : Int32) + r_53) so) (fun r_55 so_56 =>
  bd (f_L_up v_1 (40 : Int32)) (fun r_58 =>
  bd2 (f_B_pass ((1 : Int32) + r_58) sp) (fun r_60 sp_61 =>
  if r_55 = r_60 then
  (some (so_56, sp_61))
  else
  (none))))))
  else
  (bd (f_L_up (v_1 >>> ((6 : Int32) &&& 31)) (9 : Int32)) (fun r_64 =>
  nm (((r_2 + (1 : Int32)) + r_64) - ((r_2 + (1 : Int32)) + r_64) / (10 : Int32) * (10 : Int32)) (fun v_66 =>
  bd (f_L_up (v_1 >>> ((10 : Int32) &&& 31)) (7 : Int32)) (fun r_67 =>
  bd (f_L_up (v_1 >>> ((13 : Int32) &&& 31)) (2 : Int32)) (fun r_69 =>
  nm (((1 : Int32) + r_67) ||| (r_69 * (5 : Int32))) (fun v_71 =>
  bd (f_L_up (v_1 >>> ((15 : Int32) &&& 31)) (90 : Int32)) (fun r_72 =>
  bd (f_B_thing r_4 (0 : Int32) so) (fun r_74 =>
  bd (f_L_up (v_1 >>> ((22 : Int32) &&& 31)) (2 : Int32)) (fun r_76 =>
  if r_76 = (0 : Int32) then
  (if r_74 = v_66 then
  (bd2 (f_B_gainBy r_2 v_66 r_4 v_71 r_72 so) (fun r_104 so_105 =>
  bd2 (f_B_gainBy ((9 : Int32) - r_2) ((9 : Int32) - v_66) r_4 v_71 r_72 sp) (fun r_107 sp_108 =>
  if r_104 = r_107 then
  (if r_104 = (-1 : Int32) then
  (some (so_105, sp_108))
  else
  (bd (f_B_value (6 : Int32) so_105) (fun r_112 =>
  bd2 (f_B_grant r_2 v_66 r_4 v_71 r_72 so_105) (fun r_114 so_115 =>
  if r_104 < (0 : Int32) then
  (none)
  else
  (bd2 (f_B_grant ((9 : Int32) - r_2) ((9 : Int32) - v_66) r_4 v_71 r_72 sp_108) (fun r_118 sp_119 =>
  if r_114 = r_118 then
  (bd (f_B_value (6 : Int32) so_115) (fun r_122 =>
  if r_122 = r_112 + r_104 then
  (bd (f_B_grantOf r_114 (3 : Int32) so_115) (fun r_125 =>
  if r_125 = v_71 then
  (some (so_115, sp_119))
  else
  (none)))
  else
  (none)))
  else
  (none)))))))
  else
  (none))))
  else
  (bd2 (f_B_gainBy r_74 v_66 r_4 v_71 r_72 so) (fun r_128 so_129 =>
  bd2 (f_B_gainBy ((9 : Int32) - r_74) ((9 : Int32) - v_66) r_4 v_71 r_72 sp) (fun r_131 sp_132 =>
  if r_128 = r_131 then
  (if r_128 = (-1 : Int32) then
  (some (so_129, sp_132))
  else
  (bd (f_B_value (6 : Int32) so_129) (fun r_136 =>
  bd2 (f_B_grant r_74 v_66 r_4 v_71 r_72 so_129) (fun r_138 so_139 =>
  if r_128 < (0 : Int32) then
  (none)
  else
  (bd2 (f_B_grant ((9 : Int32) - r_74) ((9 : Int32) - v_66) r_4 v_71 r_72 sp_132) (fun r_142 sp_143 =>
  if r_138 = r_142 then
  (bd (f_B_value (6 : Int32) so_139) (fun r_146 =>
  if r_146 = r_136 + r_128 then
  (bd (f_B_grantOf r_138 (3 : Int32) so_139) (fun r_149 =>
  if r_149 = v_71 then
  (some (so_139, sp_143))
  else
  (none)))
  else
  (none)))
  else
  (none)))))))
  else
  (none)))))
  else
  (bd2 (f_B_gainBy r_2 v_66 r_4 v_71 r_72 so) (fun r_79 so_80 =>
  bd2 (f_B_gainBy ((9 : Int32) - r_2) ((9 : Int32) - v_66) r_4 v_71 r_72 sp) (fun r_82 sp_83 =>
  if r_79 = r_82 then
  (if r_79 = (-1 : Int32) then
  (some (so_80, sp_83))
  else
  (bd (f_B_value (6 : Int32) so_80) (fun r_87 =>
  bd2 (f_B_grant r_2 v_66 r_4 v_71 r_72 so_80) (fun r_89 so_90 =>
  if r_79 < (0 : Int32) then
  (none)
  else
  (bd2 (f_B_grant ((9 : Int32) - r_2) ((9 : Int32) - v_66) r_4 v_71 r_72 sp_83) (fun r_93 sp_94 =>
  if r_89 = r_93 then
  (bd (f_B_value (6 : Int32) so_90) (fun r_97 =>
  if r_97 = r_87 + r_79 then
  (bd (f_B_grantOf r_89 (3 : Int32) so_90) (fun r_100 =>
  if r_100 = v_71 then
  (some (so_90, sp_94))
  else
  (none)))
  else
  (none)))
  else
  (none)))))))
  else
  (none)))))))))))))))))))))
set_option maxHeartbeats 4000000 in
set_option maxRecDepth 100000 in
theorem c_L_isStep (l : Launch) (X : cx_G) (ao : LAd) (ap : LAd) (so : LSt) (sp : LSt) (x2 : Int32) (so' : LSt) (sp' : LSt) (hf : f_L_isStep x2 so sp = some (so', sp')) : Fn l yL_isStep wsL_isStep ({ frames := 5, cells := 0, slots := 0, locals := 127 } : Room) X [.ref (ao.1), .ref (ap.1), .int x2] ((wLS X ao so) ++ (wLS X ap sp)) (some (.int 1)) ((wLS X ao so') ++ (wLS X ap sp')) := by
  refine fn_intro (cc := cL_isStep) (maxL := 14) (ret := (some .boolean)) (by decide) rfl (wB_fst.trans wB_fst.symm) (Nat.le_of_ble_eq_true rfl) ?_
  intro p e s m args below meth c A ls hx hb hml hr hts hown hlocks hK hP hD0 hS hA hl
  have hown : s.vm.findClass RL = some m.cls := hown
  have hl : lv_has ls 14 [(0, .ref (ao.1)), (1, .ref (ap.1)), (2, .int x2)] := hl
  unfold f_L_isStep at hf
  refine lv_iload_n hx hb dL_isStep_0 rfl (lv_at hl 2 rfl) ?_
  refine lv_iconst (v := 4) hx hb dL_isStep_1 (by decide) ?_
  refine lv_ishr hx hb dL_isStep_2 ?_
  refine lv_topi (fun v_1 ev_1 => ?_)
  replace hf := nm_of ev_1 hf
  refine lv_istore_n (lv' := [(3, .int v_1), (0, .ref (ao.1)), (1, .ref (ap.1)), (2, .int x2)]) hx hb dL_isStep_3 rfl hl (by decide) rfl (fun ls hl => ?_)
  refine lv_iload_n hx hb dL_isStep_4 rfl (lv_at hl 0 rfl) ?_
  refine lv_bipush (v := 10) hx hb dL_isStep_5 (by decide) ?_
  obtain ⟨r_2, hc_3, hf⟩ := bd_of hf
  refine fn_Sx (v := some (.int r_2)) (As := [.int v_1, .int (10 : Int32)]) (rest := []) (st1 := [.int r_2]) (ws' := ((wLS X ao so) ++ (wLS X ap sp))) (nL := 14) ⟨hx, hb, hml, hown, hts⟩ (c_L_up l X v_1 (10 : Int32) r_2 hc_3) (va_cwS 2 hts gL_isStep_L_up rfl rfl rfl (by decide +kernel) ⟨Nat.le_of_ble_eq_true rfl, Nat.le_of_ble_eq_true rfl⟩) rfl hl.1 rfl (Nat.le_of_ble_eq_true rfl) dL_isStep_7 hK hP (hD0.addr (wB_fst.trans wB_fst.symm)) hS hA [] (by decide +kernel) rfl (pt_setid _ _ _ rfl) rfl ⟨Nat.zero_le _, Nat.zero_le _⟩ (fun H locs hP hD hS => ?_)
  refine lv_istore (lv' := [(4, .int r_2), (3, .int v_1), (0, .ref (ao.1)), (1, .ref (ap.1)), (2, .int x2)]) hx hb dL_isStep_10 hl (by decide) rfl (fun ls hl => ?_)
  refine lv_iload_n hx hb dL_isStep_12 rfl (lv_at hl 1 rfl) ?_
  refine lv_iconst (v := 4) hx hb dL_isStep_13 (by decide) ?_
  refine lv_ishr hx hb dL_isStep_14 ?_
  refine lv_iconst (v := 3) hx hb dL_isStep_15 (by decide) ?_
  obtain ⟨r_4, hc_5, hf⟩ := bd_of hf
  refine fn_Sx (v := some (.int r_4)) (As := [.int (v_1 >>> ((4 : Int32) &&& 31)), .int (3 : Int32)]) (rest := []) (st1 := [.int r_4]) (ws' := ((wLS X ao so) ++ (wLS X ap sp))) (nL := 14) ⟨hx, hb, hml, hown, hts⟩ (c_L_up l X (v_1 >>> ((4 : Int32) &&& 31)) (3 : Int32) r_4 hc_5) (va_cwS 2 hts gL_isStep_L_up rfl rfl rfl (by decide +kernel) ⟨Nat.le_of_ble_eq_true rfl, Nat.le_of_ble_eq_true rfl⟩) rfl hl.1 rfl (Nat.le_of_ble_eq_true rfl) dL_isStep_16 hK hP (hD0.addr (wB_fst.trans wB_fst.symm)) hS hA [] (by decide +kernel) rfl (pt_setid _ _ _ rfl) rfl ⟨Nat.zero_le _, Nat.zero_le _⟩ (fun H locs hP hD hS => ?_)
  refine lv_istore (lv' := [(5, .int r_4), (4, .int r_2), (3, .int v_1), (0, .ref (ao.1)), (1, .ref (ap.1)), (2, .int x2)]) hx hb dL_isStep_19 hl (by decide) rfl (fun ls hl => ?_)
  refine lv_iload_n hx hb dL_isStep_21 rfl (lv_at hl 5 rfl) ?_
  refine lv_bipush (v := 11) hx hb dL_isStep_22 (by decide) ?_
  obtain ⟨r_6, hc_7, hf⟩ := bd_of hf
  refine fn_Sx (v := some (.int r_6)) (As := [.int x2, .int (11 : Int32)]) (rest := []) (st1 := [.int r_6]) (ws' := ((wLS X ao so) ++ (wLS X ap sp))) (nL := 14) ⟨hx, hb, hml, hown, hts⟩ (c_L_up l X x2 (11 : Int32) r_6 hc_7) (va_cwS 2 hts gL_isStep_L_up rfl rfl rfl (by decide +kernel) ⟨Nat.le_of_ble_eq_true rfl, Nat.le_of_ble_eq_true rfl⟩) rfl hl.1 rfl (Nat.le_of_ble_eq_true rfl) dL_isStep_24 hK hP (hD0.addr (wB_fst.trans wB_fst.symm)) hS hA [] (by decide +kernel) rfl (pt_setid _ _ _ rfl) rfl ⟨Nat.zero_le _, Nat.zero_le _⟩ (fun H locs hP hD hS => ?_)
  by_cases c_8 : r_6 = (0 : Int32)
  · replace hf := fp_t c_8 hf
    refine lv_tableIn (off := 33) (tgt := 60) hx hb dL_isStep_27 (by rw [c_8]; decide) (by rw [c_8]; decide) (by rw [c_8]; rfl) (by decide) ?_
    refine lv_aload_n hx hb dL_isStep_60 rfl (lv_at hl 3 rfl) ?_
    refine lv_iload hx hb dL_isStep_61 (lv_at hl 1 rfl) ?_
    refine lv_iload_n hx hb dL_isStep_63 rfl (lv_at hl 2 rfl) ?_
    refine lv_bipush (v := 6) hx hb dL_isStep_64 (by decide) ?_
    refine lv_ishr hx hb dL_isStep_66 ?_
    refine lv_bipush (v := 120) hx hb dL_isStep_67 (by decide) ?_
    obtain ⟨r_9, hc_10, hf⟩ := bd_of hf
    refine fn_Sx (v := some (.int r_9)) (As := [.int (v_1 >>> ((6 : Int32) &&& 31)), .int (120 : Int32)]) (rest := [.int r_2, .ref (ao.1)]) (st1 := [.int r_9, .int r_2, .ref (ao.1)]) (ws' := ((wLS X ao so) ++ (wLS X ap sp))) (nL := 14) ⟨hx, hb, hml, hown, hts⟩ (c_L_up l X (v_1 >>> ((6 : Int32) &&& 31)) (120 : Int32) r_9 hc_10) (va_cwS 2 hts gL_isStep_L_up rfl rfl rfl (by decide +kernel) ⟨Nat.le_of_ble_eq_true rfl, Nat.le_of_ble_eq_true rfl⟩) rfl hl.1 rfl (Nat.le_of_ble_eq_true rfl) dL_isStep_69 hK hP (hD0.addr (wB_fst.trans wB_fst.symm)) hS hA [] (by decide +kernel) rfl (pt_setid _ _ _ rfl) rfl ⟨Nat.zero_le _, Nat.zero_le _⟩ (fun H locs hP hD hS => ?_)
    refine lv_bipush (v := 80) hx hb dL_isStep_72 (by decide) ?_
    refine lv_isub hx hb dL_isStep_74 ?_
    obtain ⟨r_11, so_12, hc_13, hf⟩ := bd2_of hf
    refine fn_VJ (v := some (.int r_11)) (As := [.int r_2, .int (r_9 - (80 : Int32))]) (rest := []) (st1 := [.int r_11]) (ws' := ((wLS X ao so_12) ++ (wLS X ap sp))) (nL := 14) ⟨hx, hb, hml, hown, hts⟩ (c_B_cheer l X ao so r_2 (r_9 - (80 : Int32)) r_11 so_12 hc_13) (cwV 2 hts gL_isStep_X5_cheer rfl rfl rfl (by decide +kernel) ⟨Nat.le_of_ble_eq_true rfl, Nat.le_of_ble_eq_true rfl⟩) 5 rfl rfl rfl rfl hl.1 rfl (Nat.le_of_ble_eq_true rfl) dL_isStep_75 hK hP (hD0.addr (wB_fst.trans wB_fst.symm)) hS hA [0, 1, 2, 3, 4, 5, 6, 7, 8, 9, 10, 11, 12, 13, 14, 15, 16, 17, 18, 19, 20, 21, 22, 23, 24, 25, 26, 27, 28, 29, 30, 31, 32, 33, 34, 35, 36, 37, 38, 39, 40, 41, 42, 43, 44, 45, 46, 47, 48, 49, 50, 51, 52, 53, 54, 55, 56, 57, 58, 59, 60, 61, 62, 63, 64, 65, 66, 67, 68, 69, 70, 71, 72, 73, 74, 75, 76] (by decide +kernel) bC_o bJ_o (wB_fst.trans wB_fst.symm) rfl ⟨Nat.zero_le _, Nat.zero_le _⟩ (fun H locs hP hD hS => ?_)
    refine lv_aload_n hx hb dL_isStep_78 rfl (lv_at hl 4 rfl) ?_
    refine lv_bipush (v := 9) hx hb dL_isStep_79 (by decide) ?_
    refine lv_iload hx hb dL_isStep_81 (lv_at hl 1 rfl) ?_
    refine lv_isub hx hb dL_isStep_83 ?_
    refine lv_iload_n hx hb dL_isStep_84 rfl (lv_at hl 2 rfl) ?_
    refine lv_bipush (v := 6) hx hb dL_isStep_85 (by decide) ?_
    refine lv_ishr hx hb dL_isStep_87 ?_
    refine lv_bipush (v := 120) hx hb dL_isStep_88 (by decide) ?_
    obtain ⟨r_14, hc_15, hf⟩ := bd_of hf
    refine fn_Sx (v := some (.int r_14)) (As := [.int (v_1 >>> ((6 : Int32) &&& 31)), .int (120 : Int32)]) (rest := [.int ((9 : Int32) - r_2), .ref (ap.1), .int r_11]) (st1 := [.int r_14, .int ((9 : Int32) - r_2), .ref (ap.1), .int r_11]) (ws' := ((wLS X ao so_12) ++ (wLS X ap sp))) (nL := 14) ⟨hx, hb, hml, hown, hts⟩ (c_L_up l X (v_1 >>> ((6 : Int32) &&& 31)) (120 : Int32) r_14 hc_15) (va_cwS 2 hts gL_isStep_L_up rfl rfl rfl (by decide +kernel) ⟨Nat.le_of_ble_eq_true rfl, Nat.le_of_ble_eq_true rfl⟩) rfl hl.1 rfl (Nat.le_of_ble_eq_true rfl) dL_isStep_90 hK hP (hD0.addr (wB_fst.trans wB_fst.symm)) hS hA [] (by decide +kernel) rfl (pt_setid _ _ _ rfl) rfl ⟨Nat.zero_le _, Nat.zero_le _⟩ (fun H locs hP hD hS => ?_)
    refine lv_bipush (v := 80) hx hb dL_isStep_93 (by decide) ?_
    refine lv_isub hx hb dL_isStep_95 ?_
    obtain ⟨r_16, sp_17, hc_18, hf⟩ := bd2_of hf
    refine fn_VJ (v := some (.int r_16)) (As := [.int ((9 : Int32) - r_2), .int (r_14 - (80 : Int32))]) (rest := [.int r_11]) (st1 := [.int r_16, .int r_11]) (ws' := ((wLS X ao so_12) ++ (wLS X ap sp_17))) (nL := 14) ⟨hx, hb, hml, hown, hts⟩ (c_B_cheer l X ap sp ((9 : Int32) - r_2) (r_14 - (80 : Int32)) r_16 sp_17 hc_18) (cwV 2 hts gL_isStep_X5_cheer rfl rfl rfl (by decide +kernel) ⟨Nat.le_of_ble_eq_true rfl, Nat.le_of_ble_eq_true rfl⟩) 5 rfl rfl rfl rfl hl.1 rfl (Nat.le_of_ble_eq_true rfl) dL_isStep_96 hK hP (hD0.addr (wB_fst.trans wB_fst.symm)) hS hA [77, 78, 79, 80, 81, 82, 83, 84, 85, 86, 87, 88, 89, 90, 91, 92, 93, 94, 95, 96, 97, 98, 99, 100, 101, 102, 103, 104, 105, 106, 107, 108, 109, 110, 111, 112, 113, 114, 115, 116, 117, 118, 119, 120, 121, 122, 123, 124, 125, 126, 127, 128, 129, 130, 131, 132, 133, 134, 135, 136, 137, 138, 139, 140, 141, 142, 143, 144, 145, 146, 147, 148, 149, 150, 151, 152, 153] (by decide +kernel) bC_p bJ_p (wB_fst.trans wB_fst.symm) rfl ⟨Nat.zero_le _, Nat.zero_le _⟩ (fun H locs hP hD hS => ?_)
    refine lv_icmp_ne (tgt := 106) hx hb dL_isStep_99 (by decide) (fun c_19 => ?_) (fun c_19 => ?_)
    · replace hf := fp_f c_19 hf
      refine lv_iconst (v := 0) hx hb dL_isStep_106 (by decide) ?_
      cases hf
    · replace hf := fp_t c_19 hf
      refine lv_iconst (v := 1) hx hb dL_isStep_102 (by decide) ?_
      refine lv_goto (tgt := 107) hx hb dL_isStep_103 (by decide) ?_
      cases hf
      exact fn_zret hx hb hr rfl hlocks hP hS dL_isStep_107
  · replace hf := fp_f c_8 hf
    by_cases c_20 : r_6 = (1 : Int32)
    · replace hf := fp_t c_20 hf
      refine lv_tableIn (off := 81) (tgt := 108) hx hb dL_isStep_27 (by rw [c_20]; decide) (by rw [c_20]; decide) (by rw [c_20]; rfl) (by decide) ?_
      refine lv_aload_n hx hb dL_isStep_108 rfl (lv_at hl 3 rfl) ?_
      refine lv_iload hx hb dL_isStep_109 (lv_at hl 1 rfl) ?_
      refine lv_iload_n hx hb dL_isStep_111 rfl (lv_at hl 2 rfl) ?_
      refine lv_iconst (v := 4) hx hb dL_isStep_112 (by decide) ?_
      refine lv_ishr hx hb dL_isStep_113 ?_
      refine lv_bipush (v := 101) hx hb dL_isStep_114 (by decide) ?_
      obtain ⟨r_21, hc_22, hf⟩ := bd_of hf
      refine fn_Sx (v := some (.int r_21)) (As := [.int (v_1 >>> ((4 : Int32) &&& 31)), .int (101 : Int32)]) (rest := [.int r_2, .ref (ao.1)]) (st1 := [.int r_21, .int r_2, .ref (ao.1)]) (ws' := ((wLS X ao so) ++ (wLS X ap sp))) (nL := 14) ⟨hx, hb, hml, hown, hts⟩ (c_L_up l X (v_1 >>> ((4 : Int32) &&& 31)) (101 : Int32) r_21 hc_22) (va_cwS 2 hts gL_isStep_L_up rfl rfl rfl (by decide +kernel) ⟨Nat.le_of_ble_eq_true rfl, Nat.le_of_ble_eq_true rfl⟩) rfl hl.1 rfl (Nat.le_of_ble_eq_true rfl) dL_isStep_116 hK hP (hD0.addr (wB_fst.trans wB_fst.symm)) hS hA [] (by decide +kernel) rfl (pt_setid _ _ _ rfl) rfl ⟨Nat.zero_le _, Nat.zero_le _⟩ (fun H locs hP hD hS => ?_)
      obtain ⟨r_23, so_24, hc_25, hf⟩ := bd2_of hf
      refine fn_VJ (v := some (.int r_23)) (As := [.int r_2, .int r_21]) (rest := []) (st1 := [.int r_23]) (ws' := ((wLS X ao so_24) ++ (wLS X ap sp))) (nL := 14) ⟨hx, hb, hml, hown, hts⟩ (c_B_setBase l X ao so r_2 r_21 r_23 so_24 hc_25) (cwV 2 hts gL_isStep_X5_setBase rfl rfl rfl (by decide +kernel) ⟨Nat.le_of_ble_eq_true rfl, Nat.le_of_ble_eq_true rfl⟩) 5 rfl rfl rfl rfl hl.1 rfl (Nat.le_of_ble_eq_true rfl) dL_isStep_119 hK hP (hD0.addr (wB_fst.trans wB_fst.symm)) hS hA [0, 1, 2, 3, 4, 5, 6, 7, 8, 9, 10, 11, 12, 13, 14, 15, 16, 17, 18, 19, 20, 21, 22, 23, 24, 25, 26, 27, 28, 29, 30, 31, 32, 33, 34, 35, 36, 37, 38, 39, 40, 41, 42, 43, 44, 45, 46, 47, 48, 49, 50, 51, 52, 53, 54, 55, 56, 57, 58, 59, 60, 61, 62, 63, 64, 65, 66, 67, 68, 69, 70, 71, 72, 73, 74, 75, 76] (by decide +kernel) bC_o bJ_o (wB_fst.trans wB_fst.symm) rfl ⟨Nat.zero_le _, Nat.zero_le _⟩ (fun H locs hP hD hS => ?_)
      refine lv_aload_n hx hb dL_isStep_122 rfl (lv_at hl 4 rfl) ?_
      refine lv_bipush (v := 9) hx hb dL_isStep_123 (by decide) ?_
      refine lv_iload hx hb dL_isStep_125 (lv_at hl 1 rfl) ?_
      refine lv_isub hx hb dL_isStep_127 ?_
      refine lv_iload_n hx hb dL_isStep_128 rfl (lv_at hl 2 rfl) ?_
      refine lv_iconst (v := 4) hx hb dL_isStep_129 (by decide) ?_
      refine lv_ishr hx hb dL_isStep_130 ?_
      refine lv_bipush (v := 101) hx hb dL_isStep_131 (by decide) ?_
      obtain ⟨r_26, hc_27, hf⟩ := bd_of hf
      refine fn_Sx (v := some (.int r_26)) (As := [.int (v_1 >>> ((4 : Int32) &&& 31)), .int (101 : Int32)]) (rest := [.int ((9 : Int32) - r_2), .ref (ap.1), .int r_23]) (st1 := [.int r_26, .int ((9 : Int32) - r_2), .ref (ap.1), .int r_23]) (ws' := ((wLS X ao so_24) ++ (wLS X ap sp))) (nL := 14) ⟨hx, hb, hml, hown, hts⟩ (c_L_up l X (v_1 >>> ((4 : Int32) &&& 31)) (101 : Int32) r_26 hc_27) (va_cwS 2 hts gL_isStep_L_up rfl rfl rfl (by decide +kernel) ⟨Nat.le_of_ble_eq_true rfl, Nat.le_of_ble_eq_true rfl⟩) rfl hl.1 rfl (Nat.le_of_ble_eq_true rfl) dL_isStep_133 hK hP (hD0.addr (wB_fst.trans wB_fst.symm)) hS hA [] (by decide +kernel) rfl (pt_setid _ _ _ rfl) rfl ⟨Nat.zero_le _, Nat.zero_le _⟩ (fun H locs hP hD hS => ?_)
      obtain ⟨r_28, sp_29, hc_30, hf⟩ := bd2_of hf
      refine fn_VJ (v := some (.int r_28)) (As := [.int ((9 : Int32) - r_2), .int r_26]) (rest := [.int r_23]) (st1 := [.int r_28, .int r_23]) (ws' := ((wLS X ao so_24) ++ (wLS X ap sp_29))) (nL := 14) ⟨hx, hb, hml, hown, hts⟩ (c_B_setBase l X ap sp ((9 : Int32) - r_2) r_26 r_28 sp_29 hc_30) (cwV 2 hts gL_isStep_X5_setBase rfl rfl rfl (by decide +kernel) ⟨Nat.le_of_ble_eq_true rfl, Nat.le_of_ble_eq_true rfl⟩) 5 rfl rfl rfl rfl hl.1 rfl (Nat.le_of_ble_eq_true rfl) dL_isStep_136 hK hP (hD0.addr (wB_fst.trans wB_fst.symm)) hS hA [77, 78, 79, 80, 81, 82, 83, 84, 85, 86, 87, 88, 89, 90, 91, 92, 93, 94, 95, 96, 97, 98, 99, 100, 101, 102, 103, 104, 105, 106, 107, 108, 109, 110, 111, 112, 113, 114, 115, 116, 117, 118, 119, 120, 121, 122, 123, 124, 125, 126, 127, 128, 129, 130, 131, 132, 133, 134, 135, 136, 137, 138, 139, 140, 141, 142, 143, 144, 145, 146, 147, 148, 149, 150, 151, 152, 153] (by decide +kernel) bC_p bJ_p (wB_fst.trans wB_fst.symm) rfl ⟨Nat.zero_le _, Nat.zero_le _⟩ (fun H locs hP hD hS => ?_)
      refine lv_icmp_ne (tgt := 146) hx hb dL_isStep_139 (by decide) (fun c_31 => ?_) (fun c_31 => ?_)
      · replace hf := fp_f c_31 hf
        refine lv_iconst (v := 0) hx hb dL_isStep_146 (by decide) ?_
        cases hf
      · replace hf := fp_t c_31 hf
        refine lv_iconst (v := 1) hx hb dL_isStep_142 (by decide) ?_
        refine lv_goto (tgt := 147) hx hb dL_isStep_143 (by decide) ?_
        cases hf
        exact fn_zret hx hb hr rfl hlocks hP hS dL_isStep_147
    · replace hf := fp_f c_20 hf
      by_cases c_32 : r_6 = (2 : Int32)
      · replace hf := fp_t c_32 hf
        refine lv_tableIn (off := 121) (tgt := 148) hx hb dL_isStep_27 (by rw [c_32]; decide) (by rw [c_32]; decide) (by rw [c_32]; rfl) (by decide) ?_
        refine lv_aload_n hx hb dL_isStep_148 rfl (lv_at hl 3 rfl) ?_
        refine lv_iload hx hb dL_isStep_149 (lv_at hl 0 rfl) ?_
        refine lv_iload_n hx hb dL_isStep_151 rfl (lv_at hl 2 rfl) ?_
        refine lv_bipush (v := 6) hx hb dL_isStep_152 (by decide) ?_
        refine lv_ishr hx hb dL_isStep_154 ?_
        refine lv_bipush (v := 8) hx hb dL_isStep_155 (by decide) ?_
        obtain ⟨r_33, hc_34, hf⟩ := bd_of hf
        refine fn_Sx (v := some (.int r_33)) (As := [.int (v_1 >>> ((6 : Int32) &&& 31)), .int (8 : Int32)]) (rest := [.int r_4, .ref (ao.1)]) (st1 := [.int r_33, .int r_4, .ref (ao.1)]) (ws' := ((wLS X ao so) ++ (wLS X ap sp))) (nL := 14) ⟨hx, hb, hml, hown, hts⟩ (c_L_up l X (v_1 >>> ((6 : Int32) &&& 31)) (8 : Int32) r_33 hc_34) (va_cwS 2 hts gL_isStep_L_up rfl rfl rfl (by decide +kernel) ⟨Nat.le_of_ble_eq_true rfl, Nat.le_of_ble_eq_true rfl⟩) rfl hl.1 rfl (Nat.le_of_ble_eq_true rfl) dL_isStep_157 hK hP (hD0.addr (wB_fst.trans wB_fst.symm)) hS hA [] (by decide +kernel) rfl (pt_setid _ _ _ rfl) rfl ⟨Nat.zero_le _, Nat.zero_le _⟩ (fun H locs hP hD hS => ?_)
        refine lv_iconst (v := 5) hx hb dL_isStep_160 (by decide) ?_
        refine lv_ior hx hb dL_isStep_161 ?_
        obtain ⟨r_35, so_36, hc_37, hf⟩ := bd2_of hf
        refine fn_VJ (v := some (.int r_35)) (As := [.int r_4, .int (r_33 ||| (5 : Int32))]) (rest := []) (st1 := [.int r_35]) (ws' := ((wLS X ao so_36) ++ (wLS X ap sp))) (nL := 14) ⟨hx, hb, hml, hown, hts⟩ (c_B_setMask l X ao so r_4 (r_33 ||| (5 : Int32)) r_35 so_36 hc_37) (cwV 2 hts gL_isStep_X5_setMask rfl rfl rfl (by decide +kernel) ⟨Nat.le_of_ble_eq_true rfl, Nat.le_of_ble_eq_true rfl⟩) 5 rfl rfl rfl rfl hl.1 rfl (Nat.le_of_ble_eq_true rfl) dL_isStep_162 hK hP (hD0.addr (wB_fst.trans wB_fst.symm)) hS hA [0, 1, 2, 3, 4, 5, 6, 7, 8, 9, 10, 11, 12, 13, 14, 15, 16, 17, 18, 19, 20, 21, 22, 23, 24, 25, 26, 27, 28, 29, 30, 31, 32, 33, 34, 35, 36, 37, 38, 39, 40, 41, 42, 43, 44, 45, 46, 47, 48, 49, 50, 51, 52, 53, 54, 55, 56, 57, 58, 59, 60, 61, 62, 63, 64, 65, 66, 67, 68, 69, 70, 71, 72, 73, 74, 75, 76] (by decide +kernel) bC_o bJ_o (wB_fst.trans wB_fst.symm) rfl ⟨Nat.zero_le _, Nat.zero_le _⟩ (fun H locs hP hD hS => ?_)
        refine lv_aload_n hx hb dL_isStep_165 rfl (lv_at hl 4 rfl) ?_
        refine lv_iload hx hb dL_isStep_166 (lv_at hl 0 rfl) ?_
        refine lv_iload_n hx hb dL_isStep_168 rfl (lv_at hl 2 rfl) ?_
        refine lv_bipush (v := 6) hx hb dL_isStep_169 (by decide) ?_
        refine lv_ishr hx hb dL_isStep_171 ?_
        refine lv_bipush (v := 8) hx hb dL_isStep_172 (by decide) ?_
        obtain ⟨r_38, hc_39, hf⟩ := bd_of hf
        refine fn_Sx (v := some (.int r_38)) (As := [.int (v_1 >>> ((6 : Int32) &&& 31)), .int (8 : Int32)]) (rest := [.int r_4, .ref (ap.1), .int r_35]) (st1 := [.int r_38, .int r_4, .ref (ap.1), .int r_35]) (ws' := ((wLS X ao so_36) ++ (wLS X ap sp))) (nL := 14) ⟨hx, hb, hml, hown, hts⟩ (c_L_up l X (v_1 >>> ((6 : Int32) &&& 31)) (8 : Int32) r_38 hc_39) (va_cwS 2 hts gL_isStep_L_up rfl rfl rfl (by decide +kernel) ⟨Nat.le_of_ble_eq_true rfl, Nat.le_of_ble_eq_true rfl⟩) rfl hl.1 rfl (Nat.le_of_ble_eq_true rfl) dL_isStep_174 hK hP (hD0.addr (wB_fst.trans wB_fst.symm)) hS hA [] (by decide +kernel) rfl (pt_setid _ _ _ rfl) rfl ⟨Nat.zero_le _, Nat.zero_le _⟩ (fun H locs hP hD hS => ?_)
        refine lv_iconst (v := 5) hx hb dL_isStep_177 (by decide) ?_
        refine lv_ior hx hb dL_isStep_178 ?_
        obtain ⟨r_40, sp_41, hc_42, hf⟩ := bd2_of hf
        refine fn_VJ (v := some (.int r_40)) (As := [.int r_4, .int (r_38 ||| (5 : Int32))]) (rest := [.int r_35]) (st1 := [.int r_40, .int r_35]) (ws' := ((wLS X ao so_36) ++ (wLS X ap sp_41))) (nL := 14) ⟨hx, hb, hml, hown, hts⟩ (c_B_setMask l X ap sp r_4 (r_38 ||| (5 : Int32)) r_40 sp_41 hc_42) (cwV 2 hts gL_isStep_X5_setMask rfl rfl rfl (by decide +kernel) ⟨Nat.le_of_ble_eq_true rfl, Nat.le_of_ble_eq_true rfl⟩) 5 rfl rfl rfl rfl hl.1 rfl (Nat.le_of_ble_eq_true rfl) dL_isStep_179 hK hP (hD0.addr (wB_fst.trans wB_fst.symm)) hS hA [77, 78, 79, 80, 81, 82, 83, 84, 85, 86, 87, 88, 89, 90, 91, 92, 93, 94, 95, 96, 97, 98, 99, 100, 101, 102, 103, 104, 105, 106, 107, 108, 109, 110, 111, 112, 113, 114, 115, 116, 117, 118, 119, 120, 121, 122, 123, 124, 125, 126, 127, 128, 129, 130, 131, 132, 133, 134, 135, 136, 137, 138, 139, 140, 141, 142, 143, 144, 145, 146, 147, 148, 149, 150, 151, 152, 153] (by decide +kernel) bC_p bJ_p (wB_fst.trans wB_fst.symm) rfl ⟨Nat.zero_le _, Nat.zero_le _⟩ (fun H locs hP hD hS => ?_)
        refine lv_icmp_ne (tgt := 189) hx hb dL_isStep_182 (by decide) (fun c_43 => ?_) (fun c_43 => ?_)
        · replace hf := fp_f c_43 hf
          refine lv_iconst (v := 0) hx hb dL_isStep_189 (by decide) ?_
          cases hf
        · replace hf := fp_t c_43 hf
          refine lv_iconst (v := 1) hx hb dL_isStep_185 (by decide) ?_
          refine lv_goto (tgt := 190) hx hb dL_isStep_186 (by decide) ?_
          cases hf
          exact fn_zret hx hb hr rfl hlocks hP hS dL_isStep_190
      · replace hf := fp_f c_32 hf
        by_cases c_44 : r_6 = (3 : Int32)
        · replace hf := fp_t c_44 hf
          refine lv_tableIn (off := 164) (tgt := 191) hx hb dL_isStep_27 (by rw [c_44]; decide) (by rw [c_44]; decide) (by rw [c_44]; rfl) (by decide) ?_
          refine lv_aload_n hx hb dL_isStep_191 rfl (lv_at hl 3 rfl) ?_
          refine lv_iload hx hb dL_isStep_192 (lv_at hl 0 rfl) ?_
          refine lv_iload hx hb dL_isStep_194 (lv_at hl 1 rfl) ?_
          obtain ⟨r_45, so_46, hc_47, hf⟩ := bd2_of hf
          refine fn_VJ (v := some (.int r_45)) (As := [.int r_4, .int r_2]) (rest := []) (st1 := [.int r_45]) (ws' := ((wLS X ao so_46) ++ (wLS X ap sp))) (nL := 14) ⟨hx, hb, hml, hown, hts⟩ (c_B_give l X ao so r_4 r_2 r_45 so_46 hc_47) (cwV 2 hts gL_isStep_X5_give rfl rfl rfl (by decide +kernel) ⟨Nat.le_of_ble_eq_true rfl, Nat.le_of_ble_eq_true rfl⟩) 5 rfl rfl rfl rfl hl.1 rfl (Nat.le_of_ble_eq_true rfl) dL_isStep_196 hK hP (hD0.addr (wB_fst.trans wB_fst.symm)) hS hA [0, 1, 2, 3, 4, 5, 6, 7, 8, 9, 10, 11, 12, 13, 14, 15, 16, 17, 18, 19, 20, 21, 22, 23, 24, 25, 26, 27, 28, 29, 30, 31, 32, 33, 34, 35, 36, 37, 38, 39, 40, 41, 42, 43, 44, 45, 46, 47, 48, 49, 50, 51, 52, 53, 54, 55, 56, 57, 58, 59, 60, 61, 62, 63, 64, 65, 66, 67, 68, 69, 70, 71, 72, 73, 74, 75, 76] (by decide +kernel) bC_o bJ_o (wB_fst.trans wB_fst.symm) rfl ⟨Nat.zero_le _, Nat.zero_le _⟩ (fun H locs hP hD hS => ?_)
          refine lv_bipush (v := 9) hx hb dL_isStep_199 (by decide) ?_
          refine lv_aload_n hx hb dL_isStep_201 rfl (lv_at hl 4 rfl) ?_
          refine lv_iload hx hb dL_isStep_202 (lv_at hl 0 rfl) ?_
          refine lv_bipush (v := 9) hx hb dL_isStep_204 (by decide) ?_
          refine lv_iload hx hb dL_isStep_206 (lv_at hl 1 rfl) ?_
          refine lv_isub hx hb dL_isStep_208 ?_
          obtain ⟨r_48, sp_49, hc_50, hf⟩ := bd2_of hf
          refine fn_VJ (v := some (.int r_48)) (As := [.int r_4, .int ((9 : Int32) - r_2)]) (rest := [.int (9 : Int32), .int r_45]) (st1 := [.int r_48, .int (9 : Int32), .int r_45]) (ws' := ((wLS X ao so_46) ++ (wLS X ap sp_49))) (nL := 14) ⟨hx, hb, hml, hown, hts⟩ (c_B_give l X ap sp r_4 ((9 : Int32) - r_2) r_48 sp_49 hc_50) (cwV 2 hts gL_isStep_X5_give rfl rfl rfl (by decide +kernel) ⟨Nat.le_of_ble_eq_true rfl, Nat.le_of_ble_eq_true rfl⟩) 5 rfl rfl rfl rfl hl.1 rfl (Nat.le_of_ble_eq_true rfl) dL_isStep_209 hK hP (hD0.addr (wB_fst.trans wB_fst.symm)) hS hA [77, 78, 79, 80, 81, 82, 83, 84, 85, 86, 87, 88, 89, 90, 91, 92, 93, 94, 95, 96, 97, 98, 99, 100, 101, 102, 103, 104, 105, 106, 107, 108, 109, 110, 111, 112, 113, 114, 115, 116, 117, 118, 119, 120, 121, 122, 123, 124, 125, 126, 127, 128, 129, 130, 131, 132, 133, 134, 135, 136, 137, 138, 139, 140, 141, 142, 143, 144, 145, 146, 147, 148, 149, 150, 151, 152, 153] (by decide +kernel) bC_p bJ_p (wB_fst.trans wB_fst.symm) rfl ⟨Nat.zero_le _, Nat.zero_le _⟩ (fun H locs hP hD hS => ?_)
          refine lv_isub hx hb dL_isStep_212 ?_
          refine lv_icmp_ne (tgt := 220) hx hb dL_isStep_213 (by decide) (fun c_51 => ?_) (fun c_51 => ?_)
          · replace hf := fp_f c_51 hf
            refine lv_iconst (v := 0) hx hb dL_isStep_220 (by decide) ?_
            cases hf
          · replace hf := fp_t c_51 hf
            refine lv_iconst (v := 1) hx hb dL_isStep_216 (by decide) ?_
            refine lv_goto (tgt := 221) hx hb dL_isStep_217 (by decide) ?_
            cases hf
            exact fn_zret hx hb hr rfl hlocks hP hS dL_isStep_221
        · replace hf := fp_f c_44 hf
          by_cases c_52 : r_6 = (4 : Int32)
          · replace hf := fp_t c_52 hf
            refine lv_tableIn (off := 195) (tgt := 222) hx hb dL_isStep_27 (by rw [c_52]; decide) (by rw [c_52]; decide) (by rw [c_52]; rfl) (by decide) ?_
            refine lv_aload_n hx hb dL_isStep_222 rfl (lv_at hl 3 rfl) ?_
            refine lv_iconst (v := 1) hx hb dL_isStep_223 (by decide) ?_
            refine lv_iload_n hx hb dL_isStep_224 rfl (lv_at hl 2 rfl) ?_
            refine lv_bipush (v := 40) hx hb dL_isStep_225 (by decide) ?_
            obtain ⟨r_53, hc_54, hf⟩ := bd_of hf
            refine fn_Sx (v := some (.int r_53)) (As := [.int v_1, .int (40 : Int32)]) (rest := [.int (1 : Int32), .ref (ao.1)]) (st1 := [.int r_53, .int (1 : Int32), .ref (ao.1)]) (ws' := ((wLS X ao so) ++ (wLS X ap sp))) (nL := 14) ⟨hx, hb, hml, hown, hts⟩ (c_L_up l X v_1 (40 : Int32) r_53 hc_54) (va_cwS 2 hts gL_isStep_L_up rfl rfl rfl (by decide +kernel) ⟨Nat.le_of_ble_eq_true rfl, Nat.le_of_ble_eq_true rfl⟩) rfl hl.1 rfl (Nat.le_of_ble_eq_true rfl) dL_isStep_227 hK hP (hD0.addr (wB_fst.trans wB_fst.symm)) hS hA [] (by decide +kernel) rfl (pt_setid _ _ _ rfl) rfl ⟨Nat.zero_le _, Nat.zero_le _⟩ (fun H locs hP hD hS => ?_)
            refine lv_iadd hx hb dL_isStep_230 ?_
            obtain ⟨r_55, so_56, hc_57, hf⟩ := bd2_of hf
            refine fn_VJ (v := some (.int r_55)) (As := [.int ((1 : Int32) + r_53)]) (rest := []) (st1 := [.int r_55]) (ws' := ((wLS X ao so_56) ++ (wLS X ap sp))) (nL := 14) ⟨hx, hb, hml, hown, hts⟩ (c_B_pass l X ao so ((1 : Int32) + r_53) r_55 so_56 hc_57) (cwV 1 hts gL_isStep_X5_pass rfl rfl rfl (by decide +kernel) ⟨Nat.le_of_ble_eq_true rfl, Nat.le_of_ble_eq_true rfl⟩) 5 rfl rfl rfl rfl hl.1 rfl (Nat.le_of_ble_eq_true rfl) dL_isStep_231 hK hP (hD0.addr (wB_fst.trans wB_fst.symm)) hS hA [0, 1, 2, 3, 4, 5, 6, 7, 8, 9, 10, 11, 12, 13, 14, 15, 16, 17, 18, 19, 20, 21, 22, 23, 24, 25, 26, 27, 28, 29, 30, 31, 32, 33, 34, 35, 36, 37, 38, 39, 40, 41, 42, 43, 44, 45, 46, 47, 48, 49, 50, 51, 52, 53, 54, 55, 56, 57, 58, 59, 60, 61, 62, 63, 64, 65, 66, 67, 68, 69, 70, 71, 72, 73, 74, 75, 76] (by decide +kernel) bC_o bJ_o (wB_fst.trans wB_fst.symm) rfl ⟨Nat.zero_le _, Nat.zero_le _⟩ (fun H locs hP hD hS => ?_)
            refine lv_aload_n hx hb dL_isStep_234 rfl (lv_at hl 4 rfl) ?_
            refine lv_iconst (v := 1) hx hb dL_isStep_235 (by decide) ?_
            refine lv_iload_n hx hb dL_isStep_236 rfl (lv_at hl 2 rfl) ?_
            refine lv_bipush (v := 40) hx hb dL_isStep_237 (by decide) ?_
            obtain ⟨r_58, hc_59, hf⟩ := bd_of hf
            refine fn_Sx (v := some (.int r_58)) (As := [.int v_1, .int (40 : Int32)]) (rest := [.int (1 : Int32), .ref (ap.1), .int r_55]) (st1 := [.int r_58, .int (1 : Int32), .ref (ap.1), .int r_55]) (ws' := ((wLS X ao so_56) ++ (wLS X ap sp))) (nL := 14) ⟨hx, hb, hml, hown, hts⟩ (c_L_up l X v_1 (40 : Int32) r_58 hc_59) (va_cwS 2 hts gL_isStep_L_up rfl rfl rfl (by decide +kernel) ⟨Nat.le_of_ble_eq_true rfl, Nat.le_of_ble_eq_true rfl⟩) rfl hl.1 rfl (Nat.le_of_ble_eq_true rfl) dL_isStep_239 hK hP (hD0.addr (wB_fst.trans wB_fst.symm)) hS hA [] (by decide +kernel) rfl (pt_setid _ _ _ rfl) rfl ⟨Nat.zero_le _, Nat.zero_le _⟩ (fun H locs hP hD hS => ?_)
            refine lv_iadd hx hb dL_isStep_242 ?_
            obtain ⟨r_60, sp_61, hc_62, hf⟩ := bd2_of hf
            refine fn_VJ (v := some (.int r_60)) (As := [.int ((1 : Int32) + r_58)]) (rest := [.int r_55]) (st1 := [.int r_60, .int r_55]) (ws' := ((wLS X ao so_56) ++ (wLS X ap sp_61))) (nL := 14) ⟨hx, hb, hml, hown, hts⟩ (c_B_pass l X ap sp ((1 : Int32) + r_58) r_60 sp_61 hc_62) (cwV 1 hts gL_isStep_X5_pass rfl rfl rfl (by decide +kernel) ⟨Nat.le_of_ble_eq_true rfl, Nat.le_of_ble_eq_true rfl⟩) 5 rfl rfl rfl rfl hl.1 rfl (Nat.le_of_ble_eq_true rfl) dL_isStep_243 hK hP (hD0.addr (wB_fst.trans wB_fst.symm)) hS hA [77, 78, 79, 80, 81, 82, 83, 84, 85, 86, 87, 88, 89, 90, 91, 92, 93, 94, 95, 96, 97, 98, 99, 100, 101, 102, 103, 104, 105, 106, 107, 108, 109, 110, 111, 112, 113, 114, 115, 116, 117, 118, 119, 120, 121, 122, 123, 124, 125, 126, 127, 128, 129, 130, 131, 132, 133, 134, 135, 136, 137, 138, 139, 140, 141, 142, 143, 144, 145, 146, 147, 148, 149, 150, 151, 152, 153] (by decide +kernel) bC_p bJ_p (wB_fst.trans wB_fst.symm) rfl ⟨Nat.zero_le _, Nat.zero_le _⟩ (fun H locs hP hD hS => ?_)
            refine lv_icmp_ne (tgt := 253) hx hb dL_isStep_246 (by decide) (fun c_63 => ?_) (fun c_63 => ?_)
            · replace hf := fp_f c_63 hf
              refine lv_iconst (v := 0) hx hb dL_isStep_253 (by decide) ?_
              cases hf
            · replace hf := fp_t c_63 hf
              refine lv_iconst (v := 1) hx hb dL_isStep_249 (by decide) ?_
              refine lv_goto (tgt := 254) hx hb dL_isStep_250 (by decide) ?_
              cases hf
              exact fn_zret hx hb hr rfl hlocks hP hS dL_isStep_254
          · replace hf := fp_f c_52 hf
            have hsw : r_6.toInt < 0 ∨ (4 : Int) < r_6.toInt := by
              refine sw_out (x := r_6) 4 (by decide) ?_
              intro j hj
              have hj2 : j = 0 ∨ j = 1 ∨ j = 2 ∨ j = 3 ∨ j = 4 := by omega
              rcases hj2 with rfl | rfl | rfl | rfl | rfl
              · exact c_8
              · exact c_20
              · exact c_32
              · exact c_44
              · exact c_52
            refine lv_tableOut (tgt := 255) hx hb dL_isStep_27 hsw (by decide) ?_
            refine lv_iload hx hb dL_isStep_255 (lv_at hl 1 rfl) ?_
            refine lv_iconst (v := 1) hx hb dL_isStep_257 (by decide) ?_
            refine lv_iadd hx hb dL_isStep_258 ?_
            refine lv_iload_n hx hb dL_isStep_259 rfl (lv_at hl 2 rfl) ?_
            refine lv_bipush (v := 6) hx hb dL_isStep_260 (by decide) ?_
            refine lv_ishr hx hb dL_isStep_262 ?_
            refine lv_bipush (v := 9) hx hb dL_isStep_263 (by decide) ?_
            obtain ⟨r_64, hc_65, hf⟩ := bd_of hf
            refine fn_Sx (v := some (.int r_64)) (As := [.int (v_1 >>> ((6 : Int32) &&& 31)), .int (9 : Int32)]) (rest := [.int (r_2 + (1 : Int32))]) (st1 := [.int r_64, .int (r_2 + (1 : Int32))]) (ws' := ((wLS X ao so) ++ (wLS X ap sp))) (nL := 14) ⟨hx, hb, hml, hown, hts⟩ (c_L_up l X (v_1 >>> ((6 : Int32) &&& 31)) (9 : Int32) r_64 hc_65) (va_cwS 2 hts gL_isStep_L_up rfl rfl rfl (by decide +kernel) ⟨Nat.le_of_ble_eq_true rfl, Nat.le_of_ble_eq_true rfl⟩) rfl hl.1 rfl (Nat.le_of_ble_eq_true rfl) dL_isStep_265 hK hP (hD0.addr (wB_fst.trans wB_fst.symm)) hS hA [] (by decide +kernel) rfl (pt_setid _ _ _ rfl) rfl ⟨Nat.zero_le _, Nat.zero_le _⟩ (fun H locs hP hD hS => ?_)
            refine lv_iadd hx hb dL_isStep_268 ?_
            refine lv_bipush (v := 10) hx hb dL_isStep_269 (by decide) ?_
            refine lv_irem hx hb dL_isStep_271 (by decide) ?_
            refine lv_topi (fun v_66 ev_66 => ?_)
            replace hf := nm_of ev_66 hf
            refine lv_istore (lv' := [(6, .int v_66), (5, .int r_4), (4, .int r_2), (3, .int v_1), (0, .ref (ao.1)), (1, .ref (ap.1)), (2, .int x2)]) hx hb dL_isStep_272 hl (by decide) rfl (fun ls hl => ?_)
            refine lv_iconst (v := 1) hx hb dL_isStep_274 (by decide) ?_
            refine lv_iload_n hx hb dL_isStep_275 rfl (lv_at hl 3 rfl) ?_
            refine lv_bipush (v := 10) hx hb dL_isStep_276 (by decide) ?_
            refine lv_ishr hx hb dL_isStep_278 ?_
            refine lv_bipush (v := 7) hx hb dL_isStep_279 (by decide) ?_
            obtain ⟨r_67, hc_68, hf⟩ := bd_of hf
            refine fn_Sx (v := some (.int r_67)) (As := [.int (v_1 >>> ((10 : Int32) &&& 31)), .int (7 : Int32)]) (rest := [.int (1 : Int32)]) (st1 := [.int r_67, .int (1 : Int32)]) (ws' := ((wLS X ao so) ++ (wLS X ap sp))) (nL := 14) ⟨hx, hb, hml, hown, hts⟩ (c_L_up l X (v_1 >>> ((10 : Int32) &&& 31)) (7 : Int32) r_67 hc_68) (va_cwS 2 hts gL_isStep_L_up rfl rfl rfl (by decide +kernel) ⟨Nat.le_of_ble_eq_true rfl, Nat.le_of_ble_eq_true rfl⟩) rfl hl.1 rfl (Nat.le_of_ble_eq_true rfl) dL_isStep_281 hK hP (hD0.addr (wB_fst.trans wB_fst.symm)) hS hA [] (by decide +kernel) rfl (pt_setid _ _ _ rfl) rfl ⟨Nat.zero_le _, Nat.zero_le _⟩ (fun H locs hP hD hS => ?_)
            refine lv_iadd hx hb dL_isStep_284 ?_
            refine lv_iload_n hx hb dL_isStep_285 rfl (lv_at hl 3 rfl) ?_
            refine lv_bipush (v := 13) hx hb dL_isStep_286 (by decide) ?_
            refine lv_ishr hx hb dL_isStep_288 ?_
            refine lv_iconst (v := 2) hx hb dL_isStep_289 (by decide) ?_
            obtain ⟨r_69, hc_70, hf⟩ := bd_of hf
            refine fn_Sx (v := some (.int r_69)) (As := [.int (v_1 >>> ((13 : Int32) &&& 31)), .int (2 : Int32)]) (rest := [.int ((1 : Int32) + r_67)]) (st1 := [.int r_69, .int ((1 : Int32) + r_67)]) (ws' := ((wLS X ao so) ++ (wLS X ap sp))) (nL := 14) ⟨hx, hb, hml, hown, hts⟩ (c_L_up l X (v_1 >>> ((13 : Int32) &&& 31)) (2 : Int32) r_69 hc_70) (va_cwS 2 hts gL_isStep_L_up rfl rfl rfl (by decide +kernel) ⟨Nat.le_of_ble_eq_true rfl, Nat.le_of_ble_eq_true rfl⟩) rfl hl.1 rfl (Nat.le_of_ble_eq_true rfl) dL_isStep_290 hK hP (hD0.addr (wB_fst.trans wB_fst.symm)) hS hA [] (by decide +kernel) rfl (pt_setid _ _ _ rfl) rfl ⟨Nat.zero_le _, Nat.zero_le _⟩ (fun H locs hP hD hS => ?_)
            refine lv_iconst (v := 5) hx hb dL_isStep_293 (by decide) ?_
            refine lv_imul hx hb dL_isStep_294 ?_
            refine lv_ior hx hb dL_isStep_295 ?_
            refine lv_topi (fun v_71 ev_71 => ?_)
            replace hf := nm_of ev_71 hf
            refine lv_istore (lv' := [(7, .int v_71), (6, .int v_66), (5, .int r_4), (4, .int r_2), (3, .int v_1), (0, .ref (ao.1)), (1, .ref (ap.1)), (2, .int x2)]) hx hb dL_isStep_296 hl (by decide) rfl (fun ls hl => ?_)
            refine lv_iload_n hx hb dL_isStep_298 rfl (lv_at hl 4 rfl) ?_
            refine lv_bipush (v := 15) hx hb dL_isStep_299 (by decide) ?_
            refine lv_ishr hx hb dL_isStep_301 ?_
            refine lv_bipush (v := 90) hx hb dL_isStep_302 (by decide) ?_
            obtain ⟨r_72, hc_73, hf⟩ := bd_of hf
            refine fn_Sx (v := some (.int r_72)) (As := [.int (v_1 >>> ((15 : Int32) &&& 31)), .int (90 : Int32)]) (rest := []) (st1 := [.int r_72]) (ws' := ((wLS X ao so) ++ (wLS X ap sp))) (nL := 14) ⟨hx, hb, hml, hown, hts⟩ (c_L_up l X (v_1 >>> ((15 : Int32) &&& 31)) (90 : Int32) r_72 hc_73) (va_cwS 2 hts gL_isStep_L_up rfl rfl rfl (by decide +kernel) ⟨Nat.le_of_ble_eq_true rfl, Nat.le_of_ble_eq_true rfl⟩) rfl hl.1 rfl (Nat.le_of_ble_eq_true rfl) dL_isStep_304 hK hP (hD0.addr (wB_fst.trans wB_fst.symm)) hS hA [] (by decide +kernel) rfl (pt_setid _ _ _ rfl) rfl ⟨Nat.zero_le _, Nat.zero_le _⟩ (fun H locs hP hD hS => ?_)
            refine lv_istore (lv' := [(8, .int r_72), (7, .int v_71), (6, .int v_66), (5, .int r_4), (4, .int r_2), (3, .int v_1), (0, .ref (ao.1)), (1, .ref (ap.1)), (2, .int x2)]) hx hb dL_isStep_307 hl (by decide) rfl (fun ls hl => ?_)
            refine lv_aload_n hx hb dL_isStep_309 rfl (lv_at hl 6 rfl) ?_
            refine lv_iload hx hb dL_isStep_310 (lv_at hl 3 rfl) ?_
            refine lv_iconst (v := 0) hx hb dL_isStep_312 (by decide) ?_
            obtain ⟨r_74, hc_75, hf⟩ := bd_of hf
            refine fn_V (v := some (.int r_74)) (As := [.int r_4, .int (0 : Int32)]) (rest := []) (st1 := [.int r_74]) (ws' := ((wLS X ao so) ++ (wLS X ap sp))) (nL := 14) ⟨hx, hb, hml, hown, hts⟩ (c_B_thing l X ao so r_4 (0 : Int32) r_74 hc_75) (cwV 2 hts gL_isStep_X5_thing rfl rfl rfl (by decide +kernel) ⟨Nat.le_of_ble_eq_true rfl, Nat.le_of_ble_eq_true rfl⟩) 5 rfl rfl rfl rfl hl.1 rfl (Nat.le_of_ble_eq_true rfl) dL_isStep_313 hK hP (hD0.addr (wB_fst.trans wB_fst.symm)) hS hA [0, 1, 2, 3, 4, 5, 6, 7, 8, 9, 10, 11, 12, 13, 14, 15, 16, 17, 18, 19, 20, 21, 22, 23, 24, 25, 26, 27, 28, 29, 30, 31, 32, 33, 34, 35, 36, 37, 38, 39, 40, 41, 42, 43, 44, 45, 46, 47, 48, 49, 50, 51, 52, 53, 54, 55, 56, 57, 58, 59, 60, 61, 62, 63, 64, 65, 66, 67, 68, 69, 70, 71, 72, 73, 74, 75, 76] (by decide +kernel) bC_o (pt_setid _ _ _ bC_o) rfl ⟨Nat.zero_le _, Nat.zero_le _⟩ (fun H locs hP hD hS => ?_)
            refine lv_istore (lv' := [(9, .int r_74), (8, .int r_72), (7, .int v_71), (6, .int v_66), (5, .int r_4), (4, .int r_2), (3, .int v_1), (0, .ref (ao.1)), (1, .ref (ap.1)), (2, .int x2)]) hx hb dL_isStep_316 hl (by decide) rfl (fun ls hl => ?_)
            refine lv_iload_n hx hb dL_isStep_318 rfl (lv_at hl 6 rfl) ?_
            refine lv_bipush (v := 22) hx hb dL_isStep_319 (by decide) ?_
            refine lv_ishr hx hb dL_isStep_321 ?_
            refine lv_iconst (v := 2) hx hb dL_isStep_322 (by decide) ?_
            obtain ⟨r_76, hc_77, hf⟩ := bd_of hf
            refine fn_Sx (v := some (.int r_76)) (As := [.int (v_1 >>> ((22 : Int32) &&& 31)), .int (2 : Int32)]) (rest := []) (st1 := [.int r_76]) (ws' := ((wLS X ao so) ++ (wLS X ap sp))) (nL := 14) ⟨hx, hb, hml, hown, hts⟩ (c_L_up l X (v_1 >>> ((22 : Int32) &&& 31)) (2 : Int32) r_76 hc_77) (va_cwS 2 hts gL_isStep_L_up rfl rfl rfl (by decide +kernel) ⟨Nat.le_of_ble_eq_true rfl, Nat.le_of_ble_eq_true rfl⟩) rfl hl.1 rfl (Nat.le_of_ble_eq_true rfl) dL_isStep_323 hK hP (hD0.addr (wB_fst.trans wB_fst.symm)) hS hA [] (by decide +kernel) rfl (pt_setid _ _ _ rfl) rfl ⟨Nat.zero_le _, Nat.zero_le _⟩ (fun H locs hP hD hS => ?_)
            refine lv_if_ne (tgt := 341) hx hb dL_isStep_326 (by decide) (fun c_78 => ?_) (fun c_78 => ?_)
            · replace hf := fp_f c_78 hf
              refine lv_iload hx hb dL_isStep_341 (lv_at hl 5 rfl) ?_
              refine lv_istore (lv' := [(10, .int r_2), (9, .int r_74), (8, .int r_72), (7, .int v_71), (6, .int v_66), (5, .int r_4), (4, .int r_2), (3, .int v_1), (0, .ref (ao.1)), (1, .ref (ap.1)), (2, .int x2)]) hx hb dL_isStep_343 hl (by decide) rfl (fun ls hl => ?_)
              refine lv_aload_n hx hb dL_isStep_345 rfl (lv_at hl 8 rfl) ?_
              refine lv_iload hx hb dL_isStep_346 (lv_at hl 0 rfl) ?_
              refine lv_iload hx hb dL_isStep_348 (lv_at hl 4 rfl) ?_
              refine lv_iload hx hb dL_isStep_350 (lv_at hl 5 rfl) ?_
              refine lv_iload hx hb dL_isStep_352 (lv_at hl 3 rfl) ?_
              refine lv_iload hx hb dL_isStep_354 (lv_at hl 2 rfl) ?_
              obtain ⟨r_79, so_80, hc_81, hf⟩ := bd2_of hf
              refine fn_VJ (v := some (.int r_79)) (As := [.int r_2, .int v_66, .int r_4, .int v_71, .int r_72]) (rest := []) (st1 := [.int r_79]) (ws' := ((wLS X ao so_80) ++ (wLS X ap sp))) (nL := 14) ⟨hx, hb, hml, hown, hts⟩ (c_B_gainBy l X ao so r_2 v_66 r_4 v_71 r_72 r_79 so_80 hc_81) (cwV 5 hts gL_isStep_X5_gainBy rfl rfl rfl (by decide +kernel) ⟨Nat.le_of_ble_eq_true rfl, Nat.le_of_ble_eq_true rfl⟩) 5 rfl rfl rfl rfl hl.1 rfl (Nat.le_of_ble_eq_true rfl) dL_isStep_356 hK hP (hD0.addr (wB_fst.trans wB_fst.symm)) hS hA [0, 1, 2, 3, 4, 5, 6, 7, 8, 9, 10, 11, 12, 13, 14, 15, 16, 17, 18, 19, 20, 21, 22, 23, 24, 25, 26, 27, 28, 29, 30, 31, 32, 33, 34, 35, 36, 37, 38, 39, 40, 41, 42, 43, 44, 45, 46, 47, 48, 49, 50, 51, 52, 53, 54, 55, 56, 57, 58, 59, 60, 61, 62, 63, 64, 65, 66, 67, 68, 69, 70, 71, 72, 73, 74, 75, 76] (by decide +kernel) bC_o bJ_o (wB_fst.trans wB_fst.symm) rfl ⟨Nat.zero_le _, Nat.zero_le _⟩ (fun H locs hP hD hS => ?_)
              refine lv_istore (lv' := [(11, .int r_79), (10, .int r_2), (9, .int r_74), (8, .int r_72), (7, .int v_71), (6, .int v_66), (5, .int r_4), (4, .int r_2), (3, .int v_1), (0, .ref (ao.1)), (1, .ref (ap.1)), (2, .int x2)]) hx hb dL_isStep_359 hl (by decide) rfl (fun ls hl => ?_)
              refine lv_iload hx hb dL_isStep_361 (lv_at hl 0 rfl) ?_
              refine lv_aload_n hx hb dL_isStep_363 rfl (lv_at hl 10 rfl) ?_
              refine lv_bipush (v := 9) hx hb dL_isStep_364 (by decide) ?_
              refine lv_iload hx hb dL_isStep_366 (lv_at hl 1 rfl) ?_
              refine lv_isub hx hb dL_isStep_368 ?_
              refine lv_bipush (v := 9) hx hb dL_isStep_369 (by decide) ?_
              refine lv_iload hx hb dL_isStep_371 (lv_at hl 5 rfl) ?_
              refine lv_isub hx hb dL_isStep_373 ?_
              refine lv_iload hx hb dL_isStep_374 (lv_at hl 6 rfl) ?_
              refine lv_iload hx hb dL_isStep_376 (lv_at hl 4 rfl) ?_
              refine lv_iload hx hb dL_isStep_378 (lv_at hl 3 rfl) ?_
              obtain ⟨r_82, sp_83, hc_84, hf⟩ := bd2_of hf
              refine fn_VJ (v := some (.int r_82)) (As := [.int ((9 : Int32) - r_2), .int ((9 : Int32) - v_66), .int r_4, .int v_71, .int r_72]) (rest := [.int r_79]) (st1 := [.int r_82, .int r_79]) (ws' := ((wLS X ao so_80) ++ (wLS X ap sp_83))) (nL := 14) ⟨hx, hb, hml, hown, hts⟩ (c_B_gainBy l X ap sp ((9 : Int32) - r_2) ((9 : Int32) - v_66) r_4 v_71 r_72 r_82 sp_83 hc_84) (cwV 5 hts gL_isStep_X5_gainBy rfl rfl rfl (by decide +kernel) ⟨Nat.le_of_ble_eq_true rfl, Nat.le_of_ble_eq_true rfl⟩) 5 rfl rfl rfl rfl hl.1 rfl (Nat.le_of_ble_eq_true rfl) dL_isStep_380 hK hP (hD0.addr (wB_fst.trans wB_fst.symm)) hS hA [77, 78, 79, 80, 81, 82, 83, 84, 85, 86, 87, 88, 89, 90, 91, 92, 93, 94, 95, 96, 97, 98, 99, 100, 101, 102, 103, 104, 105, 106, 107, 108, 109, 110, 111, 112, 113, 114, 115, 116, 117, 118, 119, 120, 121, 122, 123, 124, 125, 126, 127, 128, 129, 130, 131, 132, 133, 134, 135, 136, 137, 138, 139, 140, 141, 142, 143, 144, 145, 146, 147, 148, 149, 150, 151, 152, 153] (by decide +kernel) bC_p bJ_p (wB_fst.trans wB_fst.symm) rfl ⟨Nat.zero_le _, Nat.zero_le _⟩ (fun H locs hP hD hS => ?_)
              refine lv_icmp_eq (tgt := 388) hx hb dL_isStep_383 (by decide) (fun c_85 => ?_) (fun c_85 => ?_)
              · replace hf := fp_t c_85 hf
                refine lv_iload hx hb dL_isStep_388 (lv_at hl 0 rfl) ?_
                refine lv_iconst (v := -1) hx hb dL_isStep_390 (by decide) ?_
                refine lv_icmp_ne (tgt := 396) hx hb dL_isStep_391 (by decide) (fun c_86 => ?_) (fun c_86 => ?_)
                · replace hf := fp_f c_86 hf
                  refine lv_aload_n hx hb dL_isStep_396 rfl (lv_at hl 9 rfl) ?_
                  refine lv_bipush (v := 6) hx hb dL_isStep_397 (by decide) ?_
                  obtain ⟨r_87, hc_88, hf⟩ := bd_of hf
                  refine fn_V (v := some (.int r_87)) (As := [.int (6 : Int32)]) (rest := []) (st1 := [.int r_87]) (ws' := ((wLS X ao so_80) ++ (wLS X ap sp_83))) (nL := 14) ⟨hx, hb, hml, hown, hts⟩ (c_B_value l X ao so_80 (6 : Int32) r_87 hc_88) (cwV 1 hts gL_isStep_X5_value rfl rfl rfl (by decide +kernel) ⟨Nat.le_of_ble_eq_true rfl, Nat.le_of_ble_eq_true rfl⟩) 5 rfl rfl rfl rfl hl.1 rfl (Nat.le_of_ble_eq_true rfl) dL_isStep_399 hK hP (hD0.addr (wB_fst.trans wB_fst.symm)) hS hA [0, 1, 2, 3, 4, 5, 6, 7, 8, 9, 10, 11, 12, 13, 14, 15, 16, 17, 18, 19, 20, 21, 22, 23, 24, 25, 26, 27, 28, 29, 30, 31, 32, 33, 34, 35, 36, 37, 38, 39, 40, 41, 42, 43, 44, 45, 46, 47, 48, 49, 50, 51, 52, 53, 54, 55, 56, 57, 58, 59, 60, 61, 62, 63, 64, 65, 66, 67, 68, 69, 70, 71, 72, 73, 74, 75, 76] (by decide +kernel) bC_o (pt_setid _ _ _ bC_o) rfl ⟨Nat.zero_le _, Nat.zero_le _⟩ (fun H locs hP hD hS => ?_)
                  refine lv_istore (lv' := [(12, .int r_87), (11, .int r_79), (10, .int r_2), (9, .int r_74), (8, .int r_72), (7, .int v_71), (6, .int v_66), (5, .int r_4), (4, .int r_2), (3, .int v_1), (0, .ref (ao.1)), (1, .ref (ap.1)), (2, .int x2)]) hx hb dL_isStep_402 hl (by decide) rfl (fun ls hl => ?_)
                  refine lv_aload_n hx hb dL_isStep_404 rfl (lv_at hl 10 rfl) ?_
                  refine lv_iload hx hb dL_isStep_405 (lv_at hl 2 rfl) ?_
                  refine lv_iload hx hb dL_isStep_407 (lv_at hl 6 rfl) ?_
                  refine lv_iload hx hb dL_isStep_409 (lv_at hl 7 rfl) ?_
                  refine lv_iload hx hb dL_isStep_411 (lv_at hl 5 rfl) ?_
                  refine lv_iload hx hb dL_isStep_413 (lv_at hl 4 rfl) ?_
                  obtain ⟨r_89, so_90, hc_91, hf⟩ := bd2_of hf
                  refine fn_VJ (v := some (.int r_89)) (As := [.int r_2, .int v_66, .int r_4, .int v_71, .int r_72]) (rest := []) (st1 := [.int r_89]) (ws' := ((wLS X ao so_90) ++ (wLS X ap sp_83))) (nL := 14) ⟨hx, hb, hml, hown, hts⟩ (c_B_grant l X ao so_80 r_2 v_66 r_4 v_71 r_72 r_89 so_90 hc_91) (cwV 5 hts gL_isStep_X5_grant rfl rfl rfl (by decide +kernel) ⟨Nat.le_of_ble_eq_true rfl, Nat.le_of_ble_eq_true rfl⟩) 5 rfl rfl rfl rfl hl.1 rfl (Nat.le_of_ble_eq_true rfl) dL_isStep_415 hK hP (hD0.addr (wB_fst.trans wB_fst.symm)) hS hA [0, 1, 2, 3, 4, 5, 6, 7, 8, 9, 10, 11, 12, 13, 14, 15, 16, 17, 18, 19, 20, 21, 22, 23, 24, 25, 26, 27, 28, 29, 30, 31, 32, 33, 34, 35, 36, 37, 38, 39, 40, 41, 42, 43, 44, 45, 46, 47, 48, 49, 50, 51, 52, 53, 54, 55, 56, 57, 58, 59, 60, 61, 62, 63, 64, 65, 66, 67, 68, 69, 70, 71, 72, 73, 74, 75, 76] (by decide +kernel) bC_o bJ_o (wB_fst.trans wB_fst.symm) rfl ⟨Nat.zero_le _, Nat.zero_le _⟩ (fun H locs hP hD hS => ?_)
                  refine lv_istore (lv' := [(13, .int r_89), (12, .int r_87), (11, .int r_79), (10, .int r_2), (9, .int r_74), (8, .int r_72), (7, .int v_71), (6, .int v_66), (5, .int r_4), (4, .int r_2), (3, .int v_1), (0, .ref (ao.1)), (1, .ref (ap.1)), (2, .int x2)]) hx hb dL_isStep_418 hl (by decide) rfl (fun ls hl => ?_)
                  refine lv_iload hx hb dL_isStep_420 (lv_at hl 2 rfl) ?_
                  refine lv_if_lt (tgt := 480) hx hb dL_isStep_422 (by decide) (fun c_92 => ?_) (fun c_92 => ?_)
                  · replace hf := fp_t c_92 hf
                    refine lv_iconst (v := 0) hx hb dL_isStep_480 (by decide) ?_
                    cases hf
                  · replace hf := fp_f c_92 hf
                    refine lv_iload hx hb dL_isStep_425 (lv_at hl 0 rfl) ?_
                    refine lv_aload_n hx hb dL_isStep_427 rfl (lv_at hl 12 rfl) ?_
                    refine lv_bipush (v := 9) hx hb dL_isStep_428 (by decide) ?_
                    refine lv_iload hx hb dL_isStep_430 (lv_at hl 3 rfl) ?_
                    refine lv_isub hx hb dL_isStep_432 ?_
                    refine lv_bipush (v := 9) hx hb dL_isStep_433 (by decide) ?_
                    refine lv_iload hx hb dL_isStep_435 (lv_at hl 7 rfl) ?_
                    refine lv_isub hx hb dL_isStep_437 ?_
                    refine lv_iload hx hb dL_isStep_438 (lv_at hl 8 rfl) ?_
                    refine lv_iload hx hb dL_isStep_440 (lv_at hl 6 rfl) ?_
                    refine lv_iload hx hb dL_isStep_442 (lv_at hl 5 rfl) ?_
                    obtain ⟨r_93, sp_94, hc_95, hf⟩ := bd2_of hf
                    refine fn_VJ (v := some (.int r_93)) (As := [.int ((9 : Int32) - r_2), .int ((9 : Int32) - v_66), .int r_4, .int v_71, .int r_72]) (rest := [.int r_89]) (st1 := [.int r_93, .int r_89]) (ws' := ((wLS X ao so_90) ++ (wLS X ap sp_94))) (nL := 14) ⟨hx, hb, hml, hown, hts⟩ (c_B_grant l X ap sp_83 ((9 : Int32) - r_2) ((9 : Int32) - v_66) r_4 v_71 r_72 r_93 sp_94 hc_95) (cwV 5 hts gL_isStep_X5_grant rfl rfl rfl (by decide +kernel) ⟨Nat.le_of_ble_eq_true rfl, Nat.le_of_ble_eq_true rfl⟩) 5 rfl rfl rfl rfl hl.1 rfl (Nat.le_of_ble_eq_true rfl) dL_isStep_444 hK hP (hD0.addr (wB_fst.trans wB_fst.symm)) hS hA [77, 78, 79, 80, 81, 82, 83, 84, 85, 86, 87, 88, 89, 90, 91, 92, 93, 94, 95, 96, 97, 98, 99, 100, 101, 102, 103, 104, 105, 106, 107, 108, 109, 110, 111, 112, 113, 114, 115, 116, 117, 118, 119, 120, 121, 122, 123, 124, 125, 126, 127, 128, 129, 130, 131, 132, 133, 134, 135, 136, 137, 138, 139, 140, 141, 142, 143, 144, 145, 146, 147, 148, 149, 150, 151, 152, 153] (by decide +kernel) bC_p bJ_p (wB_fst.trans wB_fst.symm) rfl ⟨Nat.zero_le _, Nat.zero_le _⟩ (fun H locs hP hD hS => ?_)
                    refine lv_icmp_ne (tgt := 480) hx hb dL_isStep_447 (by decide) (fun c_96 => ?_) (fun c_96 => ?_)
                    · replace hf := fp_f c_96 hf
                      refine lv_iconst (v := 0) hx hb dL_isStep_480 (by decide) ?_
                      cases hf
                    · replace hf := fp_t c_96 hf
                      refine lv_aload_n hx hb dL_isStep_450 rfl (lv_at hl 11 rfl) ?_
                      refine lv_bipush (v := 6) hx hb dL_isStep_451 (by decide) ?_
                      obtain ⟨r_97, hc_98, hf⟩ := bd_of hf
                      refine fn_V (v := some (.int r_97)) (As := [.int (6 : Int32)]) (rest := []) (st1 := [.int r_97]) (ws' := ((wLS X ao so_90) ++ (wLS X ap sp_94))) (nL := 14) ⟨hx, hb, hml, hown, hts⟩ (c_B_value l X ao so_90 (6 : Int32) r_97 hc_98) (cwV 1 hts gL_isStep_X5_value rfl rfl rfl (by decide +kernel) ⟨Nat.le_of_ble_eq_true rfl, Nat.le_of_ble_eq_true rfl⟩) 5 rfl rfl rfl rfl hl.1 rfl (Nat.le_of_ble_eq_true rfl) dL_isStep_453 hK hP (hD0.addr (wB_fst.trans wB_fst.symm)) hS hA [0, 1, 2, 3, 4, 5, 6, 7, 8, 9, 10, 11, 12, 13, 14, 15, 16, 17, 18, 19, 20, 21, 22, 23, 24, 25, 26, 27, 28, 29, 30, 31, 32, 33, 34, 35, 36, 37, 38, 39, 40, 41, 42, 43, 44, 45, 46, 47, 48, 49, 50, 51, 52, 53, 54, 55, 56, 57, 58, 59, 60, 61, 62, 63, 64, 65, 66, 67, 68, 69, 70, 71, 72, 73, 74, 75, 76] (by decide +kernel) bC_o (pt_setid _ _ _ bC_o) rfl ⟨Nat.zero_le _, Nat.zero_le _⟩ (fun H locs hP hD hS => ?_)
                      refine lv_iload hx hb dL_isStep_456 (lv_at hl 1 rfl) ?_
                      refine lv_iload hx hb dL_isStep_458 (lv_at hl 2 rfl) ?_
                      refine lv_iadd hx hb dL_isStep_460 ?_
                      refine lv_icmp_ne (tgt := 480) hx hb dL_isStep_461 (by decide) (fun c_99 => ?_) (fun c_99 => ?_)
                      · replace hf := fp_f c_99 hf
                        refine lv_iconst (v := 0) hx hb dL_isStep_480 (by decide) ?_
                        cases hf
                      · replace hf := fp_t c_99 hf
                        refine lv_aload_n hx hb dL_isStep_464 rfl (lv_at hl 11 rfl) ?_
                        refine lv_iload hx hb dL_isStep_465 (lv_at hl 0 rfl) ?_
                        refine lv_iconst (v := 3) hx hb dL_isStep_467 (by decide) ?_
                        obtain ⟨r_100, hc_101, hf⟩ := bd_of hf
                        refine fn_V (v := some (.int r_100)) (As := [.int r_89, .int (3 : Int32)]) (rest := []) (st1 := [.int r_100]) (ws' := ((wLS X ao so_90) ++ (wLS X ap sp_94))) (nL := 14) ⟨hx, hb, hml, hown, hts⟩ (c_B_grantOf l X ao so_90 r_89 (3 : Int32) r_100 hc_101) (cwV 2 hts gL_isStep_X5_grantOf rfl rfl rfl (by decide +kernel) ⟨Nat.le_of_ble_eq_true rfl, Nat.le_of_ble_eq_true rfl⟩) 5 rfl rfl rfl rfl hl.1 rfl (Nat.le_of_ble_eq_true rfl) dL_isStep_468 hK hP (hD0.addr (wB_fst.trans wB_fst.symm)) hS hA [0, 1, 2, 3, 4, 5, 6, 7, 8, 9, 10, 11, 12, 13, 14, 15, 16, 17, 18, 19, 20, 21, 22, 23, 24, 25, 26, 27, 28, 29, 30, 31, 32, 33, 34, 35, 36, 37, 38, 39, 40, 41, 42, 43, 44, 45, 46, 47, 48, 49, 50, 51, 52, 53, 54, 55, 56, 57, 58, 59, 60, 61, 62, 63, 64, 65, 66, 67, 68, 69, 70, 71, 72, 73, 74, 75, 76] (by decide +kernel) bC_o (pt_setid _ _ _ bC_o) rfl ⟨Nat.zero_le _, Nat.zero_le _⟩ (fun H locs hP hD hS => ?_)
                        refine lv_iload hx hb dL_isStep_471 (lv_at hl 6 rfl) ?_
                        refine lv_icmp_ne (tgt := 480) hx hb dL_isStep_473 (by decide) (fun c_102 => ?_) (fun c_102 => ?_)
                        · replace hf := fp_f c_102 hf
                          refine lv_iconst (v := 0) hx hb dL_isStep_480 (by decide) ?_
                          cases hf
                        · replace hf := fp_t c_102 hf
                          refine lv_iconst (v := 1) hx hb dL_isStep_476 (by decide) ?_
                          refine lv_goto (tgt := 481) hx hb dL_isStep_477 (by decide) ?_
                          cases hf
                          exact fn_zret hx hb hr rfl hlocks hP hS dL_isStep_481
                · replace hf := fp_t c_86 hf
                  refine lv_iconst (v := 1) hx hb dL_isStep_394 (by decide) ?_
                  cases hf
                  exact fn_zret hx hb hr rfl hlocks hP hS dL_isStep_395
              · replace hf := fp_f c_85 hf
                refine lv_iconst (v := 0) hx hb dL_isStep_386 (by decide) ?_
                cases hf
            · replace hf := fp_t c_78 hf
              refine lv_iload hx hb dL_isStep_329 (lv_at hl 0 rfl) ?_
              refine lv_iload hx hb dL_isStep_331 (lv_at hl 3 rfl) ?_
              refine lv_icmp_eq (tgt := 341) hx hb dL_isStep_333 (by decide) (fun c_103 => ?_) (fun c_103 => ?_)
              · replace hf := fp_t c_103 hf
                refine lv_iload hx hb dL_isStep_341 (lv_at hl 5 rfl) ?_
                refine lv_istore (lv' := [(10, .int r_2), (9, .int r_74), (8, .int r_72), (7, .int v_71), (6, .int v_66), (5, .int r_4), (4, .int r_2), (3, .int v_1), (0, .ref (ao.1)), (1, .ref (ap.1)), (2, .int x2)]) hx hb dL_isStep_343 hl (by decide) rfl (fun ls hl => ?_)
                refine lv_aload_n hx hb dL_isStep_345 rfl (lv_at hl 8 rfl) ?_
                refine lv_iload hx hb dL_isStep_346 (lv_at hl 0 rfl) ?_
                refine lv_iload hx hb dL_isStep_348 (lv_at hl 4 rfl) ?_
                refine lv_iload hx hb dL_isStep_350 (lv_at hl 5 rfl) ?_
                refine lv_iload hx hb dL_isStep_352 (lv_at hl 3 rfl) ?_
                refine lv_iload hx hb dL_isStep_354 (lv_at hl 2 rfl) ?_
                obtain ⟨r_104, so_105, hc_106, hf⟩ := bd2_of hf
                refine fn_VJ (v := some (.int r_104)) (As := [.int r_2, .int v_66, .int r_4, .int v_71, .int r_72]) (rest := []) (st1 := [.int r_104]) (ws' := ((wLS X ao so_105) ++ (wLS X ap sp))) (nL := 14) ⟨hx, hb, hml, hown, hts⟩ (c_B_gainBy l X ao so r_2 v_66 r_4 v_71 r_72 r_104 so_105 hc_106) (cwV 5 hts gL_isStep_X5_gainBy rfl rfl rfl (by decide +kernel) ⟨Nat.le_of_ble_eq_true rfl, Nat.le_of_ble_eq_true rfl⟩) 5 rfl rfl rfl rfl hl.1 rfl (Nat.le_of_ble_eq_true rfl) dL_isStep_356 hK hP (hD0.addr (wB_fst.trans wB_fst.symm)) hS hA [0, 1, 2, 3, 4, 5, 6, 7, 8, 9, 10, 11, 12, 13, 14, 15, 16, 17, 18, 19, 20, 21, 22, 23, 24, 25, 26, 27, 28, 29, 30, 31, 32, 33, 34, 35, 36, 37, 38, 39, 40, 41, 42, 43, 44, 45, 46, 47, 48, 49, 50, 51, 52, 53, 54, 55, 56, 57, 58, 59, 60, 61, 62, 63, 64, 65, 66, 67, 68, 69, 70, 71, 72, 73, 74, 75, 76] (by decide +kernel) bC_o bJ_o (wB_fst.trans wB_fst.symm) rfl ⟨Nat.zero_le _, Nat.zero_le _⟩ (fun H locs hP hD hS => ?_)
                refine lv_istore (lv' := [(11, .int r_104), (10, .int r_2), (9, .int r_74), (8, .int r_72), (7, .int v_71), (6, .int v_66), (5, .int r_4), (4, .int r_2), (3, .int v_1), (0, .ref (ao.1)), (1, .ref (ap.1)), (2, .int x2)]) hx hb dL_isStep_359 hl (by decide) rfl (fun ls hl => ?_)
                refine lv_iload hx hb dL_isStep_361 (lv_at hl 0 rfl) ?_
                refine lv_aload_n hx hb dL_isStep_363 rfl (lv_at hl 10 rfl) ?_
                refine lv_bipush (v := 9) hx hb dL_isStep_364 (by decide) ?_
                refine lv_iload hx hb dL_isStep_366 (lv_at hl 1 rfl) ?_
                refine lv_isub hx hb dL_isStep_368 ?_
                refine lv_bipush (v := 9) hx hb dL_isStep_369 (by decide) ?_
                refine lv_iload hx hb dL_isStep_371 (lv_at hl 5 rfl) ?_
                refine lv_isub hx hb dL_isStep_373 ?_
                refine lv_iload hx hb dL_isStep_374 (lv_at hl 6 rfl) ?_
                refine lv_iload hx hb dL_isStep_376 (lv_at hl 4 rfl) ?_
                refine lv_iload hx hb dL_isStep_378 (lv_at hl 3 rfl) ?_
                obtain ⟨r_107, sp_108, hc_109, hf⟩ := bd2_of hf
                refine fn_VJ (v := some (.int r_107)) (As := [.int ((9 : Int32) - r_2), .int ((9 : Int32) - v_66), .int r_4, .int v_71, .int r_72]) (rest := [.int r_104]) (st1 := [.int r_107, .int r_104]) (ws' := ((wLS X ao so_105) ++ (wLS X ap sp_108))) (nL := 14) ⟨hx, hb, hml, hown, hts⟩ (c_B_gainBy l X ap sp ((9 : Int32) - r_2) ((9 : Int32) - v_66) r_4 v_71 r_72 r_107 sp_108 hc_109) (cwV 5 hts gL_isStep_X5_gainBy rfl rfl rfl (by decide +kernel) ⟨Nat.le_of_ble_eq_true rfl, Nat.le_of_ble_eq_true rfl⟩) 5 rfl rfl rfl rfl hl.1 rfl (Nat.le_of_ble_eq_true rfl) dL_isStep_380 hK hP (hD0.addr (wB_fst.trans wB_fst.symm)) hS hA [77, 78, 79, 80, 81, 82, 83, 84, 85, 86, 87, 88, 89, 90, 91, 92, 93, 94, 95, 96, 97, 98, 99, 100, 101, 102, 103, 104, 105, 106, 107, 108, 109, 110, 111, 112, 113, 114, 115, 116, 117, 118, 119, 120, 121, 122, 123, 124, 125, 126, 127, 128, 129, 130, 131, 132, 133, 134, 135, 136, 137, 138, 139, 140, 141, 142, 143, 144, 145, 146, 147, 148, 149, 150, 151, 152, 153] (by decide +kernel) bC_p bJ_p (wB_fst.trans wB_fst.symm) rfl ⟨Nat.zero_le _, Nat.zero_le _⟩ (fun H locs hP hD hS => ?_)
                refine lv_icmp_eq (tgt := 388) hx hb dL_isStep_383 (by decide) (fun c_110 => ?_) (fun c_110 => ?_)
                · replace hf := fp_t c_110 hf
                  refine lv_iload hx hb dL_isStep_388 (lv_at hl 0 rfl) ?_
                  refine lv_iconst (v := -1) hx hb dL_isStep_390 (by decide) ?_
                  refine lv_icmp_ne (tgt := 396) hx hb dL_isStep_391 (by decide) (fun c_111 => ?_) (fun c_111 => ?_)
                  · replace hf := fp_f c_111 hf
                    refine lv_aload_n hx hb dL_isStep_396 rfl (lv_at hl 9 rfl) ?_
                    refine lv_bipush (v := 6) hx hb dL_isStep_397 (by decide) ?_
                    obtain ⟨r_112, hc_113, hf⟩ := bd_of hf
                    refine fn_V (v := some (.int r_112)) (As := [.int (6 : Int32)]) (rest := []) (st1 := [.int r_112]) (ws' := ((wLS X ao so_105) ++ (wLS X ap sp_108))) (nL := 14) ⟨hx, hb, hml, hown, hts⟩ (c_B_value l X ao so_105 (6 : Int32) r_112 hc_113) (cwV 1 hts gL_isStep_X5_value rfl rfl rfl (by decide +kernel) ⟨Nat.le_of_ble_eq_true rfl, Nat.le_of_ble_eq_true rfl⟩) 5 rfl rfl rfl rfl hl.1 rfl (Nat.le_of_ble_eq_true rfl) dL_isStep_399 hK hP (hD0.addr (wB_fst.trans wB_fst.symm)) hS hA [0, 1, 2, 3, 4, 5, 6, 7, 8, 9, 10, 11, 12, 13, 14, 15, 16, 17, 18, 19, 20, 21, 22, 23, 24, 25, 26, 27, 28, 29, 30, 31, 32, 33, 34, 35, 36, 37, 38, 39, 40, 41, 42, 43, 44, 45, 46, 47, 48, 49, 50, 51, 52, 53, 54, 55, 56, 57, 58, 59, 60, 61, 62, 63, 64, 65, 66, 67, 68, 69, 70, 71, 72, 73, 74, 75, 76] (by decide +kernel) bC_o (pt_setid _ _ _ bC_o) rfl ⟨Nat.zero_le _, Nat.zero_le _⟩ (fun H locs hP hD hS => ?_)
                    refine lv_istore (lv' := [(12, .int r_112), (11, .int r_104), (10, .int r_2), (9, .int r_74), (8, .int r_72), (7, .int v_71), (6, .int v_66), (5, .int r_4), (4, .int r_2), (3, .int v_1), (0, .ref (ao.1)), (1, .ref (ap.1)), (2, .int x2)]) hx hb dL_isStep_402 hl (by decide) rfl (fun ls hl => ?_)
                    refine lv_aload_n hx hb dL_isStep_404 rfl (lv_at hl 10 rfl) ?_
                    refine lv_iload hx hb dL_isStep_405 (lv_at hl 2 rfl) ?_
                    refine lv_iload hx hb dL_isStep_407 (lv_at hl 6 rfl) ?_
                    refine lv_iload hx hb dL_isStep_409 (lv_at hl 7 rfl) ?_
                    refine lv_iload hx hb dL_isStep_411 (lv_at hl 5 rfl) ?_
                    refine lv_iload hx hb dL_isStep_413 (lv_at hl 4 rfl) ?_
                    obtain ⟨r_114, so_115, hc_116, hf⟩ := bd2_of hf
                    refine fn_VJ (v := some (.int r_114)) (As := [.int r_2, .int v_66, .int r_4, .int v_71, .int r_72]) (rest := []) (st1 := [.int r_114]) (ws' := ((wLS X ao so_115) ++ (wLS X ap sp_108))) (nL := 14) ⟨hx, hb, hml, hown, hts⟩ (c_B_grant l X ao so_105 r_2 v_66 r_4 v_71 r_72 r_114 so_115 hc_116) (cwV 5 hts gL_isStep_X5_grant rfl rfl rfl (by decide +kernel) ⟨Nat.le_of_ble_eq_true rfl, Nat.le_of_ble_eq_true rfl⟩) 5 rfl rfl rfl rfl hl.1 rfl (Nat.le_of_ble_eq_true rfl) dL_isStep_415 hK hP (hD0.addr (wB_fst.trans wB_fst.symm)) hS hA [0, 1, 2, 3, 4, 5, 6, 7, 8, 9, 10, 11, 12, 13, 14, 15, 16, 17, 18, 19, 20, 21, 22, 23, 24, 25, 26, 27, 28, 29, 30, 31, 32, 33, 34, 35, 36, 37, 38, 39, 40, 41, 42, 43, 44, 45, 46, 47, 48, 49, 50, 51, 52, 53, 54, 55, 56, 57, 58, 59, 60, 61, 62, 63, 64, 65, 66, 67, 68, 69, 70, 71, 72, 73, 74, 75, 76] (by decide +kernel) bC_o bJ_o (wB_fst.trans wB_fst.symm) rfl ⟨Nat.zero_le _, Nat.zero_le _⟩ (fun H locs hP hD hS => ?_)
                    refine lv_istore (lv' := [(13, .int r_114), (12, .int r_112), (11, .int r_104), (10, .int r_2), (9, .int r_74), (8, .int r_72), (7, .int v_71), (6, .int v_66), (5, .int r_4), (4, .int r_2), (3, .int v_1), (0, .ref (ao.1)), (1, .ref (ap.1)), (2, .int x2)]) hx hb dL_isStep_418 hl (by decide) rfl (fun ls hl => ?_)
                    refine lv_iload hx hb dL_isStep_420 (lv_at hl 2 rfl) ?_
                    refine lv_if_lt (tgt := 480) hx hb dL_isStep_422 (by decide) (fun c_117 => ?_) (fun c_117 => ?_)
                    · replace hf := fp_t c_117 hf
                      refine lv_iconst (v := 0) hx hb dL_isStep_480 (by decide) ?_
                      cases hf
                    · replace hf := fp_f c_117 hf
                      refine lv_iload hx hb dL_isStep_425 (lv_at hl 0 rfl) ?_
                      refine lv_aload_n hx hb dL_isStep_427 rfl (lv_at hl 12 rfl) ?_
                      refine lv_bipush (v := 9) hx hb dL_isStep_428 (by decide) ?_
                      refine lv_iload hx hb dL_isStep_430 (lv_at hl 3 rfl) ?_
                      refine lv_isub hx hb dL_isStep_432 ?_
                      refine lv_bipush (v := 9) hx hb dL_isStep_433 (by decide) ?_
                      refine lv_iload hx hb dL_isStep_435 (lv_at hl 7 rfl) ?_
                      refine lv_isub hx hb dL_isStep_437 ?_
                      refine lv_iload hx hb dL_isStep_438 (lv_at hl 8 rfl) ?_
                      refine lv_iload hx hb dL_isStep_440 (lv_at hl 6 rfl) ?_
                      refine lv_iload hx hb dL_isStep_442 (lv_at hl 5 rfl) ?_
                      obtain ⟨r_118, sp_119, hc_120, hf⟩ := bd2_of hf
                      refine fn_VJ (v := some (.int r_118)) (As := [.int ((9 : Int32) - r_2), .int ((9 : Int32) - v_66), .int r_4, .int v_71, .int r_72]) (rest := [.int r_114]) (st1 := [.int r_118, .int r_114]) (ws' := ((wLS X ao so_115) ++ (wLS X ap sp_119))) (nL := 14) ⟨hx, hb, hml, hown, hts⟩ (c_B_grant l X ap sp_108 ((9 : Int32) - r_2) ((9 : Int32) - v_66) r_4 v_71 r_72 r_118 sp_119 hc_120) (cwV 5 hts gL_isStep_X5_grant rfl rfl rfl (by decide +kernel) ⟨Nat.le_of_ble_eq_true rfl, Nat.le_of_ble_eq_true rfl⟩) 5 rfl rfl rfl rfl hl.1 rfl (Nat.le_of_ble_eq_true rfl) dL_isStep_444 hK hP (hD0.addr (wB_fst.trans wB_fst.symm)) hS hA [77, 78, 79, 80, 81, 82, 83, 84, 85, 86, 87, 88, 89, 90, 91, 92, 93, 94, 95, 96, 97, 98, 99, 100, 101, 102, 103, 104, 105, 106, 107, 108, 109, 110, 111, 112, 113, 114, 115, 116, 117, 118, 119, 120, 121, 122, 123, 124, 125, 126, 127, 128, 129, 130, 131, 132, 133, 134, 135, 136, 137, 138, 139, 140, 141, 142, 143, 144, 145, 146, 147, 148, 149, 150, 151, 152, 153] (by decide +kernel) bC_p bJ_p (wB_fst.trans wB_fst.symm) rfl ⟨Nat.zero_le _, Nat.zero_le _⟩ (fun H locs hP hD hS => ?_)
                      refine lv_icmp_ne (tgt := 480) hx hb dL_isStep_447 (by decide) (fun c_121 => ?_) (fun c_121 => ?_)
                      · replace hf := fp_f c_121 hf
                        refine lv_iconst (v := 0) hx hb dL_isStep_480 (by decide) ?_
                        cases hf
                      · replace hf := fp_t c_121 hf
                        refine lv_aload_n hx hb dL_isStep_450 rfl (lv_at hl 11 rfl) ?_
                        refine lv_bipush (v := 6) hx hb dL_isStep_451 (by decide) ?_
                        obtain ⟨r_122, hc_123, hf⟩ := bd_of hf
                        refine fn_V (v := some (.int r_122)) (As := [.int (6 : Int32)]) (rest := []) (st1 := [.int r_122]) (ws' := ((wLS X ao so_115) ++ (wLS X ap sp_119))) (nL := 14) ⟨hx, hb, hml, hown, hts⟩ (c_B_value l X ao so_115 (6 : Int32) r_122 hc_123) (cwV 1 hts gL_isStep_X5_value rfl rfl rfl (by decide +kernel) ⟨Nat.le_of_ble_eq_true rfl, Nat.le_of_ble_eq_true rfl⟩) 5 rfl rfl rfl rfl hl.1 rfl (Nat.le_of_ble_eq_true rfl) dL_isStep_453 hK hP (hD0.addr (wB_fst.trans wB_fst.symm)) hS hA [0, 1, 2, 3, 4, 5, 6, 7, 8, 9, 10, 11, 12, 13, 14, 15, 16, 17, 18, 19, 20, 21, 22, 23, 24, 25, 26, 27, 28, 29, 30, 31, 32, 33, 34, 35, 36, 37, 38, 39, 40, 41, 42, 43, 44, 45, 46, 47, 48, 49, 50, 51, 52, 53, 54, 55, 56, 57, 58, 59, 60, 61, 62, 63, 64, 65, 66, 67, 68, 69, 70, 71, 72, 73, 74, 75, 76] (by decide +kernel) bC_o (pt_setid _ _ _ bC_o) rfl ⟨Nat.zero_le _, Nat.zero_le _⟩ (fun H locs hP hD hS => ?_)
                        refine lv_iload hx hb dL_isStep_456 (lv_at hl 1 rfl) ?_
                        refine lv_iload hx hb dL_isStep_458 (lv_at hl 2 rfl) ?_
                        refine lv_iadd hx hb dL_isStep_460 ?_
                        refine lv_icmp_ne (tgt := 480) hx hb dL_isStep_461 (by decide) (fun c_124 => ?_) (fun c_124 => ?_)
                        · replace hf := fp_f c_124 hf
                          refine lv_iconst (v := 0) hx hb dL_isStep_480 (by decide) ?_
                          cases hf
                        · replace hf := fp_t c_124 hf
                          refine lv_aload_n hx hb dL_isStep_464 rfl (lv_at hl 11 rfl) ?_
                          refine lv_iload hx hb dL_isStep_465 (lv_at hl 0 rfl) ?_
                          refine lv_iconst (v := 3) hx hb dL_isStep_467 (by decide) ?_
                          obtain ⟨r_125, hc_126, hf⟩ := bd_of hf
                          refine fn_V (v := some (.int r_125)) (As := [.int r_114, .int (3 : Int32)]) (rest := []) (st1 := [.int r_125]) (ws' := ((wLS X ao so_115) ++ (wLS X ap sp_119))) (nL := 14) ⟨hx, hb, hml, hown, hts⟩ (c_B_grantOf l X ao so_115 r_114 (3 : Int32) r_125 hc_126) (cwV 2 hts gL_isStep_X5_grantOf rfl rfl rfl (by decide +kernel) ⟨Nat.le_of_ble_eq_true rfl, Nat.le_of_ble_eq_true rfl⟩) 5 rfl rfl rfl rfl hl.1 rfl (Nat.le_of_ble_eq_true rfl) dL_isStep_468 hK hP (hD0.addr (wB_fst.trans wB_fst.symm)) hS hA [0, 1, 2, 3, 4, 5, 6, 7, 8, 9, 10, 11, 12, 13, 14, 15, 16, 17, 18, 19, 20, 21, 22, 23, 24, 25, 26, 27, 28, 29, 30, 31, 32, 33, 34, 35, 36, 37, 38, 39, 40, 41, 42, 43, 44, 45, 46, 47, 48, 49, 50, 51, 52, 53, 54, 55, 56, 57, 58, 59, 60, 61, 62, 63, 64, 65, 66, 67, 68, 69, 70, 71, 72, 73, 74, 75, 76] (by decide +kernel) bC_o (pt_setid _ _ _ bC_o) rfl ⟨Nat.zero_le _, Nat.zero_le _⟩ (fun H locs hP hD hS => ?_)
                          refine lv_iload hx hb dL_isStep_471 (lv_at hl 6 rfl) ?_
                          refine lv_icmp_ne (tgt := 480) hx hb dL_isStep_473 (by decide) (fun c_127 => ?_) (fun c_127 => ?_)
                          · replace hf := fp_f c_127 hf
                            refine lv_iconst (v := 0) hx hb dL_isStep_480 (by decide) ?_
                            cases hf
                          · replace hf := fp_t c_127 hf
                            refine lv_iconst (v := 1) hx hb dL_isStep_476 (by decide) ?_
                            refine lv_goto (tgt := 481) hx hb dL_isStep_477 (by decide) ?_
                            cases hf
                            exact fn_zret hx hb hr rfl hlocks hP hS dL_isStep_481
                  · replace hf := fp_t c_111 hf
                    refine lv_iconst (v := 1) hx hb dL_isStep_394 (by decide) ?_
                    cases hf
                    exact fn_zret hx hb hr rfl hlocks hP hS dL_isStep_395
                · replace hf := fp_f c_110 hf
                  refine lv_iconst (v := 0) hx hb dL_isStep_386 (by decide) ?_
                  cases hf
              · replace hf := fp_f c_103 hf
                refine lv_iload hx hb dL_isStep_336 (lv_at hl 0 rfl) ?_
                refine lv_goto (tgt := 343) hx hb dL_isStep_338 (by decide) ?_
                refine lv_istore (lv' := [(10, .int r_74), (9, .int r_74), (8, .int r_72), (7, .int v_71), (6, .int v_66), (5, .int r_4), (4, .int r_2), (3, .int v_1), (0, .ref (ao.1)), (1, .ref (ap.1)), (2, .int x2)]) hx hb dL_isStep_343 hl (by decide) rfl (fun ls hl => ?_)
                refine lv_aload_n hx hb dL_isStep_345 rfl (lv_at hl 8 rfl) ?_
                refine lv_iload hx hb dL_isStep_346 (lv_at hl 0 rfl) ?_
                refine lv_iload hx hb dL_isStep_348 (lv_at hl 4 rfl) ?_
                refine lv_iload hx hb dL_isStep_350 (lv_at hl 5 rfl) ?_
                refine lv_iload hx hb dL_isStep_352 (lv_at hl 3 rfl) ?_
                refine lv_iload hx hb dL_isStep_354 (lv_at hl 2 rfl) ?_
                obtain ⟨r_128, so_129, hc_130, hf⟩ := bd2_of hf
                refine fn_VJ (v := some (.int r_128)) (As := [.int r_74, .int v_66, .int r_4, .int v_71, .int r_72]) (rest := []) (st1 := [.int r_128]) (ws' := ((wLS X ao so_129) ++ (wLS X ap sp))) (nL := 14) ⟨hx, hb, hml, hown, hts⟩ (c_B_gainBy l X ao so r_74 v_66 r_4 v_71 r_72 r_128 so_129 hc_130) (cwV 5 hts gL_isStep_X5_gainBy rfl rfl rfl (by decide +kernel) ⟨Nat.le_of_ble_eq_true rfl, Nat.le_of_ble_eq_true rfl⟩) 5 rfl rfl rfl rfl hl.1 rfl (Nat.le_of_ble_eq_true rfl) dL_isStep_356 hK hP (hD0.addr (wB_fst.trans wB_fst.symm)) hS hA [0, 1, 2, 3, 4, 5, 6, 7, 8, 9, 10, 11, 12, 13, 14, 15, 16, 17, 18, 19, 20, 21, 22, 23, 24, 25, 26, 27, 28, 29, 30, 31, 32, 33, 34, 35, 36, 37, 38, 39, 40, 41, 42, 43, 44, 45, 46, 47, 48, 49, 50, 51, 52, 53, 54, 55, 56, 57, 58, 59, 60, 61, 62, 63, 64, 65, 66, 67, 68, 69, 70, 71, 72, 73, 74, 75, 76] (by decide +kernel) bC_o bJ_o (wB_fst.trans wB_fst.symm) rfl ⟨Nat.zero_le _, Nat.zero_le _⟩ (fun H locs hP hD hS => ?_)
                refine lv_istore (lv' := [(11, .int r_128), (10, .int r_74), (9, .int r_74), (8, .int r_72), (7, .int v_71), (6, .int v_66), (5, .int r_4), (4, .int r_2), (3, .int v_1), (0, .ref (ao.1)), (1, .ref (ap.1)), (2, .int x2)]) hx hb dL_isStep_359 hl (by decide) rfl (fun ls hl => ?_)
                refine lv_iload hx hb dL_isStep_361 (lv_at hl 0 rfl) ?_
                refine lv_aload_n hx hb dL_isStep_363 rfl (lv_at hl 10 rfl) ?_
                refine lv_bipush (v := 9) hx hb dL_isStep_364 (by decide) ?_
                refine lv_iload hx hb dL_isStep_366 (lv_at hl 1 rfl) ?_
                refine lv_isub hx hb dL_isStep_368 ?_
                refine lv_bipush (v := 9) hx hb dL_isStep_369 (by decide) ?_
                refine lv_iload hx hb dL_isStep_371 (lv_at hl 5 rfl) ?_
                refine lv_isub hx hb dL_isStep_373 ?_
                refine lv_iload hx hb dL_isStep_374 (lv_at hl 6 rfl) ?_
                refine lv_iload hx hb dL_isStep_376 (lv_at hl 4 rfl) ?_
                refine lv_iload hx hb dL_isStep_378 (lv_at hl 3 rfl) ?_
                obtain ⟨r_131, sp_132, hc_133, hf⟩ := bd2_of hf
                refine fn_VJ (v := some (.int r_131)) (As := [.int ((9 : Int32) - r_74), .int ((9 : Int32) - v_66), .int r_4, .int v_71, .int r_72]) (rest := [.int r_128]) (st1 := [.int r_131, .int r_128]) (ws' := ((wLS X ao so_129) ++ (wLS X ap sp_132))) (nL := 14) ⟨hx, hb, hml, hown, hts⟩ (c_B_gainBy l X ap sp ((9 : Int32) - r_74) ((9 : Int32) - v_66) r_4 v_71 r_72 r_131 sp_132 hc_133) (cwV 5 hts gL_isStep_X5_gainBy rfl rfl rfl (by decide +kernel) ⟨Nat.le_of_ble_eq_true rfl, Nat.le_of_ble_eq_true rfl⟩) 5 rfl rfl rfl rfl hl.1 rfl (Nat.le_of_ble_eq_true rfl) dL_isStep_380 hK hP (hD0.addr (wB_fst.trans wB_fst.symm)) hS hA [77, 78, 79, 80, 81, 82, 83, 84, 85, 86, 87, 88, 89, 90, 91, 92, 93, 94, 95, 96, 97, 98, 99, 100, 101, 102, 103, 104, 105, 106, 107, 108, 109, 110, 111, 112, 113, 114, 115, 116, 117, 118, 119, 120, 121, 122, 123, 124, 125, 126, 127, 128, 129, 130, 131, 132, 133, 134, 135, 136, 137, 138, 139, 140, 141, 142, 143, 144, 145, 146, 147, 148, 149, 150, 151, 152, 153] (by decide +kernel) bC_p bJ_p (wB_fst.trans wB_fst.symm) rfl ⟨Nat.zero_le _, Nat.zero_le _⟩ (fun H locs hP hD hS => ?_)
                refine lv_icmp_eq (tgt := 388) hx hb dL_isStep_383 (by decide) (fun c_134 => ?_) (fun c_134 => ?_)
                · replace hf := fp_t c_134 hf
                  refine lv_iload hx hb dL_isStep_388 (lv_at hl 0 rfl) ?_
                  refine lv_iconst (v := -1) hx hb dL_isStep_390 (by decide) ?_
                  refine lv_icmp_ne (tgt := 396) hx hb dL_isStep_391 (by decide) (fun c_135 => ?_) (fun c_135 => ?_)
                  · replace hf := fp_f c_135 hf
                    refine lv_aload_n hx hb dL_isStep_396 rfl (lv_at hl 9 rfl) ?_
                    refine lv_bipush (v := 6) hx hb dL_isStep_397 (by decide) ?_
                    obtain ⟨r_136, hc_137, hf⟩ := bd_of hf
                    refine fn_V (v := some (.int r_136)) (As := [.int (6 : Int32)]) (rest := []) (st1 := [.int r_136]) (ws' := ((wLS X ao so_129) ++ (wLS X ap sp_132))) (nL := 14) ⟨hx, hb, hml, hown, hts⟩ (c_B_value l X ao so_129 (6 : Int32) r_136 hc_137) (cwV 1 hts gL_isStep_X5_value rfl rfl rfl (by decide +kernel) ⟨Nat.le_of_ble_eq_true rfl, Nat.le_of_ble_eq_true rfl⟩) 5 rfl rfl rfl rfl hl.1 rfl (Nat.le_of_ble_eq_true rfl) dL_isStep_399 hK hP (hD0.addr (wB_fst.trans wB_fst.symm)) hS hA [0, 1, 2, 3, 4, 5, 6, 7, 8, 9, 10, 11, 12, 13, 14, 15, 16, 17, 18, 19, 20, 21, 22, 23, 24, 25, 26, 27, 28, 29, 30, 31, 32, 33, 34, 35, 36, 37, 38, 39, 40, 41, 42, 43, 44, 45, 46, 47, 48, 49, 50, 51, 52, 53, 54, 55, 56, 57, 58, 59, 60, 61, 62, 63, 64, 65, 66, 67, 68, 69, 70, 71, 72, 73, 74, 75, 76] (by decide +kernel) bC_o (pt_setid _ _ _ bC_o) rfl ⟨Nat.zero_le _, Nat.zero_le _⟩ (fun H locs hP hD hS => ?_)
                    refine lv_istore (lv' := [(12, .int r_136), (11, .int r_128), (10, .int r_74), (9, .int r_74), (8, .int r_72), (7, .int v_71), (6, .int v_66), (5, .int r_4), (4, .int r_2), (3, .int v_1), (0, .ref (ao.1)), (1, .ref (ap.1)), (2, .int x2)]) hx hb dL_isStep_402 hl (by decide) rfl (fun ls hl => ?_)
                    refine lv_aload_n hx hb dL_isStep_404 rfl (lv_at hl 10 rfl) ?_
                    refine lv_iload hx hb dL_isStep_405 (lv_at hl 2 rfl) ?_
                    refine lv_iload hx hb dL_isStep_407 (lv_at hl 6 rfl) ?_
                    refine lv_iload hx hb dL_isStep_409 (lv_at hl 7 rfl) ?_
                    refine lv_iload hx hb dL_isStep_411 (lv_at hl 5 rfl) ?_
                    refine lv_iload hx hb dL_isStep_413 (lv_at hl 4 rfl) ?_
                    obtain ⟨r_138, so_139, hc_140, hf⟩ := bd2_of hf
                    refine fn_VJ (v := some (.int r_138)) (As := [.int r_74, .int v_66, .int r_4, .int v_71, .int r_72]) (rest := []) (st1 := [.int r_138]) (ws' := ((wLS X ao so_139) ++ (wLS X ap sp_132))) (nL := 14) ⟨hx, hb, hml, hown, hts⟩ (c_B_grant l X ao so_129 r_74 v_66 r_4 v_71 r_72 r_138 so_139 hc_140) (cwV 5 hts gL_isStep_X5_grant rfl rfl rfl (by decide +kernel) ⟨Nat.le_of_ble_eq_true rfl, Nat.le_of_ble_eq_true rfl⟩) 5 rfl rfl rfl rfl hl.1 rfl (Nat.le_of_ble_eq_true rfl) dL_isStep_415 hK hP (hD0.addr (wB_fst.trans wB_fst.symm)) hS hA [0, 1, 2, 3, 4, 5, 6, 7, 8, 9, 10, 11, 12, 13, 14, 15, 16, 17, 18, 19, 20, 21, 22, 23, 24, 25, 26, 27, 28, 29, 30, 31, 32, 33, 34, 35, 36, 37, 38, 39, 40, 41, 42, 43, 44, 45, 46, 47, 48, 49, 50, 51, 52, 53, 54, 55, 56, 57, 58, 59, 60, 61, 62, 63, 64, 65, 66, 67, 68, 69, 70, 71, 72, 73, 74, 75, 76] (by decide +kernel) bC_o bJ_o (wB_fst.trans wB_fst.symm) rfl ⟨Nat.zero_le _, Nat.zero_le _⟩ (fun H locs hP hD hS => ?_)
                    refine lv_istore (lv' := [(13, .int r_138), (12, .int r_136), (11, .int r_128), (10, .int r_74), (9, .int r_74), (8, .int r_72), (7, .int v_71), (6, .int v_66), (5, .int r_4), (4, .int r_2), (3, .int v_1), (0, .ref (ao.1)), (1, .ref (ap.1)), (2, .int x2)]) hx hb dL_isStep_418 hl (by decide) rfl (fun ls hl => ?_)
                    refine lv_iload hx hb dL_isStep_420 (lv_at hl 2 rfl) ?_
                    refine lv_if_lt (tgt := 480) hx hb dL_isStep_422 (by decide) (fun c_141 => ?_) (fun c_141 => ?_)
                    · replace hf := fp_t c_141 hf
                      refine lv_iconst (v := 0) hx hb dL_isStep_480 (by decide) ?_
                      cases hf
                    · replace hf := fp_f c_141 hf
                      refine lv_iload hx hb dL_isStep_425 (lv_at hl 0 rfl) ?_
                      refine lv_aload_n hx hb dL_isStep_427 rfl (lv_at hl 12 rfl) ?_
                      refine lv_bipush (v := 9) hx hb dL_isStep_428 (by decide) ?_
                      refine lv_iload hx hb dL_isStep_430 (lv_at hl 3 rfl) ?_
                      refine lv_isub hx hb dL_isStep_432 ?_
                      refine lv_bipush (v := 9) hx hb dL_isStep_433 (by decide) ?_
                      refine lv_iload hx hb dL_isStep_435 (lv_at hl 7 rfl) ?_
                      refine lv_isub hx hb dL_isStep_437 ?_
                      refine lv_iload hx hb dL_isStep_438 (lv_at hl 8 rfl) ?_
                      refine lv_iload hx hb dL_isStep_440 (lv_at hl 6 rfl) ?_
                      refine lv_iload hx hb dL_isStep_442 (lv_at hl 5 rfl) ?_
                      obtain ⟨r_142, sp_143, hc_144, hf⟩ := bd2_of hf
                      refine fn_VJ (v := some (.int r_142)) (As := [.int ((9 : Int32) - r_74), .int ((9 : Int32) - v_66), .int r_4, .int v_71, .int r_72]) (rest := [.int r_138]) (st1 := [.int r_142, .int r_138]) (ws' := ((wLS X ao so_139) ++ (wLS X ap sp_143))) (nL := 14) ⟨hx, hb, hml, hown, hts⟩ (c_B_grant l X ap sp_132 ((9 : Int32) - r_74) ((9 : Int32) - v_66) r_4 v_71 r_72 r_142 sp_143 hc_144) (cwV 5 hts gL_isStep_X5_grant rfl rfl rfl (by decide +kernel) ⟨Nat.le_of_ble_eq_true rfl, Nat.le_of_ble_eq_true rfl⟩) 5 rfl rfl rfl rfl hl.1 rfl (Nat.le_of_ble_eq_true rfl) dL_isStep_444 hK hP (hD0.addr (wB_fst.trans wB_fst.symm)) hS hA [77, 78, 79, 80, 81, 82, 83, 84, 85, 86, 87, 88, 89, 90, 91, 92, 93, 94, 95, 96, 97, 98, 99, 100, 101, 102, 103, 104, 105, 106, 107, 108, 109, 110, 111, 112, 113, 114, 115, 116, 117, 118, 119, 120, 121, 122, 123, 124, 125, 126, 127, 128, 129, 130, 131, 132, 133, 134, 135, 136, 137, 138, 139, 140, 141, 142, 143, 144, 145, 146, 147, 148, 149, 150, 151, 152, 153] (by decide +kernel) bC_p bJ_p (wB_fst.trans wB_fst.symm) rfl ⟨Nat.zero_le _, Nat.zero_le _⟩ (fun H locs hP hD hS => ?_)
                      refine lv_icmp_ne (tgt := 480) hx hb dL_isStep_447 (by decide) (fun c_145 => ?_) (fun c_145 => ?_)
                      · replace hf := fp_f c_145 hf
                        refine lv_iconst (v := 0) hx hb dL_isStep_480 (by decide) ?_
                        cases hf
                      · replace hf := fp_t c_145 hf
                        refine lv_aload_n hx hb dL_isStep_450 rfl (lv_at hl 11 rfl) ?_
                        refine lv_bipush (v := 6) hx hb dL_isStep_451 (by decide) ?_
                        obtain ⟨r_146, hc_147, hf⟩ := bd_of hf
                        refine fn_V (v := some (.int r_146)) (As := [.int (6 : Int32)]) (rest := []) (st1 := [.int r_146]) (ws' := ((wLS X ao so_139) ++ (wLS X ap sp_143))) (nL := 14) ⟨hx, hb, hml, hown, hts⟩ (c_B_value l X ao so_139 (6 : Int32) r_146 hc_147) (cwV 1 hts gL_isStep_X5_value rfl rfl rfl (by decide +kernel) ⟨Nat.le_of_ble_eq_true rfl, Nat.le_of_ble_eq_true rfl⟩) 5 rfl rfl rfl rfl hl.1 rfl (Nat.le_of_ble_eq_true rfl) dL_isStep_453 hK hP (hD0.addr (wB_fst.trans wB_fst.symm)) hS hA [0, 1, 2, 3, 4, 5, 6, 7, 8, 9, 10, 11, 12, 13, 14, 15, 16, 17, 18, 19, 20, 21, 22, 23, 24, 25, 26, 27, 28, 29, 30, 31, 32, 33, 34, 35, 36, 37, 38, 39, 40, 41, 42, 43, 44, 45, 46, 47, 48, 49, 50, 51, 52, 53, 54, 55, 56, 57, 58, 59, 60, 61, 62, 63, 64, 65, 66, 67, 68, 69, 70, 71, 72, 73, 74, 75, 76] (by decide +kernel) bC_o (pt_setid _ _ _ bC_o) rfl ⟨Nat.zero_le _, Nat.zero_le _⟩ (fun H locs hP hD hS => ?_)
                        refine lv_iload hx hb dL_isStep_456 (lv_at hl 1 rfl) ?_
                        refine lv_iload hx hb dL_isStep_458 (lv_at hl 2 rfl) ?_
                        refine lv_iadd hx hb dL_isStep_460 ?_
                        refine lv_icmp_ne (tgt := 480) hx hb dL_isStep_461 (by decide) (fun c_148 => ?_) (fun c_148 => ?_)
                        · replace hf := fp_f c_148 hf
                          refine lv_iconst (v := 0) hx hb dL_isStep_480 (by decide) ?_
                          cases hf
                        · replace hf := fp_t c_148 hf
                          refine lv_aload_n hx hb dL_isStep_464 rfl (lv_at hl 11 rfl) ?_
                          refine lv_iload hx hb dL_isStep_465 (lv_at hl 0 rfl) ?_
                          refine lv_iconst (v := 3) hx hb dL_isStep_467 (by decide) ?_
                          obtain ⟨r_149, hc_150, hf⟩ := bd_of hf
                          refine fn_V (v := some (.int r_149)) (As := [.int r_138, .int (3 : Int32)]) (rest := []) (st1 := [.int r_149]) (ws' := ((wLS X ao so_139) ++ (wLS X ap sp_143))) (nL := 14) ⟨hx, hb, hml, hown, hts⟩ (c_B_grantOf l X ao so_139 r_138 (3 : Int32) r_149 hc_150) (cwV 2 hts gL_isStep_X5_grantOf rfl rfl rfl (by decide +kernel) ⟨Nat.le_of_ble_eq_true rfl, Nat.le_of_ble_eq_true rfl⟩) 5 rfl rfl rfl rfl hl.1 rfl (Nat.le_of_ble_eq_true rfl) dL_isStep_468 hK hP (hD0.addr (wB_fst.trans wB_fst.symm)) hS hA [0, 1, 2, 3, 4, 5, 6, 7, 8, 9, 10, 11, 12, 13, 14, 15, 16, 17, 18, 19, 20, 21, 22, 23, 24, 25, 26, 27, 28, 29, 30, 31, 32, 33, 34, 35, 36, 37, 38, 39, 40, 41, 42, 43, 44, 45, 46, 47, 48, 49, 50, 51, 52, 53, 54, 55, 56, 57, 58, 59, 60, 61, 62, 63, 64, 65, 66, 67, 68, 69, 70, 71, 72, 73, 74, 75, 76] (by decide +kernel) bC_o (pt_setid _ _ _ bC_o) rfl ⟨Nat.zero_le _, Nat.zero_le _⟩ (fun H locs hP hD hS => ?_)
                          refine lv_iload hx hb dL_isStep_471 (lv_at hl 6 rfl) ?_
                          refine lv_icmp_ne (tgt := 480) hx hb dL_isStep_473 (by decide) (fun c_151 => ?_) (fun c_151 => ?_)
                          · replace hf := fp_f c_151 hf
                            refine lv_iconst (v := 0) hx hb dL_isStep_480 (by decide) ?_
                            cases hf
                          · replace hf := fp_t c_151 hf
                            refine lv_iconst (v := 1) hx hb dL_isStep_476 (by decide) ?_
                            refine lv_goto (tgt := 481) hx hb dL_isStep_477 (by decide) ?_
                            cases hf
                            exact fn_zret hx hb hr rfl hlocks hP hS dL_isStep_481
                  · replace hf := fp_t c_135 hf
                    refine lv_iconst (v := 1) hx hb dL_isStep_394 (by decide) ?_
                    cases hf
                    exact fn_zret hx hb hr rfl hlocks hP hS dL_isStep_395
                · replace hf := fp_f c_134 hf
                  refine lv_iconst (v := 0) hx hb dL_isStep_386 (by decide) ?_
                  cases hf

def f_L_areAlike_L173 (x3 : Int32) : Nat → Int32 → LSt → LSt →  Option (LSt × LSt)
  | 0, _, _, _ => none
  | k_ + 1, x4, so, sp =>
    if (3 : Int32) ≤ x4 then
    (some (so, sp))
    else
    (bd2 (f_B_chain x3 x4 so) (fun r_2 so_3 =>
    bd (f_B_held x3 x4 so_3) (fun r_6 =>
    bd (f_B_held ((9 : Int32) - x3) x4 sp) (fun r_8 =>
    if r_6 = r_8 then
    (bd2 (f_B_chain ((9 : Int32) - x3) x4 sp) (fun r_11 sp_12 =>
    if r_2 = r_11 then
    (if r_2 < (1 : Int32) then
    (bd (f_B_why x3 x4 (1 : Int32) so_3) (fun r_16 =>
    bd (f_B_why ((9 : Int32) - x3) x4 (1 : Int32) sp_12) (fun r_18 =>
    if r_16 = r_18 then
    (bd (f_B_why x3 x4 (4 : Int32) so_3) (fun r_21 =>
    bd (f_B_why ((9 : Int32) - x3) x4 (4 : Int32) sp_12) (fun r_23 =>
    if r_21 = r_23 then
    (nm (x4 + (1 : Int32)) (fun v_26 =>
    f_L_areAlike_L173 x3 k_ v_26 so_3 sp_12))
    else
    (none))))
    else
    (none))))
    else
    (bd2 (f_B_link x3 x4 (r_2 - (1 : Int32)) so_3) (fun r_27 so_28 =>
    bd2 (f_B_link ((9 : Int32) - x3) x4 (r_2 - (1 : Int32)) sp_12) (fun r_30 sp_31 =>
    if r_27 = r_30 then
    (bd (f_B_why x3 x4 (1 : Int32) so_28) (fun r_34 =>
    bd (f_B_why ((9 : Int32) - x3) x4 (1 : Int32) sp_31) (fun r_36 =>
    if r_34 = r_36 then
    (bd (f_B_why x3 x4 (4 : Int32) so_28) (fun r_39 =>
    bd (f_B_why ((9 : Int32) - x3) x4 (4 : Int32) sp_31) (fun r_41 =>
    if r_39 = r_41 then
    (nm (x4 + (1 : Int32)) (fun v_44 =>
    f_L_areAlike_L173 x3 k_ v_44 so_28 sp_31))
    else
    (none))))
    else
    (none))))
    else
    (none)))))
    else
    (none)))
    else
    (none)))))
def f_L_areAlike_L85 (x3 : Int32) (so : LSt) (sp : LSt) : Nat → Int32 →  Option (Unit)
  | 0, _ => none
  | k_ + 1, x4 =>
    if (7 : Int32) ≤ x4 then
    (some ())
    else
    (bd (f_B_person x3 x4 so) (fun r_47 =>
    bd (f_B_person ((9 : Int32) - x3) x4 sp) (fun r_49 =>
    if r_47 = r_49 then
    (nm (x4 + (1 : Int32)) (fun v_52 =>
    f_L_areAlike_L85 x3 so sp k_ v_52))
    else
    (none))))
def f_L_areAlike_L72  : Nat → Int32 → LSt → LSt →  Option (LSt × LSt)
  | 0, _, _, _ => none
  | k_ + 1, x3, so, sp =>
    if (10 : Int32) ≤ x3 then
    (some (so, sp))
    else
    (bd (f_L_areAlike_L85 x3 so sp FU (0 : Int32)) (fun _ =>
    bd (f_B_patience x3 so) (fun r_57 =>
    bd (f_B_patience ((9 : Int32) - x3) sp) (fun r_59 =>
    if r_57 = r_59 then
    (bd2 (f_B_lostBy x3 so) (fun r_62 so_63 =>
    bd2 (f_B_lostBy ((9 : Int32) - x3) sp) (fun r_65 sp_66 =>
    if r_62 = r_65 then
    (bd2 (f_L_areAlike_L173 x3 FU (0 : Int32) so_63 sp_66) (fun so_69 sp_70 =>
    nm (x3 + (1 : Int32)) (fun v_72 =>
    f_L_areAlike_L72 k_ v_72 so_69 sp_70)))
    else
    (none))))
    else
    (none)))))
def f_L_areAlike_L35 (so : LSt) (sp : LSt) : Nat → Int32 →  Option (Unit)
  | 0, _ => none
  | k_ + 1, x3 =>
    if (9 : Int32) ≤ x3 then
    (some ())
    else
    (bd (f_B_value x3 so) (fun r_75 =>
    bd (f_B_value x3 sp) (fun r_77 =>
    if r_75 = r_77 then
    (nm (x3 + (1 : Int32)) (fun v_80 =>
    f_L_areAlike_L35 so sp k_ v_80))
    else
    (none))))
def f_L_areAlike (so : LSt) (sp : LSt) : Option (LSt × LSt) :=
  bd2 (f_B_meanChain so) (fun r_81 so_82 =>
  bd2 (f_B_meanChain sp) (fun r_84 sp_85 =>
  if Op.cmpValue (FP.dcmp r_81 r_84) .l = (0 : Int32) then
  (bd2 (f_B_seenIn (9 : Int32) so_82) (fun r_88 so_89 =>
  bd2 (f_B_seenIn (9 : Int32) sp_85) (fun r_91 sp_92 =>
  if r_88 = r_91 then
  (bd (f_L_areAlike_L35 so_89 sp_92 FU (0 : Int32)) (fun _ =>
  bd2 (f_L_areAlike_L72 FU (0 : Int32) so_89 sp_92) (fun so_96 sp_97 =>
  some (so_96, sp_97))))
  else
  (none))))
  else
  (none)))
set_option maxHeartbeats 4000000 in
set_option maxRecDepth 100000 in
theorem c_L_areAlike (l : Launch) (X : cx_G) (ao : LAd) (ap : LAd) (so : LSt) (sp : LSt) (so' : LSt) (sp' : LSt) (hf : f_L_areAlike so sp = some (so', sp')) : Fn l yL_areAlike wsL_areAlike ({ frames := 6, cells := 0, slots := 0, locals := 148 } : Room) X [.ref (ao.1), .ref (ap.1)] ((wLS X ao so) ++ (wLS X ap sp)) (some (.int 1)) ((wLS X ao so') ++ (wLS X ap sp')) := by
  refine fn_intro (cc := cL_areAlike) (maxL := 6) (ret := (some .boolean)) (by decide) rfl (wB_fst.trans wB_fst.symm) (Nat.le_of_ble_eq_true rfl) ?_
  intro p e s m args below meth c A ls hx hb hml hr hts hown hlocks hK hP hD0 hS hA hl
  have hown : s.vm.findClass RL = some m.cls := hown
  have hl : lv_has ls 6 [(0, .ref (ao.1)), (1, .ref (ap.1))] := hl
  have loop_173 : ∀ (Q : State → Prop) (x3 : Int32) (soo : LSt) (spo : LSt), (∀ (H : Heap) (locs : List Loc) (ls : Array Slot), va_P X.1 vwCl ((wLS X ao soo) ++ (wLS X ap spo)) H → va_S A s.heap H locs → lv_has ls 6 [(0, .ref (ao.1)), (1, .ref (ap.1)), (2, .int (1 : Int32)), (3, .int x3)] → W p l e ({ frames := 6, cells := 0, slots := 0, locals := 148 } : Room) s m args below meth c H locs 0 0 Q (F0 m 317 ls [])) → ∀ (k_ : Nat) (x4 : Int32) (so : LSt) (sp : LSt) (H : Heap) (locs : List Loc) (ls : Array Slot), f_L_areAlike_L173 x3 k_ x4 so sp = some (soo, spo) → va_P X.1 vwCl ((wLS X ao so) ++ (wLS X ap sp)) H → va_S A s.heap H locs → lv_has ls 6 [(0, .ref (ao.1)), (1, .ref (ap.1)), (2, .int (1 : Int32)), (3, .int x3), (4, .int x4)] → W p l e ({ frames := 6, cells := 0, slots := 0, locals := 148 } : Room) s m args below meth c H locs 0 0 Q (F0 m 173 ls []) := by
    intro Q x3 soo spo kx k_
    induction k_ with
    | zero => intro x4 so sp H locs ls hf; exact nomatch (show (none : Option (LSt × LSt)) = some _ from hf)
    | succ k_ ih =>
      intro x4 so sp H locs ls hf hP hS hl
      unfold f_L_areAlike_L173 at hf
      refine lv_iload hx hb dL_areAlike_173 (lv_at hl 4 rfl) ?_
      refine lv_iconst (v := 3) hx hb dL_areAlike_175 (by decide) ?_
      refine lv_icmp_ge (tgt := 317) hx hb dL_areAlike_176 (by decide) (fun c_1 => ?_) (fun c_1 => ?_)
      · replace hf := fp_t c_1 hf
        cases hf
        exact kx _ _ _ hP hS (lv_sub hl [0, 1, 2, 3] rfl)
      · replace hf := fp_f c_1 hf
        refine lv_aload_n hx hb dL_areAlike_179 rfl (lv_at hl 0 rfl) ?_
        refine lv_iload_n hx hb dL_areAlike_180 rfl (lv_at hl 3 rfl) ?_
        refine lv_iload hx hb dL_areAlike_181 (lv_at hl 4 rfl) ?_
        obtain ⟨r_2, so_3, hc_4, hf⟩ := bd2_of hf
        refine fn_VJ (v := some (.int r_2)) (As := [.int x3, .int x4]) (rest := []) (st1 := [.int r_2]) (ws' := ((wLS X ao so_3) ++ (wLS X ap sp))) (nL := 6) ⟨hx, hb, hml, hown, hts⟩ (c_B_chain l X ao so x3 x4 r_2 so_3 hc_4) (cwV 2 hts gL_areAlike_X5_chain rfl rfl rfl (by decide +kernel) ⟨Nat.le_of_ble_eq_true rfl, Nat.le_of_ble_eq_true rfl⟩) 5 rfl rfl rfl rfl hl.1 rfl (Nat.le_of_ble_eq_true rfl) dL_areAlike_183 hK hP (hD0.addr (wB_fst.trans wB_fst.symm)) hS hA [0, 1, 2, 3, 4, 5, 6, 7, 8, 9, 10, 11, 12, 13, 14, 15, 16, 17, 18, 19, 20, 21, 22, 23, 24, 25, 26, 27, 28, 29, 30, 31, 32, 33, 34, 35, 36, 37, 38, 39, 40, 41, 42, 43, 44, 45, 46, 47, 48, 49, 50, 51, 52, 53, 54, 55, 56, 57, 58, 59, 60, 61, 62, 63, 64, 65, 66, 67, 68, 69, 70, 71, 72, 73, 74, 75, 76] (by decide +kernel) bC_o bJ_o (wB_fst.trans wB_fst.symm) rfl ⟨Nat.zero_le _, Nat.zero_le _⟩ (fun H locs hP hD hS => ?_)
        refine lv_istore (lv' := [(5, .int r_2), (0, .ref (ao.1)), (1, .ref (ap.1)), (2, .int (1 : Int32)), (3, .int x3), (4, .int x4)]) hx hb dL_areAlike_186 hl (by decide) rfl (fun ls hl => ?_)
        refine lv_iload_n hx hb dL_areAlike_188 rfl (lv_at hl 3 rfl) ?_
        refine lv_if_eq (tgt := 309) hx hb dL_areAlike_189 (by decide) (fun c9 => absurd c9 (by decide)) (fun _ => ?_)
        refine lv_aload_n hx hb dL_areAlike_192 rfl (lv_at hl 1 rfl) ?_
        refine lv_iload_n hx hb dL_areAlike_193 rfl (lv_at hl 4 rfl) ?_
        refine lv_iload hx hb dL_areAlike_194 (lv_at hl 5 rfl) ?_
        obtain ⟨r_6, hc_7, hf⟩ := bd_of hf
        refine fn_V (v := some (.int r_6)) (As := [.int x3, .int x4]) (rest := []) (st1 := [.int r_6]) (ws' := ((wLS X ao so_3) ++ (wLS X ap sp))) (nL := 6) ⟨hx, hb, hml, hown, hts⟩ (c_B_held l X ao so_3 x3 x4 r_6 hc_7) (cwV 2 hts gL_areAlike_X5_held rfl rfl rfl (by decide +kernel) ⟨Nat.le_of_ble_eq_true rfl, Nat.le_of_ble_eq_true rfl⟩) 5 rfl rfl rfl rfl hl.1 rfl (Nat.le_of_ble_eq_true rfl) dL_areAlike_196 hK hP (hD0.addr (wB_fst.trans wB_fst.symm)) hS hA [0, 1, 2, 3, 4, 5, 6, 7, 8, 9, 10, 11, 12, 13, 14, 15, 16, 17, 18, 19, 20, 21, 22, 23, 24, 25, 26, 27, 28, 29, 30, 31, 32, 33, 34, 35, 36, 37, 38, 39, 40, 41, 42, 43, 44, 45, 46, 47, 48, 49, 50, 51, 52, 53, 54, 55, 56, 57, 58, 59, 60, 61, 62, 63, 64, 65, 66, 67, 68, 69, 70, 71, 72, 73, 74, 75, 76] (by decide +kernel) bC_o (pt_setid _ _ _ bC_o) rfl ⟨Nat.zero_le _, Nat.zero_le _⟩ (fun H locs hP hD hS => ?_)
        refine lv_aload_n hx hb dL_areAlike_199 rfl (lv_at hl 2 rfl) ?_
        refine lv_bipush (v := 9) hx hb dL_areAlike_200 (by decide) ?_
        refine lv_iload_n hx hb dL_areAlike_202 rfl (lv_at hl 4 rfl) ?_
        refine lv_isub hx hb dL_areAlike_203 ?_
        refine lv_iload hx hb dL_areAlike_204 (lv_at hl 5 rfl) ?_
        obtain ⟨r_8, hc_9, hf⟩ := bd_of hf
        refine fn_V (v := some (.int r_8)) (As := [.int ((9 : Int32) - x3), .int x4]) (rest := [.int r_6]) (st1 := [.int r_8, .int r_6]) (ws' := ((wLS X ao so_3) ++ (wLS X ap sp))) (nL := 6) ⟨hx, hb, hml, hown, hts⟩ (c_B_held l X ap sp ((9 : Int32) - x3) x4 r_8 hc_9) (cwV 2 hts gL_areAlike_X5_held rfl rfl rfl (by decide +kernel) ⟨Nat.le_of_ble_eq_true rfl, Nat.le_of_ble_eq_true rfl⟩) 5 rfl rfl rfl rfl hl.1 rfl (Nat.le_of_ble_eq_true rfl) dL_areAlike_206 hK hP (hD0.addr (wB_fst.trans wB_fst.symm)) hS hA [77, 78, 79, 80, 81, 82, 83, 84, 85, 86, 87, 88, 89, 90, 91, 92, 93, 94, 95, 96, 97, 98, 99, 100, 101, 102, 103, 104, 105, 106, 107, 108, 109, 110, 111, 112, 113, 114, 115, 116, 117, 118, 119, 120, 121, 122, 123, 124, 125, 126, 127, 128, 129, 130, 131, 132, 133, 134, 135, 136, 137, 138, 139, 140, 141, 142, 143, 144, 145, 146, 147, 148, 149, 150, 151, 152, 153] (by decide +kernel) bC_p (pt_setid _ _ _ bC_p) rfl ⟨Nat.zero_le _, Nat.zero_le _⟩ (fun H locs hP hD hS => ?_)
        refine lv_icmp_ne (tgt := 309) hx hb dL_areAlike_209 (by decide) (fun c_10 => ?_) (fun c_10 => ?_)
        · replace hf := fp_f c_10 hf
          refine lv_iconst (v := 0) hx hb dL_areAlike_309 (by decide) ?_
          cases hf
        · replace hf := fp_t c_10 hf
          refine lv_iload hx hb dL_areAlike_212 (lv_at hl 0 rfl) ?_
          refine lv_aload_n hx hb dL_areAlike_214 rfl (lv_at hl 2 rfl) ?_
          refine lv_bipush (v := 9) hx hb dL_areAlike_215 (by decide) ?_
          refine lv_iload_n hx hb dL_areAlike_217 rfl (lv_at hl 4 rfl) ?_
          refine lv_isub hx hb dL_areAlike_218 ?_
          refine lv_iload hx hb dL_areAlike_219 (lv_at hl 5 rfl) ?_
          obtain ⟨r_11, sp_12, hc_13, hf⟩ := bd2_of hf
          refine fn_VJ (v := some (.int r_11)) (As := [.int ((9 : Int32) - x3), .int x4]) (rest := [.int r_2]) (st1 := [.int r_11, .int r_2]) (ws' := ((wLS X ao so_3) ++ (wLS X ap sp_12))) (nL := 6) ⟨hx, hb, hml, hown, hts⟩ (c_B_chain l X ap sp ((9 : Int32) - x3) x4 r_11 sp_12 hc_13) (cwV 2 hts gL_areAlike_X5_chain rfl rfl rfl (by decide +kernel) ⟨Nat.le_of_ble_eq_true rfl, Nat.le_of_ble_eq_true rfl⟩) 5 rfl rfl rfl rfl hl.1 rfl (Nat.le_of_ble_eq_true rfl) dL_areAlike_221 hK hP (hD0.addr (wB_fst.trans wB_fst.symm)) hS hA [77, 78, 79, 80, 81, 82, 83, 84, 85, 86, 87, 88, 89, 90, 91, 92, 93, 94, 95, 96, 97, 98, 99, 100, 101, 102, 103, 104, 105, 106, 107, 108, 109, 110, 111, 112, 113, 114, 115, 116, 117, 118, 119, 120, 121, 122, 123, 124, 125, 126, 127, 128, 129, 130, 131, 132, 133, 134, 135, 136, 137, 138, 139, 140, 141, 142, 143, 144, 145, 146, 147, 148, 149, 150, 151, 152, 153] (by decide +kernel) bC_p bJ_p (wB_fst.trans wB_fst.symm) rfl ⟨Nat.zero_le _, Nat.zero_le _⟩ (fun H locs hP hD hS => ?_)
          refine lv_icmp_ne (tgt := 309) hx hb dL_areAlike_224 (by decide) (fun c_14 => ?_) (fun c_14 => ?_)
          · replace hf := fp_f c_14 hf
            refine lv_iconst (v := 0) hx hb dL_areAlike_309 (by decide) ?_
            cases hf
          · replace hf := fp_t c_14 hf
            refine lv_iload hx hb dL_areAlike_227 (lv_at hl 0 rfl) ?_
            refine lv_iconst (v := 1) hx hb dL_areAlike_229 (by decide) ?_
            refine lv_icmp_lt (tgt := 261) hx hb dL_areAlike_230 (by decide) (fun c_15 => ?_) (fun c_15 => ?_)
            · replace hf := fp_t c_15 hf
              refine lv_aload_n hx hb dL_areAlike_261 rfl (lv_at hl 1 rfl) ?_
              refine lv_iload_n hx hb dL_areAlike_262 rfl (lv_at hl 4 rfl) ?_
              refine lv_iload hx hb dL_areAlike_263 (lv_at hl 5 rfl) ?_
              refine lv_iconst (v := 1) hx hb dL_areAlike_265 (by decide) ?_
              obtain ⟨r_16, hc_17, hf⟩ := bd_of hf
              refine fn_V (v := some (.int r_16)) (As := [.int x3, .int x4, .int (1 : Int32)]) (rest := []) (st1 := [.int r_16]) (ws' := ((wLS X ao so_3) ++ (wLS X ap sp_12))) (nL := 6) ⟨hx, hb, hml, hown, hts⟩ (c_B_why l X ao so_3 x3 x4 (1 : Int32) r_16 hc_17) (cwV 3 hts gL_areAlike_X5_why rfl rfl rfl (by decide +kernel) ⟨Nat.le_of_ble_eq_true rfl, Nat.le_of_ble_eq_true rfl⟩) 5 rfl rfl rfl rfl hl.1 rfl (Nat.le_of_ble_eq_true rfl) dL_areAlike_266 hK hP (hD0.addr (wB_fst.trans wB_fst.symm)) hS hA [0, 1, 2, 3, 4, 5, 6, 7, 8, 9, 10, 11, 12, 13, 14, 15, 16, 17, 18, 19, 20, 21, 22, 23, 24, 25, 26, 27, 28, 29, 30, 31, 32, 33, 34, 35, 36, 37, 38, 39, 40, 41, 42, 43, 44, 45, 46, 47, 48, 49, 50, 51, 52, 53, 54, 55, 56, 57, 58, 59, 60, 61, 62, 63, 64, 65, 66, 67, 68, 69, 70, 71, 72, 73, 74, 75, 76] (by decide +kernel) bC_o (pt_setid _ _ _ bC_o) rfl ⟨Nat.zero_le _, Nat.zero_le _⟩ (fun H locs hP hD hS => ?_)
              refine lv_aload_n hx hb dL_areAlike_269 rfl (lv_at hl 2 rfl) ?_
              refine lv_bipush (v := 9) hx hb dL_areAlike_270 (by decide) ?_
              refine lv_iload_n hx hb dL_areAlike_272 rfl (lv_at hl 4 rfl) ?_
              refine lv_isub hx hb dL_areAlike_273 ?_
              refine lv_iload hx hb dL_areAlike_274 (lv_at hl 5 rfl) ?_
              refine lv_iconst (v := 1) hx hb dL_areAlike_276 (by decide) ?_
              obtain ⟨r_18, hc_19, hf⟩ := bd_of hf
              refine fn_V (v := some (.int r_18)) (As := [.int ((9 : Int32) - x3), .int x4, .int (1 : Int32)]) (rest := [.int r_16]) (st1 := [.int r_18, .int r_16]) (ws' := ((wLS X ao so_3) ++ (wLS X ap sp_12))) (nL := 6) ⟨hx, hb, hml, hown, hts⟩ (c_B_why l X ap sp_12 ((9 : Int32) - x3) x4 (1 : Int32) r_18 hc_19) (cwV 3 hts gL_areAlike_X5_why rfl rfl rfl (by decide +kernel) ⟨Nat.le_of_ble_eq_true rfl, Nat.le_of_ble_eq_true rfl⟩) 5 rfl rfl rfl rfl hl.1 rfl (Nat.le_of_ble_eq_true rfl) dL_areAlike_277 hK hP (hD0.addr (wB_fst.trans wB_fst.symm)) hS hA [77, 78, 79, 80, 81, 82, 83, 84, 85, 86, 87, 88, 89, 90, 91, 92, 93, 94, 95, 96, 97, 98, 99, 100, 101, 102, 103, 104, 105, 106, 107, 108, 109, 110, 111, 112, 113, 114, 115, 116, 117, 118, 119, 120, 121, 122, 123, 124, 125, 126, 127, 128, 129, 130, 131, 132, 133, 134, 135, 136, 137, 138, 139, 140, 141, 142, 143, 144, 145, 146, 147, 148, 149, 150, 151, 152, 153] (by decide +kernel) bC_p (pt_setid _ _ _ bC_p) rfl ⟨Nat.zero_le _, Nat.zero_le _⟩ (fun H locs hP hD hS => ?_)
              refine lv_icmp_ne (tgt := 309) hx hb dL_areAlike_280 (by decide) (fun c_20 => ?_) (fun c_20 => ?_)
              · replace hf := fp_f c_20 hf
                refine lv_iconst (v := 0) hx hb dL_areAlike_309 (by decide) ?_
                cases hf
              · replace hf := fp_t c_20 hf
                refine lv_aload_n hx hb dL_areAlike_283 rfl (lv_at hl 1 rfl) ?_
                refine lv_iload_n hx hb dL_areAlike_284 rfl (lv_at hl 4 rfl) ?_
                refine lv_iload hx hb dL_areAlike_285 (lv_at hl 5 rfl) ?_
                refine lv_iconst (v := 4) hx hb dL_areAlike_287 (by decide) ?_
                obtain ⟨r_21, hc_22, hf⟩ := bd_of hf
                refine fn_V (v := some (.int r_21)) (As := [.int x3, .int x4, .int (4 : Int32)]) (rest := []) (st1 := [.int r_21]) (ws' := ((wLS X ao so_3) ++ (wLS X ap sp_12))) (nL := 6) ⟨hx, hb, hml, hown, hts⟩ (c_B_why l X ao so_3 x3 x4 (4 : Int32) r_21 hc_22) (cwV 3 hts gL_areAlike_X5_why rfl rfl rfl (by decide +kernel) ⟨Nat.le_of_ble_eq_true rfl, Nat.le_of_ble_eq_true rfl⟩) 5 rfl rfl rfl rfl hl.1 rfl (Nat.le_of_ble_eq_true rfl) dL_areAlike_288 hK hP (hD0.addr (wB_fst.trans wB_fst.symm)) hS hA [0, 1, 2, 3, 4, 5, 6, 7, 8, 9, 10, 11, 12, 13, 14, 15, 16, 17, 18, 19, 20, 21, 22, 23, 24, 25, 26, 27, 28, 29, 30, 31, 32, 33, 34, 35, 36, 37, 38, 39, 40, 41, 42, 43, 44, 45, 46, 47, 48, 49, 50, 51, 52, 53, 54, 55, 56, 57, 58, 59, 60, 61, 62, 63, 64, 65, 66, 67, 68, 69, 70, 71, 72, 73, 74, 75, 76] (by decide +kernel) bC_o (pt_setid _ _ _ bC_o) rfl ⟨Nat.zero_le _, Nat.zero_le _⟩ (fun H locs hP hD hS => ?_)
                refine lv_aload_n hx hb dL_areAlike_291 rfl (lv_at hl 2 rfl) ?_
                refine lv_bipush (v := 9) hx hb dL_areAlike_292 (by decide) ?_
                refine lv_iload_n hx hb dL_areAlike_294 rfl (lv_at hl 4 rfl) ?_
                refine lv_isub hx hb dL_areAlike_295 ?_
                refine lv_iload hx hb dL_areAlike_296 (lv_at hl 5 rfl) ?_
                refine lv_iconst (v := 4) hx hb dL_areAlike_298 (by decide) ?_
                obtain ⟨r_23, hc_24, hf⟩ := bd_of hf
                refine fn_V (v := some (.int r_23)) (As := [.int ((9 : Int32) - x3), .int x4, .int (4 : Int32)]) (rest := [.int r_21]) (st1 := [.int r_23, .int r_21]) (ws' := ((wLS X ao so_3) ++ (wLS X ap sp_12))) (nL := 6) ⟨hx, hb, hml, hown, hts⟩ (c_B_why l X ap sp_12 ((9 : Int32) - x3) x4 (4 : Int32) r_23 hc_24) (cwV 3 hts gL_areAlike_X5_why rfl rfl rfl (by decide +kernel) ⟨Nat.le_of_ble_eq_true rfl, Nat.le_of_ble_eq_true rfl⟩) 5 rfl rfl rfl rfl hl.1 rfl (Nat.le_of_ble_eq_true rfl) dL_areAlike_299 hK hP (hD0.addr (wB_fst.trans wB_fst.symm)) hS hA [77, 78, 79, 80, 81, 82, 83, 84, 85, 86, 87, 88, 89, 90, 91, 92, 93, 94, 95, 96, 97, 98, 99, 100, 101, 102, 103, 104, 105, 106, 107, 108, 109, 110, 111, 112, 113, 114, 115, 116, 117, 118, 119, 120, 121, 122, 123, 124, 125, 126, 127, 128, 129, 130, 131, 132, 133, 134, 135, 136, 137, 138, 139, 140, 141, 142, 143, 144, 145, 146, 147, 148, 149, 150, 151, 152, 153] (by decide +kernel) bC_p (pt_setid _ _ _ bC_p) rfl ⟨Nat.zero_le _, Nat.zero_le _⟩ (fun H locs hP hD hS => ?_)
                refine lv_icmp_ne (tgt := 309) hx hb dL_areAlike_302 (by decide) (fun c_25 => ?_) (fun c_25 => ?_)
                · replace hf := fp_f c_25 hf
                  refine lv_iconst (v := 0) hx hb dL_areAlike_309 (by decide) ?_
                  cases hf
                · replace hf := fp_t c_25 hf
                  refine lv_iconst (v := 1) hx hb dL_areAlike_305 (by decide) ?_
                  refine lv_goto (tgt := 310) hx hb dL_areAlike_306 (by decide) ?_
                  refine lv_istore_n (lv' := [(2, .int (1 : Int32)), (5, .int r_2), (0, .ref (ao.1)), (1, .ref (ap.1)), (3, .int x3), (4, .int x4)]) hx hb dL_areAlike_310 rfl hl (by decide) rfl (fun ls hl => ?_)
                  obtain ⟨v_26, ev_26⟩ : ∃ y : Int32, y = x4 + (1 : Int32) := ⟨_, rfl⟩
                  replace hf := nm_of ev_26 hf
                  refine lv_iinc (v := v_26) (lv' := [(4, .int v_26), (2, .int (1 : Int32)), (5, .int r_2), (0, .ref (ao.1)), (1, .ref (ap.1)), (3, .int x3)]) hx hb dL_areAlike_311 hl (k := 5) rfl (by rw [ev_26]; rfl) (by decide) rfl (fun ls hl => ?_)
                  refine lv_goto (tgt := 173) hx hb dL_areAlike_314 (by decide) ?_
                  exact ih v_26 so_3 sp_12 _ _ _ hf hP hS (lv_sub hl [3, 4, 1, 5, 0] rfl)
            · replace hf := fp_f c_15 hf
              refine lv_aload_n hx hb dL_areAlike_233 rfl (lv_at hl 1 rfl) ?_
              refine lv_iload_n hx hb dL_areAlike_234 rfl (lv_at hl 4 rfl) ?_
              refine lv_iload hx hb dL_areAlike_235 (lv_at hl 5 rfl) ?_
              refine lv_iload hx hb dL_areAlike_237 (lv_at hl 0 rfl) ?_
              refine lv_iconst (v := 1) hx hb dL_areAlike_239 (by decide) ?_
              refine lv_isub hx hb dL_areAlike_240 ?_
              obtain ⟨r_27, so_28, hc_29, hf⟩ := bd2_of hf
              refine fn_VJ (v := some (.int r_27)) (As := [.int x3, .int x4, .int (r_2 - (1 : Int32))]) (rest := []) (st1 := [.int r_27]) (ws' := ((wLS X ao so_28) ++ (wLS X ap sp_12))) (nL := 6) ⟨hx, hb, hml, hown, hts⟩ (c_B_link l X ao so_3 x3 x4 (r_2 - (1 : Int32)) r_27 so_28 hc_29) (cwV 3 hts gL_areAlike_X5_link rfl rfl rfl (by decide +kernel) ⟨Nat.le_of_ble_eq_true rfl, Nat.le_of_ble_eq_true rfl⟩) 5 rfl rfl rfl rfl hl.1 rfl (Nat.le_of_ble_eq_true rfl) dL_areAlike_241 hK hP (hD0.addr (wB_fst.trans wB_fst.symm)) hS hA [0, 1, 2, 3, 4, 5, 6, 7, 8, 9, 10, 11, 12, 13, 14, 15, 16, 17, 18, 19, 20, 21, 22, 23, 24, 25, 26, 27, 28, 29, 30, 31, 32, 33, 34, 35, 36, 37, 38, 39, 40, 41, 42, 43, 44, 45, 46, 47, 48, 49, 50, 51, 52, 53, 54, 55, 56, 57, 58, 59, 60, 61, 62, 63, 64, 65, 66, 67, 68, 69, 70, 71, 72, 73, 74, 75, 76] (by decide +kernel) bC_o bJ_o (wB_fst.trans wB_fst.symm) rfl ⟨Nat.zero_le _, Nat.zero_le _⟩ (fun H locs hP hD hS => ?_)
              refine lv_aload_n hx hb dL_areAlike_244 rfl (lv_at hl 2 rfl) ?_
              refine lv_bipush (v := 9) hx hb dL_areAlike_245 (by decide) ?_
              refine lv_iload_n hx hb dL_areAlike_247 rfl (lv_at hl 4 rfl) ?_
              refine lv_isub hx hb dL_areAlike_248 ?_
              refine lv_iload hx hb dL_areAlike_249 (lv_at hl 5 rfl) ?_
              refine lv_iload hx hb dL_areAlike_251 (lv_at hl 0 rfl) ?_
              refine lv_iconst (v := 1) hx hb dL_areAlike_253 (by decide) ?_
              refine lv_isub hx hb dL_areAlike_254 ?_
              obtain ⟨r_30, sp_31, hc_32, hf⟩ := bd2_of hf
              refine fn_VJ (v := some (.int r_30)) (As := [.int ((9 : Int32) - x3), .int x4, .int (r_2 - (1 : Int32))]) (rest := [.int r_27]) (st1 := [.int r_30, .int r_27]) (ws' := ((wLS X ao so_28) ++ (wLS X ap sp_31))) (nL := 6) ⟨hx, hb, hml, hown, hts⟩ (c_B_link l X ap sp_12 ((9 : Int32) - x3) x4 (r_2 - (1 : Int32)) r_30 sp_31 hc_32) (cwV 3 hts gL_areAlike_X5_link rfl rfl rfl (by decide +kernel) ⟨Nat.le_of_ble_eq_true rfl, Nat.le_of_ble_eq_true rfl⟩) 5 rfl rfl rfl rfl hl.1 rfl (Nat.le_of_ble_eq_true rfl) dL_areAlike_255 hK hP (hD0.addr (wB_fst.trans wB_fst.symm)) hS hA [77, 78, 79, 80, 81, 82, 83, 84, 85, 86, 87, 88, 89, 90, 91, 92, 93, 94, 95, 96, 97, 98, 99, 100, 101, 102, 103, 104, 105, 106, 107, 108, 109, 110, 111, 112, 113, 114, 115, 116, 117, 118, 119, 120, 121, 122, 123, 124, 125, 126, 127, 128, 129, 130, 131, 132, 133, 134, 135, 136, 137, 138, 139, 140, 141, 142, 143, 144, 145, 146, 147, 148, 149, 150, 151, 152, 153] (by decide +kernel) bC_p bJ_p (wB_fst.trans wB_fst.symm) rfl ⟨Nat.zero_le _, Nat.zero_le _⟩ (fun H locs hP hD hS => ?_)
              refine lv_icmp_ne (tgt := 309) hx hb dL_areAlike_258 (by decide) (fun c_33 => ?_) (fun c_33 => ?_)
              · replace hf := fp_f c_33 hf
                refine lv_iconst (v := 0) hx hb dL_areAlike_309 (by decide) ?_
                cases hf
              · replace hf := fp_t c_33 hf
                refine lv_aload_n hx hb dL_areAlike_261 rfl (lv_at hl 1 rfl) ?_
                refine lv_iload_n hx hb dL_areAlike_262 rfl (lv_at hl 4 rfl) ?_
                refine lv_iload hx hb dL_areAlike_263 (lv_at hl 5 rfl) ?_
                refine lv_iconst (v := 1) hx hb dL_areAlike_265 (by decide) ?_
                obtain ⟨r_34, hc_35, hf⟩ := bd_of hf
                refine fn_V (v := some (.int r_34)) (As := [.int x3, .int x4, .int (1 : Int32)]) (rest := []) (st1 := [.int r_34]) (ws' := ((wLS X ao so_28) ++ (wLS X ap sp_31))) (nL := 6) ⟨hx, hb, hml, hown, hts⟩ (c_B_why l X ao so_28 x3 x4 (1 : Int32) r_34 hc_35) (cwV 3 hts gL_areAlike_X5_why rfl rfl rfl (by decide +kernel) ⟨Nat.le_of_ble_eq_true rfl, Nat.le_of_ble_eq_true rfl⟩) 5 rfl rfl rfl rfl hl.1 rfl (Nat.le_of_ble_eq_true rfl) dL_areAlike_266 hK hP (hD0.addr (wB_fst.trans wB_fst.symm)) hS hA [0, 1, 2, 3, 4, 5, 6, 7, 8, 9, 10, 11, 12, 13, 14, 15, 16, 17, 18, 19, 20, 21, 22, 23, 24, 25, 26, 27, 28, 29, 30, 31, 32, 33, 34, 35, 36, 37, 38, 39, 40, 41, 42, 43, 44, 45, 46, 47, 48, 49, 50, 51, 52, 53, 54, 55, 56, 57, 58, 59, 60, 61, 62, 63, 64, 65, 66, 67, 68, 69, 70, 71, 72, 73, 74, 75, 76] (by decide +kernel) bC_o (pt_setid _ _ _ bC_o) rfl ⟨Nat.zero_le _, Nat.zero_le _⟩ (fun H locs hP hD hS => ?_)
                refine lv_aload_n hx hb dL_areAlike_269 rfl (lv_at hl 2 rfl) ?_
                refine lv_bipush (v := 9) hx hb dL_areAlike_270 (by decide) ?_
                refine lv_iload_n hx hb dL_areAlike_272 rfl (lv_at hl 4 rfl) ?_
                refine lv_isub hx hb dL_areAlike_273 ?_
                refine lv_iload hx hb dL_areAlike_274 (lv_at hl 5 rfl) ?_
                refine lv_iconst (v := 1) hx hb dL_areAlike_276 (by decide) ?_
                obtain ⟨r_36, hc_37, hf⟩ := bd_of hf
                refine fn_V (v := some (.int r_36)) (As := [.int ((9 : Int32) - x3), .int x4, .int (1 : Int32)]) (rest := [.int r_34]) (st1 := [.int r_36, .int r_34]) (ws' := ((wLS X ao so_28) ++ (wLS X ap sp_31))) (nL := 6) ⟨hx, hb, hml, hown, hts⟩ (c_B_why l X ap sp_31 ((9 : Int32) - x3) x4 (1 : Int32) r_36 hc_37) (cwV 3 hts gL_areAlike_X5_why rfl rfl rfl (by decide +kernel) ⟨Nat.le_of_ble_eq_true rfl, Nat.le_of_ble_eq_true rfl⟩) 5 rfl rfl rfl rfl hl.1 rfl (Nat.le_of_ble_eq_true rfl) dL_areAlike_277 hK hP (hD0.addr (wB_fst.trans wB_fst.symm)) hS hA [77, 78, 79, 80, 81, 82, 83, 84, 85, 86, 87, 88, 89, 90, 91, 92, 93, 94, 95, 96, 97, 98, 99, 100, 101, 102, 103, 104, 105, 106, 107, 108, 109, 110, 111, 112, 113, 114, 115, 116, 117, 118, 119, 120, 121, 122, 123, 124, 125, 126, 127, 128, 129, 130, 131, 132, 133, 134, 135, 136, 137, 138, 139, 140, 141, 142, 143, 144, 145, 146, 147, 148, 149, 150, 151, 152, 153] (by decide +kernel) bC_p (pt_setid _ _ _ bC_p) rfl ⟨Nat.zero_le _, Nat.zero_le _⟩ (fun H locs hP hD hS => ?_)
                refine lv_icmp_ne (tgt := 309) hx hb dL_areAlike_280 (by decide) (fun c_38 => ?_) (fun c_38 => ?_)
                · replace hf := fp_f c_38 hf
                  refine lv_iconst (v := 0) hx hb dL_areAlike_309 (by decide) ?_
                  cases hf
                · replace hf := fp_t c_38 hf
                  refine lv_aload_n hx hb dL_areAlike_283 rfl (lv_at hl 1 rfl) ?_
                  refine lv_iload_n hx hb dL_areAlike_284 rfl (lv_at hl 4 rfl) ?_
                  refine lv_iload hx hb dL_areAlike_285 (lv_at hl 5 rfl) ?_
                  refine lv_iconst (v := 4) hx hb dL_areAlike_287 (by decide) ?_
                  obtain ⟨r_39, hc_40, hf⟩ := bd_of hf
                  refine fn_V (v := some (.int r_39)) (As := [.int x3, .int x4, .int (4 : Int32)]) (rest := []) (st1 := [.int r_39]) (ws' := ((wLS X ao so_28) ++ (wLS X ap sp_31))) (nL := 6) ⟨hx, hb, hml, hown, hts⟩ (c_B_why l X ao so_28 x3 x4 (4 : Int32) r_39 hc_40) (cwV 3 hts gL_areAlike_X5_why rfl rfl rfl (by decide +kernel) ⟨Nat.le_of_ble_eq_true rfl, Nat.le_of_ble_eq_true rfl⟩) 5 rfl rfl rfl rfl hl.1 rfl (Nat.le_of_ble_eq_true rfl) dL_areAlike_288 hK hP (hD0.addr (wB_fst.trans wB_fst.symm)) hS hA [0, 1, 2, 3, 4, 5, 6, 7, 8, 9, 10, 11, 12, 13, 14, 15, 16, 17, 18, 19, 20, 21, 22, 23, 24, 25, 26, 27, 28, 29, 30, 31, 32, 33, 34, 35, 36, 37, 38, 39, 40, 41, 42, 43, 44, 45, 46, 47, 48, 49, 50, 51, 52, 53, 54, 55, 56, 57, 58, 59, 60, 61, 62, 63, 64, 65, 66, 67, 68, 69, 70, 71, 72, 73, 74, 75, 76] (by decide +kernel) bC_o (pt_setid _ _ _ bC_o) rfl ⟨Nat.zero_le _, Nat.zero_le _⟩ (fun H locs hP hD hS => ?_)
                  refine lv_aload_n hx hb dL_areAlike_291 rfl (lv_at hl 2 rfl) ?_
                  refine lv_bipush (v := 9) hx hb dL_areAlike_292 (by decide) ?_
                  refine lv_iload_n hx hb dL_areAlike_294 rfl (lv_at hl 4 rfl) ?_
                  refine lv_isub hx hb dL_areAlike_295 ?_
                  refine lv_iload hx hb dL_areAlike_296 (lv_at hl 5 rfl) ?_
                  refine lv_iconst (v := 4) hx hb dL_areAlike_298 (by decide) ?_
                  obtain ⟨r_41, hc_42, hf⟩ := bd_of hf
                  refine fn_V (v := some (.int r_41)) (As := [.int ((9 : Int32) - x3), .int x4, .int (4 : Int32)]) (rest := [.int r_39]) (st1 := [.int r_41, .int r_39]) (ws' := ((wLS X ao so_28) ++ (wLS X ap sp_31))) (nL := 6) ⟨hx, hb, hml, hown, hts⟩ (c_B_why l X ap sp_31 ((9 : Int32) - x3) x4 (4 : Int32) r_41 hc_42) (cwV 3 hts gL_areAlike_X5_why rfl rfl rfl (by decide +kernel) ⟨Nat.le_of_ble_eq_true rfl, Nat.le_of_ble_eq_true rfl⟩) 5 rfl rfl rfl rfl hl.1 rfl (Nat.le_of_ble_eq_true rfl) dL_areAlike_299 hK hP (hD0.addr (wB_fst.trans wB_fst.symm)) hS hA [77, 78, 79, 80, 81, 82, 83, 84, 85, 86, 87, 88, 89, 90, 91, 92, 93, 94, 95, 96, 97, 98, 99, 100, 101, 102, 103, 104, 105, 106, 107, 108, 109, 110, 111, 112, 113, 114, 115, 116, 117, 118, 119, 120, 121, 122, 123, 124, 125, 126, 127, 128, 129, 130, 131, 132, 133, 134, 135, 136, 137, 138, 139, 140, 141, 142, 143, 144, 145, 146, 147, 148, 149, 150, 151, 152, 153] (by decide +kernel) bC_p (pt_setid _ _ _ bC_p) rfl ⟨Nat.zero_le _, Nat.zero_le _⟩ (fun H locs hP hD hS => ?_)
                  refine lv_icmp_ne (tgt := 309) hx hb dL_areAlike_302 (by decide) (fun c_43 => ?_) (fun c_43 => ?_)
                  · replace hf := fp_f c_43 hf
                    refine lv_iconst (v := 0) hx hb dL_areAlike_309 (by decide) ?_
                    cases hf
                  · replace hf := fp_t c_43 hf
                    refine lv_iconst (v := 1) hx hb dL_areAlike_305 (by decide) ?_
                    refine lv_goto (tgt := 310) hx hb dL_areAlike_306 (by decide) ?_
                    refine lv_istore_n (lv' := [(2, .int (1 : Int32)), (5, .int r_2), (0, .ref (ao.1)), (1, .ref (ap.1)), (3, .int x3), (4, .int x4)]) hx hb dL_areAlike_310 rfl hl (by decide) rfl (fun ls hl => ?_)
                    obtain ⟨v_44, ev_44⟩ : ∃ y : Int32, y = x4 + (1 : Int32) := ⟨_, rfl⟩
                    replace hf := nm_of ev_44 hf
                    refine lv_iinc (v := v_44) (lv' := [(4, .int v_44), (2, .int (1 : Int32)), (5, .int r_2), (0, .ref (ao.1)), (1, .ref (ap.1)), (3, .int x3)]) hx hb dL_areAlike_311 hl (k := 5) rfl (by rw [ev_44]; rfl) (by decide) rfl (fun ls hl => ?_)
                    refine lv_goto (tgt := 173) hx hb dL_areAlike_314 (by decide) ?_
                    exact ih v_44 so_28 sp_31 _ _ _ hf hP hS (lv_sub hl [3, 4, 1, 5, 0] rfl)
  have loop_85 : ∀ (Q : State → Prop) (x3 : Int32) (so : LSt) (sp : LSt), (∀ (H : Heap) (locs : List Loc) (ls : Array Slot), va_P X.1 vwCl ((wLS X ao so) ++ (wLS X ap sp)) H → va_S A s.heap H locs → lv_has ls 6 [(0, .ref (ao.1)), (1, .ref (ap.1)), (2, .int (1 : Int32)), (3, .int x3)] → W p l e ({ frames := 6, cells := 0, slots := 0, locals := 148 } : Room) s m args below meth c H locs 0 0 Q (F0 m 128 ls [])) → ∀ (k_ : Nat) (x4 : Int32) (H : Heap) (locs : List Loc) (ls : Array Slot), f_L_areAlike_L85 x3 so sp k_ x4 = some () → va_P X.1 vwCl ((wLS X ao so) ++ (wLS X ap sp)) H → va_S A s.heap H locs → lv_has ls 6 [(0, .ref (ao.1)), (1, .ref (ap.1)), (2, .int (1 : Int32)), (3, .int x3), (4, .int x4)] → W p l e ({ frames := 6, cells := 0, slots := 0, locals := 148 } : Room) s m args below meth c H locs 0 0 Q (F0 m 85 ls []) := by
    intro Q x3 so sp kx k_
    induction k_ with
    | zero => intro x4 H locs ls hf; exact nomatch (show (none : Option (Unit)) = some _ from hf)
    | succ k_ ih =>
      intro x4 H locs ls hf hP hS hl
      unfold f_L_areAlike_L85 at hf
      refine lv_iload hx hb dL_areAlike_85 (lv_at hl 4 rfl) ?_
      refine lv_bipush (v := 7) hx hb dL_areAlike_87 (by decide) ?_
      refine lv_icmp_ge (tgt := 128) hx hb dL_areAlike_89 (by decide) (fun c_45 => ?_) (fun c_45 => ?_)
      · replace hf := fp_t c_45 hf
        cases hf
        exact kx _ _ _ hP hS (lv_sub hl [0, 1, 2, 3] rfl)
      · replace hf := fp_f c_45 hf
        refine lv_iload_n hx hb dL_areAlike_92 rfl (lv_at hl 2 rfl) ?_
        refine lv_if_eq (tgt := 120) hx hb dL_areAlike_93 (by decide) (fun c9 => absurd c9 (by decide)) (fun _ => ?_)
        refine lv_aload_n hx hb dL_areAlike_96 rfl (lv_at hl 0 rfl) ?_
        refine lv_iload_n hx hb dL_areAlike_97 rfl (lv_at hl 3 rfl) ?_
        refine lv_iload hx hb dL_areAlike_98 (lv_at hl 4 rfl) ?_
        obtain ⟨r_47, hc_48, hf⟩ := bd_of hf
        refine fn_V (v := some (.int r_47)) (As := [.int x3, .int x4]) (rest := []) (st1 := [.int r_47]) (ws' := ((wLS X ao so) ++ (wLS X ap sp))) (nL := 6) ⟨hx, hb, hml, hown, hts⟩ (c_B_person l X ao so x3 x4 r_47 hc_48) (cwV 2 hts gL_areAlike_X5_person rfl rfl rfl (by decide +kernel) ⟨Nat.le_of_ble_eq_true rfl, Nat.le_of_ble_eq_true rfl⟩) 5 rfl rfl rfl rfl hl.1 rfl (Nat.le_of_ble_eq_true rfl) dL_areAlike_100 hK hP (hD0.addr (wB_fst.trans wB_fst.symm)) hS hA [0, 1, 2, 3, 4, 5, 6, 7, 8, 9, 10, 11, 12, 13, 14, 15, 16, 17, 18, 19, 20, 21, 22, 23, 24, 25, 26, 27, 28, 29, 30, 31, 32, 33, 34, 35, 36, 37, 38, 39, 40, 41, 42, 43, 44, 45, 46, 47, 48, 49, 50, 51, 52, 53, 54, 55, 56, 57, 58, 59, 60, 61, 62, 63, 64, 65, 66, 67, 68, 69, 70, 71, 72, 73, 74, 75, 76] (by decide +kernel) bC_o (pt_setid _ _ _ bC_o) rfl ⟨Nat.zero_le _, Nat.zero_le _⟩ (fun H locs hP hD hS => ?_)
        refine lv_aload_n hx hb dL_areAlike_103 rfl (lv_at hl 1 rfl) ?_
        refine lv_bipush (v := 9) hx hb dL_areAlike_104 (by decide) ?_
        refine lv_iload_n hx hb dL_areAlike_106 rfl (lv_at hl 3 rfl) ?_
        refine lv_isub hx hb dL_areAlike_107 ?_
        refine lv_iload hx hb dL_areAlike_108 (lv_at hl 4 rfl) ?_
        obtain ⟨r_49, hc_50, hf⟩ := bd_of hf
        refine fn_V (v := some (.int r_49)) (As := [.int ((9 : Int32) - x3), .int x4]) (rest := [.int r_47]) (st1 := [.int r_49, .int r_47]) (ws' := ((wLS X ao so) ++ (wLS X ap sp))) (nL := 6) ⟨hx, hb, hml, hown, hts⟩ (c_B_person l X ap sp ((9 : Int32) - x3) x4 r_49 hc_50) (cwV 2 hts gL_areAlike_X5_person rfl rfl rfl (by decide +kernel) ⟨Nat.le_of_ble_eq_true rfl, Nat.le_of_ble_eq_true rfl⟩) 5 rfl rfl rfl rfl hl.1 rfl (Nat.le_of_ble_eq_true rfl) dL_areAlike_110 hK hP (hD0.addr (wB_fst.trans wB_fst.symm)) hS hA [77, 78, 79, 80, 81, 82, 83, 84, 85, 86, 87, 88, 89, 90, 91, 92, 93, 94, 95, 96, 97, 98, 99, 100, 101, 102, 103, 104, 105, 106, 107, 108, 109, 110, 111, 112, 113, 114, 115, 116, 117, 118, 119, 120, 121, 122, 123, 124, 125, 126, 127, 128, 129, 130, 131, 132, 133, 134, 135, 136, 137, 138, 139, 140, 141, 142, 143, 144, 145, 146, 147, 148, 149, 150, 151, 152, 153] (by decide +kernel) bC_p (pt_setid _ _ _ bC_p) rfl ⟨Nat.zero_le _, Nat.zero_le _⟩ (fun H locs hP hD hS => ?_)
        refine lv_icmp_ne (tgt := 120) hx hb dL_areAlike_113 (by decide) (fun c_51 => ?_) (fun c_51 => ?_)
        · replace hf := fp_f c_51 hf
          refine lv_iconst (v := 0) hx hb dL_areAlike_120 (by decide) ?_
          cases hf
        · replace hf := fp_t c_51 hf
          refine lv_iconst (v := 1) hx hb dL_areAlike_116 (by decide) ?_
          refine lv_goto (tgt := 121) hx hb dL_areAlike_117 (by decide) ?_
          refine lv_istore_n (lv' := [(2, .int (1 : Int32)), (0, .ref (ao.1)), (1, .ref (ap.1)), (3, .int x3), (4, .int x4)]) hx hb dL_areAlike_121 rfl hl (by decide) rfl (fun ls hl => ?_)
          obtain ⟨v_52, ev_52⟩ : ∃ y : Int32, y = x4 + (1 : Int32) := ⟨_, rfl⟩
          replace hf := nm_of ev_52 hf
          refine lv_iinc (v := v_52) (lv' := [(4, .int v_52), (2, .int (1 : Int32)), (0, .ref (ao.1)), (1, .ref (ap.1)), (3, .int x3)]) hx hb dL_areAlike_122 hl (k := 4) rfl (by rw [ev_52]; rfl) (by decide) rfl (fun ls hl => ?_)
          refine lv_goto (tgt := 85) hx hb dL_areAlike_125 (by decide) ?_
          exact ih v_52 _ _ _ hf hP hS (lv_sub hl [2, 3, 1, 4, 0] rfl)
  have loop_72 : ∀ (Q : State → Prop) (soo : LSt) (spo : LSt), (∀ (H : Heap) (locs : List Loc) (ls : Array Slot), va_P X.1 vwCl ((wLS X ao soo) ++ (wLS X ap spo)) H → va_S A s.heap H locs → lv_has ls 6 [(2, .int (1 : Int32))] → W p l e ({ frames := 6, cells := 0, slots := 0, locals := 148 } : Room) s m args below meth c H locs 0 0 Q (F0 m 323 ls [])) → ∀ (k_ : Nat) (x3 : Int32) (so : LSt) (sp : LSt) (H : Heap) (locs : List Loc) (ls : Array Slot), f_L_areAlike_L72 k_ x3 so sp = some (soo, spo) → va_P X.1 vwCl ((wLS X ao so) ++ (wLS X ap sp)) H → va_S A s.heap H locs → lv_has ls 6 [(0, .ref (ao.1)), (1, .ref (ap.1)), (2, .int (1 : Int32)), (3, .int x3)] → W p l e ({ frames := 6, cells := 0, slots := 0, locals := 148 } : Room) s m args below meth c H locs 0 0 Q (F0 m 72 ls []) := by
    intro Q soo spo kx k_
    induction k_ with
    | zero => intro x3 so sp H locs ls hf; exact nomatch (show (none : Option (LSt × LSt)) = some _ from hf)
    | succ k_ ih =>
      intro x3 so sp H locs ls hf hP hS hl
      unfold f_L_areAlike_L72 at hf
      refine lv_iload_n hx hb dL_areAlike_72 rfl (lv_at hl 3 rfl) ?_
      refine lv_bipush (v := 10) hx hb dL_areAlike_73 (by decide) ?_
      refine lv_icmp_ge (tgt := 323) hx hb dL_areAlike_75 (by decide) (fun c_53 => ?_) (fun c_53 => ?_)
      · replace hf := fp_t c_53 hf
        cases hf
        exact kx _ _ _ hP hS (lv_sub hl [2] rfl)
      · replace hf := fp_f c_53 hf
        refine lv_iload_n hx hb dL_areAlike_78 rfl (lv_at hl 2 rfl) ?_
        refine lv_if_eq (tgt := 323) hx hb dL_areAlike_79 (by decide) (fun c9 => absurd c9 (by decide)) (fun _ => ?_)
        refine lv_iconst (v := 0) hx hb dL_areAlike_82 (by decide) ?_
        refine lv_istore (lv' := [(4, .int (0 : Int32)), (0, .ref (ao.1)), (1, .ref (ap.1)), (2, .int (1 : Int32)), (3, .int x3)]) hx hb dL_areAlike_83 hl (by decide) rfl (fun ls hl => ?_)
        obtain ⟨_, hL_55, hf⟩ := bd_of hf
        refine loop_85 _ x3 so sp (fun H locs ls hP hS hl => ?_) FU (0 : Int32) _ _ _ hL_55 hP hS (lv_sub hl [1, 2, 3, 4, 0] rfl)
        refine lv_iload_n hx hb dL_areAlike_128 rfl (lv_at hl 2 rfl) ?_
        refine lv_if_eq (tgt := 168) hx hb dL_areAlike_129 (by decide) (fun c9 => absurd c9 (by decide)) (fun _ => ?_)
        refine lv_aload_n hx hb dL_areAlike_132 rfl (lv_at hl 0 rfl) ?_
        refine lv_iload_n hx hb dL_areAlike_133 rfl (lv_at hl 3 rfl) ?_
        obtain ⟨r_57, hc_58, hf⟩ := bd_of hf
        refine fn_V (v := some (.int r_57)) (As := [.int x3]) (rest := []) (st1 := [.int r_57]) (ws' := ((wLS X ao so) ++ (wLS X ap sp))) (nL := 6) ⟨hx, hb, hml, hown, hts⟩ (c_B_patience l X ao so x3 r_57 hc_58) (cwV 1 hts gL_areAlike_X5_patience rfl rfl rfl (by decide +kernel) ⟨Nat.le_of_ble_eq_true rfl, Nat.le_of_ble_eq_true rfl⟩) 5 rfl rfl rfl rfl hl.1 rfl (Nat.le_of_ble_eq_true rfl) dL_areAlike_134 hK hP (hD0.addr (wB_fst.trans wB_fst.symm)) hS hA [0, 1, 2, 3, 4, 5, 6, 7, 8, 9, 10, 11, 12, 13, 14, 15, 16, 17, 18, 19, 20, 21, 22, 23, 24, 25, 26, 27, 28, 29, 30, 31, 32, 33, 34, 35, 36, 37, 38, 39, 40, 41, 42, 43, 44, 45, 46, 47, 48, 49, 50, 51, 52, 53, 54, 55, 56, 57, 58, 59, 60, 61, 62, 63, 64, 65, 66, 67, 68, 69, 70, 71, 72, 73, 74, 75, 76] (by decide +kernel) bC_o (pt_setid _ _ _ bC_o) rfl ⟨Nat.zero_le _, Nat.zero_le _⟩ (fun H locs hP hD hS => ?_)
        refine lv_aload_n hx hb dL_areAlike_137 rfl (lv_at hl 1 rfl) ?_
        refine lv_bipush (v := 9) hx hb dL_areAlike_138 (by decide) ?_
        refine lv_iload_n hx hb dL_areAlike_140 rfl (lv_at hl 3 rfl) ?_
        refine lv_isub hx hb dL_areAlike_141 ?_
        obtain ⟨r_59, hc_60, hf⟩ := bd_of hf
        refine fn_V (v := some (.int r_59)) (As := [.int ((9 : Int32) - x3)]) (rest := [.int r_57]) (st1 := [.int r_59, .int r_57]) (ws' := ((wLS X ao so) ++ (wLS X ap sp))) (nL := 6) ⟨hx, hb, hml, hown, hts⟩ (c_B_patience l X ap sp ((9 : Int32) - x3) r_59 hc_60) (cwV 1 hts gL_areAlike_X5_patience rfl rfl rfl (by decide +kernel) ⟨Nat.le_of_ble_eq_true rfl, Nat.le_of_ble_eq_true rfl⟩) 5 rfl rfl rfl rfl hl.1 rfl (Nat.le_of_ble_eq_true rfl) dL_areAlike_142 hK hP (hD0.addr (wB_fst.trans wB_fst.symm)) hS hA [77, 78, 79, 80, 81, 82, 83, 84, 85, 86, 87, 88, 89, 90, 91, 92, 93, 94, 95, 96, 97, 98, 99, 100, 101, 102, 103, 104, 105, 106, 107, 108, 109, 110, 111, 112, 113, 114, 115, 116, 117, 118, 119, 120, 121, 122, 123, 124, 125, 126, 127, 128, 129, 130, 131, 132, 133, 134, 135, 136, 137, 138, 139, 140, 141, 142, 143, 144, 145, 146, 147, 148, 149, 150, 151, 152, 153] (by decide +kernel) bC_p (pt_setid _ _ _ bC_p) rfl ⟨Nat.zero_le _, Nat.zero_le _⟩ (fun H locs hP hD hS => ?_)
        refine lv_icmp_ne (tgt := 168) hx hb dL_areAlike_145 (by decide) (fun c_61 => ?_) (fun c_61 => ?_)
        · replace hf := fp_f c_61 hf
          refine lv_iconst (v := 0) hx hb dL_areAlike_168 (by decide) ?_
          cases hf
        · replace hf := fp_t c_61 hf
          refine lv_aload_n hx hb dL_areAlike_148 rfl (lv_at hl 0 rfl) ?_
          refine lv_iload_n hx hb dL_areAlike_149 rfl (lv_at hl 3 rfl) ?_
          obtain ⟨r_62, so_63, hc_64, hf⟩ := bd2_of hf
          refine fn_VJ (v := some (.int r_62)) (As := [.int x3]) (rest := []) (st1 := [.int r_62]) (ws' := ((wLS X ao so_63) ++ (wLS X ap sp))) (nL := 6) ⟨hx, hb, hml, hown, hts⟩ (c_B_lostBy l X ao so x3 r_62 so_63 hc_64) (cwV 1 hts gL_areAlike_X5_lostBy rfl rfl rfl (by decide +kernel) ⟨Nat.le_of_ble_eq_true rfl, Nat.le_of_ble_eq_true rfl⟩) 5 rfl rfl rfl rfl hl.1 rfl (Nat.le_of_ble_eq_true rfl) dL_areAlike_150 hK hP (hD0.addr (wB_fst.trans wB_fst.symm)) hS hA [0, 1, 2, 3, 4, 5, 6, 7, 8, 9, 10, 11, 12, 13, 14, 15, 16, 17, 18, 19, 20, 21, 22, 23, 24, 25, 26, 27, 28, 29, 30, 31, 32, 33, 34, 35, 36, 37, 38, 39, 40, 41, 42, 43, 44, 45, 46, 47, 48, 49, 50, 51, 52, 53, 54, 55, 56, 57, 58, 59, 60, 61, 62, 63, 64, 65, 66, 67, 68, 69, 70, 71, 72, 73, 74, 75, 76] (by decide +kernel) bC_o bJ_o (wB_fst.trans wB_fst.symm) rfl ⟨Nat.zero_le _, Nat.zero_le _⟩ (fun H locs hP hD hS => ?_)
          refine lv_aload_n hx hb dL_areAlike_153 rfl (lv_at hl 1 rfl) ?_
          refine lv_bipush (v := 9) hx hb dL_areAlike_154 (by decide) ?_
          refine lv_iload_n hx hb dL_areAlike_156 rfl (lv_at hl 3 rfl) ?_
          refine lv_isub hx hb dL_areAlike_157 ?_
          obtain ⟨r_65, sp_66, hc_67, hf⟩ := bd2_of hf
          refine fn_VJ (v := some (.int r_65)) (As := [.int ((9 : Int32) - x3)]) (rest := [.int r_62]) (st1 := [.int r_65, .int r_62]) (ws' := ((wLS X ao so_63) ++ (wLS X ap sp_66))) (nL := 6) ⟨hx, hb, hml, hown, hts⟩ (c_B_lostBy l X ap sp ((9 : Int32) - x3) r_65 sp_66 hc_67) (cwV 1 hts gL_areAlike_X5_lostBy rfl rfl rfl (by decide +kernel) ⟨Nat.le_of_ble_eq_true rfl, Nat.le_of_ble_eq_true rfl⟩) 5 rfl rfl rfl rfl hl.1 rfl (Nat.le_of_ble_eq_true rfl) dL_areAlike_158 hK hP (hD0.addr (wB_fst.trans wB_fst.symm)) hS hA [77, 78, 79, 80, 81, 82, 83, 84, 85, 86, 87, 88, 89, 90, 91, 92, 93, 94, 95, 96, 97, 98, 99, 100, 101, 102, 103, 104, 105, 106, 107, 108, 109, 110, 111, 112, 113, 114, 115, 116, 117, 118, 119, 120, 121, 122, 123, 124, 125, 126, 127, 128, 129, 130, 131, 132, 133, 134, 135, 136, 137, 138, 139, 140, 141, 142, 143, 144, 145, 146, 147, 148, 149, 150, 151, 152, 153] (by decide +kernel) bC_p bJ_p (wB_fst.trans wB_fst.symm) rfl ⟨Nat.zero_le _, Nat.zero_le _⟩ (fun H locs hP hD hS => ?_)
          refine lv_icmp_ne (tgt := 168) hx hb dL_areAlike_161 (by decide) (fun c_68 => ?_) (fun c_68 => ?_)
          · replace hf := fp_f c_68 hf
            refine lv_iconst (v := 0) hx hb dL_areAlike_168 (by decide) ?_
            cases hf
          · replace hf := fp_t c_68 hf
            refine lv_iconst (v := 1) hx hb dL_areAlike_164 (by decide) ?_
            refine lv_goto (tgt := 169) hx hb dL_areAlike_165 (by decide) ?_
            refine lv_istore_n (lv' := [(2, .int (1 : Int32)), (0, .ref (ao.1)), (1, .ref (ap.1)), (3, .int x3)]) hx hb dL_areAlike_169 rfl hl (by decide) rfl (fun ls hl => ?_)
            refine lv_iconst (v := 0) hx hb dL_areAlike_170 (by decide) ?_
            refine lv_istore (lv' := [(4, .int (0 : Int32)), (2, .int (1 : Int32)), (0, .ref (ao.1)), (1, .ref (ap.1)), (3, .int x3)]) hx hb dL_areAlike_171 hl (by decide) rfl (fun ls hl => ?_)
            obtain ⟨so_69, sp_70, hL_71, hf⟩ := bd2_of hf
            refine loop_173 _ x3 so_69 sp_70 (fun H locs ls hP hS hl => ?_) FU (0 : Int32) so_63 sp_66 _ _ _ hL_71 hP hS (lv_sub hl [2, 3, 1, 4, 0] rfl)
            obtain ⟨v_72, ev_72⟩ : ∃ y : Int32, y = x3 + (1 : Int32) := ⟨_, rfl⟩
            replace hf := nm_of ev_72 hf
            refine lv_iinc (v := v_72) (lv' := [(3, .int v_72), (0, .ref (ao.1)), (1, .ref (ap.1)), (2, .int (1 : Int32))]) hx hb dL_areAlike_317 hl (k := 3) rfl (by rw [ev_72]; rfl) (by decide) rfl (fun ls hl => ?_)
            refine lv_goto (tgt := 72) hx hb dL_areAlike_320 (by decide) ?_
            exact ih v_72 so_69 sp_70 _ _ _ hf hP hS (lv_sub hl [1, 2, 3, 0] rfl)
  have loop_35 : ∀ (Q : State → Prop) (so : LSt) (sp : LSt), (∀ (H : Heap) (locs : List Loc) (ls : Array Slot), va_P X.1 vwCl ((wLS X ao so) ++ (wLS X ap sp)) H → va_S A s.heap H locs → lv_has ls 6 [(0, .ref (ao.1)), (1, .ref (ap.1)), (2, .int (1 : Int32))] → W p l e ({ frames := 6, cells := 0, slots := 0, locals := 148 } : Room) s m args below meth c H locs 0 0 Q (F0 m 70 ls [])) → ∀ (k_ : Nat) (x3 : Int32) (H : Heap) (locs : List Loc) (ls : Array Slot), f_L_areAlike_L35 so sp k_ x3 = some () → va_P X.1 vwCl ((wLS X ao so) ++ (wLS X ap sp)) H → va_S A s.heap H locs → lv_has ls 6 [(0, .ref (ao.1)), (1, .ref (ap.1)), (2, .int (1 : Int32)), (3, .int x3)] → W p l e ({ frames := 6, cells := 0, slots := 0, locals := 148 } : Room) s m args below meth c H locs 0 0 Q (F0 m 35 ls []) := by
    intro Q so sp kx k_
    induction k_ with
    | zero => intro x3 H locs ls hf; exact nomatch (show (none : Option (Unit)) = some _ from hf)
    | succ k_ ih =>
      intro x3 H locs ls hf hP hS hl
      unfold f_L_areAlike_L35 at hf
      refine lv_iload_n hx hb dL_areAlike_35 rfl (lv_at hl 3 rfl) ?_
      refine lv_bipush (v := 9) hx hb dL_areAlike_36 (by decide) ?_
      refine lv_icmp_ge (tgt := 70) hx hb dL_areAlike_38 (by decide) (fun c_73 => ?_) (fun c_73 => ?_)
      · replace hf := fp_t c_73 hf
        cases hf
        exact kx _ _ _ hP hS (lv_sub hl [0, 1, 2] rfl)
      · replace hf := fp_f c_73 hf
        refine lv_iload_n hx hb dL_areAlike_41 rfl (lv_at hl 2 rfl) ?_
        refine lv_if_eq (tgt := 62) hx hb dL_areAlike_42 (by decide) (fun c9 => absurd c9 (by decide)) (fun _ => ?_)
        refine lv_aload_n hx hb dL_areAlike_45 rfl (lv_at hl 0 rfl) ?_
        refine lv_iload_n hx hb dL_areAlike_46 rfl (lv_at hl 3 rfl) ?_
        obtain ⟨r_75, hc_76, hf⟩ := bd_of hf
        refine fn_V (v := some (.int r_75)) (As := [.int x3]) (rest := []) (st1 := [.int r_75]) (ws' := ((wLS X ao so) ++ (wLS X ap sp))) (nL := 6) ⟨hx, hb, hml, hown, hts⟩ (c_B_value l X ao so x3 r_75 hc_76) (cwV 1 hts gL_areAlike_X5_value rfl rfl rfl (by decide +kernel) ⟨Nat.le_of_ble_eq_true rfl, Nat.le_of_ble_eq_true rfl⟩) 5 rfl rfl rfl rfl hl.1 rfl (Nat.le_of_ble_eq_true rfl) dL_areAlike_47 hK hP (hD0.addr (wB_fst.trans wB_fst.symm)) hS hA [0, 1, 2, 3, 4, 5, 6, 7, 8, 9, 10, 11, 12, 13, 14, 15, 16, 17, 18, 19, 20, 21, 22, 23, 24, 25, 26, 27, 28, 29, 30, 31, 32, 33, 34, 35, 36, 37, 38, 39, 40, 41, 42, 43, 44, 45, 46, 47, 48, 49, 50, 51, 52, 53, 54, 55, 56, 57, 58, 59, 60, 61, 62, 63, 64, 65, 66, 67, 68, 69, 70, 71, 72, 73, 74, 75, 76] (by decide +kernel) bC_o (pt_setid _ _ _ bC_o) rfl ⟨Nat.zero_le _, Nat.zero_le _⟩ (fun H locs hP hD hS => ?_)
        refine lv_aload_n hx hb dL_areAlike_50 rfl (lv_at hl 1 rfl) ?_
        refine lv_iload_n hx hb dL_areAlike_51 rfl (lv_at hl 3 rfl) ?_
        obtain ⟨r_77, hc_78, hf⟩ := bd_of hf
        refine fn_V (v := some (.int r_77)) (As := [.int x3]) (rest := [.int r_75]) (st1 := [.int r_77, .int r_75]) (ws' := ((wLS X ao so) ++ (wLS X ap sp))) (nL := 6) ⟨hx, hb, hml, hown, hts⟩ (c_B_value l X ap sp x3 r_77 hc_78) (cwV 1 hts gL_areAlike_X5_value rfl rfl rfl (by decide +kernel) ⟨Nat.le_of_ble_eq_true rfl, Nat.le_of_ble_eq_true rfl⟩) 5 rfl rfl rfl rfl hl.1 rfl (Nat.le_of_ble_eq_true rfl) dL_areAlike_52 hK hP (hD0.addr (wB_fst.trans wB_fst.symm)) hS hA [77, 78, 79, 80, 81, 82, 83, 84, 85, 86, 87, 88, 89, 90, 91, 92, 93, 94, 95, 96, 97, 98, 99, 100, 101, 102, 103, 104, 105, 106, 107, 108, 109, 110, 111, 112, 113, 114, 115, 116, 117, 118, 119, 120, 121, 122, 123, 124, 125, 126, 127, 128, 129, 130, 131, 132, 133, 134, 135, 136, 137, 138, 139, 140, 141, 142, 143, 144, 145, 146, 147, 148, 149, 150, 151, 152, 153] (by decide +kernel) bC_p (pt_setid _ _ _ bC_p) rfl ⟨Nat.zero_le _, Nat.zero_le _⟩ (fun H locs hP hD hS => ?_)
        refine lv_icmp_ne (tgt := 62) hx hb dL_areAlike_55 (by decide) (fun c_79 => ?_) (fun c_79 => ?_)
        · replace hf := fp_f c_79 hf
          refine lv_iconst (v := 0) hx hb dL_areAlike_62 (by decide) ?_
          cases hf
        · replace hf := fp_t c_79 hf
          refine lv_iconst (v := 1) hx hb dL_areAlike_58 (by decide) ?_
          refine lv_goto (tgt := 63) hx hb dL_areAlike_59 (by decide) ?_
          refine lv_istore_n (lv' := [(2, .int (1 : Int32)), (0, .ref (ao.1)), (1, .ref (ap.1)), (3, .int x3)]) hx hb dL_areAlike_63 rfl hl (by decide) rfl (fun ls hl => ?_)
          obtain ⟨v_80, ev_80⟩ : ∃ y : Int32, y = x3 + (1 : Int32) := ⟨_, rfl⟩
          replace hf := nm_of ev_80 hf
          refine lv_iinc (v := v_80) (lv' := [(3, .int v_80), (2, .int (1 : Int32)), (0, .ref (ao.1)), (1, .ref (ap.1))]) hx hb dL_areAlike_64 hl (k := 3) rfl (by rw [ev_80]; rfl) (by decide) rfl (fun ls hl => ?_)
          refine lv_goto (tgt := 35) hx hb dL_areAlike_67 (by decide) ?_
          exact ih v_80 _ _ _ hf hP hS (lv_sub hl [2, 3, 1, 0] rfl)
  unfold f_L_areAlike at hf
  refine lv_aload_n hx hb dL_areAlike_0 rfl (lv_at hl 0 rfl) ?_
  obtain ⟨r_81, so_82, hc_83, hf⟩ := bd2_of hf
  refine fn_VJ (v := some (.double r_81)) (As := []) (rest := []) (st1 := [.double r_81]) (ws' := ((wLS X ao so_82) ++ (wLS X ap sp))) (nL := 6) ⟨hx, hb, hml, hown, hts⟩ (c_B_meanChain l X ao so r_81 so_82 hc_83) (cwV 0 hts gL_areAlike_X5_meanChain rfl rfl rfl (by decide +kernel) ⟨Nat.le_of_ble_eq_true rfl, Nat.le_of_ble_eq_true rfl⟩) 5 rfl rfl rfl rfl hl.1 rfl (Nat.le_of_ble_eq_true rfl) dL_areAlike_1 hK hP (hD0.addr (wB_fst.trans wB_fst.symm)) hS hA [0, 1, 2, 3, 4, 5, 6, 7, 8, 9, 10, 11, 12, 13, 14, 15, 16, 17, 18, 19, 20, 21, 22, 23, 24, 25, 26, 27, 28, 29, 30, 31, 32, 33, 34, 35, 36, 37, 38, 39, 40, 41, 42, 43, 44, 45, 46, 47, 48, 49, 50, 51, 52, 53, 54, 55, 56, 57, 58, 59, 60, 61, 62, 63, 64, 65, 66, 67, 68, 69, 70, 71, 72, 73, 74, 75, 76] (by decide +kernel) bC_o bJ_o (wB_fst.trans wB_fst.symm) rfl ⟨Nat.zero_le _, Nat.zero_le _⟩ (fun H locs hP hD hS => ?_)
  refine lv_aload_n hx hb dL_areAlike_4 rfl (lv_at hl 1 rfl) ?_
  obtain ⟨r_84, sp_85, hc_86, hf⟩ := bd2_of hf
  refine fn_VJ (v := some (.double r_84)) (As := []) (rest := [.double r_81]) (st1 := [.double r_84, .double r_81]) (ws' := ((wLS X ao so_82) ++ (wLS X ap sp_85))) (nL := 6) ⟨hx, hb, hml, hown, hts⟩ (c_B_meanChain l X ap sp r_84 sp_85 hc_86) (cwV 0 hts gL_areAlike_X5_meanChain rfl rfl rfl (by decide +kernel) ⟨Nat.le_of_ble_eq_true rfl, Nat.le_of_ble_eq_true rfl⟩) 5 rfl rfl rfl rfl hl.1 rfl (Nat.le_of_ble_eq_true rfl) dL_areAlike_5 hK hP (hD0.addr (wB_fst.trans wB_fst.symm)) hS hA [77, 78, 79, 80, 81, 82, 83, 84, 85, 86, 87, 88, 89, 90, 91, 92, 93, 94, 95, 96, 97, 98, 99, 100, 101, 102, 103, 104, 105, 106, 107, 108, 109, 110, 111, 112, 113, 114, 115, 116, 117, 118, 119, 120, 121, 122, 123, 124, 125, 126, 127, 128, 129, 130, 131, 132, 133, 134, 135, 136, 137, 138, 139, 140, 141, 142, 143, 144, 145, 146, 147, 148, 149, 150, 151, 152, 153] (by decide +kernel) bC_p bJ_p (wB_fst.trans wB_fst.symm) rfl ⟨Nat.zero_le _, Nat.zero_le _⟩ (fun H locs hP hD hS => ?_)
  refine lv_dcmp hx hb dL_areAlike_8 ?_
  refine lv_if_ne (tgt := 31) hx hb dL_areAlike_9 (by decide) (fun c_87 => ?_) (fun c_87 => ?_)
  · replace hf := fp_f c_87 hf
    refine lv_iconst (v := 0) hx hb dL_areAlike_31 (by decide) ?_
    cases hf
  · replace hf := fp_t c_87 hf
    refine lv_aload_n hx hb dL_areAlike_12 rfl (lv_at hl 0 rfl) ?_
    refine lv_bipush (v := 9) hx hb dL_areAlike_13 (by decide) ?_
    obtain ⟨r_88, so_89, hc_90, hf⟩ := bd2_of hf
    refine fn_VJ (v := some (.int r_88)) (As := [.int (9 : Int32)]) (rest := []) (st1 := [.int r_88]) (ws' := ((wLS X ao so_89) ++ (wLS X ap sp_85))) (nL := 6) ⟨hx, hb, hml, hown, hts⟩ (c_B_seenIn l X ao so_82 (9 : Int32) r_88 so_89 hc_90) (cwV 1 hts gL_areAlike_X5_seenIn rfl rfl rfl (by decide +kernel) ⟨Nat.le_of_ble_eq_true rfl, Nat.le_of_ble_eq_true rfl⟩) 5 rfl rfl rfl rfl hl.1 rfl (Nat.le_of_ble_eq_true rfl) dL_areAlike_15 hK hP (hD0.addr (wB_fst.trans wB_fst.symm)) hS hA [0, 1, 2, 3, 4, 5, 6, 7, 8, 9, 10, 11, 12, 13, 14, 15, 16, 17, 18, 19, 20, 21, 22, 23, 24, 25, 26, 27, 28, 29, 30, 31, 32, 33, 34, 35, 36, 37, 38, 39, 40, 41, 42, 43, 44, 45, 46, 47, 48, 49, 50, 51, 52, 53, 54, 55, 56, 57, 58, 59, 60, 61, 62, 63, 64, 65, 66, 67, 68, 69, 70, 71, 72, 73, 74, 75, 76] (by decide +kernel) bC_o bJ_o (wB_fst.trans wB_fst.symm) rfl ⟨Nat.zero_le _, Nat.zero_le _⟩ (fun H locs hP hD hS => ?_)
    refine lv_aload_n hx hb dL_areAlike_18 rfl (lv_at hl 1 rfl) ?_
    refine lv_bipush (v := 9) hx hb dL_areAlike_19 (by decide) ?_
    obtain ⟨r_91, sp_92, hc_93, hf⟩ := bd2_of hf
    refine fn_VJ (v := some (.int r_91)) (As := [.int (9 : Int32)]) (rest := [.int r_88]) (st1 := [.int r_91, .int r_88]) (ws' := ((wLS X ao so_89) ++ (wLS X ap sp_92))) (nL := 6) ⟨hx, hb, hml, hown, hts⟩ (c_B_seenIn l X ap sp_85 (9 : Int32) r_91 sp_92 hc_93) (cwV 1 hts gL_areAlike_X5_seenIn rfl rfl rfl (by decide +kernel) ⟨Nat.le_of_ble_eq_true rfl, Nat.le_of_ble_eq_true rfl⟩) 5 rfl rfl rfl rfl hl.1 rfl (Nat.le_of_ble_eq_true rfl) dL_areAlike_21 hK hP (hD0.addr (wB_fst.trans wB_fst.symm)) hS hA [77, 78, 79, 80, 81, 82, 83, 84, 85, 86, 87, 88, 89, 90, 91, 92, 93, 94, 95, 96, 97, 98, 99, 100, 101, 102, 103, 104, 105, 106, 107, 108, 109, 110, 111, 112, 113, 114, 115, 116, 117, 118, 119, 120, 121, 122, 123, 124, 125, 126, 127, 128, 129, 130, 131, 132, 133, 134, 135, 136, 137, 138, 139, 140, 141, 142, 143, 144, 145, 146, 147, 148, 149, 150, 151, 152, 153] (by decide +kernel) bC_p bJ_p (wB_fst.trans wB_fst.symm) rfl ⟨Nat.zero_le _, Nat.zero_le _⟩ (fun H locs hP hD hS => ?_)
    refine lv_icmp_ne (tgt := 31) hx hb dL_areAlike_24 (by decide) (fun c_94 => ?_) (fun c_94 => ?_)
    · replace hf := fp_f c_94 hf
      refine lv_iconst (v := 0) hx hb dL_areAlike_31 (by decide) ?_
      cases hf
    · replace hf := fp_t c_94 hf
      refine lv_iconst (v := 1) hx hb dL_areAlike_27 (by decide) ?_
      refine lv_goto (tgt := 32) hx hb dL_areAlike_28 (by decide) ?_
      refine lv_istore_n (lv' := [(2, .int (1 : Int32)), (0, .ref (ao.1)), (1, .ref (ap.1))]) hx hb dL_areAlike_32 rfl hl (by decide) rfl (fun ls hl => ?_)
      refine lv_iconst (v := 0) hx hb dL_areAlike_33 (by decide) ?_
      refine lv_istore_n (lv' := [(3, .int (0 : Int32)), (2, .int (1 : Int32)), (0, .ref (ao.1)), (1, .ref (ap.1))]) hx hb dL_areAlike_34 rfl hl (by decide) rfl (fun ls hl => ?_)
      obtain ⟨_, hL_95, hf⟩ := bd_of hf
      refine loop_35 _ so_89 sp_92 (fun H locs ls hP hS hl => ?_) FU (0 : Int32) _ _ _ hL_95 hP hS (lv_sub hl [2, 3, 1, 0] rfl)
      refine lv_iconst (v := 0) hx hb dL_areAlike_70 (by decide) ?_
      refine lv_istore_n (lv' := [(3, .int (0 : Int32)), (0, .ref (ao.1)), (1, .ref (ap.1)), (2, .int (1 : Int32))]) hx hb dL_areAlike_71 rfl hl (by decide) rfl (fun ls hl => ?_)
      obtain ⟨so_96, sp_97, hL_98, hf⟩ := bd2_of hf
      refine loop_72 _ so_96 sp_97 (fun H locs ls hP hS hl => ?_) FU (0 : Int32) so_89 sp_92 _ _ _ hL_98 hP hS (lv_sub hl [1, 2, 3, 0] rfl)
      refine lv_iload_n hx hb dL_areAlike_323 rfl (lv_at hl 0 rfl) ?_
      cases hf
      exact fn_zret hx hb hr rfl hlocks hP hS dL_areAlike_324

def f_L_isSound_L18 (x3 : Int32) : Nat → Int32 → Int32 → LSt →  Option (Int32 × LSt)
  | 0, _, _, _ => none
  | k_ + 1, x1, x4, so =>
    if (10 : Int32) ≤ x4 then
    (some (x1, so))
    else
    (bd (f_B_held x4 x3 so) (fun r_3 =>
    bd (f_B_thing x3 (0 : Int32) so) (fun r_5 =>
    nm (if r_5 = x4 then (1 : Int32) else (0 : Int32)) (fun v_8 =>
    nm (x1 + (r_3 &&& (1 : Int32))) (fun v_9 =>
    if v_8 = (0 : Int32) then
    (bd (f_B_thing x3 (1 : Int32) so) (fun r_11 =>
    if r_3 &&& (r_11 ^^^ (-1 : Int32)) = (0 : Int32) then
    (bd (f_B_why x4 x3 (1 : Int32) so) (fun r_14 =>
    nm (if r_14 = (0 : Int32) then (1 : Int32) else (0 : Int32)) (fun v_17 =>
    nm (if r_3 &&& (1 : Int32) ≤ (0 : Int32) then (0 : Int32) else (1 : Int32)) (fun v_19 =>
    if v_17 = v_19 then
    (bd (f_B_why x4 x3 (2 : Int32) so) (fun r_21 =>
    nm (if r_21 = (0 : Int32) then (1 : Int32) else (0 : Int32)) (fun v_24 =>
    nm (if r_3 &&& (2 : Int32) ≤ (0 : Int32) then (0 : Int32) else (1 : Int32)) (fun v_26 =>
    if v_24 = v_26 then
    (bd (f_B_why x4 x3 (4 : Int32) so) (fun r_28 =>
    nm (if r_28 = (0 : Int32) then (1 : Int32) else (0 : Int32)) (fun v_31 =>
    nm (if r_3 &&& (4 : Int32) ≤ (0 : Int32) then (0 : Int32) else (1 : Int32)) (fun v_33 =>
    if v_31 = v_33 then
    (bd2 (f_B_chain x4 x3 so) (fun r_35 so_36 =>
    nm (if r_35 < (0 : Int32) then (0 : Int32) else (1 : Int32)) (fun v_39 =>
    nm (if r_3 &&& (1 : Int32) ≤ (0 : Int32) then (0 : Int32) else (1 : Int32)) (fun v_41 =>
    if v_39 = v_41 then
    (bd (f_B_thing x3 (4 : Int32) so_36) (fun r_43 =>
    if (r_43 >>> (x4 &&& 31)) &&& (1 : Int32) = (r_3 >>> ((1 : Int32) &&& 31)) &&& (1 : Int32) then
    (nm (x4 + (1 : Int32)) (fun v_46 =>
    f_L_isSound_L18 x3 k_ v_9 v_46 so_36))
    else
    (none)))
    else
    (none)))))
    else
    (none)))))
    else
    (none)))))
    else
    (none)))))
    else
    (none)))
    else
    (if r_3 = (7 : Int32) then
    (bd (f_B_why x4 x3 (1 : Int32) so) (fun r_48 =>
    nm (if r_48 = (0 : Int32) then (1 : Int32) else (0 : Int32)) (fun v_51 =>
    nm (if r_3 &&& (1 : Int32) ≤ (0 : Int32) then (0 : Int32) else (1 : Int32)) (fun v_53 =>
    if v_51 = v_53 then
    (bd (f_B_why x4 x3 (2 : Int32) so) (fun r_55 =>
    nm (if r_55 = (0 : Int32) then (1 : Int32) else (0 : Int32)) (fun v_58 =>
    nm (if r_3 &&& (2 : Int32) ≤ (0 : Int32) then (0 : Int32) else (1 : Int32)) (fun v_60 =>
    if v_58 = v_60 then
    (bd (f_B_why x4 x3 (4 : Int32) so) (fun r_62 =>
    nm (if r_62 = (0 : Int32) then (1 : Int32) else (0 : Int32)) (fun v_65 =>
    nm (if r_3 &&& (4 : Int32) ≤ (0 : Int32) then (0 : Int32) else (1 : Int32)) (fun v_67 =>
    if v_65 = v_67 then
    (bd2 (f_B_chain x4 x3 so) (fun r_69 so_70 =>
    nm (if r_69 < (0 : Int32) then (0 : Int32) else (1 : Int32)) (fun v_73 =>
    nm (if r_3 &&& (1 : Int32) ≤ (0 : Int32) then (0 : Int32) else (1 : Int32)) (fun v_75 =>
    if v_73 = v_75 then
    (bd (f_B_thing x3 (4 : Int32) so_70) (fun r_77 =>
    if (r_77 >>> (x4 &&& 31)) &&& (1 : Int32) = (r_3 >>> ((1 : Int32) &&& 31)) &&& (1 : Int32) then
    (nm (x4 + (1 : Int32)) (fun v_80 =>
    f_L_isSound_L18 x3 k_ v_9 v_80 so_70))
    else
    (none)))
    else
    (none)))))
    else
    (none)))))
    else
    (none)))))
    else
    (none)))))
    else
    (none)))))))
def f_L_isSound_L6  : Nat → Int32 → Int32 → LSt →  Option (Int32 × LSt)
  | 0, _, _, _ => none
  | k_ + 1, x1, x3, so =>
    if (3 : Int32) ≤ x3 then
    (some (x1, so))
    else
    (bd2 (f_L_isSound_L18 x3 FU x1 (0 : Int32) so) (fun y1_83 so_84 =>
    nm (x3 + (1 : Int32)) (fun v_86 =>
    f_L_isSound_L6 k_ y1_83 v_86 so_84)))
def f_L_isSound (so : LSt) : Option (LSt) :=
  bd2 (f_L_isSound_L6 FU (0 : Int32) (0 : Int32) so) (fun y1_87 so_88 =>
  bd (f_B_value (6 : Int32) so_88) (fun r_91 =>
  if r_91 = y1_87 then
  (bd (f_B_value (2 : Int32) so_88) (fun r_94 =>
  bd (f_B_value (1 : Int32) so_88) (fun r_96 =>
  bd (f_B_value (3 : Int32) so_88) (fun r_98 =>
  bd (f_B_value (4 : Int32) so_88) (fun r_100 =>
  if r_94 = (r_96 + r_98) + r_100 then
  (bd (f_B_value (7 : Int32) so_88) (fun r_103 =>
  bd (f_B_value (1 : Int32) so_88) (fun r_105 =>
  if r_105 < r_103 then
  (none)
  else
  (bd2 (f_B_seenIn (0 : Int32) so_88) (fun r_108 so_109 =>
  if r_108 = y1_87 then
  (some so_109)
  else
  (none))))))
  else
  (none))))))
  else
  (none)))
set_option maxHeartbeats 4000000 in
set_option maxRecDepth 100000 in
theorem c_L_isSound (l : Launch) (X : cx_G) (ao : LAd) (so : LSt) (so' : LSt) (hf : f_L_isSound so = some so') : Fn l yL_isSound wsL_isSound ({ frames := 5, cells := 0, slots := 0, locals := 119 } : Room) X [.ref (ao.1)] (wLS X ao so) (some (.int 1)) (wLS X ao so') := by
  refine fn_intro (cc := cL_isSound) (maxL := 7) (ret := (some .boolean)) (by decide) rfl (wS_fst.trans wS_fst.symm) (Nat.le_of_ble_eq_true rfl) ?_
  intro p e s m args below meth c A ls hx hb hml hr hts hown hlocks hK hP hD0 hS hA hl
  have hown : s.vm.findClass RL = some m.cls := hown
  have hl : lv_has ls 7 [(0, .ref (ao.1))] := hl
  have loop_18 : ∀ (Q : State → Prop) (x3 : Int32) (y1 : Int32) (soo : LSt), (∀ (H : Heap) (locs : List Loc) (ls : Array Slot), va_P X.1 vwCl (wLS X ao soo) H → va_S A s.heap H locs → lv_has ls 7 [(0, .ref (ao.1)), (1, .int y1), (2, .int (1 : Int32)), (3, .int x3)] → W p l e ({ frames := 5, cells := 0, slots := 0, locals := 119 } : Room) s m args below meth c H locs 0 0 Q (F0 m 247 ls [])) → ∀ (k_ : Nat) (x1 : Int32) (x4 : Int32) (so : LSt) (H : Heap) (locs : List Loc) (ls : Array Slot), f_L_isSound_L18 x3 k_ x1 x4 so = some (y1, soo) → va_P X.1 vwCl (wLS X ao so) H → va_S A s.heap H locs → lv_has ls 7 [(0, .ref (ao.1)), (1, .int x1), (2, .int (1 : Int32)), (3, .int x3), (4, .int x4)] → W p l e ({ frames := 5, cells := 0, slots := 0, locals := 119 } : Room) s m args below meth c H locs 0 0 Q (F0 m 18 ls []) := by
    intro Q x3 y1 soo kx k_
    induction k_ with
    | zero => intro x1 x4 so H locs ls hf; exact nomatch (show (none : Option (Int32 × LSt)) = some _ from hf)
    | succ k_ ih =>
      intro x1 x4 so H locs ls hf hP hS hl
      unfold f_L_isSound_L18 at hf
      refine lv_iload hx hb dL_isSound_18 (lv_at hl 4 rfl) ?_
      refine lv_bipush (v := 10) hx hb dL_isSound_20 (by decide) ?_
      refine lv_icmp_ge (tgt := 247) hx hb dL_isSound_22 (by decide) (fun c_1 => ?_) (fun c_1 => ?_)
      · replace hf := fp_t c_1 hf
        cases hf
        exact kx _ _ _ hP hS (lv_sub hl [0, 1, 2, 3] rfl)
      · replace hf := fp_f c_1 hf
        refine lv_iload_n hx hb dL_isSound_25 rfl (lv_at hl 2 rfl) ?_
        refine lv_if_eq (tgt := 247) hx hb dL_isSound_26 (by decide) (fun c9 => absurd c9 (by decide)) (fun _ => ?_)
        refine lv_aload_n hx hb dL_isSound_29 rfl (lv_at hl 0 rfl) ?_
        refine lv_iload hx hb dL_isSound_30 (lv_at hl 4 rfl) ?_
        refine lv_iload_n hx hb dL_isSound_32 rfl (lv_at hl 3 rfl) ?_
        obtain ⟨r_3, hc_4, hf⟩ := bd_of hf
        refine fn_V (v := some (.int r_3)) (As := [.int x4, .int x3]) (rest := []) (st1 := [.int r_3]) (ws' := (wLS X ao so)) (nL := 7) ⟨hx, hb, hml, hown, hts⟩ (c_B_held l X ao so x4 x3 r_3 hc_4) (cwV 2 hts gL_isSound_X5_held rfl rfl rfl (by decide +kernel) ⟨Nat.le_of_ble_eq_true rfl, Nat.le_of_ble_eq_true rfl⟩) 5 rfl rfl rfl rfl hl.1 rfl (Nat.le_of_ble_eq_true rfl) dL_isSound_33 hK hP (hD0.addr (wS_fst.trans wS_fst.symm)) hS hA [0, 1, 2, 3, 4, 5, 6, 7, 8, 9, 10, 11, 12, 13, 14, 15, 16, 17, 18, 19, 20, 21, 22, 23, 24, 25, 26, 27, 28, 29, 30, 31, 32, 33, 34, 35, 36, 37, 38, 39, 40, 41, 42, 43, 44, 45, 46, 47, 48, 49, 50, 51, 52, 53, 54, 55, 56, 57, 58, 59, 60, 61, 62, 63, 64, 65, 66, 67, 68, 69, 70, 71, 72, 73, 74, 75, 76] (by decide +kernel) sC_a (pt_setid _ _ _ sC_a) rfl ⟨Nat.zero_le _, Nat.zero_le _⟩ (fun H locs hP hD hS => ?_)
        refine lv_istore (lv' := [(5, .int r_3), (0, .ref (ao.1)), (1, .int x1), (2, .int (1 : Int32)), (3, .int x3), (4, .int x4)]) hx hb dL_isSound_36 hl (by decide) rfl (fun ls hl => ?_)
        refine lv_aload_n hx hb dL_isSound_38 rfl (lv_at hl 1 rfl) ?_
        refine lv_iload_n hx hb dL_isSound_39 rfl (lv_at hl 4 rfl) ?_
        refine lv_iconst (v := 0) hx hb dL_isSound_40 (by decide) ?_
        obtain ⟨r_5, hc_6, hf⟩ := bd_of hf
        refine fn_V (v := some (.int r_5)) (As := [.int x3, .int (0 : Int32)]) (rest := []) (st1 := [.int r_5]) (ws' := (wLS X ao so)) (nL := 7) ⟨hx, hb, hml, hown, hts⟩ (c_B_thing l X ao so x3 (0 : Int32) r_5 hc_6) (cwV 2 hts gL_isSound_X5_thing rfl rfl rfl (by decide +kernel) ⟨Nat.le_of_ble_eq_true rfl, Nat.le_of_ble_eq_true rfl⟩) 5 rfl rfl rfl rfl hl.1 rfl (Nat.le_of_ble_eq_true rfl) dL_isSound_41 hK hP (hD0.addr (wS_fst.trans wS_fst.symm)) hS hA [0, 1, 2, 3, 4, 5, 6, 7, 8, 9, 10, 11, 12, 13, 14, 15, 16, 17, 18, 19, 20, 21, 22, 23, 24, 25, 26, 27, 28, 29, 30, 31, 32, 33, 34, 35, 36, 37, 38, 39, 40, 41, 42, 43, 44, 45, 46, 47, 48, 49, 50, 51, 52, 53, 54, 55, 56, 57, 58, 59, 60, 61, 62, 63, 64, 65, 66, 67, 68, 69, 70, 71, 72, 73, 74, 75, 76] (by decide +kernel) sC_a (pt_setid _ _ _ sC_a) rfl ⟨Nat.zero_le _, Nat.zero_le _⟩ (fun H locs hP hD hS => ?_)
        refine lv_iload hx hb dL_isSound_44 (lv_at hl 5 rfl) ?_
        refine jn_W (k := r_5 = x4) (a := (1 : Int32)) (b := (0 : Int32)) (J := 54) (st := []) (fun hj => ?_) (fun v_8 ev_8 => ?_)
        · refine lv_icmp_ne (tgt := 53) hx hb dL_isSound_46 (by decide) (fun c_7 => ?_) (fun c_7 => ?_)
          · refine lv_iconst (v := 0) hx hb dL_isSound_53 (by decide) ?_
            exact hj _ (if_neg c_7).symm
          · refine lv_iconst (v := 1) hx hb dL_isSound_49 (by decide) ?_
            refine lv_goto (tgt := 54) hx hb dL_isSound_50 (by decide) ?_
            exact hj _ (if_pos c_7).symm
        replace hf := nm_of ev_8 hf
        refine lv_istore (lv' := [(6, .int v_8), (5, .int r_3), (0, .ref (ao.1)), (1, .int x1), (2, .int (1 : Int32)), (3, .int x3), (4, .int x4)]) hx hb dL_isSound_54 hl (by decide) rfl (fun ls hl => ?_)
        refine lv_iload_n hx hb dL_isSound_56 rfl (lv_at hl 3 rfl) ?_
        refine lv_iload hx hb dL_isSound_57 (lv_at hl 1 rfl) ?_
        refine lv_iconst (v := 1) hx hb dL_isSound_59 (by decide) ?_
        refine lv_iand hx hb dL_isSound_60 ?_
        refine lv_iadd hx hb dL_isSound_61 ?_
        refine lv_topi (fun v_9 ev_9 => ?_)
        replace hf := nm_of ev_9 hf
        refine lv_istore_n (lv' := [(1, .int v_9), (6, .int v_8), (5, .int r_3), (0, .ref (ao.1)), (2, .int (1 : Int32)), (3, .int x3), (4, .int x4)]) hx hb dL_isSound_62 rfl hl (by decide) rfl (fun ls hl => ?_)
        refine lv_iload hx hb dL_isSound_63 (lv_at hl 1 rfl) ?_
        refine lv_if_eq (tgt := 78) hx hb dL_isSound_65 (by decide) (fun c_10 => ?_) (fun c_10 => ?_)
        · replace hf := fp_t c_10 hf
          refine lv_iload hx hb dL_isSound_78 (lv_at hl 2 rfl) ?_
          refine lv_aload_n hx hb dL_isSound_80 rfl (lv_at hl 3 rfl) ?_
          refine lv_iload_n hx hb dL_isSound_81 rfl (lv_at hl 5 rfl) ?_
          refine lv_iconst (v := 1) hx hb dL_isSound_82 (by decide) ?_
          obtain ⟨r_11, hc_12, hf⟩ := bd_of hf
          refine fn_V (v := some (.int r_11)) (As := [.int x3, .int (1 : Int32)]) (rest := [.int r_3]) (st1 := [.int r_11, .int r_3]) (ws' := (wLS X ao so)) (nL := 7) ⟨hx, hb, hml, hown, hts⟩ (c_B_thing l X ao so x3 (1 : Int32) r_11 hc_12) (cwV 2 hts gL_isSound_X5_thing rfl rfl rfl (by decide +kernel) ⟨Nat.le_of_ble_eq_true rfl, Nat.le_of_ble_eq_true rfl⟩) 5 rfl rfl rfl rfl hl.1 rfl (Nat.le_of_ble_eq_true rfl) dL_isSound_83 hK hP (hD0.addr (wS_fst.trans wS_fst.symm)) hS hA [0, 1, 2, 3, 4, 5, 6, 7, 8, 9, 10, 11, 12, 13, 14, 15, 16, 17, 18, 19, 20, 21, 22, 23, 24, 25, 26, 27, 28, 29, 30, 31, 32, 33, 34, 35, 36, 37, 38, 39, 40, 41, 42, 43, 44, 45, 46, 47, 48, 49, 50, 51, 52, 53, 54, 55, 56, 57, 58, 59, 60, 61, 62, 63, 64, 65, 66, 67, 68, 69, 70, 71, 72, 73, 74, 75, 76] (by decide +kernel) sC_a (pt_setid _ _ _ sC_a) rfl ⟨Nat.zero_le _, Nat.zero_le _⟩ (fun H locs hP hD hS => ?_)
          refine lv_iconst (v := -1) hx hb dL_isSound_86 (by decide) ?_
          refine lv_ixor hx hb dL_isSound_87 ?_
          refine lv_iand hx hb dL_isSound_88 ?_
          refine lv_if_ne (tgt := 239) hx hb dL_isSound_89 (by decide) (fun c_13 => ?_) (fun c_13 => ?_)
          · replace hf := fp_f c_13 hf
            refine lv_iconst (v := 0) hx hb dL_isSound_239 (by decide) ?_
            cases hf
          · replace hf := fp_t c_13 hf
            refine lv_aload_n hx hb dL_isSound_92 rfl (lv_at hl 3 rfl) ?_
            refine lv_iload hx hb dL_isSound_93 (lv_at hl 6 rfl) ?_
            refine lv_iload_n hx hb dL_isSound_95 rfl (lv_at hl 5 rfl) ?_
            refine lv_iconst (v := 1) hx hb dL_isSound_96 (by decide) ?_
            obtain ⟨r_14, hc_15, hf⟩ := bd_of hf
            refine fn_V (v := some (.int r_14)) (As := [.int x4, .int x3, .int (1 : Int32)]) (rest := []) (st1 := [.int r_14]) (ws' := (wLS X ao so)) (nL := 7) ⟨hx, hb, hml, hown, hts⟩ (c_B_why l X ao so x4 x3 (1 : Int32) r_14 hc_15) (cwV 3 hts gL_isSound_X5_why rfl rfl rfl (by decide +kernel) ⟨Nat.le_of_ble_eq_true rfl, Nat.le_of_ble_eq_true rfl⟩) 5 rfl rfl rfl rfl hl.1 rfl (Nat.le_of_ble_eq_true rfl) dL_isSound_97 hK hP (hD0.addr (wS_fst.trans wS_fst.symm)) hS hA [0, 1, 2, 3, 4, 5, 6, 7, 8, 9, 10, 11, 12, 13, 14, 15, 16, 17, 18, 19, 20, 21, 22, 23, 24, 25, 26, 27, 28, 29, 30, 31, 32, 33, 34, 35, 36, 37, 38, 39, 40, 41, 42, 43, 44, 45, 46, 47, 48, 49, 50, 51, 52, 53, 54, 55, 56, 57, 58, 59, 60, 61, 62, 63, 64, 65, 66, 67, 68, 69, 70, 71, 72, 73, 74, 75, 76] (by decide +kernel) sC_a (pt_setid _ _ _ sC_a) rfl ⟨Nat.zero_le _, Nat.zero_le _⟩ (fun H locs hP hD hS => ?_)
            refine jn_W (k := r_14 = (0 : Int32)) (a := (1 : Int32)) (b := (0 : Int32)) (J := 108) (st := []) (fun hj => ?_) (fun v_17 ev_17 => ?_)
            · refine lv_if_ne (tgt := 107) hx hb dL_isSound_100 (by decide) (fun c_16 => ?_) (fun c_16 => ?_)
              · refine lv_iconst (v := 0) hx hb dL_isSound_107 (by decide) ?_
                exact hj _ (if_neg c_16).symm
              · refine lv_iconst (v := 1) hx hb dL_isSound_103 (by decide) ?_
                refine lv_goto (tgt := 108) hx hb dL_isSound_104 (by decide) ?_
                exact hj _ (if_pos c_16).symm
            replace hf := nm_of ev_17 hf
            refine lv_iload hx hb dL_isSound_108 (lv_at hl 2 rfl) ?_
            refine lv_iconst (v := 1) hx hb dL_isSound_110 (by decide) ?_
            refine lv_iand hx hb dL_isSound_111 ?_
            refine jn_W (k := r_3 &&& (1 : Int32) ≤ (0 : Int32)) (a := (0 : Int32)) (b := (1 : Int32)) (J := 120) (st := [.int v_17]) (fun hj => ?_) (fun v_19 ev_19 => ?_)
            · refine lv_if_le (tgt := 119) hx hb dL_isSound_112 (by decide) (fun c_18 => ?_) (fun c_18 => ?_)
              · refine lv_iconst (v := 0) hx hb dL_isSound_119 (by decide) ?_
                exact hj _ (if_pos c_18).symm
              · refine lv_iconst (v := 1) hx hb dL_isSound_115 (by decide) ?_
                refine lv_goto (tgt := 120) hx hb dL_isSound_116 (by decide) ?_
                exact hj _ (if_neg c_18).symm
            replace hf := nm_of ev_19 hf
            refine lv_icmp_ne (tgt := 239) hx hb dL_isSound_120 (by decide) (fun c_20 => ?_) (fun c_20 => ?_)
            · replace hf := fp_f c_20 hf
              refine lv_iconst (v := 0) hx hb dL_isSound_239 (by decide) ?_
              cases hf
            · replace hf := fp_t c_20 hf
              refine lv_aload_n hx hb dL_isSound_123 rfl (lv_at hl 3 rfl) ?_
              refine lv_iload hx hb dL_isSound_124 (lv_at hl 6 rfl) ?_
              refine lv_iload_n hx hb dL_isSound_126 rfl (lv_at hl 5 rfl) ?_
              refine lv_iconst (v := 2) hx hb dL_isSound_127 (by decide) ?_
              obtain ⟨r_21, hc_22, hf⟩ := bd_of hf
              refine fn_V (v := some (.int r_21)) (As := [.int x4, .int x3, .int (2 : Int32)]) (rest := []) (st1 := [.int r_21]) (ws' := (wLS X ao so)) (nL := 7) ⟨hx, hb, hml, hown, hts⟩ (c_B_why l X ao so x4 x3 (2 : Int32) r_21 hc_22) (cwV 3 hts gL_isSound_X5_why rfl rfl rfl (by decide +kernel) ⟨Nat.le_of_ble_eq_true rfl, Nat.le_of_ble_eq_true rfl⟩) 5 rfl rfl rfl rfl hl.1 rfl (Nat.le_of_ble_eq_true rfl) dL_isSound_128 hK hP (hD0.addr (wS_fst.trans wS_fst.symm)) hS hA [0, 1, 2, 3, 4, 5, 6, 7, 8, 9, 10, 11, 12, 13, 14, 15, 16, 17, 18, 19, 20, 21, 22, 23, 24, 25, 26, 27, 28, 29, 30, 31, 32, 33, 34, 35, 36, 37, 38, 39, 40, 41, 42, 43, 44, 45, 46, 47, 48, 49, 50, 51, 52, 53, 54, 55, 56, 57, 58, 59, 60, 61, 62, 63, 64, 65, 66, 67, 68, 69, 70, 71, 72, 73, 74, 75, 76] (by decide +kernel) sC_a (pt_setid _ _ _ sC_a) rfl ⟨Nat.zero_le _, Nat.zero_le _⟩ (fun H locs hP hD hS => ?_)
              refine jn_W (k := r_21 = (0 : Int32)) (a := (1 : Int32)) (b := (0 : Int32)) (J := 139) (st := []) (fun hj => ?_) (fun v_24 ev_24 => ?_)
              · refine lv_if_ne (tgt := 138) hx hb dL_isSound_131 (by decide) (fun c_23 => ?_) (fun c_23 => ?_)
                · refine lv_iconst (v := 0) hx hb dL_isSound_138 (by decide) ?_
                  exact hj _ (if_neg c_23).symm
                · refine lv_iconst (v := 1) hx hb dL_isSound_134 (by decide) ?_
                  refine lv_goto (tgt := 139) hx hb dL_isSound_135 (by decide) ?_
                  exact hj _ (if_pos c_23).symm
              replace hf := nm_of ev_24 hf
              refine lv_iload hx hb dL_isSound_139 (lv_at hl 2 rfl) ?_
              refine lv_iconst (v := 2) hx hb dL_isSound_141 (by decide) ?_
              refine lv_iand hx hb dL_isSound_142 ?_
              refine jn_W (k := r_3 &&& (2 : Int32) ≤ (0 : Int32)) (a := (0 : Int32)) (b := (1 : Int32)) (J := 151) (st := [.int v_24]) (fun hj => ?_) (fun v_26 ev_26 => ?_)
              · refine lv_if_le (tgt := 150) hx hb dL_isSound_143 (by decide) (fun c_25 => ?_) (fun c_25 => ?_)
                · refine lv_iconst (v := 0) hx hb dL_isSound_150 (by decide) ?_
                  exact hj _ (if_pos c_25).symm
                · refine lv_iconst (v := 1) hx hb dL_isSound_146 (by decide) ?_
                  refine lv_goto (tgt := 151) hx hb dL_isSound_147 (by decide) ?_
                  exact hj _ (if_neg c_25).symm
              replace hf := nm_of ev_26 hf
              refine lv_icmp_ne (tgt := 239) hx hb dL_isSound_151 (by decide) (fun c_27 => ?_) (fun c_27 => ?_)
              · replace hf := fp_f c_27 hf
                refine lv_iconst (v := 0) hx hb dL_isSound_239 (by decide) ?_
                cases hf
              · replace hf := fp_t c_27 hf
                refine lv_aload_n hx hb dL_isSound_154 rfl (lv_at hl 3 rfl) ?_
                refine lv_iload hx hb dL_isSound_155 (lv_at hl 6 rfl) ?_
                refine lv_iload_n hx hb dL_isSound_157 rfl (lv_at hl 5 rfl) ?_
                refine lv_iconst (v := 4) hx hb dL_isSound_158 (by decide) ?_
                obtain ⟨r_28, hc_29, hf⟩ := bd_of hf
                refine fn_V (v := some (.int r_28)) (As := [.int x4, .int x3, .int (4 : Int32)]) (rest := []) (st1 := [.int r_28]) (ws' := (wLS X ao so)) (nL := 7) ⟨hx, hb, hml, hown, hts⟩ (c_B_why l X ao so x4 x3 (4 : Int32) r_28 hc_29) (cwV 3 hts gL_isSound_X5_why rfl rfl rfl (by decide +kernel) ⟨Nat.le_of_ble_eq_true rfl, Nat.le_of_ble_eq_true rfl⟩) 5 rfl rfl rfl rfl hl.1 rfl (Nat.le_of_ble_eq_true rfl) dL_isSound_159 hK hP (hD0.addr (wS_fst.trans wS_fst.symm)) hS hA [0, 1, 2, 3, 4, 5, 6, 7, 8, 9, 10, 11, 12, 13, 14, 15, 16, 17, 18, 19, 20, 21, 22, 23, 24, 25, 26, 27, 28, 29, 30, 31, 32, 33, 34, 35, 36, 37, 38, 39, 40, 41, 42, 43, 44, 45, 46, 47, 48, 49, 50, 51, 52, 53, 54, 55, 56, 57, 58, 59, 60, 61, 62, 63, 64, 65, 66, 67, 68, 69, 70, 71, 72, 73, 74, 75, 76] (by decide +kernel) sC_a (pt_setid _ _ _ sC_a) rfl ⟨Nat.zero_le _, Nat.zero_le _⟩ (fun H locs hP hD hS => ?_)
                refine jn_W (k := r_28 = (0 : Int32)) (a := (1 : Int32)) (b := (0 : Int32)) (J := 170) (st := []) (fun hj => ?_) (fun v_31 ev_31 => ?_)
                · refine lv_if_ne (tgt := 169) hx hb dL_isSound_162 (by decide) (fun c_30 => ?_) (fun c_30 => ?_)
                  · refine lv_iconst (v := 0) hx hb dL_isSound_169 (by decide) ?_
                    exact hj _ (if_neg c_30).symm
                  · refine lv_iconst (v := 1) hx hb dL_isSound_165 (by decide) ?_
                    refine lv_goto (tgt := 170) hx hb dL_isSound_166 (by decide) ?_
                    exact hj _ (if_pos c_30).symm
                replace hf := nm_of ev_31 hf
                refine lv_iload hx hb dL_isSound_170 (lv_at hl 2 rfl) ?_
                refine lv_iconst (v := 4) hx hb dL_isSound_172 (by decide) ?_
                refine lv_iand hx hb dL_isSound_173 ?_
                refine jn_W (k := r_3 &&& (4 : Int32) ≤ (0 : Int32)) (a := (0 : Int32)) (b := (1 : Int32)) (J := 182) (st := [.int v_31]) (fun hj => ?_) (fun v_33 ev_33 => ?_)
                · refine lv_if_le (tgt := 181) hx hb dL_isSound_174 (by decide) (fun c_32 => ?_) (fun c_32 => ?_)
                  · refine lv_iconst (v := 0) hx hb dL_isSound_181 (by decide) ?_
                    exact hj _ (if_pos c_32).symm
                  · refine lv_iconst (v := 1) hx hb dL_isSound_177 (by decide) ?_
                    refine lv_goto (tgt := 182) hx hb dL_isSound_178 (by decide) ?_
                    exact hj _ (if_neg c_32).symm
                replace hf := nm_of ev_33 hf
                refine lv_icmp_ne (tgt := 239) hx hb dL_isSound_182 (by decide) (fun c_34 => ?_) (fun c_34 => ?_)
                · replace hf := fp_f c_34 hf
                  refine lv_iconst (v := 0) hx hb dL_isSound_239 (by decide) ?_
                  cases hf
                · replace hf := fp_t c_34 hf
                  refine lv_aload_n hx hb dL_isSound_185 rfl (lv_at hl 3 rfl) ?_
                  refine lv_iload hx hb dL_isSound_186 (lv_at hl 6 rfl) ?_
                  refine lv_iload_n hx hb dL_isSound_188 rfl (lv_at hl 5 rfl) ?_
                  obtain ⟨r_35, so_36, hc_37, hf⟩ := bd2_of hf
                  refine fn_VJ (v := some (.int r_35)) (As := [.int x4, .int x3]) (rest := []) (st1 := [.int r_35]) (ws' := (wLS X ao so_36)) (nL := 7) ⟨hx, hb, hml, hown, hts⟩ (c_B_chain l X ao so x4 x3 r_35 so_36 hc_37) (cwV 2 hts gL_isSound_X5_chain rfl rfl rfl (by decide +kernel) ⟨Nat.le_of_ble_eq_true rfl, Nat.le_of_ble_eq_true rfl⟩) 5 rfl rfl rfl rfl hl.1 rfl (Nat.le_of_ble_eq_true rfl) dL_isSound_189 hK hP (hD0.addr (wS_fst.trans wS_fst.symm)) hS hA [0, 1, 2, 3, 4, 5, 6, 7, 8, 9, 10, 11, 12, 13, 14, 15, 16, 17, 18, 19, 20, 21, 22, 23, 24, 25, 26, 27, 28, 29, 30, 31, 32, 33, 34, 35, 36, 37, 38, 39, 40, 41, 42, 43, 44, 45, 46, 47, 48, 49, 50, 51, 52, 53, 54, 55, 56, 57, 58, 59, 60, 61, 62, 63, 64, 65, 66, 67, 68, 69, 70, 71, 72, 73, 74, 75, 76] (by decide +kernel) sC_a sJ_a (wS_fst.trans wS_fst.symm) rfl ⟨Nat.zero_le _, Nat.zero_le _⟩ (fun H locs hP hD hS => ?_)
                  refine jn_W (k := r_35 < (0 : Int32)) (a := (0 : Int32)) (b := (1 : Int32)) (J := 200) (st := []) (fun hj => ?_) (fun v_39 ev_39 => ?_)
                  · refine lv_if_lt (tgt := 199) hx hb dL_isSound_192 (by decide) (fun c_38 => ?_) (fun c_38 => ?_)
                    · refine lv_iconst (v := 0) hx hb dL_isSound_199 (by decide) ?_
                      exact hj _ (if_pos c_38).symm
                    · refine lv_iconst (v := 1) hx hb dL_isSound_195 (by decide) ?_
                      refine lv_goto (tgt := 200) hx hb dL_isSound_196 (by decide) ?_
                      exact hj _ (if_neg c_38).symm
                  replace hf := nm_of ev_39 hf
                  refine lv_iload hx hb dL_isSound_200 (lv_at hl 2 rfl) ?_
                  refine lv_iconst (v := 1) hx hb dL_isSound_202 (by decide) ?_
                  refine lv_iand hx hb dL_isSound_203 ?_
                  refine jn_W (k := r_3 &&& (1 : Int32) ≤ (0 : Int32)) (a := (0 : Int32)) (b := (1 : Int32)) (J := 212) (st := [.int v_39]) (fun hj => ?_) (fun v_41 ev_41 => ?_)
                  · refine lv_if_le (tgt := 211) hx hb dL_isSound_204 (by decide) (fun c_40 => ?_) (fun c_40 => ?_)
                    · refine lv_iconst (v := 0) hx hb dL_isSound_211 (by decide) ?_
                      exact hj _ (if_pos c_40).symm
                    · refine lv_iconst (v := 1) hx hb dL_isSound_207 (by decide) ?_
                      refine lv_goto (tgt := 212) hx hb dL_isSound_208 (by decide) ?_
                      exact hj _ (if_neg c_40).symm
                  replace hf := nm_of ev_41 hf
                  refine lv_icmp_ne (tgt := 239) hx hb dL_isSound_212 (by decide) (fun c_42 => ?_) (fun c_42 => ?_)
                  · replace hf := fp_f c_42 hf
                    refine lv_iconst (v := 0) hx hb dL_isSound_239 (by decide) ?_
                    cases hf
                  · replace hf := fp_t c_42 hf
                    refine lv_aload_n hx hb dL_isSound_215 rfl (lv_at hl 3 rfl) ?_
                    refine lv_iload_n hx hb dL_isSound_216 rfl (lv_at hl 5 rfl) ?_
                    refine lv_iconst (v := 4) hx hb dL_isSound_217 (by decide) ?_
                    obtain ⟨r_43, hc_44, hf⟩ := bd_of hf
                    refine fn_V (v := some (.int r_43)) (As := [.int x3, .int (4 : Int32)]) (rest := []) (st1 := [.int r_43]) (ws' := (wLS X ao so_36)) (nL := 7) ⟨hx, hb, hml, hown, hts⟩ (c_B_thing l X ao so_36 x3 (4 : Int32) r_43 hc_44) (cwV 2 hts gL_isSound_X5_thing rfl rfl rfl (by decide +kernel) ⟨Nat.le_of_ble_eq_true rfl, Nat.le_of_ble_eq_true rfl⟩) 5 rfl rfl rfl rfl hl.1 rfl (Nat.le_of_ble_eq_true rfl) dL_isSound_218 hK hP (hD0.addr (wS_fst.trans wS_fst.symm)) hS hA [0, 1, 2, 3, 4, 5, 6, 7, 8, 9, 10, 11, 12, 13, 14, 15, 16, 17, 18, 19, 20, 21, 22, 23, 24, 25, 26, 27, 28, 29, 30, 31, 32, 33, 34, 35, 36, 37, 38, 39, 40, 41, 42, 43, 44, 45, 46, 47, 48, 49, 50, 51, 52, 53, 54, 55, 56, 57, 58, 59, 60, 61, 62, 63, 64, 65, 66, 67, 68, 69, 70, 71, 72, 73, 74, 75, 76] (by decide +kernel) sC_a (pt_setid _ _ _ sC_a) rfl ⟨Nat.zero_le _, Nat.zero_le _⟩ (fun H locs hP hD hS => ?_)
                    refine lv_iload hx hb dL_isSound_221 (lv_at hl 6 rfl) ?_
                    refine lv_ishr hx hb dL_isSound_223 ?_
                    refine lv_iconst (v := 1) hx hb dL_isSound_224 (by decide) ?_
                    refine lv_iand hx hb dL_isSound_225 ?_
                    refine lv_iload hx hb dL_isSound_226 (lv_at hl 2 rfl) ?_
                    refine lv_iconst (v := 1) hx hb dL_isSound_228 (by decide) ?_
                    refine lv_ishr hx hb dL_isSound_229 ?_
                    refine lv_iconst (v := 1) hx hb dL_isSound_230 (by decide) ?_
                    refine lv_iand hx hb dL_isSound_231 ?_
                    refine lv_icmp_ne (tgt := 239) hx hb dL_isSound_232 (by decide) (fun c_45 => ?_) (fun c_45 => ?_)
                    · replace hf := fp_f c_45 hf
                      refine lv_iconst (v := 0) hx hb dL_isSound_239 (by decide) ?_
                      cases hf
                    · replace hf := fp_t c_45 hf
                      refine lv_iconst (v := 1) hx hb dL_isSound_235 (by decide) ?_
                      refine lv_goto (tgt := 240) hx hb dL_isSound_236 (by decide) ?_
                      refine lv_istore_n (lv' := [(2, .int (1 : Int32)), (1, .int v_9), (6, .int v_8), (5, .int r_3), (0, .ref (ao.1)), (3, .int x3), (4, .int x4)]) hx hb dL_isSound_240 rfl hl (by decide) rfl (fun ls hl => ?_)
                      obtain ⟨v_46, ev_46⟩ : ∃ y : Int32, y = x4 + (1 : Int32) := ⟨_, rfl⟩
                      replace hf := nm_of ev_46 hf
                      refine lv_iinc (v := v_46) (lv' := [(4, .int v_46), (2, .int (1 : Int32)), (1, .int v_9), (6, .int v_8), (5, .int r_3), (0, .ref (ao.1)), (3, .int x3)]) hx hb dL_isSound_241 hl (k := 6) rfl (by rw [ev_46]; rfl) (by decide) rfl (fun ls hl => ?_)
                      refine lv_goto (tgt := 18) hx hb dL_isSound_244 (by decide) ?_
                      exact ih v_9 v_46 so_36 _ _ _ hf hP hS (lv_sub hl [5, 2, 1, 6, 0] rfl)
        · replace hf := fp_f c_10 hf
          refine lv_iload hx hb dL_isSound_68 (lv_at hl 2 rfl) ?_
          refine lv_bipush (v := 7) hx hb dL_isSound_70 (by decide) ?_
          refine lv_icmp_ne (tgt := 239) hx hb dL_isSound_72 (by decide) (fun c_47 => ?_) (fun c_47 => ?_)
          · replace hf := fp_f c_47 hf
            refine lv_iconst (v := 0) hx hb dL_isSound_239 (by decide) ?_
            cases hf
          · replace hf := fp_t c_47 hf
            refine lv_goto (tgt := 92) hx hb dL_isSound_75 (by decide) ?_
            refine lv_aload_n hx hb dL_isSound_92 rfl (lv_at hl 3 rfl) ?_
            refine lv_iload hx hb dL_isSound_93 (lv_at hl 6 rfl) ?_
            refine lv_iload_n hx hb dL_isSound_95 rfl (lv_at hl 5 rfl) ?_
            refine lv_iconst (v := 1) hx hb dL_isSound_96 (by decide) ?_
            obtain ⟨r_48, hc_49, hf⟩ := bd_of hf
            refine fn_V (v := some (.int r_48)) (As := [.int x4, .int x3, .int (1 : Int32)]) (rest := []) (st1 := [.int r_48]) (ws' := (wLS X ao so)) (nL := 7) ⟨hx, hb, hml, hown, hts⟩ (c_B_why l X ao so x4 x3 (1 : Int32) r_48 hc_49) (cwV 3 hts gL_isSound_X5_why rfl rfl rfl (by decide +kernel) ⟨Nat.le_of_ble_eq_true rfl, Nat.le_of_ble_eq_true rfl⟩) 5 rfl rfl rfl rfl hl.1 rfl (Nat.le_of_ble_eq_true rfl) dL_isSound_97 hK hP (hD0.addr (wS_fst.trans wS_fst.symm)) hS hA [0, 1, 2, 3, 4, 5, 6, 7, 8, 9, 10, 11, 12, 13, 14, 15, 16, 17, 18, 19, 20, 21, 22, 23, 24, 25, 26, 27, 28, 29, 30, 31, 32, 33, 34, 35, 36, 37, 38, 39, 40, 41, 42, 43, 44, 45, 46, 47, 48, 49, 50, 51, 52, 53, 54, 55, 56, 57, 58, 59, 60, 61, 62, 63, 64, 65, 66, 67, 68, 69, 70, 71, 72, 73, 74, 75, 76] (by decide +kernel) sC_a (pt_setid _ _ _ sC_a) rfl ⟨Nat.zero_le _, Nat.zero_le _⟩ (fun H locs hP hD hS => ?_)
            refine jn_W (k := r_48 = (0 : Int32)) (a := (1 : Int32)) (b := (0 : Int32)) (J := 108) (st := []) (fun hj => ?_) (fun v_51 ev_51 => ?_)
            · refine lv_if_ne (tgt := 107) hx hb dL_isSound_100 (by decide) (fun c_50 => ?_) (fun c_50 => ?_)
              · refine lv_iconst (v := 0) hx hb dL_isSound_107 (by decide) ?_
                exact hj _ (if_neg c_50).symm
              · refine lv_iconst (v := 1) hx hb dL_isSound_103 (by decide) ?_
                refine lv_goto (tgt := 108) hx hb dL_isSound_104 (by decide) ?_
                exact hj _ (if_pos c_50).symm
            replace hf := nm_of ev_51 hf
            refine lv_iload hx hb dL_isSound_108 (lv_at hl 2 rfl) ?_
            refine lv_iconst (v := 1) hx hb dL_isSound_110 (by decide) ?_
            refine lv_iand hx hb dL_isSound_111 ?_
            refine jn_W (k := r_3 &&& (1 : Int32) ≤ (0 : Int32)) (a := (0 : Int32)) (b := (1 : Int32)) (J := 120) (st := [.int v_51]) (fun hj => ?_) (fun v_53 ev_53 => ?_)
            · refine lv_if_le (tgt := 119) hx hb dL_isSound_112 (by decide) (fun c_52 => ?_) (fun c_52 => ?_)
              · refine lv_iconst (v := 0) hx hb dL_isSound_119 (by decide) ?_
                exact hj _ (if_pos c_52).symm
              · refine lv_iconst (v := 1) hx hb dL_isSound_115 (by decide) ?_
                refine lv_goto (tgt := 120) hx hb dL_isSound_116 (by decide) ?_
                exact hj _ (if_neg c_52).symm
            replace hf := nm_of ev_53 hf
            refine lv_icmp_ne (tgt := 239) hx hb dL_isSound_120 (by decide) (fun c_54 => ?_) (fun c_54 => ?_)
            · replace hf := fp_f c_54 hf
              refine lv_iconst (v := 0) hx hb dL_isSound_239 (by decide) ?_
              cases hf
            · replace hf := fp_t c_54 hf
              refine lv_aload_n hx hb dL_isSound_123 rfl (lv_at hl 3 rfl) ?_
              refine lv_iload hx hb dL_isSound_124 (lv_at hl 6 rfl) ?_
              refine lv_iload_n hx hb dL_isSound_126 rfl (lv_at hl 5 rfl) ?_
              refine lv_iconst (v := 2) hx hb dL_isSound_127 (by decide) ?_
              obtain ⟨r_55, hc_56, hf⟩ := bd_of hf
              refine fn_V (v := some (.int r_55)) (As := [.int x4, .int x3, .int (2 : Int32)]) (rest := []) (st1 := [.int r_55]) (ws' := (wLS X ao so)) (nL := 7) ⟨hx, hb, hml, hown, hts⟩ (c_B_why l X ao so x4 x3 (2 : Int32) r_55 hc_56) (cwV 3 hts gL_isSound_X5_why rfl rfl rfl (by decide +kernel) ⟨Nat.le_of_ble_eq_true rfl, Nat.le_of_ble_eq_true rfl⟩) 5 rfl rfl rfl rfl hl.1 rfl (Nat.le_of_ble_eq_true rfl) dL_isSound_128 hK hP (hD0.addr (wS_fst.trans wS_fst.symm)) hS hA [0, 1, 2, 3, 4, 5, 6, 7, 8, 9, 10, 11, 12, 13, 14, 15, 16, 17, 18, 19, 20, 21, 22, 23, 24, 25, 26, 27, 28, 29, 30, 31, 32, 33, 34, 35, 36, 37, 38, 39, 40, 41, 42, 43, 44, 45, 46, 47, 48, 49, 50, 51, 52, 53, 54, 55, 56, 57, 58, 59, 60, 61, 62, 63, 64, 65, 66, 67, 68, 69, 70, 71, 72, 73, 74, 75, 76] (by decide +kernel) sC_a (pt_setid _ _ _ sC_a) rfl ⟨Nat.zero_le _, Nat.zero_le _⟩ (fun H locs hP hD hS => ?_)
              refine jn_W (k := r_55 = (0 : Int32)) (a := (1 : Int32)) (b := (0 : Int32)) (J := 139) (st := []) (fun hj => ?_) (fun v_58 ev_58 => ?_)
              · refine lv_if_ne (tgt := 138) hx hb dL_isSound_131 (by decide) (fun c_57 => ?_) (fun c_57 => ?_)
                · refine lv_iconst (v := 0) hx hb dL_isSound_138 (by decide) ?_
                  exact hj _ (if_neg c_57).symm
                · refine lv_iconst (v := 1) hx hb dL_isSound_134 (by decide) ?_
                  refine lv_goto (tgt := 139) hx hb dL_isSound_135 (by decide) ?_
                  exact hj _ (if_pos c_57).symm
              replace hf := nm_of ev_58 hf
              refine lv_iload hx hb dL_isSound_139 (lv_at hl 2 rfl) ?_
              refine lv_iconst (v := 2) hx hb dL_isSound_141 (by decide) ?_
              refine lv_iand hx hb dL_isSound_142 ?_
              refine jn_W (k := r_3 &&& (2 : Int32) ≤ (0 : Int32)) (a := (0 : Int32)) (b := (1 : Int32)) (J := 151) (st := [.int v_58]) (fun hj => ?_) (fun v_60 ev_60 => ?_)
              · refine lv_if_le (tgt := 150) hx hb dL_isSound_143 (by decide) (fun c_59 => ?_) (fun c_59 => ?_)
                · refine lv_iconst (v := 0) hx hb dL_isSound_150 (by decide) ?_
                  exact hj _ (if_pos c_59).symm
                · refine lv_iconst (v := 1) hx hb dL_isSound_146 (by decide) ?_
                  refine lv_goto (tgt := 151) hx hb dL_isSound_147 (by decide) ?_
                  exact hj _ (if_neg c_59).symm
              replace hf := nm_of ev_60 hf
              refine lv_icmp_ne (tgt := 239) hx hb dL_isSound_151 (by decide) (fun c_61 => ?_) (fun c_61 => ?_)
              · replace hf := fp_f c_61 hf
                refine lv_iconst (v := 0) hx hb dL_isSound_239 (by decide) ?_
                cases hf
              · replace hf := fp_t c_61 hf
                refine lv_aload_n hx hb dL_isSound_154 rfl (lv_at hl 3 rfl) ?_
                refine lv_iload hx hb dL_isSound_155 (lv_at hl 6 rfl) ?_
                refine lv_iload_n hx hb dL_isSound_157 rfl (lv_at hl 5 rfl) ?_
                refine lv_iconst (v := 4) hx hb dL_isSound_158 (by decide) ?_
                obtain ⟨r_62, hc_63, hf⟩ := bd_of hf
                refine fn_V (v := some (.int r_62)) (As := [.int x4, .int x3, .int (4 : Int32)]) (rest := []) (st1 := [.int r_62]) (ws' := (wLS X ao so)) (nL := 7) ⟨hx, hb, hml, hown, hts⟩ (c_B_why l X ao so x4 x3 (4 : Int32) r_62 hc_63) (cwV 3 hts gL_isSound_X5_why rfl rfl rfl (by decide +kernel) ⟨Nat.le_of_ble_eq_true rfl, Nat.le_of_ble_eq_true rfl⟩) 5 rfl rfl rfl rfl hl.1 rfl (Nat.le_of_ble_eq_true rfl) dL_isSound_159 hK hP (hD0.addr (wS_fst.trans wS_fst.symm)) hS hA [0, 1, 2, 3, 4, 5, 6, 7, 8, 9, 10, 11, 12, 13, 14, 15, 16, 17, 18, 19, 20, 21, 22, 23, 24, 25, 26, 27, 28, 29, 30, 31, 32, 33, 34, 35, 36, 37, 38, 39, 40, 41, 42, 43, 44, 45, 46, 47, 48, 49, 50, 51, 52, 53, 54, 55, 56, 57, 58, 59, 60, 61, 62, 63, 64, 65, 66, 67, 68, 69, 70, 71, 72, 73, 74, 75, 76] (by decide +kernel) sC_a (pt_setid _ _ _ sC_a) rfl ⟨Nat.zero_le _, Nat.zero_le _⟩ (fun H locs hP hD hS => ?_)
                refine jn_W (k := r_62 = (0 : Int32)) (a := (1 : Int32)) (b := (0 : Int32)) (J := 170) (st := []) (fun hj => ?_) (fun v_65 ev_65 => ?_)
                · refine lv_if_ne (tgt := 169) hx hb dL_isSound_162 (by decide) (fun c_64 => ?_) (fun c_64 => ?_)
                  · refine lv_iconst (v := 0) hx hb dL_isSound_169 (by decide) ?_
                    exact hj _ (if_neg c_64).symm
                  · refine lv_iconst (v := 1) hx hb dL_isSound_165 (by decide) ?_
                    refine lv_goto (tgt := 170) hx hb dL_isSound_166 (by decide) ?_
                    exact hj _ (if_pos c_64).symm
                replace hf := nm_of ev_65 hf
                refine lv_iload hx hb dL_isSound_170 (lv_at hl 2 rfl) ?_
                refine lv_iconst (v := 4) hx hb dL_isSound_172 (by decide) ?_
                refine lv_iand hx hb dL_isSound_173 ?_
                refine jn_W (k := r_3 &&& (4 : Int32) ≤ (0 : Int32)) (a := (0 : Int32)) (b := (1 : Int32)) (J := 182) (st := [.int v_65]) (fun hj => ?_) (fun v_67 ev_67 => ?_)
                · refine lv_if_le (tgt := 181) hx hb dL_isSound_174 (by decide) (fun c_66 => ?_) (fun c_66 => ?_)
                  · refine lv_iconst (v := 0) hx hb dL_isSound_181 (by decide) ?_
                    exact hj _ (if_pos c_66).symm
                  · refine lv_iconst (v := 1) hx hb dL_isSound_177 (by decide) ?_
                    refine lv_goto (tgt := 182) hx hb dL_isSound_178 (by decide) ?_
                    exact hj _ (if_neg c_66).symm
                replace hf := nm_of ev_67 hf
                refine lv_icmp_ne (tgt := 239) hx hb dL_isSound_182 (by decide) (fun c_68 => ?_) (fun c_68 => ?_)
                · replace hf := fp_f c_68 hf
                  refine lv_iconst (v := 0) hx hb dL_isSound_239 (by decide) ?_
                  cases hf
                · replace hf := fp_t c_68 hf
                  refine lv_aload_n hx hb dL_isSound_185 rfl (lv_at hl 3 rfl) ?_
                  refine lv_iload hx hb dL_isSound_186 (lv_at hl 6 rfl) ?_
                  refine lv_iload_n hx hb dL_isSound_188 rfl (lv_at hl 5 rfl) ?_
                  obtain ⟨r_69, so_70, hc_71, hf⟩ := bd2_of hf
                  refine fn_VJ (v := some (.int r_69)) (As := [.int x4, .int x3]) (rest := []) (st1 := [.int r_69]) (ws' := (wLS X ao so_70)) (nL := 7) ⟨hx, hb, hml, hown, hts⟩ (c_B_chain l X ao so x4 x3 r_69 so_70 hc_71) (cwV 2 hts gL_isSound_X5_chain rfl rfl rfl (by decide +kernel) ⟨Nat.le_of_ble_eq_true rfl, Nat.le_of_ble_eq_true rfl⟩) 5 rfl rfl rfl rfl hl.1 rfl (Nat.le_of_ble_eq_true rfl) dL_isSound_189 hK hP (hD0.addr (wS_fst.trans wS_fst.symm)) hS hA [0, 1, 2, 3, 4, 5, 6, 7, 8, 9, 10, 11, 12, 13, 14, 15, 16, 17, 18, 19, 20, 21, 22, 23, 24, 25, 26, 27, 28, 29, 30, 31, 32, 33, 34, 35, 36, 37, 38, 39, 40, 41, 42, 43, 44, 45, 46, 47, 48, 49, 50, 51, 52, 53, 54, 55, 56, 57, 58, 59, 60, 61, 62, 63, 64, 65, 66, 67, 68, 69, 70, 71, 72, 73, 74, 75, 76] (by decide +kernel) sC_a sJ_a (wS_fst.trans wS_fst.symm) rfl ⟨Nat.zero_le _, Nat.zero_le _⟩ (fun H locs hP hD hS => ?_)
                  refine jn_W (k := r_69 < (0 : Int32)) (a := (0 : Int32)) (b := (1 : Int32)) (J := 200) (st := []) (fun hj => ?_) (fun v_73 ev_73 => ?_)
                  · refine lv_if_lt (tgt := 199) hx hb dL_isSound_192 (by decide) (fun c_72 => ?_) (fun c_72 => ?_)
                    · refine lv_iconst (v := 0) hx hb dL_isSound_199 (by decide) ?_
                      exact hj _ (if_pos c_72).symm
                    · refine lv_iconst (v := 1) hx hb dL_isSound_195 (by decide) ?_
                      refine lv_goto (tgt := 200) hx hb dL_isSound_196 (by decide) ?_
                      exact hj _ (if_neg c_72).symm
                  replace hf := nm_of ev_73 hf
                  refine lv_iload hx hb dL_isSound_200 (lv_at hl 2 rfl) ?_
                  refine lv_iconst (v := 1) hx hb dL_isSound_202 (by decide) ?_
                  refine lv_iand hx hb dL_isSound_203 ?_
                  refine jn_W (k := r_3 &&& (1 : Int32) ≤ (0 : Int32)) (a := (0 : Int32)) (b := (1 : Int32)) (J := 212) (st := [.int v_73]) (fun hj => ?_) (fun v_75 ev_75 => ?_)
                  · refine lv_if_le (tgt := 211) hx hb dL_isSound_204 (by decide) (fun c_74 => ?_) (fun c_74 => ?_)
                    · refine lv_iconst (v := 0) hx hb dL_isSound_211 (by decide) ?_
                      exact hj _ (if_pos c_74).symm
                    · refine lv_iconst (v := 1) hx hb dL_isSound_207 (by decide) ?_
                      refine lv_goto (tgt := 212) hx hb dL_isSound_208 (by decide) ?_
                      exact hj _ (if_neg c_74).symm
                  replace hf := nm_of ev_75 hf
                  refine lv_icmp_ne (tgt := 239) hx hb dL_isSound_212 (by decide) (fun c_76 => ?_) (fun c_76 => ?_)
                  · replace hf := fp_f c_76 hf
                    refine lv_iconst (v := 0) hx hb dL_isSound_239 (by decide) ?_
                    cases hf
                  · replace hf := fp_t c_76 hf
                    refine lv_aload_n hx hb dL_isSound_215 rfl (lv_at hl 3 rfl) ?_
                    refine lv_iload_n hx hb dL_isSound_216 rfl (lv_at hl 5 rfl) ?_
                    refine lv_iconst (v := 4) hx hb dL_isSound_217 (by decide) ?_
                    obtain ⟨r_77, hc_78, hf⟩ := bd_of hf
                    refine fn_V (v := some (.int r_77)) (As := [.int x3, .int (4 : Int32)]) (rest := []) (st1 := [.int r_77]) (ws' := (wLS X ao so_70)) (nL := 7) ⟨hx, hb, hml, hown, hts⟩ (c_B_thing l X ao so_70 x3 (4 : Int32) r_77 hc_78) (cwV 2 hts gL_isSound_X5_thing rfl rfl rfl (by decide +kernel) ⟨Nat.le_of_ble_eq_true rfl, Nat.le_of_ble_eq_true rfl⟩) 5 rfl rfl rfl rfl hl.1 rfl (Nat.le_of_ble_eq_true rfl) dL_isSound_218 hK hP (hD0.addr (wS_fst.trans wS_fst.symm)) hS hA [0, 1, 2, 3, 4, 5, 6, 7, 8, 9, 10, 11, 12, 13, 14, 15, 16, 17, 18, 19, 20, 21, 22, 23, 24, 25, 26, 27, 28, 29, 30, 31, 32, 33, 34, 35, 36, 37, 38, 39, 40, 41, 42, 43, 44, 45, 46, 47, 48, 49, 50, 51, 52, 53, 54, 55, 56, 57, 58, 59, 60, 61, 62, 63, 64, 65, 66, 67, 68, 69, 70, 71, 72, 73, 74, 75, 76] (by decide +kernel) sC_a (pt_setid _ _ _ sC_a) rfl ⟨Nat.zero_le _, Nat.zero_le _⟩ (fun H locs hP hD hS => ?_)
                    refine lv_iload hx hb dL_isSound_221 (lv_at hl 6 rfl) ?_
                    refine lv_ishr hx hb dL_isSound_223 ?_
                    refine lv_iconst (v := 1) hx hb dL_isSound_224 (by decide) ?_
                    refine lv_iand hx hb dL_isSound_225 ?_
                    refine lv_iload hx hb dL_isSound_226 (lv_at hl 2 rfl) ?_
                    refine lv_iconst (v := 1) hx hb dL_isSound_228 (by decide) ?_
                    refine lv_ishr hx hb dL_isSound_229 ?_
                    refine lv_iconst (v := 1) hx hb dL_isSound_230 (by decide) ?_
                    refine lv_iand hx hb dL_isSound_231 ?_
                    refine lv_icmp_ne (tgt := 239) hx hb dL_isSound_232 (by decide) (fun c_79 => ?_) (fun c_79 => ?_)
                    · replace hf := fp_f c_79 hf
                      refine lv_iconst (v := 0) hx hb dL_isSound_239 (by decide) ?_
                      cases hf
                    · replace hf := fp_t c_79 hf
                      refine lv_iconst (v := 1) hx hb dL_isSound_235 (by decide) ?_
                      refine lv_goto (tgt := 240) hx hb dL_isSound_236 (by decide) ?_
                      refine lv_istore_n (lv' := [(2, .int (1 : Int32)), (1, .int v_9), (6, .int v_8), (5, .int r_3), (0, .ref (ao.1)), (3, .int x3), (4, .int x4)]) hx hb dL_isSound_240 rfl hl (by decide) rfl (fun ls hl => ?_)
                      obtain ⟨v_80, ev_80⟩ : ∃ y : Int32, y = x4 + (1 : Int32) := ⟨_, rfl⟩
                      replace hf := nm_of ev_80 hf
                      refine lv_iinc (v := v_80) (lv' := [(4, .int v_80), (2, .int (1 : Int32)), (1, .int v_9), (6, .int v_8), (5, .int r_3), (0, .ref (ao.1)), (3, .int x3)]) hx hb dL_isSound_241 hl (k := 6) rfl (by rw [ev_80]; rfl) (by decide) rfl (fun ls hl => ?_)
                      refine lv_goto (tgt := 18) hx hb dL_isSound_244 (by decide) ?_
                      exact ih v_9 v_80 so_70 _ _ _ hf hP hS (lv_sub hl [5, 2, 1, 6, 0] rfl)
  have loop_6 : ∀ (Q : State → Prop) (y1 : Int32) (soo : LSt), (∀ (H : Heap) (locs : List Loc) (ls : Array Slot), va_P X.1 vwCl (wLS X ao soo) H → va_S A s.heap H locs → lv_has ls 7 [(0, .ref (ao.1)), (1, .int y1), (2, .int (1 : Int32))] → W p l e ({ frames := 5, cells := 0, slots := 0, locals := 119 } : Room) s m args below meth c H locs 0 0 Q (F0 m 253 ls [])) → ∀ (k_ : Nat) (x1 : Int32) (x3 : Int32) (so : LSt) (H : Heap) (locs : List Loc) (ls : Array Slot), f_L_isSound_L6 k_ x1 x3 so = some (y1, soo) → va_P X.1 vwCl (wLS X ao so) H → va_S A s.heap H locs → lv_has ls 7 [(0, .ref (ao.1)), (1, .int x1), (2, .int (1 : Int32)), (3, .int x3)] → W p l e ({ frames := 5, cells := 0, slots := 0, locals := 119 } : Room) s m args below meth c H locs 0 0 Q (F0 m 6 ls []) := by
    intro Q y1 soo kx k_
    induction k_ with
    | zero => intro x1 x3 so H locs ls hf; exact nomatch (show (none : Option (Int32 × LSt)) = some _ from hf)
    | succ k_ ih =>
      intro x1 x3 so H locs ls hf hP hS hl
      unfold f_L_isSound_L6 at hf
      refine lv_iload_n hx hb dL_isSound_6 rfl (lv_at hl 3 rfl) ?_
      refine lv_iconst (v := 3) hx hb dL_isSound_7 (by decide) ?_
      refine lv_icmp_ge (tgt := 253) hx hb dL_isSound_8 (by decide) (fun c_81 => ?_) (fun c_81 => ?_)
      · replace hf := fp_t c_81 hf
        cases hf
        exact kx _ _ _ hP hS (lv_sub hl [0, 1, 2] rfl)
      · replace hf := fp_f c_81 hf
        refine lv_iload_n hx hb dL_isSound_11 rfl (lv_at hl 2 rfl) ?_
        refine lv_if_eq (tgt := 253) hx hb dL_isSound_12 (by decide) (fun c9 => absurd c9 (by decide)) (fun _ => ?_)
        refine lv_iconst (v := 0) hx hb dL_isSound_15 (by decide) ?_
        refine lv_istore (lv' := [(4, .int (0 : Int32)), (0, .ref (ao.1)), (1, .int x1), (2, .int (1 : Int32)), (3, .int x3)]) hx hb dL_isSound_16 hl (by decide) rfl (fun ls hl => ?_)
        obtain ⟨y1_83, so_84, hL_85, hf⟩ := bd2_of hf
        refine loop_18 _ x3 y1_83 so_84 (fun H locs ls hP hS hl => ?_) FU x1 (0 : Int32) so _ _ _ hL_85 hP hS (lv_sub hl [1, 2, 3, 4, 0] rfl)
        obtain ⟨v_86, ev_86⟩ : ∃ y : Int32, y = x3 + (1 : Int32) := ⟨_, rfl⟩
        replace hf := nm_of ev_86 hf
        refine lv_iinc (v := v_86) (lv' := [(3, .int v_86), (0, .ref (ao.1)), (1, .int y1_83), (2, .int (1 : Int32))]) hx hb dL_isSound_247 hl (k := 3) rfl (by rw [ev_86]; rfl) (by decide) rfl (fun ls hl => ?_)
        refine lv_goto (tgt := 6) hx hb dL_isSound_250 (by decide) ?_
        exact ih y1_83 v_86 so_84 _ _ _ hf hP hS (lv_sub hl [1, 2, 3, 0] rfl)
  unfold f_L_isSound at hf
  refine lv_iconst (v := 0) hx hb dL_isSound_0 (by decide) ?_
  refine lv_istore_n (lv' := [(1, .int (0 : Int32)), (0, .ref (ao.1))]) hx hb dL_isSound_1 rfl hl (by decide) rfl (fun ls hl => ?_)
  refine lv_iconst (v := 1) hx hb dL_isSound_2 (by decide) ?_
  refine lv_istore_n (lv' := [(2, .int (1 : Int32)), (1, .int (0 : Int32)), (0, .ref (ao.1))]) hx hb dL_isSound_3 rfl hl (by decide) rfl (fun ls hl => ?_)
  refine lv_iconst (v := 0) hx hb dL_isSound_4 (by decide) ?_
  refine lv_istore_n (lv' := [(3, .int (0 : Int32)), (2, .int (1 : Int32)), (1, .int (0 : Int32)), (0, .ref (ao.1))]) hx hb dL_isSound_5 rfl hl (by decide) rfl (fun ls hl => ?_)
  obtain ⟨y1_87, so_88, hL_89, hf⟩ := bd2_of hf
  refine loop_6 _ y1_87 so_88 (fun H locs ls hP hS hl => ?_) FU (0 : Int32) (0 : Int32) so _ _ _ hL_89 hP hS (lv_sub hl [3, 2, 1, 0] rfl)
  refine lv_iload_n hx hb dL_isSound_253 rfl (lv_at hl 2 rfl) ?_
  refine lv_if_eq (tgt := 319) hx hb dL_isSound_254 (by decide) (fun c9 => absurd c9 (by decide)) (fun _ => ?_)
  refine lv_aload_n hx hb dL_isSound_257 rfl (lv_at hl 0 rfl) ?_
  refine lv_bipush (v := 6) hx hb dL_isSound_258 (by decide) ?_
  obtain ⟨r_91, hc_92, hf⟩ := bd_of hf
  refine fn_V (v := some (.int r_91)) (As := [.int (6 : Int32)]) (rest := []) (st1 := [.int r_91]) (ws' := (wLS X ao so_88)) (nL := 7) ⟨hx, hb, hml, hown, hts⟩ (c_B_value l X ao so_88 (6 : Int32) r_91 hc_92) (cwV 1 hts gL_isSound_X5_value rfl rfl rfl (by decide +kernel) ⟨Nat.le_of_ble_eq_true rfl, Nat.le_of_ble_eq_true rfl⟩) 5 rfl rfl rfl rfl hl.1 rfl (Nat.le_of_ble_eq_true rfl) dL_isSound_260 hK hP (hD0.addr (wS_fst.trans wS_fst.symm)) hS hA [0, 1, 2, 3, 4, 5, 6, 7, 8, 9, 10, 11, 12, 13, 14, 15, 16, 17, 18, 19, 20, 21, 22, 23, 24, 25, 26, 27, 28, 29, 30, 31, 32, 33, 34, 35, 36, 37, 38, 39, 40, 41, 42, 43, 44, 45, 46, 47, 48, 49, 50, 51, 52, 53, 54, 55, 56, 57, 58, 59, 60, 61, 62, 63, 64, 65, 66, 67, 68, 69, 70, 71, 72, 73, 74, 75, 76] (by decide +kernel) sC_a (pt_setid _ _ _ sC_a) rfl ⟨Nat.zero_le _, Nat.zero_le _⟩ (fun H locs hP hD hS => ?_)
  refine lv_iload_n hx hb dL_isSound_263 rfl (lv_at hl 1 rfl) ?_
  refine lv_icmp_ne (tgt := 319) hx hb dL_isSound_264 (by decide) (fun c_93 => ?_) (fun c_93 => ?_)
  · replace hf := fp_f c_93 hf
    refine lv_iconst (v := 0) hx hb dL_isSound_319 (by decide) ?_
    cases hf
  · replace hf := fp_t c_93 hf
    refine lv_aload_n hx hb dL_isSound_267 rfl (lv_at hl 0 rfl) ?_
    refine lv_iconst (v := 2) hx hb dL_isSound_268 (by decide) ?_
    obtain ⟨r_94, hc_95, hf⟩ := bd_of hf
    refine fn_V (v := some (.int r_94)) (As := [.int (2 : Int32)]) (rest := []) (st1 := [.int r_94]) (ws' := (wLS X ao so_88)) (nL := 7) ⟨hx, hb, hml, hown, hts⟩ (c_B_value l X ao so_88 (2 : Int32) r_94 hc_95) (cwV 1 hts gL_isSound_X5_value rfl rfl rfl (by decide +kernel) ⟨Nat.le_of_ble_eq_true rfl, Nat.le_of_ble_eq_true rfl⟩) 5 rfl rfl rfl rfl hl.1 rfl (Nat.le_of_ble_eq_true rfl) dL_isSound_269 hK hP (hD0.addr (wS_fst.trans wS_fst.symm)) hS hA [0, 1, 2, 3, 4, 5, 6, 7, 8, 9, 10, 11, 12, 13, 14, 15, 16, 17, 18, 19, 20, 21, 22, 23, 24, 25, 26, 27, 28, 29, 30, 31, 32, 33, 34, 35, 36, 37, 38, 39, 40, 41, 42, 43, 44, 45, 46, 47, 48, 49, 50, 51, 52, 53, 54, 55, 56, 57, 58, 59, 60, 61, 62, 63, 64, 65, 66, 67, 68, 69, 70, 71, 72, 73, 74, 75, 76] (by decide +kernel) sC_a (pt_setid _ _ _ sC_a) rfl ⟨Nat.zero_le _, Nat.zero_le _⟩ (fun H locs hP hD hS => ?_)
    refine lv_aload_n hx hb dL_isSound_272 rfl (lv_at hl 0 rfl) ?_
    refine lv_iconst (v := 1) hx hb dL_isSound_273 (by decide) ?_
    obtain ⟨r_96, hc_97, hf⟩ := bd_of hf
    refine fn_V (v := some (.int r_96)) (As := [.int (1 : Int32)]) (rest := [.int r_94]) (st1 := [.int r_96, .int r_94]) (ws' := (wLS X ao so_88)) (nL := 7) ⟨hx, hb, hml, hown, hts⟩ (c_B_value l X ao so_88 (1 : Int32) r_96 hc_97) (cwV 1 hts gL_isSound_X5_value rfl rfl rfl (by decide +kernel) ⟨Nat.le_of_ble_eq_true rfl, Nat.le_of_ble_eq_true rfl⟩) 5 rfl rfl rfl rfl hl.1 rfl (Nat.le_of_ble_eq_true rfl) dL_isSound_274 hK hP (hD0.addr (wS_fst.trans wS_fst.symm)) hS hA [0, 1, 2, 3, 4, 5, 6, 7, 8, 9, 10, 11, 12, 13, 14, 15, 16, 17, 18, 19, 20, 21, 22, 23, 24, 25, 26, 27, 28, 29, 30, 31, 32, 33, 34, 35, 36, 37, 38, 39, 40, 41, 42, 43, 44, 45, 46, 47, 48, 49, 50, 51, 52, 53, 54, 55, 56, 57, 58, 59, 60, 61, 62, 63, 64, 65, 66, 67, 68, 69, 70, 71, 72, 73, 74, 75, 76] (by decide +kernel) sC_a (pt_setid _ _ _ sC_a) rfl ⟨Nat.zero_le _, Nat.zero_le _⟩ (fun H locs hP hD hS => ?_)
    refine lv_aload_n hx hb dL_isSound_277 rfl (lv_at hl 0 rfl) ?_
    refine lv_iconst (v := 3) hx hb dL_isSound_278 (by decide) ?_
    obtain ⟨r_98, hc_99, hf⟩ := bd_of hf
    refine fn_V (v := some (.int r_98)) (As := [.int (3 : Int32)]) (rest := [.int r_96, .int r_94]) (st1 := [.int r_98, .int r_96, .int r_94]) (ws' := (wLS X ao so_88)) (nL := 7) ⟨hx, hb, hml, hown, hts⟩ (c_B_value l X ao so_88 (3 : Int32) r_98 hc_99) (cwV 1 hts gL_isSound_X5_value rfl rfl rfl (by decide +kernel) ⟨Nat.le_of_ble_eq_true rfl, Nat.le_of_ble_eq_true rfl⟩) 5 rfl rfl rfl rfl hl.1 rfl (Nat.le_of_ble_eq_true rfl) dL_isSound_279 hK hP (hD0.addr (wS_fst.trans wS_fst.symm)) hS hA [0, 1, 2, 3, 4, 5, 6, 7, 8, 9, 10, 11, 12, 13, 14, 15, 16, 17, 18, 19, 20, 21, 22, 23, 24, 25, 26, 27, 28, 29, 30, 31, 32, 33, 34, 35, 36, 37, 38, 39, 40, 41, 42, 43, 44, 45, 46, 47, 48, 49, 50, 51, 52, 53, 54, 55, 56, 57, 58, 59, 60, 61, 62, 63, 64, 65, 66, 67, 68, 69, 70, 71, 72, 73, 74, 75, 76] (by decide +kernel) sC_a (pt_setid _ _ _ sC_a) rfl ⟨Nat.zero_le _, Nat.zero_le _⟩ (fun H locs hP hD hS => ?_)
    refine lv_iadd hx hb dL_isSound_282 ?_
    refine lv_aload_n hx hb dL_isSound_283 rfl (lv_at hl 0 rfl) ?_
    refine lv_iconst (v := 4) hx hb dL_isSound_284 (by decide) ?_
    obtain ⟨r_100, hc_101, hf⟩ := bd_of hf
    refine fn_V (v := some (.int r_100)) (As := [.int (4 : Int32)]) (rest := [.int (r_96 + r_98), .int r_94]) (st1 := [.int r_100, .int (r_96 + r_98), .int r_94]) (ws' := (wLS X ao so_88)) (nL := 7) ⟨hx, hb, hml, hown, hts⟩ (c_B_value l X ao so_88 (4 : Int32) r_100 hc_101) (cwV 1 hts gL_isSound_X5_value rfl rfl rfl (by decide +kernel) ⟨Nat.le_of_ble_eq_true rfl, Nat.le_of_ble_eq_true rfl⟩) 5 rfl rfl rfl rfl hl.1 rfl (Nat.le_of_ble_eq_true rfl) dL_isSound_285 hK hP (hD0.addr (wS_fst.trans wS_fst.symm)) hS hA [0, 1, 2, 3, 4, 5, 6, 7, 8, 9, 10, 11, 12, 13, 14, 15, 16, 17, 18, 19, 20, 21, 22, 23, 24, 25, 26, 27, 28, 29, 30, 31, 32, 33, 34, 35, 36, 37, 38, 39, 40, 41, 42, 43, 44, 45, 46, 47, 48, 49, 50, 51, 52, 53, 54, 55, 56, 57, 58, 59, 60, 61, 62, 63, 64, 65, 66, 67, 68, 69, 70, 71, 72, 73, 74, 75, 76] (by decide +kernel) sC_a (pt_setid _ _ _ sC_a) rfl ⟨Nat.zero_le _, Nat.zero_le _⟩ (fun H locs hP hD hS => ?_)
    refine lv_iadd hx hb dL_isSound_288 ?_
    refine lv_icmp_ne (tgt := 319) hx hb dL_isSound_289 (by decide) (fun c_102 => ?_) (fun c_102 => ?_)
    · replace hf := fp_f c_102 hf
      refine lv_iconst (v := 0) hx hb dL_isSound_319 (by decide) ?_
      cases hf
    · replace hf := fp_t c_102 hf
      refine lv_aload_n hx hb dL_isSound_292 rfl (lv_at hl 0 rfl) ?_
      refine lv_bipush (v := 7) hx hb dL_isSound_293 (by decide) ?_
      obtain ⟨r_103, hc_104, hf⟩ := bd_of hf
      refine fn_V (v := some (.int r_103)) (As := [.int (7 : Int32)]) (rest := []) (st1 := [.int r_103]) (ws' := (wLS X ao so_88)) (nL := 7) ⟨hx, hb, hml, hown, hts⟩ (c_B_value l X ao so_88 (7 : Int32) r_103 hc_104) (cwV 1 hts gL_isSound_X5_value rfl rfl rfl (by decide +kernel) ⟨Nat.le_of_ble_eq_true rfl, Nat.le_of_ble_eq_true rfl⟩) 5 rfl rfl rfl rfl hl.1 rfl (Nat.le_of_ble_eq_true rfl) dL_isSound_295 hK hP (hD0.addr (wS_fst.trans wS_fst.symm)) hS hA [0, 1, 2, 3, 4, 5, 6, 7, 8, 9, 10, 11, 12, 13, 14, 15, 16, 17, 18, 19, 20, 21, 22, 23, 24, 25, 26, 27, 28, 29, 30, 31, 32, 33, 34, 35, 36, 37, 38, 39, 40, 41, 42, 43, 44, 45, 46, 47, 48, 49, 50, 51, 52, 53, 54, 55, 56, 57, 58, 59, 60, 61, 62, 63, 64, 65, 66, 67, 68, 69, 70, 71, 72, 73, 74, 75, 76] (by decide +kernel) sC_a (pt_setid _ _ _ sC_a) rfl ⟨Nat.zero_le _, Nat.zero_le _⟩ (fun H locs hP hD hS => ?_)
      refine lv_aload_n hx hb dL_isSound_298 rfl (lv_at hl 0 rfl) ?_
      refine lv_iconst (v := 1) hx hb dL_isSound_299 (by decide) ?_
      obtain ⟨r_105, hc_106, hf⟩ := bd_of hf
      refine fn_V (v := some (.int r_105)) (As := [.int (1 : Int32)]) (rest := [.int r_103]) (st1 := [.int r_105, .int r_103]) (ws' := (wLS X ao so_88)) (nL := 7) ⟨hx, hb, hml, hown, hts⟩ (c_B_value l X ao so_88 (1 : Int32) r_105 hc_106) (cwV 1 hts gL_isSound_X5_value rfl rfl rfl (by decide +kernel) ⟨Nat.le_of_ble_eq_true rfl, Nat.le_of_ble_eq_true rfl⟩) 5 rfl rfl rfl rfl hl.1 rfl (Nat.le_of_ble_eq_true rfl) dL_isSound_300 hK hP (hD0.addr (wS_fst.trans wS_fst.symm)) hS hA [0, 1, 2, 3, 4, 5, 6, 7, 8, 9, 10, 11, 12, 13, 14, 15, 16, 17, 18, 19, 20, 21, 22, 23, 24, 25, 26, 27, 28, 29, 30, 31, 32, 33, 34, 35, 36, 37, 38, 39, 40, 41, 42, 43, 44, 45, 46, 47, 48, 49, 50, 51, 52, 53, 54, 55, 56, 57, 58, 59, 60, 61, 62, 63, 64, 65, 66, 67, 68, 69, 70, 71, 72, 73, 74, 75, 76] (by decide +kernel) sC_a (pt_setid _ _ _ sC_a) rfl ⟨Nat.zero_le _, Nat.zero_le _⟩ (fun H locs hP hD hS => ?_)
      refine lv_icmp_gt (tgt := 319) hx hb dL_isSound_303 (by decide) (fun c_107 => ?_) (fun c_107 => ?_)
      · replace hf := fp_t c_107 hf
        refine lv_iconst (v := 0) hx hb dL_isSound_319 (by decide) ?_
        cases hf
      · replace hf := fp_f c_107 hf
        refine lv_aload_n hx hb dL_isSound_306 rfl (lv_at hl 0 rfl) ?_
        refine lv_iconst (v := 0) hx hb dL_isSound_307 (by decide) ?_
        obtain ⟨r_108, so_109, hc_110, hf⟩ := bd2_of hf
        refine fn_VJ (v := some (.int r_108)) (As := [.int (0 : Int32)]) (rest := []) (st1 := [.int r_108]) (ws' := (wLS X ao so_109)) (nL := 7) ⟨hx, hb, hml, hown, hts⟩ (c_B_seenIn l X ao so_88 (0 : Int32) r_108 so_109 hc_110) (cwV 1 hts gL_isSound_X5_seenIn rfl rfl rfl (by decide +kernel) ⟨Nat.le_of_ble_eq_true rfl, Nat.le_of_ble_eq_true rfl⟩) 5 rfl rfl rfl rfl hl.1 rfl (Nat.le_of_ble_eq_true rfl) dL_isSound_308 hK hP (hD0.addr (wS_fst.trans wS_fst.symm)) hS hA [0, 1, 2, 3, 4, 5, 6, 7, 8, 9, 10, 11, 12, 13, 14, 15, 16, 17, 18, 19, 20, 21, 22, 23, 24, 25, 26, 27, 28, 29, 30, 31, 32, 33, 34, 35, 36, 37, 38, 39, 40, 41, 42, 43, 44, 45, 46, 47, 48, 49, 50, 51, 52, 53, 54, 55, 56, 57, 58, 59, 60, 61, 62, 63, 64, 65, 66, 67, 68, 69, 70, 71, 72, 73, 74, 75, 76] (by decide +kernel) sC_a sJ_a (wS_fst.trans wS_fst.symm) rfl ⟨Nat.zero_le _, Nat.zero_le _⟩ (fun H locs hP hD hS => ?_)
        refine lv_iload_n hx hb dL_isSound_311 rfl (lv_at hl 1 rfl) ?_
        refine lv_icmp_ne (tgt := 319) hx hb dL_isSound_312 (by decide) (fun c_111 => ?_) (fun c_111 => ?_)
        · replace hf := fp_f c_111 hf
          refine lv_iconst (v := 0) hx hb dL_isSound_319 (by decide) ?_
          cases hf
        · replace hf := fp_t c_111 hf
          refine lv_iconst (v := 1) hx hb dL_isSound_315 (by decide) ?_
          refine lv_goto (tgt := 320) hx hb dL_isSound_316 (by decide) ?_
          cases hf
          exact fn_zret hx hb hr rfl hlocks hP hS dL_isSound_320

