def f_X2_takeIn (x1 : Int32) (x2 : Int32) (rT : Int32) (fT : (Nat → Int32)) (rG : Int32) (fG : (Nat → Int32)) (rH : Int32) (fH : (Nat → Int32)) : Option (Int32 × Int32 × (Nat → Int32) × Int32 × (Nat → Int32)) :=
  bd2 (f_X3_addRow (8 : Int32) rT) (fun r_1 rT_2 =>
  bd (f_X3_put (2 : Int32) 16 r_1 (0 : Int32) x1 rT_2 fT) (fun fT_4 =>
  bd (f_X3_put (2 : Int32) 16 r_1 (1 : Int32) x2 rT_2 fT_4) (fun fT_6 =>
  bd2 (f_X3_addRow (8 : Int32) rH) (fun r_8 rH_9 =>
  bd (f_X2_settle rT_2 fT_6 rG fG rH_9 fH) (fun fH_11 =>
  some (r_1, rT_2, fT_6, rH_9, fH_11))))))
set_option maxHeartbeats 4000000 in
set_option maxRecDepth 100000 in
theorem c_X2_takeIn (l : Launch) (X : cx_G) (h : (Nat → Nat)) (rP : Int32) (fP : (Nat → Int32)) (rT : Int32) (fT : (Nat → Int32)) (rG : Int32) (fG : (Nat → Int32)) (rL : Int32) (fL : (Nat → Int32)) (rH : Int32) (fH : (Nat → Int32)) (gi : Int32) (di : Int32) (re : Int32) (ti : Int32) (x1 : Int32) (x2 : Int32) (r : Int32) (rT' : Int32) (fT' : (Nat → Int32)) (rH' : Int32) (fH' : (Nat → Int32)) (hf : f_X2_takeIn x1 x2 rT fT rG fG rH fH = some (r, rT', fT', rH', fH')) : Fn l yX2_takeIn wsX2_takeIn ({ frames := 3, cells := 0, slots := 0, locals := 74 } : Room) X [.ref (h 0), .int x1, .int x2] (wHo X h rP fP rT fT rG fG rL fL rH fH gi di re ti) (some (.int r)) (wHo X h rP fP rT' fT' rG fG rL fL rH' fH' gi di re ti) := by
  refine fn_intro (cc := cX2_takeIn) (maxL := 4) (ret := (some .int)) (by decide) rfl rfl (Nat.le_of_ble_eq_true rfl) ?_
  intro p e s m args below meth c A ls hx hb hml hr hts hown hlocks hK hP hD0 hS hA hl
  have hown : s.vm.findClass RX2 = some m.cls := hown
  have hl : lv_has ls 4 [(0, .ref (h 0)), (1, .int x1), (2, .int x2)] := hl
  have hiX2 : ∀ w ∈ u_ws RX2 TX2 9, w ∈ wsX2_takeIn := by decide +kernel
  have k20 := hts (.fieldLink RX2 20 "LentRights$House" "things" "LLentRights$Table;") (by decide +kernel)
  have k29 := hts (.fieldLink RX2 29 "LentRights$House" "held" "LLentRights$Table;") (by decide +kernel)
  unfold f_X2_takeIn at hf
  refine lv_aload_n hx hb dX2_takeIn_0 rfl (lv_at hl 0 rfl) ?_
  refine va_get (D := X.1) (ci := 2) (v := .ref (h 3)) (C := RX2) (T := TX2) (N := 9) hx hb hts hiX2 hown hK.1 hP 0 rfl rfl 1 (by decide) k20 (fun _ h9 => h9) rfl dX2_takeIn_1 ?_
  obtain ⟨r_1, rT_2, hc_3, hf⟩ := bd2_of hf
  refine fn_V (v := some (.int r_1)) (As := []) (rest := []) (st1 := [.int r_1]) (ws' := (wHo X h rP fP rT_2 fT rG fG rL fL rH fH gi di re ti)) (nL := 4) ⟨hx, hb, hml, hown, hts⟩ (c_X3_addRow l X (h 3) (h 4) (8 : Int32) (2 : Int32) 16 rT fT r_1 rT_2 hc_3) (cwV 0 hts gX2_takeIn_X3_addRow rfl rfl rfl (by decide +kernel) ⟨Nat.le_of_ble_eq_true rfl, Nat.le_of_ble_eq_true rfl⟩) 3 rfl rfl rfl rfl hl.1 rfl (Nat.le_of_ble_eq_true rfl) dX2_takeIn_4 hK hP (hD0.addr rfl) hS hA [3, 4] rfl rfl rfl rfl ⟨Nat.zero_le _, Nat.zero_le _⟩ (fun H locs hP hD hS => ?_)
  refine lv_istore_n (lv' := [(3, .int r_1), (0, .ref (h 0)), (1, .int x1), (2, .int x2)]) hx hb dX2_takeIn_7 rfl hl (by decide) rfl (fun ls hl => ?_)
  refine lv_aload_n hx hb dX2_takeIn_8 rfl (lv_at hl 1 rfl) ?_
  refine va_get (D := X.1) (ci := 2) (v := .ref (h 3)) (C := RX2) (T := TX2) (N := 9) hx hb hts hiX2 hown hK.1 hP 0 rfl rfl 1 (by decide) k20 (fun _ h9 => h9) rfl dX2_takeIn_9 ?_
  refine lv_iload_n hx hb dX2_takeIn_12 rfl (lv_at hl 0 rfl) ?_
  refine lv_iconst (v := 0) hx hb dX2_takeIn_13 (by decide) ?_
  refine lv_iload_n hx hb dX2_takeIn_14 rfl (lv_at hl 2 rfl) ?_
  obtain ⟨fT_4, hc_5, hf⟩ := bd_of hf
  refine fn_V (v := none) (As := [.int r_1, .int (0 : Int32), .int x1]) (rest := []) (st1 := []) (ws' := (wHo X h rP fP rT_2 fT_4 rG fG rL fL rH fH gi di re ti)) (nL := 4) ⟨hx, hb, hml, hown, hts⟩ (c_X3_put l X (h 3) (h 4) (8 : Int32) (2 : Int32) 16 rT_2 fT r_1 (0 : Int32) x1 fT_4 hc_5) (cwV 3 hts gX2_takeIn_X3_put rfl rfl rfl (by decide +kernel) ⟨Nat.le_of_ble_eq_true rfl, Nat.le_of_ble_eq_true rfl⟩) 3 rfl rfl rfl rfl hl.1 rfl (Nat.le_of_ble_eq_true rfl) dX2_takeIn_15 hK hP (hD0.addr rfl) hS hA [3, 4] rfl rfl rfl rfl ⟨Nat.zero_le _, Nat.zero_le _⟩ (fun H locs hP hD hS => ?_)
  refine lv_aload_n hx hb dX2_takeIn_18 rfl (lv_at hl 1 rfl) ?_
  refine va_get (D := X.1) (ci := 2) (v := .ref (h 3)) (C := RX2) (T := TX2) (N := 9) hx hb hts hiX2 hown hK.1 hP 0 rfl rfl 1 (by decide) k20 (fun _ h9 => h9) rfl dX2_takeIn_19 ?_
  refine lv_iload_n hx hb dX2_takeIn_22 rfl (lv_at hl 0 rfl) ?_
  refine lv_iconst (v := 1) hx hb dX2_takeIn_23 (by decide) ?_
  refine lv_iload_n hx hb dX2_takeIn_24 rfl (lv_at hl 3 rfl) ?_
  obtain ⟨fT_6, hc_7, hf⟩ := bd_of hf
  refine fn_V (v := none) (As := [.int r_1, .int (1 : Int32), .int x2]) (rest := []) (st1 := []) (ws' := (wHo X h rP fP rT_2 fT_6 rG fG rL fL rH fH gi di re ti)) (nL := 4) ⟨hx, hb, hml, hown, hts⟩ (c_X3_put l X (h 3) (h 4) (8 : Int32) (2 : Int32) 16 rT_2 fT_4 r_1 (1 : Int32) x2 fT_6 hc_7) (cwV 3 hts gX2_takeIn_X3_put rfl rfl rfl (by decide +kernel) ⟨Nat.le_of_ble_eq_true rfl, Nat.le_of_ble_eq_true rfl⟩) 3 rfl rfl rfl rfl hl.1 rfl (Nat.le_of_ble_eq_true rfl) dX2_takeIn_25 hK hP (hD0.addr rfl) hS hA [3, 4] rfl rfl rfl rfl ⟨Nat.zero_le _, Nat.zero_le _⟩ (fun H locs hP hD hS => ?_)
  refine lv_aload_n hx hb dX2_takeIn_28 rfl (lv_at hl 1 rfl) ?_
  refine va_get (D := X.1) (ci := 2) (v := .ref (h 9)) (C := RX2) (T := TX2) (N := 9) hx hb hts hiX2 hown hK.1 hP 0 rfl rfl 4 (by decide) k29 (fun _ h9 => h9) rfl dX2_takeIn_29 ?_
  obtain ⟨r_8, rH_9, hc_10, hf⟩ := bd2_of hf
  refine fn_V (v := some (.int r_8)) (As := []) (rest := []) (st1 := [.int r_8]) (ws' := (wHo X h rP fP rT_2 fT_6 rG fG rL fL rH_9 fH gi di re ti)) (nL := 4) ⟨hx, hb, hml, hown, hts⟩ (c_X3_addRow l X (h 9) (h 10) (8 : Int32) (10 : Int32) 80 rH fH r_8 rH_9 hc_10) (cwV 0 hts gX2_takeIn_X3_addRow rfl rfl rfl (by decide +kernel) ⟨Nat.le_of_ble_eq_true rfl, Nat.le_of_ble_eq_true rfl⟩) 3 rfl rfl rfl rfl hl.1 rfl (Nat.le_of_ble_eq_true rfl) dX2_takeIn_32 hK hP (hD0.addr rfl) hS hA [9, 10] rfl rfl rfl rfl ⟨Nat.zero_le _, Nat.zero_le _⟩ (fun H locs hP hD hS => ?_)
  refine lv_pop hx hb dX2_takeIn_35 rfl ?_
  refine lv_aload_n hx hb dX2_takeIn_36 rfl (lv_at hl 1 rfl) ?_
  obtain ⟨fH_11, hc_12, hf⟩ := bd_of hf
  refine fn_V (v := none) (As := []) (rest := []) (st1 := []) (ws' := (wHo X h rP fP rT_2 fT_6 rG fG rL fL rH_9 fH_11 gi di re ti)) (nL := 4) ⟨hx, hb, hml, hown, hts⟩ (c_X2_settle l X h rP fP rT_2 fT_6 rG fG rL fL rH_9 fH gi di re ti fH_11 hc_12) (cwV 0 hts gX2_takeIn_X2_settle rfl rfl rfl (by decide +kernel) ⟨Nat.le_of_ble_eq_true rfl, Nat.le_of_ble_eq_true rfl⟩) 2 rfl rfl rfl rfl hl.1 rfl (Nat.le_of_ble_eq_true rfl) dX2_takeIn_37 hK hP (hD0.addr rfl) hS hA [0, 1, 2, 3, 4, 5, 6, 7, 8, 9, 10] rfl rfl rfl rfl ⟨Nat.zero_le _, Nat.zero_le _⟩ (fun H locs hP hD hS => ?_)
  refine lv_iload_n hx hb dX2_takeIn_40 rfl (lv_at hl 0 rfl) ?_
  cases hf
  exact fn_iret hx hb hr hlocks hP hS dX2_takeIn_41

def f_X2_changeThing (x1 : Int32) (x2 : Int32) (x3 : Int32) (rT : Int32) (fT : (Nat → Int32)) (rG : Int32) (fG : (Nat → Int32)) (rH : Int32) (fH : (Nat → Int32)) : Option (Int32 × (Nat → Int32) × (Nat → Int32)) :=
  bd (f_X3_at (2 : Int32) 16 x1 x2 rT fT) (fun r_1 =>
  bd (f_X3_put (2 : Int32) 16 x1 x2 x3 rT fT) (fun fT_3 =>
  bd (f_X2_settle rT fT_3 rG fG rH fH) (fun fH_5 =>
  some (r_1, fT_3, fH_5))))
set_option maxHeartbeats 4000000 in
set_option maxRecDepth 100000 in
theorem c_X2_changeThing (l : Launch) (X : cx_G) (h : (Nat → Nat)) (rP : Int32) (fP : (Nat → Int32)) (rT : Int32) (fT : (Nat → Int32)) (rG : Int32) (fG : (Nat → Int32)) (rL : Int32) (fL : (Nat → Int32)) (rH : Int32) (fH : (Nat → Int32)) (gi : Int32) (di : Int32) (re : Int32) (ti : Int32) (x1 : Int32) (x2 : Int32) (x3 : Int32) (r : Int32) (fT' : (Nat → Int32)) (fH' : (Nat → Int32)) (hf : f_X2_changeThing x1 x2 x3 rT fT rG fG rH fH = some (r, fT', fH')) : Fn l yX2_changeThing wsX2_changeThing ({ frames := 3, cells := 0, slots := 0, locals := 74 } : Room) X [.ref (h 0), .int x1, .int x2, .int x3] (wHo X h rP fP rT fT rG fG rL fL rH fH gi di re ti) (some (.int r)) (wHo X h rP fP rT fT' rG fG rL fL rH fH' gi di re ti) := by
  refine fn_intro (cc := cX2_changeThing) (maxL := 5) (ret := (some .int)) (by decide) rfl rfl (Nat.le_of_ble_eq_true rfl) ?_
  intro p e s m args below meth c A ls hx hb hml hr hts hown hlocks hK hP hD0 hS hA hl
  have hown : s.vm.findClass RX2 = some m.cls := hown
  have hl : lv_has ls 5 [(0, .ref (h 0)), (1, .int x1), (2, .int x2), (3, .int x3)] := hl
  have hiX2 : ∀ w ∈ u_ws RX2 TX2 9, w ∈ wsX2_changeThing := by decide +kernel
  have k20 := hts (.fieldLink RX2 20 "LentRights$House" "things" "LLentRights$Table;") (by decide +kernel)
  unfold f_X2_changeThing at hf
  refine lv_aload_n hx hb dX2_changeThing_0 rfl (lv_at hl 0 rfl) ?_
  refine va_get (D := X.1) (ci := 2) (v := .ref (h 3)) (C := RX2) (T := TX2) (N := 9) hx hb hts hiX2 hown hK.1 hP 0 rfl rfl 1 (by decide) k20 (fun _ h9 => h9) rfl dX2_changeThing_1 ?_
  refine lv_iload_n hx hb dX2_changeThing_4 rfl (lv_at hl 1 rfl) ?_
  refine lv_iload_n hx hb dX2_changeThing_5 rfl (lv_at hl 2 rfl) ?_
  obtain ⟨r_1, hc_2, hf⟩ := bd_of hf
  refine fn_V (v := some (.int r_1)) (As := [.int x1, .int x2]) (rest := []) (st1 := [.int r_1]) (ws' := (wHo X h rP fP rT fT rG fG rL fL rH fH gi di re ti)) (nL := 5) ⟨hx, hb, hml, hown, hts⟩ (c_X3_at l X (h 3) (h 4) (8 : Int32) (2 : Int32) 16 rT fT x1 x2 r_1 hc_2) (cwV 2 hts gX2_changeThing_X3_at rfl rfl rfl (by decide +kernel) ⟨Nat.le_of_ble_eq_true rfl, Nat.le_of_ble_eq_true rfl⟩) 3 rfl rfl rfl rfl hl.1 rfl (Nat.le_of_ble_eq_true rfl) dX2_changeThing_6 hK hP (hD0.addr rfl) hS hA [3, 4] rfl rfl rfl rfl ⟨Nat.zero_le _, Nat.zero_le _⟩ (fun H locs hP hD hS => ?_)
  refine lv_istore (lv' := [(4, .int r_1), (0, .ref (h 0)), (1, .int x1), (2, .int x2), (3, .int x3)]) hx hb dX2_changeThing_9 hl (by decide) rfl (fun ls hl => ?_)
  refine lv_aload_n hx hb dX2_changeThing_11 rfl (lv_at hl 1 rfl) ?_
  refine va_get (D := X.1) (ci := 2) (v := .ref (h 3)) (C := RX2) (T := TX2) (N := 9) hx hb hts hiX2 hown hK.1 hP 0 rfl rfl 1 (by decide) k20 (fun _ h9 => h9) rfl dX2_changeThing_12 ?_
  refine lv_iload_n hx hb dX2_changeThing_15 rfl (lv_at hl 2 rfl) ?_
  refine lv_iload_n hx hb dX2_changeThing_16 rfl (lv_at hl 3 rfl) ?_
  refine lv_iload_n hx hb dX2_changeThing_17 rfl (lv_at hl 4 rfl) ?_
  obtain ⟨fT_3, hc_4, hf⟩ := bd_of hf
  refine fn_V (v := none) (As := [.int x1, .int x2, .int x3]) (rest := []) (st1 := []) (ws' := (wHo X h rP fP rT fT_3 rG fG rL fL rH fH gi di re ti)) (nL := 5) ⟨hx, hb, hml, hown, hts⟩ (c_X3_put l X (h 3) (h 4) (8 : Int32) (2 : Int32) 16 rT fT x1 x2 x3 fT_3 hc_4) (cwV 3 hts gX2_changeThing_X3_put rfl rfl rfl (by decide +kernel) ⟨Nat.le_of_ble_eq_true rfl, Nat.le_of_ble_eq_true rfl⟩) 3 rfl rfl rfl rfl hl.1 rfl (Nat.le_of_ble_eq_true rfl) dX2_changeThing_18 hK hP (hD0.addr rfl) hS hA [3, 4] rfl rfl rfl rfl ⟨Nat.zero_le _, Nat.zero_le _⟩ (fun H locs hP hD hS => ?_)
  refine lv_aload_n hx hb dX2_changeThing_21 rfl (lv_at hl 1 rfl) ?_
  obtain ⟨fH_5, hc_6, hf⟩ := bd_of hf
  refine fn_V (v := none) (As := []) (rest := []) (st1 := []) (ws' := (wHo X h rP fP rT fT_3 rG fG rL fL rH fH_5 gi di re ti)) (nL := 5) ⟨hx, hb, hml, hown, hts⟩ (c_X2_settle l X h rP fP rT fT_3 rG fG rL fL rH fH gi di re ti fH_5 hc_6) (cwV 0 hts gX2_changeThing_X2_settle rfl rfl rfl (by decide +kernel) ⟨Nat.le_of_ble_eq_true rfl, Nat.le_of_ble_eq_true rfl⟩) 2 rfl rfl rfl rfl hl.1 rfl (Nat.le_of_ble_eq_true rfl) dX2_changeThing_22 hK hP (hD0.addr rfl) hS hA [0, 1, 2, 3, 4, 5, 6, 7, 8, 9, 10] rfl rfl rfl rfl ⟨Nat.zero_le _, Nat.zero_le _⟩ (fun H locs hP hD hS => ?_)
  refine lv_iload hx hb dX2_changeThing_25 (lv_at hl 0 rfl) ?_
  cases hf
  exact fn_iret hx hb hr hlocks hP hS dX2_changeThing_27

def f_X2_faultOfGrant (x1 : Int32) (x2 : Int32) (x3 : Int32) (x4 : Int32) (x5 : Int32) (rP : Int32) (fP : (Nat → Int32)) (rT : Int32) (rG : Int32) (rH : Int32) (fH : (Nat → Int32)) : Option (Int32) :=
  bd (f_X5_isPerson x1) (fun r_1 =>
  if r_1 = (0 : Int32) then
  (some (1 : Int32))
  else
  (bd (f_X5_isPerson x2) (fun r_4 =>
  if r_4 = (0 : Int32) then
  (some (1 : Int32))
  else
  (bd (f_X3_has x3 rT) (fun r_7 =>
  if r_7 = (0 : Int32) then
  (some (1 : Int32))
  else
  (bd (f_X5_isBetween x4 (1 : Int32) (7 : Int32)) (fun r_10 =>
  if r_10 = (0 : Int32) then
  (some (2 : Int32))
  else
  (bd (f_X5_isBetween x5 (0 : Int32) (100 : Int32)) (fun r_14 =>
  if r_14 = (0 : Int32) then
  (some (2 : Int32))
  else
  (if x1 = x2 then
  (some (2 : Int32))
  else
  (nm (x4 ||| (4 : Int32)) (fun v_20 =>
  bd (f_X2_rightsOf x1 x3 rH fH) (fun r_21 =>
  if r_21 &&& v_20 = v_20 then
  (bd (f_X3_at (2 : Int32) 20 x1 (0 : Int32) rP fP) (fun r_29 =>
  if r_29 < x5 then
  (some (3 : Int32))
  else
  (bd (f_X3_isFull (40 : Int32) rG) (fun r_36 =>
  if r_36 = (0 : Int32) then
  (some (0 : Int32))
  else
  (some (3 : Int32))))))
  else
  (bd (f_X3_at (2 : Int32) 20 x1 (0 : Int32) rP fP) (fun r_24 =>
  if r_24 < x5 then
  (some (3 : Int32))
  else
  (some (3 : Int32)))))))))))))))))
set_option maxHeartbeats 4000000 in
set_option maxRecDepth 100000 in
theorem c_X2_faultOfGrant (l : Launch) (X : cx_G) (h : (Nat → Nat)) (rP : Int32) (fP : (Nat → Int32)) (rT : Int32) (fT : (Nat → Int32)) (rG : Int32) (fG : (Nat → Int32)) (rL : Int32) (fL : (Nat → Int32)) (rH : Int32) (fH : (Nat → Int32)) (gi : Int32) (di : Int32) (re : Int32) (ti : Int32) (x1 : Int32) (x2 : Int32) (x3 : Int32) (x4 : Int32) (x5 : Int32) (r : Int32) (hf : f_X2_faultOfGrant x1 x2 x3 x4 x5 rP fP rT rG rH fH = some r) : Fn l yX2_faultOfGrant wsX2_faultOfGrant ({ frames := 2, cells := 0, slots := 0, locals := 46 } : Room) X [.ref (h 0), .int x1, .int x2, .int x3, .int x4, .int x5] (wHo X h rP fP rT fT rG fG rL fL rH fH gi di re ti) (some (.int r)) (wHo X h rP fP rT fT rG fG rL fL rH fH gi di re ti) := by
  refine fn_intro (cc := cX2_faultOfGrant) (maxL := 10) (ret := (some .int)) (by decide) rfl rfl (Nat.le_of_ble_eq_true rfl) ?_
  intro p e s m args below meth c A ls hx hb hml hr hts hown hlocks hK hP hD0 hS hA hl
  have hown : s.vm.findClass RX2 = some m.cls := hown
  have hl : lv_has ls 10 [(0, .ref (h 0)), (1, .int x1), (2, .int x2), (3, .int x3), (4, .int x4), (5, .int x5)] := hl
  have hiX2 : ∀ w ∈ u_ws RX2 TX2 9, w ∈ wsX2_faultOfGrant := by decide +kernel
  have k14 := hts (.fieldLink RX2 14 "LentRights$House" "persons" "LLentRights$Table;") (by decide +kernel)
  have k20 := hts (.fieldLink RX2 20 "LentRights$House" "things" "LLentRights$Table;") (by decide +kernel)
  have k23 := hts (.fieldLink RX2 23 "LentRights$House" "grants" "LLentRights$Table;") (by decide +kernel)
  unfold f_X2_faultOfGrant at hf
  refine lv_iload_n hx hb dX2_faultOfGrant_0 rfl (lv_at hl 1 rfl) ?_
  obtain ⟨r_1, hc_2, hf⟩ := bd_of hf
  refine fn_SN (v := some (.int r_1)) (As := [.int x1]) (rest := []) (st1 := [.int r_1]) (ws' := (wHo X h rP fP rT fT rG fG rL fL rH fH gi di re ti)) (nL := 10) ⟨hx, hb, hml, hown, hts⟩ (c_X5_isPerson l X x1 r_1 hc_2) ⟨va_cnB (host := "LentRights") 1 hts gX2_faultOfGrant_X5_isPerson_n64 rfl rfl rfl hK.2.1 (hts (.initialized RX5) (by decide +kernel)) (by decide +kernel) ⟨Nat.le_of_ble_eq_true rfl, Nat.le_of_ble_eq_true rfl⟩, hts (.static yX5_isPerson) (by decide +kernel), trivial⟩ rfl hl.1 rfl (Nat.le_of_ble_eq_true rfl) dX2_faultOfGrant_1 hK hP (hD0.addr rfl) hS hA [] rfl rfl rfl rfl ⟨Nat.zero_le _, Nat.zero_le _⟩ (fun H locs hP hD hS => ?_)
  refine lv_if_eq (tgt := 25) hx hb dX2_faultOfGrant_4 (by decide) (fun c_3 => ?_) (fun c_3 => ?_)
  · replace hf := fp_t c_3 hf
    refine lv_iconst (v := 1) hx hb dX2_faultOfGrant_25 (by decide) ?_
    cases hf
    exact fn_iret hx hb hr hlocks hP hS dX2_faultOfGrant_26
  · replace hf := fp_f c_3 hf
    refine lv_iload_n hx hb dX2_faultOfGrant_7 rfl (lv_at hl 2 rfl) ?_
    obtain ⟨r_4, hc_5, hf⟩ := bd_of hf
    refine fn_SN (v := some (.int r_4)) (As := [.int x2]) (rest := []) (st1 := [.int r_4]) (ws' := (wHo X h rP fP rT fT rG fG rL fL rH fH gi di re ti)) (nL := 10) ⟨hx, hb, hml, hown, hts⟩ (c_X5_isPerson l X x2 r_4 hc_5) ⟨va_cnB (host := "LentRights") 1 hts gX2_faultOfGrant_X5_isPerson_n64 rfl rfl rfl hK.2.1 (hts (.initialized RX5) (by decide +kernel)) (by decide +kernel) ⟨Nat.le_of_ble_eq_true rfl, Nat.le_of_ble_eq_true rfl⟩, hts (.static yX5_isPerson) (by decide +kernel), trivial⟩ rfl hl.1 rfl (Nat.le_of_ble_eq_true rfl) dX2_faultOfGrant_8 hK hP (hD0.addr rfl) hS hA [] rfl rfl rfl rfl ⟨Nat.zero_le _, Nat.zero_le _⟩ (fun H locs hP hD hS => ?_)
    refine lv_if_eq (tgt := 25) hx hb dX2_faultOfGrant_11 (by decide) (fun c_6 => ?_) (fun c_6 => ?_)
    · replace hf := fp_t c_6 hf
      refine lv_iconst (v := 1) hx hb dX2_faultOfGrant_25 (by decide) ?_
      cases hf
      exact fn_iret hx hb hr hlocks hP hS dX2_faultOfGrant_26
    · replace hf := fp_f c_6 hf
      refine lv_aload_n hx hb dX2_faultOfGrant_14 rfl (lv_at hl 0 rfl) ?_
      refine va_get (D := X.1) (ci := 2) (v := .ref (h 3)) (C := RX2) (T := TX2) (N := 9) hx hb hts hiX2 hown hK.1 hP 0 rfl rfl 1 (by decide) k20 (fun _ h9 => h9) rfl dX2_faultOfGrant_15 ?_
      refine lv_iload_n hx hb dX2_faultOfGrant_18 rfl (lv_at hl 3 rfl) ?_
      obtain ⟨r_7, hc_8, hf⟩ := bd_of hf
      refine fn_V (v := some (.int r_7)) (As := [.int x3]) (rest := []) (st1 := [.int r_7]) (ws' := (wHo X h rP fP rT fT rG fG rL fL rH fH gi di re ti)) (nL := 10) ⟨hx, hb, hml, hown, hts⟩ (c_X3_has l X (h 3) (h 4) (8 : Int32) (2 : Int32) 16 rT fT x3 r_7 hc_8) (cwV 1 hts gX2_faultOfGrant_X3_has rfl rfl rfl (by decide +kernel) ⟨Nat.le_of_ble_eq_true rfl, Nat.le_of_ble_eq_true rfl⟩) 3 rfl rfl rfl rfl hl.1 rfl (Nat.le_of_ble_eq_true rfl) dX2_faultOfGrant_19 hK hP (hD0.addr rfl) hS hA [3, 4] rfl rfl rfl rfl ⟨Nat.zero_le _, Nat.zero_le _⟩ (fun H locs hP hD hS => ?_)
      refine lv_if_ne (tgt := 27) hx hb dX2_faultOfGrant_22 (by decide) (fun c_9 => ?_) (fun c_9 => ?_)
      · replace hf := fp_f c_9 hf
        refine lv_iload hx hb dX2_faultOfGrant_27 (lv_at hl 4 rfl) ?_
        refine lv_iconst (v := 1) hx hb dX2_faultOfGrant_29 (by decide) ?_
        refine lv_bipush (v := 7) hx hb dX2_faultOfGrant_30 (by decide) ?_
        obtain ⟨r_10, hc_11, hf⟩ := bd_of hf
        refine fn_SN (v := some (.int r_10)) (As := [.int x4, .int (1 : Int32), .int (7 : Int32)]) (rest := []) (st1 := [.int r_10]) (ws' := (wHo X h rP fP rT fT rG fG rL fL rH fH gi di re ti)) (nL := 10) ⟨hx, hb, hml, hown, hts⟩ (c_X5_isBetween l X x4 (1 : Int32) (7 : Int32) r_10 hc_11) ⟨va_cnB (host := "LentRights") 3 hts gX2_faultOfGrant_X5_isBetween_n71 rfl rfl rfl hK.2.2 (hts (.initialized RX5) (by decide +kernel)) (by decide +kernel) ⟨Nat.le_of_ble_eq_true rfl, Nat.le_of_ble_eq_true rfl⟩, hts (.static yX5_isBetween) (by decide +kernel), trivial⟩ rfl hl.1 rfl (Nat.le_of_ble_eq_true rfl) dX2_faultOfGrant_32 hK hP (hD0.addr rfl) hS hA [] rfl rfl rfl rfl ⟨Nat.zero_le _, Nat.zero_le _⟩ (fun H locs hP hD hS => ?_)
        refine lv_if_eq (tgt := 53) hx hb dX2_faultOfGrant_35 (by decide) (fun c_12 => ?_) (fun c_12 => ?_)
        · replace hf := fp_t c_12 hf
          refine lv_iconst (v := 0) hx hb dX2_faultOfGrant_53 (by decide) ?_
          refine lv_istore (lv' := [(6, .int (0 : Int32)), (0, .ref (h 0)), (1, .int x1), (2, .int x2), (3, .int x3), (4, .int x4), (5, .int x5)]) hx hb dX2_faultOfGrant_54 hl (by decide) rfl (fun ls hl => ?_)
          refine lv_iload hx hb dX2_faultOfGrant_56 (lv_at hl 0 rfl) ?_
          refine lv_if_eq (tgt := 66) hx hb dX2_faultOfGrant_58 (by decide) (fun _ => ?_) (fun c9 => absurd c9 (by decide))
          refine lv_iconst (v := 2) hx hb dX2_faultOfGrant_66 (by decide) ?_
          cases hf
          exact fn_iret hx hb hr hlocks hP hS dX2_faultOfGrant_67
        · replace hf := fp_f c_12 hf
          refine lv_iload hx hb dX2_faultOfGrant_38 (lv_at hl 5 rfl) ?_
          refine lv_iconst (v := 0) hx hb dX2_faultOfGrant_40 (by decide) ?_
          refine lv_bipush (v := 100) hx hb dX2_faultOfGrant_41 (by decide) ?_
          obtain ⟨r_14, hc_15, hf⟩ := bd_of hf
          refine fn_SN (v := some (.int r_14)) (As := [.int x5, .int (0 : Int32), .int (100 : Int32)]) (rest := []) (st1 := [.int r_14]) (ws' := (wHo X h rP fP rT fT rG fG rL fL rH fH gi di re ti)) (nL := 10) ⟨hx, hb, hml, hown, hts⟩ (c_X5_isBetween l X x5 (0 : Int32) (100 : Int32) r_14 hc_15) ⟨va_cnB (host := "LentRights") 3 hts gX2_faultOfGrant_X5_isBetween_n71 rfl rfl rfl hK.2.2 (hts (.initialized RX5) (by decide +kernel)) (by decide +kernel) ⟨Nat.le_of_ble_eq_true rfl, Nat.le_of_ble_eq_true rfl⟩, hts (.static yX5_isBetween) (by decide +kernel), trivial⟩ rfl hl.1 rfl (Nat.le_of_ble_eq_true rfl) dX2_faultOfGrant_43 hK hP (hD0.addr rfl) hS hA [] rfl rfl rfl rfl ⟨Nat.zero_le _, Nat.zero_le _⟩ (fun H locs hP hD hS => ?_)
          refine lv_if_eq (tgt := 53) hx hb dX2_faultOfGrant_46 (by decide) (fun c_16 => ?_) (fun c_16 => ?_)
          · replace hf := fp_t c_16 hf
            refine lv_iconst (v := 0) hx hb dX2_faultOfGrant_53 (by decide) ?_
            refine lv_istore (lv' := [(6, .int (0 : Int32)), (0, .ref (h 0)), (1, .int x1), (2, .int x2), (3, .int x3), (4, .int x4), (5, .int x5)]) hx hb dX2_faultOfGrant_54 hl (by decide) rfl (fun ls hl => ?_)
            refine lv_iload hx hb dX2_faultOfGrant_56 (lv_at hl 0 rfl) ?_
            refine lv_if_eq (tgt := 66) hx hb dX2_faultOfGrant_58 (by decide) (fun _ => ?_) (fun c9 => absurd c9 (by decide))
            refine lv_iconst (v := 2) hx hb dX2_faultOfGrant_66 (by decide) ?_
            cases hf
            exact fn_iret hx hb hr hlocks hP hS dX2_faultOfGrant_67
          · replace hf := fp_f c_16 hf
            refine lv_iconst (v := 1) hx hb dX2_faultOfGrant_49 (by decide) ?_
            refine lv_goto (tgt := 54) hx hb dX2_faultOfGrant_50 (by decide) ?_
            refine lv_istore (lv' := [(6, .int (1 : Int32)), (0, .ref (h 0)), (1, .int x1), (2, .int x2), (3, .int x3), (4, .int x4), (5, .int x5)]) hx hb dX2_faultOfGrant_54 hl (by decide) rfl (fun ls hl => ?_)
            refine lv_iload hx hb dX2_faultOfGrant_56 (lv_at hl 0 rfl) ?_
            refine lv_if_eq (tgt := 66) hx hb dX2_faultOfGrant_58 (by decide) (fun c9 => absurd c9 (by decide)) (fun _ => ?_)
            refine lv_iload_n hx hb dX2_faultOfGrant_61 rfl (lv_at hl 2 rfl) ?_
            refine lv_iload_n hx hb dX2_faultOfGrant_62 rfl (lv_at hl 3 rfl) ?_
            refine lv_icmp_ne (tgt := 68) hx hb dX2_faultOfGrant_63 (by decide) (fun c_19 => ?_) (fun c_19 => ?_)
            · replace hf := fp_f c_19 hf
              refine lv_iload hx hb dX2_faultOfGrant_68 (lv_at hl 5 rfl) ?_
              refine lv_iconst (v := 4) hx hb dX2_faultOfGrant_70 (by decide) ?_
              refine lv_ior hx hb dX2_faultOfGrant_71 ?_
              refine lv_topi (fun v_20 ev_20 => ?_)
              replace hf := nm_of ev_20 hf
              refine lv_istore (lv' := [(7, .int v_20), (6, .int (1 : Int32)), (0, .ref (h 0)), (1, .int x1), (2, .int x2), (3, .int x3), (4, .int x4), (5, .int x5)]) hx hb dX2_faultOfGrant_72 hl (by decide) rfl (fun ls hl => ?_)
              refine lv_aload_n hx hb dX2_faultOfGrant_74 rfl (lv_at hl 2 rfl) ?_
              refine lv_iload_n hx hb dX2_faultOfGrant_75 rfl (lv_at hl 3 rfl) ?_
              refine lv_iload_n hx hb dX2_faultOfGrant_76 rfl (lv_at hl 5 rfl) ?_
              obtain ⟨r_21, hc_22, hf⟩ := bd_of hf
              refine fn_V (v := some (.int r_21)) (As := [.int x1, .int x3]) (rest := []) (st1 := [.int r_21]) (ws' := (wHo X h rP fP rT fT rG fG rL fL rH fH gi di re ti)) (nL := 10) ⟨hx, hb, hml, hown, hts⟩ (c_X2_rightsOf l X h rP fP rT fT rG fG rL fL rH fH gi di re ti x1 x3 r_21 hc_22) (cwV 2 hts gX2_faultOfGrant_X2_rightsOf rfl rfl rfl (by decide +kernel) ⟨Nat.le_of_ble_eq_true rfl, Nat.le_of_ble_eq_true rfl⟩) 2 rfl rfl rfl rfl hl.1 rfl (Nat.le_of_ble_eq_true rfl) dX2_faultOfGrant_77 hK hP (hD0.addr rfl) hS hA [0, 1, 2, 3, 4, 5, 6, 7, 8, 9, 10] rfl rfl rfl rfl ⟨Nat.zero_le _, Nat.zero_le _⟩ (fun H locs hP hD hS => ?_)
              refine lv_iload hx hb dX2_faultOfGrant_80 (lv_at hl 0 rfl) ?_
              refine lv_iand hx hb dX2_faultOfGrant_82 ?_
              refine lv_iload hx hb dX2_faultOfGrant_83 (lv_at hl 0 rfl) ?_
              refine lv_icmp_ne (tgt := 92) hx hb dX2_faultOfGrant_85 (by decide) (fun c_23 => ?_) (fun c_23 => ?_)
              · replace hf := fp_f c_23 hf
                refine lv_iconst (v := 0) hx hb dX2_faultOfGrant_92 (by decide) ?_
                refine lv_istore (lv' := [(8, .int (0 : Int32)), (7, .int v_20), (6, .int (1 : Int32)), (0, .ref (h 0)), (1, .int x1), (2, .int x2), (3, .int x3), (4, .int x4), (5, .int x5)]) hx hb dX2_faultOfGrant_93 hl (by decide) rfl (fun ls hl => ?_)
                refine lv_aload_n hx hb dX2_faultOfGrant_95 rfl (lv_at hl 3 rfl) ?_
                refine va_get (D := X.1) (ci := 2) (v := .ref (h 1)) (C := RX2) (T := TX2) (N := 9) hx hb hts hiX2 hown hK.1 hP 0 rfl rfl 0 (by decide) k14 (fun _ h9 => h9) rfl dX2_faultOfGrant_96 ?_
                refine lv_iload_n hx hb dX2_faultOfGrant_99 rfl (lv_at hl 4 rfl) ?_
                refine lv_iconst (v := 0) hx hb dX2_faultOfGrant_100 (by decide) ?_
                obtain ⟨r_24, hc_25, hf⟩ := bd_of hf
                refine fn_V (v := some (.int r_24)) (As := [.int x1, .int (0 : Int32)]) (rest := []) (st1 := [.int r_24]) (ws' := (wHo X h rP fP rT fT rG fG rL fL rH fH gi di re ti)) (nL := 10) ⟨hx, hb, hml, hown, hts⟩ (c_X3_at l X (h 1) (h 2) (10 : Int32) (2 : Int32) 20 rP fP x1 (0 : Int32) r_24 hc_25) (cwV 2 hts gX2_faultOfGrant_X3_at rfl rfl rfl (by decide +kernel) ⟨Nat.le_of_ble_eq_true rfl, Nat.le_of_ble_eq_true rfl⟩) 3 rfl rfl rfl rfl hl.1 rfl (Nat.le_of_ble_eq_true rfl) dX2_faultOfGrant_101 hK hP (hD0.addr rfl) hS hA [1, 2] rfl rfl rfl rfl ⟨Nat.zero_le _, Nat.zero_le _⟩ (fun H locs hP hD hS => ?_)
                refine lv_iload hx hb dX2_faultOfGrant_104 (lv_at hl 8 rfl) ?_
                refine lv_icmp_lt (tgt := 113) hx hb dX2_faultOfGrant_106 (by decide) (fun c_26 => ?_) (fun c_26 => ?_)
                · replace hf := fp_t c_26 hf
                  refine lv_iconst (v := 0) hx hb dX2_faultOfGrant_113 (by decide) ?_
                  refine lv_istore (lv' := [(9, .int (0 : Int32)), (8, .int (0 : Int32)), (7, .int v_20), (6, .int (1 : Int32)), (0, .ref (h 0)), (1, .int x1), (2, .int x2), (3, .int x3), (4, .int x4), (5, .int x5)]) hx hb dX2_faultOfGrant_114 hl (by decide) rfl (fun ls hl => ?_)
                  refine lv_iload hx hb dX2_faultOfGrant_116 (lv_at hl 1 rfl) ?_
                  refine lv_if_eq (tgt := 140) hx hb dX2_faultOfGrant_118 (by decide) (fun _ => ?_) (fun c9 => absurd c9 (by decide))
                  refine lv_iconst (v := 3) hx hb dX2_faultOfGrant_140 (by decide) ?_
                  cases hf
                  exact fn_iret hx hb hr hlocks hP hS dX2_faultOfGrant_141
                · replace hf := fp_f c_26 hf
                  refine lv_iconst (v := 1) hx hb dX2_faultOfGrant_109 (by decide) ?_
                  refine lv_goto (tgt := 114) hx hb dX2_faultOfGrant_110 (by decide) ?_
                  refine lv_istore (lv' := [(9, .int (1 : Int32)), (8, .int (0 : Int32)), (7, .int v_20), (6, .int (1 : Int32)), (0, .ref (h 0)), (1, .int x1), (2, .int x2), (3, .int x3), (4, .int x4), (5, .int x5)]) hx hb dX2_faultOfGrant_114 hl (by decide) rfl (fun ls hl => ?_)
                  refine lv_iload hx hb dX2_faultOfGrant_116 (lv_at hl 1 rfl) ?_
                  refine lv_if_eq (tgt := 140) hx hb dX2_faultOfGrant_118 (by decide) (fun _ => ?_) (fun c9 => absurd c9 (by decide))
                  refine lv_iconst (v := 3) hx hb dX2_faultOfGrant_140 (by decide) ?_
                  cases hf
                  exact fn_iret hx hb hr hlocks hP hS dX2_faultOfGrant_141
              · replace hf := fp_t c_23 hf
                refine lv_iconst (v := 1) hx hb dX2_faultOfGrant_88 (by decide) ?_
                refine lv_goto (tgt := 93) hx hb dX2_faultOfGrant_89 (by decide) ?_
                refine lv_istore (lv' := [(8, .int (1 : Int32)), (7, .int v_20), (6, .int (1 : Int32)), (0, .ref (h 0)), (1, .int x1), (2, .int x2), (3, .int x3), (4, .int x4), (5, .int x5)]) hx hb dX2_faultOfGrant_93 hl (by decide) rfl (fun ls hl => ?_)
                refine lv_aload_n hx hb dX2_faultOfGrant_95 rfl (lv_at hl 3 rfl) ?_
                refine va_get (D := X.1) (ci := 2) (v := .ref (h 1)) (C := RX2) (T := TX2) (N := 9) hx hb hts hiX2 hown hK.1 hP 0 rfl rfl 0 (by decide) k14 (fun _ h9 => h9) rfl dX2_faultOfGrant_96 ?_
                refine lv_iload_n hx hb dX2_faultOfGrant_99 rfl (lv_at hl 4 rfl) ?_
                refine lv_iconst (v := 0) hx hb dX2_faultOfGrant_100 (by decide) ?_
                obtain ⟨r_29, hc_30, hf⟩ := bd_of hf
                refine fn_V (v := some (.int r_29)) (As := [.int x1, .int (0 : Int32)]) (rest := []) (st1 := [.int r_29]) (ws' := (wHo X h rP fP rT fT rG fG rL fL rH fH gi di re ti)) (nL := 10) ⟨hx, hb, hml, hown, hts⟩ (c_X3_at l X (h 1) (h 2) (10 : Int32) (2 : Int32) 20 rP fP x1 (0 : Int32) r_29 hc_30) (cwV 2 hts gX2_faultOfGrant_X3_at rfl rfl rfl (by decide +kernel) ⟨Nat.le_of_ble_eq_true rfl, Nat.le_of_ble_eq_true rfl⟩) 3 rfl rfl rfl rfl hl.1 rfl (Nat.le_of_ble_eq_true rfl) dX2_faultOfGrant_101 hK hP (hD0.addr rfl) hS hA [1, 2] rfl rfl rfl rfl ⟨Nat.zero_le _, Nat.zero_le _⟩ (fun H locs hP hD hS => ?_)
                refine lv_iload hx hb dX2_faultOfGrant_104 (lv_at hl 8 rfl) ?_
                refine lv_icmp_lt (tgt := 113) hx hb dX2_faultOfGrant_106 (by decide) (fun c_31 => ?_) (fun c_31 => ?_)
                · replace hf := fp_t c_31 hf
                  refine lv_iconst (v := 0) hx hb dX2_faultOfGrant_113 (by decide) ?_
                  refine lv_istore (lv' := [(9, .int (0 : Int32)), (8, .int (1 : Int32)), (7, .int v_20), (6, .int (1 : Int32)), (0, .ref (h 0)), (1, .int x1), (2, .int x2), (3, .int x3), (4, .int x4), (5, .int x5)]) hx hb dX2_faultOfGrant_114 hl (by decide) rfl (fun ls hl => ?_)
                  refine lv_iload hx hb dX2_faultOfGrant_116 (lv_at hl 1 rfl) ?_
                  refine lv_if_eq (tgt := 140) hx hb dX2_faultOfGrant_118 (by decide) (fun c9 => absurd c9 (by decide)) (fun _ => ?_)
                  refine lv_iload hx hb dX2_faultOfGrant_121 (lv_at hl 0 rfl) ?_
                  refine lv_if_eq (tgt := 140) hx hb dX2_faultOfGrant_123 (by decide) (fun _ => ?_) (fun c9 => absurd c9 (by decide))
                  refine lv_iconst (v := 3) hx hb dX2_faultOfGrant_140 (by decide) ?_
                  cases hf
                  exact fn_iret hx hb hr hlocks hP hS dX2_faultOfGrant_141
                · replace hf := fp_f c_31 hf
                  refine lv_iconst (v := 1) hx hb dX2_faultOfGrant_109 (by decide) ?_
                  refine lv_goto (tgt := 114) hx hb dX2_faultOfGrant_110 (by decide) ?_
                  refine lv_istore (lv' := [(9, .int (1 : Int32)), (8, .int (1 : Int32)), (7, .int v_20), (6, .int (1 : Int32)), (0, .ref (h 0)), (1, .int x1), (2, .int x2), (3, .int x3), (4, .int x4), (5, .int x5)]) hx hb dX2_faultOfGrant_114 hl (by decide) rfl (fun ls hl => ?_)
                  refine lv_iload hx hb dX2_faultOfGrant_116 (lv_at hl 1 rfl) ?_
                  refine lv_if_eq (tgt := 140) hx hb dX2_faultOfGrant_118 (by decide) (fun c9 => absurd c9 (by decide)) (fun _ => ?_)
                  refine lv_iload hx hb dX2_faultOfGrant_121 (lv_at hl 0 rfl) ?_
                  refine lv_if_eq (tgt := 140) hx hb dX2_faultOfGrant_123 (by decide) (fun c9 => absurd c9 (by decide)) (fun _ => ?_)
                  refine lv_aload_n hx hb dX2_faultOfGrant_126 rfl (lv_at hl 4 rfl) ?_
                  refine va_get (D := X.1) (ci := 2) (v := .ref (h 5)) (C := RX2) (T := TX2) (N := 9) hx hb hts hiX2 hown hK.1 hP 0 rfl rfl 2 (by decide) k23 (fun _ h9 => h9) rfl dX2_faultOfGrant_127 ?_
                  obtain ⟨r_36, hc_37, hf⟩ := bd_of hf
                  refine fn_V (v := some (.int r_36)) (As := []) (rest := []) (st1 := [.int r_36]) (ws' := (wHo X h rP fP rT fT rG fG rL fL rH fH gi di re ti)) (nL := 10) ⟨hx, hb, hml, hown, hts⟩ (c_X3_isFull l X (h 5) (h 6) (40 : Int32) (6 : Int32) 240 rG fG r_36 hc_37) (cwV 0 hts gX2_faultOfGrant_X3_isFull rfl rfl rfl (by decide +kernel) ⟨Nat.le_of_ble_eq_true rfl, Nat.le_of_ble_eq_true rfl⟩) 3 rfl rfl rfl rfl hl.1 rfl (Nat.le_of_ble_eq_true rfl) dX2_faultOfGrant_130 hK hP (hD0.addr rfl) hS hA [5, 6] rfl rfl rfl rfl ⟨Nat.zero_le _, Nat.zero_le _⟩ (fun H locs hP hD hS => ?_)
                  refine lv_if_ne (tgt := 140) hx hb dX2_faultOfGrant_133 (by decide) (fun c_38 => ?_) (fun c_38 => ?_)
                  · replace hf := fp_f c_38 hf
                    refine lv_iconst (v := 3) hx hb dX2_faultOfGrant_140 (by decide) ?_
                    cases hf
                    exact fn_iret hx hb hr hlocks hP hS dX2_faultOfGrant_141
                  · replace hf := fp_t c_38 hf
                    refine lv_iconst (v := 0) hx hb dX2_faultOfGrant_136 (by decide) ?_
                    refine lv_goto (tgt := 141) hx hb dX2_faultOfGrant_137 (by decide) ?_
                    cases hf
                    exact fn_iret hx hb hr hlocks hP hS dX2_faultOfGrant_141
            · replace hf := fp_t c_19 hf
              refine lv_iconst (v := 2) hx hb dX2_faultOfGrant_66 (by decide) ?_
              cases hf
              exact fn_iret hx hb hr hlocks hP hS dX2_faultOfGrant_67
      · replace hf := fp_t c_9 hf
        refine lv_iconst (v := 1) hx hb dX2_faultOfGrant_25 (by decide) ?_
        cases hf
        exact fn_iret hx hb hr hlocks hP hS dX2_faultOfGrant_26

def f_X2_lend (x1 : Int32) (x2 : Int32) (x3 : Int32) (x4 : Int32) (x5 : Int32) (rT : Int32) (fT : (Nat → Int32)) (rG : Int32) (fG : (Nat → Int32)) (rH : Int32) (fH : (Nat → Int32)) (gi : Int32) : Option (Int32 × Int32 × (Nat → Int32) × (Nat → Int32) × Int32) :=
  bd2 (f_X3_addRow (40 : Int32) rG) (fun r_1 rG_2 =>
  bd (f_X3_put (6 : Int32) 240 r_1 (0 : Int32) x1 rG_2 fG) (fun fG_4 =>
  bd (f_X3_put (6 : Int32) 240 r_1 (1 : Int32) x2 rG_2 fG_4) (fun fG_6 =>
  bd (f_X3_put (6 : Int32) 240 r_1 (2 : Int32) x3 rG_2 fG_6) (fun fG_8 =>
  bd (f_X3_put (6 : Int32) 240 r_1 (3 : Int32) x4 rG_2 fG_8) (fun fG_10 =>
  bd (f_X3_put (6 : Int32) 240 r_1 (4 : Int32) x5 rG_2 fG_10) (fun fG_12 =>
  bd (f_X3_put (6 : Int32) 240 r_1 (5 : Int32) gi rG_2 fG_12) (fun fG_14 =>
  nm (gi + (1 : Int32)) (fun v_16 =>
  bd (f_X2_settle rT fT rG_2 fG_14 rH fH) (fun fH_17 =>
  some (gi, rG_2, fG_14, fH_17, v_16))))))))))
set_option maxHeartbeats 4000000 in
set_option maxRecDepth 100000 in
theorem c_X2_lend (l : Launch) (X : cx_G) (h : (Nat → Nat)) (rP : Int32) (fP : (Nat → Int32)) (rT : Int32) (fT : (Nat → Int32)) (rG : Int32) (fG : (Nat → Int32)) (rL : Int32) (fL : (Nat → Int32)) (rH : Int32) (fH : (Nat → Int32)) (gi : Int32) (di : Int32) (re : Int32) (ti : Int32) (x1 : Int32) (x2 : Int32) (x3 : Int32) (x4 : Int32) (x5 : Int32) (r : Int32) (rG' : Int32) (fG' : (Nat → Int32)) (fH' : (Nat → Int32)) (gi' : Int32) (hf : f_X2_lend x1 x2 x3 x4 x5 rT fT rG fG rH fH gi = some (r, rG', fG', fH', gi')) : Fn l yX2_lend wsX2_lend ({ frames := 3, cells := 0, slots := 0, locals := 74 } : Room) X [.ref (h 0), .int x1, .int x2, .int x3, .int x4, .int x5] (wHo X h rP fP rT fT rG fG rL fL rH fH gi di re ti) (some (.int r)) (wHo X h rP fP rT fT rG' fG' rL fL rH fH' gi' di re ti) := by
  refine fn_intro (cc := cX2_lend) (maxL := 8) (ret := (some .int)) (by decide) rfl rfl (Nat.le_of_ble_eq_true rfl) ?_
  intro p e s m args below meth c A ls hx hb hml hr hts hown hlocks hK hP hD0 hS hA hl
  have hown : s.vm.findClass RX2 = some m.cls := hown
  have hl : lv_has ls 8 [(0, .ref (h 0)), (1, .int x1), (2, .int x2), (3, .int x3), (4, .int x4), (5, .int x5)] := hl
  have hiX2 : ∀ w ∈ u_ws RX2 TX2 9, w ∈ wsX2_lend := by decide +kernel
  have k23 := hts (.fieldLink RX2 23 "LentRights$House" "grants" "LLentRights$Table;") (by decide +kernel)
  have k44 := hts (.fieldLink RX2 44 "LentRights$House" "given" "I") (by decide +kernel)
  unfold f_X2_lend at hf
  refine lv_aload_n hx hb dX2_lend_0 rfl (lv_at hl 0 rfl) ?_
  refine va_get (D := X.1) (ci := 2) (v := .int gi) (C := RX2) (T := TX2) (N := 9) hx hb hts hiX2 hown hK.1 hP 0 rfl rfl 5 (by decide) k44 (fun _ h9 => h9) rfl dX2_lend_1 ?_
  refine lv_istore (lv' := [(6, .int gi), (0, .ref (h 0)), (1, .int x1), (2, .int x2), (3, .int x3), (4, .int x4), (5, .int x5)]) hx hb dX2_lend_4 hl (by decide) rfl (fun ls hl => ?_)
  refine lv_aload_n hx hb dX2_lend_6 rfl (lv_at hl 1 rfl) ?_
  refine va_get (D := X.1) (ci := 2) (v := .ref (h 5)) (C := RX2) (T := TX2) (N := 9) hx hb hts hiX2 hown hK.1 hP 0 rfl rfl 2 (by decide) k23 (fun _ h9 => h9) rfl dX2_lend_7 ?_
  obtain ⟨r_1, rG_2, hc_3, hf⟩ := bd2_of hf
  refine fn_V (v := some (.int r_1)) (As := []) (rest := []) (st1 := [.int r_1]) (ws' := (wHo X h rP fP rT fT rG_2 fG rL fL rH fH gi di re ti)) (nL := 8) ⟨hx, hb, hml, hown, hts⟩ (c_X3_addRow l X (h 5) (h 6) (40 : Int32) (6 : Int32) 240 rG fG r_1 rG_2 hc_3) (cwV 0 hts gX2_lend_X3_addRow rfl rfl rfl (by decide +kernel) ⟨Nat.le_of_ble_eq_true rfl, Nat.le_of_ble_eq_true rfl⟩) 3 rfl rfl rfl rfl hl.1 rfl (Nat.le_of_ble_eq_true rfl) dX2_lend_10 hK hP (hD0.addr rfl) hS hA [5, 6] rfl rfl rfl rfl ⟨Nat.zero_le _, Nat.zero_le _⟩ (fun H locs hP hD hS => ?_)
  refine lv_istore (lv' := [(7, .int r_1), (6, .int gi), (0, .ref (h 0)), (1, .int x1), (2, .int x2), (3, .int x3), (4, .int x4), (5, .int x5)]) hx hb dX2_lend_13 hl (by decide) rfl (fun ls hl => ?_)
  refine lv_aload_n hx hb dX2_lend_15 rfl (lv_at hl 2 rfl) ?_
  refine va_get (D := X.1) (ci := 2) (v := .ref (h 5)) (C := RX2) (T := TX2) (N := 9) hx hb hts hiX2 hown hK.1 hP 0 rfl rfl 2 (by decide) k23 (fun _ h9 => h9) rfl dX2_lend_16 ?_
  refine lv_iload hx hb dX2_lend_19 (lv_at hl 0 rfl) ?_
  refine lv_iconst (v := 0) hx hb dX2_lend_21 (by decide) ?_
  refine lv_iload_n hx hb dX2_lend_22 rfl (lv_at hl 3 rfl) ?_
  obtain ⟨fG_4, hc_5, hf⟩ := bd_of hf
  refine fn_V (v := none) (As := [.int r_1, .int (0 : Int32), .int x1]) (rest := []) (st1 := []) (ws' := (wHo X h rP fP rT fT rG_2 fG_4 rL fL rH fH gi di re ti)) (nL := 8) ⟨hx, hb, hml, hown, hts⟩ (c_X3_put l X (h 5) (h 6) (40 : Int32) (6 : Int32) 240 rG_2 fG r_1 (0 : Int32) x1 fG_4 hc_5) (cwV 3 hts gX2_lend_X3_put rfl rfl rfl (by decide +kernel) ⟨Nat.le_of_ble_eq_true rfl, Nat.le_of_ble_eq_true rfl⟩) 3 rfl rfl rfl rfl hl.1 rfl (Nat.le_of_ble_eq_true rfl) dX2_lend_23 hK hP (hD0.addr rfl) hS hA [5, 6] rfl rfl rfl rfl ⟨Nat.zero_le _, Nat.zero_le _⟩ (fun H locs hP hD hS => ?_)
  refine lv_aload_n hx hb dX2_lend_26 rfl (lv_at hl 2 rfl) ?_
  refine va_get (D := X.1) (ci := 2) (v := .ref (h 5)) (C := RX2) (T := TX2) (N := 9) hx hb hts hiX2 hown hK.1 hP 0 rfl rfl 2 (by decide) k23 (fun _ h9 => h9) rfl dX2_lend_27 ?_
  refine lv_iload hx hb dX2_lend_30 (lv_at hl 0 rfl) ?_
  refine lv_iconst (v := 1) hx hb dX2_lend_32 (by decide) ?_
  refine lv_iload_n hx hb dX2_lend_33 rfl (lv_at hl 4 rfl) ?_
  obtain ⟨fG_6, hc_7, hf⟩ := bd_of hf
  refine fn_V (v := none) (As := [.int r_1, .int (1 : Int32), .int x2]) (rest := []) (st1 := []) (ws' := (wHo X h rP fP rT fT rG_2 fG_6 rL fL rH fH gi di re ti)) (nL := 8) ⟨hx, hb, hml, hown, hts⟩ (c_X3_put l X (h 5) (h 6) (40 : Int32) (6 : Int32) 240 rG_2 fG_4 r_1 (1 : Int32) x2 fG_6 hc_7) (cwV 3 hts gX2_lend_X3_put rfl rfl rfl (by decide +kernel) ⟨Nat.le_of_ble_eq_true rfl, Nat.le_of_ble_eq_true rfl⟩) 3 rfl rfl rfl rfl hl.1 rfl (Nat.le_of_ble_eq_true rfl) dX2_lend_34 hK hP (hD0.addr rfl) hS hA [5, 6] rfl rfl rfl rfl ⟨Nat.zero_le _, Nat.zero_le _⟩ (fun H locs hP hD hS => ?_)
  refine lv_aload_n hx hb dX2_lend_37 rfl (lv_at hl 2 rfl) ?_
  refine va_get (D := X.1) (ci := 2) (v := .ref (h 5)) (C := RX2) (T := TX2) (N := 9) hx hb hts hiX2 hown hK.1 hP 0 rfl rfl 2 (by decide) k23 (fun _ h9 => h9) rfl dX2_lend_38 ?_
  refine lv_iload hx hb dX2_lend_41 (lv_at hl 0 rfl) ?_
  refine lv_iconst (v := 2) hx hb dX2_lend_43 (by decide) ?_
  refine lv_iload_n hx hb dX2_lend_44 rfl (lv_at hl 5 rfl) ?_
  obtain ⟨fG_8, hc_9, hf⟩ := bd_of hf
  refine fn_V (v := none) (As := [.int r_1, .int (2 : Int32), .int x3]) (rest := []) (st1 := []) (ws' := (wHo X h rP fP rT fT rG_2 fG_8 rL fL rH fH gi di re ti)) (nL := 8) ⟨hx, hb, hml, hown, hts⟩ (c_X3_put l X (h 5) (h 6) (40 : Int32) (6 : Int32) 240 rG_2 fG_6 r_1 (2 : Int32) x3 fG_8 hc_9) (cwV 3 hts gX2_lend_X3_put rfl rfl rfl (by decide +kernel) ⟨Nat.le_of_ble_eq_true rfl, Nat.le_of_ble_eq_true rfl⟩) 3 rfl rfl rfl rfl hl.1 rfl (Nat.le_of_ble_eq_true rfl) dX2_lend_45 hK hP (hD0.addr rfl) hS hA [5, 6] rfl rfl rfl rfl ⟨Nat.zero_le _, Nat.zero_le _⟩ (fun H locs hP hD hS => ?_)
  refine lv_aload_n hx hb dX2_lend_48 rfl (lv_at hl 2 rfl) ?_
  refine va_get (D := X.1) (ci := 2) (v := .ref (h 5)) (C := RX2) (T := TX2) (N := 9) hx hb hts hiX2 hown hK.1 hP 0 rfl rfl 2 (by decide) k23 (fun _ h9 => h9) rfl dX2_lend_49 ?_
  refine lv_iload hx hb dX2_lend_52 (lv_at hl 0 rfl) ?_
  refine lv_iconst (v := 3) hx hb dX2_lend_54 (by decide) ?_
  refine lv_iload hx hb dX2_lend_55 (lv_at hl 6 rfl) ?_
  obtain ⟨fG_10, hc_11, hf⟩ := bd_of hf
  refine fn_V (v := none) (As := [.int r_1, .int (3 : Int32), .int x4]) (rest := []) (st1 := []) (ws' := (wHo X h rP fP rT fT rG_2 fG_10 rL fL rH fH gi di re ti)) (nL := 8) ⟨hx, hb, hml, hown, hts⟩ (c_X3_put l X (h 5) (h 6) (40 : Int32) (6 : Int32) 240 rG_2 fG_8 r_1 (3 : Int32) x4 fG_10 hc_11) (cwV 3 hts gX2_lend_X3_put rfl rfl rfl (by decide +kernel) ⟨Nat.le_of_ble_eq_true rfl, Nat.le_of_ble_eq_true rfl⟩) 3 rfl rfl rfl rfl hl.1 rfl (Nat.le_of_ble_eq_true rfl) dX2_lend_57 hK hP (hD0.addr rfl) hS hA [5, 6] rfl rfl rfl rfl ⟨Nat.zero_le _, Nat.zero_le _⟩ (fun H locs hP hD hS => ?_)
  refine lv_aload_n hx hb dX2_lend_60 rfl (lv_at hl 2 rfl) ?_
  refine va_get (D := X.1) (ci := 2) (v := .ref (h 5)) (C := RX2) (T := TX2) (N := 9) hx hb hts hiX2 hown hK.1 hP 0 rfl rfl 2 (by decide) k23 (fun _ h9 => h9) rfl dX2_lend_61 ?_
  refine lv_iload hx hb dX2_lend_64 (lv_at hl 0 rfl) ?_
  refine lv_iconst (v := 4) hx hb dX2_lend_66 (by decide) ?_
  refine lv_iload hx hb dX2_lend_67 (lv_at hl 7 rfl) ?_
  obtain ⟨fG_12, hc_13, hf⟩ := bd_of hf
  refine fn_V (v := none) (As := [.int r_1, .int (4 : Int32), .int x5]) (rest := []) (st1 := []) (ws' := (wHo X h rP fP rT fT rG_2 fG_12 rL fL rH fH gi di re ti)) (nL := 8) ⟨hx, hb, hml, hown, hts⟩ (c_X3_put l X (h 5) (h 6) (40 : Int32) (6 : Int32) 240 rG_2 fG_10 r_1 (4 : Int32) x5 fG_12 hc_13) (cwV 3 hts gX2_lend_X3_put rfl rfl rfl (by decide +kernel) ⟨Nat.le_of_ble_eq_true rfl, Nat.le_of_ble_eq_true rfl⟩) 3 rfl rfl rfl rfl hl.1 rfl (Nat.le_of_ble_eq_true rfl) dX2_lend_69 hK hP (hD0.addr rfl) hS hA [5, 6] rfl rfl rfl rfl ⟨Nat.zero_le _, Nat.zero_le _⟩ (fun H locs hP hD hS => ?_)
  refine lv_aload_n hx hb dX2_lend_72 rfl (lv_at hl 2 rfl) ?_
  refine va_get (D := X.1) (ci := 2) (v := .ref (h 5)) (C := RX2) (T := TX2) (N := 9) hx hb hts hiX2 hown hK.1 hP 0 rfl rfl 2 (by decide) k23 (fun _ h9 => h9) rfl dX2_lend_73 ?_
  refine lv_iload hx hb dX2_lend_76 (lv_at hl 0 rfl) ?_
  refine lv_iconst (v := 5) hx hb dX2_lend_78 (by decide) ?_
  refine lv_iload hx hb dX2_lend_79 (lv_at hl 1 rfl) ?_
  obtain ⟨fG_14, hc_15, hf⟩ := bd_of hf
  refine fn_V (v := none) (As := [.int r_1, .int (5 : Int32), .int gi]) (rest := []) (st1 := []) (ws' := (wHo X h rP fP rT fT rG_2 fG_14 rL fL rH fH gi di re ti)) (nL := 8) ⟨hx, hb, hml, hown, hts⟩ (c_X3_put l X (h 5) (h 6) (40 : Int32) (6 : Int32) 240 rG_2 fG_12 r_1 (5 : Int32) gi fG_14 hc_15) (cwV 3 hts gX2_lend_X3_put rfl rfl rfl (by decide +kernel) ⟨Nat.le_of_ble_eq_true rfl, Nat.le_of_ble_eq_true rfl⟩) 3 rfl rfl rfl rfl hl.1 rfl (Nat.le_of_ble_eq_true rfl) dX2_lend_81 hK hP (hD0.addr rfl) hS hA [5, 6] rfl rfl rfl rfl ⟨Nat.zero_le _, Nat.zero_le _⟩ (fun H locs hP hD hS => ?_)
  refine lv_aload_n hx hb dX2_lend_84 rfl (lv_at hl 2 rfl) ?_
  refine lv_dup hx hb dX2_lend_85 rfl ?_
  refine va_get (D := X.1) (ci := 2) (v := .int gi) (C := RX2) (T := TX2) (N := 9) hx hb hts hiX2 hown hK.1 hP 0 rfl rfl 5 (by decide) k44 (fun _ h9 => h9) rfl dX2_lend_86 ?_
  refine lv_iconst (v := 1) hx hb dX2_lend_89 (by decide) ?_
  refine lv_iadd hx hb dX2_lend_90 ?_
  refine lv_topi (fun v_16 ev_16 => ?_)
  replace hf := nm_of ev_16 hf
  refine va_put (D := X.1) (ci := 2) (v := .int v_16) (ty := .int) (C := RX2) (T := TX2) (N := 9) hx hb hts hiX2 tyX2 tyX2_ok nmX2 hown hK.1 hP (hD0.addr rfl) hS 0 rfl rfl 5 (by decide) k44 (fun _ h9 => h9) rfl (by decide +kernel) rfl rfl (Nat.le_of_ble_eq_true rfl) dX2_lend_91 (fun H locs hP hD hS => ?_)
  have hP : va_P X.1 vwCl (wHo X h rP fP rT fT rG_2 fG_14 rL fL rH fH v_16 di re ti) H := hP
  refine lv_aload_n hx hb dX2_lend_94 rfl (lv_at hl 2 rfl) ?_
  obtain ⟨fH_17, hc_18, hf⟩ := bd_of hf
  refine fn_V (v := none) (As := []) (rest := []) (st1 := []) (ws' := (wHo X h rP fP rT fT rG_2 fG_14 rL fL rH fH_17 v_16 di re ti)) (nL := 8) ⟨hx, hb, hml, hown, hts⟩ (c_X2_settle l X h rP fP rT fT rG_2 fG_14 rL fL rH fH v_16 di re ti fH_17 hc_18) (cwV 0 hts gX2_lend_X2_settle rfl rfl rfl (by decide +kernel) ⟨Nat.le_of_ble_eq_true rfl, Nat.le_of_ble_eq_true rfl⟩) 2 rfl rfl rfl rfl hl.1 rfl (Nat.le_of_ble_eq_true rfl) dX2_lend_95 hK hP (hD0.addr rfl) hS hA [0, 1, 2, 3, 4, 5, 6, 7, 8, 9, 10] rfl rfl rfl rfl ⟨Nat.zero_le _, Nat.zero_le _⟩ (fun H locs hP hD hS => ?_)
  refine lv_iload hx hb dX2_lend_98 (lv_at hl 1 rfl) ?_
  cases hf
  exact fn_iret hx hb hr hlocks hP hS dX2_lend_100

def f_X2_hasTimeFor (x1 : Int32) (ti : Int32) : Option (Int32) :=
  if (100000 : Int32) < ti + x1 then
  (some (0 : Int32))
  else
  (some (1 : Int32))
theorem z_X2_hasTimeFor {x1 : Int32} {ti : Int32} {r : Int32} (hf : f_X2_hasTimeFor x1 ti = some r) : r = 0 ∨ r = 1 := by
  unfold f_X2_hasTimeFor at hf
  by_cases c_1 : (100000 : Int32) < ti + x1
  · replace hf := fp_t c_1 hf
    cases hf
    exact Or.inl rfl
  · replace hf := fp_f c_1 hf
    cases hf
    exact Or.inr rfl
set_option maxHeartbeats 4000000 in
set_option maxRecDepth 100000 in
theorem c_X2_hasTimeFor (l : Launch) (X : cx_G) (h : (Nat → Nat)) (rP : Int32) (fP : (Nat → Int32)) (rT : Int32) (fT : (Nat → Int32)) (rG : Int32) (fG : (Nat → Int32)) (rL : Int32) (fL : (Nat → Int32)) (rH : Int32) (fH : (Nat → Int32)) (gi : Int32) (di : Int32) (re : Int32) (ti : Int32) (x1 : Int32) (r : Int32) (hf : f_X2_hasTimeFor x1 ti = some r) : Fn l yX2_hasTimeFor wsX2_hasTimeFor ({ frames := 0, cells := 0, slots := 0, locals := 0 } : Room) X [.ref (h 0), .int x1] (wHo X h rP fP rT fT rG fG rL fL rH fH gi di re ti) (some (.int r)) (wHo X h rP fP rT fT rG fG rL fL rH fH gi di re ti) := by
  refine fn_intro (cc := cX2_hasTimeFor) (maxL := 2) (ret := (some .boolean)) (by decide) rfl rfl (Nat.le_of_ble_eq_true rfl) ?_
  intro p e s m args below meth c A ls hx hb hml hr hts hown hlocks hK hP hD0 hS hA hl
  have hown : s.vm.findClass RX2 = some m.cls := hown
  have hl : lv_has ls 2 [(0, .ref (h 0)), (1, .int x1)] := hl
  have hiX2 : ∀ w ∈ u_ws RX2 TX2 9, w ∈ wsX2_hasTimeFor := by decide +kernel
  have k54 := hts (.fieldLink RX2 54 "LentRights$House" "time" "I") (by decide +kernel)
  unfold f_X2_hasTimeFor at hf
  refine lv_aload_n hx hb dX2_hasTimeFor_0 rfl (lv_at hl 0 rfl) ?_
  refine va_get (D := X.1) (ci := 2) (v := .int ti) (C := RX2) (T := TX2) (N := 9) hx hb hts hiX2 hown hK.1 hP 0 rfl rfl 8 (by decide) k54 (fun _ h9 => h9) rfl dX2_hasTimeFor_1 ?_
  refine lv_iload_n hx hb dX2_hasTimeFor_4 rfl (lv_at hl 1 rfl) ?_
  refine lv_iadd hx hb dX2_hasTimeFor_5 ?_
  refine lv_ldc hx hb hown (hts (.constant RX2 100 (100000)) (by decide +kernel)) dX2_hasTimeFor_6 ?_
  refine lv_icmp_gt (tgt := 15) hx hb dX2_hasTimeFor_8 (by decide) (fun c_1 => ?_) (fun c_1 => ?_)
  · replace hf := fp_t c_1 hf
    refine lv_iconst (v := 0) hx hb dX2_hasTimeFor_15 (by decide) ?_
    cases hf
    exact fn_zret hx hb hr rfl hlocks hP hS dX2_hasTimeFor_16
  · replace hf := fp_f c_1 hf
    refine lv_iconst (v := 1) hx hb dX2_hasTimeFor_11 (by decide) ?_
    refine lv_goto (tgt := 16) hx hb dX2_hasTimeFor_12 (by decide) ?_
    cases hf
    exact fn_zret hx hb hr rfl hlocks hP hS dX2_hasTimeFor_16

def f_X2_calm (x1 : Int32) (rP : Int32) (fP : (Nat → Int32)) : Option ((Nat → Int32)) :=
  bd (f_X3_at (2 : Int32) 20 x1 (0 : Int32) rP fP) (fun r_1 =>
  bd (f_X3_at (2 : Int32) 20 x1 (1 : Int32) rP fP) (fun r_3 =>
  if r_1 = r_3 then
  (some fP)
  else
  (if r_3 ≤ r_1 then
  (bd (f_X3_put (2 : Int32) 20 x1 (0 : Int32) (r_1 - (1 : Int32)) rP fP) (fun fP_7 =>
  some fP_7))
  else
  (bd (f_X3_put (2 : Int32) 20 x1 (0 : Int32) (r_1 + (1 : Int32)) rP fP) (fun fP_9 =>
  some fP_9)))))
set_option maxHeartbeats 4000000 in
set_option maxRecDepth 100000 in
theorem c_X2_calm (l : Launch) (X : cx_G) (h : (Nat → Nat)) (rP : Int32) (fP : (Nat → Int32)) (rT : Int32) (fT : (Nat → Int32)) (rG : Int32) (fG : (Nat → Int32)) (rL : Int32) (fL : (Nat → Int32)) (rH : Int32) (fH : (Nat → Int32)) (gi : Int32) (di : Int32) (re : Int32) (ti : Int32) (x1 : Int32) (fP' : (Nat → Int32)) (hf : f_X2_calm x1 rP fP = some fP') : Fn l yX2_calm wsX2_calm ({ frames := 1, cells := 0, slots := 0, locals := 25 } : Room) X [.ref (h 0), .int x1] (wHo X h rP fP rT fT rG fG rL fL rH fH gi di re ti) none (wHo X h rP fP' rT fT rG fG rL fL rH fH gi di re ti) := by
  refine fn_intro (cc := cX2_calm) (maxL := 4) (ret := none) (by decide) rfl rfl (Nat.le_of_ble_eq_true rfl) ?_
  intro p e s m args below meth c A ls hx hb hml hr hts hown hlocks hK hP hD0 hS hA hl
  have hown : s.vm.findClass RX2 = some m.cls := hown
  have hl : lv_has ls 4 [(0, .ref (h 0)), (1, .int x1)] := hl
  have hiX2 : ∀ w ∈ u_ws RX2 TX2 9, w ∈ wsX2_calm := by decide +kernel
  have k14 := hts (.fieldLink RX2 14 "LentRights$House" "persons" "LLentRights$Table;") (by decide +kernel)
  unfold f_X2_calm at hf
  refine lv_aload_n hx hb dX2_calm_0 rfl (lv_at hl 0 rfl) ?_
  refine va_get (D := X.1) (ci := 2) (v := .ref (h 1)) (C := RX2) (T := TX2) (N := 9) hx hb hts hiX2 hown hK.1 hP 0 rfl rfl 0 (by decide) k14 (fun _ h9 => h9) rfl dX2_calm_1 ?_
  refine lv_iload_n hx hb dX2_calm_4 rfl (lv_at hl 1 rfl) ?_
  refine lv_iconst (v := 0) hx hb dX2_calm_5 (by decide) ?_
  obtain ⟨r_1, hc_2, hf⟩ := bd_of hf
  refine fn_V (v := some (.int r_1)) (As := [.int x1, .int (0 : Int32)]) (rest := []) (st1 := [.int r_1]) (ws' := (wHo X h rP fP rT fT rG fG rL fL rH fH gi di re ti)) (nL := 4) ⟨hx, hb, hml, hown, hts⟩ (c_X3_at l X (h 1) (h 2) (10 : Int32) (2 : Int32) 20 rP fP x1 (0 : Int32) r_1 hc_2) (cwV 2 hts gX2_calm_X3_at rfl rfl rfl (by decide +kernel) ⟨Nat.le_of_ble_eq_true rfl, Nat.le_of_ble_eq_true rfl⟩) 3 rfl rfl rfl rfl hl.1 rfl (Nat.le_of_ble_eq_true rfl) dX2_calm_6 hK hP (hD0.addr rfl) hS hA [1, 2] rfl rfl rfl rfl ⟨Nat.zero_le _, Nat.zero_le _⟩ (fun H locs hP hD hS => ?_)
  refine lv_istore_n (lv' := [(2, .int r_1), (0, .ref (h 0)), (1, .int x1)]) hx hb dX2_calm_9 rfl hl (by decide) rfl (fun ls hl => ?_)
  refine lv_aload_n hx hb dX2_calm_10 rfl (lv_at hl 1 rfl) ?_
  refine va_get (D := X.1) (ci := 2) (v := .ref (h 1)) (C := RX2) (T := TX2) (N := 9) hx hb hts hiX2 hown hK.1 hP 0 rfl rfl 0 (by decide) k14 (fun _ h9 => h9) rfl dX2_calm_11 ?_
  refine lv_iload_n hx hb dX2_calm_14 rfl (lv_at hl 2 rfl) ?_
  refine lv_iconst (v := 1) hx hb dX2_calm_15 (by decide) ?_
  obtain ⟨r_3, hc_4, hf⟩ := bd_of hf
  refine fn_V (v := some (.int r_3)) (As := [.int x1, .int (1 : Int32)]) (rest := []) (st1 := [.int r_3]) (ws' := (wHo X h rP fP rT fT rG fG rL fL rH fH gi di re ti)) (nL := 4) ⟨hx, hb, hml, hown, hts⟩ (c_X3_at l X (h 1) (h 2) (10 : Int32) (2 : Int32) 20 rP fP x1 (1 : Int32) r_3 hc_4) (cwV 2 hts gX2_calm_X3_at rfl rfl rfl (by decide +kernel) ⟨Nat.le_of_ble_eq_true rfl, Nat.le_of_ble_eq_true rfl⟩) 3 rfl rfl rfl rfl hl.1 rfl (Nat.le_of_ble_eq_true rfl) dX2_calm_16 hK hP (hD0.addr rfl) hS hA [1, 2] rfl rfl rfl rfl ⟨Nat.zero_le _, Nat.zero_le _⟩ (fun H locs hP hD hS => ?_)
  refine lv_istore_n (lv' := [(3, .int r_3), (2, .int r_1), (0, .ref (h 0)), (1, .int x1)]) hx hb dX2_calm_19 rfl hl (by decide) rfl (fun ls hl => ?_)
  refine lv_iload_n hx hb dX2_calm_20 rfl (lv_at hl 1 rfl) ?_
  refine lv_iload_n hx hb dX2_calm_21 rfl (lv_at hl 0 rfl) ?_
  refine lv_icmp_eq (tgt := 48) hx hb dX2_calm_22 (by decide) (fun c_5 => ?_) (fun c_5 => ?_)
  · replace hf := fp_t c_5 hf
    cases hf
    exact fn_vret hx hb hr hlocks hP hS dX2_calm_48
  · replace hf := fp_f c_5 hf
    refine lv_aload_n hx hb dX2_calm_25 rfl (lv_at hl 2 rfl) ?_
    refine va_get (D := X.1) (ci := 2) (v := .ref (h 1)) (C := RX2) (T := TX2) (N := 9) hx hb hts hiX2 hown hK.1 hP 0 rfl rfl 0 (by decide) k14 (fun _ h9 => h9) rfl dX2_calm_26 ?_
    refine lv_iload_n hx hb dX2_calm_29 rfl (lv_at hl 3 rfl) ?_
    refine lv_iconst (v := 0) hx hb dX2_calm_30 (by decide) ?_
    refine lv_iload_n hx hb dX2_calm_31 rfl (lv_at hl 1 rfl) ?_
    refine lv_iload_n hx hb dX2_calm_32 rfl (lv_at hl 0 rfl) ?_
    refine lv_icmp_ge (tgt := 42) hx hb dX2_calm_33 (by decide) (fun c_6 => ?_) (fun c_6 => ?_)
    · replace hf := fp_t c_6 hf
      refine lv_iload_n hx hb dX2_calm_42 rfl (lv_at hl 1 rfl) ?_
      refine lv_iconst (v := 1) hx hb dX2_calm_43 (by decide) ?_
      refine lv_isub hx hb dX2_calm_44 ?_
      obtain ⟨fP_7, hc_8, hf⟩ := bd_of hf
      refine fn_V (v := none) (As := [.int x1, .int (0 : Int32), .int (r_1 - (1 : Int32))]) (rest := []) (st1 := []) (ws' := (wHo X h rP fP_7 rT fT rG fG rL fL rH fH gi di re ti)) (nL := 4) ⟨hx, hb, hml, hown, hts⟩ (c_X3_put l X (h 1) (h 2) (10 : Int32) (2 : Int32) 20 rP fP x1 (0 : Int32) (r_1 - (1 : Int32)) fP_7 hc_8) (cwV 3 hts gX2_calm_X3_put rfl rfl rfl (by decide +kernel) ⟨Nat.le_of_ble_eq_true rfl, Nat.le_of_ble_eq_true rfl⟩) 3 rfl rfl rfl rfl hl.1 rfl (Nat.le_of_ble_eq_true rfl) dX2_calm_45 hK hP (hD0.addr rfl) hS hA [1, 2] rfl rfl rfl rfl ⟨Nat.zero_le _, Nat.zero_le _⟩ (fun H locs hP hD hS => ?_)
      cases hf
      exact fn_vret hx hb hr hlocks hP hS dX2_calm_48
    · replace hf := fp_f c_6 hf
      refine lv_iload_n hx hb dX2_calm_36 rfl (lv_at hl 1 rfl) ?_
      refine lv_iconst (v := 1) hx hb dX2_calm_37 (by decide) ?_
      refine lv_iadd hx hb dX2_calm_38 ?_
      refine lv_goto (tgt := 45) hx hb dX2_calm_39 (by decide) ?_
      obtain ⟨fP_9, hc_10, hf⟩ := bd_of hf
      refine fn_V (v := none) (As := [.int x1, .int (0 : Int32), .int (r_1 + (1 : Int32))]) (rest := []) (st1 := []) (ws' := (wHo X h rP fP_9 rT fT rG fG rL fL rH fH gi di re ti)) (nL := 4) ⟨hx, hb, hml, hown, hts⟩ (c_X3_put l X (h 1) (h 2) (10 : Int32) (2 : Int32) 20 rP fP x1 (0 : Int32) (r_1 + (1 : Int32)) fP_9 hc_10) (cwV 3 hts gX2_calm_X3_put rfl rfl rfl (by decide +kernel) ⟨Nat.le_of_ble_eq_true rfl, Nat.le_of_ble_eq_true rfl⟩) 3 rfl rfl rfl rfl hl.1 rfl (Nat.le_of_ble_eq_true rfl) dX2_calm_45 hK hP (hD0.addr rfl) hS hA [1, 2] rfl rfl rfl rfl ⟨Nat.zero_le _, Nat.zero_le _⟩ (fun H locs hP hD hS => ?_)
      cases hf
      exact fn_vret hx hb hr hlocks hP hS dX2_calm_48

def f_X2_isDying (x1 : Int32) (rP : Int32) (fP : (Nat → Int32)) (rG : Int32) (fG : (Nat → Int32)) : Option (Int32) :=
  bd (f_X3_at (6 : Int32) 240 x1 (0 : Int32) rG fG) (fun r_1 =>
  bd (f_X3_at (2 : Int32) 20 r_1 (0 : Int32) rP fP) (fun r_3 =>
  bd (f_X3_at (6 : Int32) 240 x1 (4 : Int32) rG fG) (fun r_5 =>
  if r_5 ≤ r_3 then
  (some (0 : Int32))
  else
  (some (1 : Int32)))))
theorem z_X2_isDying {x1 : Int32} {rP : Int32} {fP : (Nat → Int32)} {rG : Int32} {fG : (Nat → Int32)} {r : Int32} (hf : f_X2_isDying x1 rP fP rG fG = some r) : r = 0 ∨ r = 1 := by
  unfold f_X2_isDying at hf
  obtain ⟨r_1, hc_2, hf⟩ := bd_of hf
  obtain ⟨r_3, hc_4, hf⟩ := bd_of hf
  obtain ⟨r_5, hc_6, hf⟩ := bd_of hf
  by_cases c_7 : r_5 ≤ r_3
  · replace hf := fp_t c_7 hf
    cases hf
    exact Or.inl rfl
  · replace hf := fp_f c_7 hf
    cases hf
    exact Or.inr rfl
set_option maxHeartbeats 4000000 in
set_option maxRecDepth 100000 in
theorem c_X2_isDying (l : Launch) (X : cx_G) (h : (Nat → Nat)) (rP : Int32) (fP : (Nat → Int32)) (rT : Int32) (fT : (Nat → Int32)) (rG : Int32) (fG : (Nat → Int32)) (rL : Int32) (fL : (Nat → Int32)) (rH : Int32) (fH : (Nat → Int32)) (gi : Int32) (di : Int32) (re : Int32) (ti : Int32) (x1 : Int32) (r : Int32) (hf : f_X2_isDying x1 rP fP rG fG = some r) : Fn l yX2_isDying wsX2_isDying ({ frames := 1, cells := 0, slots := 0, locals := 24 } : Room) X [.ref (h 0), .int x1] (wHo X h rP fP rT fT rG fG rL fL rH fH gi di re ti) (some (.int r)) (wHo X h rP fP rT fT rG fG rL fL rH fH gi di re ti) := by
  refine fn_intro (cc := cX2_isDying) (maxL := 2) (ret := (some .boolean)) (by decide) rfl rfl (Nat.le_of_ble_eq_true rfl) ?_
  intro p e s m args below meth c A ls hx hb hml hr hts hown hlocks hK hP hD0 hS hA hl
  have hown : s.vm.findClass RX2 = some m.cls := hown
  have hl : lv_has ls 2 [(0, .ref (h 0)), (1, .int x1)] := hl
  have hiX2 : ∀ w ∈ u_ws RX2 TX2 9, w ∈ wsX2_isDying := by decide +kernel
  have k14 := hts (.fieldLink RX2 14 "LentRights$House" "persons" "LLentRights$Table;") (by decide +kernel)
  have k23 := hts (.fieldLink RX2 23 "LentRights$House" "grants" "LLentRights$Table;") (by decide +kernel)
  unfold f_X2_isDying at hf
  refine lv_aload_n hx hb dX2_isDying_0 rfl (lv_at hl 0 rfl) ?_
  refine va_get (D := X.1) (ci := 2) (v := .ref (h 1)) (C := RX2) (T := TX2) (N := 9) hx hb hts hiX2 hown hK.1 hP 0 rfl rfl 0 (by decide) k14 (fun _ h9 => h9) rfl dX2_isDying_1 ?_
  refine lv_aload_n hx hb dX2_isDying_4 rfl (lv_at hl 0 rfl) ?_
  refine va_get (D := X.1) (ci := 2) (v := .ref (h 5)) (C := RX2) (T := TX2) (N := 9) hx hb hts hiX2 hown hK.1 hP 0 rfl rfl 2 (by decide) k23 (fun _ h9 => h9) rfl dX2_isDying_5 ?_
  refine lv_iload_n hx hb dX2_isDying_8 rfl (lv_at hl 1 rfl) ?_
  refine lv_iconst (v := 0) hx hb dX2_isDying_9 (by decide) ?_
  obtain ⟨r_1, hc_2, hf⟩ := bd_of hf
  refine fn_V (v := some (.int r_1)) (As := [.int x1, .int (0 : Int32)]) (rest := [.ref (h 1)]) (st1 := [.int r_1, .ref (h 1)]) (ws' := (wHo X h rP fP rT fT rG fG rL fL rH fH gi di re ti)) (nL := 2) ⟨hx, hb, hml, hown, hts⟩ (c_X3_at l X (h 5) (h 6) (40 : Int32) (6 : Int32) 240 rG fG x1 (0 : Int32) r_1 hc_2) (cwV 2 hts gX2_isDying_X3_at rfl rfl rfl (by decide +kernel) ⟨Nat.le_of_ble_eq_true rfl, Nat.le_of_ble_eq_true rfl⟩) 3 rfl rfl rfl rfl hl.1 rfl (Nat.le_of_ble_eq_true rfl) dX2_isDying_10 hK hP (hD0.addr rfl) hS hA [5, 6] rfl rfl rfl rfl ⟨Nat.zero_le _, Nat.zero_le _⟩ (fun H locs hP hD hS => ?_)
  refine lv_iconst (v := 0) hx hb dX2_isDying_13 (by decide) ?_
  obtain ⟨r_3, hc_4, hf⟩ := bd_of hf
  refine fn_V (v := some (.int r_3)) (As := [.int r_1, .int (0 : Int32)]) (rest := []) (st1 := [.int r_3]) (ws' := (wHo X h rP fP rT fT rG fG rL fL rH fH gi di re ti)) (nL := 2) ⟨hx, hb, hml, hown, hts⟩ (c_X3_at l X (h 1) (h 2) (10 : Int32) (2 : Int32) 20 rP fP r_1 (0 : Int32) r_3 hc_4) (cwV 2 hts gX2_isDying_X3_at rfl rfl rfl (by decide +kernel) ⟨Nat.le_of_ble_eq_true rfl, Nat.le_of_ble_eq_true rfl⟩) 3 rfl rfl rfl rfl hl.1 rfl (Nat.le_of_ble_eq_true rfl) dX2_isDying_14 hK hP (hD0.addr rfl) hS hA [1, 2] rfl rfl rfl rfl ⟨Nat.zero_le _, Nat.zero_le _⟩ (fun H locs hP hD hS => ?_)
  refine lv_aload_n hx hb dX2_isDying_17 rfl (lv_at hl 0 rfl) ?_
  refine va_get (D := X.1) (ci := 2) (v := .ref (h 5)) (C := RX2) (T := TX2) (N := 9) hx hb hts hiX2 hown hK.1 hP 0 rfl rfl 2 (by decide) k23 (fun _ h9 => h9) rfl dX2_isDying_18 ?_
  refine lv_iload_n hx hb dX2_isDying_21 rfl (lv_at hl 1 rfl) ?_
  refine lv_iconst (v := 4) hx hb dX2_isDying_22 (by decide) ?_
  obtain ⟨r_5, hc_6, hf⟩ := bd_of hf
  refine fn_V (v := some (.int r_5)) (As := [.int x1, .int (4 : Int32)]) (rest := [.int r_3]) (st1 := [.int r_5, .int r_3]) (ws' := (wHo X h rP fP rT fT rG fG rL fL rH fH gi di re ti)) (nL := 2) ⟨hx, hb, hml, hown, hts⟩ (c_X3_at l X (h 5) (h 6) (40 : Int32) (6 : Int32) 240 rG fG x1 (4 : Int32) r_5 hc_6) (cwV 2 hts gX2_isDying_X3_at rfl rfl rfl (by decide +kernel) ⟨Nat.le_of_ble_eq_true rfl, Nat.le_of_ble_eq_true rfl⟩) 3 rfl rfl rfl rfl hl.1 rfl (Nat.le_of_ble_eq_true rfl) dX2_isDying_23 hK hP (hD0.addr rfl) hS hA [5, 6] rfl rfl rfl rfl ⟨Nat.zero_le _, Nat.zero_le _⟩ (fun H locs hP hD hS => ?_)
  refine lv_icmp_ge (tgt := 33) hx hb dX2_isDying_26 (by decide) (fun c_7 => ?_) (fun c_7 => ?_)
  · replace hf := fp_t c_7 hf
    refine lv_iconst (v := 0) hx hb dX2_isDying_33 (by decide) ?_
    cases hf
    exact fn_zret hx hb hr rfl hlocks hP hS dX2_isDying_34
  · replace hf := fp_f c_7 hf
    refine lv_iconst (v := 1) hx hb dX2_isDying_29 (by decide) ?_
    refine lv_goto (tgt := 34) hx hb dX2_isDying_30 (by decide) ?_
    cases hf
    exact fn_zret hx hb hr rfl hlocks hP hS dX2_isDying_34

def f_X2_enter (x1 : Int32) (rG : Int32) (fG : (Nat → Int32)) (rL : Int32) (fL : (Nat → Int32)) (ti : Int32) : Option (Int32 × (Nat → Int32)) :=
  bd (f_X3_isFull (12 : Int32) rL) (fun r_1 =>
  if r_1 = (0 : Int32) then
  (bd2 (f_X3_addRow (12 : Int32) rL) (fun r_4 rL_5 =>
  bd (f_X3_at (6 : Int32) 240 x1 (5 : Int32) rG fG) (fun r_7 =>
  bd (f_X3_put (3 : Int32) 36 r_4 (0 : Int32) r_7 rL_5 fL) (fun fL_9 =>
  bd (f_X3_put (3 : Int32) 36 r_4 (1 : Int32) ti rL_5 fL_9) (fun fL_11 =>
  bd (f_X3_at (6 : Int32) 240 x1 (0 : Int32) rG fG) (fun r_13 =>
  bd (f_X3_put (3 : Int32) 36 r_4 (2 : Int32) r_13 rL_5 fL_11) (fun fL_15 =>
  some (rL_5, fL_15))))))))
  else
  (bd2 (f_X3_drop (3 : Int32) 36 (0 : Int32) rL fL) (fun rL_17 fL_18 =>
  bd2 (f_X3_addRow (12 : Int32) rL_17) (fun r_20 rL_21 =>
  bd (f_X3_at (6 : Int32) 240 x1 (5 : Int32) rG fG) (fun r_23 =>
  bd (f_X3_put (3 : Int32) 36 r_20 (0 : Int32) r_23 rL_21 fL_18) (fun fL_25 =>
  bd (f_X3_put (3 : Int32) 36 r_20 (1 : Int32) ti rL_21 fL_25) (fun fL_27 =>
  bd (f_X3_at (6 : Int32) 240 x1 (0 : Int32) rG fG) (fun r_29 =>
  bd (f_X3_put (3 : Int32) 36 r_20 (2 : Int32) r_29 rL_21 fL_27) (fun fL_31 =>
  some (rL_21, fL_31))))))))))
set_option maxHeartbeats 4000000 in
set_option maxRecDepth 100000 in
theorem c_X2_enter (l : Launch) (X : cx_G) (h : (Nat → Nat)) (rP : Int32) (fP : (Nat → Int32)) (rT : Int32) (fT : (Nat → Int32)) (rG : Int32) (fG : (Nat → Int32)) (rL : Int32) (fL : (Nat → Int32)) (rH : Int32) (fH : (Nat → Int32)) (gi : Int32) (di : Int32) (re : Int32) (ti : Int32) (x1 : Int32) (rL' : Int32) (fL' : (Nat → Int32)) (hf : f_X2_enter x1 rG fG rL fL ti = some (rL', fL')) : Fn l yX2_enter wsX2_enter ({ frames := 1, cells := 0, slots := 0, locals := 25 } : Room) X [.ref (h 0), .int x1] (wHo X h rP fP rT fT rG fG rL fL rH fH gi di re ti) none (wHo X h rP fP rT fT rG fG rL' fL' rH fH gi di re ti) := by
  refine fn_intro (cc := cX2_enter) (maxL := 3) (ret := none) (by decide) rfl rfl (Nat.le_of_ble_eq_true rfl) ?_
  intro p e s m args below meth c A ls hx hb hml hr hts hown hlocks hK hP hD0 hS hA hl
  have hown : s.vm.findClass RX2 = some m.cls := hown
  have hl : lv_has ls 3 [(0, .ref (h 0)), (1, .int x1)] := hl
  have hiX2 : ∀ w ∈ u_ws RX2 TX2 9, w ∈ wsX2_enter := by decide +kernel
  have k23 := hts (.fieldLink RX2 23 "LentRights$House" "grants" "LLentRights$Table;") (by decide +kernel)
  have k26 := hts (.fieldLink RX2 26 "LentRights$House" "log" "LLentRights$Table;") (by decide +kernel)
  have k54 := hts (.fieldLink RX2 54 "LentRights$House" "time" "I") (by decide +kernel)
  unfold f_X2_enter at hf
  refine lv_aload_n hx hb dX2_enter_0 rfl (lv_at hl 0 rfl) ?_
  refine va_get (D := X.1) (ci := 2) (v := .ref (h 7)) (C := RX2) (T := TX2) (N := 9) hx hb hts hiX2 hown hK.1 hP 0 rfl rfl 3 (by decide) k26 (fun _ h9 => h9) rfl dX2_enter_1 ?_
  obtain ⟨r_1, hc_2, hf⟩ := bd_of hf
  refine fn_V (v := some (.int r_1)) (As := []) (rest := []) (st1 := [.int r_1]) (ws' := (wHo X h rP fP rT fT rG fG rL fL rH fH gi di re ti)) (nL := 3) ⟨hx, hb, hml, hown, hts⟩ (c_X3_isFull l X (h 7) (h 8) (12 : Int32) (3 : Int32) 36 rL fL r_1 hc_2) (cwV 0 hts gX2_enter_X3_isFull rfl rfl rfl (by decide +kernel) ⟨Nat.le_of_ble_eq_true rfl, Nat.le_of_ble_eq_true rfl⟩) 3 rfl rfl rfl rfl hl.1 rfl (Nat.le_of_ble_eq_true rfl) dX2_enter_4 hK hP (hD0.addr rfl) hS hA [7, 8] rfl rfl rfl rfl ⟨Nat.zero_le _, Nat.zero_le _⟩ (fun H locs hP hD hS => ?_)
  refine lv_if_eq (tgt := 18) hx hb dX2_enter_7 (by decide) (fun c_3 => ?_) (fun c_3 => ?_)
  · replace hf := fp_t c_3 hf
    refine lv_aload_n hx hb dX2_enter_18 rfl (lv_at hl 0 rfl) ?_
    refine va_get (D := X.1) (ci := 2) (v := .ref (h 7)) (C := RX2) (T := TX2) (N := 9) hx hb hts hiX2 hown hK.1 hP 0 rfl rfl 3 (by decide) k26 (fun _ h9 => h9) rfl dX2_enter_19 ?_
    obtain ⟨r_4, rL_5, hc_6, hf⟩ := bd2_of hf
    refine fn_V (v := some (.int r_4)) (As := []) (rest := []) (st1 := [.int r_4]) (ws' := (wHo X h rP fP rT fT rG fG rL_5 fL rH fH gi di re ti)) (nL := 3) ⟨hx, hb, hml, hown, hts⟩ (c_X3_addRow l X (h 7) (h 8) (12 : Int32) (3 : Int32) 36 rL fL r_4 rL_5 hc_6) (cwV 0 hts gX2_enter_X3_addRow rfl rfl rfl (by decide +kernel) ⟨Nat.le_of_ble_eq_true rfl, Nat.le_of_ble_eq_true rfl⟩) 3 rfl rfl rfl rfl hl.1 rfl (Nat.le_of_ble_eq_true rfl) dX2_enter_22 hK hP (hD0.addr rfl) hS hA [7, 8] rfl rfl rfl rfl ⟨Nat.zero_le _, Nat.zero_le _⟩ (fun H locs hP hD hS => ?_)
    refine lv_istore_n (lv' := [(2, .int r_4), (0, .ref (h 0)), (1, .int x1)]) hx hb dX2_enter_25 rfl hl (by decide) rfl (fun ls hl => ?_)
    refine lv_aload_n hx hb dX2_enter_26 rfl (lv_at hl 1 rfl) ?_
    refine va_get (D := X.1) (ci := 2) (v := .ref (h 7)) (C := RX2) (T := TX2) (N := 9) hx hb hts hiX2 hown hK.1 hP 0 rfl rfl 3 (by decide) k26 (fun _ h9 => h9) rfl dX2_enter_27 ?_
    refine lv_iload_n hx hb dX2_enter_30 rfl (lv_at hl 0 rfl) ?_
    refine lv_iconst (v := 0) hx hb dX2_enter_31 (by decide) ?_
    refine lv_aload_n hx hb dX2_enter_32 rfl (lv_at hl 1 rfl) ?_
    refine va_get (D := X.1) (ci := 2) (v := .ref (h 5)) (C := RX2) (T := TX2) (N := 9) hx hb hts hiX2 hown hK.1 hP 0 rfl rfl 2 (by decide) k23 (fun _ h9 => h9) rfl dX2_enter_33 ?_
    refine lv_iload_n hx hb dX2_enter_36 rfl (lv_at hl 2 rfl) ?_
    refine lv_iconst (v := 5) hx hb dX2_enter_37 (by decide) ?_
    obtain ⟨r_7, hc_8, hf⟩ := bd_of hf
    refine fn_V (v := some (.int r_7)) (As := [.int x1, .int (5 : Int32)]) (rest := [.int (0 : Int32), .int r_4, .ref (h 7)]) (st1 := [.int r_7, .int (0 : Int32), .int r_4, .ref (h 7)]) (ws' := (wHo X h rP fP rT fT rG fG rL_5 fL rH fH gi di re ti)) (nL := 3) ⟨hx, hb, hml, hown, hts⟩ (c_X3_at l X (h 5) (h 6) (40 : Int32) (6 : Int32) 240 rG fG x1 (5 : Int32) r_7 hc_8) (cwV 2 hts gX2_enter_X3_at rfl rfl rfl (by decide +kernel) ⟨Nat.le_of_ble_eq_true rfl, Nat.le_of_ble_eq_true rfl⟩) 3 rfl rfl rfl rfl hl.1 rfl (Nat.le_of_ble_eq_true rfl) dX2_enter_38 hK hP (hD0.addr rfl) hS hA [5, 6] rfl rfl rfl rfl ⟨Nat.zero_le _, Nat.zero_le _⟩ (fun H locs hP hD hS => ?_)
    obtain ⟨fL_9, hc_10, hf⟩ := bd_of hf
    refine fn_V (v := none) (As := [.int r_4, .int (0 : Int32), .int r_7]) (rest := []) (st1 := []) (ws' := (wHo X h rP fP rT fT rG fG rL_5 fL_9 rH fH gi di re ti)) (nL := 3) ⟨hx, hb, hml, hown, hts⟩ (c_X3_put l X (h 7) (h 8) (12 : Int32) (3 : Int32) 36 rL_5 fL r_4 (0 : Int32) r_7 fL_9 hc_10) (cwV 3 hts gX2_enter_X3_put rfl rfl rfl (by decide +kernel) ⟨Nat.le_of_ble_eq_true rfl, Nat.le_of_ble_eq_true rfl⟩) 3 rfl rfl rfl rfl hl.1 rfl (Nat.le_of_ble_eq_true rfl) dX2_enter_41 hK hP (hD0.addr rfl) hS hA [7, 8] rfl rfl rfl rfl ⟨Nat.zero_le _, Nat.zero_le _⟩ (fun H locs hP hD hS => ?_)
    refine lv_aload_n hx hb dX2_enter_44 rfl (lv_at hl 1 rfl) ?_
    refine va_get (D := X.1) (ci := 2) (v := .ref (h 7)) (C := RX2) (T := TX2) (N := 9) hx hb hts hiX2 hown hK.1 hP 0 rfl rfl 3 (by decide) k26 (fun _ h9 => h9) rfl dX2_enter_45 ?_
    refine lv_iload_n hx hb dX2_enter_48 rfl (lv_at hl 0 rfl) ?_
    refine lv_iconst (v := 1) hx hb dX2_enter_49 (by decide) ?_
    refine lv_aload_n hx hb dX2_enter_50 rfl (lv_at hl 1 rfl) ?_
    refine va_get (D := X.1) (ci := 2) (v := .int ti) (C := RX2) (T := TX2) (N := 9) hx hb hts hiX2 hown hK.1 hP 0 rfl rfl 8 (by decide) k54 (fun _ h9 => h9) rfl dX2_enter_51 ?_
    obtain ⟨fL_11, hc_12, hf⟩ := bd_of hf
    refine fn_V (v := none) (As := [.int r_4, .int (1 : Int32), .int ti]) (rest := []) (st1 := []) (ws' := (wHo X h rP fP rT fT rG fG rL_5 fL_11 rH fH gi di re ti)) (nL := 3) ⟨hx, hb, hml, hown, hts⟩ (c_X3_put l X (h 7) (h 8) (12 : Int32) (3 : Int32) 36 rL_5 fL_9 r_4 (1 : Int32) ti fL_11 hc_12) (cwV 3 hts gX2_enter_X3_put rfl rfl rfl (by decide +kernel) ⟨Nat.le_of_ble_eq_true rfl, Nat.le_of_ble_eq_true rfl⟩) 3 rfl rfl rfl rfl hl.1 rfl (Nat.le_of_ble_eq_true rfl) dX2_enter_54 hK hP (hD0.addr rfl) hS hA [7, 8] rfl rfl rfl rfl ⟨Nat.zero_le _, Nat.zero_le _⟩ (fun H locs hP hD hS => ?_)
    refine lv_aload_n hx hb dX2_enter_57 rfl (lv_at hl 1 rfl) ?_
    refine va_get (D := X.1) (ci := 2) (v := .ref (h 7)) (C := RX2) (T := TX2) (N := 9) hx hb hts hiX2 hown hK.1 hP 0 rfl rfl 3 (by decide) k26 (fun _ h9 => h9) rfl dX2_enter_58 ?_
    refine lv_iload_n hx hb dX2_enter_61 rfl (lv_at hl 0 rfl) ?_
    refine lv_iconst (v := 2) hx hb dX2_enter_62 (by decide) ?_
    refine lv_aload_n hx hb dX2_enter_63 rfl (lv_at hl 1 rfl) ?_
    refine va_get (D := X.1) (ci := 2) (v := .ref (h 5)) (C := RX2) (T := TX2) (N := 9) hx hb hts hiX2 hown hK.1 hP 0 rfl rfl 2 (by decide) k23 (fun _ h9 => h9) rfl dX2_enter_64 ?_
    refine lv_iload_n hx hb dX2_enter_67 rfl (lv_at hl 2 rfl) ?_
    refine lv_iconst (v := 0) hx hb dX2_enter_68 (by decide) ?_
    obtain ⟨r_13, hc_14, hf⟩ := bd_of hf
    refine fn_V (v := some (.int r_13)) (As := [.int x1, .int (0 : Int32)]) (rest := [.int (2 : Int32), .int r_4, .ref (h 7)]) (st1 := [.int r_13, .int (2 : Int32), .int r_4, .ref (h 7)]) (ws' := (wHo X h rP fP rT fT rG fG rL_5 fL_11 rH fH gi di re ti)) (nL := 3) ⟨hx, hb, hml, hown, hts⟩ (c_X3_at l X (h 5) (h 6) (40 : Int32) (6 : Int32) 240 rG fG x1 (0 : Int32) r_13 hc_14) (cwV 2 hts gX2_enter_X3_at rfl rfl rfl (by decide +kernel) ⟨Nat.le_of_ble_eq_true rfl, Nat.le_of_ble_eq_true rfl⟩) 3 rfl rfl rfl rfl hl.1 rfl (Nat.le_of_ble_eq_true rfl) dX2_enter_69 hK hP (hD0.addr rfl) hS hA [5, 6] rfl rfl rfl rfl ⟨Nat.zero_le _, Nat.zero_le _⟩ (fun H locs hP hD hS => ?_)
    obtain ⟨fL_15, hc_16, hf⟩ := bd_of hf
    refine fn_V (v := none) (As := [.int r_4, .int (2 : Int32), .int r_13]) (rest := []) (st1 := []) (ws' := (wHo X h rP fP rT fT rG fG rL_5 fL_15 rH fH gi di re ti)) (nL := 3) ⟨hx, hb, hml, hown, hts⟩ (c_X3_put l X (h 7) (h 8) (12 : Int32) (3 : Int32) 36 rL_5 fL_11 r_4 (2 : Int32) r_13 fL_15 hc_16) (cwV 3 hts gX2_enter_X3_put rfl rfl rfl (by decide +kernel) ⟨Nat.le_of_ble_eq_true rfl, Nat.le_of_ble_eq_true rfl⟩) 3 rfl rfl rfl rfl hl.1 rfl (Nat.le_of_ble_eq_true rfl) dX2_enter_72 hK hP (hD0.addr rfl) hS hA [7, 8] rfl rfl rfl rfl ⟨Nat.zero_le _, Nat.zero_le _⟩ (fun H locs hP hD hS => ?_)
    cases hf
    exact fn_vret hx hb hr hlocks hP hS dX2_enter_75
  · replace hf := fp_f c_3 hf
    refine lv_aload_n hx hb dX2_enter_10 rfl (lv_at hl 0 rfl) ?_
    refine va_get (D := X.1) (ci := 2) (v := .ref (h 7)) (C := RX2) (T := TX2) (N := 9) hx hb hts hiX2 hown hK.1 hP 0 rfl rfl 3 (by decide) k26 (fun _ h9 => h9) rfl dX2_enter_11 ?_
    refine lv_iconst (v := 0) hx hb dX2_enter_14 (by decide) ?_
    obtain ⟨rL_17, fL_18, hc_19, hf⟩ := bd2_of hf
    refine fn_V (v := none) (As := [.int (0 : Int32)]) (rest := []) (st1 := []) (ws' := (wHo X h rP fP rT fT rG fG rL_17 fL_18 rH fH gi di re ti)) (nL := 3) ⟨hx, hb, hml, hown, hts⟩ (c_X3_drop l X (h 7) (h 8) (12 : Int32) (3 : Int32) 36 rL fL (0 : Int32) rL_17 fL_18 hc_19) (cwV 1 hts gX2_enter_X3_drop rfl rfl rfl (by decide +kernel) ⟨Nat.le_of_ble_eq_true rfl, Nat.le_of_ble_eq_true rfl⟩) 3 rfl rfl rfl rfl hl.1 rfl (Nat.le_of_ble_eq_true rfl) dX2_enter_15 hK hP (hD0.addr rfl) hS hA [7, 8] rfl rfl rfl rfl ⟨Nat.zero_le _, Nat.zero_le _⟩ (fun H locs hP hD hS => ?_)
    refine lv_aload_n hx hb dX2_enter_18 rfl (lv_at hl 0 rfl) ?_
    refine va_get (D := X.1) (ci := 2) (v := .ref (h 7)) (C := RX2) (T := TX2) (N := 9) hx hb hts hiX2 hown hK.1 hP 0 rfl rfl 3 (by decide) k26 (fun _ h9 => h9) rfl dX2_enter_19 ?_
    obtain ⟨r_20, rL_21, hc_22, hf⟩ := bd2_of hf
    refine fn_V (v := some (.int r_20)) (As := []) (rest := []) (st1 := [.int r_20]) (ws' := (wHo X h rP fP rT fT rG fG rL_21 fL_18 rH fH gi di re ti)) (nL := 3) ⟨hx, hb, hml, hown, hts⟩ (c_X3_addRow l X (h 7) (h 8) (12 : Int32) (3 : Int32) 36 rL_17 fL_18 r_20 rL_21 hc_22) (cwV 0 hts gX2_enter_X3_addRow rfl rfl rfl (by decide +kernel) ⟨Nat.le_of_ble_eq_true rfl, Nat.le_of_ble_eq_true rfl⟩) 3 rfl rfl rfl rfl hl.1 rfl (Nat.le_of_ble_eq_true rfl) dX2_enter_22 hK hP (hD0.addr rfl) hS hA [7, 8] rfl rfl rfl rfl ⟨Nat.zero_le _, Nat.zero_le _⟩ (fun H locs hP hD hS => ?_)
    refine lv_istore_n (lv' := [(2, .int r_20), (0, .ref (h 0)), (1, .int x1)]) hx hb dX2_enter_25 rfl hl (by decide) rfl (fun ls hl => ?_)
    refine lv_aload_n hx hb dX2_enter_26 rfl (lv_at hl 1 rfl) ?_
    refine va_get (D := X.1) (ci := 2) (v := .ref (h 7)) (C := RX2) (T := TX2) (N := 9) hx hb hts hiX2 hown hK.1 hP 0 rfl rfl 3 (by decide) k26 (fun _ h9 => h9) rfl dX2_enter_27 ?_
    refine lv_iload_n hx hb dX2_enter_30 rfl (lv_at hl 0 rfl) ?_
    refine lv_iconst (v := 0) hx hb dX2_enter_31 (by decide) ?_
    refine lv_aload_n hx hb dX2_enter_32 rfl (lv_at hl 1 rfl) ?_
    refine va_get (D := X.1) (ci := 2) (v := .ref (h 5)) (C := RX2) (T := TX2) (N := 9) hx hb hts hiX2 hown hK.1 hP 0 rfl rfl 2 (by decide) k23 (fun _ h9 => h9) rfl dX2_enter_33 ?_
    refine lv_iload_n hx hb dX2_enter_36 rfl (lv_at hl 2 rfl) ?_
    refine lv_iconst (v := 5) hx hb dX2_enter_37 (by decide) ?_
    obtain ⟨r_23, hc_24, hf⟩ := bd_of hf
    refine fn_V (v := some (.int r_23)) (As := [.int x1, .int (5 : Int32)]) (rest := [.int (0 : Int32), .int r_20, .ref (h 7)]) (st1 := [.int r_23, .int (0 : Int32), .int r_20, .ref (h 7)]) (ws' := (wHo X h rP fP rT fT rG fG rL_21 fL_18 rH fH gi di re ti)) (nL := 3) ⟨hx, hb, hml, hown, hts⟩ (c_X3_at l X (h 5) (h 6) (40 : Int32) (6 : Int32) 240 rG fG x1 (5 : Int32) r_23 hc_24) (cwV 2 hts gX2_enter_X3_at rfl rfl rfl (by decide +kernel) ⟨Nat.le_of_ble_eq_true rfl, Nat.le_of_ble_eq_true rfl⟩) 3 rfl rfl rfl rfl hl.1 rfl (Nat.le_of_ble_eq_true rfl) dX2_enter_38 hK hP (hD0.addr rfl) hS hA [5, 6] rfl rfl rfl rfl ⟨Nat.zero_le _, Nat.zero_le _⟩ (fun H locs hP hD hS => ?_)
    obtain ⟨fL_25, hc_26, hf⟩ := bd_of hf
    refine fn_V (v := none) (As := [.int r_20, .int (0 : Int32), .int r_23]) (rest := []) (st1 := []) (ws' := (wHo X h rP fP rT fT rG fG rL_21 fL_25 rH fH gi di re ti)) (nL := 3) ⟨hx, hb, hml, hown, hts⟩ (c_X3_put l X (h 7) (h 8) (12 : Int32) (3 : Int32) 36 rL_21 fL_18 r_20 (0 : Int32) r_23 fL_25 hc_26) (cwV 3 hts gX2_enter_X3_put rfl rfl rfl (by decide +kernel) ⟨Nat.le_of_ble_eq_true rfl, Nat.le_of_ble_eq_true rfl⟩) 3 rfl rfl rfl rfl hl.1 rfl (Nat.le_of_ble_eq_true rfl) dX2_enter_41 hK hP (hD0.addr rfl) hS hA [7, 8] rfl rfl rfl rfl ⟨Nat.zero_le _, Nat.zero_le _⟩ (fun H locs hP hD hS => ?_)
    refine lv_aload_n hx hb dX2_enter_44 rfl (lv_at hl 1 rfl) ?_
    refine va_get (D := X.1) (ci := 2) (v := .ref (h 7)) (C := RX2) (T := TX2) (N := 9) hx hb hts hiX2 hown hK.1 hP 0 rfl rfl 3 (by decide) k26 (fun _ h9 => h9) rfl dX2_enter_45 ?_
    refine lv_iload_n hx hb dX2_enter_48 rfl (lv_at hl 0 rfl) ?_
    refine lv_iconst (v := 1) hx hb dX2_enter_49 (by decide) ?_
    refine lv_aload_n hx hb dX2_enter_50 rfl (lv_at hl 1 rfl) ?_
    refine va_get (D := X.1) (ci := 2) (v := .int ti) (C := RX2) (T := TX2) (N := 9) hx hb hts hiX2 hown hK.1 hP 0 rfl rfl 8 (by decide) k54 (fun _ h9 => h9) rfl dX2_enter_51 ?_
    obtain ⟨fL_27, hc_28, hf⟩ := bd_of hf
    refine fn_V (v := none) (As := [.int r_20, .int (1 : Int32), .int ti]) (rest := []) (st1 := []) (ws' := (wHo X h rP fP rT fT rG fG rL_21 fL_27 rH fH gi di re ti)) (nL := 3) ⟨hx, hb, hml, hown, hts⟩ (c_X3_put l X (h 7) (h 8) (12 : Int32) (3 : Int32) 36 rL_21 fL_25 r_20 (1 : Int32) ti fL_27 hc_28) (cwV 3 hts gX2_enter_X3_put rfl rfl rfl (by decide +kernel) ⟨Nat.le_of_ble_eq_true rfl, Nat.le_of_ble_eq_true rfl⟩) 3 rfl rfl rfl rfl hl.1 rfl (Nat.le_of_ble_eq_true rfl) dX2_enter_54 hK hP (hD0.addr rfl) hS hA [7, 8] rfl rfl rfl rfl ⟨Nat.zero_le _, Nat.zero_le _⟩ (fun H locs hP hD hS => ?_)
    refine lv_aload_n hx hb dX2_enter_57 rfl (lv_at hl 1 rfl) ?_
    refine va_get (D := X.1) (ci := 2) (v := .ref (h 7)) (C := RX2) (T := TX2) (N := 9) hx hb hts hiX2 hown hK.1 hP 0 rfl rfl 3 (by decide) k26 (fun _ h9 => h9) rfl dX2_enter_58 ?_
    refine lv_iload_n hx hb dX2_enter_61 rfl (lv_at hl 0 rfl) ?_
    refine lv_iconst (v := 2) hx hb dX2_enter_62 (by decide) ?_
    refine lv_aload_n hx hb dX2_enter_63 rfl (lv_at hl 1 rfl) ?_
    refine va_get (D := X.1) (ci := 2) (v := .ref (h 5)) (C := RX2) (T := TX2) (N := 9) hx hb hts hiX2 hown hK.1 hP 0 rfl rfl 2 (by decide) k23 (fun _ h9 => h9) rfl dX2_enter_64 ?_
    refine lv_iload_n hx hb dX2_enter_67 rfl (lv_at hl 2 rfl) ?_
    refine lv_iconst (v := 0) hx hb dX2_enter_68 (by decide) ?_
    obtain ⟨r_29, hc_30, hf⟩ := bd_of hf
    refine fn_V (v := some (.int r_29)) (As := [.int x1, .int (0 : Int32)]) (rest := [.int (2 : Int32), .int r_20, .ref (h 7)]) (st1 := [.int r_29, .int (2 : Int32), .int r_20, .ref (h 7)]) (ws' := (wHo X h rP fP rT fT rG fG rL_21 fL_27 rH fH gi di re ti)) (nL := 3) ⟨hx, hb, hml, hown, hts⟩ (c_X3_at l X (h 5) (h 6) (40 : Int32) (6 : Int32) 240 rG fG x1 (0 : Int32) r_29 hc_30) (cwV 2 hts gX2_enter_X3_at rfl rfl rfl (by decide +kernel) ⟨Nat.le_of_ble_eq_true rfl, Nat.le_of_ble_eq_true rfl⟩) 3 rfl rfl rfl rfl hl.1 rfl (Nat.le_of_ble_eq_true rfl) dX2_enter_69 hK hP (hD0.addr rfl) hS hA [5, 6] rfl rfl rfl rfl ⟨Nat.zero_le _, Nat.zero_le _⟩ (fun H locs hP hD hS => ?_)
    obtain ⟨fL_31, hc_32, hf⟩ := bd_of hf
    refine fn_V (v := none) (As := [.int r_20, .int (2 : Int32), .int r_29]) (rest := []) (st1 := []) (ws' := (wHo X h rP fP rT fT rG fG rL_21 fL_31 rH fH gi di re ti)) (nL := 3) ⟨hx, hb, hml, hown, hts⟩ (c_X3_put l X (h 7) (h 8) (12 : Int32) (3 : Int32) 36 rL_21 fL_27 r_20 (2 : Int32) r_29 fL_31 hc_32) (cwV 3 hts gX2_enter_X3_put rfl rfl rfl (by decide +kernel) ⟨Nat.le_of_ble_eq_true rfl, Nat.le_of_ble_eq_true rfl⟩) 3 rfl rfl rfl rfl hl.1 rfl (Nat.le_of_ble_eq_true rfl) dX2_enter_72 hK hP (hD0.addr rfl) hS hA [7, 8] rfl rfl rfl rfl ⟨Nat.zero_le _, Nat.zero_le _⟩ (fun H locs hP hD hS => ?_)
    cases hf
    exact fn_vret hx hb hr hlocks hP hS dX2_enter_75

def f_X2_buryDying_L47 (x1 : Int32) (rP : Int32) (fP : (Nat → Int32)) : Nat → Int32 → Int32 → (Nat → Int32) →  Option (Int32 × (Nat → Int32))
  | 0, _, _, _ => none
  | k_ + 1, x2, rG, fG =>
    if x2 < (0 : Int32) then
    (some (rG, fG))
    else
    (if x1 ≤ (0 : Int32) then
    (some (rG, fG))
    else
    (bd (f_X2_isDying x2 rP fP rG fG) (fun r_3 =>
    if r_3 = (0 : Int32) then
    (nm (x2 + (-1 : Int32)) (fun v_6 =>
    f_X2_buryDying_L47 x1 rP fP k_ v_6 rG fG))
    else
    (bd2 (f_X3_drop (6 : Int32) 240 x2 rG fG) (fun rG_7 fG_8 =>
    nm (x2 + (-1 : Int32)) (fun v_10 =>
    f_X2_buryDying_L47 x1 rP fP k_ v_10 rG_7 fG_8))))))
def f_X2_buryDying_L4 (rP : Int32) (fP : (Nat → Int32)) (rG : Int32) (fG : (Nat → Int32)) (ti : Int32) : Nat → Int32 → Int32 → Int32 → (Nat → Int32) →  Option (Int32 × Int32 × (Nat → Int32))
  | 0, _, _, _, _ => none
  | k_ + 1, x1, x2, rL, fL =>
    bd (f_X3_rows rG) (fun r_11 =>
    if r_11 ≤ x2 then
    (some (x1, rL, fL))
    else
    (bd (f_X2_isDying x2 rP fP rG fG) (fun r_14 =>
    if r_14 = (0 : Int32) then
    (nm (x2 + (1 : Int32)) (fun v_17 =>
    f_X2_buryDying_L4 rP fP rG fG ti k_ x1 v_17 rL fL))
    else
    (bd2 (f_X2_enter x2 rG fG rL fL ti) (fun rL_18 fL_19 =>
    nm (x1 + (1 : Int32)) (fun v_21 =>
    nm (x2 + (1 : Int32)) (fun v_22 =>
    f_X2_buryDying_L4 rP fP rG fG ti k_ v_21 v_22 rL_18 fL_19)))))))
def f_X2_buryDying (rP : Int32) (fP : (Nat → Int32)) (rG : Int32) (fG : (Nat → Int32)) (rL : Int32) (fL : (Nat → Int32)) (di : Int32) (ti : Int32) : Option (Int32 × Int32 × (Nat → Int32) × Int32 × (Nat → Int32) × Int32) :=
  bd3 (f_X2_buryDying_L4 rP fP rG fG ti FU (0 : Int32) (0 : Int32) rL fL) (fun y1_23 rL_24 fL_25 =>
  bd (f_X3_rows rG) (fun r_27 =>
  nm (r_27 - (1 : Int32)) (fun v_29 =>
  bd2 (f_X2_buryDying_L47 y1_23 rP fP FU v_29 rG fG) (fun rG_30 fG_31 =>
  nm (di + y1_23) (fun v_33 =>
  some (y1_23, rG_30, fG_31, rL_24, fL_25, v_33))))))
set_option maxHeartbeats 4000000 in
set_option maxRecDepth 100000 in
theorem c_X2_buryDying (l : Launch) (X : cx_G) (h : (Nat → Nat)) (rP : Int32) (fP : (Nat → Int32)) (rT : Int32) (fT : (Nat → Int32)) (rG : Int32) (fG : (Nat → Int32)) (rL : Int32) (fL : (Nat → Int32)) (rH : Int32) (fH : (Nat → Int32)) (gi : Int32) (di : Int32) (re : Int32) (ti : Int32) (r : Int32) (rG' : Int32) (fG' : (Nat → Int32)) (rL' : Int32) (fL' : (Nat → Int32)) (di' : Int32) (hf : f_X2_buryDying rP fP rG fG rL fL di ti = some (r, rG', fG', rL', fL', di')) : Fn l yX2_buryDying wsX2_buryDying ({ frames := 2, cells := 0, slots := 0, locals := 47 } : Room) X [.ref (h 0)] (wHo X h rP fP rT fT rG fG rL fL rH fH gi di re ti) (some (.int r)) (wHo X h rP fP rT fT rG' fG' rL' fL' rH fH gi di' re ti) := by
  refine fn_intro (cc := cX2_buryDying) (maxL := 3) (ret := (some .int)) (by decide) rfl rfl (Nat.le_of_ble_eq_true rfl) ?_
  intro p e s m args below meth c A ls hx hb hml hr hts hown hlocks hK hP hD0 hS hA hl
  have hown : s.vm.findClass RX2 = some m.cls := hown
  have hl : lv_has ls 3 [(0, .ref (h 0))] := hl
  have hiX2 : ∀ w ∈ u_ws RX2 TX2 9, w ∈ wsX2_buryDying := by decide +kernel
  have k23 := hts (.fieldLink RX2 23 "LentRights$House" "grants" "LLentRights$Table;") (by decide +kernel)
  have k48 := hts (.fieldLink RX2 48 "LentRights$House" "died" "I") (by decide +kernel)
  have loop_47 : ∀ (Q : State → Prop) (x1 : Int32) (rL : Int32) (fL : (Nat → Int32)) (di : Int32) (rGo : Int32) (fGo : (Nat → Int32)), (∀ (H : Heap) (locs : List Loc) (ls : Array Slot), va_P X.1 vwCl (wHo X h rP fP rT fT rGo fGo rL fL rH fH gi di re ti) H → va_S A s.heap H locs → lv_has ls 3 [(0, .ref (h 0)), (1, .int x1)] → W p l e ({ frames := 2, cells := 0, slots := 0, locals := 47 } : Room) s m args below meth c H locs 0 0 Q (F0 m 77 ls [])) → ∀ (k_ : Nat) (x2 : Int32) (rG : Int32) (fG : (Nat → Int32)) (H : Heap) (locs : List Loc) (ls : Array Slot), f_X2_buryDying_L47 x1 rP fP k_ x2 rG fG = some (rGo, fGo) → va_P X.1 vwCl (wHo X h rP fP rT fT rG fG rL fL rH fH gi di re ti) H → va_S A s.heap H locs → lv_has ls 3 [(0, .ref (h 0)), (1, .int x1), (2, .int x2)] → W p l e ({ frames := 2, cells := 0, slots := 0, locals := 47 } : Room) s m args below meth c H locs 0 0 Q (F0 m 47 ls []) := by
    intro Q x1 rL fL di rGo fGo kx k_
    induction k_ with
    | zero => intro x2 rG fG H locs ls hf; exact nomatch (show (none : Option (Int32 × (Nat → Int32))) = some _ from hf)
    | succ k_ ih =>
      intro x2 rG fG H locs ls hf hP hS hl
      unfold f_X2_buryDying_L47 at hf
      refine lv_iload_n hx hb dX2_buryDying_47 rfl (lv_at hl 2 rfl) ?_
      refine lv_if_lt (tgt := 77) hx hb dX2_buryDying_48 (by decide) (fun c_1 => ?_) (fun c_1 => ?_)
      · replace hf := fp_t c_1 hf
        cases hf
        exact kx _ _ _ hP hS (lv_sub hl [0, 1] rfl)
      · replace hf := fp_f c_1 hf
        refine lv_iload_n hx hb dX2_buryDying_51 rfl (lv_at hl 1 rfl) ?_
        refine lv_if_le (tgt := 77) hx hb dX2_buryDying_52 (by decide) (fun c_2 => ?_) (fun c_2 => ?_)
        · replace hf := fp_t c_2 hf
          cases hf
          exact kx _ _ _ hP hS (lv_sub hl [0, 1] rfl)
        · replace hf := fp_f c_2 hf
          refine lv_aload_n hx hb dX2_buryDying_55 rfl (lv_at hl 0 rfl) ?_
          refine lv_iload_n hx hb dX2_buryDying_56 rfl (lv_at hl 2 rfl) ?_
          obtain ⟨r_3, hc_4, hf⟩ := bd_of hf
          refine fn_V (v := some (.int r_3)) (As := [.int x2]) (rest := []) (st1 := [.int r_3]) (ws' := (wHo X h rP fP rT fT rG fG rL fL rH fH gi di re ti)) (nL := 3) ⟨hx, hb, hml, hown, hts⟩ (c_X2_isDying l X h rP fP rT fT rG fG rL fL rH fH gi di re ti x2 r_3 hc_4) (cwV 1 hts gX2_buryDying_X2_isDying rfl rfl rfl (by decide +kernel) ⟨Nat.le_of_ble_eq_true rfl, Nat.le_of_ble_eq_true rfl⟩) 2 rfl rfl rfl rfl hl.1 rfl (Nat.le_of_ble_eq_true rfl) dX2_buryDying_57 hK hP (hD0.addr rfl) hS hA [0, 1, 2, 3, 4, 5, 6, 7, 8, 9, 10] rfl rfl rfl rfl ⟨Nat.zero_le _, Nat.zero_le _⟩ (fun H locs hP hD hS => ?_)
          refine lv_if_eq (tgt := 71) hx hb dX2_buryDying_60 (by decide) (fun c_5 => ?_) (fun c_5 => ?_)
          · replace hf := fp_t c_5 hf
            obtain ⟨v_6, ev_6⟩ : ∃ y : Int32, y = x2 + (-1 : Int32) := ⟨_, rfl⟩
            replace hf := nm_of ev_6 hf
            refine lv_iinc (v := v_6) (lv' := [(2, .int v_6), (0, .ref (h 0)), (1, .int x1)]) hx hb dX2_buryDying_71 hl (k := 2) rfl (by rw [ev_6]; rfl) (by decide) rfl (fun ls hl => ?_)
            refine lv_goto (tgt := 47) hx hb dX2_buryDying_74 (by decide) ?_
            exact ih v_6 rG fG _ _ _ hf hP hS (lv_sub hl [1, 2, 0] rfl)
          · replace hf := fp_f c_5 hf
            refine lv_aload_n hx hb dX2_buryDying_63 rfl (lv_at hl 0 rfl) ?_
            refine va_get (D := X.1) (ci := 2) (v := .ref (h 5)) (C := RX2) (T := TX2) (N := 9) hx hb hts hiX2 hown hK.1 hP 0 rfl rfl 2 (by decide) k23 (fun _ h9 => h9) rfl dX2_buryDying_64 ?_
            refine lv_iload_n hx hb dX2_buryDying_67 rfl (lv_at hl 2 rfl) ?_
            obtain ⟨rG_7, fG_8, hc_9, hf⟩ := bd2_of hf
            refine fn_V (v := none) (As := [.int x2]) (rest := []) (st1 := []) (ws' := (wHo X h rP fP rT fT rG_7 fG_8 rL fL rH fH gi di re ti)) (nL := 3) ⟨hx, hb, hml, hown, hts⟩ (c_X3_drop l X (h 5) (h 6) (40 : Int32) (6 : Int32) 240 rG fG x2 rG_7 fG_8 hc_9) (cwV 1 hts gX2_buryDying_X3_drop rfl rfl rfl (by decide +kernel) ⟨Nat.le_of_ble_eq_true rfl, Nat.le_of_ble_eq_true rfl⟩) 3 rfl rfl rfl rfl hl.1 rfl (Nat.le_of_ble_eq_true rfl) dX2_buryDying_68 hK hP (hD0.addr rfl) hS hA [5, 6] rfl rfl rfl rfl ⟨Nat.zero_le _, Nat.zero_le _⟩ (fun H locs hP hD hS => ?_)
            obtain ⟨v_10, ev_10⟩ : ∃ y : Int32, y = x2 + (-1 : Int32) := ⟨_, rfl⟩
            replace hf := nm_of ev_10 hf
            refine lv_iinc (v := v_10) (lv' := [(2, .int v_10), (0, .ref (h 0)), (1, .int x1)]) hx hb dX2_buryDying_71 hl (k := 2) rfl (by rw [ev_10]; rfl) (by decide) rfl (fun ls hl => ?_)
            refine lv_goto (tgt := 47) hx hb dX2_buryDying_74 (by decide) ?_
            exact ih v_10 rG_7 fG_8 _ _ _ hf hP hS (lv_sub hl [1, 2, 0] rfl)
  have loop_4 : ∀ (Q : State → Prop) (rG : Int32) (fG : (Nat → Int32)) (di : Int32) (y1 : Int32) (rLo : Int32) (fLo : (Nat → Int32)), (∀ (H : Heap) (locs : List Loc) (ls : Array Slot), va_P X.1 vwCl (wHo X h rP fP rT fT rG fG rLo fLo rH fH gi di re ti) H → va_S A s.heap H locs → lv_has ls 3 [(0, .ref (h 0)), (1, .int y1)] → W p l e ({ frames := 2, cells := 0, slots := 0, locals := 47 } : Room) s m args below meth c H locs 0 0 Q (F0 m 37 ls [])) → ∀ (k_ : Nat) (x1 : Int32) (x2 : Int32) (rL : Int32) (fL : (Nat → Int32)) (H : Heap) (locs : List Loc) (ls : Array Slot), f_X2_buryDying_L4 rP fP rG fG ti k_ x1 x2 rL fL = some (y1, rLo, fLo) → va_P X.1 vwCl (wHo X h rP fP rT fT rG fG rL fL rH fH gi di re ti) H → va_S A s.heap H locs → lv_has ls 3 [(0, .ref (h 0)), (1, .int x1), (2, .int x2)] → W p l e ({ frames := 2, cells := 0, slots := 0, locals := 47 } : Room) s m args below meth c H locs 0 0 Q (F0 m 4 ls []) := by
    intro Q rG fG di y1 rLo fLo kx k_
    induction k_ with
    | zero => intro x1 x2 rL fL H locs ls hf; exact nomatch (show (none : Option (Int32 × Int32 × (Nat → Int32))) = some _ from hf)
    | succ k_ ih =>
      intro x1 x2 rL fL H locs ls hf hP hS hl
      unfold f_X2_buryDying_L4 at hf
      refine lv_iload_n hx hb dX2_buryDying_4 rfl (lv_at hl 2 rfl) ?_
      refine lv_aload_n hx hb dX2_buryDying_5 rfl (lv_at hl 0 rfl) ?_
      refine va_get (D := X.1) (ci := 2) (v := .ref (h 5)) (C := RX2) (T := TX2) (N := 9) hx hb hts hiX2 hown hK.1 hP 0 rfl rfl 2 (by decide) k23 (fun _ h9 => h9) rfl dX2_buryDying_6 ?_
      obtain ⟨r_11, hc_12, hf⟩ := bd_of hf
      refine fn_V (v := some (.int r_11)) (As := []) (rest := [.int x2]) (st1 := [.int r_11, .int x2]) (ws' := (wHo X h rP fP rT fT rG fG rL fL rH fH gi di re ti)) (nL := 3) ⟨hx, hb, hml, hown, hts⟩ (c_X3_rows l X (h 5) (h 6) (40 : Int32) (6 : Int32) 240 rG fG r_11 hc_12) (cwV 0 hts gX2_buryDying_X3_rows rfl rfl rfl (by decide +kernel) ⟨Nat.le_of_ble_eq_true rfl, Nat.le_of_ble_eq_true rfl⟩) 3 rfl rfl rfl rfl hl.1 rfl (Nat.le_of_ble_eq_true rfl) dX2_buryDying_9 hK hP (hD0.addr rfl) hS hA [5, 6] rfl rfl rfl rfl ⟨Nat.zero_le _, Nat.zero_le _⟩ (fun H locs hP hD hS => ?_)
      refine lv_icmp_ge (tgt := 37) hx hb dX2_buryDying_12 (by decide) (fun c_13 => ?_) (fun c_13 => ?_)
      · replace hf := fp_t c_13 hf
        cases hf
        exact kx _ _ _ hP hS (lv_sub hl [0, 1] rfl)
      · replace hf := fp_f c_13 hf
        refine lv_aload_n hx hb dX2_buryDying_15 rfl (lv_at hl 0 rfl) ?_
        refine lv_iload_n hx hb dX2_buryDying_16 rfl (lv_at hl 2 rfl) ?_
        obtain ⟨r_14, hc_15, hf⟩ := bd_of hf
        refine fn_V (v := some (.int r_14)) (As := [.int x2]) (rest := []) (st1 := [.int r_14]) (ws' := (wHo X h rP fP rT fT rG fG rL fL rH fH gi di re ti)) (nL := 3) ⟨hx, hb, hml, hown, hts⟩ (c_X2_isDying l X h rP fP rT fT rG fG rL fL rH fH gi di re ti x2 r_14 hc_15) (cwV 1 hts gX2_buryDying_X2_isDying rfl rfl rfl (by decide +kernel) ⟨Nat.le_of_ble_eq_true rfl, Nat.le_of_ble_eq_true rfl⟩) 2 rfl rfl rfl rfl hl.1 rfl (Nat.le_of_ble_eq_true rfl) dX2_buryDying_17 hK hP (hD0.addr rfl) hS hA [0, 1, 2, 3, 4, 5, 6, 7, 8, 9, 10] rfl rfl rfl rfl ⟨Nat.zero_le _, Nat.zero_le _⟩ (fun H locs hP hD hS => ?_)
        refine lv_if_eq (tgt := 31) hx hb dX2_buryDying_20 (by decide) (fun c_16 => ?_) (fun c_16 => ?_)
        · replace hf := fp_t c_16 hf
          obtain ⟨v_17, ev_17⟩ : ∃ y : Int32, y = x2 + (1 : Int32) := ⟨_, rfl⟩
          replace hf := nm_of ev_17 hf
          refine lv_iinc (v := v_17) (lv' := [(2, .int v_17), (0, .ref (h 0)), (1, .int x1)]) hx hb dX2_buryDying_31 hl (k := 2) rfl (by rw [ev_17]; rfl) (by decide) rfl (fun ls hl => ?_)
          refine lv_goto (tgt := 4) hx hb dX2_buryDying_34 (by decide) ?_
          exact ih x1 v_17 rL fL _ _ _ hf hP hS (lv_sub hl [1, 2, 0] rfl)
        · replace hf := fp_f c_16 hf
          refine lv_aload_n hx hb dX2_buryDying_23 rfl (lv_at hl 0 rfl) ?_
          refine lv_iload_n hx hb dX2_buryDying_24 rfl (lv_at hl 2 rfl) ?_
          obtain ⟨rL_18, fL_19, hc_20, hf⟩ := bd2_of hf
          refine fn_V (v := none) (As := [.int x2]) (rest := []) (st1 := []) (ws' := (wHo X h rP fP rT fT rG fG rL_18 fL_19 rH fH gi di re ti)) (nL := 3) ⟨hx, hb, hml, hown, hts⟩ (c_X2_enter l X h rP fP rT fT rG fG rL fL rH fH gi di re ti x2 rL_18 fL_19 hc_20) (cwV 1 hts gX2_buryDying_X2_enter rfl rfl rfl (by decide +kernel) ⟨Nat.le_of_ble_eq_true rfl, Nat.le_of_ble_eq_true rfl⟩) 2 rfl rfl rfl rfl hl.1 rfl (Nat.le_of_ble_eq_true rfl) dX2_buryDying_25 hK hP (hD0.addr rfl) hS hA [0, 1, 2, 3, 4, 5, 6, 7, 8, 9, 10] rfl rfl rfl rfl ⟨Nat.zero_le _, Nat.zero_le _⟩ (fun H locs hP hD hS => ?_)
          obtain ⟨v_21, ev_21⟩ : ∃ y : Int32, y = x1 + (1 : Int32) := ⟨_, rfl⟩
          replace hf := nm_of ev_21 hf
          refine lv_iinc (v := v_21) (lv' := [(1, .int v_21), (0, .ref (h 0)), (2, .int x2)]) hx hb dX2_buryDying_28 hl (k := 1) rfl (by rw [ev_21]; rfl) (by decide) rfl (fun ls hl => ?_)
          obtain ⟨v_22, ev_22⟩ : ∃ y : Int32, y = x2 + (1 : Int32) := ⟨_, rfl⟩
          replace hf := nm_of ev_22 hf
          refine lv_iinc (v := v_22) (lv' := [(2, .int v_22), (1, .int v_21), (0, .ref (h 0))]) hx hb dX2_buryDying_31 hl (k := 2) rfl (by rw [ev_22]; rfl) (by decide) rfl (fun ls hl => ?_)
          refine lv_goto (tgt := 4) hx hb dX2_buryDying_34 (by decide) ?_
          exact ih v_21 v_22 rL_18 fL_19 _ _ _ hf hP hS (lv_sub hl [2, 1, 0] rfl)
  unfold f_X2_buryDying at hf
  refine lv_iconst (v := 0) hx hb dX2_buryDying_0 (by decide) ?_
  refine lv_istore_n (lv' := [(1, .int (0 : Int32)), (0, .ref (h 0))]) hx hb dX2_buryDying_1 rfl hl (by decide) rfl (fun ls hl => ?_)
  refine lv_iconst (v := 0) hx hb dX2_buryDying_2 (by decide) ?_
  refine lv_istore_n (lv' := [(2, .int (0 : Int32)), (1, .int (0 : Int32)), (0, .ref (h 0))]) hx hb dX2_buryDying_3 rfl hl (by decide) rfl (fun ls hl => ?_)
  obtain ⟨y1_23, rL_24, fL_25, hL_26, hf⟩ := bd3_of hf
  refine loop_4 _ rG fG di y1_23 rL_24 fL_25 (fun H locs ls hP hS hl => ?_) FU (0 : Int32) (0 : Int32) rL fL _ _ _ hL_26 hP hS (lv_sub hl [2, 1, 0] rfl)
  refine lv_aload_n hx hb dX2_buryDying_37 rfl (lv_at hl 0 rfl) ?_
  refine va_get (D := X.1) (ci := 2) (v := .ref (h 5)) (C := RX2) (T := TX2) (N := 9) hx hb hts hiX2 hown hK.1 hP 0 rfl rfl 2 (by decide) k23 (fun _ h9 => h9) rfl dX2_buryDying_38 ?_
  obtain ⟨r_27, hc_28, hf⟩ := bd_of hf
  refine fn_V (v := some (.int r_27)) (As := []) (rest := []) (st1 := [.int r_27]) (ws' := (wHo X h rP fP rT fT rG fG rL_24 fL_25 rH fH gi di re ti)) (nL := 3) ⟨hx, hb, hml, hown, hts⟩ (c_X3_rows l X (h 5) (h 6) (40 : Int32) (6 : Int32) 240 rG fG r_27 hc_28) (cwV 0 hts gX2_buryDying_X3_rows rfl rfl rfl (by decide +kernel) ⟨Nat.le_of_ble_eq_true rfl, Nat.le_of_ble_eq_true rfl⟩) 3 rfl rfl rfl rfl hl.1 rfl (Nat.le_of_ble_eq_true rfl) dX2_buryDying_41 hK hP (hD0.addr rfl) hS hA [5, 6] rfl rfl rfl rfl ⟨Nat.zero_le _, Nat.zero_le _⟩ (fun H locs hP hD hS => ?_)
  refine lv_iconst (v := 1) hx hb dX2_buryDying_44 (by decide) ?_
  refine lv_isub hx hb dX2_buryDying_45 ?_
  refine lv_topi (fun v_29 ev_29 => ?_)
  replace hf := nm_of ev_29 hf
  refine lv_istore_n (lv' := [(2, .int v_29), (0, .ref (h 0)), (1, .int y1_23)]) hx hb dX2_buryDying_46 rfl hl (by decide) rfl (fun ls hl => ?_)
  obtain ⟨rG_30, fG_31, hL_32, hf⟩ := bd2_of hf
  refine loop_47 _ y1_23 rL_24 fL_25 di rG_30 fG_31 (fun H locs ls hP hS hl => ?_) FU v_29 rG fG _ _ _ hL_32 hP hS (lv_sub hl [1, 2, 0] rfl)
  refine lv_aload_n hx hb dX2_buryDying_77 rfl (lv_at hl 0 rfl) ?_
  refine lv_dup hx hb dX2_buryDying_78 rfl ?_
  refine va_get (D := X.1) (ci := 2) (v := .int di) (C := RX2) (T := TX2) (N := 9) hx hb hts hiX2 hown hK.1 hP 0 rfl rfl 6 (by decide) k48 (fun _ h9 => h9) rfl dX2_buryDying_79 ?_
  refine lv_iload_n hx hb dX2_buryDying_82 rfl (lv_at hl 1 rfl) ?_
  refine lv_iadd hx hb dX2_buryDying_83 ?_
  refine lv_topi (fun v_33 ev_33 => ?_)
  replace hf := nm_of ev_33 hf
  refine va_put (D := X.1) (ci := 2) (v := .int v_33) (ty := .int) (C := RX2) (T := TX2) (N := 9) hx hb hts hiX2 tyX2 tyX2_ok nmX2 hown hK.1 hP (hD0.addr rfl) hS 0 rfl rfl 6 (by decide) k48 (fun _ h9 => h9) rfl (by decide +kernel) rfl rfl (Nat.le_of_ble_eq_true rfl) dX2_buryDying_84 (fun H locs hP hD hS => ?_)
  have hP : va_P X.1 vwCl (wHo X h rP fP rT fT rG_30 fG_31 rL_24 fL_25 rH fH gi v_33 re ti) H := hP
  refine lv_iload_n hx hb dX2_buryDying_87 rfl (lv_at hl 1 rfl) ?_
  cases hf
  exact fn_iret hx hb hr hlocks hP hS dX2_buryDying_88

def f_X2_changeMood (x1 : Int32) (x2 : Int32) (rP : Int32) (fP : (Nat → Int32)) (rT : Int32) (fT : (Nat → Int32)) (rG : Int32) (fG : (Nat → Int32)) (rL : Int32) (fL : (Nat → Int32)) (rH : Int32) (fH : (Nat → Int32)) (di : Int32) (ti : Int32) : Option (Int32 × (Nat → Int32) × Int32 × (Nat → Int32) × Int32 × (Nat → Int32) × (Nat → Int32) × Int32) :=
  bd (f_X3_at (2 : Int32) 20 x1 (0 : Int32) rP fP) (fun r_1 =>
  nm (r_1 + x2) (fun v_3 =>
  nm (if (0 : Int32) < (if v_3 < (100 : Int32) then v_3 else (100 : Int32)) then (if v_3 < (100 : Int32) then v_3 else (100 : Int32)) else (0 : Int32)) (fun v_4 =>
  bd (f_X3_put (2 : Int32) 20 x1 (0 : Int32) v_4 rP fP) (fun fP_5 =>
  bd6 (f_X2_buryDying rP fP_5 rG fG rL fL di ti) (fun r_7 rG_8 fG_9 rL_10 fL_11 di_12 =>
  if r_7 ≤ (0 : Int32) then
  (some (v_4, fP_5, rG_8, fG_9, rL_10, fL_11, fH, di_12))
  else
  (bd (f_X2_settle rT fT rG_8 fG_9 rH fH) (fun fH_15 =>
  some (v_4, fP_5, rG_8, fG_9, rL_10, fL_11, fH_15, di_12))))))))
set_option maxHeartbeats 4000000 in
set_option maxRecDepth 100000 in
theorem c_X2_changeMood (l : Launch) (X : cx_G) (h : (Nat → Nat)) (rP : Int32) (fP : (Nat → Int32)) (rT : Int32) (fT : (Nat → Int32)) (rG : Int32) (fG : (Nat → Int32)) (rL : Int32) (fL : (Nat → Int32)) (rH : Int32) (fH : (Nat → Int32)) (gi : Int32) (di : Int32) (re : Int32) (ti : Int32) (x1 : Int32) (x2 : Int32) (r : Int32) (fP' : (Nat → Int32)) (rG' : Int32) (fG' : (Nat → Int32)) (rL' : Int32) (fL' : (Nat → Int32)) (fH' : (Nat → Int32)) (di' : Int32) (hf : f_X2_changeMood x1 x2 rP fP rT fT rG fG rL fL rH fH di ti = some (r, fP', rG', fG', rL', fL', fH', di')) : Fn l yX2_changeMood wsX2_changeMood ({ frames := 3, cells := 0, slots := 0, locals := 74 } : Room) X [.ref (h 0), .int x1, .int x2] (wHo X h rP fP rT fT rG fG rL fL rH fH gi di re ti) (some (.int r)) (wHo X h rP fP' rT fT rG' fG' rL' fL' rH fH' gi di' re ti) := by
  refine fn_intro (cc := cX2_changeMood) (maxL := 5) (ret := (some .int)) (by decide) rfl rfl (Nat.le_of_ble_eq_true rfl) ?_
  intro p e s m args below meth c A ls hx hb hml hr hts hown hlocks hK hP hD0 hS hA hl
  have hown : s.vm.findClass RX2 = some m.cls := hown
  have hl : lv_has ls 5 [(0, .ref (h 0)), (1, .int x1), (2, .int x2)] := hl
  have hiX2 : ∀ w ∈ u_ws RX2 TX2 9, w ∈ wsX2_changeMood := by decide +kernel
  have k14 := hts (.fieldLink RX2 14 "LentRights$House" "persons" "LLentRights$Table;") (by decide +kernel)
  unfold f_X2_changeMood at hf
  refine lv_aload_n hx hb dX2_changeMood_0 rfl (lv_at hl 0 rfl) ?_
  refine va_get (D := X.1) (ci := 2) (v := .ref (h 1)) (C := RX2) (T := TX2) (N := 9) hx hb hts hiX2 hown hK.1 hP 0 rfl rfl 0 (by decide) k14 (fun _ h9 => h9) rfl dX2_changeMood_1 ?_
  refine lv_iload_n hx hb dX2_changeMood_4 rfl (lv_at hl 1 rfl) ?_
  refine lv_iconst (v := 0) hx hb dX2_changeMood_5 (by decide) ?_
  obtain ⟨r_1, hc_2, hf⟩ := bd_of hf
  refine fn_V (v := some (.int r_1)) (As := [.int x1, .int (0 : Int32)]) (rest := []) (st1 := [.int r_1]) (ws' := (wHo X h rP fP rT fT rG fG rL fL rH fH gi di re ti)) (nL := 5) ⟨hx, hb, hml, hown, hts⟩ (c_X3_at l X (h 1) (h 2) (10 : Int32) (2 : Int32) 20 rP fP x1 (0 : Int32) r_1 hc_2) (cwV 2 hts gX2_changeMood_X3_at rfl rfl rfl (by decide +kernel) ⟨Nat.le_of_ble_eq_true rfl, Nat.le_of_ble_eq_true rfl⟩) 3 rfl rfl rfl rfl hl.1 rfl (Nat.le_of_ble_eq_true rfl) dX2_changeMood_6 hK hP (hD0.addr rfl) hS hA [1, 2] rfl rfl rfl rfl ⟨Nat.zero_le _, Nat.zero_le _⟩ (fun H locs hP hD hS => ?_)
  refine lv_iload_n hx hb dX2_changeMood_9 rfl (lv_at hl 2 rfl) ?_
  refine lv_iadd hx hb dX2_changeMood_10 ?_
  refine lv_topi (fun v_3 ev_3 => ?_)
  replace hf := nm_of ev_3 hf
  refine lv_istore_n (lv' := [(3, .int v_3), (0, .ref (h 0)), (1, .int x1), (2, .int x2)]) hx hb dX2_changeMood_11 rfl hl (by decide) rfl (fun ls hl => ?_)
  refine lv_iconst (v := 0) hx hb dX2_changeMood_12 (by decide) ?_
  refine lv_bipush (v := 100) hx hb dX2_changeMood_13 (by decide) ?_
  refine lv_iload_n hx hb dX2_changeMood_15 rfl (lv_at hl 0 rfl) ?_
  refine va_mmin hx hb (hml.trans hl.1.symm) hown (hts (.methodLink RX2 89 Lib.Math.min.name) (by decide +kernel)) (hts (.static Lib.Math.min.name) (by decide +kernel)) (hts (.initialized "java/lang/Math") (by decide +kernel)) (hts (.code Lib.Math.min.name Lib.Math.min.code 2 (some .int)) (by decide +kernel)) (Nat.le_of_ble_eq_true rfl) (Nat.le_of_ble_eq_true rfl) (Nat.zero_le _) (Nat.zero_le _) dX2_changeMood_16 ?_
  refine va_mmax hx hb (hml.trans hl.1.symm) hown (hts (.methodLink RX2 94 Lib.Math.max.name) (by decide +kernel)) (hts (.static Lib.Math.max.name) (by decide +kernel)) (hts (.initialized "java/lang/Math") (by decide +kernel)) (hts (.code Lib.Math.max.name Lib.Math.max.code 2 (some .int)) (by decide +kernel)) (Nat.le_of_ble_eq_true rfl) (Nat.le_of_ble_eq_true rfl) (Nat.zero_le _) (Nat.zero_le _) dX2_changeMood_19 ?_
  refine lv_topi (fun v_4 ev_4 => ?_)
  replace hf := nm_of ev_4 hf
  refine lv_istore (lv' := [(4, .int v_4), (3, .int v_3), (0, .ref (h 0)), (1, .int x1), (2, .int x2)]) hx hb dX2_changeMood_22 hl (by decide) rfl (fun ls hl => ?_)
  refine lv_aload_n hx hb dX2_changeMood_24 rfl (lv_at hl 2 rfl) ?_
  refine va_get (D := X.1) (ci := 2) (v := .ref (h 1)) (C := RX2) (T := TX2) (N := 9) hx hb hts hiX2 hown hK.1 hP 0 rfl rfl 0 (by decide) k14 (fun _ h9 => h9) rfl dX2_changeMood_25 ?_
  refine lv_iload_n hx hb dX2_changeMood_28 rfl (lv_at hl 3 rfl) ?_
  refine lv_iconst (v := 0) hx hb dX2_changeMood_29 (by decide) ?_
  refine lv_iload hx hb dX2_changeMood_30 (lv_at hl 0 rfl) ?_
  obtain ⟨fP_5, hc_6, hf⟩ := bd_of hf
  refine fn_V (v := none) (As := [.int x1, .int (0 : Int32), .int v_4]) (rest := []) (st1 := []) (ws' := (wHo X h rP fP_5 rT fT rG fG rL fL rH fH gi di re ti)) (nL := 5) ⟨hx, hb, hml, hown, hts⟩ (c_X3_put l X (h 1) (h 2) (10 : Int32) (2 : Int32) 20 rP fP x1 (0 : Int32) v_4 fP_5 hc_6) (cwV 3 hts gX2_changeMood_X3_put rfl rfl rfl (by decide +kernel) ⟨Nat.le_of_ble_eq_true rfl, Nat.le_of_ble_eq_true rfl⟩) 3 rfl rfl rfl rfl hl.1 rfl (Nat.le_of_ble_eq_true rfl) dX2_changeMood_32 hK hP (hD0.addr rfl) hS hA [1, 2] rfl rfl rfl rfl ⟨Nat.zero_le _, Nat.zero_le _⟩ (fun H locs hP hD hS => ?_)
  refine lv_aload_n hx hb dX2_changeMood_35 rfl (lv_at hl 2 rfl) ?_
  obtain ⟨r_7, rG_8, fG_9, rL_10, fL_11, di_12, hc_13, hf⟩ := bd6_of hf
  refine fn_V (v := some (.int r_7)) (As := []) (rest := []) (st1 := [.int r_7]) (ws' := (wHo X h rP fP_5 rT fT rG_8 fG_9 rL_10 fL_11 rH fH gi di_12 re ti)) (nL := 5) ⟨hx, hb, hml, hown, hts⟩ (c_X2_buryDying l X h rP fP_5 rT fT rG fG rL fL rH fH gi di re ti r_7 rG_8 fG_9 rL_10 fL_11 di_12 hc_13) (cwV 0 hts gX2_changeMood_X2_buryDying rfl rfl rfl (by decide +kernel) ⟨Nat.le_of_ble_eq_true rfl, Nat.le_of_ble_eq_true rfl⟩) 2 rfl rfl rfl rfl hl.1 rfl (Nat.le_of_ble_eq_true rfl) dX2_changeMood_36 hK hP (hD0.addr rfl) hS hA [0, 1, 2, 3, 4, 5, 6, 7, 8, 9, 10] rfl rfl rfl rfl ⟨Nat.zero_le _, Nat.zero_le _⟩ (fun H locs hP hD hS => ?_)
  refine lv_if_le (tgt := 46) hx hb dX2_changeMood_39 (by decide) (fun c_14 => ?_) (fun c_14 => ?_)
  · replace hf := fp_t c_14 hf
    refine lv_iload hx hb dX2_changeMood_46 (lv_at hl 0 rfl) ?_
    cases hf
    exact fn_iret hx hb hr hlocks hP hS dX2_changeMood_48
  · replace hf := fp_f c_14 hf
    refine lv_aload_n hx hb dX2_changeMood_42 rfl (lv_at hl 2 rfl) ?_
    obtain ⟨fH_15, hc_16, hf⟩ := bd_of hf
    refine fn_V (v := none) (As := []) (rest := []) (st1 := []) (ws' := (wHo X h rP fP_5 rT fT rG_8 fG_9 rL_10 fL_11 rH fH_15 gi di_12 re ti)) (nL := 5) ⟨hx, hb, hml, hown, hts⟩ (c_X2_settle l X h rP fP_5 rT fT rG_8 fG_9 rL_10 fL_11 rH fH gi di_12 re ti fH_15 hc_16) (cwV 0 hts gX2_changeMood_X2_settle rfl rfl rfl (by decide +kernel) ⟨Nat.le_of_ble_eq_true rfl, Nat.le_of_ble_eq_true rfl⟩) 2 rfl rfl rfl rfl hl.1 rfl (Nat.le_of_ble_eq_true rfl) dX2_changeMood_43 hK hP (hD0.addr rfl) hS hA [0, 1, 2, 3, 4, 5, 6, 7, 8, 9, 10] rfl rfl rfl rfl ⟨Nat.zero_le _, Nat.zero_le _⟩ (fun H locs hP hD hS => ?_)
    refine lv_iload hx hb dX2_changeMood_46 (lv_at hl 0 rfl) ?_
    cases hf
    exact fn_iret hx hb hr hlocks hP hS dX2_changeMood_48

def f_X2_letPass_L12 (rP : Int32) : Nat → Int32 → (Nat → Int32) →  Option ((Nat → Int32))
  | 0, _, _ => none
  | k_ + 1, x4, fP =>
    if (10 : Int32) ≤ x4 then
    (some fP)
    else
    (bd (f_X2_calm x4 rP fP) (fun fP_2 =>
    nm (x4 + (1 : Int32)) (fun v_4 =>
    f_X2_letPass_L12 rP k_ v_4 fP_2)))
def f_X2_letPass_L4 (x1 : Int32) (rP : Int32) : Nat → Int32 → Int32 → (Nat → Int32) → Int32 → (Nat → Int32) → Int32 → (Nat → Int32) → Int32 → Int32 →  Option (Int32 × (Nat → Int32) × Int32 × (Nat → Int32) × Int32 × (Nat → Int32) × Int32 × Int32)
  | 0, _, _, _, _, _, _, _, _, _ => none
  | k_ + 1, x2, x3, fP, rG, fG, rL, fL, di, ti =>
    if x1 ≤ x3 then
    (some (x2, fP, rG, fG, rL, fL, di, ti))
    else
    (bd (f_X2_letPass_L12 rP FU (0 : Int32) fP) (fun fP_6 =>
    nm (ti + (1 : Int32)) (fun v_8 =>
    bd6 (f_X2_buryDying rP fP_6 rG fG rL fL di v_8) (fun r_9 rG_10 fG_11 rL_12 fL_13 di_14 =>
    nm (x2 + r_9) (fun v_16 =>
    nm (x3 + (1 : Int32)) (fun v_17 =>
    f_X2_letPass_L4 x1 rP k_ v_16 v_17 fP_6 rG_10 fG_11 rL_12 fL_13 di_14 v_8))))))
def f_X2_letPass (x1 : Int32) (rP : Int32) (fP : (Nat → Int32)) (rT : Int32) (fT : (Nat → Int32)) (rG : Int32) (fG : (Nat → Int32)) (rL : Int32) (fL : (Nat → Int32)) (rH : Int32) (fH : (Nat → Int32)) (di : Int32) (ti : Int32) : Option (Int32 × (Nat → Int32) × Int32 × (Nat → Int32) × Int32 × (Nat → Int32) × (Nat → Int32) × Int32 × Int32) :=
  bd8 (f_X2_letPass_L4 x1 rP FU (0 : Int32) (0 : Int32) fP rG fG rL fL di ti) (fun y2_18 fP_19 rG_20 fG_21 rL_22 fL_23 di_24 ti_25 =>
  if y2_18 ≤ (0 : Int32) then
  (some (y2_18, fP_19, rG_20, fG_21, rL_22, fL_23, fH, di_24, ti_25))
  else
  (bd (f_X2_settle rT fT rG_20 fG_21 rH fH) (fun fH_28 =>
  some (y2_18, fP_19, rG_20, fG_21, rL_22, fL_23, fH_28, di_24, ti_25))))
set_option maxHeartbeats 4000000 in
set_option maxRecDepth 100000 in
theorem c_X2_letPass (l : Launch) (X : cx_G) (h : (Nat → Nat)) (rP : Int32) (fP : (Nat → Int32)) (rT : Int32) (fT : (Nat → Int32)) (rG : Int32) (fG : (Nat → Int32)) (rL : Int32) (fL : (Nat → Int32)) (rH : Int32) (fH : (Nat → Int32)) (gi : Int32) (di : Int32) (re : Int32) (ti : Int32) (x1 : Int32) (r : Int32) (fP' : (Nat → Int32)) (rG' : Int32) (fG' : (Nat → Int32)) (rL' : Int32) (fL' : (Nat → Int32)) (fH' : (Nat → Int32)) (di' : Int32) (ti' : Int32) (hf : f_X2_letPass x1 rP fP rT fT rG fG rL fL rH fH di ti = some (r, fP', rG', fG', rL', fL', fH', di', ti')) : Fn l yX2_letPass wsX2_letPass ({ frames := 3, cells := 0, slots := 0, locals := 74 } : Room) X [.ref (h 0), .int x1] (wHo X h rP fP rT fT rG fG rL fL rH fH gi di re ti) (some (.int r)) (wHo X h rP fP' rT fT rG' fG' rL' fL' rH fH' gi di' re ti') := by
  refine fn_intro (cc := cX2_letPass) (maxL := 5) (ret := (some .int)) (by decide) rfl rfl (Nat.le_of_ble_eq_true rfl) ?_
  intro p e s m args below meth c A ls hx hb hml hr hts hown hlocks hK hP hD0 hS hA hl
  have hown : s.vm.findClass RX2 = some m.cls := hown
  have hl : lv_has ls 5 [(0, .ref (h 0)), (1, .int x1)] := hl
  have hiX2 : ∀ w ∈ u_ws RX2 TX2 9, w ∈ wsX2_letPass := by decide +kernel
  have k54 := hts (.fieldLink RX2 54 "LentRights$House" "time" "I") (by decide +kernel)
  have loop_12 : ∀ (Q : State → Prop) (x2 : Int32) (x3 : Int32) (rG : Int32) (fG : (Nat → Int32)) (rL : Int32) (fL : (Nat → Int32)) (fH : (Nat → Int32)) (di : Int32) (ti : Int32) (fPo : (Nat → Int32)), (∀ (H : Heap) (locs : List Loc) (ls : Array Slot), va_P X.1 vwCl (wHo X h rP fPo rT fT rG fG rL fL rH fH gi di re ti) H → va_S A s.heap H locs → lv_has ls 5 [(0, .ref (h 0)), (1, .int x1), (2, .int x2), (3, .int x3)] → W p l e ({ frames := 3, cells := 0, slots := 0, locals := 74 } : Room) s m args below meth c H locs 0 0 Q (F0 m 31 ls [])) → ∀ (k_ : Nat) (x4 : Int32) (fP : (Nat → Int32)) (H : Heap) (locs : List Loc) (ls : Array Slot), f_X2_letPass_L12 rP k_ x4 fP = some fPo → va_P X.1 vwCl (wHo X h rP fP rT fT rG fG rL fL rH fH gi di re ti) H → va_S A s.heap H locs → lv_has ls 5 [(0, .ref (h 0)), (1, .int x1), (2, .int x2), (3, .int x3), (4, .int x4)] → W p l e ({ frames := 3, cells := 0, slots := 0, locals := 74 } : Room) s m args below meth c H locs 0 0 Q (F0 m 12 ls []) := by
    intro Q x2 x3 rG fG rL fL fH di ti fPo kx k_
    induction k_ with
    | zero => intro x4 fP H locs ls hf; exact nomatch (show (none : Option ((Nat → Int32))) = some _ from hf)
    | succ k_ ih =>
      intro x4 fP H locs ls hf hP hS hl
      unfold f_X2_letPass_L12 at hf
      refine lv_iload hx hb dX2_letPass_12 (lv_at hl 4 rfl) ?_
      refine lv_bipush (v := 10) hx hb dX2_letPass_14 (by decide) ?_
      refine lv_icmp_ge (tgt := 31) hx hb dX2_letPass_16 (by decide) (fun c_1 => ?_) (fun c_1 => ?_)
      · replace hf := fp_t c_1 hf
        cases hf
        exact kx _ _ _ hP hS (lv_sub hl [0, 1, 2, 3] rfl)
      · replace hf := fp_f c_1 hf
        refine lv_aload_n hx hb dX2_letPass_19 rfl (lv_at hl 0 rfl) ?_
        refine lv_iload hx hb dX2_letPass_20 (lv_at hl 4 rfl) ?_
        obtain ⟨fP_2, hc_3, hf⟩ := bd_of hf
        refine fn_V (v := none) (As := [.int x4]) (rest := []) (st1 := []) (ws' := (wHo X h rP fP_2 rT fT rG fG rL fL rH fH gi di re ti)) (nL := 5) ⟨hx, hb, hml, hown, hts⟩ (c_X2_calm l X h rP fP rT fT rG fG rL fL rH fH gi di re ti x4 fP_2 hc_3) (cwV 1 hts gX2_letPass_X2_calm rfl rfl rfl (by decide +kernel) ⟨Nat.le_of_ble_eq_true rfl, Nat.le_of_ble_eq_true rfl⟩) 2 rfl rfl rfl rfl hl.1 rfl (Nat.le_of_ble_eq_true rfl) dX2_letPass_22 hK hP (hD0.addr rfl) hS hA [0, 1, 2, 3, 4, 5, 6, 7, 8, 9, 10] rfl rfl rfl rfl ⟨Nat.zero_le _, Nat.zero_le _⟩ (fun H locs hP hD hS => ?_)
        obtain ⟨v_4, ev_4⟩ : ∃ y : Int32, y = x4 + (1 : Int32) := ⟨_, rfl⟩
        replace hf := nm_of ev_4 hf
        refine lv_iinc (v := v_4) (lv' := [(4, .int v_4), (0, .ref (h 0)), (1, .int x1), (2, .int x2), (3, .int x3)]) hx hb dX2_letPass_25 hl (k := 4) rfl (by rw [ev_4]; rfl) (by decide) rfl (fun ls hl => ?_)
        refine lv_goto (tgt := 12) hx hb dX2_letPass_28 (by decide) ?_
        exact ih v_4 fP_2 _ _ _ hf hP hS (lv_sub hl [1, 2, 3, 4, 0] rfl)
  have loop_4 : ∀ (Q : State → Prop) (fH : (Nat → Int32)) (y2 : Int32) (fPo : (Nat → Int32)) (rGo : Int32) (fGo : (Nat → Int32)) (rLo : Int32) (fLo : (Nat → Int32)) (dio : Int32) (tio : Int32), (∀ (H : Heap) (locs : List Loc) (ls : Array Slot), va_P X.1 vwCl (wHo X h rP fPo rT fT rGo fGo rLo fLo rH fH gi dio re tio) H → va_S A s.heap H locs → lv_has ls 5 [(0, .ref (h 0)), (2, .int y2)] → W p l e ({ frames := 3, cells := 0, slots := 0, locals := 74 } : Room) s m args below meth c H locs 0 0 Q (F0 m 54 ls [])) → ∀ (k_ : Nat) (x2 : Int32) (x3 : Int32) (fP : (Nat → Int32)) (rG : Int32) (fG : (Nat → Int32)) (rL : Int32) (fL : (Nat → Int32)) (di : Int32) (ti : Int32) (H : Heap) (locs : List Loc) (ls : Array Slot), f_X2_letPass_L4 x1 rP k_ x2 x3 fP rG fG rL fL di ti = some (y2, fPo, rGo, fGo, rLo, fLo, dio, tio) → va_P X.1 vwCl (wHo X h rP fP rT fT rG fG rL fL rH fH gi di re ti) H → va_S A s.heap H locs → lv_has ls 5 [(0, .ref (h 0)), (1, .int x1), (2, .int x2), (3, .int x3)] → W p l e ({ frames := 3, cells := 0, slots := 0, locals := 74 } : Room) s m args below meth c H locs 0 0 Q (F0 m 4 ls []) := by
    intro Q fH y2 fPo rGo fGo rLo fLo dio tio kx k_
    induction k_ with
    | zero => intro x2 x3 fP rG fG rL fL di ti H locs ls hf; exact nomatch (show (none : Option (Int32 × (Nat → Int32) × Int32 × (Nat → Int32) × Int32 × (Nat → Int32) × Int32 × Int32)) = some _ from hf)
    | succ k_ ih =>
      intro x2 x3 fP rG fG rL fL di ti H locs ls hf hP hS hl
      unfold f_X2_letPass_L4 at hf
      refine lv_iload_n hx hb dX2_letPass_4 rfl (lv_at hl 3 rfl) ?_
      refine lv_iload_n hx hb dX2_letPass_5 rfl (lv_at hl 1 rfl) ?_
      refine lv_icmp_ge (tgt := 54) hx hb dX2_letPass_6 (by decide) (fun c_5 => ?_) (fun c_5 => ?_)
      · replace hf := fp_t c_5 hf
        cases hf
        exact kx _ _ _ hP hS (lv_sub hl [0, 2] rfl)
      · replace hf := fp_f c_5 hf
        refine lv_iconst (v := 0) hx hb dX2_letPass_9 (by decide) ?_
        refine lv_istore (lv' := [(4, .int (0 : Int32)), (0, .ref (h 0)), (1, .int x1), (2, .int x2), (3, .int x3)]) hx hb dX2_letPass_10 hl (by decide) rfl (fun ls hl => ?_)
        obtain ⟨fP_6, hL_7, hf⟩ := bd_of hf
        refine loop_12 _ x2 x3 rG fG rL fL fH di ti fP_6 (fun H locs ls hP hS hl => ?_) FU (0 : Int32) fP _ _ _ hL_7 hP hS (lv_sub hl [1, 2, 3, 4, 0] rfl)
        refine lv_aload_n hx hb dX2_letPass_31 rfl (lv_at hl 0 rfl) ?_
        refine lv_dup hx hb dX2_letPass_32 rfl ?_
        refine va_get (D := X.1) (ci := 2) (v := .int ti) (C := RX2) (T := TX2) (N := 9) hx hb hts hiX2 hown hK.1 hP 0 rfl rfl 8 (by decide) k54 (fun _ h9 => h9) rfl dX2_letPass_33 ?_
        refine lv_iconst (v := 1) hx hb dX2_letPass_36 (by decide) ?_
        refine lv_iadd hx hb dX2_letPass_37 ?_
        refine lv_topi (fun v_8 ev_8 => ?_)
        replace hf := nm_of ev_8 hf
        refine va_put (D := X.1) (ci := 2) (v := .int v_8) (ty := .int) (C := RX2) (T := TX2) (N := 9) hx hb hts hiX2 tyX2 tyX2_ok nmX2 hown hK.1 hP (hD0.addr rfl) hS 0 rfl rfl 8 (by decide) k54 (fun _ h9 => h9) rfl (by decide +kernel) rfl rfl (Nat.le_of_ble_eq_true rfl) dX2_letPass_38 (fun H locs hP hD hS => ?_)
        have hP : va_P X.1 vwCl (wHo X h rP fP_6 rT fT rG fG rL fL rH fH gi di re v_8) H := hP
        refine lv_iload_n hx hb dX2_letPass_41 rfl (lv_at hl 2 rfl) ?_
        refine lv_aload_n hx hb dX2_letPass_42 rfl (lv_at hl 0 rfl) ?_
        obtain ⟨r_9, rG_10, fG_11, rL_12, fL_13, di_14, hc_15, hf⟩ := bd6_of hf
        refine fn_V (v := some (.int r_9)) (As := []) (rest := [.int x2]) (st1 := [.int r_9, .int x2]) (ws' := (wHo X h rP fP_6 rT fT rG_10 fG_11 rL_12 fL_13 rH fH gi di_14 re v_8)) (nL := 5) ⟨hx, hb, hml, hown, hts⟩ (c_X2_buryDying l X h rP fP_6 rT fT rG fG rL fL rH fH gi di re v_8 r_9 rG_10 fG_11 rL_12 fL_13 di_14 hc_15) (cwV 0 hts gX2_letPass_X2_buryDying rfl rfl rfl (by decide +kernel) ⟨Nat.le_of_ble_eq_true rfl, Nat.le_of_ble_eq_true rfl⟩) 2 rfl rfl rfl rfl hl.1 rfl (Nat.le_of_ble_eq_true rfl) dX2_letPass_43 hK hP (hD0.addr rfl) hS hA [0, 1, 2, 3, 4, 5, 6, 7, 8, 9, 10] rfl rfl rfl rfl ⟨Nat.zero_le _, Nat.zero_le _⟩ (fun H locs hP hD hS => ?_)
        refine lv_iadd hx hb dX2_letPass_46 ?_
        refine lv_topi (fun v_16 ev_16 => ?_)
        replace hf := nm_of ev_16 hf
        refine lv_istore_n (lv' := [(2, .int v_16), (0, .ref (h 0)), (1, .int x1), (3, .int x3)]) hx hb dX2_letPass_47 rfl hl (by decide) rfl (fun ls hl => ?_)
        obtain ⟨v_17, ev_17⟩ : ∃ y : Int32, y = x3 + (1 : Int32) := ⟨_, rfl⟩
        replace hf := nm_of ev_17 hf
        refine lv_iinc (v := v_17) (lv' := [(3, .int v_17), (2, .int v_16), (0, .ref (h 0)), (1, .int x1)]) hx hb dX2_letPass_48 hl (k := 3) rfl (by rw [ev_17]; rfl) (by decide) rfl (fun ls hl => ?_)
        refine lv_goto (tgt := 4) hx hb dX2_letPass_51 (by decide) ?_
        exact ih v_16 v_17 fP_6 rG_10 fG_11 rL_12 fL_13 di_14 v_8 _ _ _ hf hP hS (lv_sub hl [2, 3, 1, 0] rfl)
  unfold f_X2_letPass at hf
  refine lv_iconst (v := 0) hx hb dX2_letPass_0 (by decide) ?_
  refine lv_istore_n (lv' := [(2, .int (0 : Int32)), (0, .ref (h 0)), (1, .int x1)]) hx hb dX2_letPass_1 rfl hl (by decide) rfl (fun ls hl => ?_)
  refine lv_iconst (v := 0) hx hb dX2_letPass_2 (by decide) ?_
  refine lv_istore_n (lv' := [(3, .int (0 : Int32)), (2, .int (0 : Int32)), (0, .ref (h 0)), (1, .int x1)]) hx hb dX2_letPass_3 rfl hl (by decide) rfl (fun ls hl => ?_)
  obtain ⟨y2_18, fP_19, rG_20, fG_21, rL_22, fL_23, di_24, ti_25, hL_26, hf⟩ := bd8_of hf
  refine loop_4 _ fH y2_18 fP_19 rG_20 fG_21 rL_22 fL_23 di_24 ti_25 (fun H locs ls hP hS hl => ?_) FU (0 : Int32) (0 : Int32) fP rG fG rL fL di ti _ _ _ hL_26 hP hS (lv_sub hl [2, 3, 1, 0] rfl)
  refine lv_iload_n hx hb dX2_letPass_54 rfl (lv_at hl 1 rfl) ?_
  refine lv_if_le (tgt := 62) hx hb dX2_letPass_55 (by decide) (fun c_27 => ?_) (fun c_27 => ?_)
  · replace hf := fp_t c_27 hf
    refine lv_iload_n hx hb dX2_letPass_62 rfl (lv_at hl 1 rfl) ?_
    cases hf
    exact fn_iret hx hb hr hlocks hP hS dX2_letPass_63
  · replace hf := fp_f c_27 hf
    refine lv_aload_n hx hb dX2_letPass_58 rfl (lv_at hl 0 rfl) ?_
    obtain ⟨fH_28, hc_29, hf⟩ := bd_of hf
    refine fn_V (v := none) (As := []) (rest := []) (st1 := []) (ws' := (wHo X h rP fP_19 rT fT rG_20 fG_21 rL_22 fL_23 rH fH_28 gi di_24 re ti_25)) (nL := 5) ⟨hx, hb, hml, hown, hts⟩ (c_X2_settle l X h rP fP_19 rT fT rG_20 fG_21 rL_22 fL_23 rH fH gi di_24 re ti_25 fH_28 hc_29) (cwV 0 hts gX2_letPass_X2_settle rfl rfl rfl (by decide +kernel) ⟨Nat.le_of_ble_eq_true rfl, Nat.le_of_ble_eq_true rfl⟩) 2 rfl rfl rfl rfl hl.1 rfl (Nat.le_of_ble_eq_true rfl) dX2_letPass_59 hK hP (hD0.addr rfl) hS hA [0, 1, 2, 3, 4, 5, 6, 7, 8, 9, 10] rfl rfl rfl rfl ⟨Nat.zero_le _, Nat.zero_le _⟩ (fun H locs hP hD hS => ?_)
    refine lv_iload_n hx hb dX2_letPass_62 rfl (lv_at hl 1 rfl) ?_
    cases hf
    exact fn_iret hx hb hr hlocks hP hS dX2_letPass_63

def f_X2_aboutPerson (x1 : Int32) (x2 : Int32) (rP : Int32) (fP : (Nat → Int32)) (rT : Int32) (fT : (Nat → Int32)) (rG : Int32) (fG : (Nat → Int32)) (rH : Int32) (fH : (Nat → Int32)) : Option (Int32) :=
  if x2 = (0 : Int32) then
  (bd (f_X3_at (2 : Int32) 20 x1 (0 : Int32) rP fP) (fun r_2 =>
  some r_2))
  else
  (if x2 = (1 : Int32) then
  (bd (f_X3_at (2 : Int32) 20 x1 (1 : Int32) rP fP) (fun r_5 =>
  some r_5))
  else
  (if x2 = (2 : Int32) then
  (bd (f_X2_countEqual (2 : Int32) 16 (0 : Int32) x1 rT fT) (fun r_8 =>
  some r_8))
  else
  (if x2 = (3 : Int32) then
  (bd (f_X2_thingsSeenBy x1 rT rH fH) (fun r_11 =>
  bd (f_J6_bitCount_0f7a4 r_11) (fun r_13 =>
  some r_13)))
  else
  (if x2 = (4 : Int32) then
  (bd (f_X2_countEqual (6 : Int32) 240 (0 : Int32) x1 rG fG) (fun r_16 =>
  some r_16))
  else
  (if x2 = (5 : Int32) then
  (bd (f_X2_countEqual (6 : Int32) 240 (1 : Int32) x1 rG fG) (fun r_19 =>
  some r_19))
  else
  (bd (f_X2_thingsSeenBy x1 rT rH fH) (fun r_21 =>
  some r_21)))))))
set_option maxHeartbeats 4000000 in
set_option maxRecDepth 100000 in
theorem c_X2_aboutPerson (l : Launch) (X : cx_G) (h : (Nat → Nat)) (rP : Int32) (fP : (Nat → Int32)) (rT : Int32) (fT : (Nat → Int32)) (rG : Int32) (fG : (Nat → Int32)) (rL : Int32) (fL : (Nat → Int32)) (rH : Int32) (fH : (Nat → Int32)) (gi : Int32) (di : Int32) (re : Int32) (ti : Int32) (x1 : Int32) (x2 : Int32) (r : Int32) (hf : f_X2_aboutPerson x1 x2 rP fP rT fT rG fG rH fH = some r) : Fn l yX2_aboutPerson wsX2_aboutPerson ({ frames := 2, cells := 0, slots := 0, locals := 48 } : Room) X [.ref (h 0), .int x1, .int x2] (wHo X h rP fP rT fT rG fG rL fL rH fH gi di re ti) (some (.int r)) (wHo X h rP fP rT fT rG fG rL fL rH fH gi di re ti) := by
  refine fn_intro (cc := cX2_aboutPerson) (maxL := 3) (ret := (some .int)) (by decide) rfl rfl (Nat.le_of_ble_eq_true rfl) ?_
  intro p e s m args below meth c A ls hx hb hml hr hts hown hlocks hK hP hD0 hS hA hl
  have hown : s.vm.findClass RX2 = some m.cls := hown
  have hl : lv_has ls 3 [(0, .ref (h 0)), (1, .int x1), (2, .int x2)] := hl
  have hiX2 : ∀ w ∈ u_ws RX2 TX2 9, w ∈ wsX2_aboutPerson := by decide +kernel
  have k14 := hts (.fieldLink RX2 14 "LentRights$House" "persons" "LLentRights$Table;") (by decide +kernel)
  have k20 := hts (.fieldLink RX2 20 "LentRights$House" "things" "LLentRights$Table;") (by decide +kernel)
  have k23 := hts (.fieldLink RX2 23 "LentRights$House" "grants" "LLentRights$Table;") (by decide +kernel)
  unfold f_X2_aboutPerson at hf
  refine lv_iload_n hx hb dX2_aboutPerson_0 rfl (lv_at hl 2 rfl) ?_
  by_cases c_1 : x2 = (0 : Int32)
  · replace hf := fp_t c_1 hf
    refine lv_tableIn (off := 39) (tgt := 40) hx hb dX2_aboutPerson_1 (by rw [c_1]; decide) (by rw [c_1]; decide) (by rw [c_1]; rfl) (by decide) ?_
    refine lv_aload_n hx hb dX2_aboutPerson_40 rfl (lv_at hl 0 rfl) ?_
    refine va_get (D := X.1) (ci := 2) (v := .ref (h 1)) (C := RX2) (T := TX2) (N := 9) hx hb hts hiX2 hown hK.1 hP 0 rfl rfl 0 (by decide) k14 (fun _ h9 => h9) rfl dX2_aboutPerson_41 ?_
    refine lv_iload_n hx hb dX2_aboutPerson_44 rfl (lv_at hl 1 rfl) ?_
    refine lv_iconst (v := 0) hx hb dX2_aboutPerson_45 (by decide) ?_
    obtain ⟨r_2, hc_3, hf⟩ := bd_of hf
    refine fn_V (v := some (.int r_2)) (As := [.int x1, .int (0 : Int32)]) (rest := []) (st1 := [.int r_2]) (ws' := (wHo X h rP fP rT fT rG fG rL fL rH fH gi di re ti)) (nL := 3) ⟨hx, hb, hml, hown, hts⟩ (c_X3_at l X (h 1) (h 2) (10 : Int32) (2 : Int32) 20 rP fP x1 (0 : Int32) r_2 hc_3) (cwV 2 hts gX2_aboutPerson_X3_at rfl rfl rfl (by decide +kernel) ⟨Nat.le_of_ble_eq_true rfl, Nat.le_of_ble_eq_true rfl⟩) 3 rfl rfl rfl rfl hl.1 rfl (Nat.le_of_ble_eq_true rfl) dX2_aboutPerson_46 hK hP (hD0.addr rfl) hS hA [1, 2] rfl rfl rfl rfl ⟨Nat.zero_le _, Nat.zero_le _⟩ (fun H locs hP hD hS => ?_)
    cases hf
    exact fn_iret hx hb hr hlocks hP hS dX2_aboutPerson_49
  · replace hf := fp_f c_1 hf
    by_cases c_4 : x2 = (1 : Int32)
    · replace hf := fp_t c_4 hf
      refine lv_tableIn (off := 49) (tgt := 50) hx hb dX2_aboutPerson_1 (by rw [c_4]; decide) (by rw [c_4]; decide) (by rw [c_4]; rfl) (by decide) ?_
      refine lv_aload_n hx hb dX2_aboutPerson_50 rfl (lv_at hl 0 rfl) ?_
      refine va_get (D := X.1) (ci := 2) (v := .ref (h 1)) (C := RX2) (T := TX2) (N := 9) hx hb hts hiX2 hown hK.1 hP 0 rfl rfl 0 (by decide) k14 (fun _ h9 => h9) rfl dX2_aboutPerson_51 ?_
      refine lv_iload_n hx hb dX2_aboutPerson_54 rfl (lv_at hl 1 rfl) ?_
      refine lv_iconst (v := 1) hx hb dX2_aboutPerson_55 (by decide) ?_
      obtain ⟨r_5, hc_6, hf⟩ := bd_of hf
      refine fn_V (v := some (.int r_5)) (As := [.int x1, .int (1 : Int32)]) (rest := []) (st1 := [.int r_5]) (ws' := (wHo X h rP fP rT fT rG fG rL fL rH fH gi di re ti)) (nL := 3) ⟨hx, hb, hml, hown, hts⟩ (c_X3_at l X (h 1) (h 2) (10 : Int32) (2 : Int32) 20 rP fP x1 (1 : Int32) r_5 hc_6) (cwV 2 hts gX2_aboutPerson_X3_at rfl rfl rfl (by decide +kernel) ⟨Nat.le_of_ble_eq_true rfl, Nat.le_of_ble_eq_true rfl⟩) 3 rfl rfl rfl rfl hl.1 rfl (Nat.le_of_ble_eq_true rfl) dX2_aboutPerson_56 hK hP (hD0.addr rfl) hS hA [1, 2] rfl rfl rfl rfl ⟨Nat.zero_le _, Nat.zero_le _⟩ (fun H locs hP hD hS => ?_)
      cases hf
      exact fn_iret hx hb hr hlocks hP hS dX2_aboutPerson_59
    · replace hf := fp_f c_4 hf
      by_cases c_7 : x2 = (2 : Int32)
      · replace hf := fp_t c_7 hf
        refine lv_tableIn (off := 59) (tgt := 60) hx hb dX2_aboutPerson_1 (by rw [c_7]; decide) (by rw [c_7]; decide) (by rw [c_7]; rfl) (by decide) ?_
        refine lv_aload_n hx hb dX2_aboutPerson_60 rfl (lv_at hl 0 rfl) ?_
        refine va_get (D := X.1) (ci := 2) (v := .ref (h 3)) (C := RX2) (T := TX2) (N := 9) hx hb hts hiX2 hown hK.1 hP 0 rfl rfl 1 (by decide) k20 (fun _ h9 => h9) rfl dX2_aboutPerson_61 ?_
        refine lv_iconst (v := 0) hx hb dX2_aboutPerson_64 (by decide) ?_
        refine lv_iload_n hx hb dX2_aboutPerson_65 rfl (lv_at hl 1 rfl) ?_
        obtain ⟨r_8, hc_9, hf⟩ := bd_of hf
        refine fn_Sx (v := some (.int r_8)) (As := [.ref (h 3), .int (0 : Int32), .int x1]) (rest := []) (st1 := [.int r_8]) (ws' := (wHo X h rP fP rT fT rG fG rL fL rH fH gi di re ti)) (nL := 3) ⟨hx, hb, hml, hown, hts⟩ (c_X2_countEqual l X (h 3) (h 4) (8 : Int32) (2 : Int32) 16 rT fT (0 : Int32) x1 r_8 hc_9) (va_cwS 3 hts gX2_aboutPerson_X2_countEqual rfl rfl rfl (by decide +kernel) ⟨Nat.le_of_ble_eq_true rfl, Nat.le_of_ble_eq_true rfl⟩) rfl hl.1 rfl (Nat.le_of_ble_eq_true rfl) dX2_aboutPerson_66 hK hP (hD0.addr rfl) hS hA [3, 4] rfl rfl rfl rfl ⟨Nat.zero_le _, Nat.zero_le _⟩ (fun H locs hP hD hS => ?_)
        cases hf
        exact fn_iret hx hb hr hlocks hP hS dX2_aboutPerson_69
      · replace hf := fp_f c_7 hf
        by_cases c_10 : x2 = (3 : Int32)
        · replace hf := fp_t c_10 hf
          refine lv_tableIn (off := 69) (tgt := 70) hx hb dX2_aboutPerson_1 (by rw [c_10]; decide) (by rw [c_10]; decide) (by rw [c_10]; rfl) (by decide) ?_
          refine lv_aload_n hx hb dX2_aboutPerson_70 rfl (lv_at hl 0 rfl) ?_
          refine lv_iload_n hx hb dX2_aboutPerson_71 rfl (lv_at hl 1 rfl) ?_
          obtain ⟨r_11, hc_12, hf⟩ := bd_of hf
          refine fn_V (v := some (.int r_11)) (As := [.int x1]) (rest := []) (st1 := [.int r_11]) (ws' := (wHo X h rP fP rT fT rG fG rL fL rH fH gi di re ti)) (nL := 3) ⟨hx, hb, hml, hown, hts⟩ (c_X2_thingsSeenBy l X h rP fP rT fT rG fG rL fL rH fH gi di re ti x1 r_11 hc_12) (cwV 1 hts gX2_aboutPerson_X2_thingsSeenBy rfl rfl rfl (by decide +kernel) ⟨Nat.le_of_ble_eq_true rfl, Nat.le_of_ble_eq_true rfl⟩) 2 rfl rfl rfl rfl hl.1 rfl (Nat.le_of_ble_eq_true rfl) dX2_aboutPerson_72 hK hP (hD0.addr rfl) hS hA [0, 1, 2, 3, 4, 5, 6, 7, 8, 9, 10] rfl rfl rfl rfl ⟨Nat.zero_le _, Nat.zero_le _⟩ (fun H locs hP hD hS => ?_)
          obtain ⟨r_13, hc_14, hf⟩ := bd_of hf
          refine fn_Sx (v := some (.int r_13)) (As := [.int r_11]) (rest := []) (st1 := [.int r_13]) (ws' := (wHo X h rP fP rT fT rG fG rL fL rH fH gi di re ti)) (nL := 3) ⟨hx, hb, hml, hown, hts⟩ (c_J6_bitCount_0f7a4 l X r_11 r_13 hc_14) (va_cwS 1 hts gX2_aboutPerson_J6_bitCount_0f7a4 rfl rfl rfl (by decide +kernel) ⟨Nat.le_of_ble_eq_true rfl, Nat.le_of_ble_eq_true rfl⟩) rfl hl.1 rfl (Nat.le_of_ble_eq_true rfl) dX2_aboutPerson_75 hK hP (hD0.addr rfl) hS hA [] rfl rfl rfl rfl ⟨Nat.zero_le _, Nat.zero_le _⟩ (fun H locs hP hD hS => ?_)
          cases hf
          exact fn_iret hx hb hr hlocks hP hS dX2_aboutPerson_78
        · replace hf := fp_f c_10 hf
          by_cases c_15 : x2 = (4 : Int32)
          · replace hf := fp_t c_15 hf
            refine lv_tableIn (off := 78) (tgt := 79) hx hb dX2_aboutPerson_1 (by rw [c_15]; decide) (by rw [c_15]; decide) (by rw [c_15]; rfl) (by decide) ?_
            refine lv_aload_n hx hb dX2_aboutPerson_79 rfl (lv_at hl 0 rfl) ?_
            refine va_get (D := X.1) (ci := 2) (v := .ref (h 5)) (C := RX2) (T := TX2) (N := 9) hx hb hts hiX2 hown hK.1 hP 0 rfl rfl 2 (by decide) k23 (fun _ h9 => h9) rfl dX2_aboutPerson_80 ?_
            refine lv_iconst (v := 0) hx hb dX2_aboutPerson_83 (by decide) ?_
            refine lv_iload_n hx hb dX2_aboutPerson_84 rfl (lv_at hl 1 rfl) ?_
            obtain ⟨r_16, hc_17, hf⟩ := bd_of hf
            refine fn_Sx (v := some (.int r_16)) (As := [.ref (h 5), .int (0 : Int32), .int x1]) (rest := []) (st1 := [.int r_16]) (ws' := (wHo X h rP fP rT fT rG fG rL fL rH fH gi di re ti)) (nL := 3) ⟨hx, hb, hml, hown, hts⟩ (c_X2_countEqual l X (h 5) (h 6) (40 : Int32) (6 : Int32) 240 rG fG (0 : Int32) x1 r_16 hc_17) (va_cwS 3 hts gX2_aboutPerson_X2_countEqual rfl rfl rfl (by decide +kernel) ⟨Nat.le_of_ble_eq_true rfl, Nat.le_of_ble_eq_true rfl⟩) rfl hl.1 rfl (Nat.le_of_ble_eq_true rfl) dX2_aboutPerson_85 hK hP (hD0.addr rfl) hS hA [5, 6] rfl rfl rfl rfl ⟨Nat.zero_le _, Nat.zero_le _⟩ (fun H locs hP hD hS => ?_)
            cases hf
            exact fn_iret hx hb hr hlocks hP hS dX2_aboutPerson_88
          · replace hf := fp_f c_15 hf
            by_cases c_18 : x2 = (5 : Int32)
            · replace hf := fp_t c_18 hf
              refine lv_tableIn (off := 88) (tgt := 89) hx hb dX2_aboutPerson_1 (by rw [c_18]; decide) (by rw [c_18]; decide) (by rw [c_18]; rfl) (by decide) ?_
              refine lv_aload_n hx hb dX2_aboutPerson_89 rfl (lv_at hl 0 rfl) ?_
              refine va_get (D := X.1) (ci := 2) (v := .ref (h 5)) (C := RX2) (T := TX2) (N := 9) hx hb hts hiX2 hown hK.1 hP 0 rfl rfl 2 (by decide) k23 (fun _ h9 => h9) rfl dX2_aboutPerson_90 ?_
              refine lv_iconst (v := 1) hx hb dX2_aboutPerson_93 (by decide) ?_
              refine lv_iload_n hx hb dX2_aboutPerson_94 rfl (lv_at hl 1 rfl) ?_
              obtain ⟨r_19, hc_20, hf⟩ := bd_of hf
              refine fn_Sx (v := some (.int r_19)) (As := [.ref (h 5), .int (1 : Int32), .int x1]) (rest := []) (st1 := [.int r_19]) (ws' := (wHo X h rP fP rT fT rG fG rL fL rH fH gi di re ti)) (nL := 3) ⟨hx, hb, hml, hown, hts⟩ (c_X2_countEqual l X (h 5) (h 6) (40 : Int32) (6 : Int32) 240 rG fG (1 : Int32) x1 r_19 hc_20) (va_cwS 3 hts gX2_aboutPerson_X2_countEqual rfl rfl rfl (by decide +kernel) ⟨Nat.le_of_ble_eq_true rfl, Nat.le_of_ble_eq_true rfl⟩) rfl hl.1 rfl (Nat.le_of_ble_eq_true rfl) dX2_aboutPerson_95 hK hP (hD0.addr rfl) hS hA [5, 6] rfl rfl rfl rfl ⟨Nat.zero_le _, Nat.zero_le _⟩ (fun H locs hP hD hS => ?_)
              cases hf
              exact fn_iret hx hb hr hlocks hP hS dX2_aboutPerson_98
            · replace hf := fp_f c_18 hf
              have hsw : x2.toInt < 0 ∨ (5 : Int) < x2.toInt := by
                refine sw_out (x := x2) 5 (by decide) ?_
                intro j hj
                have hj2 : j = 0 ∨ j = 1 ∨ j = 2 ∨ j = 3 ∨ j = 4 ∨ j = 5 := by omega
                rcases hj2 with rfl | rfl | rfl | rfl | rfl | rfl
                · exact c_1
                · exact c_4
                · exact c_7
                · exact c_10
                · exact c_15
                · exact c_18
              refine lv_tableOut (tgt := 99) hx hb dX2_aboutPerson_1 hsw (by decide) ?_
              refine lv_aload_n hx hb dX2_aboutPerson_99 rfl (lv_at hl 0 rfl) ?_
              refine lv_iload_n hx hb dX2_aboutPerson_100 rfl (lv_at hl 1 rfl) ?_
              obtain ⟨r_21, hc_22, hf⟩ := bd_of hf
              refine fn_V (v := some (.int r_21)) (As := [.int x1]) (rest := []) (st1 := [.int r_21]) (ws' := (wHo X h rP fP rT fT rG fG rL fL rH fH gi di re ti)) (nL := 3) ⟨hx, hb, hml, hown, hts⟩ (c_X2_thingsSeenBy l X h rP fP rT fT rG fG rL fL rH fH gi di re ti x1 r_21 hc_22) (cwV 1 hts gX2_aboutPerson_X2_thingsSeenBy rfl rfl rfl (by decide +kernel) ⟨Nat.le_of_ble_eq_true rfl, Nat.le_of_ble_eq_true rfl⟩) 2 rfl rfl rfl rfl hl.1 rfl (Nat.le_of_ble_eq_true rfl) dX2_aboutPerson_101 hK hP (hD0.addr rfl) hS hA [0, 1, 2, 3, 4, 5, 6, 7, 8, 9, 10] rfl rfl rfl rfl ⟨Nat.zero_le _, Nat.zero_le _⟩ (fun H locs hP hD hS => ?_)
              cases hf
              exact fn_iret hx hb hr hlocks hP hS dX2_aboutPerson_104

def f_X2_aboutThing (x1 : Int32) (x2 : Int32) (rT : Int32) (fT : (Nat → Int32)) (rG : Int32) (fG : (Nat → Int32)) (rH : Int32) (fH : (Nat → Int32)) : Option (Int32) :=
  if x2 = (0 : Int32) then
  (bd (f_X3_at (2 : Int32) 16 x1 (0 : Int32) rT fT) (fun r_2 =>
  some r_2))
  else
  (if x2 = (1 : Int32) then
  (bd (f_X3_at (2 : Int32) 16 x1 (1 : Int32) rT fT) (fun r_5 =>
  some r_5))
  else
  (if x2 = (2 : Int32) then
  (bd (f_X2_countEqual (6 : Int32) 240 (2 : Int32) x1 rG fG) (fun r_8 =>
  some r_8))
  else
  (if x2 = (3 : Int32) then
  (bd (f_X2_holdersOf x1 (1 : Int32) rH fH) (fun r_11 =>
  some r_11))
  else
  (if x2 = (4 : Int32) then
  (bd (f_X2_holdersOf x1 (2 : Int32) rH fH) (fun r_14 =>
  some r_14))
  else
  (bd (f_X2_holdersOf x1 (4 : Int32) rH fH) (fun r_16 =>
  some r_16))))))
set_option maxHeartbeats 4000000 in
set_option maxRecDepth 100000 in
theorem c_X2_aboutThing (l : Launch) (X : cx_G) (h : (Nat → Nat)) (rP : Int32) (fP : (Nat → Int32)) (rT : Int32) (fT : (Nat → Int32)) (rG : Int32) (fG : (Nat → Int32)) (rL : Int32) (fL : (Nat → Int32)) (rH : Int32) (fH : (Nat → Int32)) (gi : Int32) (di : Int32) (re : Int32) (ti : Int32) (x1 : Int32) (x2 : Int32) (r : Int32) (hf : f_X2_aboutThing x1 x2 rT fT rG fG rH fH = some r) : Fn l yX2_aboutThing wsX2_aboutThing ({ frames := 2, cells := 0, slots := 0, locals := 48 } : Room) X [.ref (h 0), .int x1, .int x2] (wHo X h rP fP rT fT rG fG rL fL rH fH gi di re ti) (some (.int r)) (wHo X h rP fP rT fT rG fG rL fL rH fH gi di re ti) := by
  refine fn_intro (cc := cX2_aboutThing) (maxL := 3) (ret := (some .int)) (by decide) rfl rfl (Nat.le_of_ble_eq_true rfl) ?_
  intro p e s m args below meth c A ls hx hb hml hr hts hown hlocks hK hP hD0 hS hA hl
  have hown : s.vm.findClass RX2 = some m.cls := hown
  have hl : lv_has ls 3 [(0, .ref (h 0)), (1, .int x1), (2, .int x2)] := hl
  have hiX2 : ∀ w ∈ u_ws RX2 TX2 9, w ∈ wsX2_aboutThing := by decide +kernel
  have k20 := hts (.fieldLink RX2 20 "LentRights$House" "things" "LLentRights$Table;") (by decide +kernel)
  have k23 := hts (.fieldLink RX2 23 "LentRights$House" "grants" "LLentRights$Table;") (by decide +kernel)
  unfold f_X2_aboutThing at hf
  refine lv_iload_n hx hb dX2_aboutThing_0 rfl (lv_at hl 2 rfl) ?_
  by_cases c_1 : x2 = (0 : Int32)
  · replace hf := fp_t c_1 hf
    refine lv_tableIn (off := 35) (tgt := 36) hx hb dX2_aboutThing_1 (by rw [c_1]; decide) (by rw [c_1]; decide) (by rw [c_1]; rfl) (by decide) ?_
    refine lv_aload_n hx hb dX2_aboutThing_36 rfl (lv_at hl 0 rfl) ?_
    refine va_get (D := X.1) (ci := 2) (v := .ref (h 3)) (C := RX2) (T := TX2) (N := 9) hx hb hts hiX2 hown hK.1 hP 0 rfl rfl 1 (by decide) k20 (fun _ h9 => h9) rfl dX2_aboutThing_37 ?_
    refine lv_iload_n hx hb dX2_aboutThing_40 rfl (lv_at hl 1 rfl) ?_
    refine lv_iconst (v := 0) hx hb dX2_aboutThing_41 (by decide) ?_
    obtain ⟨r_2, hc_3, hf⟩ := bd_of hf
    refine fn_V (v := some (.int r_2)) (As := [.int x1, .int (0 : Int32)]) (rest := []) (st1 := [.int r_2]) (ws' := (wHo X h rP fP rT fT rG fG rL fL rH fH gi di re ti)) (nL := 3) ⟨hx, hb, hml, hown, hts⟩ (c_X3_at l X (h 3) (h 4) (8 : Int32) (2 : Int32) 16 rT fT x1 (0 : Int32) r_2 hc_3) (cwV 2 hts gX2_aboutThing_X3_at rfl rfl rfl (by decide +kernel) ⟨Nat.le_of_ble_eq_true rfl, Nat.le_of_ble_eq_true rfl⟩) 3 rfl rfl rfl rfl hl.1 rfl (Nat.le_of_ble_eq_true rfl) dX2_aboutThing_42 hK hP (hD0.addr rfl) hS hA [3, 4] rfl rfl rfl rfl ⟨Nat.zero_le _, Nat.zero_le _⟩ (fun H locs hP hD hS => ?_)
    cases hf
    exact fn_iret hx hb hr hlocks hP hS dX2_aboutThing_45
  · replace hf := fp_f c_1 hf
    by_cases c_4 : x2 = (1 : Int32)
    · replace hf := fp_t c_4 hf
      refine lv_tableIn (off := 45) (tgt := 46) hx hb dX2_aboutThing_1 (by rw [c_4]; decide) (by rw [c_4]; decide) (by rw [c_4]; rfl) (by decide) ?_
      refine lv_aload_n hx hb dX2_aboutThing_46 rfl (lv_at hl 0 rfl) ?_
      refine va_get (D := X.1) (ci := 2) (v := .ref (h 3)) (C := RX2) (T := TX2) (N := 9) hx hb hts hiX2 hown hK.1 hP 0 rfl rfl 1 (by decide) k20 (fun _ h9 => h9) rfl dX2_aboutThing_47 ?_
      refine lv_iload_n hx hb dX2_aboutThing_50 rfl (lv_at hl 1 rfl) ?_
      refine lv_iconst (v := 1) hx hb dX2_aboutThing_51 (by decide) ?_
      obtain ⟨r_5, hc_6, hf⟩ := bd_of hf
      refine fn_V (v := some (.int r_5)) (As := [.int x1, .int (1 : Int32)]) (rest := []) (st1 := [.int r_5]) (ws' := (wHo X h rP fP rT fT rG fG rL fL rH fH gi di re ti)) (nL := 3) ⟨hx, hb, hml, hown, hts⟩ (c_X3_at l X (h 3) (h 4) (8 : Int32) (2 : Int32) 16 rT fT x1 (1 : Int32) r_5 hc_6) (cwV 2 hts gX2_aboutThing_X3_at rfl rfl rfl (by decide +kernel) ⟨Nat.le_of_ble_eq_true rfl, Nat.le_of_ble_eq_true rfl⟩) 3 rfl rfl rfl rfl hl.1 rfl (Nat.le_of_ble_eq_true rfl) dX2_aboutThing_52 hK hP (hD0.addr rfl) hS hA [3, 4] rfl rfl rfl rfl ⟨Nat.zero_le _, Nat.zero_le _⟩ (fun H locs hP hD hS => ?_)
      cases hf
      exact fn_iret hx hb hr hlocks hP hS dX2_aboutThing_55
    · replace hf := fp_f c_4 hf
      by_cases c_7 : x2 = (2 : Int32)
      · replace hf := fp_t c_7 hf
        refine lv_tableIn (off := 55) (tgt := 56) hx hb dX2_aboutThing_1 (by rw [c_7]; decide) (by rw [c_7]; decide) (by rw [c_7]; rfl) (by decide) ?_
        refine lv_aload_n hx hb dX2_aboutThing_56 rfl (lv_at hl 0 rfl) ?_
        refine va_get (D := X.1) (ci := 2) (v := .ref (h 5)) (C := RX2) (T := TX2) (N := 9) hx hb hts hiX2 hown hK.1 hP 0 rfl rfl 2 (by decide) k23 (fun _ h9 => h9) rfl dX2_aboutThing_57 ?_
        refine lv_iconst (v := 2) hx hb dX2_aboutThing_60 (by decide) ?_
        refine lv_iload_n hx hb dX2_aboutThing_61 rfl (lv_at hl 1 rfl) ?_
        obtain ⟨r_8, hc_9, hf⟩ := bd_of hf
        refine fn_Sx (v := some (.int r_8)) (As := [.ref (h 5), .int (2 : Int32), .int x1]) (rest := []) (st1 := [.int r_8]) (ws' := (wHo X h rP fP rT fT rG fG rL fL rH fH gi di re ti)) (nL := 3) ⟨hx, hb, hml, hown, hts⟩ (c_X2_countEqual l X (h 5) (h 6) (40 : Int32) (6 : Int32) 240 rG fG (2 : Int32) x1 r_8 hc_9) (va_cwS 3 hts gX2_aboutThing_X2_countEqual rfl rfl rfl (by decide +kernel) ⟨Nat.le_of_ble_eq_true rfl, Nat.le_of_ble_eq_true rfl⟩) rfl hl.1 rfl (Nat.le_of_ble_eq_true rfl) dX2_aboutThing_62 hK hP (hD0.addr rfl) hS hA [5, 6] rfl rfl rfl rfl ⟨Nat.zero_le _, Nat.zero_le _⟩ (fun H locs hP hD hS => ?_)
        cases hf
        exact fn_iret hx hb hr hlocks hP hS dX2_aboutThing_65
      · replace hf := fp_f c_7 hf
        by_cases c_10 : x2 = (3 : Int32)
        · replace hf := fp_t c_10 hf
          refine lv_tableIn (off := 65) (tgt := 66) hx hb dX2_aboutThing_1 (by rw [c_10]; decide) (by rw [c_10]; decide) (by rw [c_10]; rfl) (by decide) ?_
          refine lv_aload_n hx hb dX2_aboutThing_66 rfl (lv_at hl 0 rfl) ?_
          refine lv_iload_n hx hb dX2_aboutThing_67 rfl (lv_at hl 1 rfl) ?_
          refine lv_iconst (v := 1) hx hb dX2_aboutThing_68 (by decide) ?_
          obtain ⟨r_11, hc_12, hf⟩ := bd_of hf
          refine fn_V (v := some (.int r_11)) (As := [.int x1, .int (1 : Int32)]) (rest := []) (st1 := [.int r_11]) (ws' := (wHo X h rP fP rT fT rG fG rL fL rH fH gi di re ti)) (nL := 3) ⟨hx, hb, hml, hown, hts⟩ (c_X2_holdersOf l X h rP fP rT fT rG fG rL fL rH fH gi di re ti x1 (1 : Int32) r_11 hc_12) (cwV 2 hts gX2_aboutThing_X2_holdersOf rfl rfl rfl (by decide +kernel) ⟨Nat.le_of_ble_eq_true rfl, Nat.le_of_ble_eq_true rfl⟩) 2 rfl rfl rfl rfl hl.1 rfl (Nat.le_of_ble_eq_true rfl) dX2_aboutThing_69 hK hP (hD0.addr rfl) hS hA [0, 1, 2, 3, 4, 5, 6, 7, 8, 9, 10] rfl rfl rfl rfl ⟨Nat.zero_le _, Nat.zero_le _⟩ (fun H locs hP hD hS => ?_)
          cases hf
          exact fn_iret hx hb hr hlocks hP hS dX2_aboutThing_72
        · replace hf := fp_f c_10 hf
          by_cases c_13 : x2 = (4 : Int32)
          · replace hf := fp_t c_13 hf
            refine lv_tableIn (off := 72) (tgt := 73) hx hb dX2_aboutThing_1 (by rw [c_13]; decide) (by rw [c_13]; decide) (by rw [c_13]; rfl) (by decide) ?_
            refine lv_aload_n hx hb dX2_aboutThing_73 rfl (lv_at hl 0 rfl) ?_
            refine lv_iload_n hx hb dX2_aboutThing_74 rfl (lv_at hl 1 rfl) ?_
            refine lv_iconst (v := 2) hx hb dX2_aboutThing_75 (by decide) ?_
            obtain ⟨r_14, hc_15, hf⟩ := bd_of hf
            refine fn_V (v := some (.int r_14)) (As := [.int x1, .int (2 : Int32)]) (rest := []) (st1 := [.int r_14]) (ws' := (wHo X h rP fP rT fT rG fG rL fL rH fH gi di re ti)) (nL := 3) ⟨hx, hb, hml, hown, hts⟩ (c_X2_holdersOf l X h rP fP rT fT rG fG rL fL rH fH gi di re ti x1 (2 : Int32) r_14 hc_15) (cwV 2 hts gX2_aboutThing_X2_holdersOf rfl rfl rfl (by decide +kernel) ⟨Nat.le_of_ble_eq_true rfl, Nat.le_of_ble_eq_true rfl⟩) 2 rfl rfl rfl rfl hl.1 rfl (Nat.le_of_ble_eq_true rfl) dX2_aboutThing_76 hK hP (hD0.addr rfl) hS hA [0, 1, 2, 3, 4, 5, 6, 7, 8, 9, 10] rfl rfl rfl rfl ⟨Nat.zero_le _, Nat.zero_le _⟩ (fun H locs hP hD hS => ?_)
            cases hf
            exact fn_iret hx hb hr hlocks hP hS dX2_aboutThing_79
          · replace hf := fp_f c_13 hf
            have hsw : x2.toInt < 0 ∨ (4 : Int) < x2.toInt := by
              refine sw_out (x := x2) 4 (by decide) ?_
              intro j hj
              have hj2 : j = 0 ∨ j = 1 ∨ j = 2 ∨ j = 3 ∨ j = 4 := by omega
              rcases hj2 with rfl | rfl | rfl | rfl | rfl
              · exact c_1
              · exact c_4
              · exact c_7
              · exact c_10
              · exact c_13
            refine lv_tableOut (tgt := 80) hx hb dX2_aboutThing_1 hsw (by decide) ?_
            refine lv_aload_n hx hb dX2_aboutThing_80 rfl (lv_at hl 0 rfl) ?_
            refine lv_iload_n hx hb dX2_aboutThing_81 rfl (lv_at hl 1 rfl) ?_
            refine lv_iconst (v := 4) hx hb dX2_aboutThing_82 (by decide) ?_
            obtain ⟨r_16, hc_17, hf⟩ := bd_of hf
            refine fn_V (v := some (.int r_16)) (As := [.int x1, .int (4 : Int32)]) (rest := []) (st1 := [.int r_16]) (ws' := (wHo X h rP fP rT fT rG fG rL fL rH fH gi di re ti)) (nL := 3) ⟨hx, hb, hml, hown, hts⟩ (c_X2_holdersOf l X h rP fP rT fT rG fG rL fL rH fH gi di re ti x1 (4 : Int32) r_16 hc_17) (cwV 2 hts gX2_aboutThing_X2_holdersOf rfl rfl rfl (by decide +kernel) ⟨Nat.le_of_ble_eq_true rfl, Nat.le_of_ble_eq_true rfl⟩) 2 rfl rfl rfl rfl hl.1 rfl (Nat.le_of_ble_eq_true rfl) dX2_aboutThing_83 hK hP (hD0.addr rfl) hS hA [0, 1, 2, 3, 4, 5, 6, 7, 8, 9, 10] rfl rfl rfl rfl ⟨Nat.zero_le _, Nat.zero_le _⟩ (fun H locs hP hD hS => ?_)
            cases hf
            exact fn_iret hx hb hr hlocks hP hS dX2_aboutThing_86

def f_X2_aboutGrant (x1 : Int32) (x2 : Int32) (rT : Int32) (fT : (Nat → Int32)) (rG : Int32) (fG : (Nat → Int32)) (rH : Int32) (fH : (Nat → Int32)) : Option (Int32) :=
  if (4 : Int32) < x2 then
  (bd (f_X2_passedOn x1 rT fT rG fG rH fH) (fun r_2 =>
  some r_2))
  else
  (bd (f_X3_at (6 : Int32) 240 x1 x2 rG fG) (fun r_4 =>
  some r_4))
set_option maxHeartbeats 4000000 in
set_option maxRecDepth 100000 in
theorem c_X2_aboutGrant (l : Launch) (X : cx_G) (h : (Nat → Nat)) (rP : Int32) (fP : (Nat → Int32)) (rT : Int32) (fT : (Nat → Int32)) (rG : Int32) (fG : (Nat → Int32)) (rL : Int32) (fL : (Nat → Int32)) (rH : Int32) (fH : (Nat → Int32)) (gi : Int32) (di : Int32) (re : Int32) (ti : Int32) (x1 : Int32) (x2 : Int32) (r : Int32) (hf : f_X2_aboutGrant x1 x2 rT fT rG fG rH fH = some r) : Fn l yX2_aboutGrant wsX2_aboutGrant ({ frames := 2, cells := 0, slots := 0, locals := 47 } : Room) X [.ref (h 0), .int x1, .int x2] (wHo X h rP fP rT fT rG fG rL fL rH fH gi di re ti) (some (.int r)) (wHo X h rP fP rT fT rG fG rL fL rH fH gi di re ti) := by
  refine fn_intro (cc := cX2_aboutGrant) (maxL := 3) (ret := (some .int)) (by decide) rfl rfl (Nat.le_of_ble_eq_true rfl) ?_
  intro p e s m args below meth c A ls hx hb hml hr hts hown hlocks hK hP hD0 hS hA hl
  have hown : s.vm.findClass RX2 = some m.cls := hown
  have hl : lv_has ls 3 [(0, .ref (h 0)), (1, .int x1), (2, .int x2)] := hl
  have hiX2 : ∀ w ∈ u_ws RX2 TX2 9, w ∈ wsX2_aboutGrant := by decide +kernel
  have k23 := hts (.fieldLink RX2 23 "LentRights$House" "grants" "LLentRights$Table;") (by decide +kernel)
  unfold f_X2_aboutGrant at hf
  refine lv_iload_n hx hb dX2_aboutGrant_0 rfl (lv_at hl 2 rfl) ?_
  refine lv_iconst (v := 4) hx hb dX2_aboutGrant_1 (by decide) ?_
  refine lv_icmp_gt (tgt := 17) hx hb dX2_aboutGrant_2 (by decide) (fun c_1 => ?_) (fun c_1 => ?_)
  · replace hf := fp_t c_1 hf
    refine lv_aload_n hx hb dX2_aboutGrant_17 rfl (lv_at hl 0 rfl) ?_
    refine lv_iload_n hx hb dX2_aboutGrant_18 rfl (lv_at hl 1 rfl) ?_
    obtain ⟨r_2, hc_3, hf⟩ := bd_of hf
    refine fn_V (v := some (.int r_2)) (As := [.int x1]) (rest := []) (st1 := [.int r_2]) (ws' := (wHo X h rP fP rT fT rG fG rL fL rH fH gi di re ti)) (nL := 3) ⟨hx, hb, hml, hown, hts⟩ (c_X2_passedOn l X h rP fP rT fT rG fG rL fL rH fH gi di re ti x1 r_2 hc_3) (cwV 1 hts gX2_aboutGrant_X2_passedOn rfl rfl rfl (by decide +kernel) ⟨Nat.le_of_ble_eq_true rfl, Nat.le_of_ble_eq_true rfl⟩) 2 rfl rfl rfl rfl hl.1 rfl (Nat.le_of_ble_eq_true rfl) dX2_aboutGrant_19 hK hP (hD0.addr rfl) hS hA [0, 1, 2, 3, 4, 5, 6, 7, 8, 9, 10] rfl rfl rfl rfl ⟨Nat.zero_le _, Nat.zero_le _⟩ (fun H locs hP hD hS => ?_)
    cases hf
    exact fn_iret hx hb hr hlocks hP hS dX2_aboutGrant_22
  · replace hf := fp_f c_1 hf
    refine lv_aload_n hx hb dX2_aboutGrant_5 rfl (lv_at hl 0 rfl) ?_
    refine va_get (D := X.1) (ci := 2) (v := .ref (h 5)) (C := RX2) (T := TX2) (N := 9) hx hb hts hiX2 hown hK.1 hP 0 rfl rfl 2 (by decide) k23 (fun _ h9 => h9) rfl dX2_aboutGrant_6 ?_
    refine lv_iload_n hx hb dX2_aboutGrant_9 rfl (lv_at hl 1 rfl) ?_
    refine lv_iload_n hx hb dX2_aboutGrant_10 rfl (lv_at hl 2 rfl) ?_
    obtain ⟨r_4, hc_5, hf⟩ := bd_of hf
    refine fn_V (v := some (.int r_4)) (As := [.int x1, .int x2]) (rest := []) (st1 := [.int r_4]) (ws' := (wHo X h rP fP rT fT rG fG rL fL rH fH gi di re ti)) (nL := 3) ⟨hx, hb, hml, hown, hts⟩ (c_X3_at l X (h 5) (h 6) (40 : Int32) (6 : Int32) 240 rG fG x1 x2 r_4 hc_5) (cwV 2 hts gX2_aboutGrant_X3_at rfl rfl rfl (by decide +kernel) ⟨Nat.le_of_ble_eq_true rfl, Nat.le_of_ble_eq_true rfl⟩) 3 rfl rfl rfl rfl hl.1 rfl (Nat.le_of_ble_eq_true rfl) dX2_aboutGrant_11 hK hP (hD0.addr rfl) hS hA [5, 6] rfl rfl rfl rfl ⟨Nat.zero_le _, Nat.zero_le _⟩ (fun H locs hP hD hS => ?_)
    refine lv_goto (tgt := 22) hx hb dX2_aboutGrant_14 (by decide) ?_
    cases hf
    exact fn_iret hx hb hr hlocks hP hS dX2_aboutGrant_22

def f_X2_aboutHouse (x1 : Int32) (rT : Int32) (fT : (Nat → Int32)) (rG : Int32) (fG : (Nat → Int32)) (rL : Int32) (rH : Int32) (fH : (Nat → Int32)) (gi : Int32) (di : Int32) (re : Int32) (ti : Int32) : Option (Int32) :=
  if x1 = (0 : Int32) then
  (bd (f_X3_rows rT) (fun r_2 =>
  some r_2))
  else
  (if x1 = (1 : Int32) then
  (bd (f_X3_rows rG) (fun r_5 =>
  some r_5))
  else
  (if x1 = (2 : Int32) then
  (some gi)
  else
  (if x1 = (3 : Int32) then
  (some di)
  else
  (if x1 = (4 : Int32) then
  (some re)
  else
  (if x1 = (5 : Int32) then
  (some ti)
  else
  (if x1 = (6 : Int32) then
  (bd (f_X2_countPairs rT rH fH) (fun r_12 =>
  some r_12))
  else
  (if x1 = (7 : Int32) then
  (bd (f_X2_countIdleGrants rT fT rG fG rH fH) (fun r_15 =>
  some r_15))
  else
  (bd (f_X3_rows rL) (fun r_17 =>
  some r_17)))))))))
set_option maxHeartbeats 4000000 in
set_option maxRecDepth 100000 in
theorem c_X2_aboutHouse (l : Launch) (X : cx_G) (h : (Nat → Nat)) (rP : Int32) (fP : (Nat → Int32)) (rT : Int32) (fT : (Nat → Int32)) (rG : Int32) (fG : (Nat → Int32)) (rL : Int32) (fL : (Nat → Int32)) (rH : Int32) (fH : (Nat → Int32)) (gi : Int32) (di : Int32) (re : Int32) (ti : Int32) (x1 : Int32) (r : Int32) (hf : f_X2_aboutHouse x1 rT fT rG fG rL rH fH gi di re ti = some r) : Fn l yX2_aboutHouse wsX2_aboutHouse ({ frames := 3, cells := 0, slots := 0, locals := 70 } : Room) X [.ref (h 0), .int x1] (wHo X h rP fP rT fT rG fG rL fL rH fH gi di re ti) (some (.int r)) (wHo X h rP fP rT fT rG fG rL fL rH fH gi di re ti) := by
  refine fn_intro (cc := cX2_aboutHouse) (maxL := 2) (ret := (some .int)) (by decide) rfl rfl (Nat.le_of_ble_eq_true rfl) ?_
  intro p e s m args below meth c A ls hx hb hml hr hts hown hlocks hK hP hD0 hS hA hl
  have hown : s.vm.findClass RX2 = some m.cls := hown
  have hl : lv_has ls 2 [(0, .ref (h 0)), (1, .int x1)] := hl
  have hiX2 : ∀ w ∈ u_ws RX2 TX2 9, w ∈ wsX2_aboutHouse := by decide +kernel
  have k20 := hts (.fieldLink RX2 20 "LentRights$House" "things" "LLentRights$Table;") (by decide +kernel)
  have k23 := hts (.fieldLink RX2 23 "LentRights$House" "grants" "LLentRights$Table;") (by decide +kernel)
  have k26 := hts (.fieldLink RX2 26 "LentRights$House" "log" "LLentRights$Table;") (by decide +kernel)
  have k44 := hts (.fieldLink RX2 44 "LentRights$House" "given" "I") (by decide +kernel)
  have k48 := hts (.fieldLink RX2 48 "LentRights$House" "died" "I") (by decide +kernel)
  have k51 := hts (.fieldLink RX2 51 "LentRights$House" "revoked" "I") (by decide +kernel)
  have k54 := hts (.fieldLink RX2 54 "LentRights$House" "time" "I") (by decide +kernel)
  unfold f_X2_aboutHouse at hf
  refine lv_iload_n hx hb dX2_aboutHouse_0 rfl (lv_at hl 1 rfl) ?_
  by_cases c_1 : x1 = (0 : Int32)
  · replace hf := fp_t c_1 hf
    refine lv_tableIn (off := 47) (tgt := 48) hx hb dX2_aboutHouse_1 (by rw [c_1]; decide) (by rw [c_1]; decide) (by rw [c_1]; rfl) (by decide) ?_
    refine lv_aload_n hx hb dX2_aboutHouse_48 rfl (lv_at hl 0 rfl) ?_
    refine va_get (D := X.1) (ci := 2) (v := .ref (h 3)) (C := RX2) (T := TX2) (N := 9) hx hb hts hiX2 hown hK.1 hP 0 rfl rfl 1 (by decide) k20 (fun _ h9 => h9) rfl dX2_aboutHouse_49 ?_
    obtain ⟨r_2, hc_3, hf⟩ := bd_of hf
    refine fn_V (v := some (.int r_2)) (As := []) (rest := []) (st1 := [.int r_2]) (ws' := (wHo X h rP fP rT fT rG fG rL fL rH fH gi di re ti)) (nL := 2) ⟨hx, hb, hml, hown, hts⟩ (c_X3_rows l X (h 3) (h 4) (8 : Int32) (2 : Int32) 16 rT fT r_2 hc_3) (cwV 0 hts gX2_aboutHouse_X3_rows rfl rfl rfl (by decide +kernel) ⟨Nat.le_of_ble_eq_true rfl, Nat.le_of_ble_eq_true rfl⟩) 3 rfl rfl rfl rfl hl.1 rfl (Nat.le_of_ble_eq_true rfl) dX2_aboutHouse_52 hK hP (hD0.addr rfl) hS hA [3, 4] rfl rfl rfl rfl ⟨Nat.zero_le _, Nat.zero_le _⟩ (fun H locs hP hD hS => ?_)
    cases hf
    exact fn_iret hx hb hr hlocks hP hS dX2_aboutHouse_55
  · replace hf := fp_f c_1 hf
    by_cases c_4 : x1 = (1 : Int32)
    · replace hf := fp_t c_4 hf
      refine lv_tableIn (off := 55) (tgt := 56) hx hb dX2_aboutHouse_1 (by rw [c_4]; decide) (by rw [c_4]; decide) (by rw [c_4]; rfl) (by decide) ?_
      refine lv_aload_n hx hb dX2_aboutHouse_56 rfl (lv_at hl 0 rfl) ?_
      refine va_get (D := X.1) (ci := 2) (v := .ref (h 5)) (C := RX2) (T := TX2) (N := 9) hx hb hts hiX2 hown hK.1 hP 0 rfl rfl 2 (by decide) k23 (fun _ h9 => h9) rfl dX2_aboutHouse_57 ?_
      obtain ⟨r_5, hc_6, hf⟩ := bd_of hf
      refine fn_V (v := some (.int r_5)) (As := []) (rest := []) (st1 := [.int r_5]) (ws' := (wHo X h rP fP rT fT rG fG rL fL rH fH gi di re ti)) (nL := 2) ⟨hx, hb, hml, hown, hts⟩ (c_X3_rows l X (h 5) (h 6) (40 : Int32) (6 : Int32) 240 rG fG r_5 hc_6) (cwV 0 hts gX2_aboutHouse_X3_rows rfl rfl rfl (by decide +kernel) ⟨Nat.le_of_ble_eq_true rfl, Nat.le_of_ble_eq_true rfl⟩) 3 rfl rfl rfl rfl hl.1 rfl (Nat.le_of_ble_eq_true rfl) dX2_aboutHouse_60 hK hP (hD0.addr rfl) hS hA [5, 6] rfl rfl rfl rfl ⟨Nat.zero_le _, Nat.zero_le _⟩ (fun H locs hP hD hS => ?_)
      cases hf
      exact fn_iret hx hb hr hlocks hP hS dX2_aboutHouse_63
    · replace hf := fp_f c_4 hf
      by_cases c_7 : x1 = (2 : Int32)
      · replace hf := fp_t c_7 hf
        refine lv_tableIn (off := 63) (tgt := 64) hx hb dX2_aboutHouse_1 (by rw [c_7]; decide) (by rw [c_7]; decide) (by rw [c_7]; rfl) (by decide) ?_
        refine lv_aload_n hx hb dX2_aboutHouse_64 rfl (lv_at hl 0 rfl) ?_
        refine va_get (D := X.1) (ci := 2) (v := .int gi) (C := RX2) (T := TX2) (N := 9) hx hb hts hiX2 hown hK.1 hP 0 rfl rfl 5 (by decide) k44 (fun _ h9 => h9) rfl dX2_aboutHouse_65 ?_
        cases hf
        exact fn_iret hx hb hr hlocks hP hS dX2_aboutHouse_68
      · replace hf := fp_f c_7 hf
        by_cases c_8 : x1 = (3 : Int32)
        · replace hf := fp_t c_8 hf
          refine lv_tableIn (off := 68) (tgt := 69) hx hb dX2_aboutHouse_1 (by rw [c_8]; decide) (by rw [c_8]; decide) (by rw [c_8]; rfl) (by decide) ?_
          refine lv_aload_n hx hb dX2_aboutHouse_69 rfl (lv_at hl 0 rfl) ?_
          refine va_get (D := X.1) (ci := 2) (v := .int di) (C := RX2) (T := TX2) (N := 9) hx hb hts hiX2 hown hK.1 hP 0 rfl rfl 6 (by decide) k48 (fun _ h9 => h9) rfl dX2_aboutHouse_70 ?_
          cases hf
          exact fn_iret hx hb hr hlocks hP hS dX2_aboutHouse_73
        · replace hf := fp_f c_8 hf
          by_cases c_9 : x1 = (4 : Int32)
          · replace hf := fp_t c_9 hf
            refine lv_tableIn (off := 73) (tgt := 74) hx hb dX2_aboutHouse_1 (by rw [c_9]; decide) (by rw [c_9]; decide) (by rw [c_9]; rfl) (by decide) ?_
            refine lv_aload_n hx hb dX2_aboutHouse_74 rfl (lv_at hl 0 rfl) ?_
            refine va_get (D := X.1) (ci := 2) (v := .int re) (C := RX2) (T := TX2) (N := 9) hx hb hts hiX2 hown hK.1 hP 0 rfl rfl 7 (by decide) k51 (fun _ h9 => h9) rfl dX2_aboutHouse_75 ?_
            cases hf
            exact fn_iret hx hb hr hlocks hP hS dX2_aboutHouse_78
          · replace hf := fp_f c_9 hf
            by_cases c_10 : x1 = (5 : Int32)
            · replace hf := fp_t c_10 hf
              refine lv_tableIn (off := 78) (tgt := 79) hx hb dX2_aboutHouse_1 (by rw [c_10]; decide) (by rw [c_10]; decide) (by rw [c_10]; rfl) (by decide) ?_
              refine lv_aload_n hx hb dX2_aboutHouse_79 rfl (lv_at hl 0 rfl) ?_
              refine va_get (D := X.1) (ci := 2) (v := .int ti) (C := RX2) (T := TX2) (N := 9) hx hb hts hiX2 hown hK.1 hP 0 rfl rfl 8 (by decide) k54 (fun _ h9 => h9) rfl dX2_aboutHouse_80 ?_
              cases hf
              exact fn_iret hx hb hr hlocks hP hS dX2_aboutHouse_83
            · replace hf := fp_f c_10 hf
              by_cases c_11 : x1 = (6 : Int32)
              · replace hf := fp_t c_11 hf
                refine lv_tableIn (off := 83) (tgt := 84) hx hb dX2_aboutHouse_1 (by rw [c_11]; decide) (by rw [c_11]; decide) (by rw [c_11]; rfl) (by decide) ?_
                refine lv_aload_n hx hb dX2_aboutHouse_84 rfl (lv_at hl 0 rfl) ?_
                obtain ⟨r_12, hc_13, hf⟩ := bd_of hf
                refine fn_V (v := some (.int r_12)) (As := []) (rest := []) (st1 := [.int r_12]) (ws' := (wHo X h rP fP rT fT rG fG rL fL rH fH gi di re ti)) (nL := 2) ⟨hx, hb, hml, hown, hts⟩ (c_X2_countPairs l X h rP fP rT fT rG fG rL fL rH fH gi di re ti r_12 hc_13) (cwV 0 hts gX2_aboutHouse_X2_countPairs rfl rfl rfl (by decide +kernel) ⟨Nat.le_of_ble_eq_true rfl, Nat.le_of_ble_eq_true rfl⟩) 2 rfl rfl rfl rfl hl.1 rfl (Nat.le_of_ble_eq_true rfl) dX2_aboutHouse_85 hK hP (hD0.addr rfl) hS hA [0, 1, 2, 3, 4, 5, 6, 7, 8, 9, 10] rfl rfl rfl rfl ⟨Nat.zero_le _, Nat.zero_le _⟩ (fun H locs hP hD hS => ?_)
                cases hf
                exact fn_iret hx hb hr hlocks hP hS dX2_aboutHouse_88
              · replace hf := fp_f c_11 hf
                by_cases c_14 : x1 = (7 : Int32)
                · replace hf := fp_t c_14 hf
                  refine lv_tableIn (off := 88) (tgt := 89) hx hb dX2_aboutHouse_1 (by rw [c_14]; decide) (by rw [c_14]; decide) (by rw [c_14]; rfl) (by decide) ?_
                  refine lv_aload_n hx hb dX2_aboutHouse_89 rfl (lv_at hl 0 rfl) ?_
                  obtain ⟨r_15, hc_16, hf⟩ := bd_of hf
                  refine fn_V (v := some (.int r_15)) (As := []) (rest := []) (st1 := [.int r_15]) (ws' := (wHo X h rP fP rT fT rG fG rL fL rH fH gi di re ti)) (nL := 2) ⟨hx, hb, hml, hown, hts⟩ (c_X2_countIdleGrants l X h rP fP rT fT rG fG rL fL rH fH gi di re ti r_15 hc_16) (cwV 0 hts gX2_aboutHouse_X2_countIdleGrants rfl rfl rfl (by decide +kernel) ⟨Nat.le_of_ble_eq_true rfl, Nat.le_of_ble_eq_true rfl⟩) 2 rfl rfl rfl rfl hl.1 rfl (Nat.le_of_ble_eq_true rfl) dX2_aboutHouse_90 hK hP (hD0.addr rfl) hS hA [0, 1, 2, 3, 4, 5, 6, 7, 8, 9, 10] rfl rfl rfl rfl ⟨Nat.zero_le _, Nat.zero_le _⟩ (fun H locs hP hD hS => ?_)
                  cases hf
                  exact fn_iret hx hb hr hlocks hP hS dX2_aboutHouse_93
                · replace hf := fp_f c_14 hf
                  have hsw : x1.toInt < 0 ∨ (7 : Int) < x1.toInt := by
                    refine sw_out (x := x1) 7 (by decide) ?_
                    intro j hj
                    have hj2 : j = 0 ∨ j = 1 ∨ j = 2 ∨ j = 3 ∨ j = 4 ∨ j = 5 ∨ j = 6 ∨ j = 7 := by omega
                    rcases hj2 with rfl | rfl | rfl | rfl | rfl | rfl | rfl | rfl
                    · exact c_1
                    · exact c_4
                    · exact c_7
                    · exact c_8
                    · exact c_9
                    · exact c_10
                    · exact c_11
                    · exact c_14
                  refine lv_tableOut (tgt := 94) hx hb dX2_aboutHouse_1 hsw (by decide) ?_
                  refine lv_aload_n hx hb dX2_aboutHouse_94 rfl (lv_at hl 0 rfl) ?_
                  refine va_get (D := X.1) (ci := 2) (v := .ref (h 7)) (C := RX2) (T := TX2) (N := 9) hx hb hts hiX2 hown hK.1 hP 0 rfl rfl 3 (by decide) k26 (fun _ h9 => h9) rfl dX2_aboutHouse_95 ?_
                  obtain ⟨r_17, hc_18, hf⟩ := bd_of hf
                  refine fn_V (v := some (.int r_17)) (As := []) (rest := []) (st1 := [.int r_17]) (ws' := (wHo X h rP fP rT fT rG fG rL fL rH fH gi di re ti)) (nL := 2) ⟨hx, hb, hml, hown, hts⟩ (c_X3_rows l X (h 7) (h 8) (12 : Int32) (3 : Int32) 36 rL fL r_17 hc_18) (cwV 0 hts gX2_aboutHouse_X3_rows rfl rfl rfl (by decide +kernel) ⟨Nat.le_of_ble_eq_true rfl, Nat.le_of_ble_eq_true rfl⟩) 3 rfl rfl rfl rfl hl.1 rfl (Nat.le_of_ble_eq_true rfl) dX2_aboutHouse_98 hK hP (hD0.addr rfl) hS hA [7, 8] rfl rfl rfl rfl ⟨Nat.zero_le _, Nat.zero_le _⟩ (fun H locs hP hD hS => ?_)
                  cases hf
                  exact fn_iret hx hb hr hlocks hP hS dX2_aboutHouse_101

def f_X2_reasonAgainst_L35 (x1 : Int32) (x2 : Int32) (x3 : Int32) (rG : Int32) (fG : (Nat → Int32)) (rH : Int32) (fH : (Nat → Int32)) : Nat → Int32 → Int32 →  Option (Int32)
  | 0, _, _ => none
  | k_ + 1, x4, x5 =>
    bd (f_X3_rows rG) (fun r_1 =>
    if r_1 ≤ x5 then
    (some x4)
    else
    (bd (f_X2_isGrantOf x5 x1 x2 x3 rG fG) (fun r_4 =>
    if r_4 = (0 : Int32) then
    (nm (x5 + (1 : Int32)) (fun v_7 =>
    f_X2_reasonAgainst_L35 x1 x2 x3 rG fG rH fH k_ x4 v_7))
    else
    (bd (f_X3_at (6 : Int32) 240 x5 (0 : Int32) rG fG) (fun r_8 =>
    bd (f_X2_rightsOf r_8 x2 rH fH) (fun r_10 =>
    if r_10 &&& (4 : Int32) = (0 : Int32) then
    (nm (if x4 < (3 : Int32) then (3 : Int32) else x4) (fun v_15 =>
    nm (x5 + (1 : Int32)) (fun v_16 =>
    f_X2_reasonAgainst_L35 x1 x2 x3 rG fG rH fH k_ v_15 v_16)))
    else
    (nm (if x4 < (4 : Int32) then (4 : Int32) else x4) (fun v_13 =>
    nm (x5 + (1 : Int32)) (fun v_14 =>
    f_X2_reasonAgainst_L35 x1 x2 x3 rG fG rH fH k_ v_13 v_14)))))))))
def f_X2_reasonAgainst (x1 : Int32) (x2 : Int32) (x3 : Int32) (rT : Int32) (fT : (Nat → Int32)) (rG : Int32) (fG : (Nat → Int32)) (rH : Int32) (fH : (Nat → Int32)) : Option (Int32) :=
  bd (f_X2_rightsOf x1 x2 rH fH) (fun r_17 =>
  if r_17 &&& x3 = (0 : Int32) then
  (bd (f_X3_at (2 : Int32) 16 x2 (1 : Int32) rT fT) (fun r_20 =>
  if r_20 &&& x3 = (0 : Int32) then
  (some (1 : Int32))
  else
  (bd (f_X2_reasonAgainst_L35 x1 x2 x3 rG fG rH fH FU (2 : Int32) (0 : Int32)) (fun y4_23 =>
  some y4_23))))
  else
  (some (0 : Int32)))
set_option maxHeartbeats 4000000 in
set_option maxRecDepth 100000 in
theorem c_X2_reasonAgainst (l : Launch) (X : cx_G) (h : (Nat → Nat)) (rP : Int32) (fP : (Nat → Int32)) (rT : Int32) (fT : (Nat → Int32)) (rG : Int32) (fG : (Nat → Int32)) (rL : Int32) (fL : (Nat → Int32)) (rH : Int32) (fH : (Nat → Int32)) (gi : Int32) (di : Int32) (re : Int32) (ti : Int32) (x1 : Int32) (x2 : Int32) (x3 : Int32) (r : Int32) (hf : f_X2_reasonAgainst x1 x2 x3 rT fT rG fG rH fH = some r) : Fn l yX2_reasonAgainst wsX2_reasonAgainst ({ frames := 2, cells := 0, slots := 0, locals := 48 } : Room) X [.ref (h 0), .int x1, .int x2, .int x3] (wHo X h rP fP rT fT rG fG rL fL rH fH gi di re ti) (some (.int r)) (wHo X h rP fP rT fT rG fG rL fL rH fH gi di re ti) := by
  refine fn_intro (cc := cX2_reasonAgainst) (maxL := 7) (ret := (some .int)) (by decide) rfl rfl (Nat.le_of_ble_eq_true rfl) ?_
  intro p e s m args below meth c A ls hx hb hml hr hts hown hlocks hK hP hD0 hS hA hl
  have hown : s.vm.findClass RX2 = some m.cls := hown
  have hl : lv_has ls 7 [(0, .ref (h 0)), (1, .int x1), (2, .int x2), (3, .int x3)] := hl
  have hiX2 : ∀ w ∈ u_ws RX2 TX2 9, w ∈ wsX2_reasonAgainst := by decide +kernel
  have k20 := hts (.fieldLink RX2 20 "LentRights$House" "things" "LLentRights$Table;") (by decide +kernel)
  have k23 := hts (.fieldLink RX2 23 "LentRights$House" "grants" "LLentRights$Table;") (by decide +kernel)
  have loop_35 : ∀ (Q : State → Prop) (y4 : Int32), (∀ (H : Heap) (locs : List Loc) (ls : Array Slot), va_P X.1 vwCl (wHo X h rP fP rT fT rG fG rL fL rH fH gi di re ti) H → va_S A s.heap H locs → lv_has ls 7 [(4, .int y4)] → W p l e ({ frames := 2, cells := 0, slots := 0, locals := 48 } : Room) s m args below meth c H locs 0 0 Q (F0 m 101 ls [])) → ∀ (k_ : Nat) (x4 : Int32) (x5 : Int32) (H : Heap) (locs : List Loc) (ls : Array Slot), f_X2_reasonAgainst_L35 x1 x2 x3 rG fG rH fH k_ x4 x5 = some y4 → va_P X.1 vwCl (wHo X h rP fP rT fT rG fG rL fL rH fH gi di re ti) H → va_S A s.heap H locs → lv_has ls 7 [(0, .ref (h 0)), (1, .int x1), (2, .int x2), (3, .int x3), (4, .int x4), (5, .int x5)] → W p l e ({ frames := 2, cells := 0, slots := 0, locals := 48 } : Room) s m args below meth c H locs 0 0 Q (F0 m 35 ls []) := by
    intro Q y4 kx k_
    induction k_ with
    | zero => intro x4 x5 H locs ls hf; exact nomatch (show (none : Option (Int32)) = some _ from hf)
    | succ k_ ih =>
      intro x4 x5 H locs ls hf hP hS hl
      unfold f_X2_reasonAgainst_L35 at hf
      refine lv_iload hx hb dX2_reasonAgainst_35 (lv_at hl 5 rfl) ?_
      refine lv_aload_n hx hb dX2_reasonAgainst_37 rfl (lv_at hl 0 rfl) ?_
      refine va_get (D := X.1) (ci := 2) (v := .ref (h 5)) (C := RX2) (T := TX2) (N := 9) hx hb hts hiX2 hown hK.1 hP 0 rfl rfl 2 (by decide) k23 (fun _ h9 => h9) rfl dX2_reasonAgainst_38 ?_
      obtain ⟨r_1, hc_2, hf⟩ := bd_of hf
      refine fn_V (v := some (.int r_1)) (As := []) (rest := [.int x5]) (st1 := [.int r_1, .int x5]) (ws' := (wHo X h rP fP rT fT rG fG rL fL rH fH gi di re ti)) (nL := 7) ⟨hx, hb, hml, hown, hts⟩ (c_X3_rows l X (h 5) (h 6) (40 : Int32) (6 : Int32) 240 rG fG r_1 hc_2) (cwV 0 hts gX2_reasonAgainst_X3_rows rfl rfl rfl (by decide +kernel) ⟨Nat.le_of_ble_eq_true rfl, Nat.le_of_ble_eq_true rfl⟩) 3 rfl rfl rfl rfl hl.1 rfl (Nat.le_of_ble_eq_true rfl) dX2_reasonAgainst_41 hK hP (hD0.addr rfl) hS hA [5, 6] rfl rfl rfl rfl ⟨Nat.zero_le _, Nat.zero_le _⟩ (fun H locs hP hD hS => ?_)
      refine lv_icmp_ge (tgt := 101) hx hb dX2_reasonAgainst_44 (by decide) (fun c_3 => ?_) (fun c_3 => ?_)
      · replace hf := fp_t c_3 hf
        cases hf
        exact kx _ _ _ hP hS (lv_sub hl [4] rfl)
      · replace hf := fp_f c_3 hf
        refine lv_aload_n hx hb dX2_reasonAgainst_47 rfl (lv_at hl 0 rfl) ?_
        refine lv_iload hx hb dX2_reasonAgainst_48 (lv_at hl 5 rfl) ?_
        refine lv_iload_n hx hb dX2_reasonAgainst_50 rfl (lv_at hl 1 rfl) ?_
        refine lv_iload_n hx hb dX2_reasonAgainst_51 rfl (lv_at hl 2 rfl) ?_
        refine lv_iload_n hx hb dX2_reasonAgainst_52 rfl (lv_at hl 3 rfl) ?_
        obtain ⟨r_4, hc_5, hf⟩ := bd_of hf
        refine fn_V (v := some (.int r_4)) (As := [.int x5, .int x1, .int x2, .int x3]) (rest := []) (st1 := [.int r_4]) (ws' := (wHo X h rP fP rT fT rG fG rL fL rH fH gi di re ti)) (nL := 7) ⟨hx, hb, hml, hown, hts⟩ (c_X2_isGrantOf l X h rP fP rT fT rG fG rL fL rH fH gi di re ti x5 x1 x2 x3 r_4 hc_5) (cwV 4 hts gX2_reasonAgainst_X2_isGrantOf rfl rfl rfl (by decide +kernel) ⟨Nat.le_of_ble_eq_true rfl, Nat.le_of_ble_eq_true rfl⟩) 2 rfl rfl rfl rfl hl.1 rfl (Nat.le_of_ble_eq_true rfl) dX2_reasonAgainst_53 hK hP (hD0.addr rfl) hS hA [0, 1, 2, 3, 4, 5, 6, 7, 8, 9, 10] rfl rfl rfl rfl ⟨Nat.zero_le _, Nat.zero_le _⟩ (fun H locs hP hD hS => ?_)
        refine lv_if_eq (tgt := 95) hx hb dX2_reasonAgainst_56 (by decide) (fun c_6 => ?_) (fun c_6 => ?_)
        · replace hf := fp_t c_6 hf
          obtain ⟨v_7, ev_7⟩ : ∃ y : Int32, y = x5 + (1 : Int32) := ⟨_, rfl⟩
          replace hf := nm_of ev_7 hf
          refine lv_iinc (v := v_7) (lv' := [(5, .int v_7), (0, .ref (h 0)), (1, .int x1), (2, .int x2), (3, .int x3), (4, .int x4)]) hx hb dX2_reasonAgainst_95 hl (k := 5) rfl (by rw [ev_7]; rfl) (by decide) rfl (fun ls hl => ?_)
          refine lv_goto (tgt := 35) hx hb dX2_reasonAgainst_98 (by decide) ?_
          exact ih x4 v_7 _ _ _ hf hP hS (lv_sub hl [1, 2, 3, 4, 5, 0] rfl)
        · replace hf := fp_f c_6 hf
          refine lv_aload_n hx hb dX2_reasonAgainst_59 rfl (lv_at hl 0 rfl) ?_
          refine lv_aload_n hx hb dX2_reasonAgainst_60 rfl (lv_at hl 0 rfl) ?_
          refine va_get (D := X.1) (ci := 2) (v := .ref (h 5)) (C := RX2) (T := TX2) (N := 9) hx hb hts hiX2 hown hK.1 hP 0 rfl rfl 2 (by decide) k23 (fun _ h9 => h9) rfl dX2_reasonAgainst_61 ?_
          refine lv_iload hx hb dX2_reasonAgainst_64 (lv_at hl 5 rfl) ?_
          refine lv_iconst (v := 0) hx hb dX2_reasonAgainst_66 (by decide) ?_
          obtain ⟨r_8, hc_9, hf⟩ := bd_of hf
          refine fn_V (v := some (.int r_8)) (As := [.int x5, .int (0 : Int32)]) (rest := [.ref (h 0)]) (st1 := [.int r_8, .ref (h 0)]) (ws' := (wHo X h rP fP rT fT rG fG rL fL rH fH gi di re ti)) (nL := 7) ⟨hx, hb, hml, hown, hts⟩ (c_X3_at l X (h 5) (h 6) (40 : Int32) (6 : Int32) 240 rG fG x5 (0 : Int32) r_8 hc_9) (cwV 2 hts gX2_reasonAgainst_X3_at rfl rfl rfl (by decide +kernel) ⟨Nat.le_of_ble_eq_true rfl, Nat.le_of_ble_eq_true rfl⟩) 3 rfl rfl rfl rfl hl.1 rfl (Nat.le_of_ble_eq_true rfl) dX2_reasonAgainst_67 hK hP (hD0.addr rfl) hS hA [5, 6] rfl rfl rfl rfl ⟨Nat.zero_le _, Nat.zero_le _⟩ (fun H locs hP hD hS => ?_)
          refine lv_iload_n hx hb dX2_reasonAgainst_70 rfl (lv_at hl 2 rfl) ?_
          obtain ⟨r_10, hc_11, hf⟩ := bd_of hf
          refine fn_V (v := some (.int r_10)) (As := [.int r_8, .int x2]) (rest := []) (st1 := [.int r_10]) (ws' := (wHo X h rP fP rT fT rG fG rL fL rH fH gi di re ti)) (nL := 7) ⟨hx, hb, hml, hown, hts⟩ (c_X2_rightsOf l X h rP fP rT fT rG fG rL fL rH fH gi di re ti r_8 x2 r_10 hc_11) (cwV 2 hts gX2_reasonAgainst_X2_rightsOf rfl rfl rfl (by decide +kernel) ⟨Nat.le_of_ble_eq_true rfl, Nat.le_of_ble_eq_true rfl⟩) 2 rfl rfl rfl rfl hl.1 rfl (Nat.le_of_ble_eq_true rfl) dX2_reasonAgainst_71 hK hP (hD0.addr rfl) hS hA [0, 1, 2, 3, 4, 5, 6, 7, 8, 9, 10] rfl rfl rfl rfl ⟨Nat.zero_le _, Nat.zero_le _⟩ (fun H locs hP hD hS => ?_)
          refine lv_istore (lv' := [(6, .int r_10), (0, .ref (h 0)), (1, .int x1), (2, .int x2), (3, .int x3), (4, .int x4), (5, .int x5)]) hx hb dX2_reasonAgainst_74 hl (by decide) rfl (fun ls hl => ?_)
          refine lv_iload hx hb dX2_reasonAgainst_76 (lv_at hl 5 rfl) ?_
          refine lv_iload hx hb dX2_reasonAgainst_78 (lv_at hl 0 rfl) ?_
          refine lv_iconst (v := 4) hx hb dX2_reasonAgainst_80 (by decide) ?_
          refine lv_iand hx hb dX2_reasonAgainst_81 ?_
          refine lv_if_ne (tgt := 89) hx hb dX2_reasonAgainst_82 (by decide) (fun c_12 => ?_) (fun c_12 => ?_)
          · replace hf := fp_f c_12 hf
            refine lv_iconst (v := 4) hx hb dX2_reasonAgainst_89 (by decide) ?_
            refine va_mmax hx hb (hml.trans hl.1.symm) hown (hts (.methodLink RX2 94 Lib.Math.max.name) (by decide +kernel)) (hts (.static Lib.Math.max.name) (by decide +kernel)) (hts (.initialized "java/lang/Math") (by decide +kernel)) (hts (.code Lib.Math.max.name Lib.Math.max.code 2 (some .int)) (by decide +kernel)) (Nat.le_of_ble_eq_true rfl) (Nat.le_of_ble_eq_true rfl) (Nat.zero_le _) (Nat.zero_le _) dX2_reasonAgainst_90 ?_
            refine lv_topi (fun v_13 ev_13 => ?_)
            replace hf := nm_of ev_13 hf
            refine lv_istore (lv' := [(4, .int v_13), (6, .int r_10), (0, .ref (h 0)), (1, .int x1), (2, .int x2), (3, .int x3), (5, .int x5)]) hx hb dX2_reasonAgainst_93 hl (by decide) rfl (fun ls hl => ?_)
            obtain ⟨v_14, ev_14⟩ : ∃ y : Int32, y = x5 + (1 : Int32) := ⟨_, rfl⟩
            replace hf := nm_of ev_14 hf
            refine lv_iinc (v := v_14) (lv' := [(5, .int v_14), (4, .int v_13), (6, .int r_10), (0, .ref (h 0)), (1, .int x1), (2, .int x2), (3, .int x3)]) hx hb dX2_reasonAgainst_95 hl (k := 6) rfl (by rw [ev_14]; rfl) (by decide) rfl (fun ls hl => ?_)
            refine lv_goto (tgt := 35) hx hb dX2_reasonAgainst_98 (by decide) ?_
            exact ih v_13 v_14 _ _ _ hf hP hS (lv_sub hl [3, 4, 5, 6, 1, 0] rfl)
          · replace hf := fp_t c_12 hf
            refine lv_iconst (v := 3) hx hb dX2_reasonAgainst_85 (by decide) ?_
            refine lv_goto (tgt := 90) hx hb dX2_reasonAgainst_86 (by decide) ?_
            refine va_mmax hx hb (hml.trans hl.1.symm) hown (hts (.methodLink RX2 94 Lib.Math.max.name) (by decide +kernel)) (hts (.static Lib.Math.max.name) (by decide +kernel)) (hts (.initialized "java/lang/Math") (by decide +kernel)) (hts (.code Lib.Math.max.name Lib.Math.max.code 2 (some .int)) (by decide +kernel)) (Nat.le_of_ble_eq_true rfl) (Nat.le_of_ble_eq_true rfl) (Nat.zero_le _) (Nat.zero_le _) dX2_reasonAgainst_90 ?_
            refine lv_topi (fun v_15 ev_15 => ?_)
            replace hf := nm_of ev_15 hf
            refine lv_istore (lv' := [(4, .int v_15), (6, .int r_10), (0, .ref (h 0)), (1, .int x1), (2, .int x2), (3, .int x3), (5, .int x5)]) hx hb dX2_reasonAgainst_93 hl (by decide) rfl (fun ls hl => ?_)
            obtain ⟨v_16, ev_16⟩ : ∃ y : Int32, y = x5 + (1 : Int32) := ⟨_, rfl⟩
            replace hf := nm_of ev_16 hf
            refine lv_iinc (v := v_16) (lv' := [(5, .int v_16), (4, .int v_15), (6, .int r_10), (0, .ref (h 0)), (1, .int x1), (2, .int x2), (3, .int x3)]) hx hb dX2_reasonAgainst_95 hl (k := 6) rfl (by rw [ev_16]; rfl) (by decide) rfl (fun ls hl => ?_)
            refine lv_goto (tgt := 35) hx hb dX2_reasonAgainst_98 (by decide) ?_
            exact ih v_15 v_16 _ _ _ hf hP hS (lv_sub hl [3, 4, 5, 6, 1, 0] rfl)
  unfold f_X2_reasonAgainst at hf
  refine lv_aload_n hx hb dX2_reasonAgainst_0 rfl (lv_at hl 0 rfl) ?_
  refine lv_iload_n hx hb dX2_reasonAgainst_1 rfl (lv_at hl 1 rfl) ?_
  refine lv_iload_n hx hb dX2_reasonAgainst_2 rfl (lv_at hl 2 rfl) ?_
  obtain ⟨r_17, hc_18, hf⟩ := bd_of hf
  refine fn_V (v := some (.int r_17)) (As := [.int x1, .int x2]) (rest := []) (st1 := [.int r_17]) (ws' := (wHo X h rP fP rT fT rG fG rL fL rH fH gi di re ti)) (nL := 7) ⟨hx, hb, hml, hown, hts⟩ (c_X2_rightsOf l X h rP fP rT fT rG fG rL fL rH fH gi di re ti x1 x2 r_17 hc_18) (cwV 2 hts gX2_reasonAgainst_X2_rightsOf rfl rfl rfl (by decide +kernel) ⟨Nat.le_of_ble_eq_true rfl, Nat.le_of_ble_eq_true rfl⟩) 2 rfl rfl rfl rfl hl.1 rfl (Nat.le_of_ble_eq_true rfl) dX2_reasonAgainst_3 hK hP (hD0.addr rfl) hS hA [0, 1, 2, 3, 4, 5, 6, 7, 8, 9, 10] rfl rfl rfl rfl ⟨Nat.zero_le _, Nat.zero_le _⟩ (fun H locs hP hD hS => ?_)
  refine lv_iload_n hx hb dX2_reasonAgainst_6 rfl (lv_at hl 3 rfl) ?_
  refine lv_iand hx hb dX2_reasonAgainst_7 ?_
  refine lv_if_eq (tgt := 13) hx hb dX2_reasonAgainst_8 (by decide) (fun c_19 => ?_) (fun c_19 => ?_)
  · replace hf := fp_t c_19 hf
    refine lv_aload_n hx hb dX2_reasonAgainst_13 rfl (lv_at hl 0 rfl) ?_
    refine va_get (D := X.1) (ci := 2) (v := .ref (h 3)) (C := RX2) (T := TX2) (N := 9) hx hb hts hiX2 hown hK.1 hP 0 rfl rfl 1 (by decide) k20 (fun _ h9 => h9) rfl dX2_reasonAgainst_14 ?_
    refine lv_iload_n hx hb dX2_reasonAgainst_17 rfl (lv_at hl 2 rfl) ?_
    refine lv_iconst (v := 1) hx hb dX2_reasonAgainst_18 (by decide) ?_
    obtain ⟨r_20, hc_21, hf⟩ := bd_of hf
    refine fn_V (v := some (.int r_20)) (As := [.int x2, .int (1 : Int32)]) (rest := []) (st1 := [.int r_20]) (ws' := (wHo X h rP fP rT fT rG fG rL fL rH fH gi di re ti)) (nL := 7) ⟨hx, hb, hml, hown, hts⟩ (c_X3_at l X (h 3) (h 4) (8 : Int32) (2 : Int32) 16 rT fT x2 (1 : Int32) r_20 hc_21) (cwV 2 hts gX2_reasonAgainst_X3_at rfl rfl rfl (by decide +kernel) ⟨Nat.le_of_ble_eq_true rfl, Nat.le_of_ble_eq_true rfl⟩) 3 rfl rfl rfl rfl hl.1 rfl (Nat.le_of_ble_eq_true rfl) dX2_reasonAgainst_19 hK hP (hD0.addr rfl) hS hA [3, 4] rfl rfl rfl rfl ⟨Nat.zero_le _, Nat.zero_le _⟩ (fun H locs hP hD hS => ?_)
    refine lv_iload_n hx hb dX2_reasonAgainst_22 rfl (lv_at hl 3 rfl) ?_
    refine lv_iand hx hb dX2_reasonAgainst_23 ?_
    refine lv_if_ne (tgt := 29) hx hb dX2_reasonAgainst_24 (by decide) (fun c_22 => ?_) (fun c_22 => ?_)
    · replace hf := fp_f c_22 hf
      refine lv_iconst (v := 2) hx hb dX2_reasonAgainst_29 (by decide) ?_
      refine lv_istore (lv' := [(4, .int (2 : Int32)), (0, .ref (h 0)), (1, .int x1), (2, .int x2), (3, .int x3)]) hx hb dX2_reasonAgainst_30 hl (by decide) rfl (fun ls hl => ?_)
      refine lv_iconst (v := 0) hx hb dX2_reasonAgainst_32 (by decide) ?_
      refine lv_istore (lv' := [(5, .int (0 : Int32)), (4, .int (2 : Int32)), (0, .ref (h 0)), (1, .int x1), (2, .int x2), (3, .int x3)]) hx hb dX2_reasonAgainst_33 hl (by decide) rfl (fun ls hl => ?_)
      obtain ⟨y4_23, hL_24, hf⟩ := bd_of hf
      refine loop_35 _ y4_23 (fun H locs ls hP hS hl => ?_) FU (2 : Int32) (0 : Int32) _ _ _ hL_24 hP hS (lv_sub hl [2, 3, 4, 5, 1, 0] rfl)
      refine lv_iload hx hb dX2_reasonAgainst_101 (lv_at hl 0 rfl) ?_
      cases hf
      exact fn_iret hx hb hr hlocks hP hS dX2_reasonAgainst_103
    · replace hf := fp_t c_22 hf
      refine lv_iconst (v := 1) hx hb dX2_reasonAgainst_27 (by decide) ?_
      cases hf
      exact fn_iret hx hb hr hlocks hP hS dX2_reasonAgainst_28
  · replace hf := fp_f c_19 hf
    refine lv_iconst (v := 0) hx hb dX2_reasonAgainst_11 (by decide) ?_
    cases hf
    exact fn_iret hx hb hr hlocks hP hS dX2_reasonAgainst_12
