def f_X4_length (rB : Int32) : Option (Int32) :=
  bd (f_X3_rows rB) (fun r_1 =>
  some r_1)
set_option maxHeartbeats 4000000 in
set_option maxRecDepth 100000 in
theorem c_X4_length (l : Launch) (X : cx_G) (tx : (Nat → Nat)) (rB : Int32) (fB : (Nat → Int32)) (rO : Int32) (fO : (Nat → Int32)) (pl : Int32) (fa : Int32) (r : Int32) (hf : f_X4_length rB = some r) : Fn l yX4_length wsX4_length ({ frames := 1, cells := 0, slots := 0, locals := 20 } : Room) X [.ref (tx 0)] (wTx X tx rB fB rO fO pl fa) (some (.int r)) (wTx X tx rB fB rO fO pl fa) := by
  refine fn_intro (cc := cX4_length) (maxL := 1) (ret := (some .int)) (by decide) rfl rfl (Nat.le_of_ble_eq_true rfl) ?_
  intro p e s m args below meth c A ls hx hb hml hr hts hown hlocks hK hP hD0 hS hA hl
  have hown : s.vm.findClass RX4 = some m.cls := hown
  have hl : lv_has ls 1 [(0, .ref (tx 0))] := hl
  have hiX4 : ∀ w ∈ u_ws RX4 TX4 4, w ∈ wsX4_length := by decide +kernel
  have k14 := hts (.fieldLink RX4 14 "LentRights$Text" "bytes" "LLentRights$Table;") (by decide +kernel)
  unfold f_X4_length at hf
  refine lv_aload_n hx hb dX4_length_0 rfl (lv_at hl 0 rfl) ?_
  refine va_get (D := X.1) (ci := 4) (v := .ref (tx 1)) (C := RX4) (T := TX4) (N := 4) hx hb hts hiX4 hown hK.1 hP 0 rfl rfl 0 (by decide) k14 (fun _ h9 => h9) rfl dX4_length_1 ?_
  obtain ⟨r_1, hc_2, hf⟩ := bd_of hf
  refine fn_V (v := some (.int r_1)) (As := []) (rest := []) (st1 := [.int r_1]) (ws' := (wTx X tx rB fB rO fO pl fa)) (nL := 1) ⟨hx, hb, hml, hown, hts⟩ (c_X3_rows l X (tx 1) (tx 2) (100 : Int32) (1 : Int32) 100 rB fB r_1 hc_2) (cwV 0 hts gX4_length_X3_rows rfl rfl rfl (by decide +kernel) ⟨Nat.le_of_ble_eq_true rfl, Nat.le_of_ble_eq_true rfl⟩) 3 rfl rfl rfl rfl hl.1 rfl (Nat.le_of_ble_eq_true rfl) dX4_length_4 hK hP (hD0.addr rfl) hS hA [1, 2] rfl rfl rfl rfl ⟨Nat.zero_le _, Nat.zero_le _⟩ (fun H locs hP hD hS => ?_)
  cases hf
  exact fn_iret hx hb hr hlocks hP hS dX4_length_7

def f_X4_isFull (rB : Int32) : Option (Int32) :=
  bd (f_X3_isFull (100 : Int32) rB) (fun r_1 =>
  some r_1)
theorem z_X4_isFull {rB : Int32} {r : Int32} (hf : f_X4_isFull rB = some r) : r = 0 ∨ r = 1 := by
  unfold f_X4_isFull at hf
  obtain ⟨r_1, hc_2, hf⟩ := bd_of hf
  cases hf
  exact z_X3_isFull hc_2
set_option maxHeartbeats 4000000 in
set_option maxRecDepth 100000 in
theorem c_X4_isFull (l : Launch) (X : cx_G) (tx : (Nat → Nat)) (rB : Int32) (fB : (Nat → Int32)) (rO : Int32) (fO : (Nat → Int32)) (pl : Int32) (fa : Int32) (r : Int32) (hf : f_X4_isFull rB = some r) : Fn l yX4_isFull wsX4_isFull ({ frames := 1, cells := 0, slots := 0, locals := 20 } : Room) X [.ref (tx 0)] (wTx X tx rB fB rO fO pl fa) (some (.int r)) (wTx X tx rB fB rO fO pl fa) := by
  refine fn_intro (cc := cX4_isFull) (maxL := 1) (ret := (some .boolean)) (by decide) rfl rfl (Nat.le_of_ble_eq_true rfl) ?_
  intro p e s m args below meth c A ls hx hb hml hr hts hown hlocks hK hP hD0 hS hA hl
  have hown : s.vm.findClass RX4 = some m.cls := hown
  have hl : lv_has ls 1 [(0, .ref (tx 0))] := hl
  have hiX4 : ∀ w ∈ u_ws RX4 TX4 4, w ∈ wsX4_isFull := by decide +kernel
  have k14 := hts (.fieldLink RX4 14 "LentRights$Text" "bytes" "LLentRights$Table;") (by decide +kernel)
  unfold f_X4_isFull at hf
  refine lv_aload_n hx hb dX4_isFull_0 rfl (lv_at hl 0 rfl) ?_
  refine va_get (D := X.1) (ci := 4) (v := .ref (tx 1)) (C := RX4) (T := TX4) (N := 4) hx hb hts hiX4 hown hK.1 hP 0 rfl rfl 0 (by decide) k14 (fun _ h9 => h9) rfl dX4_isFull_1 ?_
  obtain ⟨r_1, hc_2, hf⟩ := bd_of hf
  refine fn_V (v := some (.int r_1)) (As := []) (rest := []) (st1 := [.int r_1]) (ws' := (wTx X tx rB fB rO fO pl fa)) (nL := 1) ⟨hx, hb, hml, hown, hts⟩ (c_X3_isFull l X (tx 1) (tx 2) (100 : Int32) (1 : Int32) 100 rB fB r_1 hc_2) (cwV 0 hts gX4_isFull_X3_isFull rfl rfl rfl (by decide +kernel) ⟨Nat.le_of_ble_eq_true rfl, Nat.le_of_ble_eq_true rfl⟩) 3 rfl rfl rfl rfl hl.1 rfl (Nat.le_of_ble_eq_true rfl) dX4_isFull_4 hK hP (hD0.addr rfl) hS hA [1, 2] rfl rfl rfl rfl ⟨Nat.zero_le _, Nat.zero_le _⟩ (fun H locs hP hD hS => ?_)
  cases hf
  exact fn_zret hx hb hr (z_narrow (z_X3_isFull hc_2)) hlocks hP hS dX4_isFull_7

def f_X4_add (x1 : Int32) (rB : Int32) (fB : (Nat → Int32)) : Option (Int32 × (Nat → Int32)) :=
  bd2 (f_X3_addRow (100 : Int32) rB) (fun r_1 rB_2 =>
  bd (f_X3_put (1 : Int32) 100 r_1 (0 : Int32) x1 rB_2 fB) (fun fB_4 =>
  some (rB_2, fB_4)))
set_option maxHeartbeats 4000000 in
set_option maxRecDepth 100000 in
theorem c_X4_add (l : Launch) (X : cx_G) (tx : (Nat → Nat)) (rB : Int32) (fB : (Nat → Int32)) (rO : Int32) (fO : (Nat → Int32)) (pl : Int32) (fa : Int32) (x1 : Int32) (rB' : Int32) (fB' : (Nat → Int32)) (hf : f_X4_add x1 rB fB = some (rB', fB')) : Fn l yX4_add wsX4_add ({ frames := 1, cells := 0, slots := 0, locals := 25 } : Room) X [.ref (tx 0), .int x1] (wTx X tx rB fB rO fO pl fa) none (wTx X tx rB' fB' rO fO pl fa) := by
  refine fn_intro (cc := cX4_add) (maxL := 2) (ret := none) (by decide) rfl rfl (Nat.le_of_ble_eq_true rfl) ?_
  intro p e s m args below meth c A ls hx hb hml hr hts hown hlocks hK hP hD0 hS hA hl
  have hown : s.vm.findClass RX4 = some m.cls := hown
  have hl : lv_has ls 2 [(0, .ref (tx 0)), (1, .int x1)] := hl
  have hiX4 : ∀ w ∈ u_ws RX4 TX4 4, w ∈ wsX4_add := by decide +kernel
  have k14 := hts (.fieldLink RX4 14 "LentRights$Text" "bytes" "LLentRights$Table;") (by decide +kernel)
  unfold f_X4_add at hf
  refine lv_aload_n hx hb dX4_add_0 rfl (lv_at hl 0 rfl) ?_
  refine va_get (D := X.1) (ci := 4) (v := .ref (tx 1)) (C := RX4) (T := TX4) (N := 4) hx hb hts hiX4 hown hK.1 hP 0 rfl rfl 0 (by decide) k14 (fun _ h9 => h9) rfl dX4_add_1 ?_
  refine lv_aload_n hx hb dX4_add_4 rfl (lv_at hl 0 rfl) ?_
  refine va_get (D := X.1) (ci := 4) (v := .ref (tx 1)) (C := RX4) (T := TX4) (N := 4) hx hb hts hiX4 hown hK.1 hP 0 rfl rfl 0 (by decide) k14 (fun _ h9 => h9) rfl dX4_add_5 ?_
  obtain ⟨r_1, rB_2, hc_3, hf⟩ := bd2_of hf
  refine fn_V (v := some (.int r_1)) (As := []) (rest := [.ref (tx 1)]) (st1 := [.int r_1, .ref (tx 1)]) (ws' := (wTx X tx rB_2 fB rO fO pl fa)) (nL := 2) ⟨hx, hb, hml, hown, hts⟩ (c_X3_addRow l X (tx 1) (tx 2) (100 : Int32) (1 : Int32) 100 rB fB r_1 rB_2 hc_3) (cwV 0 hts gX4_add_X3_addRow rfl rfl rfl (by decide +kernel) ⟨Nat.le_of_ble_eq_true rfl, Nat.le_of_ble_eq_true rfl⟩) 3 rfl rfl rfl rfl hl.1 rfl (Nat.le_of_ble_eq_true rfl) dX4_add_8 hK hP (hD0.addr rfl) hS hA [1, 2] rfl rfl rfl rfl ⟨Nat.zero_le _, Nat.zero_le _⟩ (fun H locs hP hD hS => ?_)
  refine lv_iconst (v := 0) hx hb dX4_add_11 (by decide) ?_
  refine lv_iload_n hx hb dX4_add_12 rfl (lv_at hl 1 rfl) ?_
  obtain ⟨fB_4, hc_5, hf⟩ := bd_of hf
  refine fn_V (v := none) (As := [.int r_1, .int (0 : Int32), .int x1]) (rest := []) (st1 := []) (ws' := (wTx X tx rB_2 fB_4 rO fO pl fa)) (nL := 2) ⟨hx, hb, hml, hown, hts⟩ (c_X3_put l X (tx 1) (tx 2) (100 : Int32) (1 : Int32) 100 rB_2 fB r_1 (0 : Int32) x1 fB_4 hc_5) (cwV 3 hts gX4_add_X3_put rfl rfl rfl (by decide +kernel) ⟨Nat.le_of_ble_eq_true rfl, Nat.le_of_ble_eq_true rfl⟩) 3 rfl rfl rfl rfl hl.1 rfl (Nat.le_of_ble_eq_true rfl) dX4_add_13 hK hP (hD0.addr rfl) hS hA [1, 2] rfl rfl rfl rfl ⟨Nat.zero_le _, Nat.zero_le _⟩ (fun H locs hP hD hS => ?_)
  cases hf
  exact fn_vret hx hb hr hlocks hP hS dX4_add_16

def f_X4_empty (rB : Int32) : Option (Int32) :=
  bd (f_X3_dropAll rB) (fun rB_1 =>
  some rB_1)
set_option maxHeartbeats 4000000 in
set_option maxRecDepth 100000 in
theorem c_X4_empty (l : Launch) (X : cx_G) (tx : (Nat → Nat)) (rB : Int32) (fB : (Nat → Int32)) (rO : Int32) (fO : (Nat → Int32)) (pl : Int32) (fa : Int32) (rB' : Int32) (hf : f_X4_empty rB = some rB') : Fn l yX4_empty wsX4_empty ({ frames := 1, cells := 0, slots := 0, locals := 20 } : Room) X [.ref (tx 0)] (wTx X tx rB fB rO fO pl fa) none (wTx X tx rB' fB rO fO pl fa) := by
  refine fn_intro (cc := cX4_empty) (maxL := 1) (ret := none) (by decide) rfl rfl (Nat.le_of_ble_eq_true rfl) ?_
  intro p e s m args below meth c A ls hx hb hml hr hts hown hlocks hK hP hD0 hS hA hl
  have hown : s.vm.findClass RX4 = some m.cls := hown
  have hl : lv_has ls 1 [(0, .ref (tx 0))] := hl
  have hiX4 : ∀ w ∈ u_ws RX4 TX4 4, w ∈ wsX4_empty := by decide +kernel
  have k14 := hts (.fieldLink RX4 14 "LentRights$Text" "bytes" "LLentRights$Table;") (by decide +kernel)
  unfold f_X4_empty at hf
  refine lv_aload_n hx hb dX4_empty_0 rfl (lv_at hl 0 rfl) ?_
  refine va_get (D := X.1) (ci := 4) (v := .ref (tx 1)) (C := RX4) (T := TX4) (N := 4) hx hb hts hiX4 hown hK.1 hP 0 rfl rfl 0 (by decide) k14 (fun _ h9 => h9) rfl dX4_empty_1 ?_
  obtain ⟨rB_1, hc_2, hf⟩ := bd_of hf
  refine fn_V (v := none) (As := []) (rest := []) (st1 := []) (ws' := (wTx X tx rB_1 fB rO fO pl fa)) (nL := 1) ⟨hx, hb, hml, hown, hts⟩ (c_X3_dropAll l X (tx 1) (tx 2) (100 : Int32) (1 : Int32) 100 rB fB rB_1 hc_2) (cwV 0 hts gX4_empty_X3_dropAll rfl rfl rfl (by decide +kernel) ⟨Nat.le_of_ble_eq_true rfl, Nat.le_of_ble_eq_true rfl⟩) 3 rfl rfl rfl rfl hl.1 rfl (Nat.le_of_ble_eq_true rfl) dX4_empty_4 hK hP (hD0.addr rfl) hS hA [1, 2] rfl rfl rfl rfl ⟨Nat.zero_le _, Nat.zero_le _⟩ (fun H locs hP hD hS => ?_)
  cases hf
  exact fn_vret hx hb hr hlocks hP hS dX4_empty_7

def f_X4_isDigit (x0 : Int32) : Option (Int32) :=
  bd (f_X5_isBetween x0 (48 : Int32) (57 : Int32)) (fun r_1 =>
  some r_1)
theorem z_X4_isDigit {x0 : Int32} {r : Int32} (hf : f_X4_isDigit x0 = some r) : r = 0 ∨ r = 1 := by
  unfold f_X4_isDigit at hf
  obtain ⟨r_1, hc_2, hf⟩ := bd_of hf
  cases hf
  exact z_X5_isBetween hc_2
set_option maxHeartbeats 4000000 in
set_option maxRecDepth 100000 in
theorem c_X4_isDigit (l : Launch) (X : cx_G) (x0 : Int32) (r : Int32) (hf : f_X4_isDigit x0 = some r) : Fn l yX4_isDigit wsX4_isDigit ({ frames := 1, cells := 0, slots := 0, locals := 22 } : Room) X [.int x0] ([] : va_W) (some (.int r)) ([] : va_W) := by
  refine fn_intro (cc := cX4_isDigit) (maxL := 1) (ret := (some .boolean)) (by decide) rfl rfl (Nat.le_of_ble_eq_true rfl) ?_
  intro p e s m args below meth c A ls hx hb hml hr hts hown hlocks hK hP hD0 hS hA hl
  have hown : s.vm.findClass RX4 = some m.cls := hown
  have hl : lv_has ls 1 [(0, .int x0)] := hl
  unfold f_X4_isDigit at hf
  refine lv_iload_n hx hb dX4_isDigit_0 rfl (lv_at hl 0 rfl) ?_
  refine lv_bipush (v := 48) hx hb dX4_isDigit_1 (by decide) ?_
  refine lv_bipush (v := 57) hx hb dX4_isDigit_3 (by decide) ?_
  obtain ⟨r_1, hc_2, hf⟩ := bd_of hf
  refine fn_SN (v := some (.int r_1)) (As := [.int x0, .int (48 : Int32), .int (57 : Int32)]) (rest := []) (st1 := [.int r_1]) (ws' := ([] : va_W)) (nL := 1) ⟨hx, hb, hml, hown, hts⟩ (c_X5_isBetween l X x0 (48 : Int32) (57 : Int32) r_1 hc_2) ⟨va_cnB (host := "LentRights") 3 hts gX4_isDigit_X5_isBetween_n78 rfl rfl rfl hK.2.2.2 (hts (.initialized RX5) (by decide +kernel)) (by decide +kernel) ⟨Nat.le_of_ble_eq_true rfl, Nat.le_of_ble_eq_true rfl⟩, hts (.static yX5_isBetween) (by decide +kernel), trivial⟩ rfl hl.1 rfl (Nat.le_of_ble_eq_true rfl) dX4_isDigit_5 hK hP (hD0.addr rfl) hS hA [] rfl rfl rfl rfl ⟨Nat.zero_le _, Nat.zero_le _⟩ (fun H locs hP hD hS => ?_)
  cases hf
  exact fn_zret hx hb hr (z_narrow (z_X5_isBetween hc_2)) hlocks hP hS dX4_isDigit_8

def f_X4_current (rB : Int32) (fB : (Nat → Int32)) (pl : Int32) : Option (Int32) :=
  bd (f_X3_has pl rB) (fun r_1 =>
  if r_1 = (0 : Int32) then
  (some (-1 : Int32))
  else
  (bd (f_X3_at (1 : Int32) 100 pl (0 : Int32) rB fB) (fun r_4 =>
  some r_4)))
set_option maxHeartbeats 4000000 in
set_option maxRecDepth 100000 in
theorem c_X4_current (l : Launch) (X : cx_G) (tx : (Nat → Nat)) (rB : Int32) (fB : (Nat → Int32)) (rO : Int32) (fO : (Nat → Int32)) (pl : Int32) (fa : Int32) (r : Int32) (hf : f_X4_current rB fB pl = some r) : Fn l yX4_current wsX4_current ({ frames := 1, cells := 0, slots := 0, locals := 24 } : Room) X [.ref (tx 0)] (wTx X tx rB fB rO fO pl fa) (some (.int r)) (wTx X tx rB fB rO fO pl fa) := by
  refine fn_intro (cc := cX4_current) (maxL := 1) (ret := (some .int)) (by decide) rfl rfl (Nat.le_of_ble_eq_true rfl) ?_
  intro p e s m args below meth c A ls hx hb hml hr hts hown hlocks hK hP hD0 hS hA hl
  have hown : s.vm.findClass RX4 = some m.cls := hown
  have hl : lv_has ls 1 [(0, .ref (tx 0))] := hl
  have hiX4 : ∀ w ∈ u_ws RX4 TX4 4, w ∈ wsX4_current := by decide +kernel
  have k14 := hts (.fieldLink RX4 14 "LentRights$Text" "bytes" "LLentRights$Table;") (by decide +kernel)
  have k45 := hts (.fieldLink RX4 45 "LentRights$Text" "place" "I") (by decide +kernel)
  unfold f_X4_current at hf
  refine lv_aload_n hx hb dX4_current_0 rfl (lv_at hl 0 rfl) ?_
  refine va_get (D := X.1) (ci := 4) (v := .ref (tx 1)) (C := RX4) (T := TX4) (N := 4) hx hb hts hiX4 hown hK.1 hP 0 rfl rfl 0 (by decide) k14 (fun _ h9 => h9) rfl dX4_current_1 ?_
  refine lv_aload_n hx hb dX4_current_4 rfl (lv_at hl 0 rfl) ?_
  refine va_get (D := X.1) (ci := 4) (v := .int pl) (C := RX4) (T := TX4) (N := 4) hx hb hts hiX4 hown hK.1 hP 0 rfl rfl 2 (by decide) k45 (fun _ h9 => h9) rfl dX4_current_5 ?_
  obtain ⟨r_1, hc_2, hf⟩ := bd_of hf
  refine fn_V (v := some (.int r_1)) (As := [.int pl]) (rest := []) (st1 := [.int r_1]) (ws' := (wTx X tx rB fB rO fO pl fa)) (nL := 1) ⟨hx, hb, hml, hown, hts⟩ (c_X3_has l X (tx 1) (tx 2) (100 : Int32) (1 : Int32) 100 rB fB pl r_1 hc_2) (cwV 1 hts gX4_current_X3_has rfl rfl rfl (by decide +kernel) ⟨Nat.le_of_ble_eq_true rfl, Nat.le_of_ble_eq_true rfl⟩) 3 rfl rfl rfl rfl hl.1 rfl (Nat.le_of_ble_eq_true rfl) dX4_current_8 hK hP (hD0.addr rfl) hS hA [1, 2] rfl rfl rfl rfl ⟨Nat.zero_le _, Nat.zero_le _⟩ (fun H locs hP hD hS => ?_)
  refine lv_if_eq (tgt := 29) hx hb dX4_current_11 (by decide) (fun c_3 => ?_) (fun c_3 => ?_)
  · replace hf := fp_t c_3 hf
    refine lv_iconst (v := -1) hx hb dX4_current_29 (by decide) ?_
    cases hf
    exact fn_iret hx hb hr hlocks hP hS dX4_current_30
  · replace hf := fp_f c_3 hf
    refine lv_aload_n hx hb dX4_current_14 rfl (lv_at hl 0 rfl) ?_
    refine va_get (D := X.1) (ci := 4) (v := .ref (tx 1)) (C := RX4) (T := TX4) (N := 4) hx hb hts hiX4 hown hK.1 hP 0 rfl rfl 0 (by decide) k14 (fun _ h9 => h9) rfl dX4_current_15 ?_
    refine lv_aload_n hx hb dX4_current_18 rfl (lv_at hl 0 rfl) ?_
    refine va_get (D := X.1) (ci := 4) (v := .int pl) (C := RX4) (T := TX4) (N := 4) hx hb hts hiX4 hown hK.1 hP 0 rfl rfl 2 (by decide) k45 (fun _ h9 => h9) rfl dX4_current_19 ?_
    refine lv_iconst (v := 0) hx hb dX4_current_22 (by decide) ?_
    obtain ⟨r_4, hc_5, hf⟩ := bd_of hf
    refine fn_V (v := some (.int r_4)) (As := [.int pl, .int (0 : Int32)]) (rest := []) (st1 := [.int r_4]) (ws' := (wTx X tx rB fB rO fO pl fa)) (nL := 1) ⟨hx, hb, hml, hown, hts⟩ (c_X3_at l X (tx 1) (tx 2) (100 : Int32) (1 : Int32) 100 rB fB pl (0 : Int32) r_4 hc_5) (cwV 2 hts gX4_current_X3_at rfl rfl rfl (by decide +kernel) ⟨Nat.le_of_ble_eq_true rfl, Nat.le_of_ble_eq_true rfl⟩) 3 rfl rfl rfl rfl hl.1 rfl (Nat.le_of_ble_eq_true rfl) dX4_current_23 hK hP (hD0.addr rfl) hS hA [1, 2] rfl rfl rfl rfl ⟨Nat.zero_le _, Nat.zero_le _⟩ (fun H locs hP hD hS => ?_)
    refine lv_goto (tgt := 30) hx hb dX4_current_26 (by decide) ?_
    cases hf
    exact fn_iret hx hb hr hlocks hP hS dX4_current_30

def f_X4_fail (x1 : Int32) (fa : Int32) : Option (Int32) :=
  if fa = (-1 : Int32) then
  (some x1)
  else
  (some fa)
set_option maxHeartbeats 4000000 in
set_option maxRecDepth 100000 in
theorem c_X4_fail (l : Launch) (X : cx_G) (tx : (Nat → Nat)) (rB : Int32) (fB : (Nat → Int32)) (rO : Int32) (fO : (Nat → Int32)) (pl : Int32) (fa : Int32) (x1 : Int32) (fa' : Int32) (hf : f_X4_fail x1 fa = some fa') : Fn l yX4_fail wsX4_fail ({ frames := 0, cells := 0, slots := 0, locals := 0 } : Room) X [.ref (tx 0), .int x1] (wTx X tx rB fB rO fO pl fa) none (wTx X tx rB fB rO fO pl fa') := by
  refine fn_intro (cc := cX4_fail) (maxL := 2) (ret := none) (by decide) rfl rfl (Nat.le_of_ble_eq_true rfl) ?_
  intro p e s m args below meth c A ls hx hb hml hr hts hown hlocks hK hP hD0 hS hA hl
  have hown : s.vm.findClass RX4 = some m.cls := hown
  have hl : lv_has ls 2 [(0, .ref (tx 0)), (1, .int x1)] := hl
  have hiX4 : ∀ w ∈ u_ws RX4 TX4 4, w ∈ wsX4_fail := by decide +kernel
  have k23 := hts (.fieldLink RX4 23 "LentRights$Text" "fault" "I") (by decide +kernel)
  unfold f_X4_fail at hf
  refine lv_aload_n hx hb dX4_fail_0 rfl (lv_at hl 0 rfl) ?_
  refine va_get (D := X.1) (ci := 4) (v := .int fa) (C := RX4) (T := TX4) (N := 4) hx hb hts hiX4 hown hK.1 hP 0 rfl rfl 3 (by decide) k23 (fun _ h9 => h9) rfl dX4_fail_1 ?_
  refine lv_iconst (v := -1) hx hb dX4_fail_4 (by decide) ?_
  refine lv_icmp_ne (tgt := 13) hx hb dX4_fail_5 (by decide) (fun c_1 => ?_) (fun c_1 => ?_)
  · replace hf := fp_f c_1 hf
    cases hf
    exact fn_vret hx hb hr hlocks hP hS dX4_fail_13
  · replace hf := fp_t c_1 hf
    refine lv_aload_n hx hb dX4_fail_8 rfl (lv_at hl 0 rfl) ?_
    refine lv_iload_n hx hb dX4_fail_9 rfl (lv_at hl 1 rfl) ?_
    refine va_put (D := X.1) (ci := 4) (v := .int x1) (ty := .int) (C := RX4) (T := TX4) (N := 4) hx hb hts hiX4 tyX4 tyX4_ok nmX4 hown hK.1 hP (hD0.addr rfl) hS 0 rfl rfl 3 (by decide) k23 (fun _ h9 => h9) rfl (by decide +kernel) rfl rfl (Nat.le_of_ble_eq_true rfl) dX4_fail_10 (fun H locs hP hD hS => ?_)
    have hP : va_P X.1 vwCl (wTx X tx rB fB rO fO pl x1) H := hP
    cases hf
    exact fn_vret hx hb hr hlocks hP hS dX4_fail_13

def f_X4_readByte (x1 : Int32) (rB : Int32) (fB : (Nat → Int32)) (pl : Int32) (fa : Int32) : Option (Int32 × Int32) :=
  bd (f_X4_current rB fB pl) (fun r_1 =>
  if r_1 = x1 then
  (nm (pl + (1 : Int32)) (fun v_4 =>
  some (v_4, fa)))
  else
  (bd (f_X4_fail pl fa) (fun fa_5 =>
  nm (pl + (1 : Int32)) (fun v_7 =>
  some (v_7, fa_5)))))
set_option maxHeartbeats 4000000 in
set_option maxRecDepth 100000 in
theorem c_X4_readByte (l : Launch) (X : cx_G) (tx : (Nat → Nat)) (rB : Int32) (fB : (Nat → Int32)) (rO : Int32) (fO : (Nat → Int32)) (pl : Int32) (fa : Int32) (x1 : Int32) (pl' : Int32) (fa' : Int32) (hf : f_X4_readByte x1 rB fB pl fa = some (pl', fa')) : Fn l yX4_readByte wsX4_readByte ({ frames := 2, cells := 0, slots := 0, locals := 44 } : Room) X [.ref (tx 0), .int x1] (wTx X tx rB fB rO fO pl fa) none (wTx X tx rB fB rO fO pl' fa') := by
  refine fn_intro (cc := cX4_readByte) (maxL := 2) (ret := none) (by decide) rfl rfl (Nat.le_of_ble_eq_true rfl) ?_
  intro p e s m args below meth c A ls hx hb hml hr hts hown hlocks hK hP hD0 hS hA hl
  have hown : s.vm.findClass RX4 = some m.cls := hown
  have hl : lv_has ls 2 [(0, .ref (tx 0)), (1, .int x1)] := hl
  have hiX4 : ∀ w ∈ u_ws RX4 TX4 4, w ∈ wsX4_readByte := by decide +kernel
  have k45 := hts (.fieldLink RX4 45 "LentRights$Text" "place" "I") (by decide +kernel)
  unfold f_X4_readByte at hf
  refine lv_aload_n hx hb dX4_readByte_0 rfl (lv_at hl 0 rfl) ?_
  obtain ⟨r_1, hc_2, hf⟩ := bd_of hf
  refine fn_V (v := some (.int r_1)) (As := []) (rest := []) (st1 := [.int r_1]) (ws' := (wTx X tx rB fB rO fO pl fa)) (nL := 2) ⟨hx, hb, hml, hown, hts⟩ (c_X4_current l X tx rB fB rO fO pl fa r_1 hc_2) (cwV 0 hts gX4_readByte_X4_current rfl rfl rfl (by decide +kernel) ⟨Nat.le_of_ble_eq_true rfl, Nat.le_of_ble_eq_true rfl⟩) 4 rfl rfl rfl rfl hl.1 rfl (Nat.le_of_ble_eq_true rfl) dX4_readByte_1 hK hP (hD0.addr rfl) hS hA [0, 1, 2, 3, 4] rfl rfl rfl rfl ⟨Nat.zero_le _, Nat.zero_le _⟩ (fun H locs hP hD hS => ?_)
  refine lv_iload_n hx hb dX4_readByte_4 rfl (lv_at hl 1 rfl) ?_
  refine lv_icmp_eq (tgt := 16) hx hb dX4_readByte_5 (by decide) (fun c_3 => ?_) (fun c_3 => ?_)
  · replace hf := fp_t c_3 hf
    refine lv_aload_n hx hb dX4_readByte_16 rfl (lv_at hl 0 rfl) ?_
    refine lv_dup hx hb dX4_readByte_17 rfl ?_
    refine va_get (D := X.1) (ci := 4) (v := .int pl) (C := RX4) (T := TX4) (N := 4) hx hb hts hiX4 hown hK.1 hP 0 rfl rfl 2 (by decide) k45 (fun _ h9 => h9) rfl dX4_readByte_18 ?_
    refine lv_iconst (v := 1) hx hb dX4_readByte_21 (by decide) ?_
    refine lv_iadd hx hb dX4_readByte_22 ?_
    refine lv_topi (fun v_4 ev_4 => ?_)
    replace hf := nm_of ev_4 hf
    refine va_put (D := X.1) (ci := 4) (v := .int v_4) (ty := .int) (C := RX4) (T := TX4) (N := 4) hx hb hts hiX4 tyX4 tyX4_ok nmX4 hown hK.1 hP (hD0.addr rfl) hS 0 rfl rfl 2 (by decide) k45 (fun _ h9 => h9) rfl (by decide +kernel) rfl rfl (Nat.le_of_ble_eq_true rfl) dX4_readByte_23 (fun H locs hP hD hS => ?_)
    have hP : va_P X.1 vwCl (wTx X tx rB fB rO fO v_4 fa) H := hP
    cases hf
    exact fn_vret hx hb hr hlocks hP hS dX4_readByte_26
  · replace hf := fp_f c_3 hf
    refine lv_aload_n hx hb dX4_readByte_8 rfl (lv_at hl 0 rfl) ?_
    refine lv_aload_n hx hb dX4_readByte_9 rfl (lv_at hl 0 rfl) ?_
    refine va_get (D := X.1) (ci := 4) (v := .int pl) (C := RX4) (T := TX4) (N := 4) hx hb hts hiX4 hown hK.1 hP 0 rfl rfl 2 (by decide) k45 (fun _ h9 => h9) rfl dX4_readByte_10 ?_
    obtain ⟨fa_5, hc_6, hf⟩ := bd_of hf
    refine fn_V (v := none) (As := [.int pl]) (rest := []) (st1 := []) (ws' := (wTx X tx rB fB rO fO pl fa_5)) (nL := 2) ⟨hx, hb, hml, hown, hts⟩ (c_X4_fail l X tx rB fB rO fO pl fa pl fa_5 hc_6) (cwV 1 hts gX4_readByte_X4_fail rfl rfl rfl (by decide +kernel) ⟨Nat.le_of_ble_eq_true rfl, Nat.le_of_ble_eq_true rfl⟩) 4 rfl rfl rfl rfl hl.1 rfl (Nat.le_of_ble_eq_true rfl) dX4_readByte_13 hK hP (hD0.addr rfl) hS hA [0, 1, 2, 3, 4] rfl rfl rfl rfl ⟨Nat.zero_le _, Nat.zero_le _⟩ (fun H locs hP hD hS => ?_)
    refine lv_aload_n hx hb dX4_readByte_16 rfl (lv_at hl 0 rfl) ?_
    refine lv_dup hx hb dX4_readByte_17 rfl ?_
    refine va_get (D := X.1) (ci := 4) (v := .int pl) (C := RX4) (T := TX4) (N := 4) hx hb hts hiX4 hown hK.1 hP 0 rfl rfl 2 (by decide) k45 (fun _ h9 => h9) rfl dX4_readByte_18 ?_
    refine lv_iconst (v := 1) hx hb dX4_readByte_21 (by decide) ?_
    refine lv_iadd hx hb dX4_readByte_22 ?_
    refine lv_topi (fun v_7 ev_7 => ?_)
    replace hf := nm_of ev_7 hf
    refine va_put (D := X.1) (ci := 4) (v := .int v_7) (ty := .int) (C := RX4) (T := TX4) (N := 4) hx hb hts hiX4 tyX4 tyX4_ok nmX4 hown hK.1 hP (hD0.addr rfl) hS 0 rfl rfl 2 (by decide) k45 (fun _ h9 => h9) rfl (by decide +kernel) rfl rfl (Nat.le_of_ble_eq_true rfl) dX4_readByte_23 (fun H locs hP hD hS => ?_)
    have hP : va_P X.1 vwCl (wTx X tx rB fB rO fO v_7 fa_5) H := hP
    cases hf
    exact fn_vret hx hb hr hlocks hP hS dX4_readByte_26

def f_X4_readSign (rB : Int32) (fB : (Nat → Int32)) (pl : Int32) (fa : Int32) : Option (Int32 × Int32 × Int32) :=
  bd (f_X4_current rB fB pl) (fun r_1 =>
  if r_1 = (45 : Int32) then
  (bd (f_X4_current rB fB pl) (fun r_15 =>
  if r_15 = (43 : Int32) then
  (nm (pl + (1 : Int32)) (fun v_18 =>
  some ((-1 : Int32), v_18, fa)))
  else
  (bd (f_X4_current rB fB pl) (fun r_19 =>
  if r_19 = (45 : Int32) then
  (nm (pl + (1 : Int32)) (fun v_22 =>
  some ((-1 : Int32), v_22, fa)))
  else
  (bd (f_X4_fail pl fa) (fun fa_23 =>
  nm (pl + (1 : Int32)) (fun v_25 =>
  some ((-1 : Int32), v_25, fa_23))))))))
  else
  (bd (f_X4_current rB fB pl) (fun r_4 =>
  if r_4 = (43 : Int32) then
  (nm (pl + (1 : Int32)) (fun v_7 =>
  some ((1 : Int32), v_7, fa)))
  else
  (bd (f_X4_current rB fB pl) (fun r_8 =>
  if r_8 = (45 : Int32) then
  (nm (pl + (1 : Int32)) (fun v_11 =>
  some ((1 : Int32), v_11, fa)))
  else
  (bd (f_X4_fail pl fa) (fun fa_12 =>
  nm (pl + (1 : Int32)) (fun v_14 =>
  some ((1 : Int32), v_14, fa_12)))))))))
set_option maxHeartbeats 4000000 in
set_option maxRecDepth 100000 in
theorem c_X4_readSign (l : Launch) (X : cx_G) (tx : (Nat → Nat)) (rB : Int32) (fB : (Nat → Int32)) (rO : Int32) (fO : (Nat → Int32)) (pl : Int32) (fa : Int32) (r : Int32) (pl' : Int32) (fa' : Int32) (hf : f_X4_readSign rB fB pl fa = some (r, pl', fa')) : Fn l yX4_readSign wsX4_readSign ({ frames := 2, cells := 0, slots := 0, locals := 44 } : Room) X [.ref (tx 0)] (wTx X tx rB fB rO fO pl fa) (some (.int r)) (wTx X tx rB fB rO fO pl' fa') := by
  refine fn_intro (cc := cX4_readSign) (maxL := 2) (ret := (some .int)) (by decide) rfl rfl (Nat.le_of_ble_eq_true rfl) ?_
  intro p e s m args below meth c A ls hx hb hml hr hts hown hlocks hK hP hD0 hS hA hl
  have hown : s.vm.findClass RX4 = some m.cls := hown
  have hl : lv_has ls 2 [(0, .ref (tx 0))] := hl
  have hiX4 : ∀ w ∈ u_ws RX4 TX4 4, w ∈ wsX4_readSign := by decide +kernel
  have k45 := hts (.fieldLink RX4 45 "LentRights$Text" "place" "I") (by decide +kernel)
  unfold f_X4_readSign at hf
  refine lv_aload_n hx hb dX4_readSign_0 rfl (lv_at hl 0 rfl) ?_
  obtain ⟨r_1, hc_2, hf⟩ := bd_of hf
  refine fn_V (v := some (.int r_1)) (As := []) (rest := []) (st1 := [.int r_1]) (ws' := (wTx X tx rB fB rO fO pl fa)) (nL := 2) ⟨hx, hb, hml, hown, hts⟩ (c_X4_current l X tx rB fB rO fO pl fa r_1 hc_2) (cwV 0 hts gX4_readSign_X4_current rfl rfl rfl (by decide +kernel) ⟨Nat.le_of_ble_eq_true rfl, Nat.le_of_ble_eq_true rfl⟩) 4 rfl rfl rfl rfl hl.1 rfl (Nat.le_of_ble_eq_true rfl) dX4_readSign_1 hK hP (hD0.addr rfl) hS hA [0, 1, 2, 3, 4] rfl rfl rfl rfl ⟨Nat.zero_le _, Nat.zero_le _⟩ (fun H locs hP hD hS => ?_)
  refine lv_bipush (v := 45) hx hb dX4_readSign_4 (by decide) ?_
  refine lv_icmp_ne (tgt := 13) hx hb dX4_readSign_6 (by decide) (fun c_3 => ?_) (fun c_3 => ?_)
  · replace hf := fp_f c_3 hf
    refine lv_iconst (v := 1) hx hb dX4_readSign_13 (by decide) ?_
    refine lv_istore_n (lv' := [(1, .int (1 : Int32)), (0, .ref (tx 0))]) hx hb dX4_readSign_14 rfl hl (by decide) rfl (fun ls hl => ?_)
    refine lv_aload_n hx hb dX4_readSign_15 rfl (lv_at hl 1 rfl) ?_
    obtain ⟨r_4, hc_5, hf⟩ := bd_of hf
    refine fn_V (v := some (.int r_4)) (As := []) (rest := []) (st1 := [.int r_4]) (ws' := (wTx X tx rB fB rO fO pl fa)) (nL := 2) ⟨hx, hb, hml, hown, hts⟩ (c_X4_current l X tx rB fB rO fO pl fa r_4 hc_5) (cwV 0 hts gX4_readSign_X4_current rfl rfl rfl (by decide +kernel) ⟨Nat.le_of_ble_eq_true rfl, Nat.le_of_ble_eq_true rfl⟩) 4 rfl rfl rfl rfl hl.1 rfl (Nat.le_of_ble_eq_true rfl) dX4_readSign_16 hK hP (hD0.addr rfl) hS hA [0, 1, 2, 3, 4] rfl rfl rfl rfl ⟨Nat.zero_le _, Nat.zero_le _⟩ (fun H locs hP hD hS => ?_)
    refine lv_bipush (v := 43) hx hb dX4_readSign_19 (by decide) ?_
    refine lv_icmp_eq (tgt := 41) hx hb dX4_readSign_21 (by decide) (fun c_6 => ?_) (fun c_6 => ?_)
    · replace hf := fp_t c_6 hf
      refine lv_aload_n hx hb dX4_readSign_41 rfl (lv_at hl 1 rfl) ?_
      refine lv_dup hx hb dX4_readSign_42 rfl ?_
      refine va_get (D := X.1) (ci := 4) (v := .int pl) (C := RX4) (T := TX4) (N := 4) hx hb hts hiX4 hown hK.1 hP 0 rfl rfl 2 (by decide) k45 (fun _ h9 => h9) rfl dX4_readSign_43 ?_
      refine lv_iconst (v := 1) hx hb dX4_readSign_46 (by decide) ?_
      refine lv_iadd hx hb dX4_readSign_47 ?_
      refine lv_topi (fun v_7 ev_7 => ?_)
      replace hf := nm_of ev_7 hf
      refine va_put (D := X.1) (ci := 4) (v := .int v_7) (ty := .int) (C := RX4) (T := TX4) (N := 4) hx hb hts hiX4 tyX4 tyX4_ok nmX4 hown hK.1 hP (hD0.addr rfl) hS 0 rfl rfl 2 (by decide) k45 (fun _ h9 => h9) rfl (by decide +kernel) rfl rfl (Nat.le_of_ble_eq_true rfl) dX4_readSign_48 (fun H locs hP hD hS => ?_)
      have hP : va_P X.1 vwCl (wTx X tx rB fB rO fO v_7 fa) H := hP
      refine lv_iload_n hx hb dX4_readSign_51 rfl (lv_at hl 0 rfl) ?_
      cases hf
      exact fn_iret hx hb hr hlocks hP hS dX4_readSign_52
    · replace hf := fp_f c_6 hf
      refine lv_aload_n hx hb dX4_readSign_24 rfl (lv_at hl 1 rfl) ?_
      obtain ⟨r_8, hc_9, hf⟩ := bd_of hf
      refine fn_V (v := some (.int r_8)) (As := []) (rest := []) (st1 := [.int r_8]) (ws' := (wTx X tx rB fB rO fO pl fa)) (nL := 2) ⟨hx, hb, hml, hown, hts⟩ (c_X4_current l X tx rB fB rO fO pl fa r_8 hc_9) (cwV 0 hts gX4_readSign_X4_current rfl rfl rfl (by decide +kernel) ⟨Nat.le_of_ble_eq_true rfl, Nat.le_of_ble_eq_true rfl⟩) 4 rfl rfl rfl rfl hl.1 rfl (Nat.le_of_ble_eq_true rfl) dX4_readSign_25 hK hP (hD0.addr rfl) hS hA [0, 1, 2, 3, 4] rfl rfl rfl rfl ⟨Nat.zero_le _, Nat.zero_le _⟩ (fun H locs hP hD hS => ?_)
      refine lv_bipush (v := 45) hx hb dX4_readSign_28 (by decide) ?_
      refine lv_icmp_eq (tgt := 41) hx hb dX4_readSign_30 (by decide) (fun c_10 => ?_) (fun c_10 => ?_)
      · replace hf := fp_t c_10 hf
        refine lv_aload_n hx hb dX4_readSign_41 rfl (lv_at hl 1 rfl) ?_
        refine lv_dup hx hb dX4_readSign_42 rfl ?_
        refine va_get (D := X.1) (ci := 4) (v := .int pl) (C := RX4) (T := TX4) (N := 4) hx hb hts hiX4 hown hK.1 hP 0 rfl rfl 2 (by decide) k45 (fun _ h9 => h9) rfl dX4_readSign_43 ?_
        refine lv_iconst (v := 1) hx hb dX4_readSign_46 (by decide) ?_
        refine lv_iadd hx hb dX4_readSign_47 ?_
        refine lv_topi (fun v_11 ev_11 => ?_)
        replace hf := nm_of ev_11 hf
        refine va_put (D := X.1) (ci := 4) (v := .int v_11) (ty := .int) (C := RX4) (T := TX4) (N := 4) hx hb hts hiX4 tyX4 tyX4_ok nmX4 hown hK.1 hP (hD0.addr rfl) hS 0 rfl rfl 2 (by decide) k45 (fun _ h9 => h9) rfl (by decide +kernel) rfl rfl (Nat.le_of_ble_eq_true rfl) dX4_readSign_48 (fun H locs hP hD hS => ?_)
        have hP : va_P X.1 vwCl (wTx X tx rB fB rO fO v_11 fa) H := hP
        refine lv_iload_n hx hb dX4_readSign_51 rfl (lv_at hl 0 rfl) ?_
        cases hf
        exact fn_iret hx hb hr hlocks hP hS dX4_readSign_52
      · replace hf := fp_f c_10 hf
        refine lv_aload_n hx hb dX4_readSign_33 rfl (lv_at hl 1 rfl) ?_
        refine lv_aload_n hx hb dX4_readSign_34 rfl (lv_at hl 1 rfl) ?_
        refine va_get (D := X.1) (ci := 4) (v := .int pl) (C := RX4) (T := TX4) (N := 4) hx hb hts hiX4 hown hK.1 hP 0 rfl rfl 2 (by decide) k45 (fun _ h9 => h9) rfl dX4_readSign_35 ?_
        obtain ⟨fa_12, hc_13, hf⟩ := bd_of hf
        refine fn_V (v := none) (As := [.int pl]) (rest := []) (st1 := []) (ws' := (wTx X tx rB fB rO fO pl fa_12)) (nL := 2) ⟨hx, hb, hml, hown, hts⟩ (c_X4_fail l X tx rB fB rO fO pl fa pl fa_12 hc_13) (cwV 1 hts gX4_readSign_X4_fail rfl rfl rfl (by decide +kernel) ⟨Nat.le_of_ble_eq_true rfl, Nat.le_of_ble_eq_true rfl⟩) 4 rfl rfl rfl rfl hl.1 rfl (Nat.le_of_ble_eq_true rfl) dX4_readSign_38 hK hP (hD0.addr rfl) hS hA [0, 1, 2, 3, 4] rfl rfl rfl rfl ⟨Nat.zero_le _, Nat.zero_le _⟩ (fun H locs hP hD hS => ?_)
        refine lv_aload_n hx hb dX4_readSign_41 rfl (lv_at hl 1 rfl) ?_
        refine lv_dup hx hb dX4_readSign_42 rfl ?_
        refine va_get (D := X.1) (ci := 4) (v := .int pl) (C := RX4) (T := TX4) (N := 4) hx hb hts hiX4 hown hK.1 hP 0 rfl rfl 2 (by decide) k45 (fun _ h9 => h9) rfl dX4_readSign_43 ?_
        refine lv_iconst (v := 1) hx hb dX4_readSign_46 (by decide) ?_
        refine lv_iadd hx hb dX4_readSign_47 ?_
        refine lv_topi (fun v_14 ev_14 => ?_)
        replace hf := nm_of ev_14 hf
        refine va_put (D := X.1) (ci := 4) (v := .int v_14) (ty := .int) (C := RX4) (T := TX4) (N := 4) hx hb hts hiX4 tyX4 tyX4_ok nmX4 hown hK.1 hP (hD0.addr rfl) hS 0 rfl rfl 2 (by decide) k45 (fun _ h9 => h9) rfl (by decide +kernel) rfl rfl (Nat.le_of_ble_eq_true rfl) dX4_readSign_48 (fun H locs hP hD hS => ?_)
        have hP : va_P X.1 vwCl (wTx X tx rB fB rO fO v_14 fa_12) H := hP
        refine lv_iload_n hx hb dX4_readSign_51 rfl (lv_at hl 0 rfl) ?_
        cases hf
        exact fn_iret hx hb hr hlocks hP hS dX4_readSign_52
  · replace hf := fp_t c_3 hf
    refine lv_iconst (v := -1) hx hb dX4_readSign_9 (by decide) ?_
    refine lv_goto (tgt := 14) hx hb dX4_readSign_10 (by decide) ?_
    refine lv_istore_n (lv' := [(1, .int (-1 : Int32)), (0, .ref (tx 0))]) hx hb dX4_readSign_14 rfl hl (by decide) rfl (fun ls hl => ?_)
    refine lv_aload_n hx hb dX4_readSign_15 rfl (lv_at hl 1 rfl) ?_
    obtain ⟨r_15, hc_16, hf⟩ := bd_of hf
    refine fn_V (v := some (.int r_15)) (As := []) (rest := []) (st1 := [.int r_15]) (ws' := (wTx X tx rB fB rO fO pl fa)) (nL := 2) ⟨hx, hb, hml, hown, hts⟩ (c_X4_current l X tx rB fB rO fO pl fa r_15 hc_16) (cwV 0 hts gX4_readSign_X4_current rfl rfl rfl (by decide +kernel) ⟨Nat.le_of_ble_eq_true rfl, Nat.le_of_ble_eq_true rfl⟩) 4 rfl rfl rfl rfl hl.1 rfl (Nat.le_of_ble_eq_true rfl) dX4_readSign_16 hK hP (hD0.addr rfl) hS hA [0, 1, 2, 3, 4] rfl rfl rfl rfl ⟨Nat.zero_le _, Nat.zero_le _⟩ (fun H locs hP hD hS => ?_)
    refine lv_bipush (v := 43) hx hb dX4_readSign_19 (by decide) ?_
    refine lv_icmp_eq (tgt := 41) hx hb dX4_readSign_21 (by decide) (fun c_17 => ?_) (fun c_17 => ?_)
    · replace hf := fp_t c_17 hf
      refine lv_aload_n hx hb dX4_readSign_41 rfl (lv_at hl 1 rfl) ?_
      refine lv_dup hx hb dX4_readSign_42 rfl ?_
      refine va_get (D := X.1) (ci := 4) (v := .int pl) (C := RX4) (T := TX4) (N := 4) hx hb hts hiX4 hown hK.1 hP 0 rfl rfl 2 (by decide) k45 (fun _ h9 => h9) rfl dX4_readSign_43 ?_
      refine lv_iconst (v := 1) hx hb dX4_readSign_46 (by decide) ?_
      refine lv_iadd hx hb dX4_readSign_47 ?_
      refine lv_topi (fun v_18 ev_18 => ?_)
      replace hf := nm_of ev_18 hf
      refine va_put (D := X.1) (ci := 4) (v := .int v_18) (ty := .int) (C := RX4) (T := TX4) (N := 4) hx hb hts hiX4 tyX4 tyX4_ok nmX4 hown hK.1 hP (hD0.addr rfl) hS 0 rfl rfl 2 (by decide) k45 (fun _ h9 => h9) rfl (by decide +kernel) rfl rfl (Nat.le_of_ble_eq_true rfl) dX4_readSign_48 (fun H locs hP hD hS => ?_)
      have hP : va_P X.1 vwCl (wTx X tx rB fB rO fO v_18 fa) H := hP
      refine lv_iload_n hx hb dX4_readSign_51 rfl (lv_at hl 0 rfl) ?_
      cases hf
      exact fn_iret hx hb hr hlocks hP hS dX4_readSign_52
    · replace hf := fp_f c_17 hf
      refine lv_aload_n hx hb dX4_readSign_24 rfl (lv_at hl 1 rfl) ?_
      obtain ⟨r_19, hc_20, hf⟩ := bd_of hf
      refine fn_V (v := some (.int r_19)) (As := []) (rest := []) (st1 := [.int r_19]) (ws' := (wTx X tx rB fB rO fO pl fa)) (nL := 2) ⟨hx, hb, hml, hown, hts⟩ (c_X4_current l X tx rB fB rO fO pl fa r_19 hc_20) (cwV 0 hts gX4_readSign_X4_current rfl rfl rfl (by decide +kernel) ⟨Nat.le_of_ble_eq_true rfl, Nat.le_of_ble_eq_true rfl⟩) 4 rfl rfl rfl rfl hl.1 rfl (Nat.le_of_ble_eq_true rfl) dX4_readSign_25 hK hP (hD0.addr rfl) hS hA [0, 1, 2, 3, 4] rfl rfl rfl rfl ⟨Nat.zero_le _, Nat.zero_le _⟩ (fun H locs hP hD hS => ?_)
      refine lv_bipush (v := 45) hx hb dX4_readSign_28 (by decide) ?_
      refine lv_icmp_eq (tgt := 41) hx hb dX4_readSign_30 (by decide) (fun c_21 => ?_) (fun c_21 => ?_)
      · replace hf := fp_t c_21 hf
        refine lv_aload_n hx hb dX4_readSign_41 rfl (lv_at hl 1 rfl) ?_
        refine lv_dup hx hb dX4_readSign_42 rfl ?_
        refine va_get (D := X.1) (ci := 4) (v := .int pl) (C := RX4) (T := TX4) (N := 4) hx hb hts hiX4 hown hK.1 hP 0 rfl rfl 2 (by decide) k45 (fun _ h9 => h9) rfl dX4_readSign_43 ?_
        refine lv_iconst (v := 1) hx hb dX4_readSign_46 (by decide) ?_
        refine lv_iadd hx hb dX4_readSign_47 ?_
        refine lv_topi (fun v_22 ev_22 => ?_)
        replace hf := nm_of ev_22 hf
        refine va_put (D := X.1) (ci := 4) (v := .int v_22) (ty := .int) (C := RX4) (T := TX4) (N := 4) hx hb hts hiX4 tyX4 tyX4_ok nmX4 hown hK.1 hP (hD0.addr rfl) hS 0 rfl rfl 2 (by decide) k45 (fun _ h9 => h9) rfl (by decide +kernel) rfl rfl (Nat.le_of_ble_eq_true rfl) dX4_readSign_48 (fun H locs hP hD hS => ?_)
        have hP : va_P X.1 vwCl (wTx X tx rB fB rO fO v_22 fa) H := hP
        refine lv_iload_n hx hb dX4_readSign_51 rfl (lv_at hl 0 rfl) ?_
        cases hf
        exact fn_iret hx hb hr hlocks hP hS dX4_readSign_52
      · replace hf := fp_f c_21 hf
        refine lv_aload_n hx hb dX4_readSign_33 rfl (lv_at hl 1 rfl) ?_
        refine lv_aload_n hx hb dX4_readSign_34 rfl (lv_at hl 1 rfl) ?_
        refine va_get (D := X.1) (ci := 4) (v := .int pl) (C := RX4) (T := TX4) (N := 4) hx hb hts hiX4 hown hK.1 hP 0 rfl rfl 2 (by decide) k45 (fun _ h9 => h9) rfl dX4_readSign_35 ?_
        obtain ⟨fa_23, hc_24, hf⟩ := bd_of hf
        refine fn_V (v := none) (As := [.int pl]) (rest := []) (st1 := []) (ws' := (wTx X tx rB fB rO fO pl fa_23)) (nL := 2) ⟨hx, hb, hml, hown, hts⟩ (c_X4_fail l X tx rB fB rO fO pl fa pl fa_23 hc_24) (cwV 1 hts gX4_readSign_X4_fail rfl rfl rfl (by decide +kernel) ⟨Nat.le_of_ble_eq_true rfl, Nat.le_of_ble_eq_true rfl⟩) 4 rfl rfl rfl rfl hl.1 rfl (Nat.le_of_ble_eq_true rfl) dX4_readSign_38 hK hP (hD0.addr rfl) hS hA [0, 1, 2, 3, 4] rfl rfl rfl rfl ⟨Nat.zero_le _, Nat.zero_le _⟩ (fun H locs hP hD hS => ?_)
        refine lv_aload_n hx hb dX4_readSign_41 rfl (lv_at hl 1 rfl) ?_
        refine lv_dup hx hb dX4_readSign_42 rfl ?_
        refine va_get (D := X.1) (ci := 4) (v := .int pl) (C := RX4) (T := TX4) (N := 4) hx hb hts hiX4 hown hK.1 hP 0 rfl rfl 2 (by decide) k45 (fun _ h9 => h9) rfl dX4_readSign_43 ?_
        refine lv_iconst (v := 1) hx hb dX4_readSign_46 (by decide) ?_
        refine lv_iadd hx hb dX4_readSign_47 ?_
        refine lv_topi (fun v_25 ev_25 => ?_)
        replace hf := nm_of ev_25 hf
        refine va_put (D := X.1) (ci := 4) (v := .int v_25) (ty := .int) (C := RX4) (T := TX4) (N := 4) hx hb hts hiX4 tyX4 tyX4_ok nmX4 hown hK.1 hP (hD0.addr rfl) hS 0 rfl rfl 2 (by decide) k45 (fun _ h9 => h9) rfl (by decide +kernel) rfl rfl (Nat.le_of_ble_eq_true rfl) dX4_readSign_48 (fun H locs hP hD hS => ?_)
        have hP : va_P X.1 vwCl (wTx X tx rB fB rO fO v_25 fa_23) H := hP
        refine lv_iload_n hx hb dX4_readSign_51 rfl (lv_at hl 0 rfl) ?_
        cases hf
        exact fn_iret hx hb hr hlocks hP hS dX4_readSign_52

def f_X4_readDigit (x1 : Int32) (x2 : Int32) (rB : Int32) (fB : (Nat → Int32)) (pl : Int32) (fa : Int32) : Option (Int32 × Int32 × Int32) :=
  bd (f_X4_current rB fB pl) (fun r_1 =>
  nm (r_1 - (48 : Int32)) (fun v_3 =>
  bd (f_X5_isBetween v_3 x1 x2) (fun r_4 =>
  if r_4 = (0 : Int32) then
  (bd (f_X4_fail pl fa) (fun fa_8 =>
  nm (pl + (1 : Int32)) (fun v_10 =>
  some (v_3, v_10, fa_8))))
  else
  (nm (pl + (1 : Int32)) (fun v_7 =>
  some (v_3, v_7, fa))))))
set_option maxHeartbeats 4000000 in
set_option maxRecDepth 100000 in
theorem c_X4_readDigit (l : Launch) (X : cx_G) (tx : (Nat → Nat)) (rB : Int32) (fB : (Nat → Int32)) (rO : Int32) (fO : (Nat → Int32)) (pl : Int32) (fa : Int32) (x1 : Int32) (x2 : Int32) (r : Int32) (pl' : Int32) (fa' : Int32) (hf : f_X4_readDigit x1 x2 rB fB pl fa = some (r, pl', fa')) : Fn l yX4_readDigit wsX4_readDigit ({ frames := 2, cells := 0, slots := 0, locals := 44 } : Room) X [.ref (tx 0), .int x1, .int x2] (wTx X tx rB fB rO fO pl fa) (some (.int r)) (wTx X tx rB fB rO fO pl' fa') := by
  refine fn_intro (cc := cX4_readDigit) (maxL := 4) (ret := (some .int)) (by decide) rfl rfl (Nat.le_of_ble_eq_true rfl) ?_
  intro p e s m args below meth c A ls hx hb hml hr hts hown hlocks hK hP hD0 hS hA hl
  have hown : s.vm.findClass RX4 = some m.cls := hown
  have hl : lv_has ls 4 [(0, .ref (tx 0)), (1, .int x1), (2, .int x2)] := hl
  have hiX4 : ∀ w ∈ u_ws RX4 TX4 4, w ∈ wsX4_readDigit := by decide +kernel
  have k45 := hts (.fieldLink RX4 45 "LentRights$Text" "place" "I") (by decide +kernel)
  unfold f_X4_readDigit at hf
  refine lv_aload_n hx hb dX4_readDigit_0 rfl (lv_at hl 0 rfl) ?_
  obtain ⟨r_1, hc_2, hf⟩ := bd_of hf
  refine fn_V (v := some (.int r_1)) (As := []) (rest := []) (st1 := [.int r_1]) (ws' := (wTx X tx rB fB rO fO pl fa)) (nL := 4) ⟨hx, hb, hml, hown, hts⟩ (c_X4_current l X tx rB fB rO fO pl fa r_1 hc_2) (cwV 0 hts gX4_readDigit_X4_current rfl rfl rfl (by decide +kernel) ⟨Nat.le_of_ble_eq_true rfl, Nat.le_of_ble_eq_true rfl⟩) 4 rfl rfl rfl rfl hl.1 rfl (Nat.le_of_ble_eq_true rfl) dX4_readDigit_1 hK hP (hD0.addr rfl) hS hA [0, 1, 2, 3, 4] rfl rfl rfl rfl ⟨Nat.zero_le _, Nat.zero_le _⟩ (fun H locs hP hD hS => ?_)
  refine lv_bipush (v := 48) hx hb dX4_readDigit_4 (by decide) ?_
  refine lv_isub hx hb dX4_readDigit_6 ?_
  refine lv_topi (fun v_3 ev_3 => ?_)
  replace hf := nm_of ev_3 hf
  refine lv_istore_n (lv' := [(3, .int v_3), (0, .ref (tx 0)), (1, .int x1), (2, .int x2)]) hx hb dX4_readDigit_7 rfl hl (by decide) rfl (fun ls hl => ?_)
  refine lv_iload_n hx hb dX4_readDigit_8 rfl (lv_at hl 0 rfl) ?_
  refine lv_iload_n hx hb dX4_readDigit_9 rfl (lv_at hl 2 rfl) ?_
  refine lv_iload_n hx hb dX4_readDigit_10 rfl (lv_at hl 3 rfl) ?_
  obtain ⟨r_4, hc_5, hf⟩ := bd_of hf
  refine fn_SN (v := some (.int r_4)) (As := [.int v_3, .int x1, .int x2]) (rest := []) (st1 := [.int r_4]) (ws' := (wTx X tx rB fB rO fO pl fa)) (nL := 4) ⟨hx, hb, hml, hown, hts⟩ (c_X5_isBetween l X v_3 x1 x2 r_4 hc_5) ⟨va_cnB (host := "LentRights") 3 hts gX4_readDigit_X5_isBetween_n78 rfl rfl rfl hK.2.2.2 (hts (.initialized RX5) (by decide +kernel)) (by decide +kernel) ⟨Nat.le_of_ble_eq_true rfl, Nat.le_of_ble_eq_true rfl⟩, hts (.static yX5_isBetween) (by decide +kernel), trivial⟩ rfl hl.1 rfl (Nat.le_of_ble_eq_true rfl) dX4_readDigit_11 hK hP (hD0.addr rfl) hS hA [] rfl rfl rfl rfl ⟨Nat.zero_le _, Nat.zero_le _⟩ (fun H locs hP hD hS => ?_)
  refine lv_if_ne (tgt := 25) hx hb dX4_readDigit_14 (by decide) (fun c_6 => ?_) (fun c_6 => ?_)
  · replace hf := fp_f c_6 hf
    refine lv_aload_n hx hb dX4_readDigit_25 rfl (lv_at hl 1 rfl) ?_
    refine lv_dup hx hb dX4_readDigit_26 rfl ?_
    refine va_get (D := X.1) (ci := 4) (v := .int pl) (C := RX4) (T := TX4) (N := 4) hx hb hts hiX4 hown hK.1 hP 0 rfl rfl 2 (by decide) k45 (fun _ h9 => h9) rfl dX4_readDigit_27 ?_
    refine lv_iconst (v := 1) hx hb dX4_readDigit_30 (by decide) ?_
    refine lv_iadd hx hb dX4_readDigit_31 ?_
    refine lv_topi (fun v_7 ev_7 => ?_)
    replace hf := nm_of ev_7 hf
    refine va_put (D := X.1) (ci := 4) (v := .int v_7) (ty := .int) (C := RX4) (T := TX4) (N := 4) hx hb hts hiX4 tyX4 tyX4_ok nmX4 hown hK.1 hP (hD0.addr rfl) hS 0 rfl rfl 2 (by decide) k45 (fun _ h9 => h9) rfl (by decide +kernel) rfl rfl (Nat.le_of_ble_eq_true rfl) dX4_readDigit_32 (fun H locs hP hD hS => ?_)
    have hP : va_P X.1 vwCl (wTx X tx rB fB rO fO v_7 fa) H := hP
    refine lv_iload_n hx hb dX4_readDigit_35 rfl (lv_at hl 0 rfl) ?_
    cases hf
    exact fn_iret hx hb hr hlocks hP hS dX4_readDigit_36
  · replace hf := fp_t c_6 hf
    refine lv_aload_n hx hb dX4_readDigit_17 rfl (lv_at hl 1 rfl) ?_
    refine lv_aload_n hx hb dX4_readDigit_18 rfl (lv_at hl 1 rfl) ?_
    refine va_get (D := X.1) (ci := 4) (v := .int pl) (C := RX4) (T := TX4) (N := 4) hx hb hts hiX4 hown hK.1 hP 0 rfl rfl 2 (by decide) k45 (fun _ h9 => h9) rfl dX4_readDigit_19 ?_
    obtain ⟨fa_8, hc_9, hf⟩ := bd_of hf
    refine fn_V (v := none) (As := [.int pl]) (rest := []) (st1 := []) (ws' := (wTx X tx rB fB rO fO pl fa_8)) (nL := 4) ⟨hx, hb, hml, hown, hts⟩ (c_X4_fail l X tx rB fB rO fO pl fa pl fa_8 hc_9) (cwV 1 hts gX4_readDigit_X4_fail rfl rfl rfl (by decide +kernel) ⟨Nat.le_of_ble_eq_true rfl, Nat.le_of_ble_eq_true rfl⟩) 4 rfl rfl rfl rfl hl.1 rfl (Nat.le_of_ble_eq_true rfl) dX4_readDigit_22 hK hP (hD0.addr rfl) hS hA [0, 1, 2, 3, 4] rfl rfl rfl rfl ⟨Nat.zero_le _, Nat.zero_le _⟩ (fun H locs hP hD hS => ?_)
    refine lv_aload_n hx hb dX4_readDigit_25 rfl (lv_at hl 1 rfl) ?_
    refine lv_dup hx hb dX4_readDigit_26 rfl ?_
    refine va_get (D := X.1) (ci := 4) (v := .int pl) (C := RX4) (T := TX4) (N := 4) hx hb hts hiX4 hown hK.1 hP 0 rfl rfl 2 (by decide) k45 (fun _ h9 => h9) rfl dX4_readDigit_27 ?_
    refine lv_iconst (v := 1) hx hb dX4_readDigit_30 (by decide) ?_
    refine lv_iadd hx hb dX4_readDigit_31 ?_
    refine lv_topi (fun v_10 ev_10 => ?_)
    replace hf := nm_of ev_10 hf
    refine va_put (D := X.1) (ci := 4) (v := .int v_10) (ty := .int) (C := RX4) (T := TX4) (N := 4) hx hb hts hiX4 tyX4 tyX4_ok nmX4 hown hK.1 hP (hD0.addr rfl) hS 0 rfl rfl 2 (by decide) k45 (fun _ h9 => h9) rfl (by decide +kernel) rfl rfl (Nat.le_of_ble_eq_true rfl) dX4_readDigit_32 (fun H locs hP hD hS => ?_)
    have hP : va_P X.1 vwCl (wTx X tx rB fB rO fO v_10 fa_8) H := hP
    refine lv_iload_n hx hb dX4_readDigit_35 rfl (lv_at hl 0 rfl) ?_
    cases hf
    exact fn_iret hx hb hr hlocks hP hS dX4_readDigit_36

def f_X4_readNumber_L12 (x1 : Int32) (rB : Int32) (fB : (Nat → Int32)) : Nat → Int32 → Int32 → Int32 →  Option (Int32 × Int32)
  | 0, _, _, _ => none
  | k_ + 1, x5, x6, pl =>
    if x1 ≤ x6 then
    (some (x5, pl))
    else
    (bd (f_X4_current rB fB pl) (fun r_2 =>
    bd (f_X4_isDigit r_2) (fun r_4 =>
    if r_4 = (0 : Int32) then
    (some (x5, pl))
    else
    (bd (f_X4_current rB fB pl) (fun r_7 =>
    nm ((((10 : Int32) * x5) + r_7) - (48 : Int32)) (fun v_9 =>
    nm (pl + (1 : Int32)) (fun v_10 =>
    nm (x6 + (1 : Int32)) (fun v_11 =>
    f_X4_readNumber_L12 x1 rB fB k_ v_9 v_11 v_10))))))))
def f_X4_readNumber (x1 : Int32) (x2 : Int32) (x3 : Int32) (rB : Int32) (fB : (Nat → Int32)) (pl : Int32) (fa : Int32) : Option (Int32 × Int32 × Int32) :=
  bd2 (f_X4_readNumber_L12 x1 rB fB FU (0 : Int32) (0 : Int32) pl) (fun y5_12 pl_13 =>
  if pl_13 = pl then
  (bd (f_X4_fail pl_13 fa) (fun fa_16 =>
  some (y5_12, pl_13, fa_16)))
  else
  (bd (f_X4_current rB fB pl_13) (fun r_18 =>
  bd (f_X4_isDigit r_18) (fun r_20 =>
  if r_20 = (0 : Int32) then
  (bd (f_X5_isBetween y5_12 x2 x3) (fun r_23 =>
  if r_23 = (0 : Int32) then
  (bd (f_X4_fail pl fa) (fun fa_26 =>
  some (y5_12, pl_13, fa_26)))
  else
  (some (y5_12, pl_13, fa))))
  else
  (bd (f_X4_fail pl_13 fa) (fun fa_28 =>
  some (y5_12, pl_13, fa_28)))))))
set_option maxHeartbeats 4000000 in
set_option maxRecDepth 100000 in
theorem c_X4_readNumber (l : Launch) (X : cx_G) (tx : (Nat → Nat)) (rB : Int32) (fB : (Nat → Int32)) (rO : Int32) (fO : (Nat → Int32)) (pl : Int32) (fa : Int32) (x1 : Int32) (x2 : Int32) (x3 : Int32) (r : Int32) (pl' : Int32) (fa' : Int32) (hf : f_X4_readNumber x1 x2 x3 rB fB pl fa = some (r, pl', fa')) : Fn l yX4_readNumber wsX4_readNumber ({ frames := 2, cells := 0, slots := 0, locals := 44 } : Room) X [.ref (tx 0), .int x1, .int x2, .int x3] (wTx X tx rB fB rO fO pl fa) (some (.int r)) (wTx X tx rB fB rO fO pl' fa') := by
  refine fn_intro (cc := cX4_readNumber) (maxL := 7) (ret := (some .int)) (by decide) rfl rfl (Nat.le_of_ble_eq_true rfl) ?_
  intro p e s m args below meth c A ls hx hb hml hr hts hown hlocks hK hP hD0 hS hA hl
  have hown : s.vm.findClass RX4 = some m.cls := hown
  have hl : lv_has ls 7 [(0, .ref (tx 0)), (1, .int x1), (2, .int x2), (3, .int x3)] := hl
  have hiX4 : ∀ w ∈ u_ws RX4 TX4 4, w ∈ wsX4_readNumber := by decide +kernel
  have k45 := hts (.fieldLink RX4 45 "LentRights$Text" "place" "I") (by decide +kernel)
  have loop_12 : ∀ (Q : State → Prop) (x4 : Int32) (fa : Int32) (y5 : Int32) (plo : Int32), (∀ (H : Heap) (locs : List Loc) (ls : Array Slot), va_P X.1 vwCl (wTx X tx rB fB rO fO plo fa) H → va_S A s.heap H locs → lv_has ls 7 [(0, .ref (tx 0)), (2, .int x2), (3, .int x3), (4, .int x4), (5, .int y5)] → W p l e ({ frames := 2, cells := 0, slots := 0, locals := 44 } : Room) s m args below meth c H locs 0 0 Q (F0 m 59 ls [])) → ∀ (k_ : Nat) (x5 : Int32) (x6 : Int32) (pl : Int32) (H : Heap) (locs : List Loc) (ls : Array Slot), f_X4_readNumber_L12 x1 rB fB k_ x5 x6 pl = some (y5, plo) → va_P X.1 vwCl (wTx X tx rB fB rO fO pl fa) H → va_S A s.heap H locs → lv_has ls 7 [(0, .ref (tx 0)), (1, .int x1), (2, .int x2), (3, .int x3), (4, .int x4), (5, .int x5), (6, .int x6)] → W p l e ({ frames := 2, cells := 0, slots := 0, locals := 44 } : Room) s m args below meth c H locs 0 0 Q (F0 m 12 ls []) := by
    intro Q x4 fa y5 plo kx k_
    induction k_ with
    | zero => intro x5 x6 pl H locs ls hf; exact nomatch (show (none : Option (Int32 × Int32)) = some _ from hf)
    | succ k_ ih =>
      intro x5 x6 pl H locs ls hf hP hS hl
      unfold f_X4_readNumber_L12 at hf
      refine lv_iload hx hb dX4_readNumber_12 (lv_at hl 6 rfl) ?_
      refine lv_iload_n hx hb dX4_readNumber_14 rfl (lv_at hl 1 rfl) ?_
      refine lv_icmp_ge (tgt := 59) hx hb dX4_readNumber_15 (by decide) (fun c_1 => ?_) (fun c_1 => ?_)
      · replace hf := fp_t c_1 hf
        cases hf
        exact kx _ _ _ hP hS (lv_sub hl [0, 2, 3, 4, 5] rfl)
      · replace hf := fp_f c_1 hf
        refine lv_aload_n hx hb dX4_readNumber_18 rfl (lv_at hl 0 rfl) ?_
        obtain ⟨r_2, hc_3, hf⟩ := bd_of hf
        refine fn_V (v := some (.int r_2)) (As := []) (rest := []) (st1 := [.int r_2]) (ws' := (wTx X tx rB fB rO fO pl fa)) (nL := 7) ⟨hx, hb, hml, hown, hts⟩ (c_X4_current l X tx rB fB rO fO pl fa r_2 hc_3) (cwV 0 hts gX4_readNumber_X4_current rfl rfl rfl (by decide +kernel) ⟨Nat.le_of_ble_eq_true rfl, Nat.le_of_ble_eq_true rfl⟩) 4 rfl rfl rfl rfl hl.1 rfl (Nat.le_of_ble_eq_true rfl) dX4_readNumber_19 hK hP (hD0.addr rfl) hS hA [0, 1, 2, 3, 4] rfl rfl rfl rfl ⟨Nat.zero_le _, Nat.zero_le _⟩ (fun H locs hP hD hS => ?_)
        obtain ⟨r_4, hc_5, hf⟩ := bd_of hf
        refine fn_Sx (v := some (.int r_4)) (As := [.int r_2]) (rest := []) (st1 := [.int r_4]) (ws' := (wTx X tx rB fB rO fO pl fa)) (nL := 7) ⟨hx, hb, hml, hown, hts⟩ (c_X4_isDigit l X r_2 r_4 hc_5) (va_cwS 1 hts gX4_readNumber_X4_isDigit rfl rfl rfl (by decide +kernel) ⟨Nat.le_of_ble_eq_true rfl, Nat.le_of_ble_eq_true rfl⟩) rfl hl.1 rfl (Nat.le_of_ble_eq_true rfl) dX4_readNumber_22 hK hP (hD0.addr rfl) hS hA [] rfl rfl rfl rfl ⟨Nat.zero_le _, Nat.zero_le _⟩ (fun H locs hP hD hS => ?_)
        refine lv_if_eq (tgt := 59) hx hb dX4_readNumber_25 (by decide) (fun c_6 => ?_) (fun c_6 => ?_)
        · replace hf := fp_t c_6 hf
          cases hf
          exact kx _ _ _ hP hS (lv_sub hl [0, 2, 3, 4, 5] rfl)
        · replace hf := fp_f c_6 hf
          refine lv_bipush (v := 10) hx hb dX4_readNumber_28 (by decide) ?_
          refine lv_iload hx hb dX4_readNumber_30 (lv_at hl 5 rfl) ?_
          refine lv_imul hx hb dX4_readNumber_32 ?_
          refine lv_aload_n hx hb dX4_readNumber_33 rfl (lv_at hl 0 rfl) ?_
          obtain ⟨r_7, hc_8, hf⟩ := bd_of hf
          refine fn_V (v := some (.int r_7)) (As := []) (rest := [.int ((10 : Int32) * x5)]) (st1 := [.int r_7, .int ((10 : Int32) * x5)]) (ws' := (wTx X tx rB fB rO fO pl fa)) (nL := 7) ⟨hx, hb, hml, hown, hts⟩ (c_X4_current l X tx rB fB rO fO pl fa r_7 hc_8) (cwV 0 hts gX4_readNumber_X4_current rfl rfl rfl (by decide +kernel) ⟨Nat.le_of_ble_eq_true rfl, Nat.le_of_ble_eq_true rfl⟩) 4 rfl rfl rfl rfl hl.1 rfl (Nat.le_of_ble_eq_true rfl) dX4_readNumber_34 hK hP (hD0.addr rfl) hS hA [0, 1, 2, 3, 4] rfl rfl rfl rfl ⟨Nat.zero_le _, Nat.zero_le _⟩ (fun H locs hP hD hS => ?_)
          refine lv_iadd hx hb dX4_readNumber_37 ?_
          refine lv_bipush (v := 48) hx hb dX4_readNumber_38 (by decide) ?_
          refine lv_isub hx hb dX4_readNumber_40 ?_
          refine lv_topi (fun v_9 ev_9 => ?_)
          replace hf := nm_of ev_9 hf
          refine lv_istore (lv' := [(5, .int v_9), (0, .ref (tx 0)), (1, .int x1), (2, .int x2), (3, .int x3), (4, .int x4), (6, .int x6)]) hx hb dX4_readNumber_41 hl (by decide) rfl (fun ls hl => ?_)
          refine lv_aload_n hx hb dX4_readNumber_43 rfl (lv_at hl 1 rfl) ?_
          refine lv_dup hx hb dX4_readNumber_44 rfl ?_
          refine va_get (D := X.1) (ci := 4) (v := .int pl) (C := RX4) (T := TX4) (N := 4) hx hb hts hiX4 hown hK.1 hP 0 rfl rfl 2 (by decide) k45 (fun _ h9 => h9) rfl dX4_readNumber_45 ?_
          refine lv_iconst (v := 1) hx hb dX4_readNumber_48 (by decide) ?_
          refine lv_iadd hx hb dX4_readNumber_49 ?_
          refine lv_topi (fun v_10 ev_10 => ?_)
          replace hf := nm_of ev_10 hf
          refine va_put (D := X.1) (ci := 4) (v := .int v_10) (ty := .int) (C := RX4) (T := TX4) (N := 4) hx hb hts hiX4 tyX4 tyX4_ok nmX4 hown hK.1 hP (hD0.addr rfl) hS 0 rfl rfl 2 (by decide) k45 (fun _ h9 => h9) rfl (by decide +kernel) rfl rfl (Nat.le_of_ble_eq_true rfl) dX4_readNumber_50 (fun H locs hP hD hS => ?_)
          have hP : va_P X.1 vwCl (wTx X tx rB fB rO fO v_10 fa) H := hP
          obtain ⟨v_11, ev_11⟩ : ∃ y : Int32, y = x6 + (1 : Int32) := ⟨_, rfl⟩
          replace hf := nm_of ev_11 hf
          refine lv_iinc (v := v_11) (lv' := [(6, .int v_11), (5, .int v_9), (0, .ref (tx 0)), (1, .int x1), (2, .int x2), (3, .int x3), (4, .int x4)]) hx hb dX4_readNumber_53 hl (k := 6) rfl (by rw [ev_11]; rfl) (by decide) rfl (fun ls hl => ?_)
          refine lv_goto (tgt := 12) hx hb dX4_readNumber_56 (by decide) ?_
          exact ih v_9 v_11 v_10 _ _ _ hf hP hS (lv_sub hl [2, 3, 4, 5, 6, 1, 0] rfl)
  unfold f_X4_readNumber at hf
  refine lv_aload_n hx hb dX4_readNumber_0 rfl (lv_at hl 0 rfl) ?_
  refine va_get (D := X.1) (ci := 4) (v := .int pl) (C := RX4) (T := TX4) (N := 4) hx hb hts hiX4 hown hK.1 hP 0 rfl rfl 2 (by decide) k45 (fun _ h9 => h9) rfl dX4_readNumber_1 ?_
  refine lv_istore (lv' := [(4, .int pl), (0, .ref (tx 0)), (1, .int x1), (2, .int x2), (3, .int x3)]) hx hb dX4_readNumber_4 hl (by decide) rfl (fun ls hl => ?_)
  refine lv_iconst (v := 0) hx hb dX4_readNumber_6 (by decide) ?_
  refine lv_istore (lv' := [(5, .int (0 : Int32)), (4, .int pl), (0, .ref (tx 0)), (1, .int x1), (2, .int x2), (3, .int x3)]) hx hb dX4_readNumber_7 hl (by decide) rfl (fun ls hl => ?_)
  refine lv_iconst (v := 0) hx hb dX4_readNumber_9 (by decide) ?_
  refine lv_istore (lv' := [(6, .int (0 : Int32)), (5, .int (0 : Int32)), (4, .int pl), (0, .ref (tx 0)), (1, .int x1), (2, .int x2), (3, .int x3)]) hx hb dX4_readNumber_10 hl (by decide) rfl (fun ls hl => ?_)
  obtain ⟨y5_12, pl_13, hL_14, hf⟩ := bd2_of hf
  refine loop_12 _ pl fa y5_12 pl_13 (fun H locs ls hP hS hl => ?_) FU (0 : Int32) (0 : Int32) pl _ _ _ hL_14 hP hS (lv_sub hl [3, 4, 5, 6, 2, 1, 0] rfl)
  refine lv_aload_n hx hb dX4_readNumber_59 rfl (lv_at hl 0 rfl) ?_
  refine va_get (D := X.1) (ci := 4) (v := .int pl_13) (C := RX4) (T := TX4) (N := 4) hx hb hts hiX4 hown hK.1 hP 0 rfl rfl 2 (by decide) k45 (fun _ h9 => h9) rfl dX4_readNumber_60 ?_
  refine lv_iload hx hb dX4_readNumber_63 (lv_at hl 3 rfl) ?_
  refine lv_icmp_eq (tgt := 78) hx hb dX4_readNumber_65 (by decide) (fun c_15 => ?_) (fun c_15 => ?_)
  · replace hf := fp_t c_15 hf
    refine lv_aload_n hx hb dX4_readNumber_78 rfl (lv_at hl 0 rfl) ?_
    refine lv_aload_n hx hb dX4_readNumber_79 rfl (lv_at hl 0 rfl) ?_
    refine va_get (D := X.1) (ci := 4) (v := .int pl_13) (C := RX4) (T := TX4) (N := 4) hx hb hts hiX4 hown hK.1 hP 0 rfl rfl 2 (by decide) k45 (fun _ h9 => h9) rfl dX4_readNumber_80 ?_
    obtain ⟨fa_16, hc_17, hf⟩ := bd_of hf
    refine fn_V (v := none) (As := [.int pl_13]) (rest := []) (st1 := []) (ws' := (wTx X tx rB fB rO fO pl_13 fa_16)) (nL := 7) ⟨hx, hb, hml, hown, hts⟩ (c_X4_fail l X tx rB fB rO fO pl_13 fa pl_13 fa_16 hc_17) (cwV 1 hts gX4_readNumber_X4_fail rfl rfl rfl (by decide +kernel) ⟨Nat.le_of_ble_eq_true rfl, Nat.le_of_ble_eq_true rfl⟩) 4 rfl rfl rfl rfl hl.1 rfl (Nat.le_of_ble_eq_true rfl) dX4_readNumber_83 hK hP (hD0.addr rfl) hS hA [0, 1, 2, 3, 4] rfl rfl rfl rfl ⟨Nat.zero_le _, Nat.zero_le _⟩ (fun H locs hP hD hS => ?_)
    refine lv_goto (tgt := 105) hx hb dX4_readNumber_86 (by decide) ?_
    refine lv_iload hx hb dX4_readNumber_105 (lv_at hl 4 rfl) ?_
    cases hf
    exact fn_iret hx hb hr hlocks hP hS dX4_readNumber_107
  · replace hf := fp_f c_15 hf
    refine lv_aload_n hx hb dX4_readNumber_68 rfl (lv_at hl 0 rfl) ?_
    obtain ⟨r_18, hc_19, hf⟩ := bd_of hf
    refine fn_V (v := some (.int r_18)) (As := []) (rest := []) (st1 := [.int r_18]) (ws' := (wTx X tx rB fB rO fO pl_13 fa)) (nL := 7) ⟨hx, hb, hml, hown, hts⟩ (c_X4_current l X tx rB fB rO fO pl_13 fa r_18 hc_19) (cwV 0 hts gX4_readNumber_X4_current rfl rfl rfl (by decide +kernel) ⟨Nat.le_of_ble_eq_true rfl, Nat.le_of_ble_eq_true rfl⟩) 4 rfl rfl rfl rfl hl.1 rfl (Nat.le_of_ble_eq_true rfl) dX4_readNumber_69 hK hP (hD0.addr rfl) hS hA [0, 1, 2, 3, 4] rfl rfl rfl rfl ⟨Nat.zero_le _, Nat.zero_le _⟩ (fun H locs hP hD hS => ?_)
    obtain ⟨r_20, hc_21, hf⟩ := bd_of hf
    refine fn_Sx (v := some (.int r_20)) (As := [.int r_18]) (rest := []) (st1 := [.int r_20]) (ws' := (wTx X tx rB fB rO fO pl_13 fa)) (nL := 7) ⟨hx, hb, hml, hown, hts⟩ (c_X4_isDigit l X r_18 r_20 hc_21) (va_cwS 1 hts gX4_readNumber_X4_isDigit rfl rfl rfl (by decide +kernel) ⟨Nat.le_of_ble_eq_true rfl, Nat.le_of_ble_eq_true rfl⟩) rfl hl.1 rfl (Nat.le_of_ble_eq_true rfl) dX4_readNumber_72 hK hP (hD0.addr rfl) hS hA [] rfl rfl rfl rfl ⟨Nat.zero_le _, Nat.zero_le _⟩ (fun H locs hP hD hS => ?_)
    refine lv_if_eq (tgt := 89) hx hb dX4_readNumber_75 (by decide) (fun c_22 => ?_) (fun c_22 => ?_)
    · replace hf := fp_t c_22 hf
      refine lv_iload hx hb dX4_readNumber_89 (lv_at hl 4 rfl) ?_
      refine lv_iload_n hx hb dX4_readNumber_91 rfl (lv_at hl 1 rfl) ?_
      refine lv_iload_n hx hb dX4_readNumber_92 rfl (lv_at hl 2 rfl) ?_
      obtain ⟨r_23, hc_24, hf⟩ := bd_of hf
      refine fn_SN (v := some (.int r_23)) (As := [.int y5_12, .int x2, .int x3]) (rest := []) (st1 := [.int r_23]) (ws' := (wTx X tx rB fB rO fO pl_13 fa)) (nL := 7) ⟨hx, hb, hml, hown, hts⟩ (c_X5_isBetween l X y5_12 x2 x3 r_23 hc_24) ⟨va_cnB (host := "LentRights") 3 hts gX4_readNumber_X5_isBetween_n78 rfl rfl rfl hK.2.2.2 (hts (.initialized RX5) (by decide +kernel)) (by decide +kernel) ⟨Nat.le_of_ble_eq_true rfl, Nat.le_of_ble_eq_true rfl⟩, hts (.static yX5_isBetween) (by decide +kernel), trivial⟩ rfl hl.1 rfl (Nat.le_of_ble_eq_true rfl) dX4_readNumber_93 hK hP (hD0.addr rfl) hS hA [] rfl rfl rfl rfl ⟨Nat.zero_le _, Nat.zero_le _⟩ (fun H locs hP hD hS => ?_)
      refine lv_if_ne (tgt := 105) hx hb dX4_readNumber_96 (by decide) (fun c_25 => ?_) (fun c_25 => ?_)
      · replace hf := fp_f c_25 hf
        refine lv_iload hx hb dX4_readNumber_105 (lv_at hl 4 rfl) ?_
        cases hf
        exact fn_iret hx hb hr hlocks hP hS dX4_readNumber_107
      · replace hf := fp_t c_25 hf
        refine lv_aload_n hx hb dX4_readNumber_99 rfl (lv_at hl 0 rfl) ?_
        refine lv_iload hx hb dX4_readNumber_100 (lv_at hl 3 rfl) ?_
        obtain ⟨fa_26, hc_27, hf⟩ := bd_of hf
        refine fn_V (v := none) (As := [.int pl]) (rest := []) (st1 := []) (ws' := (wTx X tx rB fB rO fO pl_13 fa_26)) (nL := 7) ⟨hx, hb, hml, hown, hts⟩ (c_X4_fail l X tx rB fB rO fO pl_13 fa pl fa_26 hc_27) (cwV 1 hts gX4_readNumber_X4_fail rfl rfl rfl (by decide +kernel) ⟨Nat.le_of_ble_eq_true rfl, Nat.le_of_ble_eq_true rfl⟩) 4 rfl rfl rfl rfl hl.1 rfl (Nat.le_of_ble_eq_true rfl) dX4_readNumber_102 hK hP (hD0.addr rfl) hS hA [0, 1, 2, 3, 4] rfl rfl rfl rfl ⟨Nat.zero_le _, Nat.zero_le _⟩ (fun H locs hP hD hS => ?_)
        refine lv_iload hx hb dX4_readNumber_105 (lv_at hl 4 rfl) ?_
        cases hf
        exact fn_iret hx hb hr hlocks hP hS dX4_readNumber_107
    · replace hf := fp_f c_22 hf
      refine lv_aload_n hx hb dX4_readNumber_78 rfl (lv_at hl 0 rfl) ?_
      refine lv_aload_n hx hb dX4_readNumber_79 rfl (lv_at hl 0 rfl) ?_
      refine va_get (D := X.1) (ci := 4) (v := .int pl_13) (C := RX4) (T := TX4) (N := 4) hx hb hts hiX4 hown hK.1 hP 0 rfl rfl 2 (by decide) k45 (fun _ h9 => h9) rfl dX4_readNumber_80 ?_
      obtain ⟨fa_28, hc_29, hf⟩ := bd_of hf
      refine fn_V (v := none) (As := [.int pl_13]) (rest := []) (st1 := []) (ws' := (wTx X tx rB fB rO fO pl_13 fa_28)) (nL := 7) ⟨hx, hb, hml, hown, hts⟩ (c_X4_fail l X tx rB fB rO fO pl_13 fa pl_13 fa_28 hc_29) (cwV 1 hts gX4_readNumber_X4_fail rfl rfl rfl (by decide +kernel) ⟨Nat.le_of_ble_eq_true rfl, Nat.le_of_ble_eq_true rfl⟩) 4 rfl rfl rfl rfl hl.1 rfl (Nat.le_of_ble_eq_true rfl) dX4_readNumber_83 hK hP (hD0.addr rfl) hS hA [0, 1, 2, 3, 4] rfl rfl rfl rfl ⟨Nat.zero_le _, Nat.zero_le _⟩ (fun H locs hP hD hS => ?_)
      refine lv_goto (tgt := 105) hx hb dX4_readNumber_86 (by decide) ?_
      refine lv_iload hx hb dX4_readNumber_105 (lv_at hl 4 rfl) ?_
      cases hf
      exact fn_iret hx hb hr hlocks hP hS dX4_readNumber_107

def f_X4_readGrant (x1 : Int32) (rB : Int32) (fB : (Nat → Int32)) (rO : Int32) (fO : (Nat → Int32)) (pl : Int32) (fa : Int32) : Option ((Nat → Int32) × Int32 × Int32) :=
  bd3 (f_X4_readDigit (0 : Int32) (9 : Int32) rB fB pl fa) (fun r_1 pl_2 fa_3 =>
  bd (f_X3_put (6 : Int32) 600 x1 (1 : Int32) r_1 rO fO) (fun fO_5 =>
  bd3 (f_X4_readDigit (0 : Int32) (9 : Int32) rB fB pl_2 fa_3) (fun r_7 pl_8 fa_9 =>
  bd (f_X3_put (6 : Int32) 600 x1 (2 : Int32) r_7 rO fO_5) (fun fO_11 =>
  bd3 (f_X4_readDigit (0 : Int32) (7 : Int32) rB fB pl_8 fa_9) (fun r_13 pl_14 fa_15 =>
  bd (f_X3_put (6 : Int32) 600 x1 (3 : Int32) r_13 rO fO_11) (fun fO_17 =>
  bd3 (f_X4_readDigit (1 : Int32) (7 : Int32) rB fB pl_14 fa_15) (fun r_19 pl_20 fa_21 =>
  bd (f_X3_put (6 : Int32) 600 x1 (4 : Int32) r_19 rO fO_17) (fun fO_23 =>
  bd2 (f_X4_readByte (44 : Int32) rB fB pl_20 fa_21) (fun pl_25 fa_26 =>
  bd3 (f_X4_readNumber (3 : Int32) (0 : Int32) (100 : Int32) rB fB pl_25 fa_26) (fun r_28 pl_29 fa_30 =>
  bd (f_X3_put (6 : Int32) 600 x1 (5 : Int32) r_28 rO fO_23) (fun fO_32 =>
  some (fO_32, pl_29, fa_30))))))))))))
set_option maxHeartbeats 4000000 in
set_option maxRecDepth 100000 in
theorem c_X4_readGrant (l : Launch) (X : cx_G) (tx : (Nat → Nat)) (rB : Int32) (fB : (Nat → Int32)) (rO : Int32) (fO : (Nat → Int32)) (pl : Int32) (fa : Int32) (x1 : Int32) (fO' : (Nat → Int32)) (pl' : Int32) (fa' : Int32) (hf : f_X4_readGrant x1 rB fB rO fO pl fa = some (fO', pl', fa')) : Fn l yX4_readGrant wsX4_readGrant ({ frames := 3, cells := 0, slots := 0, locals := 70 } : Room) X [.ref (tx 0), .int x1] (wTx X tx rB fB rO fO pl fa) none (wTx X tx rB fB rO fO' pl' fa') := by
  refine fn_intro (cc := cX4_readGrant) (maxL := 2) (ret := none) (by decide) rfl rfl (Nat.le_of_ble_eq_true rfl) ?_
  intro p e s m args below meth c A ls hx hb hml hr hts hown hlocks hK hP hD0 hS hA hl
  have hown : s.vm.findClass RX4 = some m.cls := hown
  have hl : lv_has ls 2 [(0, .ref (tx 0)), (1, .int x1)] := hl
  have hiX4 : ∀ w ∈ u_ws RX4 TX4 4, w ∈ wsX4_readGrant := by decide +kernel
  have k20 := hts (.fieldLink RX4 20 "LentRights$Text" "orders" "LLentRights$Table;") (by decide +kernel)
  unfold f_X4_readGrant at hf
  refine lv_aload_n hx hb dX4_readGrant_0 rfl (lv_at hl 0 rfl) ?_
  refine va_get (D := X.1) (ci := 4) (v := .ref (tx 3)) (C := RX4) (T := TX4) (N := 4) hx hb hts hiX4 hown hK.1 hP 0 rfl rfl 1 (by decide) k20 (fun _ h9 => h9) rfl dX4_readGrant_1 ?_
  refine lv_iload_n hx hb dX4_readGrant_4 rfl (lv_at hl 1 rfl) ?_
  refine lv_iconst (v := 1) hx hb dX4_readGrant_5 (by decide) ?_
  refine lv_aload_n hx hb dX4_readGrant_6 rfl (lv_at hl 0 rfl) ?_
  refine lv_iconst (v := 0) hx hb dX4_readGrant_7 (by decide) ?_
  refine lv_bipush (v := 9) hx hb dX4_readGrant_8 (by decide) ?_
  obtain ⟨r_1, pl_2, fa_3, hc_4, hf⟩ := bd3_of hf
  refine fn_V (v := some (.int r_1)) (As := [.int (0 : Int32), .int (9 : Int32)]) (rest := [.int (1 : Int32), .int x1, .ref (tx 3)]) (st1 := [.int r_1, .int (1 : Int32), .int x1, .ref (tx 3)]) (ws' := (wTx X tx rB fB rO fO pl_2 fa_3)) (nL := 2) ⟨hx, hb, hml, hown, hts⟩ (c_X4_readDigit l X tx rB fB rO fO pl fa (0 : Int32) (9 : Int32) r_1 pl_2 fa_3 hc_4) (cwV 2 hts gX4_readGrant_X4_readDigit rfl rfl rfl (by decide +kernel) ⟨Nat.le_of_ble_eq_true rfl, Nat.le_of_ble_eq_true rfl⟩) 4 rfl rfl rfl rfl hl.1 rfl (Nat.le_of_ble_eq_true rfl) dX4_readGrant_10 hK hP (hD0.addr rfl) hS hA [0, 1, 2, 3, 4] rfl rfl rfl rfl ⟨Nat.zero_le _, Nat.zero_le _⟩ (fun H locs hP hD hS => ?_)
  obtain ⟨fO_5, hc_6, hf⟩ := bd_of hf
  refine fn_V (v := none) (As := [.int x1, .int (1 : Int32), .int r_1]) (rest := []) (st1 := []) (ws' := (wTx X tx rB fB rO fO_5 pl_2 fa_3)) (nL := 2) ⟨hx, hb, hml, hown, hts⟩ (c_X3_put l X (tx 3) (tx 4) (100 : Int32) (6 : Int32) 600 rO fO x1 (1 : Int32) r_1 fO_5 hc_6) (cwV 3 hts gX4_readGrant_X3_put rfl rfl rfl (by decide +kernel) ⟨Nat.le_of_ble_eq_true rfl, Nat.le_of_ble_eq_true rfl⟩) 3 rfl rfl rfl rfl hl.1 rfl (Nat.le_of_ble_eq_true rfl) dX4_readGrant_13 hK hP (hD0.addr rfl) hS hA [3, 4] rfl rfl rfl rfl ⟨Nat.zero_le _, Nat.zero_le _⟩ (fun H locs hP hD hS => ?_)
  refine lv_aload_n hx hb dX4_readGrant_16 rfl (lv_at hl 0 rfl) ?_
  refine va_get (D := X.1) (ci := 4) (v := .ref (tx 3)) (C := RX4) (T := TX4) (N := 4) hx hb hts hiX4 hown hK.1 hP 0 rfl rfl 1 (by decide) k20 (fun _ h9 => h9) rfl dX4_readGrant_17 ?_
  refine lv_iload_n hx hb dX4_readGrant_20 rfl (lv_at hl 1 rfl) ?_
  refine lv_iconst (v := 2) hx hb dX4_readGrant_21 (by decide) ?_
  refine lv_aload_n hx hb dX4_readGrant_22 rfl (lv_at hl 0 rfl) ?_
  refine lv_iconst (v := 0) hx hb dX4_readGrant_23 (by decide) ?_
  refine lv_bipush (v := 9) hx hb dX4_readGrant_24 (by decide) ?_
  obtain ⟨r_7, pl_8, fa_9, hc_10, hf⟩ := bd3_of hf
  refine fn_V (v := some (.int r_7)) (As := [.int (0 : Int32), .int (9 : Int32)]) (rest := [.int (2 : Int32), .int x1, .ref (tx 3)]) (st1 := [.int r_7, .int (2 : Int32), .int x1, .ref (tx 3)]) (ws' := (wTx X tx rB fB rO fO_5 pl_8 fa_9)) (nL := 2) ⟨hx, hb, hml, hown, hts⟩ (c_X4_readDigit l X tx rB fB rO fO_5 pl_2 fa_3 (0 : Int32) (9 : Int32) r_7 pl_8 fa_9 hc_10) (cwV 2 hts gX4_readGrant_X4_readDigit rfl rfl rfl (by decide +kernel) ⟨Nat.le_of_ble_eq_true rfl, Nat.le_of_ble_eq_true rfl⟩) 4 rfl rfl rfl rfl hl.1 rfl (Nat.le_of_ble_eq_true rfl) dX4_readGrant_26 hK hP (hD0.addr rfl) hS hA [0, 1, 2, 3, 4] rfl rfl rfl rfl ⟨Nat.zero_le _, Nat.zero_le _⟩ (fun H locs hP hD hS => ?_)
  obtain ⟨fO_11, hc_12, hf⟩ := bd_of hf
  refine fn_V (v := none) (As := [.int x1, .int (2 : Int32), .int r_7]) (rest := []) (st1 := []) (ws' := (wTx X tx rB fB rO fO_11 pl_8 fa_9)) (nL := 2) ⟨hx, hb, hml, hown, hts⟩ (c_X3_put l X (tx 3) (tx 4) (100 : Int32) (6 : Int32) 600 rO fO_5 x1 (2 : Int32) r_7 fO_11 hc_12) (cwV 3 hts gX4_readGrant_X3_put rfl rfl rfl (by decide +kernel) ⟨Nat.le_of_ble_eq_true rfl, Nat.le_of_ble_eq_true rfl⟩) 3 rfl rfl rfl rfl hl.1 rfl (Nat.le_of_ble_eq_true rfl) dX4_readGrant_29 hK hP (hD0.addr rfl) hS hA [3, 4] rfl rfl rfl rfl ⟨Nat.zero_le _, Nat.zero_le _⟩ (fun H locs hP hD hS => ?_)
  refine lv_aload_n hx hb dX4_readGrant_32 rfl (lv_at hl 0 rfl) ?_
  refine va_get (D := X.1) (ci := 4) (v := .ref (tx 3)) (C := RX4) (T := TX4) (N := 4) hx hb hts hiX4 hown hK.1 hP 0 rfl rfl 1 (by decide) k20 (fun _ h9 => h9) rfl dX4_readGrant_33 ?_
  refine lv_iload_n hx hb dX4_readGrant_36 rfl (lv_at hl 1 rfl) ?_
  refine lv_iconst (v := 3) hx hb dX4_readGrant_37 (by decide) ?_
  refine lv_aload_n hx hb dX4_readGrant_38 rfl (lv_at hl 0 rfl) ?_
  refine lv_iconst (v := 0) hx hb dX4_readGrant_39 (by decide) ?_
  refine lv_bipush (v := 7) hx hb dX4_readGrant_40 (by decide) ?_
  obtain ⟨r_13, pl_14, fa_15, hc_16, hf⟩ := bd3_of hf
  refine fn_V (v := some (.int r_13)) (As := [.int (0 : Int32), .int (7 : Int32)]) (rest := [.int (3 : Int32), .int x1, .ref (tx 3)]) (st1 := [.int r_13, .int (3 : Int32), .int x1, .ref (tx 3)]) (ws' := (wTx X tx rB fB rO fO_11 pl_14 fa_15)) (nL := 2) ⟨hx, hb, hml, hown, hts⟩ (c_X4_readDigit l X tx rB fB rO fO_11 pl_8 fa_9 (0 : Int32) (7 : Int32) r_13 pl_14 fa_15 hc_16) (cwV 2 hts gX4_readGrant_X4_readDigit rfl rfl rfl (by decide +kernel) ⟨Nat.le_of_ble_eq_true rfl, Nat.le_of_ble_eq_true rfl⟩) 4 rfl rfl rfl rfl hl.1 rfl (Nat.le_of_ble_eq_true rfl) dX4_readGrant_42 hK hP (hD0.addr rfl) hS hA [0, 1, 2, 3, 4] rfl rfl rfl rfl ⟨Nat.zero_le _, Nat.zero_le _⟩ (fun H locs hP hD hS => ?_)
  obtain ⟨fO_17, hc_18, hf⟩ := bd_of hf
  refine fn_V (v := none) (As := [.int x1, .int (3 : Int32), .int r_13]) (rest := []) (st1 := []) (ws' := (wTx X tx rB fB rO fO_17 pl_14 fa_15)) (nL := 2) ⟨hx, hb, hml, hown, hts⟩ (c_X3_put l X (tx 3) (tx 4) (100 : Int32) (6 : Int32) 600 rO fO_11 x1 (3 : Int32) r_13 fO_17 hc_18) (cwV 3 hts gX4_readGrant_X3_put rfl rfl rfl (by decide +kernel) ⟨Nat.le_of_ble_eq_true rfl, Nat.le_of_ble_eq_true rfl⟩) 3 rfl rfl rfl rfl hl.1 rfl (Nat.le_of_ble_eq_true rfl) dX4_readGrant_45 hK hP (hD0.addr rfl) hS hA [3, 4] rfl rfl rfl rfl ⟨Nat.zero_le _, Nat.zero_le _⟩ (fun H locs hP hD hS => ?_)
  refine lv_aload_n hx hb dX4_readGrant_48 rfl (lv_at hl 0 rfl) ?_
  refine va_get (D := X.1) (ci := 4) (v := .ref (tx 3)) (C := RX4) (T := TX4) (N := 4) hx hb hts hiX4 hown hK.1 hP 0 rfl rfl 1 (by decide) k20 (fun _ h9 => h9) rfl dX4_readGrant_49 ?_
  refine lv_iload_n hx hb dX4_readGrant_52 rfl (lv_at hl 1 rfl) ?_
  refine lv_iconst (v := 4) hx hb dX4_readGrant_53 (by decide) ?_
  refine lv_aload_n hx hb dX4_readGrant_54 rfl (lv_at hl 0 rfl) ?_
  refine lv_iconst (v := 1) hx hb dX4_readGrant_55 (by decide) ?_
  refine lv_bipush (v := 7) hx hb dX4_readGrant_56 (by decide) ?_
  obtain ⟨r_19, pl_20, fa_21, hc_22, hf⟩ := bd3_of hf
  refine fn_V (v := some (.int r_19)) (As := [.int (1 : Int32), .int (7 : Int32)]) (rest := [.int (4 : Int32), .int x1, .ref (tx 3)]) (st1 := [.int r_19, .int (4 : Int32), .int x1, .ref (tx 3)]) (ws' := (wTx X tx rB fB rO fO_17 pl_20 fa_21)) (nL := 2) ⟨hx, hb, hml, hown, hts⟩ (c_X4_readDigit l X tx rB fB rO fO_17 pl_14 fa_15 (1 : Int32) (7 : Int32) r_19 pl_20 fa_21 hc_22) (cwV 2 hts gX4_readGrant_X4_readDigit rfl rfl rfl (by decide +kernel) ⟨Nat.le_of_ble_eq_true rfl, Nat.le_of_ble_eq_true rfl⟩) 4 rfl rfl rfl rfl hl.1 rfl (Nat.le_of_ble_eq_true rfl) dX4_readGrant_58 hK hP (hD0.addr rfl) hS hA [0, 1, 2, 3, 4] rfl rfl rfl rfl ⟨Nat.zero_le _, Nat.zero_le _⟩ (fun H locs hP hD hS => ?_)
  obtain ⟨fO_23, hc_24, hf⟩ := bd_of hf
  refine fn_V (v := none) (As := [.int x1, .int (4 : Int32), .int r_19]) (rest := []) (st1 := []) (ws' := (wTx X tx rB fB rO fO_23 pl_20 fa_21)) (nL := 2) ⟨hx, hb, hml, hown, hts⟩ (c_X3_put l X (tx 3) (tx 4) (100 : Int32) (6 : Int32) 600 rO fO_17 x1 (4 : Int32) r_19 fO_23 hc_24) (cwV 3 hts gX4_readGrant_X3_put rfl rfl rfl (by decide +kernel) ⟨Nat.le_of_ble_eq_true rfl, Nat.le_of_ble_eq_true rfl⟩) 3 rfl rfl rfl rfl hl.1 rfl (Nat.le_of_ble_eq_true rfl) dX4_readGrant_61 hK hP (hD0.addr rfl) hS hA [3, 4] rfl rfl rfl rfl ⟨Nat.zero_le _, Nat.zero_le _⟩ (fun H locs hP hD hS => ?_)
  refine lv_aload_n hx hb dX4_readGrant_64 rfl (lv_at hl 0 rfl) ?_
  refine lv_bipush (v := 44) hx hb dX4_readGrant_65 (by decide) ?_
  obtain ⟨pl_25, fa_26, hc_27, hf⟩ := bd2_of hf
  refine fn_V (v := none) (As := [.int (44 : Int32)]) (rest := []) (st1 := []) (ws' := (wTx X tx rB fB rO fO_23 pl_25 fa_26)) (nL := 2) ⟨hx, hb, hml, hown, hts⟩ (c_X4_readByte l X tx rB fB rO fO_23 pl_20 fa_21 (44 : Int32) pl_25 fa_26 hc_27) (cwV 1 hts gX4_readGrant_X4_readByte rfl rfl rfl (by decide +kernel) ⟨Nat.le_of_ble_eq_true rfl, Nat.le_of_ble_eq_true rfl⟩) 4 rfl rfl rfl rfl hl.1 rfl (Nat.le_of_ble_eq_true rfl) dX4_readGrant_67 hK hP (hD0.addr rfl) hS hA [0, 1, 2, 3, 4] rfl rfl rfl rfl ⟨Nat.zero_le _, Nat.zero_le _⟩ (fun H locs hP hD hS => ?_)
  refine lv_aload_n hx hb dX4_readGrant_70 rfl (lv_at hl 0 rfl) ?_
  refine va_get (D := X.1) (ci := 4) (v := .ref (tx 3)) (C := RX4) (T := TX4) (N := 4) hx hb hts hiX4 hown hK.1 hP 0 rfl rfl 1 (by decide) k20 (fun _ h9 => h9) rfl dX4_readGrant_71 ?_
  refine lv_iload_n hx hb dX4_readGrant_74 rfl (lv_at hl 1 rfl) ?_
  refine lv_iconst (v := 5) hx hb dX4_readGrant_75 (by decide) ?_
  refine lv_aload_n hx hb dX4_readGrant_76 rfl (lv_at hl 0 rfl) ?_
  refine lv_iconst (v := 3) hx hb dX4_readGrant_77 (by decide) ?_
  refine lv_iconst (v := 0) hx hb dX4_readGrant_78 (by decide) ?_
  refine lv_bipush (v := 100) hx hb dX4_readGrant_79 (by decide) ?_
  obtain ⟨r_28, pl_29, fa_30, hc_31, hf⟩ := bd3_of hf
  refine fn_V (v := some (.int r_28)) (As := [.int (3 : Int32), .int (0 : Int32), .int (100 : Int32)]) (rest := [.int (5 : Int32), .int x1, .ref (tx 3)]) (st1 := [.int r_28, .int (5 : Int32), .int x1, .ref (tx 3)]) (ws' := (wTx X tx rB fB rO fO_23 pl_29 fa_30)) (nL := 2) ⟨hx, hb, hml, hown, hts⟩ (c_X4_readNumber l X tx rB fB rO fO_23 pl_25 fa_26 (3 : Int32) (0 : Int32) (100 : Int32) r_28 pl_29 fa_30 hc_31) (cwV 3 hts gX4_readGrant_X4_readNumber rfl rfl rfl (by decide +kernel) ⟨Nat.le_of_ble_eq_true rfl, Nat.le_of_ble_eq_true rfl⟩) 4 rfl rfl rfl rfl hl.1 rfl (Nat.le_of_ble_eq_true rfl) dX4_readGrant_81 hK hP (hD0.addr rfl) hS hA [0, 1, 2, 3, 4] rfl rfl rfl rfl ⟨Nat.zero_le _, Nat.zero_le _⟩ (fun H locs hP hD hS => ?_)
  obtain ⟨fO_32, hc_33, hf⟩ := bd_of hf
  refine fn_V (v := none) (As := [.int x1, .int (5 : Int32), .int r_28]) (rest := []) (st1 := []) (ws' := (wTx X tx rB fB rO fO_32 pl_29 fa_30)) (nL := 2) ⟨hx, hb, hml, hown, hts⟩ (c_X3_put l X (tx 3) (tx 4) (100 : Int32) (6 : Int32) 600 rO fO_23 x1 (5 : Int32) r_28 fO_32 hc_33) (cwV 3 hts gX4_readGrant_X3_put rfl rfl rfl (by decide +kernel) ⟨Nat.le_of_ble_eq_true rfl, Nat.le_of_ble_eq_true rfl⟩) 3 rfl rfl rfl rfl hl.1 rfl (Nat.le_of_ble_eq_true rfl) dX4_readGrant_84 hK hP (hD0.addr rfl) hS hA [3, 4] rfl rfl rfl rfl ⟨Nat.zero_le _, Nat.zero_le _⟩ (fun H locs hP hD hS => ?_)
  cases hf
  exact fn_vret hx hb hr hlocks hP hS dX4_readGrant_87

def f_X4_readOrder (x1 : Int32) (rB : Int32) (fB : (Nat → Int32)) (rO : Int32) (fO : (Nat → Int32)) (pl : Int32) (fa : Int32) : Option ((Nat → Int32) × Int32 × Int32) :=
  bd (f_X4_current rB fB pl) (fun r_1 =>
  bd (f_X3_put (6 : Int32) 600 x1 (0 : Int32) r_1 rO fO) (fun fO_3 =>
  nm (pl + (1 : Int32)) (fun v_5 =>
  if r_1 = (99 : Int32) then
  (bd3 (f_X4_readDigit (0 : Int32) (9 : Int32) rB fB v_5 fa) (fun r_7 pl_8 fa_9 =>
  bd (f_X3_put (6 : Int32) 600 x1 (1 : Int32) r_7 rO fO_3) (fun fO_11 =>
  bd3 (f_X4_readSign rB fB pl_8 fa_9) (fun r_13 pl_14 fa_15 =>
  bd3 (f_X4_readNumber (3 : Int32) (0 : Int32) (100 : Int32) rB fB pl_14 fa_15) (fun r_17 pl_18 fa_19 =>
  bd (f_X3_put (6 : Int32) 600 x1 (2 : Int32) (r_13 * r_17) rO fO_11) (fun fO_21 =>
  bd2 (f_X4_readByte (59 : Int32) rB fB pl_18 fa_19) (fun pl_23 fa_24 =>
  some (fO_21, pl_23, fa_24))))))))
  else
  (if r_1 = (103 : Int32) then
  (bd3 (f_X4_readGrant x1 rB fB rO fO_3 v_5 fa) (fun fO_27 pl_28 fa_29 =>
  bd2 (f_X4_readByte (59 : Int32) rB fB pl_28 fa_29) (fun pl_31 fa_32 =>
  some (fO_27, pl_31, fa_32))))
  else
  (if r_1 = (116 : Int32) then
  (bd3 (f_X4_readNumber (2 : Int32) (1 : Int32) (50 : Int32) rB fB v_5 fa) (fun r_35 pl_36 fa_37 =>
  bd (f_X3_put (6 : Int32) 600 x1 (1 : Int32) r_35 rO fO_3) (fun fO_39 =>
  bd2 (f_X4_readByte (59 : Int32) rB fB pl_36 fa_37) (fun pl_41 fa_42 =>
  some (fO_39, pl_41, fa_42)))))
  else
  (if r_1 = (118 : Int32) then
  (bd3 (f_X4_readNumber (3 : Int32) (0 : Int32) (999 : Int32) rB fB v_5 fa) (fun r_45 pl_46 fa_47 =>
  bd (f_X3_put (6 : Int32) 600 x1 (1 : Int32) r_45 rO fO_3) (fun fO_49 =>
  bd2 (f_X4_readByte (59 : Int32) rB fB pl_46 fa_47) (fun pl_51 fa_52 =>
  some (fO_49, pl_51, fa_52)))))
  else
  (bd (f_X4_fail (v_5 - (1 : Int32)) fa) (fun fa_54 =>
  bd2 (f_X4_readByte (59 : Int32) rB fB v_5 fa_54) (fun pl_56 fa_57 =>
  some (fO_3, pl_56, fa_57))))))))))
set_option maxHeartbeats 4000000 in
set_option maxRecDepth 100000 in
theorem c_X4_readOrder (l : Launch) (X : cx_G) (tx : (Nat → Nat)) (rB : Int32) (fB : (Nat → Int32)) (rO : Int32) (fO : (Nat → Int32)) (pl : Int32) (fa : Int32) (x1 : Int32) (fO' : (Nat → Int32)) (pl' : Int32) (fa' : Int32) (hf : f_X4_readOrder x1 rB fB rO fO pl fa = some (fO', pl', fa')) : Fn l yX4_readOrder wsX4_readOrder ({ frames := 4, cells := 0, slots := 0, locals := 91 } : Room) X [.ref (tx 0), .int x1] (wTx X tx rB fB rO fO pl fa) none (wTx X tx rB fB rO fO' pl' fa') := by
  refine fn_intro (cc := cX4_readOrder) (maxL := 3) (ret := none) (by decide) rfl rfl (Nat.le_of_ble_eq_true rfl) ?_
  intro p e s m args below meth c A ls hx hb hml hr hts hown hlocks hK hP hD0 hS hA hl
  have hown : s.vm.findClass RX4 = some m.cls := hown
  have hl : lv_has ls 3 [(0, .ref (tx 0)), (1, .int x1)] := hl
  have hiX4 : ∀ w ∈ u_ws RX4 TX4 4, w ∈ wsX4_readOrder := by decide +kernel
  have k20 := hts (.fieldLink RX4 20 "LentRights$Text" "orders" "LLentRights$Table;") (by decide +kernel)
  have k45 := hts (.fieldLink RX4 45 "LentRights$Text" "place" "I") (by decide +kernel)
  unfold f_X4_readOrder at hf
  refine lv_aload_n hx hb dX4_readOrder_0 rfl (lv_at hl 0 rfl) ?_
  obtain ⟨r_1, hc_2, hf⟩ := bd_of hf
  refine fn_V (v := some (.int r_1)) (As := []) (rest := []) (st1 := [.int r_1]) (ws' := (wTx X tx rB fB rO fO pl fa)) (nL := 3) ⟨hx, hb, hml, hown, hts⟩ (c_X4_current l X tx rB fB rO fO pl fa r_1 hc_2) (cwV 0 hts gX4_readOrder_X4_current rfl rfl rfl (by decide +kernel) ⟨Nat.le_of_ble_eq_true rfl, Nat.le_of_ble_eq_true rfl⟩) 4 rfl rfl rfl rfl hl.1 rfl (Nat.le_of_ble_eq_true rfl) dX4_readOrder_1 hK hP (hD0.addr rfl) hS hA [0, 1, 2, 3, 4] rfl rfl rfl rfl ⟨Nat.zero_le _, Nat.zero_le _⟩ (fun H locs hP hD hS => ?_)
  refine lv_istore_n (lv' := [(2, .int r_1), (0, .ref (tx 0)), (1, .int x1)]) hx hb dX4_readOrder_4 rfl hl (by decide) rfl (fun ls hl => ?_)
  refine lv_aload_n hx hb dX4_readOrder_5 rfl (lv_at hl 1 rfl) ?_
  refine va_get (D := X.1) (ci := 4) (v := .ref (tx 3)) (C := RX4) (T := TX4) (N := 4) hx hb hts hiX4 hown hK.1 hP 0 rfl rfl 1 (by decide) k20 (fun _ h9 => h9) rfl dX4_readOrder_6 ?_
  refine lv_iload_n hx hb dX4_readOrder_9 rfl (lv_at hl 2 rfl) ?_
  refine lv_iconst (v := 0) hx hb dX4_readOrder_10 (by decide) ?_
  refine lv_iload_n hx hb dX4_readOrder_11 rfl (lv_at hl 0 rfl) ?_
  obtain ⟨fO_3, hc_4, hf⟩ := bd_of hf
  refine fn_V (v := none) (As := [.int x1, .int (0 : Int32), .int r_1]) (rest := []) (st1 := []) (ws' := (wTx X tx rB fB rO fO_3 pl fa)) (nL := 3) ⟨hx, hb, hml, hown, hts⟩ (c_X3_put l X (tx 3) (tx 4) (100 : Int32) (6 : Int32) 600 rO fO x1 (0 : Int32) r_1 fO_3 hc_4) (cwV 3 hts gX4_readOrder_X3_put rfl rfl rfl (by decide +kernel) ⟨Nat.le_of_ble_eq_true rfl, Nat.le_of_ble_eq_true rfl⟩) 3 rfl rfl rfl rfl hl.1 rfl (Nat.le_of_ble_eq_true rfl) dX4_readOrder_12 hK hP (hD0.addr rfl) hS hA [3, 4] rfl rfl rfl rfl ⟨Nat.zero_le _, Nat.zero_le _⟩ (fun H locs hP hD hS => ?_)
  refine lv_aload_n hx hb dX4_readOrder_15 rfl (lv_at hl 1 rfl) ?_
  refine lv_dup hx hb dX4_readOrder_16 rfl ?_
  refine va_get (D := X.1) (ci := 4) (v := .int pl) (C := RX4) (T := TX4) (N := 4) hx hb hts hiX4 hown hK.1 hP 0 rfl rfl 2 (by decide) k45 (fun _ h9 => h9) rfl dX4_readOrder_17 ?_
  refine lv_iconst (v := 1) hx hb dX4_readOrder_20 (by decide) ?_
  refine lv_iadd hx hb dX4_readOrder_21 ?_
  refine lv_topi (fun v_5 ev_5 => ?_)
  replace hf := nm_of ev_5 hf
  refine va_put (D := X.1) (ci := 4) (v := .int v_5) (ty := .int) (C := RX4) (T := TX4) (N := 4) hx hb hts hiX4 tyX4 tyX4_ok nmX4 hown hK.1 hP (hD0.addr rfl) hS 0 rfl rfl 2 (by decide) k45 (fun _ h9 => h9) rfl (by decide +kernel) rfl rfl (Nat.le_of_ble_eq_true rfl) dX4_readOrder_22 (fun H locs hP hD hS => ?_)
  have hP : va_P X.1 vwCl (wTx X tx rB fB rO fO_3 v_5 fa) H := hP
  refine lv_iload_n hx hb dX4_readOrder_25 rfl (lv_at hl 0 rfl) ?_
  by_cases c_6 : r_1 = (99 : Int32)
  · replace hf := fp_t c_6 hf
    refine lv_lookup (off := 71) (tgt := 97) hx hb dX4_readOrder_26 (by decide) (by rw [c_6]; rfl) (by decide) ?_
    refine lv_aload_n hx hb dX4_readOrder_97 rfl (lv_at hl 1 rfl) ?_
    refine va_get (D := X.1) (ci := 4) (v := .ref (tx 3)) (C := RX4) (T := TX4) (N := 4) hx hb hts hiX4 hown hK.1 hP 0 rfl rfl 1 (by decide) k20 (fun _ h9 => h9) rfl dX4_readOrder_98 ?_
    refine lv_iload_n hx hb dX4_readOrder_101 rfl (lv_at hl 2 rfl) ?_
    refine lv_iconst (v := 1) hx hb dX4_readOrder_102 (by decide) ?_
    refine lv_aload_n hx hb dX4_readOrder_103 rfl (lv_at hl 1 rfl) ?_
    refine lv_iconst (v := 0) hx hb dX4_readOrder_104 (by decide) ?_
    refine lv_bipush (v := 9) hx hb dX4_readOrder_105 (by decide) ?_
    obtain ⟨r_7, pl_8, fa_9, hc_10, hf⟩ := bd3_of hf
    refine fn_V (v := some (.int r_7)) (As := [.int (0 : Int32), .int (9 : Int32)]) (rest := [.int (1 : Int32), .int x1, .ref (tx 3)]) (st1 := [.int r_7, .int (1 : Int32), .int x1, .ref (tx 3)]) (ws' := (wTx X tx rB fB rO fO_3 pl_8 fa_9)) (nL := 3) ⟨hx, hb, hml, hown, hts⟩ (c_X4_readDigit l X tx rB fB rO fO_3 v_5 fa (0 : Int32) (9 : Int32) r_7 pl_8 fa_9 hc_10) (cwV 2 hts gX4_readOrder_X4_readDigit rfl rfl rfl (by decide +kernel) ⟨Nat.le_of_ble_eq_true rfl, Nat.le_of_ble_eq_true rfl⟩) 4 rfl rfl rfl rfl hl.1 rfl (Nat.le_of_ble_eq_true rfl) dX4_readOrder_107 hK hP (hD0.addr rfl) hS hA [0, 1, 2, 3, 4] rfl rfl rfl rfl ⟨Nat.zero_le _, Nat.zero_le _⟩ (fun H locs hP hD hS => ?_)
    obtain ⟨fO_11, hc_12, hf⟩ := bd_of hf
    refine fn_V (v := none) (As := [.int x1, .int (1 : Int32), .int r_7]) (rest := []) (st1 := []) (ws' := (wTx X tx rB fB rO fO_11 pl_8 fa_9)) (nL := 3) ⟨hx, hb, hml, hown, hts⟩ (c_X3_put l X (tx 3) (tx 4) (100 : Int32) (6 : Int32) 600 rO fO_3 x1 (1 : Int32) r_7 fO_11 hc_12) (cwV 3 hts gX4_readOrder_X3_put rfl rfl rfl (by decide +kernel) ⟨Nat.le_of_ble_eq_true rfl, Nat.le_of_ble_eq_true rfl⟩) 3 rfl rfl rfl rfl hl.1 rfl (Nat.le_of_ble_eq_true rfl) dX4_readOrder_110 hK hP (hD0.addr rfl) hS hA [3, 4] rfl rfl rfl rfl ⟨Nat.zero_le _, Nat.zero_le _⟩ (fun H locs hP hD hS => ?_)
    refine lv_aload_n hx hb dX4_readOrder_113 rfl (lv_at hl 1 rfl) ?_
    refine va_get (D := X.1) (ci := 4) (v := .ref (tx 3)) (C := RX4) (T := TX4) (N := 4) hx hb hts hiX4 hown hK.1 hP 0 rfl rfl 1 (by decide) k20 (fun _ h9 => h9) rfl dX4_readOrder_114 ?_
    refine lv_iload_n hx hb dX4_readOrder_117 rfl (lv_at hl 2 rfl) ?_
    refine lv_iconst (v := 2) hx hb dX4_readOrder_118 (by decide) ?_
    refine lv_aload_n hx hb dX4_readOrder_119 rfl (lv_at hl 1 rfl) ?_
    obtain ⟨r_13, pl_14, fa_15, hc_16, hf⟩ := bd3_of hf
    refine fn_V (v := some (.int r_13)) (As := []) (rest := [.int (2 : Int32), .int x1, .ref (tx 3)]) (st1 := [.int r_13, .int (2 : Int32), .int x1, .ref (tx 3)]) (ws' := (wTx X tx rB fB rO fO_11 pl_14 fa_15)) (nL := 3) ⟨hx, hb, hml, hown, hts⟩ (c_X4_readSign l X tx rB fB rO fO_11 pl_8 fa_9 r_13 pl_14 fa_15 hc_16) (cwV 0 hts gX4_readOrder_X4_readSign rfl rfl rfl (by decide +kernel) ⟨Nat.le_of_ble_eq_true rfl, Nat.le_of_ble_eq_true rfl⟩) 4 rfl rfl rfl rfl hl.1 rfl (Nat.le_of_ble_eq_true rfl) dX4_readOrder_120 hK hP (hD0.addr rfl) hS hA [0, 1, 2, 3, 4] rfl rfl rfl rfl ⟨Nat.zero_le _, Nat.zero_le _⟩ (fun H locs hP hD hS => ?_)
    refine lv_aload_n hx hb dX4_readOrder_123 rfl (lv_at hl 1 rfl) ?_
    refine lv_iconst (v := 3) hx hb dX4_readOrder_124 (by decide) ?_
    refine lv_iconst (v := 0) hx hb dX4_readOrder_125 (by decide) ?_
    refine lv_bipush (v := 100) hx hb dX4_readOrder_126 (by decide) ?_
    obtain ⟨r_17, pl_18, fa_19, hc_20, hf⟩ := bd3_of hf
    refine fn_V (v := some (.int r_17)) (As := [.int (3 : Int32), .int (0 : Int32), .int (100 : Int32)]) (rest := [.int r_13, .int (2 : Int32), .int x1, .ref (tx 3)]) (st1 := [.int r_17, .int r_13, .int (2 : Int32), .int x1, .ref (tx 3)]) (ws' := (wTx X tx rB fB rO fO_11 pl_18 fa_19)) (nL := 3) ⟨hx, hb, hml, hown, hts⟩ (c_X4_readNumber l X tx rB fB rO fO_11 pl_14 fa_15 (3 : Int32) (0 : Int32) (100 : Int32) r_17 pl_18 fa_19 hc_20) (cwV 3 hts gX4_readOrder_X4_readNumber rfl rfl rfl (by decide +kernel) ⟨Nat.le_of_ble_eq_true rfl, Nat.le_of_ble_eq_true rfl⟩) 4 rfl rfl rfl rfl hl.1 rfl (Nat.le_of_ble_eq_true rfl) dX4_readOrder_128 hK hP (hD0.addr rfl) hS hA [0, 1, 2, 3, 4] rfl rfl rfl rfl ⟨Nat.zero_le _, Nat.zero_le _⟩ (fun H locs hP hD hS => ?_)
    refine lv_imul hx hb dX4_readOrder_131 ?_
    obtain ⟨fO_21, hc_22, hf⟩ := bd_of hf
    refine fn_V (v := none) (As := [.int x1, .int (2 : Int32), .int (r_13 * r_17)]) (rest := []) (st1 := []) (ws' := (wTx X tx rB fB rO fO_21 pl_18 fa_19)) (nL := 3) ⟨hx, hb, hml, hown, hts⟩ (c_X3_put l X (tx 3) (tx 4) (100 : Int32) (6 : Int32) 600 rO fO_11 x1 (2 : Int32) (r_13 * r_17) fO_21 hc_22) (cwV 3 hts gX4_readOrder_X3_put rfl rfl rfl (by decide +kernel) ⟨Nat.le_of_ble_eq_true rfl, Nat.le_of_ble_eq_true rfl⟩) 3 rfl rfl rfl rfl hl.1 rfl (Nat.le_of_ble_eq_true rfl) dX4_readOrder_132 hK hP (hD0.addr rfl) hS hA [3, 4] rfl rfl rfl rfl ⟨Nat.zero_le _, Nat.zero_le _⟩ (fun H locs hP hD hS => ?_)
    refine lv_goto (tgt := 168) hx hb dX4_readOrder_135 (by decide) ?_
    refine lv_aload_n hx hb dX4_readOrder_168 rfl (lv_at hl 1 rfl) ?_
    refine lv_bipush (v := 59) hx hb dX4_readOrder_169 (by decide) ?_
    obtain ⟨pl_23, fa_24, hc_25, hf⟩ := bd2_of hf
    refine fn_V (v := none) (As := [.int (59 : Int32)]) (rest := []) (st1 := []) (ws' := (wTx X tx rB fB rO fO_21 pl_23 fa_24)) (nL := 3) ⟨hx, hb, hml, hown, hts⟩ (c_X4_readByte l X tx rB fB rO fO_21 pl_18 fa_19 (59 : Int32) pl_23 fa_24 hc_25) (cwV 1 hts gX4_readOrder_X4_readByte rfl rfl rfl (by decide +kernel) ⟨Nat.le_of_ble_eq_true rfl, Nat.le_of_ble_eq_true rfl⟩) 4 rfl rfl rfl rfl hl.1 rfl (Nat.le_of_ble_eq_true rfl) dX4_readOrder_171 hK hP (hD0.addr rfl) hS hA [0, 1, 2, 3, 4] rfl rfl rfl rfl ⟨Nat.zero_le _, Nat.zero_le _⟩ (fun H locs hP hD hS => ?_)
    cases hf
    exact fn_vret hx hb hr hlocks hP hS dX4_readOrder_174
  · replace hf := fp_f c_6 hf
    by_cases c_26 : r_1 = (103 : Int32)
    · replace hf := fp_t c_26 hf
      refine lv_lookup (off := 42) (tgt := 68) hx hb dX4_readOrder_26 (by decide) (by rw [c_26]; rfl) (by decide) ?_
      refine lv_aload_n hx hb dX4_readOrder_68 rfl (lv_at hl 1 rfl) ?_
      refine lv_iload_n hx hb dX4_readOrder_69 rfl (lv_at hl 2 rfl) ?_
      obtain ⟨fO_27, pl_28, fa_29, hc_30, hf⟩ := bd3_of hf
      refine fn_V (v := none) (As := [.int x1]) (rest := []) (st1 := []) (ws' := (wTx X tx rB fB rO fO_27 pl_28 fa_29)) (nL := 3) ⟨hx, hb, hml, hown, hts⟩ (c_X4_readGrant l X tx rB fB rO fO_3 v_5 fa x1 fO_27 pl_28 fa_29 hc_30) (cwV 1 hts gX4_readOrder_X4_readGrant rfl rfl rfl (by decide +kernel) ⟨Nat.le_of_ble_eq_true rfl, Nat.le_of_ble_eq_true rfl⟩) 4 rfl rfl rfl rfl hl.1 rfl (Nat.le_of_ble_eq_true rfl) dX4_readOrder_70 hK hP (hD0.addr rfl) hS hA [0, 1, 2, 3, 4] rfl rfl rfl rfl ⟨Nat.zero_le _, Nat.zero_le _⟩ (fun H locs hP hD hS => ?_)
      refine lv_goto (tgt := 168) hx hb dX4_readOrder_73 (by decide) ?_
      refine lv_aload_n hx hb dX4_readOrder_168 rfl (lv_at hl 1 rfl) ?_
      refine lv_bipush (v := 59) hx hb dX4_readOrder_169 (by decide) ?_
      obtain ⟨pl_31, fa_32, hc_33, hf⟩ := bd2_of hf
      refine fn_V (v := none) (As := [.int (59 : Int32)]) (rest := []) (st1 := []) (ws' := (wTx X tx rB fB rO fO_27 pl_31 fa_32)) (nL := 3) ⟨hx, hb, hml, hown, hts⟩ (c_X4_readByte l X tx rB fB rO fO_27 pl_28 fa_29 (59 : Int32) pl_31 fa_32 hc_33) (cwV 1 hts gX4_readOrder_X4_readByte rfl rfl rfl (by decide +kernel) ⟨Nat.le_of_ble_eq_true rfl, Nat.le_of_ble_eq_true rfl⟩) 4 rfl rfl rfl rfl hl.1 rfl (Nat.le_of_ble_eq_true rfl) dX4_readOrder_171 hK hP (hD0.addr rfl) hS hA [0, 1, 2, 3, 4] rfl rfl rfl rfl ⟨Nat.zero_le _, Nat.zero_le _⟩ (fun H locs hP hD hS => ?_)
      cases hf
      exact fn_vret hx hb hr hlocks hP hS dX4_readOrder_174
    · replace hf := fp_f c_26 hf
      by_cases c_34 : r_1 = (116 : Int32)
      · replace hf := fp_t c_34 hf
        refine lv_lookup (off := 112) (tgt := 138) hx hb dX4_readOrder_26 (by decide) (by rw [c_34]; rfl) (by decide) ?_
        refine lv_aload_n hx hb dX4_readOrder_138 rfl (lv_at hl 1 rfl) ?_
        refine va_get (D := X.1) (ci := 4) (v := .ref (tx 3)) (C := RX4) (T := TX4) (N := 4) hx hb hts hiX4 hown hK.1 hP 0 rfl rfl 1 (by decide) k20 (fun _ h9 => h9) rfl dX4_readOrder_139 ?_
        refine lv_iload_n hx hb dX4_readOrder_142 rfl (lv_at hl 2 rfl) ?_
        refine lv_iconst (v := 1) hx hb dX4_readOrder_143 (by decide) ?_
        refine lv_aload_n hx hb dX4_readOrder_144 rfl (lv_at hl 1 rfl) ?_
        refine lv_iconst (v := 2) hx hb dX4_readOrder_145 (by decide) ?_
        refine lv_iconst (v := 1) hx hb dX4_readOrder_146 (by decide) ?_
        refine lv_bipush (v := 50) hx hb dX4_readOrder_147 (by decide) ?_
        obtain ⟨r_35, pl_36, fa_37, hc_38, hf⟩ := bd3_of hf
        refine fn_V (v := some (.int r_35)) (As := [.int (2 : Int32), .int (1 : Int32), .int (50 : Int32)]) (rest := [.int (1 : Int32), .int x1, .ref (tx 3)]) (st1 := [.int r_35, .int (1 : Int32), .int x1, .ref (tx 3)]) (ws' := (wTx X tx rB fB rO fO_3 pl_36 fa_37)) (nL := 3) ⟨hx, hb, hml, hown, hts⟩ (c_X4_readNumber l X tx rB fB rO fO_3 v_5 fa (2 : Int32) (1 : Int32) (50 : Int32) r_35 pl_36 fa_37 hc_38) (cwV 3 hts gX4_readOrder_X4_readNumber rfl rfl rfl (by decide +kernel) ⟨Nat.le_of_ble_eq_true rfl, Nat.le_of_ble_eq_true rfl⟩) 4 rfl rfl rfl rfl hl.1 rfl (Nat.le_of_ble_eq_true rfl) dX4_readOrder_149 hK hP (hD0.addr rfl) hS hA [0, 1, 2, 3, 4] rfl rfl rfl rfl ⟨Nat.zero_le _, Nat.zero_le _⟩ (fun H locs hP hD hS => ?_)
        obtain ⟨fO_39, hc_40, hf⟩ := bd_of hf
        refine fn_V (v := none) (As := [.int x1, .int (1 : Int32), .int r_35]) (rest := []) (st1 := []) (ws' := (wTx X tx rB fB rO fO_39 pl_36 fa_37)) (nL := 3) ⟨hx, hb, hml, hown, hts⟩ (c_X3_put l X (tx 3) (tx 4) (100 : Int32) (6 : Int32) 600 rO fO_3 x1 (1 : Int32) r_35 fO_39 hc_40) (cwV 3 hts gX4_readOrder_X3_put rfl rfl rfl (by decide +kernel) ⟨Nat.le_of_ble_eq_true rfl, Nat.le_of_ble_eq_true rfl⟩) 3 rfl rfl rfl rfl hl.1 rfl (Nat.le_of_ble_eq_true rfl) dX4_readOrder_152 hK hP (hD0.addr rfl) hS hA [3, 4] rfl rfl rfl rfl ⟨Nat.zero_le _, Nat.zero_le _⟩ (fun H locs hP hD hS => ?_)
        refine lv_goto (tgt := 168) hx hb dX4_readOrder_155 (by decide) ?_
        refine lv_aload_n hx hb dX4_readOrder_168 rfl (lv_at hl 1 rfl) ?_
        refine lv_bipush (v := 59) hx hb dX4_readOrder_169 (by decide) ?_
        obtain ⟨pl_41, fa_42, hc_43, hf⟩ := bd2_of hf
        refine fn_V (v := none) (As := [.int (59 : Int32)]) (rest := []) (st1 := []) (ws' := (wTx X tx rB fB rO fO_39 pl_41 fa_42)) (nL := 3) ⟨hx, hb, hml, hown, hts⟩ (c_X4_readByte l X tx rB fB rO fO_39 pl_36 fa_37 (59 : Int32) pl_41 fa_42 hc_43) (cwV 1 hts gX4_readOrder_X4_readByte rfl rfl rfl (by decide +kernel) ⟨Nat.le_of_ble_eq_true rfl, Nat.le_of_ble_eq_true rfl⟩) 4 rfl rfl rfl rfl hl.1 rfl (Nat.le_of_ble_eq_true rfl) dX4_readOrder_171 hK hP (hD0.addr rfl) hS hA [0, 1, 2, 3, 4] rfl rfl rfl rfl ⟨Nat.zero_le _, Nat.zero_le _⟩ (fun H locs hP hD hS => ?_)
        cases hf
        exact fn_vret hx hb hr hlocks hP hS dX4_readOrder_174
      · replace hf := fp_f c_34 hf
        by_cases c_44 : r_1 = (118 : Int32)
        · replace hf := fp_t c_44 hf
          refine lv_lookup (off := 50) (tgt := 76) hx hb dX4_readOrder_26 (by decide) (by rw [c_44]; rfl) (by decide) ?_
          refine lv_aload_n hx hb dX4_readOrder_76 rfl (lv_at hl 1 rfl) ?_
          refine va_get (D := X.1) (ci := 4) (v := .ref (tx 3)) (C := RX4) (T := TX4) (N := 4) hx hb hts hiX4 hown hK.1 hP 0 rfl rfl 1 (by decide) k20 (fun _ h9 => h9) rfl dX4_readOrder_77 ?_
          refine lv_iload_n hx hb dX4_readOrder_80 rfl (lv_at hl 2 rfl) ?_
          refine lv_iconst (v := 1) hx hb dX4_readOrder_81 (by decide) ?_
          refine lv_aload_n hx hb dX4_readOrder_82 rfl (lv_at hl 1 rfl) ?_
          refine lv_iconst (v := 3) hx hb dX4_readOrder_83 (by decide) ?_
          refine lv_iconst (v := 0) hx hb dX4_readOrder_84 (by decide) ?_
          refine lv_sipush (v := 999) hx hb dX4_readOrder_85 (by decide) ?_
          obtain ⟨r_45, pl_46, fa_47, hc_48, hf⟩ := bd3_of hf
          refine fn_V (v := some (.int r_45)) (As := [.int (3 : Int32), .int (0 : Int32), .int (999 : Int32)]) (rest := [.int (1 : Int32), .int x1, .ref (tx 3)]) (st1 := [.int r_45, .int (1 : Int32), .int x1, .ref (tx 3)]) (ws' := (wTx X tx rB fB rO fO_3 pl_46 fa_47)) (nL := 3) ⟨hx, hb, hml, hown, hts⟩ (c_X4_readNumber l X tx rB fB rO fO_3 v_5 fa (3 : Int32) (0 : Int32) (999 : Int32) r_45 pl_46 fa_47 hc_48) (cwV 3 hts gX4_readOrder_X4_readNumber rfl rfl rfl (by decide +kernel) ⟨Nat.le_of_ble_eq_true rfl, Nat.le_of_ble_eq_true rfl⟩) 4 rfl rfl rfl rfl hl.1 rfl (Nat.le_of_ble_eq_true rfl) dX4_readOrder_88 hK hP (hD0.addr rfl) hS hA [0, 1, 2, 3, 4] rfl rfl rfl rfl ⟨Nat.zero_le _, Nat.zero_le _⟩ (fun H locs hP hD hS => ?_)
          obtain ⟨fO_49, hc_50, hf⟩ := bd_of hf
          refine fn_V (v := none) (As := [.int x1, .int (1 : Int32), .int r_45]) (rest := []) (st1 := []) (ws' := (wTx X tx rB fB rO fO_49 pl_46 fa_47)) (nL := 3) ⟨hx, hb, hml, hown, hts⟩ (c_X3_put l X (tx 3) (tx 4) (100 : Int32) (6 : Int32) 600 rO fO_3 x1 (1 : Int32) r_45 fO_49 hc_50) (cwV 3 hts gX4_readOrder_X3_put rfl rfl rfl (by decide +kernel) ⟨Nat.le_of_ble_eq_true rfl, Nat.le_of_ble_eq_true rfl⟩) 3 rfl rfl rfl rfl hl.1 rfl (Nat.le_of_ble_eq_true rfl) dX4_readOrder_91 hK hP (hD0.addr rfl) hS hA [3, 4] rfl rfl rfl rfl ⟨Nat.zero_le _, Nat.zero_le _⟩ (fun H locs hP hD hS => ?_)
          refine lv_goto (tgt := 168) hx hb dX4_readOrder_94 (by decide) ?_
          refine lv_aload_n hx hb dX4_readOrder_168 rfl (lv_at hl 1 rfl) ?_
          refine lv_bipush (v := 59) hx hb dX4_readOrder_169 (by decide) ?_
          obtain ⟨pl_51, fa_52, hc_53, hf⟩ := bd2_of hf
          refine fn_V (v := none) (As := [.int (59 : Int32)]) (rest := []) (st1 := []) (ws' := (wTx X tx rB fB rO fO_49 pl_51 fa_52)) (nL := 3) ⟨hx, hb, hml, hown, hts⟩ (c_X4_readByte l X tx rB fB rO fO_49 pl_46 fa_47 (59 : Int32) pl_51 fa_52 hc_53) (cwV 1 hts gX4_readOrder_X4_readByte rfl rfl rfl (by decide +kernel) ⟨Nat.le_of_ble_eq_true rfl, Nat.le_of_ble_eq_true rfl⟩) 4 rfl rfl rfl rfl hl.1 rfl (Nat.le_of_ble_eq_true rfl) dX4_readOrder_171 hK hP (hD0.addr rfl) hS hA [0, 1, 2, 3, 4] rfl rfl rfl rfl ⟨Nat.zero_le _, Nat.zero_le _⟩ (fun H locs hP hD hS => ?_)
          cases hf
          exact fn_vret hx hb hr hlocks hP hS dX4_readOrder_174
        · replace hf := fp_f c_44 hf
          have hsw : Op.lookupswitch.offset [(99, 71), (103, 42), (116, 112), (118, 50)] 132 r_1.toInt = 132 := by
            rw [Op.lookupswitch.offset_cons, if_neg (show ¬ (99 : Int) = r_1.toInt from sw_ne (99 : Int32) c_6), Op.lookupswitch.offset_cons, if_neg (show ¬ (103 : Int) = r_1.toInt from sw_ne (103 : Int32) c_26), Op.lookupswitch.offset_cons, if_neg (show ¬ (116 : Int) = r_1.toInt from sw_ne (116 : Int32) c_34), Op.lookupswitch.offset_cons, if_neg (show ¬ (118 : Int) = r_1.toInt from sw_ne (118 : Int32) c_44), Op.lookupswitch.offset_nil]
          refine lv_lookup (off := 132) (tgt := 158) hx hb dX4_readOrder_26 (by decide) hsw (by decide) ?_
          refine lv_aload_n hx hb dX4_readOrder_158 rfl (lv_at hl 1 rfl) ?_
          refine lv_aload_n hx hb dX4_readOrder_159 rfl (lv_at hl 1 rfl) ?_
          refine va_get (D := X.1) (ci := 4) (v := .int v_5) (C := RX4) (T := TX4) (N := 4) hx hb hts hiX4 hown hK.1 hP 0 rfl rfl 2 (by decide) k45 (fun _ h9 => h9) rfl dX4_readOrder_160 ?_
          refine lv_iconst (v := 1) hx hb dX4_readOrder_163 (by decide) ?_
          refine lv_isub hx hb dX4_readOrder_164 ?_
          obtain ⟨fa_54, hc_55, hf⟩ := bd_of hf
          refine fn_V (v := none) (As := [.int (v_5 - (1 : Int32))]) (rest := []) (st1 := []) (ws' := (wTx X tx rB fB rO fO_3 v_5 fa_54)) (nL := 3) ⟨hx, hb, hml, hown, hts⟩ (c_X4_fail l X tx rB fB rO fO_3 v_5 fa (v_5 - (1 : Int32)) fa_54 hc_55) (cwV 1 hts gX4_readOrder_X4_fail rfl rfl rfl (by decide +kernel) ⟨Nat.le_of_ble_eq_true rfl, Nat.le_of_ble_eq_true rfl⟩) 4 rfl rfl rfl rfl hl.1 rfl (Nat.le_of_ble_eq_true rfl) dX4_readOrder_165 hK hP (hD0.addr rfl) hS hA [0, 1, 2, 3, 4] rfl rfl rfl rfl ⟨Nat.zero_le _, Nat.zero_le _⟩ (fun H locs hP hD hS => ?_)
          refine lv_aload_n hx hb dX4_readOrder_168 rfl (lv_at hl 1 rfl) ?_
          refine lv_bipush (v := 59) hx hb dX4_readOrder_169 (by decide) ?_
          obtain ⟨pl_56, fa_57, hc_58, hf⟩ := bd2_of hf
          refine fn_V (v := none) (As := [.int (59 : Int32)]) (rest := []) (st1 := []) (ws' := (wTx X tx rB fB rO fO_3 pl_56 fa_57)) (nL := 3) ⟨hx, hb, hml, hown, hts⟩ (c_X4_readByte l X tx rB fB rO fO_3 v_5 fa_54 (59 : Int32) pl_56 fa_57 hc_58) (cwV 1 hts gX4_readOrder_X4_readByte rfl rfl rfl (by decide +kernel) ⟨Nat.le_of_ble_eq_true rfl, Nat.le_of_ble_eq_true rfl⟩) 4 rfl rfl rfl rfl hl.1 rfl (Nat.le_of_ble_eq_true rfl) dX4_readOrder_171 hK hP (hD0.addr rfl) hS hA [0, 1, 2, 3, 4] rfl rfl rfl rfl ⟨Nat.zero_le _, Nat.zero_le _⟩ (fun H locs hP hD hS => ?_)
          cases hf
          exact fn_vret hx hb hr hlocks hP hS dX4_readOrder_174

def f_X4_read_L19 (rB : Int32) (fB : (Nat → Int32)) : Nat → Int32 → Int32 → (Nat → Int32) → Int32 → Int32 →  Option (Int32 × (Nat → Int32) × Int32 × Int32)
  | 0, _, _, _, _, _ => none
  | k_ + 1, x1, rO, fO, pl, fa =>
    if (100 : Int32) ≤ x1 then
    (some (rO, fO, pl, fa))
    else
    (bd (f_X4_length rB) (fun r_2 =>
    if r_2 ≤ pl then
    (some (rO, fO, pl, fa))
    else
    (if fa = (-1 : Int32) then
    (bd2 (f_X3_addRow (100 : Int32) rO) (fun r_6 rO_7 =>
    bd3 (f_X4_readOrder r_6 rB fB rO_7 fO pl fa) (fun fO_9 pl_10 fa_11 =>
    nm (x1 + (1 : Int32)) (fun v_13 =>
    f_X4_read_L19 rB fB k_ v_13 rO_7 fO_9 pl_10 fa_11))))
    else
    (some (rO, fO, pl, fa)))))
def f_X4_read (rB : Int32) (fB : (Nat → Int32)) (rO : Int32) (fO : (Nat → Int32)) (pl : Int32) (fa : Int32) : Option (Int32 × Int32 × (Nat → Int32) × Int32 × Int32) :=
  bd (f_X3_dropAll rO) (fun rO_14 =>
  bd4 (f_X4_read_L19 rB fB FU (0 : Int32) rO_14 fO (0 : Int32) (-1 : Int32)) (fun rO_16 fO_17 pl_18 fa_19 =>
  some (fa_19, rO_16, fO_17, pl_18, fa_19)))
set_option maxHeartbeats 4000000 in
set_option maxRecDepth 100000 in
theorem c_X4_read (l : Launch) (X : cx_G) (tx : (Nat → Nat)) (rB : Int32) (fB : (Nat → Int32)) (rO : Int32) (fO : (Nat → Int32)) (pl : Int32) (fa : Int32) (r : Int32) (rO' : Int32) (fO' : (Nat → Int32)) (pl' : Int32) (fa' : Int32) (hf : f_X4_read rB fB rO fO pl fa = some (r, rO', fO', pl', fa')) : Fn l yX4_read wsX4_read ({ frames := 5, cells := 0, slots := 0, locals := 113 } : Room) X [.ref (tx 0)] (wTx X tx rB fB rO fO pl fa) (some (.int r)) (wTx X tx rB fB rO' fO' pl' fa') := by
  refine fn_intro (cc := cX4_read) (maxL := 2) (ret := (some .int)) (by decide) rfl rfl (Nat.le_of_ble_eq_true rfl) ?_
  intro p e s m args below meth c A ls hx hb hml hr hts hown hlocks hK hP hD0 hS hA hl
  have hown : s.vm.findClass RX4 = some m.cls := hown
  have hl : lv_has ls 2 [(0, .ref (tx 0))] := hl
  have hiX4 : ∀ w ∈ u_ws RX4 TX4 4, w ∈ wsX4_read := by decide +kernel
  have k20 := hts (.fieldLink RX4 20 "LentRights$Text" "orders" "LLentRights$Table;") (by decide +kernel)
  have k23 := hts (.fieldLink RX4 23 "LentRights$Text" "fault" "I") (by decide +kernel)
  have k45 := hts (.fieldLink RX4 45 "LentRights$Text" "place" "I") (by decide +kernel)
  have loop_19 : ∀ (Q : State → Prop) (rOo : Int32) (fOo : (Nat → Int32)) (plo : Int32) (fao : Int32), (∀ (H : Heap) (locs : List Loc) (ls : Array Slot), va_P X.1 vwCl (wTx X tx rB fB rOo fOo plo fao) H → va_S A s.heap H locs → lv_has ls 2 [(0, .ref (tx 0))] → W p l e ({ frames := 5, cells := 0, slots := 0, locals := 113 } : Room) s m args below meth c H locs 0 0 Q (F0 m 61 ls [])) → ∀ (k_ : Nat) (x1 : Int32) (rO : Int32) (fO : (Nat → Int32)) (pl : Int32) (fa : Int32) (H : Heap) (locs : List Loc) (ls : Array Slot), f_X4_read_L19 rB fB k_ x1 rO fO pl fa = some (rOo, fOo, plo, fao) → va_P X.1 vwCl (wTx X tx rB fB rO fO pl fa) H → va_S A s.heap H locs → lv_has ls 2 [(0, .ref (tx 0)), (1, .int x1)] → W p l e ({ frames := 5, cells := 0, slots := 0, locals := 113 } : Room) s m args below meth c H locs 0 0 Q (F0 m 19 ls []) := by
    intro Q rOo fOo plo fao kx k_
    induction k_ with
    | zero => intro x1 rO fO pl fa H locs ls hf; exact nomatch (show (none : Option (Int32 × (Nat → Int32) × Int32 × Int32)) = some _ from hf)
    | succ k_ ih =>
      intro x1 rO fO pl fa H locs ls hf hP hS hl
      unfold f_X4_read_L19 at hf
      refine lv_iload_n hx hb dX4_read_19 rfl (lv_at hl 1 rfl) ?_
      refine lv_bipush (v := 100) hx hb dX4_read_20 (by decide) ?_
      refine lv_icmp_ge (tgt := 61) hx hb dX4_read_22 (by decide) (fun c_1 => ?_) (fun c_1 => ?_)
      · replace hf := fp_t c_1 hf
        cases hf
        exact kx _ _ _ hP hS (lv_sub hl [0] rfl)
      · replace hf := fp_f c_1 hf
        refine lv_aload_n hx hb dX4_read_25 rfl (lv_at hl 0 rfl) ?_
        refine va_get (D := X.1) (ci := 4) (v := .int pl) (C := RX4) (T := TX4) (N := 4) hx hb hts hiX4 hown hK.1 hP 0 rfl rfl 2 (by decide) k45 (fun _ h9 => h9) rfl dX4_read_26 ?_
        refine lv_aload_n hx hb dX4_read_29 rfl (lv_at hl 0 rfl) ?_
        obtain ⟨r_2, hc_3, hf⟩ := bd_of hf
        refine fn_V (v := some (.int r_2)) (As := []) (rest := [.int pl]) (st1 := [.int r_2, .int pl]) (ws' := (wTx X tx rB fB rO fO pl fa)) (nL := 2) ⟨hx, hb, hml, hown, hts⟩ (c_X4_length l X tx rB fB rO fO pl fa r_2 hc_3) (cwV 0 hts gX4_read_X4_length rfl rfl rfl (by decide +kernel) ⟨Nat.le_of_ble_eq_true rfl, Nat.le_of_ble_eq_true rfl⟩) 4 rfl rfl rfl rfl hl.1 rfl (Nat.le_of_ble_eq_true rfl) dX4_read_30 hK hP (hD0.addr rfl) hS hA [0, 1, 2, 3, 4] rfl rfl rfl rfl ⟨Nat.zero_le _, Nat.zero_le _⟩ (fun H locs hP hD hS => ?_)
        refine lv_icmp_ge (tgt := 61) hx hb dX4_read_33 (by decide) (fun c_4 => ?_) (fun c_4 => ?_)
        · replace hf := fp_t c_4 hf
          cases hf
          exact kx _ _ _ hP hS (lv_sub hl [0] rfl)
        · replace hf := fp_f c_4 hf
          refine lv_aload_n hx hb dX4_read_36 rfl (lv_at hl 0 rfl) ?_
          refine va_get (D := X.1) (ci := 4) (v := .int fa) (C := RX4) (T := TX4) (N := 4) hx hb hts hiX4 hown hK.1 hP 0 rfl rfl 3 (by decide) k23 (fun _ h9 => h9) rfl dX4_read_37 ?_
          refine lv_iconst (v := -1) hx hb dX4_read_40 (by decide) ?_
          refine lv_icmp_ne (tgt := 61) hx hb dX4_read_41 (by decide) (fun c_5 => ?_) (fun c_5 => ?_)
          · replace hf := fp_f c_5 hf
            cases hf
            exact kx _ _ _ hP hS (lv_sub hl [0] rfl)
          · replace hf := fp_t c_5 hf
            refine lv_aload_n hx hb dX4_read_44 rfl (lv_at hl 0 rfl) ?_
            refine lv_aload_n hx hb dX4_read_45 rfl (lv_at hl 0 rfl) ?_
            refine va_get (D := X.1) (ci := 4) (v := .ref (tx 3)) (C := RX4) (T := TX4) (N := 4) hx hb hts hiX4 hown hK.1 hP 0 rfl rfl 1 (by decide) k20 (fun _ h9 => h9) rfl dX4_read_46 ?_
            obtain ⟨r_6, rO_7, hc_8, hf⟩ := bd2_of hf
            refine fn_V (v := some (.int r_6)) (As := []) (rest := [.ref (tx 0)]) (st1 := [.int r_6, .ref (tx 0)]) (ws' := (wTx X tx rB fB rO_7 fO pl fa)) (nL := 2) ⟨hx, hb, hml, hown, hts⟩ (c_X3_addRow l X (tx 3) (tx 4) (100 : Int32) (6 : Int32) 600 rO fO r_6 rO_7 hc_8) (cwV 0 hts gX4_read_X3_addRow rfl rfl rfl (by decide +kernel) ⟨Nat.le_of_ble_eq_true rfl, Nat.le_of_ble_eq_true rfl⟩) 3 rfl rfl rfl rfl hl.1 rfl (Nat.le_of_ble_eq_true rfl) dX4_read_49 hK hP (hD0.addr rfl) hS hA [3, 4] rfl rfl rfl rfl ⟨Nat.zero_le _, Nat.zero_le _⟩ (fun H locs hP hD hS => ?_)
            obtain ⟨fO_9, pl_10, fa_11, hc_12, hf⟩ := bd3_of hf
            refine fn_V (v := none) (As := [.int r_6]) (rest := []) (st1 := []) (ws' := (wTx X tx rB fB rO_7 fO_9 pl_10 fa_11)) (nL := 2) ⟨hx, hb, hml, hown, hts⟩ (c_X4_readOrder l X tx rB fB rO_7 fO pl fa r_6 fO_9 pl_10 fa_11 hc_12) (cwV 1 hts gX4_read_X4_readOrder rfl rfl rfl (by decide +kernel) ⟨Nat.le_of_ble_eq_true rfl, Nat.le_of_ble_eq_true rfl⟩) 4 rfl rfl rfl rfl hl.1 rfl (Nat.le_of_ble_eq_true rfl) dX4_read_52 hK hP (hD0.addr rfl) hS hA [0, 1, 2, 3, 4] rfl rfl rfl rfl ⟨Nat.zero_le _, Nat.zero_le _⟩ (fun H locs hP hD hS => ?_)
            obtain ⟨v_13, ev_13⟩ : ∃ y : Int32, y = x1 + (1 : Int32) := ⟨_, rfl⟩
            replace hf := nm_of ev_13 hf
            refine lv_iinc (v := v_13) (lv' := [(1, .int v_13), (0, .ref (tx 0))]) hx hb dX4_read_55 hl (k := 1) rfl (by rw [ev_13]; rfl) (by decide) rfl (fun ls hl => ?_)
            refine lv_goto (tgt := 19) hx hb dX4_read_58 (by decide) ?_
            exact ih v_13 rO_7 fO_9 pl_10 fa_11 _ _ _ hf hP hS (lv_sub hl [1, 0] rfl)
  unfold f_X4_read at hf
  refine lv_aload_n hx hb dX4_read_0 rfl (lv_at hl 0 rfl) ?_
  refine lv_iconst (v := 0) hx hb dX4_read_1 (by decide) ?_
  refine va_put (D := X.1) (ci := 4) (v := .int (0 : Int32)) (ty := .int) (C := RX4) (T := TX4) (N := 4) hx hb hts hiX4 tyX4 tyX4_ok nmX4 hown hK.1 hP (hD0.addr rfl) hS 0 rfl rfl 2 (by decide) k45 (fun _ h9 => h9) rfl (by decide +kernel) rfl rfl (Nat.le_of_ble_eq_true rfl) dX4_read_2 (fun H locs hP hD hS => ?_)
  have hP : va_P X.1 vwCl (wTx X tx rB fB rO fO (0 : Int32) fa) H := hP
  refine lv_aload_n hx hb dX4_read_5 rfl (lv_at hl 0 rfl) ?_
  refine lv_iconst (v := -1) hx hb dX4_read_6 (by decide) ?_
  refine va_put (D := X.1) (ci := 4) (v := .int (-1 : Int32)) (ty := .int) (C := RX4) (T := TX4) (N := 4) hx hb hts hiX4 tyX4 tyX4_ok nmX4 hown hK.1 hP (hD0.addr rfl) hS 0 rfl rfl 3 (by decide) k23 (fun _ h9 => h9) rfl (by decide +kernel) rfl rfl (Nat.le_of_ble_eq_true rfl) dX4_read_7 (fun H locs hP hD hS => ?_)
  have hP : va_P X.1 vwCl (wTx X tx rB fB rO fO (0 : Int32) (-1 : Int32)) H := hP
  refine lv_aload_n hx hb dX4_read_10 rfl (lv_at hl 0 rfl) ?_
  refine va_get (D := X.1) (ci := 4) (v := .ref (tx 3)) (C := RX4) (T := TX4) (N := 4) hx hb hts hiX4 hown hK.1 hP 0 rfl rfl 1 (by decide) k20 (fun _ h9 => h9) rfl dX4_read_11 ?_
  obtain ⟨rO_14, hc_15, hf⟩ := bd_of hf
  refine fn_V (v := none) (As := []) (rest := []) (st1 := []) (ws' := (wTx X tx rB fB rO_14 fO (0 : Int32) (-1 : Int32))) (nL := 2) ⟨hx, hb, hml, hown, hts⟩ (c_X3_dropAll l X (tx 3) (tx 4) (100 : Int32) (6 : Int32) 600 rO fO rO_14 hc_15) (cwV 0 hts gX4_read_X3_dropAll rfl rfl rfl (by decide +kernel) ⟨Nat.le_of_ble_eq_true rfl, Nat.le_of_ble_eq_true rfl⟩) 3 rfl rfl rfl rfl hl.1 rfl (Nat.le_of_ble_eq_true rfl) dX4_read_14 hK hP (hD0.addr rfl) hS hA [3, 4] rfl rfl rfl rfl ⟨Nat.zero_le _, Nat.zero_le _⟩ (fun H locs hP hD hS => ?_)
  refine lv_iconst (v := 0) hx hb dX4_read_17 (by decide) ?_
  refine lv_istore_n (lv' := [(1, .int (0 : Int32)), (0, .ref (tx 0))]) hx hb dX4_read_18 rfl hl (by decide) rfl (fun ls hl => ?_)
  obtain ⟨rO_16, fO_17, pl_18, fa_19, hL_20, hf⟩ := bd4_of hf
  refine loop_19 _ rO_16 fO_17 pl_18 fa_19 (fun H locs ls hP hS hl => ?_) FU (0 : Int32) rO_14 fO (0 : Int32) (-1 : Int32) _ _ _ hL_20 hP hS (lv_sub hl [1, 0] rfl)
  refine lv_aload_n hx hb dX4_read_61 rfl (lv_at hl 0 rfl) ?_
  refine va_get (D := X.1) (ci := 4) (v := .int fa_19) (C := RX4) (T := TX4) (N := 4) hx hb hts hiX4 hown hK.1 hP 0 rfl rfl 3 (by decide) k23 (fun _ h9 => h9) rfl dX4_read_62 ?_
  cases hf
  exact fn_iret hx hb hr hlocks hP hS dX4_read_65
