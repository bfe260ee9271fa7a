def f_X2_rightsOf (x1 : Int32) (x2 : Int32) (rH : Int32) (fH : (Nat → Int32)) : Option (Int32) :=
  bd (f_X3_at (10 : Int32) 80 x2 x1 rH fH) (fun r_1 =>
  some r_1)
set_option maxHeartbeats 4000000 in
set_option maxRecDepth 100000 in
theorem c_X2_rightsOf (l : Launch) (X : cx_G) (h : (Nat → Nat)) (rP : Int32) (fP : (Nat → Int32)) (rT : Int32) (fT : (Nat → Int32)) (rG : Int32) (fG : (Nat → Int32)) (rL : Int32) (fL : (Nat → Int32)) (rH : Int32) (fH : (Nat → Int32)) (gi : Int32) (di : Int32) (re : Int32) (ti : Int32) (x1 : Int32) (x2 : Int32) (r : Int32) (hf : f_X2_rightsOf x1 x2 rH fH = some r) : Fn l yX2_rightsOf wsX2_rightsOf ({ frames := 1, cells := 0, slots := 0, locals := 24 } : Room) X [.ref (h 0), .int x1, .int x2] (wHo X h rP fP rT fT rG fG rL fL rH fH gi di re ti) (some (.int r)) (wHo X h rP fP rT fT rG fG rL fL rH fH gi di re ti) := by
  refine fn_intro (cc := cX2_rightsOf) (maxL := 3) (ret := (some .int)) (by decide) rfl rfl (Nat.le_of_ble_eq_true rfl) ?_
  intro p e s m args below meth c A ls hx hb hml hr hts hown hlocks hK hP hD0 hS hA hl
  have hown : s.vm.findClass RX2 = some m.cls := hown
  have hl : lv_has ls 3 [(0, .ref (h 0)), (1, .int x1), (2, .int x2)] := hl
  have hiX2 : ∀ w ∈ u_ws RX2 TX2 9, w ∈ wsX2_rightsOf := by decide +kernel
  have k29 := hts (.fieldLink RX2 29 "LentRights$House" "held" "LLentRights$Table;") (by decide +kernel)
  unfold f_X2_rightsOf at hf
  refine lv_aload_n hx hb dX2_rightsOf_0 rfl (lv_at hl 0 rfl) ?_
  refine va_get (D := X.1) (ci := 2) (v := .ref (h 9)) (C := RX2) (T := TX2) (N := 9) hx hb hts hiX2 hown hK.1 hP 0 rfl rfl 4 (by decide) k29 (fun _ h9 => h9) rfl dX2_rightsOf_1 ?_
  refine lv_iload_n hx hb dX2_rightsOf_4 rfl (lv_at hl 2 rfl) ?_
  refine lv_iload_n hx hb dX2_rightsOf_5 rfl (lv_at hl 1 rfl) ?_
  obtain ⟨r_1, hc_2, hf⟩ := bd_of hf
  refine fn_V (v := some (.int r_1)) (As := [.int x2, .int x1]) (rest := []) (st1 := [.int r_1]) (ws' := (wHo X h rP fP rT fT rG fG rL fL rH fH gi di re ti)) (nL := 3) ⟨hx, hb, hml, hown, hts⟩ (c_X3_at l X (h 9) (h 10) (8 : Int32) (10 : Int32) 80 rH fH x2 x1 r_1 hc_2) (cwV 2 hts gX2_rightsOf_X3_at rfl rfl rfl (by decide +kernel) ⟨Nat.le_of_ble_eq_true rfl, Nat.le_of_ble_eq_true rfl⟩) 3 rfl rfl rfl rfl hl.1 rfl (Nat.le_of_ble_eq_true rfl) dX2_rightsOf_6 hK hP (hD0.addr rfl) hS hA [9, 10] rfl rfl rfl rfl ⟨Nat.zero_le _, Nat.zero_le _⟩ (fun H locs hP hD hS => ?_)
  cases hf
  exact fn_iret hx hb hr hlocks hP hS dX2_rightsOf_9

def f_X2_placeOf_L2 (x1 : Int32) (rG : Int32) (fG : (Nat → Int32)) : Nat → Int32 →  Option (Int32)
  | 0, _ => none
  | k_ + 1, x2 =>
    bd (f_X3_rows rG) (fun r_1 =>
    if r_1 ≤ x2 then
    (some (-1 : Int32))
    else
    (bd (f_X3_at (6 : Int32) 240 x2 (5 : Int32) rG fG) (fun r_4 =>
    if r_4 = x1 then
    (some x2)
    else
    (nm (x2 + (1 : Int32)) (fun v_7 =>
    f_X2_placeOf_L2 x1 rG fG k_ v_7)))))
def f_X2_placeOf (x1 : Int32) (rG : Int32) (fG : (Nat → Int32)) : Option (Int32) :=
  f_X2_placeOf_L2 x1 rG fG FU (0 : Int32)
set_option maxHeartbeats 4000000 in
set_option maxRecDepth 100000 in
theorem c_X2_placeOf (l : Launch) (X : cx_G) (h : (Nat → Nat)) (rP : Int32) (fP : (Nat → Int32)) (rT : Int32) (fT : (Nat → Int32)) (rG : Int32) (fG : (Nat → Int32)) (rL : Int32) (fL : (Nat → Int32)) (rH : Int32) (fH : (Nat → Int32)) (gi : Int32) (di : Int32) (re : Int32) (ti : Int32) (x1 : Int32) (r : Int32) (hf : f_X2_placeOf x1 rG fG = some r) : Fn l yX2_placeOf wsX2_placeOf ({ frames := 1, cells := 0, slots := 0, locals := 24 } : Room) X [.ref (h 0), .int x1] (wHo X h rP fP rT fT rG fG rL fL rH fH gi di re ti) (some (.int r)) (wHo X h rP fP rT fT rG fG rL fL rH fH gi di re ti) := by
  refine fn_intro (cc := cX2_placeOf) (maxL := 3) (ret := (some .int)) (by decide) rfl rfl (Nat.le_of_ble_eq_true rfl) ?_
  intro p e s m args below meth c A ls hx hb hml hr hts hown hlocks hK hP hD0 hS hA hl
  have hown : s.vm.findClass RX2 = some m.cls := hown
  have hl : lv_has ls 3 [(0, .ref (h 0)), (1, .int x1)] := hl
  have hiX2 : ∀ w ∈ u_ws RX2 TX2 9, w ∈ wsX2_placeOf := by decide +kernel
  have k23 := hts (.fieldLink RX2 23 "LentRights$House" "grants" "LLentRights$Table;") (by decide +kernel)
  have loop_2 : ∀  (k_ : Nat) (x2 : Int32) (H : Heap) (locs : List Loc) (ls : Array Slot), f_X2_placeOf_L2 x1 rG fG k_ x2 = some r → va_P X.1 vwCl (wHo X h rP fP rT fT rG fG rL fL rH fH gi di re ti) H → va_S A s.heap H locs → lv_has ls 3 [(0, .ref (h 0)), (1, .int x1), (2, .int x2)] → W p l e ({ frames := 1, cells := 0, slots := 0, locals := 24 } : Room) s m args below meth c H locs 0 0 (fn_Z below X (some (.int r)) (wHo X h rP fP rT fT rG fG rL fL rH fH gi di re ti) A args s) (F0 m 2 ls []) := by
    intro  k_
    induction k_ with
    | zero => intro x2 H locs ls hf; exact nomatch (show (none : Option (Int32)) = some _ from hf)
    | succ k_ ih =>
      intro x2 H locs ls hf hP hS hl
      unfold f_X2_placeOf_L2 at hf
      refine lv_iload_n hx hb dX2_placeOf_2 rfl (lv_at hl 2 rfl) ?_
      refine lv_aload_n hx hb dX2_placeOf_3 rfl (lv_at hl 0 rfl) ?_
      refine va_get (D := X.1) (ci := 2) (v := .ref (h 5)) (C := RX2) (T := TX2) (N := 9) hx hb hts hiX2 hown hK.1 hP 0 rfl rfl 2 (by decide) k23 (fun _ h9 => h9) rfl dX2_placeOf_4 ?_
      obtain ⟨r_1, hc_2, hf⟩ := bd_of hf
      refine fn_V (v := some (.int r_1)) (As := []) (rest := [.int x2]) (st1 := [.int r_1, .int x2]) (ws' := (wHo X h rP fP rT fT rG fG rL fL rH fH gi di re ti)) (nL := 3) ⟨hx, hb, hml, hown, hts⟩ (c_X3_rows l X (h 5) (h 6) (40 : Int32) (6 : Int32) 240 rG fG r_1 hc_2) (cwV 0 hts gX2_placeOf_X3_rows rfl rfl rfl (by decide +kernel) ⟨Nat.le_of_ble_eq_true rfl, Nat.le_of_ble_eq_true rfl⟩) 3 rfl rfl rfl rfl hl.1 rfl (Nat.le_of_ble_eq_true rfl) dX2_placeOf_7 hK hP (hD0.addr rfl) hS hA [5, 6] rfl rfl rfl rfl ⟨Nat.zero_le _, Nat.zero_le _⟩ (fun H locs hP hD hS => ?_)
      refine lv_icmp_ge (tgt := 34) hx hb dX2_placeOf_10 (by decide) (fun c_3 => ?_) (fun c_3 => ?_)
      · replace hf := fp_t c_3 hf
        refine lv_iconst (v := -1) hx hb dX2_placeOf_34 (by decide) ?_
        cases hf
        exact fn_iret hx hb hr hlocks hP hS dX2_placeOf_35
      · replace hf := fp_f c_3 hf
        refine lv_aload_n hx hb dX2_placeOf_13 rfl (lv_at hl 0 rfl) ?_
        refine va_get (D := X.1) (ci := 2) (v := .ref (h 5)) (C := RX2) (T := TX2) (N := 9) hx hb hts hiX2 hown hK.1 hP 0 rfl rfl 2 (by decide) k23 (fun _ h9 => h9) rfl dX2_placeOf_14 ?_
        refine lv_iload_n hx hb dX2_placeOf_17 rfl (lv_at hl 2 rfl) ?_
        refine lv_iconst (v := 5) hx hb dX2_placeOf_18 (by decide) ?_
        obtain ⟨r_4, hc_5, hf⟩ := bd_of hf
        refine fn_V (v := some (.int r_4)) (As := [.int x2, .int (5 : Int32)]) (rest := []) (st1 := [.int r_4]) (ws' := (wHo X h rP fP rT fT rG fG rL fL rH fH gi di re ti)) (nL := 3) ⟨hx, hb, hml, hown, hts⟩ (c_X3_at l X (h 5) (h 6) (40 : Int32) (6 : Int32) 240 rG fG x2 (5 : Int32) r_4 hc_5) (cwV 2 hts gX2_placeOf_X3_at rfl rfl rfl (by decide +kernel) ⟨Nat.le_of_ble_eq_true rfl, Nat.le_of_ble_eq_true rfl⟩) 3 rfl rfl rfl rfl hl.1 rfl (Nat.le_of_ble_eq_true rfl) dX2_placeOf_19 hK hP (hD0.addr rfl) hS hA [5, 6] rfl rfl rfl rfl ⟨Nat.zero_le _, Nat.zero_le _⟩ (fun H locs hP hD hS => ?_)
        refine lv_iload_n hx hb dX2_placeOf_22 rfl (lv_at hl 1 rfl) ?_
        refine lv_icmp_ne (tgt := 28) hx hb dX2_placeOf_23 (by decide) (fun c_6 => ?_) (fun c_6 => ?_)
        · replace hf := fp_f c_6 hf
          obtain ⟨v_7, ev_7⟩ : ∃ y : Int32, y = x2 + (1 : Int32) := ⟨_, rfl⟩
          replace hf := nm_of ev_7 hf
          refine lv_iinc (v := v_7) (lv' := [(2, .int v_7), (0, .ref (h 0)), (1, .int x1)]) hx hb dX2_placeOf_28 hl (k := 2) rfl (by rw [ev_7]; rfl) (by decide) rfl (fun ls hl => ?_)
          refine lv_goto (tgt := 2) hx hb dX2_placeOf_31 (by decide) ?_
          exact ih v_7 _ _ _ hf hP hS (lv_sub hl [1, 2, 0] rfl)
        · replace hf := fp_t c_6 hf
          refine lv_iload_n hx hb dX2_placeOf_26 rfl (lv_at hl 2 rfl) ?_
          cases hf
          exact fn_iret hx hb hr hlocks hP hS dX2_placeOf_27
  unfold f_X2_placeOf at hf
  refine lv_iconst (v := 0) hx hb dX2_placeOf_0 (by decide) ?_
  refine lv_istore_n (lv' := [(2, .int (0 : Int32)), (0, .ref (h 0)), (1, .int x1)]) hx hb dX2_placeOf_1 rfl hl (by decide) rfl (fun ls hl => ?_)
  exact loop_2 FU (0 : Int32) _ _ _ hf hP hS (lv_sub hl [1, 2, 0] rfl)

def f_X2_passedOn (x1 : Int32) (rT : Int32) (fT : (Nat → Int32)) (rG : Int32) (fG : (Nat → Int32)) (rH : Int32) (fH : (Nat → Int32)) : Option (Int32) :=
  bd (f_X3_at (6 : Int32) 240 x1 (2 : Int32) rG fG) (fun r_1 =>
  bd (f_X3_at (6 : Int32) 240 x1 (0 : Int32) rG fG) (fun r_3 =>
  bd (f_X3_at (10 : Int32) 80 r_1 r_3 rH fH) (fun r_5 =>
  if r_5 &&& (4 : Int32) = (0 : Int32) then
  (some (0 : Int32))
  else
  (bd (f_X3_at (6 : Int32) 240 x1 (3 : Int32) rG fG) (fun r_8 =>
  bd (f_X3_at (2 : Int32) 16 r_1 (1 : Int32) rT fT) (fun r_10 =>
  nm ((r_8 &&& r_5) &&& r_10) (fun v_12 =>
  some v_12)))))))
set_option maxHeartbeats 4000000 in
set_option maxRecDepth 100000 in
theorem c_X2_passedOn (l : Launch) (X : cx_G) (h : (Nat → Nat)) (rP : Int32) (fP : (Nat → Int32)) (rT : Int32) (fT : (Nat → Int32)) (rG : Int32) (fG : (Nat → Int32)) (rL : Int32) (fL : (Nat → Int32)) (rH : Int32) (fH : (Nat → Int32)) (gi : Int32) (di : Int32) (re : Int32) (ti : Int32) (x1 : Int32) (r : Int32) (hf : f_X2_passedOn x1 rT fT rG fG rH fH = some r) : Fn l yX2_passedOn wsX2_passedOn ({ frames := 1, cells := 0, slots := 0, locals := 24 } : Room) X [.ref (h 0), .int x1] (wHo X h rP fP rT fT rG fG rL fL rH fH gi di re ti) (some (.int r)) (wHo X h rP fP rT fT rG fG rL fL rH fH gi di re ti) := by
  refine fn_intro (cc := cX2_passedOn) (maxL := 4) (ret := (some .int)) (by decide) rfl rfl (Nat.le_of_ble_eq_true rfl) ?_
  intro p e s m args below meth c A ls hx hb hml hr hts hown hlocks hK hP hD0 hS hA hl
  have hown : s.vm.findClass RX2 = some m.cls := hown
  have hl : lv_has ls 4 [(0, .ref (h 0)), (1, .int x1)] := hl
  have hiX2 : ∀ w ∈ u_ws RX2 TX2 9, w ∈ wsX2_passedOn := by decide +kernel
  have k20 := hts (.fieldLink RX2 20 "LentRights$House" "things" "LLentRights$Table;") (by decide +kernel)
  have k23 := hts (.fieldLink RX2 23 "LentRights$House" "grants" "LLentRights$Table;") (by decide +kernel)
  have k29 := hts (.fieldLink RX2 29 "LentRights$House" "held" "LLentRights$Table;") (by decide +kernel)
  unfold f_X2_passedOn at hf
  refine lv_aload_n hx hb dX2_passedOn_0 rfl (lv_at hl 0 rfl) ?_
  refine va_get (D := X.1) (ci := 2) (v := .ref (h 5)) (C := RX2) (T := TX2) (N := 9) hx hb hts hiX2 hown hK.1 hP 0 rfl rfl 2 (by decide) k23 (fun _ h9 => h9) rfl dX2_passedOn_1 ?_
  refine lv_iload_n hx hb dX2_passedOn_4 rfl (lv_at hl 1 rfl) ?_
  refine lv_iconst (v := 2) hx hb dX2_passedOn_5 (by decide) ?_
  obtain ⟨r_1, hc_2, hf⟩ := bd_of hf
  refine fn_V (v := some (.int r_1)) (As := [.int x1, .int (2 : Int32)]) (rest := []) (st1 := [.int r_1]) (ws' := (wHo X h rP fP rT fT rG fG rL fL rH fH gi di re ti)) (nL := 4) ⟨hx, hb, hml, hown, hts⟩ (c_X3_at l X (h 5) (h 6) (40 : Int32) (6 : Int32) 240 rG fG x1 (2 : Int32) r_1 hc_2) (cwV 2 hts gX2_passedOn_X3_at rfl rfl rfl (by decide +kernel) ⟨Nat.le_of_ble_eq_true rfl, Nat.le_of_ble_eq_true rfl⟩) 3 rfl rfl rfl rfl hl.1 rfl (Nat.le_of_ble_eq_true rfl) dX2_passedOn_6 hK hP (hD0.addr rfl) hS hA [5, 6] rfl rfl rfl rfl ⟨Nat.zero_le _, Nat.zero_le _⟩ (fun H locs hP hD hS => ?_)
  refine lv_istore_n (lv' := [(2, .int r_1), (0, .ref (h 0)), (1, .int x1)]) hx hb dX2_passedOn_9 rfl hl (by decide) rfl (fun ls hl => ?_)
  refine lv_aload_n hx hb dX2_passedOn_10 rfl (lv_at hl 1 rfl) ?_
  refine va_get (D := X.1) (ci := 2) (v := .ref (h 9)) (C := RX2) (T := TX2) (N := 9) hx hb hts hiX2 hown hK.1 hP 0 rfl rfl 4 (by decide) k29 (fun _ h9 => h9) rfl dX2_passedOn_11 ?_
  refine lv_iload_n hx hb dX2_passedOn_14 rfl (lv_at hl 0 rfl) ?_
  refine lv_aload_n hx hb dX2_passedOn_15 rfl (lv_at hl 1 rfl) ?_
  refine va_get (D := X.1) (ci := 2) (v := .ref (h 5)) (C := RX2) (T := TX2) (N := 9) hx hb hts hiX2 hown hK.1 hP 0 rfl rfl 2 (by decide) k23 (fun _ h9 => h9) rfl dX2_passedOn_16 ?_
  refine lv_iload_n hx hb dX2_passedOn_19 rfl (lv_at hl 2 rfl) ?_
  refine lv_iconst (v := 0) hx hb dX2_passedOn_20 (by decide) ?_
  obtain ⟨r_3, hc_4, hf⟩ := bd_of hf
  refine fn_V (v := some (.int r_3)) (As := [.int x1, .int (0 : Int32)]) (rest := [.int r_1, .ref (h 9)]) (st1 := [.int r_3, .int r_1, .ref (h 9)]) (ws' := (wHo X h rP fP rT fT rG fG rL fL rH fH gi di re ti)) (nL := 4) ⟨hx, hb, hml, hown, hts⟩ (c_X3_at l X (h 5) (h 6) (40 : Int32) (6 : Int32) 240 rG fG x1 (0 : Int32) r_3 hc_4) (cwV 2 hts gX2_passedOn_X3_at rfl rfl rfl (by decide +kernel) ⟨Nat.le_of_ble_eq_true rfl, Nat.le_of_ble_eq_true rfl⟩) 3 rfl rfl rfl rfl hl.1 rfl (Nat.le_of_ble_eq_true rfl) dX2_passedOn_21 hK hP (hD0.addr rfl) hS hA [5, 6] rfl rfl rfl rfl ⟨Nat.zero_le _, Nat.zero_le _⟩ (fun H locs hP hD hS => ?_)
  obtain ⟨r_5, hc_6, hf⟩ := bd_of hf
  refine fn_V (v := some (.int r_5)) (As := [.int r_1, .int r_3]) (rest := []) (st1 := [.int r_5]) (ws' := (wHo X h rP fP rT fT rG fG rL fL rH fH gi di re ti)) (nL := 4) ⟨hx, hb, hml, hown, hts⟩ (c_X3_at l X (h 9) (h 10) (8 : Int32) (10 : Int32) 80 rH fH r_1 r_3 r_5 hc_6) (cwV 2 hts gX2_passedOn_X3_at rfl rfl rfl (by decide +kernel) ⟨Nat.le_of_ble_eq_true rfl, Nat.le_of_ble_eq_true rfl⟩) 3 rfl rfl rfl rfl hl.1 rfl (Nat.le_of_ble_eq_true rfl) dX2_passedOn_24 hK hP (hD0.addr rfl) hS hA [9, 10] rfl rfl rfl rfl ⟨Nat.zero_le _, Nat.zero_le _⟩ (fun H locs hP hD hS => ?_)
  refine lv_istore_n (lv' := [(3, .int r_5), (2, .int r_1), (0, .ref (h 0)), (1, .int x1)]) hx hb dX2_passedOn_27 rfl hl (by decide) rfl (fun ls hl => ?_)
  refine lv_iload_n hx hb dX2_passedOn_28 rfl (lv_at hl 0 rfl) ?_
  refine lv_iconst (v := 4) hx hb dX2_passedOn_29 (by decide) ?_
  refine lv_iand hx hb dX2_passedOn_30 ?_
  refine lv_if_ne (tgt := 36) hx hb dX2_passedOn_31 (by decide) (fun c_7 => ?_) (fun c_7 => ?_)
  · replace hf := fp_f c_7 hf
    refine lv_aload_n hx hb dX2_passedOn_36 rfl (lv_at hl 2 rfl) ?_
    refine va_get (D := X.1) (ci := 2) (v := .ref (h 5)) (C := RX2) (T := TX2) (N := 9) hx hb hts hiX2 hown hK.1 hP 0 rfl rfl 2 (by decide) k23 (fun _ h9 => h9) rfl dX2_passedOn_37 ?_
    refine lv_iload_n hx hb dX2_passedOn_40 rfl (lv_at hl 3 rfl) ?_
    refine lv_iconst (v := 3) hx hb dX2_passedOn_41 (by decide) ?_
    obtain ⟨r_8, hc_9, hf⟩ := bd_of hf
    refine fn_V (v := some (.int r_8)) (As := [.int x1, .int (3 : Int32)]) (rest := []) (st1 := [.int r_8]) (ws' := (wHo X h rP fP rT fT rG fG rL fL rH fH gi di re ti)) (nL := 4) ⟨hx, hb, hml, hown, hts⟩ (c_X3_at l X (h 5) (h 6) (40 : Int32) (6 : Int32) 240 rG fG x1 (3 : Int32) r_8 hc_9) (cwV 2 hts gX2_passedOn_X3_at rfl rfl rfl (by decide +kernel) ⟨Nat.le_of_ble_eq_true rfl, Nat.le_of_ble_eq_true rfl⟩) 3 rfl rfl rfl rfl hl.1 rfl (Nat.le_of_ble_eq_true rfl) dX2_passedOn_42 hK hP (hD0.addr rfl) hS hA [5, 6] rfl rfl rfl rfl ⟨Nat.zero_le _, Nat.zero_le _⟩ (fun H locs hP hD hS => ?_)
    refine lv_iload_n hx hb dX2_passedOn_45 rfl (lv_at hl 0 rfl) ?_
    refine lv_iand hx hb dX2_passedOn_46 ?_
    refine lv_aload_n hx hb dX2_passedOn_47 rfl (lv_at hl 2 rfl) ?_
    refine va_get (D := X.1) (ci := 2) (v := .ref (h 3)) (C := RX2) (T := TX2) (N := 9) hx hb hts hiX2 hown hK.1 hP 0 rfl rfl 1 (by decide) k20 (fun _ h9 => h9) rfl dX2_passedOn_48 ?_
    refine lv_iload_n hx hb dX2_passedOn_51 rfl (lv_at hl 1 rfl) ?_
    refine lv_iconst (v := 1) hx hb dX2_passedOn_52 (by decide) ?_
    obtain ⟨r_10, hc_11, hf⟩ := bd_of hf
    refine fn_V (v := some (.int r_10)) (As := [.int r_1, .int (1 : Int32)]) (rest := [.int (r_8 &&& r_5)]) (st1 := [.int r_10, .int (r_8 &&& r_5)]) (ws' := (wHo X h rP fP rT fT rG fG rL fL rH fH gi di re ti)) (nL := 4) ⟨hx, hb, hml, hown, hts⟩ (c_X3_at l X (h 3) (h 4) (8 : Int32) (2 : Int32) 16 rT fT r_1 (1 : Int32) r_10 hc_11) (cwV 2 hts gX2_passedOn_X3_at rfl rfl rfl (by decide +kernel) ⟨Nat.le_of_ble_eq_true rfl, Nat.le_of_ble_eq_true rfl⟩) 3 rfl rfl rfl rfl hl.1 rfl (Nat.le_of_ble_eq_true rfl) dX2_passedOn_53 hK hP (hD0.addr rfl) hS hA [3, 4] rfl rfl rfl rfl ⟨Nat.zero_le _, Nat.zero_le _⟩ (fun H locs hP hD hS => ?_)
    refine lv_iand hx hb dX2_passedOn_56 ?_
    refine lv_topi (fun v_12 ev_12 => ?_)
    replace hf := nm_of ev_12 hf
    cases hf
    exact fn_iret hx hb hr hlocks hP hS dX2_passedOn_57
  · replace hf := fp_t c_7 hf
    refine lv_iconst (v := 0) hx hb dX2_passedOn_34 (by decide) ?_
    cases hf
    exact fn_iret hx hb hr hlocks hP hS dX2_passedOn_35

def f_X2_countEqual_L5 (x1 : Int32) (x2 : Int32) (col : Int32) (nn : Nat) (rows : Int32) (f : (Nat → Int32)) : Nat → Int32 → Int32 →  Option (Int32)
  | 0, _, _ => none
  | k_ + 1, x3, x4 =>
    bd (f_X3_rows rows) (fun r_1 =>
    if r_1 ≤ x4 then
    (some x3)
    else
    (bd (f_X3_at col nn x4 x1 rows f) (fun r_4 =>
    if r_4 = x2 then
    (nm (x3 + (1 : Int32)) (fun v_8 =>
    nm (x4 + (1 : Int32)) (fun v_9 =>
    f_X2_countEqual_L5 x1 x2 col nn rows f k_ v_8 v_9)))
    else
    (nm (x4 + (1 : Int32)) (fun v_7 =>
    f_X2_countEqual_L5 x1 x2 col nn rows f k_ x3 v_7)))))
def f_X2_countEqual (col : Int32) (nn : Nat) (x1 : Int32) (x2 : Int32) (rows : Int32) (f : (Nat → Int32)) : Option (Int32) :=
  bd (f_X2_countEqual_L5 x1 x2 col nn rows f FU (0 : Int32) (0 : Int32)) (fun y3_10 =>
  some y3_10)
set_option maxHeartbeats 4000000 in
set_option maxRecDepth 100000 in
theorem c_X2_countEqual (l : Launch) (X : cx_G) (ta : Nat) (ca : Nat) (lim : Int32) (col : Int32) (nn : Nat) (rows : Int32) (f : (Nat → Int32)) (x1 : Int32) (x2 : Int32) (r : Int32) (hf : f_X2_countEqual col nn x1 x2 rows f = some r) : Fn l yX2_countEqual wsX2_countEqual ({ frames := 1, cells := 0, slots := 0, locals := 24 } : Room) X [.ref (ta), .int x1, .int x2] (wTb X ta ca lim col nn rows f) (some (.int r)) (wTb X ta ca lim col nn rows f) := by
  refine fn_intro (cc := cX2_countEqual) (maxL := 5) (ret := (some .int)) (by decide) rfl rfl (Nat.le_of_ble_eq_true rfl) ?_
  intro p e s m args below meth c A ls hx hb hml hr hts hown hlocks hK hP hD0 hS hA hl
  have hown : s.vm.findClass RX2 = some m.cls := hown
  have hl : lv_has ls 5 [(0, .ref (ta)), (1, .int x1), (2, .int x2)] := hl
  have loop_5 : ∀ (Q : State → Prop) (y3 : Int32), (∀ (H : Heap) (locs : List Loc) (ls : Array Slot), va_P X.1 vwCl (wTb X ta ca lim col nn rows f) H → va_S A s.heap H locs → lv_has ls 5 [(3, .int y3)] → W p l e ({ frames := 1, cells := 0, slots := 0, locals := 24 } : Room) s m args below meth c H locs 0 0 Q (F0 m 34 ls [])) → ∀ (k_ : Nat) (x3 : Int32) (x4 : Int32) (H : Heap) (locs : List Loc) (ls : Array Slot), f_X2_countEqual_L5 x1 x2 col nn rows f k_ x3 x4 = some y3 → va_P X.1 vwCl (wTb X ta ca lim col nn rows f) H → va_S A s.heap H locs → lv_has ls 5 [(0, .ref (ta)), (1, .int x1), (2, .int x2), (3, .int x3), (4, .int x4)] → W p l e ({ frames := 1, cells := 0, slots := 0, locals := 24 } : Room) s m args below meth c H locs 0 0 Q (F0 m 5 ls []) := by
    intro Q y3 kx k_
    induction k_ with
    | zero => intro x3 x4 H locs ls hf; exact nomatch (show (none : Option (Int32)) = some _ from hf)
    | succ k_ ih =>
      intro x3 x4 H locs ls hf hP hS hl
      unfold f_X2_countEqual_L5 at hf
      refine lv_iload hx hb dX2_countEqual_5 (lv_at hl 4 rfl) ?_
      refine lv_aload_n hx hb dX2_countEqual_7 rfl (lv_at hl 0 rfl) ?_
      obtain ⟨r_1, hc_2, hf⟩ := bd_of hf
      refine fn_V (v := some (.int r_1)) (As := []) (rest := [.int x4]) (st1 := [.int r_1, .int x4]) (ws' := (wTb X ta ca lim col nn rows f)) (nL := 5) ⟨hx, hb, hml, hown, hts⟩ (c_X3_rows l X ta ca lim col nn rows f r_1 hc_2) (cwV 0 hts gX2_countEqual_X3_rows rfl rfl rfl (by decide +kernel) ⟨Nat.le_of_ble_eq_true rfl, Nat.le_of_ble_eq_true rfl⟩) 3 rfl rfl rfl rfl hl.1 rfl (Nat.le_of_ble_eq_true rfl) dX2_countEqual_8 hK hP (hD0.addr rfl) hS hA [0, 1] rfl rfl rfl rfl ⟨Nat.zero_le _, Nat.zero_le _⟩ (fun H locs hP hD hS => ?_)
      refine lv_icmp_ge (tgt := 34) hx hb dX2_countEqual_11 (by decide) (fun c_3 => ?_) (fun c_3 => ?_)
      · replace hf := fp_t c_3 hf
        cases hf
        exact kx _ _ _ hP hS (lv_sub hl [3] rfl)
      · replace hf := fp_f c_3 hf
        refine lv_aload_n hx hb dX2_countEqual_14 rfl (lv_at hl 0 rfl) ?_
        refine lv_iload hx hb dX2_countEqual_15 (lv_at hl 4 rfl) ?_
        refine lv_iload_n hx hb dX2_countEqual_17 rfl (lv_at hl 1 rfl) ?_
        obtain ⟨r_4, hc_5, hf⟩ := bd_of hf
        refine fn_V (v := some (.int r_4)) (As := [.int x4, .int x1]) (rest := []) (st1 := [.int r_4]) (ws' := (wTb X ta ca lim col nn rows f)) (nL := 5) ⟨hx, hb, hml, hown, hts⟩ (c_X3_at l X ta ca lim col nn rows f x4 x1 r_4 hc_5) (cwV 2 hts gX2_countEqual_X3_at rfl rfl rfl (by decide +kernel) ⟨Nat.le_of_ble_eq_true rfl, Nat.le_of_ble_eq_true rfl⟩) 3 rfl rfl rfl rfl hl.1 rfl (Nat.le_of_ble_eq_true rfl) dX2_countEqual_18 hK hP (hD0.addr rfl) hS hA [0, 1] rfl rfl rfl rfl ⟨Nat.zero_le _, Nat.zero_le _⟩ (fun H locs hP hD hS => ?_)
        refine lv_iload_n hx hb dX2_countEqual_21 rfl (lv_at hl 2 rfl) ?_
        refine lv_icmp_ne (tgt := 28) hx hb dX2_countEqual_22 (by decide) (fun c_6 => ?_) (fun c_6 => ?_)
        · replace hf := fp_f c_6 hf
          obtain ⟨v_7, ev_7⟩ : ∃ y : Int32, y = x4 + (1 : Int32) := ⟨_, rfl⟩
          replace hf := nm_of ev_7 hf
          refine lv_iinc (v := v_7) (lv' := [(4, .int v_7), (0, .ref (ta)), (1, .int x1), (2, .int x2), (3, .int x3)]) hx hb dX2_countEqual_28 hl (k := 4) rfl (by rw [ev_7]; rfl) (by decide) rfl (fun ls hl => ?_)
          refine lv_goto (tgt := 5) hx hb dX2_countEqual_31 (by decide) ?_
          exact ih x3 v_7 _ _ _ hf hP hS (lv_sub hl [1, 2, 3, 4, 0] rfl)
        · replace hf := fp_t c_6 hf
          obtain ⟨v_8, ev_8⟩ : ∃ y : Int32, y = x3 + (1 : Int32) := ⟨_, rfl⟩
          replace hf := nm_of ev_8 hf
          refine lv_iinc (v := v_8) (lv' := [(3, .int v_8), (0, .ref (ta)), (1, .int x1), (2, .int x2), (4, .int x4)]) hx hb dX2_countEqual_25 hl (k := 3) rfl (by rw [ev_8]; rfl) (by decide) rfl (fun ls hl => ?_)
          obtain ⟨v_9, ev_9⟩ : ∃ y : Int32, y = x4 + (1 : Int32) := ⟨_, rfl⟩
          replace hf := nm_of ev_9 hf
          refine lv_iinc (v := v_9) (lv' := [(4, .int v_9), (3, .int v_8), (0, .ref (ta)), (1, .int x1), (2, .int x2)]) hx hb dX2_countEqual_28 hl (k := 4) rfl (by rw [ev_9]; rfl) (by decide) rfl (fun ls hl => ?_)
          refine lv_goto (tgt := 5) hx hb dX2_countEqual_31 (by decide) ?_
          exact ih v_8 v_9 _ _ _ hf hP hS (lv_sub hl [2, 3, 4, 1, 0] rfl)
  unfold f_X2_countEqual at hf
  refine lv_iconst (v := 0) hx hb dX2_countEqual_0 (by decide) ?_
  refine lv_istore_n (lv' := [(3, .int (0 : Int32)), (0, .ref (ta)), (1, .int x1), (2, .int x2)]) hx hb dX2_countEqual_1 rfl hl (by decide) rfl (fun ls hl => ?_)
  refine lv_iconst (v := 0) hx hb dX2_countEqual_2 (by decide) ?_
  refine lv_istore (lv' := [(4, .int (0 : Int32)), (3, .int (0 : Int32)), (0, .ref (ta)), (1, .int x1), (2, .int x2)]) hx hb dX2_countEqual_3 hl (by decide) rfl (fun ls hl => ?_)
  obtain ⟨y3_10, hL_11, hf⟩ := bd_of hf
  refine loop_5 _ y3_10 (fun H locs ls hP hS hl => ?_) FU (0 : Int32) (0 : Int32) _ _ _ hL_11 hP hS (lv_sub hl [2, 3, 4, 1, 0] rfl)
  refine lv_iload_n hx hb dX2_countEqual_34 rfl (lv_at hl 0 rfl) ?_
  cases hf
  exact fn_iret hx hb hr hlocks hP hS dX2_countEqual_35

def f_X2_thingsSeenBy_L4 (x1 : Int32) (rT : Int32) (rH : Int32) (fH : (Nat → Int32)) : Nat → Int32 → Int32 →  Option (Int32)
  | 0, _, _ => none
  | k_ + 1, x2, x3 =>
    bd (f_X3_rows rT) (fun r_1 =>
    if r_1 ≤ x3 then
    (some x2)
    else
    (bd (f_X3_at (10 : Int32) 80 x3 x1 rH fH) (fun r_4 =>
    if r_4 &&& (1 : Int32) = (0 : Int32) then
    (nm (x3 + (1 : Int32)) (fun v_7 =>
    f_X2_thingsSeenBy_L4 x1 rT rH fH k_ x2 v_7))
    else
    (nm (x2 ||| ((1 : Int32) <<< (x3 &&& 31))) (fun v_8 =>
    nm (x3 + (1 : Int32)) (fun v_9 =>
    f_X2_thingsSeenBy_L4 x1 rT rH fH k_ v_8 v_9))))))
def f_X2_thingsSeenBy (x1 : Int32) (rT : Int32) (rH : Int32) (fH : (Nat → Int32)) : Option (Int32) :=
  bd (f_X2_thingsSeenBy_L4 x1 rT rH fH FU (0 : Int32) (0 : Int32)) (fun y2_10 =>
  some y2_10)
set_option maxHeartbeats 4000000 in
set_option maxRecDepth 100000 in
theorem c_X2_thingsSeenBy (l : Launch) (X : cx_G) (h : (Nat → Nat)) (rP : Int32) (fP : (Nat → Int32)) (rT : Int32) (fT : (Nat → Int32)) (rG : Int32) (fG : (Nat → Int32)) (rL : Int32) (fL : (Nat → Int32)) (rH : Int32) (fH : (Nat → Int32)) (gi : Int32) (di : Int32) (re : Int32) (ti : Int32) (x1 : Int32) (r : Int32) (hf : f_X2_thingsSeenBy x1 rT rH fH = some r) : Fn l yX2_thingsSeenBy wsX2_thingsSeenBy ({ frames := 1, cells := 0, slots := 0, locals := 24 } : Room) X [.ref (h 0), .int x1] (wHo X h rP fP rT fT rG fG rL fL rH fH gi di re ti) (some (.int r)) (wHo X h rP fP rT fT rG fG rL fL rH fH gi di re ti) := by
  refine fn_intro (cc := cX2_thingsSeenBy) (maxL := 4) (ret := (some .int)) (by decide) rfl rfl (Nat.le_of_ble_eq_true rfl) ?_
  intro p e s m args below meth c A ls hx hb hml hr hts hown hlocks hK hP hD0 hS hA hl
  have hown : s.vm.findClass RX2 = some m.cls := hown
  have hl : lv_has ls 4 [(0, .ref (h 0)), (1, .int x1)] := hl
  have hiX2 : ∀ w ∈ u_ws RX2 TX2 9, w ∈ wsX2_thingsSeenBy := by decide +kernel
  have k20 := hts (.fieldLink RX2 20 "LentRights$House" "things" "LLentRights$Table;") (by decide +kernel)
  have k29 := hts (.fieldLink RX2 29 "LentRights$House" "held" "LLentRights$Table;") (by decide +kernel)
  have loop_4 : ∀ (Q : State → Prop) (y2 : Int32), (∀ (H : Heap) (locs : List Loc) (ls : Array Slot), va_P X.1 vwCl (wHo X h rP fP rT fT rG fG rL fL rH fH gi di re ti) H → va_S A s.heap H locs → lv_has ls 4 [(2, .int y2)] → W p l e ({ frames := 1, cells := 0, slots := 0, locals := 24 } : Room) s m args below meth c H locs 0 0 Q (F0 m 41 ls [])) → ∀ (k_ : Nat) (x2 : Int32) (x3 : Int32) (H : Heap) (locs : List Loc) (ls : Array Slot), f_X2_thingsSeenBy_L4 x1 rT rH fH k_ x2 x3 = some y2 → va_P X.1 vwCl (wHo X h rP fP rT fT rG fG rL fL rH fH gi di re ti) H → va_S A s.heap H locs → lv_has ls 4 [(0, .ref (h 0)), (1, .int x1), (2, .int x2), (3, .int x3)] → W p l e ({ frames := 1, cells := 0, slots := 0, locals := 24 } : Room) s m args below meth c H locs 0 0 Q (F0 m 4 ls []) := by
    intro Q y2 kx k_
    induction k_ with
    | zero => intro x2 x3 H locs ls hf; exact nomatch (show (none : Option (Int32)) = some _ from hf)
    | succ k_ ih =>
      intro x2 x3 H locs ls hf hP hS hl
      unfold f_X2_thingsSeenBy_L4 at hf
      refine lv_iload_n hx hb dX2_thingsSeenBy_4 rfl (lv_at hl 3 rfl) ?_
      refine lv_aload_n hx hb dX2_thingsSeenBy_5 rfl (lv_at hl 0 rfl) ?_
      refine va_get (D := X.1) (ci := 2) (v := .ref (h 3)) (C := RX2) (T := TX2) (N := 9) hx hb hts hiX2 hown hK.1 hP 0 rfl rfl 1 (by decide) k20 (fun _ h9 => h9) rfl dX2_thingsSeenBy_6 ?_
      obtain ⟨r_1, hc_2, hf⟩ := bd_of hf
      refine fn_V (v := some (.int r_1)) (As := []) (rest := [.int x3]) (st1 := [.int r_1, .int x3]) (ws' := (wHo X h rP fP rT fT rG fG rL fL rH fH gi di re ti)) (nL := 4) ⟨hx, hb, hml, hown, hts⟩ (c_X3_rows l X (h 3) (h 4) (8 : Int32) (2 : Int32) 16 rT fT r_1 hc_2) (cwV 0 hts gX2_thingsSeenBy_X3_rows rfl rfl rfl (by decide +kernel) ⟨Nat.le_of_ble_eq_true rfl, Nat.le_of_ble_eq_true rfl⟩) 3 rfl rfl rfl rfl hl.1 rfl (Nat.le_of_ble_eq_true rfl) dX2_thingsSeenBy_9 hK hP (hD0.addr rfl) hS hA [3, 4] rfl rfl rfl rfl ⟨Nat.zero_le _, Nat.zero_le _⟩ (fun H locs hP hD hS => ?_)
      refine lv_icmp_ge (tgt := 41) hx hb dX2_thingsSeenBy_12 (by decide) (fun c_3 => ?_) (fun c_3 => ?_)
      · replace hf := fp_t c_3 hf
        cases hf
        exact kx _ _ _ hP hS (lv_sub hl [2] rfl)
      · replace hf := fp_f c_3 hf
        refine lv_aload_n hx hb dX2_thingsSeenBy_15 rfl (lv_at hl 0 rfl) ?_
        refine va_get (D := X.1) (ci := 2) (v := .ref (h 9)) (C := RX2) (T := TX2) (N := 9) hx hb hts hiX2 hown hK.1 hP 0 rfl rfl 4 (by decide) k29 (fun _ h9 => h9) rfl dX2_thingsSeenBy_16 ?_
        refine lv_iload_n hx hb dX2_thingsSeenBy_19 rfl (lv_at hl 3 rfl) ?_
        refine lv_iload_n hx hb dX2_thingsSeenBy_20 rfl (lv_at hl 1 rfl) ?_
        obtain ⟨r_4, hc_5, hf⟩ := bd_of hf
        refine fn_V (v := some (.int r_4)) (As := [.int x3, .int x1]) (rest := []) (st1 := [.int r_4]) (ws' := (wHo X h rP fP rT fT rG fG rL fL rH fH gi di re ti)) (nL := 4) ⟨hx, hb, hml, hown, hts⟩ (c_X3_at l X (h 9) (h 10) (8 : Int32) (10 : Int32) 80 rH fH x3 x1 r_4 hc_5) (cwV 2 hts gX2_thingsSeenBy_X3_at rfl rfl rfl (by decide +kernel) ⟨Nat.le_of_ble_eq_true rfl, Nat.le_of_ble_eq_true rfl⟩) 3 rfl rfl rfl rfl hl.1 rfl (Nat.le_of_ble_eq_true rfl) dX2_thingsSeenBy_21 hK hP (hD0.addr rfl) hS hA [9, 10] rfl rfl rfl rfl ⟨Nat.zero_le _, Nat.zero_le _⟩ (fun H locs hP hD hS => ?_)
        refine lv_iconst (v := 1) hx hb dX2_thingsSeenBy_24 (by decide) ?_
        refine lv_iand hx hb dX2_thingsSeenBy_25 ?_
        refine lv_if_eq (tgt := 35) hx hb dX2_thingsSeenBy_26 (by decide) (fun c_6 => ?_) (fun c_6 => ?_)
        · replace hf := fp_t c_6 hf
          obtain ⟨v_7, ev_7⟩ : ∃ y : Int32, y = x3 + (1 : Int32) := ⟨_, rfl⟩
          replace hf := nm_of ev_7 hf
          refine lv_iinc (v := v_7) (lv' := [(3, .int v_7), (0, .ref (h 0)), (1, .int x1), (2, .int x2)]) hx hb dX2_thingsSeenBy_35 hl (k := 3) rfl (by rw [ev_7]; rfl) (by decide) rfl (fun ls hl => ?_)
          refine lv_goto (tgt := 4) hx hb dX2_thingsSeenBy_38 (by decide) ?_
          exact ih x2 v_7 _ _ _ hf hP hS (lv_sub hl [1, 2, 3, 0] rfl)
        · replace hf := fp_f c_6 hf
          refine lv_iload_n hx hb dX2_thingsSeenBy_29 rfl (lv_at hl 2 rfl) ?_
          refine lv_iconst (v := 1) hx hb dX2_thingsSeenBy_30 (by decide) ?_
          refine lv_iload_n hx hb dX2_thingsSeenBy_31 rfl (lv_at hl 3 rfl) ?_
          refine lv_ishl hx hb dX2_thingsSeenBy_32 ?_
          refine lv_ior hx hb dX2_thingsSeenBy_33 ?_
          refine lv_topi (fun v_8 ev_8 => ?_)
          replace hf := nm_of ev_8 hf
          refine lv_istore_n (lv' := [(2, .int v_8), (0, .ref (h 0)), (1, .int x1), (3, .int x3)]) hx hb dX2_thingsSeenBy_34 rfl hl (by decide) rfl (fun ls hl => ?_)
          obtain ⟨v_9, ev_9⟩ : ∃ y : Int32, y = x3 + (1 : Int32) := ⟨_, rfl⟩
          replace hf := nm_of ev_9 hf
          refine lv_iinc (v := v_9) (lv' := [(3, .int v_9), (2, .int v_8), (0, .ref (h 0)), (1, .int x1)]) hx hb dX2_thingsSeenBy_35 hl (k := 3) rfl (by rw [ev_9]; rfl) (by decide) rfl (fun ls hl => ?_)
          refine lv_goto (tgt := 4) hx hb dX2_thingsSeenBy_38 (by decide) ?_
          exact ih v_8 v_9 _ _ _ hf hP hS (lv_sub hl [2, 3, 1, 0] rfl)
  unfold f_X2_thingsSeenBy at hf
  refine lv_iconst (v := 0) hx hb dX2_thingsSeenBy_0 (by decide) ?_
  refine lv_istore_n (lv' := [(2, .int (0 : Int32)), (0, .ref (h 0)), (1, .int x1)]) hx hb dX2_thingsSeenBy_1 rfl hl (by decide) rfl (fun ls hl => ?_)
  refine lv_iconst (v := 0) hx hb dX2_thingsSeenBy_2 (by decide) ?_
  refine lv_istore_n (lv' := [(3, .int (0 : Int32)), (2, .int (0 : Int32)), (0, .ref (h 0)), (1, .int x1)]) hx hb dX2_thingsSeenBy_3 rfl hl (by decide) rfl (fun ls hl => ?_)
  obtain ⟨y2_10, hL_11, hf⟩ := bd_of hf
  refine loop_4 _ y2_10 (fun H locs ls hP hS hl => ?_) FU (0 : Int32) (0 : Int32) _ _ _ hL_11 hP hS (lv_sub hl [2, 3, 1, 0] rfl)
  refine lv_iload_n hx hb dX2_thingsSeenBy_41 rfl (lv_at hl 0 rfl) ?_
  cases hf
  exact fn_iret hx hb hr hlocks hP hS dX2_thingsSeenBy_42

def f_X2_holdersOf_L5 (x1 : Int32) (x2 : Int32) (rH : Int32) (fH : (Nat → Int32)) : Nat → Int32 → Int32 →  Option (Int32)
  | 0, _, _ => none
  | k_ + 1, x3, x4 =>
    if (10 : Int32) ≤ x4 then
    (some x3)
    else
    (bd (f_X3_at (10 : Int32) 80 x1 x4 rH fH) (fun r_2 =>
    if r_2 &&& x2 = (0 : Int32) then
    (nm (x4 + (1 : Int32)) (fun v_5 =>
    f_X2_holdersOf_L5 x1 x2 rH fH k_ x3 v_5))
    else
    (nm (x3 ||| ((1 : Int32) <<< (x4 &&& 31))) (fun v_6 =>
    nm (x4 + (1 : Int32)) (fun v_7 =>
    f_X2_holdersOf_L5 x1 x2 rH fH k_ v_6 v_7)))))
def f_X2_holdersOf (x1 : Int32) (x2 : Int32) (rH : Int32) (fH : (Nat → Int32)) : Option (Int32) :=
  bd (f_X2_holdersOf_L5 x1 x2 rH fH FU (0 : Int32) (0 : Int32)) (fun y3_8 =>
  some y3_8)
set_option maxHeartbeats 4000000 in
set_option maxRecDepth 100000 in
theorem c_X2_holdersOf (l : Launch) (X : cx_G) (h : (Nat → Nat)) (rP : Int32) (fP : (Nat → Int32)) (rT : Int32) (fT : (Nat → Int32)) (rG : Int32) (fG : (Nat → Int32)) (rL : Int32) (fL : (Nat → Int32)) (rH : Int32) (fH : (Nat → Int32)) (gi : Int32) (di : Int32) (re : Int32) (ti : Int32) (x1 : Int32) (x2 : Int32) (r : Int32) (hf : f_X2_holdersOf x1 x2 rH fH = some r) : Fn l yX2_holdersOf wsX2_holdersOf ({ frames := 1, cells := 0, slots := 0, locals := 24 } : Room) X [.ref (h 0), .int x1, .int x2] (wHo X h rP fP rT fT rG fG rL fL rH fH gi di re ti) (some (.int r)) (wHo X h rP fP rT fT rG fG rL fL rH fH gi di re ti) := by
  refine fn_intro (cc := cX2_holdersOf) (maxL := 5) (ret := (some .int)) (by decide) rfl rfl (Nat.le_of_ble_eq_true rfl) ?_
  intro p e s m args below meth c A ls hx hb hml hr hts hown hlocks hK hP hD0 hS hA hl
  have hown : s.vm.findClass RX2 = some m.cls := hown
  have hl : lv_has ls 5 [(0, .ref (h 0)), (1, .int x1), (2, .int x2)] := hl
  have hiX2 : ∀ w ∈ u_ws RX2 TX2 9, w ∈ wsX2_holdersOf := by decide +kernel
  have k29 := hts (.fieldLink RX2 29 "LentRights$House" "held" "LLentRights$Table;") (by decide +kernel)
  have loop_5 : ∀ (Q : State → Prop) (y3 : Int32), (∀ (H : Heap) (locs : List Loc) (ls : Array Slot), va_P X.1 vwCl (wHo X h rP fP rT fT rG fG rL fL rH fH gi di re ti) H → va_S A s.heap H locs → lv_has ls 5 [(3, .int y3)] → W p l e ({ frames := 1, cells := 0, slots := 0, locals := 24 } : Room) s m args below meth c H locs 0 0 Q (F0 m 40 ls [])) → ∀ (k_ : Nat) (x3 : Int32) (x4 : Int32) (H : Heap) (locs : List Loc) (ls : Array Slot), f_X2_holdersOf_L5 x1 x2 rH fH k_ x3 x4 = some y3 → va_P X.1 vwCl (wHo X h rP fP rT fT rG fG rL fL rH fH gi di re ti) H → va_S A s.heap H locs → lv_has ls 5 [(0, .ref (h 0)), (1, .int x1), (2, .int x2), (3, .int x3), (4, .int x4)] → W p l e ({ frames := 1, cells := 0, slots := 0, locals := 24 } : Room) s m args below meth c H locs 0 0 Q (F0 m 5 ls []) := by
    intro Q y3 kx k_
    induction k_ with
    | zero => intro x3 x4 H locs ls hf; exact nomatch (show (none : Option (Int32)) = some _ from hf)
    | succ k_ ih =>
      intro x3 x4 H locs ls hf hP hS hl
      unfold f_X2_holdersOf_L5 at hf
      refine lv_iload hx hb dX2_holdersOf_5 (lv_at hl 4 rfl) ?_
      refine lv_bipush (v := 10) hx hb dX2_holdersOf_7 (by decide) ?_
      refine lv_icmp_ge (tgt := 40) hx hb dX2_holdersOf_9 (by decide) (fun c_1 => ?_) (fun c_1 => ?_)
      · replace hf := fp_t c_1 hf
        cases hf
        exact kx _ _ _ hP hS (lv_sub hl [3] rfl)
      · replace hf := fp_f c_1 hf
        refine lv_aload_n hx hb dX2_holdersOf_12 rfl (lv_at hl 0 rfl) ?_
        refine va_get (D := X.1) (ci := 2) (v := .ref (h 9)) (C := RX2) (T := TX2) (N := 9) hx hb hts hiX2 hown hK.1 hP 0 rfl rfl 4 (by decide) k29 (fun _ h9 => h9) rfl dX2_holdersOf_13 ?_
        refine lv_iload_n hx hb dX2_holdersOf_16 rfl (lv_at hl 1 rfl) ?_
        refine lv_iload hx hb dX2_holdersOf_17 (lv_at hl 4 rfl) ?_
        obtain ⟨r_2, hc_3, hf⟩ := bd_of hf
        refine fn_V (v := some (.int r_2)) (As := [.int x1, .int x4]) (rest := []) (st1 := [.int r_2]) (ws' := (wHo X h rP fP rT fT rG fG rL fL rH fH gi di re ti)) (nL := 5) ⟨hx, hb, hml, hown, hts⟩ (c_X3_at l X (h 9) (h 10) (8 : Int32) (10 : Int32) 80 rH fH x1 x4 r_2 hc_3) (cwV 2 hts gX2_holdersOf_X3_at rfl rfl rfl (by decide +kernel) ⟨Nat.le_of_ble_eq_true rfl, Nat.le_of_ble_eq_true rfl⟩) 3 rfl rfl rfl rfl hl.1 rfl (Nat.le_of_ble_eq_true rfl) dX2_holdersOf_19 hK hP (hD0.addr rfl) hS hA [9, 10] rfl rfl rfl rfl ⟨Nat.zero_le _, Nat.zero_le _⟩ (fun H locs hP hD hS => ?_)
        refine lv_iload_n hx hb dX2_holdersOf_22 rfl (lv_at hl 2 rfl) ?_
        refine lv_iand hx hb dX2_holdersOf_23 ?_
        refine lv_if_eq (tgt := 34) hx hb dX2_holdersOf_24 (by decide) (fun c_4 => ?_) (fun c_4 => ?_)
        · replace hf := fp_t c_4 hf
          obtain ⟨v_5, ev_5⟩ : ∃ y : Int32, y = x4 + (1 : Int32) := ⟨_, rfl⟩
          replace hf := nm_of ev_5 hf
          refine lv_iinc (v := v_5) (lv' := [(4, .int v_5), (0, .ref (h 0)), (1, .int x1), (2, .int x2), (3, .int x3)]) hx hb dX2_holdersOf_34 hl (k := 4) rfl (by rw [ev_5]; rfl) (by decide) rfl (fun ls hl => ?_)
          refine lv_goto (tgt := 5) hx hb dX2_holdersOf_37 (by decide) ?_
          exact ih x3 v_5 _ _ _ hf hP hS (lv_sub hl [1, 2, 3, 4, 0] rfl)
        · replace hf := fp_f c_4 hf
          refine lv_iload_n hx hb dX2_holdersOf_27 rfl (lv_at hl 3 rfl) ?_
          refine lv_iconst (v := 1) hx hb dX2_holdersOf_28 (by decide) ?_
          refine lv_iload hx hb dX2_holdersOf_29 (lv_at hl 4 rfl) ?_
          refine lv_ishl hx hb dX2_holdersOf_31 ?_
          refine lv_ior hx hb dX2_holdersOf_32 ?_
          refine lv_topi (fun v_6 ev_6 => ?_)
          replace hf := nm_of ev_6 hf
          refine lv_istore_n (lv' := [(3, .int v_6), (0, .ref (h 0)), (1, .int x1), (2, .int x2), (4, .int x4)]) hx hb dX2_holdersOf_33 rfl hl (by decide) rfl (fun ls hl => ?_)
          obtain ⟨v_7, ev_7⟩ : ∃ y : Int32, y = x4 + (1 : Int32) := ⟨_, rfl⟩
          replace hf := nm_of ev_7 hf
          refine lv_iinc (v := v_7) (lv' := [(4, .int v_7), (3, .int v_6), (0, .ref (h 0)), (1, .int x1), (2, .int x2)]) hx hb dX2_holdersOf_34 hl (k := 4) rfl (by rw [ev_7]; rfl) (by decide) rfl (fun ls hl => ?_)
          refine lv_goto (tgt := 5) hx hb dX2_holdersOf_37 (by decide) ?_
          exact ih v_6 v_7 _ _ _ hf hP hS (lv_sub hl [2, 3, 4, 1, 0] rfl)
  unfold f_X2_holdersOf at hf
  refine lv_iconst (v := 0) hx hb dX2_holdersOf_0 (by decide) ?_
  refine lv_istore_n (lv' := [(3, .int (0 : Int32)), (0, .ref (h 0)), (1, .int x1), (2, .int x2)]) hx hb dX2_holdersOf_1 rfl hl (by decide) rfl (fun ls hl => ?_)
  refine lv_iconst (v := 0) hx hb dX2_holdersOf_2 (by decide) ?_
  refine lv_istore (lv' := [(4, .int (0 : Int32)), (3, .int (0 : Int32)), (0, .ref (h 0)), (1, .int x1), (2, .int x2)]) hx hb dX2_holdersOf_3 hl (by decide) rfl (fun ls hl => ?_)
  obtain ⟨y3_8, hL_9, hf⟩ := bd_of hf
  refine loop_5 _ y3_8 (fun H locs ls hP hS hl => ?_) FU (0 : Int32) (0 : Int32) _ _ _ hL_9 hP hS (lv_sub hl [2, 3, 4, 1, 0] rfl)
  refine lv_iload_n hx hb dX2_holdersOf_40 rfl (lv_at hl 0 rfl) ?_
  cases hf
  exact fn_iret hx hb hr hlocks hP hS dX2_holdersOf_41

def f_X2_countIdleGrants_L4 (rT : Int32) (fT : (Nat → Int32)) (rG : Int32) (fG : (Nat → Int32)) (rH : Int32) (fH : (Nat → Int32)) : Nat → Int32 → Int32 →  Option (Int32)
  | 0, _, _ => none
  | k_ + 1, x1, x2 =>
    bd (f_X3_rows rG) (fun r_1 =>
    if r_1 ≤ x2 then
    (some x1)
    else
    (bd (f_X2_passedOn x2 rT fT rG fG rH fH) (fun r_4 =>
    if r_4 = (0 : Int32) then
    (nm (x1 + (1 : Int32)) (fun v_8 =>
    nm (x2 + (1 : Int32)) (fun v_9 =>
    f_X2_countIdleGrants_L4 rT fT rG fG rH fH k_ v_8 v_9)))
    else
    (nm (x2 + (1 : Int32)) (fun v_7 =>
    f_X2_countIdleGrants_L4 rT fT rG fG rH fH k_ x1 v_7)))))
def f_X2_countIdleGrants (rT : Int32) (fT : (Nat → Int32)) (rG : Int32) (fG : (Nat → Int32)) (rH : Int32) (fH : (Nat → Int32)) : Option (Int32) :=
  bd (f_X2_countIdleGrants_L4 rT fT rG fG rH fH FU (0 : Int32) (0 : Int32)) (fun y1_10 =>
  some y1_10)
set_option maxHeartbeats 4000000 in
set_option maxRecDepth 100000 in
theorem c_X2_countIdleGrants (l : Launch) (X : cx_G) (h : (Nat → Nat)) (rP : Int32) (fP : (Nat → Int32)) (rT : Int32) (fT : (Nat → Int32)) (rG : Int32) (fG : (Nat → Int32)) (rL : Int32) (fL : (Nat → Int32)) (rH : Int32) (fH : (Nat → Int32)) (gi : Int32) (di : Int32) (re : Int32) (ti : Int32) (r : Int32) (hf : f_X2_countIdleGrants rT fT rG fG rH fH = some r) : Fn l yX2_countIdleGrants wsX2_countIdleGrants ({ frames := 2, cells := 0, slots := 0, locals := 47 } : Room) X [.ref (h 0)] (wHo X h rP fP rT fT rG fG rL fL rH fH gi di re ti) (some (.int r)) (wHo X h rP fP rT fT rG fG rL fL rH fH gi di re ti) := by
  refine fn_intro (cc := cX2_countIdleGrants) (maxL := 3) (ret := (some .int)) (by decide) rfl rfl (Nat.le_of_ble_eq_true rfl) ?_
  intro p e s m args below meth c A ls hx hb hml hr hts hown hlocks hK hP hD0 hS hA hl
  have hown : s.vm.findClass RX2 = some m.cls := hown
  have hl : lv_has ls 3 [(0, .ref (h 0))] := hl
  have hiX2 : ∀ w ∈ u_ws RX2 TX2 9, w ∈ wsX2_countIdleGrants := by decide +kernel
  have k23 := hts (.fieldLink RX2 23 "LentRights$House" "grants" "LLentRights$Table;") (by decide +kernel)
  have loop_4 : ∀ (Q : State → Prop) (y1 : Int32), (∀ (H : Heap) (locs : List Loc) (ls : Array Slot), va_P X.1 vwCl (wHo X h rP fP rT fT rG fG rL fL rH fH gi di re ti) H → va_S A s.heap H locs → lv_has ls 3 [(1, .int y1)] → W p l e ({ frames := 2, cells := 0, slots := 0, locals := 47 } : Room) s m args below meth c H locs 0 0 Q (F0 m 32 ls [])) → ∀ (k_ : Nat) (x1 : Int32) (x2 : Int32) (H : Heap) (locs : List Loc) (ls : Array Slot), f_X2_countIdleGrants_L4 rT fT rG fG rH fH k_ x1 x2 = some y1 → va_P X.1 vwCl (wHo X h rP fP rT fT rG fG rL fL rH fH gi di re ti) H → va_S A s.heap H locs → lv_has ls 3 [(0, .ref (h 0)), (1, .int x1), (2, .int x2)] → W p l e ({ frames := 2, cells := 0, slots := 0, locals := 47 } : Room) s m args below meth c H locs 0 0 Q (F0 m 4 ls []) := by
    intro Q y1 kx k_
    induction k_ with
    | zero => intro x1 x2 H locs ls hf; exact nomatch (show (none : Option (Int32)) = some _ from hf)
    | succ k_ ih =>
      intro x1 x2 H locs ls hf hP hS hl
      unfold f_X2_countIdleGrants_L4 at hf
      refine lv_iload_n hx hb dX2_countIdleGrants_4 rfl (lv_at hl 2 rfl) ?_
      refine lv_aload_n hx hb dX2_countIdleGrants_5 rfl (lv_at hl 0 rfl) ?_
      refine va_get (D := X.1) (ci := 2) (v := .ref (h 5)) (C := RX2) (T := TX2) (N := 9) hx hb hts hiX2 hown hK.1 hP 0 rfl rfl 2 (by decide) k23 (fun _ h9 => h9) rfl dX2_countIdleGrants_6 ?_
      obtain ⟨r_1, hc_2, hf⟩ := bd_of hf
      refine fn_V (v := some (.int r_1)) (As := []) (rest := [.int x2]) (st1 := [.int r_1, .int x2]) (ws' := (wHo X h rP fP rT fT rG fG rL fL rH fH gi di re ti)) (nL := 3) ⟨hx, hb, hml, hown, hts⟩ (c_X3_rows l X (h 5) (h 6) (40 : Int32) (6 : Int32) 240 rG fG r_1 hc_2) (cwV 0 hts gX2_countIdleGrants_X3_rows rfl rfl rfl (by decide +kernel) ⟨Nat.le_of_ble_eq_true rfl, Nat.le_of_ble_eq_true rfl⟩) 3 rfl rfl rfl rfl hl.1 rfl (Nat.le_of_ble_eq_true rfl) dX2_countIdleGrants_9 hK hP (hD0.addr rfl) hS hA [5, 6] rfl rfl rfl rfl ⟨Nat.zero_le _, Nat.zero_le _⟩ (fun H locs hP hD hS => ?_)
      refine lv_icmp_ge (tgt := 32) hx hb dX2_countIdleGrants_12 (by decide) (fun c_3 => ?_) (fun c_3 => ?_)
      · replace hf := fp_t c_3 hf
        cases hf
        exact kx _ _ _ hP hS (lv_sub hl [1] rfl)
      · replace hf := fp_f c_3 hf
        refine lv_aload_n hx hb dX2_countIdleGrants_15 rfl (lv_at hl 0 rfl) ?_
        refine lv_iload_n hx hb dX2_countIdleGrants_16 rfl (lv_at hl 2 rfl) ?_
        obtain ⟨r_4, hc_5, hf⟩ := bd_of hf
        refine fn_V (v := some (.int r_4)) (As := [.int x2]) (rest := []) (st1 := [.int r_4]) (ws' := (wHo X h rP fP rT fT rG fG rL fL rH fH gi di re ti)) (nL := 3) ⟨hx, hb, hml, hown, hts⟩ (c_X2_passedOn l X h rP fP rT fT rG fG rL fL rH fH gi di re ti x2 r_4 hc_5) (cwV 1 hts gX2_countIdleGrants_X2_passedOn rfl rfl rfl (by decide +kernel) ⟨Nat.le_of_ble_eq_true rfl, Nat.le_of_ble_eq_true rfl⟩) 2 rfl rfl rfl rfl hl.1 rfl (Nat.le_of_ble_eq_true rfl) dX2_countIdleGrants_17 hK hP (hD0.addr rfl) hS hA [0, 1, 2, 3, 4, 5, 6, 7, 8, 9, 10] rfl rfl rfl rfl ⟨Nat.zero_le _, Nat.zero_le _⟩ (fun H locs hP hD hS => ?_)
        refine lv_if_ne (tgt := 26) hx hb dX2_countIdleGrants_20 (by decide) (fun c_6 => ?_) (fun c_6 => ?_)
        · replace hf := fp_f c_6 hf
          obtain ⟨v_7, ev_7⟩ : ∃ y : Int32, y = x2 + (1 : Int32) := ⟨_, rfl⟩
          replace hf := nm_of ev_7 hf
          refine lv_iinc (v := v_7) (lv' := [(2, .int v_7), (0, .ref (h 0)), (1, .int x1)]) hx hb dX2_countIdleGrants_26 hl (k := 2) rfl (by rw [ev_7]; rfl) (by decide) rfl (fun ls hl => ?_)
          refine lv_goto (tgt := 4) hx hb dX2_countIdleGrants_29 (by decide) ?_
          exact ih x1 v_7 _ _ _ hf hP hS (lv_sub hl [1, 2, 0] rfl)
        · replace hf := fp_t c_6 hf
          obtain ⟨v_8, ev_8⟩ : ∃ y : Int32, y = x1 + (1 : Int32) := ⟨_, rfl⟩
          replace hf := nm_of ev_8 hf
          refine lv_iinc (v := v_8) (lv' := [(1, .int v_8), (0, .ref (h 0)), (2, .int x2)]) hx hb dX2_countIdleGrants_23 hl (k := 1) rfl (by rw [ev_8]; rfl) (by decide) rfl (fun ls hl => ?_)
          obtain ⟨v_9, ev_9⟩ : ∃ y : Int32, y = x2 + (1 : Int32) := ⟨_, rfl⟩
          replace hf := nm_of ev_9 hf
          refine lv_iinc (v := v_9) (lv' := [(2, .int v_9), (1, .int v_8), (0, .ref (h 0))]) hx hb dX2_countIdleGrants_26 hl (k := 2) rfl (by rw [ev_9]; rfl) (by decide) rfl (fun ls hl => ?_)
          refine lv_goto (tgt := 4) hx hb dX2_countIdleGrants_29 (by decide) ?_
          exact ih v_8 v_9 _ _ _ hf hP hS (lv_sub hl [2, 1, 0] rfl)
  unfold f_X2_countIdleGrants at hf
  refine lv_iconst (v := 0) hx hb dX2_countIdleGrants_0 (by decide) ?_
  refine lv_istore_n (lv' := [(1, .int (0 : Int32)), (0, .ref (h 0))]) hx hb dX2_countIdleGrants_1 rfl hl (by decide) rfl (fun ls hl => ?_)
  refine lv_iconst (v := 0) hx hb dX2_countIdleGrants_2 (by decide) ?_
  refine lv_istore_n (lv' := [(2, .int (0 : Int32)), (1, .int (0 : Int32)), (0, .ref (h 0))]) hx hb dX2_countIdleGrants_3 rfl hl (by decide) rfl (fun ls hl => ?_)
  obtain ⟨y1_10, hL_11, hf⟩ := bd_of hf
  refine loop_4 _ y1_10 (fun H locs ls hP hS hl => ?_) FU (0 : Int32) (0 : Int32) _ _ _ hL_11 hP hS (lv_sub hl [2, 1, 0] rfl)
  refine lv_iload_n hx hb dX2_countIdleGrants_32 rfl (lv_at hl 0 rfl) ?_
  cases hf
  exact fn_iret hx hb hr hlocks hP hS dX2_countIdleGrants_33

def f_X2_countPairs_L4 (rT : Int32) (rH : Int32) (fH : (Nat → Int32)) : Nat → Int32 → Int32 →  Option (Int32)
  | 0, _, _ => none
  | k_ + 1, x1, x2 =>
    bd (f_X3_rows rT) (fun r_1 =>
    if r_1 ≤ x2 then
    (some x1)
    else
    (bd (f_X2_holdersOf x2 (1 : Int32) rH fH) (fun r_4 =>
    bd (f_J6_bitCount_0f7a4 r_4) (fun r_6 =>
    nm (x1 + r_6) (fun v_8 =>
    nm (x2 + (1 : Int32)) (fun v_9 =>
    f_X2_countPairs_L4 rT rH fH k_ v_8 v_9))))))
def f_X2_countPairs (rT : Int32) (rH : Int32) (fH : (Nat → Int32)) : Option (Int32) :=
  bd (f_X2_countPairs_L4 rT rH fH FU (0 : Int32) (0 : Int32)) (fun y1_10 =>
  some y1_10)
set_option maxHeartbeats 4000000 in
set_option maxRecDepth 100000 in
theorem c_X2_countPairs (l : Launch) (X : cx_G) (h : (Nat → Nat)) (rP : Int32) (fP : (Nat → Int32)) (rT : Int32) (fT : (Nat → Int32)) (rG : Int32) (fG : (Nat → Int32)) (rL : Int32) (fL : (Nat → Int32)) (rH : Int32) (fH : (Nat → Int32)) (gi : Int32) (di : Int32) (re : Int32) (ti : Int32) (r : Int32) (hf : f_X2_countPairs rT rH fH = some r) : Fn l yX2_countPairs wsX2_countPairs ({ frames := 2, cells := 0, slots := 0, locals := 48 } : Room) X [.ref (h 0)] (wHo X h rP fP rT fT rG fG rL fL rH fH gi di re ti) (some (.int r)) (wHo X h rP fP rT fT rG fG rL fL rH fH gi di re ti) := by
  refine fn_intro (cc := cX2_countPairs) (maxL := 3) (ret := (some .int)) (by decide) rfl rfl (Nat.le_of_ble_eq_true rfl) ?_
  intro p e s m args below meth c A ls hx hb hml hr hts hown hlocks hK hP hD0 hS hA hl
  have hown : s.vm.findClass RX2 = some m.cls := hown
  have hl : lv_has ls 3 [(0, .ref (h 0))] := hl
  have hiX2 : ∀ w ∈ u_ws RX2 TX2 9, w ∈ wsX2_countPairs := by decide +kernel
  have k20 := hts (.fieldLink RX2 20 "LentRights$House" "things" "LLentRights$Table;") (by decide +kernel)
  have loop_4 : ∀ (Q : State → Prop) (y1 : Int32), (∀ (H : Heap) (locs : List Loc) (ls : Array Slot), va_P X.1 vwCl (wHo X h rP fP rT fT rG fG rL fL rH fH gi di re ti) H → va_S A s.heap H locs → lv_has ls 3 [(1, .int y1)] → W p l e ({ frames := 2, cells := 0, slots := 0, locals := 48 } : Room) s m args below meth c H locs 0 0 Q (F0 m 33 ls [])) → ∀ (k_ : Nat) (x1 : Int32) (x2 : Int32) (H : Heap) (locs : List Loc) (ls : Array Slot), f_X2_countPairs_L4 rT rH fH k_ x1 x2 = some y1 → va_P X.1 vwCl (wHo X h rP fP rT fT rG fG rL fL rH fH gi di re ti) H → va_S A s.heap H locs → lv_has ls 3 [(0, .ref (h 0)), (1, .int x1), (2, .int x2)] → W p l e ({ frames := 2, cells := 0, slots := 0, locals := 48 } : Room) s m args below meth c H locs 0 0 Q (F0 m 4 ls []) := by
    intro Q y1 kx k_
    induction k_ with
    | zero => intro x1 x2 H locs ls hf; exact nomatch (show (none : Option (Int32)) = some _ from hf)
    | succ k_ ih =>
      intro x1 x2 H locs ls hf hP hS hl
      unfold f_X2_countPairs_L4 at hf
      refine lv_iload_n hx hb dX2_countPairs_4 rfl (lv_at hl 2 rfl) ?_
      refine lv_aload_n hx hb dX2_countPairs_5 rfl (lv_at hl 0 rfl) ?_
      refine va_get (D := X.1) (ci := 2) (v := .ref (h 3)) (C := RX2) (T := TX2) (N := 9) hx hb hts hiX2 hown hK.1 hP 0 rfl rfl 1 (by decide) k20 (fun _ h9 => h9) rfl dX2_countPairs_6 ?_
      obtain ⟨r_1, hc_2, hf⟩ := bd_of hf
      refine fn_V (v := some (.int r_1)) (As := []) (rest := [.int x2]) (st1 := [.int r_1, .int x2]) (ws' := (wHo X h rP fP rT fT rG fG rL fL rH fH gi di re ti)) (nL := 3) ⟨hx, hb, hml, hown, hts⟩ (c_X3_rows l X (h 3) (h 4) (8 : Int32) (2 : Int32) 16 rT fT r_1 hc_2) (cwV 0 hts gX2_countPairs_X3_rows rfl rfl rfl (by decide +kernel) ⟨Nat.le_of_ble_eq_true rfl, Nat.le_of_ble_eq_true rfl⟩) 3 rfl rfl rfl rfl hl.1 rfl (Nat.le_of_ble_eq_true rfl) dX2_countPairs_9 hK hP (hD0.addr rfl) hS hA [3, 4] rfl rfl rfl rfl ⟨Nat.zero_le _, Nat.zero_le _⟩ (fun H locs hP hD hS => ?_)
      refine lv_icmp_ge (tgt := 33) hx hb dX2_countPairs_12 (by decide) (fun c_3 => ?_) (fun c_3 => ?_)
      · replace hf := fp_t c_3 hf
        cases hf
        exact kx _ _ _ hP hS (lv_sub hl [1] rfl)
      · replace hf := fp_f c_3 hf
        refine lv_iload_n hx hb dX2_countPairs_15 rfl (lv_at hl 1 rfl) ?_
        refine lv_aload_n hx hb dX2_countPairs_16 rfl (lv_at hl 0 rfl) ?_
        refine lv_iload_n hx hb dX2_countPairs_17 rfl (lv_at hl 2 rfl) ?_
        refine lv_iconst (v := 1) hx hb dX2_countPairs_18 (by decide) ?_
        obtain ⟨r_4, hc_5, hf⟩ := bd_of hf
        refine fn_V (v := some (.int r_4)) (As := [.int x2, .int (1 : Int32)]) (rest := [.int x1]) (st1 := [.int r_4, .int x1]) (ws' := (wHo X h rP fP rT fT rG fG rL fL rH fH gi di re ti)) (nL := 3) ⟨hx, hb, hml, hown, hts⟩ (c_X2_holdersOf l X h rP fP rT fT rG fG rL fL rH fH gi di re ti x2 (1 : Int32) r_4 hc_5) (cwV 2 hts gX2_countPairs_X2_holdersOf rfl rfl rfl (by decide +kernel) ⟨Nat.le_of_ble_eq_true rfl, Nat.le_of_ble_eq_true rfl⟩) 2 rfl rfl rfl rfl hl.1 rfl (Nat.le_of_ble_eq_true rfl) dX2_countPairs_19 hK hP (hD0.addr rfl) hS hA [0, 1, 2, 3, 4, 5, 6, 7, 8, 9, 10] rfl rfl rfl rfl ⟨Nat.zero_le _, Nat.zero_le _⟩ (fun H locs hP hD hS => ?_)
        obtain ⟨r_6, hc_7, hf⟩ := bd_of hf
        refine fn_Sx (v := some (.int r_6)) (As := [.int r_4]) (rest := [.int x1]) (st1 := [.int r_6, .int x1]) (ws' := (wHo X h rP fP rT fT rG fG rL fL rH fH gi di re ti)) (nL := 3) ⟨hx, hb, hml, hown, hts⟩ (c_J6_bitCount_0f7a4 l X r_4 r_6 hc_7) (va_cwS 1 hts gX2_countPairs_J6_bitCount_0f7a4 rfl rfl rfl (by decide +kernel) ⟨Nat.le_of_ble_eq_true rfl, Nat.le_of_ble_eq_true rfl⟩) rfl hl.1 rfl (Nat.le_of_ble_eq_true rfl) dX2_countPairs_22 hK hP (hD0.addr rfl) hS hA [] rfl rfl rfl rfl ⟨Nat.zero_le _, Nat.zero_le _⟩ (fun H locs hP hD hS => ?_)
        refine lv_iadd hx hb dX2_countPairs_25 ?_
        refine lv_topi (fun v_8 ev_8 => ?_)
        replace hf := nm_of ev_8 hf
        refine lv_istore_n (lv' := [(1, .int v_8), (0, .ref (h 0)), (2, .int x2)]) hx hb dX2_countPairs_26 rfl hl (by decide) rfl (fun ls hl => ?_)
        obtain ⟨v_9, ev_9⟩ : ∃ y : Int32, y = x2 + (1 : Int32) := ⟨_, rfl⟩
        replace hf := nm_of ev_9 hf
        refine lv_iinc (v := v_9) (lv' := [(2, .int v_9), (1, .int v_8), (0, .ref (h 0))]) hx hb dX2_countPairs_27 hl (k := 2) rfl (by rw [ev_9]; rfl) (by decide) rfl (fun ls hl => ?_)
        refine lv_goto (tgt := 4) hx hb dX2_countPairs_30 (by decide) ?_
        exact ih v_8 v_9 _ _ _ hf hP hS (lv_sub hl [2, 1, 0] rfl)
  unfold f_X2_countPairs at hf
  refine lv_iconst (v := 0) hx hb dX2_countPairs_0 (by decide) ?_
  refine lv_istore_n (lv' := [(1, .int (0 : Int32)), (0, .ref (h 0))]) hx hb dX2_countPairs_1 rfl hl (by decide) rfl (fun ls hl => ?_)
  refine lv_iconst (v := 0) hx hb dX2_countPairs_2 (by decide) ?_
  refine lv_istore_n (lv' := [(2, .int (0 : Int32)), (1, .int (0 : Int32)), (0, .ref (h 0))]) hx hb dX2_countPairs_3 rfl hl (by decide) rfl (fun ls hl => ?_)
  obtain ⟨y1_10, hL_11, hf⟩ := bd_of hf
  refine loop_4 _ y1_10 (fun H locs ls hP hS hl => ?_) FU (0 : Int32) (0 : Int32) _ _ _ hL_11 hP hS (lv_sub hl [2, 1, 0] rfl)
  refine lv_iload_n hx hb dX2_countPairs_33 rfl (lv_at hl 0 rfl) ?_
  cases hf
  exact fn_iret hx hb hr hlocks hP hS dX2_countPairs_34

def f_X2_greatestThreshold_L4 (x1 : Int32) (rG : Int32) (fG : (Nat → Int32)) : Nat → Int32 → Int32 →  Option (Int32)
  | 0, _, _ => none
  | k_ + 1, x2, x3 =>
    bd (f_X3_rows rG) (fun r_1 =>
    if r_1 ≤ x3 then
    (some x2)
    else
    (bd (f_X3_at (6 : Int32) 240 x3 (0 : Int32) rG fG) (fun r_4 =>
    if r_4 = x1 then
    (bd (f_X3_at (6 : Int32) 240 x3 (4 : Int32) rG fG) (fun r_8 =>
    nm (if x2 < r_8 then r_8 else x2) (fun v_10 =>
    nm (x3 + (1 : Int32)) (fun v_11 =>
    f_X2_greatestThreshold_L4 x1 rG fG k_ v_10 v_11))))
    else
    (nm (x3 + (1 : Int32)) (fun v_7 =>
    f_X2_greatestThreshold_L4 x1 rG fG k_ x2 v_7)))))
def f_X2_greatestThreshold (x1 : Int32) (rG : Int32) (fG : (Nat → Int32)) : Option (Int32) :=
  bd (f_X2_greatestThreshold_L4 x1 rG fG FU (0 : Int32) (0 : Int32)) (fun y2_12 =>
  some y2_12)
set_option maxHeartbeats 4000000 in
set_option maxRecDepth 100000 in
theorem c_X2_greatestThreshold (l : Launch) (X : cx_G) (h : (Nat → Nat)) (rP : Int32) (fP : (Nat → Int32)) (rT : Int32) (fT : (Nat → Int32)) (rG : Int32) (fG : (Nat → Int32)) (rL : Int32) (fL : (Nat → Int32)) (rH : Int32) (fH : (Nat → Int32)) (gi : Int32) (di : Int32) (re : Int32) (ti : Int32) (x1 : Int32) (r : Int32) (hf : f_X2_greatestThreshold x1 rG fG = some r) : Fn l yX2_greatestThreshold wsX2_greatestThreshold ({ frames := 1, cells := 0, slots := 0, locals := 24 } : Room) X [.ref (h 0), .int x1] (wHo X h rP fP rT fT rG fG rL fL rH fH gi di re ti) (some (.int r)) (wHo X h rP fP rT fT rG fG rL fL rH fH gi di re ti) := by
  refine fn_intro (cc := cX2_greatestThreshold) (maxL := 4) (ret := (some .int)) (by decide) rfl rfl (Nat.le_of_ble_eq_true rfl) ?_
  intro p e s m args below meth c A ls hx hb hml hr hts hown hlocks hK hP hD0 hS hA hl
  have hown : s.vm.findClass RX2 = some m.cls := hown
  have hl : lv_has ls 4 [(0, .ref (h 0)), (1, .int x1)] := hl
  have hiX2 : ∀ w ∈ u_ws RX2 TX2 9, w ∈ wsX2_greatestThreshold := by decide +kernel
  have k23 := hts (.fieldLink RX2 23 "LentRights$House" "grants" "LLentRights$Table;") (by decide +kernel)
  have loop_4 : ∀ (Q : State → Prop) (y2 : Int32), (∀ (H : Heap) (locs : List Loc) (ls : Array Slot), va_P X.1 vwCl (wHo X h rP fP rT fT rG fG rL fL rH fH gi di re ti) H → va_S A s.heap H locs → lv_has ls 4 [(2, .int y2)] → W p l e ({ frames := 1, cells := 0, slots := 0, locals := 24 } : Room) s m args below meth c H locs 0 0 Q (F0 m 48 ls [])) → ∀ (k_ : Nat) (x2 : Int32) (x3 : Int32) (H : Heap) (locs : List Loc) (ls : Array Slot), f_X2_greatestThreshold_L4 x1 rG fG k_ x2 x3 = some y2 → va_P X.1 vwCl (wHo X h rP fP rT fT rG fG rL fL rH fH gi di re ti) H → va_S A s.heap H locs → lv_has ls 4 [(0, .ref (h 0)), (1, .int x1), (2, .int x2), (3, .int x3)] → W p l e ({ frames := 1, cells := 0, slots := 0, locals := 24 } : Room) s m args below meth c H locs 0 0 Q (F0 m 4 ls []) := by
    intro Q y2 kx k_
    induction k_ with
    | zero => intro x2 x3 H locs ls hf; exact nomatch (show (none : Option (Int32)) = some _ from hf)
    | succ k_ ih =>
      intro x2 x3 H locs ls hf hP hS hl
      unfold f_X2_greatestThreshold_L4 at hf
      refine lv_iload_n hx hb dX2_greatestThreshold_4 rfl (lv_at hl 3 rfl) ?_
      refine lv_aload_n hx hb dX2_greatestThreshold_5 rfl (lv_at hl 0 rfl) ?_
      refine va_get (D := X.1) (ci := 2) (v := .ref (h 5)) (C := RX2) (T := TX2) (N := 9) hx hb hts hiX2 hown hK.1 hP 0 rfl rfl 2 (by decide) k23 (fun _ h9 => h9) rfl dX2_greatestThreshold_6 ?_
      obtain ⟨r_1, hc_2, hf⟩ := bd_of hf
      refine fn_V (v := some (.int r_1)) (As := []) (rest := [.int x3]) (st1 := [.int r_1, .int x3]) (ws' := (wHo X h rP fP rT fT rG fG rL fL rH fH gi di re ti)) (nL := 4) ⟨hx, hb, hml, hown, hts⟩ (c_X3_rows l X (h 5) (h 6) (40 : Int32) (6 : Int32) 240 rG fG r_1 hc_2) (cwV 0 hts gX2_greatestThreshold_X3_rows rfl rfl rfl (by decide +kernel) ⟨Nat.le_of_ble_eq_true rfl, Nat.le_of_ble_eq_true rfl⟩) 3 rfl rfl rfl rfl hl.1 rfl (Nat.le_of_ble_eq_true rfl) dX2_greatestThreshold_9 hK hP (hD0.addr rfl) hS hA [5, 6] rfl rfl rfl rfl ⟨Nat.zero_le _, Nat.zero_le _⟩ (fun H locs hP hD hS => ?_)
      refine lv_icmp_ge (tgt := 48) hx hb dX2_greatestThreshold_12 (by decide) (fun c_3 => ?_) (fun c_3 => ?_)
      · replace hf := fp_t c_3 hf
        cases hf
        exact kx _ _ _ hP hS (lv_sub hl [2] rfl)
      · replace hf := fp_f c_3 hf
        refine lv_aload_n hx hb dX2_greatestThreshold_15 rfl (lv_at hl 0 rfl) ?_
        refine va_get (D := X.1) (ci := 2) (v := .ref (h 5)) (C := RX2) (T := TX2) (N := 9) hx hb hts hiX2 hown hK.1 hP 0 rfl rfl 2 (by decide) k23 (fun _ h9 => h9) rfl dX2_greatestThreshold_16 ?_
        refine lv_iload_n hx hb dX2_greatestThreshold_19 rfl (lv_at hl 3 rfl) ?_
        refine lv_iconst (v := 0) hx hb dX2_greatestThreshold_20 (by decide) ?_
        obtain ⟨r_4, hc_5, hf⟩ := bd_of hf
        refine fn_V (v := some (.int r_4)) (As := [.int x3, .int (0 : Int32)]) (rest := []) (st1 := [.int r_4]) (ws' := (wHo X h rP fP rT fT rG fG rL fL rH fH gi di re ti)) (nL := 4) ⟨hx, hb, hml, hown, hts⟩ (c_X3_at l X (h 5) (h 6) (40 : Int32) (6 : Int32) 240 rG fG x3 (0 : Int32) r_4 hc_5) (cwV 2 hts gX2_greatestThreshold_X3_at rfl rfl rfl (by decide +kernel) ⟨Nat.le_of_ble_eq_true rfl, Nat.le_of_ble_eq_true rfl⟩) 3 rfl rfl rfl rfl hl.1 rfl (Nat.le_of_ble_eq_true rfl) dX2_greatestThreshold_21 hK hP (hD0.addr rfl) hS hA [5, 6] rfl rfl rfl rfl ⟨Nat.zero_le _, Nat.zero_le _⟩ (fun H locs hP hD hS => ?_)
        refine lv_iload_n hx hb dX2_greatestThreshold_24 rfl (lv_at hl 1 rfl) ?_
        refine lv_icmp_ne (tgt := 42) hx hb dX2_greatestThreshold_25 (by decide) (fun c_6 => ?_) (fun c_6 => ?_)
        · replace hf := fp_f c_6 hf
          obtain ⟨v_7, ev_7⟩ : ∃ y : Int32, y = x3 + (1 : Int32) := ⟨_, rfl⟩
          replace hf := nm_of ev_7 hf
          refine lv_iinc (v := v_7) (lv' := [(3, .int v_7), (0, .ref (h 0)), (1, .int x1), (2, .int x2)]) hx hb dX2_greatestThreshold_42 hl (k := 3) rfl (by rw [ev_7]; rfl) (by decide) rfl (fun ls hl => ?_)
          refine lv_goto (tgt := 4) hx hb dX2_greatestThreshold_45 (by decide) ?_
          exact ih x2 v_7 _ _ _ hf hP hS (lv_sub hl [1, 2, 3, 0] rfl)
        · replace hf := fp_t c_6 hf
          refine lv_iload_n hx hb dX2_greatestThreshold_28 rfl (lv_at hl 2 rfl) ?_
          refine lv_aload_n hx hb dX2_greatestThreshold_29 rfl (lv_at hl 0 rfl) ?_
          refine va_get (D := X.1) (ci := 2) (v := .ref (h 5)) (C := RX2) (T := TX2) (N := 9) hx hb hts hiX2 hown hK.1 hP 0 rfl rfl 2 (by decide) k23 (fun _ h9 => h9) rfl dX2_greatestThreshold_30 ?_
          refine lv_iload_n hx hb dX2_greatestThreshold_33 rfl (lv_at hl 3 rfl) ?_
          refine lv_iconst (v := 4) hx hb dX2_greatestThreshold_34 (by decide) ?_
          obtain ⟨r_8, hc_9, hf⟩ := bd_of hf
          refine fn_V (v := some (.int r_8)) (As := [.int x3, .int (4 : Int32)]) (rest := [.int x2]) (st1 := [.int r_8, .int x2]) (ws' := (wHo X h rP fP rT fT rG fG rL fL rH fH gi di re ti)) (nL := 4) ⟨hx, hb, hml, hown, hts⟩ (c_X3_at l X (h 5) (h 6) (40 : Int32) (6 : Int32) 240 rG fG x3 (4 : Int32) r_8 hc_9) (cwV 2 hts gX2_greatestThreshold_X3_at rfl rfl rfl (by decide +kernel) ⟨Nat.le_of_ble_eq_true rfl, Nat.le_of_ble_eq_true rfl⟩) 3 rfl rfl rfl rfl hl.1 rfl (Nat.le_of_ble_eq_true rfl) dX2_greatestThreshold_35 hK hP (hD0.addr rfl) hS hA [5, 6] rfl rfl rfl rfl ⟨Nat.zero_le _, Nat.zero_le _⟩ (fun H locs hP hD hS => ?_)
          refine va_mmax hx hb (hml.trans hl.1.symm) hown (hts (.methodLink RX2 94 Lib.Math.max.name) (by decide +kernel)) (hts (.static Lib.Math.max.name) (by decide +kernel)) (hts (.initialized "java/lang/Math") (by decide +kernel)) (hts (.code Lib.Math.max.name Lib.Math.max.code 2 (some .int)) (by decide +kernel)) (Nat.le_of_ble_eq_true rfl) (Nat.le_of_ble_eq_true rfl) (Nat.zero_le _) (Nat.zero_le _) dX2_greatestThreshold_38 ?_
          refine lv_topi (fun v_10 ev_10 => ?_)
          replace hf := nm_of ev_10 hf
          refine lv_istore_n (lv' := [(2, .int v_10), (0, .ref (h 0)), (1, .int x1), (3, .int x3)]) hx hb dX2_greatestThreshold_41 rfl hl (by decide) rfl (fun ls hl => ?_)
          obtain ⟨v_11, ev_11⟩ : ∃ y : Int32, y = x3 + (1 : Int32) := ⟨_, rfl⟩
          replace hf := nm_of ev_11 hf
          refine lv_iinc (v := v_11) (lv' := [(3, .int v_11), (2, .int v_10), (0, .ref (h 0)), (1, .int x1)]) hx hb dX2_greatestThreshold_42 hl (k := 3) rfl (by rw [ev_11]; rfl) (by decide) rfl (fun ls hl => ?_)
          refine lv_goto (tgt := 4) hx hb dX2_greatestThreshold_45 (by decide) ?_
          exact ih v_10 v_11 _ _ _ hf hP hS (lv_sub hl [2, 3, 1, 0] rfl)
  unfold f_X2_greatestThreshold at hf
  refine lv_iconst (v := 0) hx hb dX2_greatestThreshold_0 (by decide) ?_
  refine lv_istore_n (lv' := [(2, .int (0 : Int32)), (0, .ref (h 0)), (1, .int x1)]) hx hb dX2_greatestThreshold_1 rfl hl (by decide) rfl (fun ls hl => ?_)
  refine lv_iconst (v := 0) hx hb dX2_greatestThreshold_2 (by decide) ?_
  refine lv_istore_n (lv' := [(3, .int (0 : Int32)), (2, .int (0 : Int32)), (0, .ref (h 0)), (1, .int x1)]) hx hb dX2_greatestThreshold_3 rfl hl (by decide) rfl (fun ls hl => ?_)
  obtain ⟨y2_12, hL_13, hf⟩ := bd_of hf
  refine loop_4 _ y2_12 (fun H locs ls hP hS hl => ?_) FU (0 : Int32) (0 : Int32) _ _ _ hL_13 hP hS (lv_sub hl [2, 3, 1, 0] rfl)
  refine lv_iload_n hx hb dX2_greatestThreshold_48 rfl (lv_at hl 0 rfl) ?_
  cases hf
  exact fn_iret hx hb hr hlocks hP hS dX2_greatestThreshold_49

def f_X2_isGrantOf (x1 : Int32) (x2 : Int32) (x3 : Int32) (x4 : Int32) (rG : Int32) (fG : (Nat → Int32)) : Option (Int32) :=
  bd (f_X3_at (6 : Int32) 240 x1 (1 : Int32) rG fG) (fun r_1 =>
  if r_1 = x2 then
  (bd (f_X3_at (6 : Int32) 240 x1 (2 : Int32) rG fG) (fun r_4 =>
  if r_4 = x3 then
  (bd (f_X3_at (6 : Int32) 240 x1 (3 : Int32) rG fG) (fun r_7 =>
  if r_7 &&& x4 = (0 : Int32) then
  (some (0 : Int32))
  else
  (some (1 : Int32))))
  else
  (some (0 : Int32))))
  else
  (some (0 : Int32)))
theorem z_X2_isGrantOf {x1 : Int32} {x2 : Int32} {x3 : Int32} {x4 : Int32} {rG : Int32} {fG : (Nat → Int32)} {r : Int32} (hf : f_X2_isGrantOf x1 x2 x3 x4 rG fG = some r) : r = 0 ∨ r = 1 := by
  unfold f_X2_isGrantOf at hf
  obtain ⟨r_1, hc_2, hf⟩ := bd_of hf
  by_cases c_3 : r_1 = x2
  · replace hf := fp_t c_3 hf
    obtain ⟨r_4, hc_5, hf⟩ := bd_of hf
    by_cases c_6 : r_4 = x3
    · replace hf := fp_t c_6 hf
      obtain ⟨r_7, hc_8, hf⟩ := bd_of hf
      by_cases c_9 : r_7 &&& x4 = (0 : Int32)
      · replace hf := fp_t c_9 hf
        cases hf
        exact Or.inl rfl
      · replace hf := fp_f c_9 hf
        cases hf
        exact Or.inr rfl
    · replace hf := fp_f c_6 hf
      cases hf
      exact Or.inl rfl
  · replace hf := fp_f c_3 hf
    cases hf
    exact Or.inl rfl
set_option maxHeartbeats 4000000 in
set_option maxRecDepth 100000 in
theorem c_X2_isGrantOf (l : Launch) (X : cx_G) (h : (Nat → Nat)) (rP : Int32) (fP : (Nat → Int32)) (rT : Int32) (fT : (Nat → Int32)) (rG : Int32) (fG : (Nat → Int32)) (rL : Int32) (fL : (Nat → Int32)) (rH : Int32) (fH : (Nat → Int32)) (gi : Int32) (di : Int32) (re : Int32) (ti : Int32) (x1 : Int32) (x2 : Int32) (x3 : Int32) (x4 : Int32) (r : Int32) (hf : f_X2_isGrantOf x1 x2 x3 x4 rG fG = some r) : Fn l yX2_isGrantOf wsX2_isGrantOf ({ frames := 1, cells := 0, slots := 0, locals := 24 } : Room) X [.ref (h 0), .int x1, .int x2, .int x3, .int x4] (wHo X h rP fP rT fT rG fG rL fL rH fH gi di re ti) (some (.int r)) (wHo X h rP fP rT fT rG fG rL fL rH fH gi di re ti) := by
  refine fn_intro (cc := cX2_isGrantOf) (maxL := 5) (ret := (some .boolean)) (by decide) rfl rfl (Nat.le_of_ble_eq_true rfl) ?_
  intro p e s m args below meth c A ls hx hb hml hr hts hown hlocks hK hP hD0 hS hA hl
  have hown : s.vm.findClass RX2 = some m.cls := hown
  have hl : lv_has ls 5 [(0, .ref (h 0)), (1, .int x1), (2, .int x2), (3, .int x3), (4, .int x4)] := hl
  have hiX2 : ∀ w ∈ u_ws RX2 TX2 9, w ∈ wsX2_isGrantOf := by decide +kernel
  have k23 := hts (.fieldLink RX2 23 "LentRights$House" "grants" "LLentRights$Table;") (by decide +kernel)
  unfold f_X2_isGrantOf at hf
  refine lv_aload_n hx hb dX2_isGrantOf_0 rfl (lv_at hl 0 rfl) ?_
  refine va_get (D := X.1) (ci := 2) (v := .ref (h 5)) (C := RX2) (T := TX2) (N := 9) hx hb hts hiX2 hown hK.1 hP 0 rfl rfl 2 (by decide) k23 (fun _ h9 => h9) rfl dX2_isGrantOf_1 ?_
  refine lv_iload_n hx hb dX2_isGrantOf_4 rfl (lv_at hl 1 rfl) ?_
  refine lv_iconst (v := 1) hx hb dX2_isGrantOf_5 (by decide) ?_
  obtain ⟨r_1, hc_2, hf⟩ := bd_of hf
  refine fn_V (v := some (.int r_1)) (As := [.int x1, .int (1 : Int32)]) (rest := []) (st1 := [.int r_1]) (ws' := (wHo X h rP fP rT fT rG fG rL fL rH fH gi di re ti)) (nL := 5) ⟨hx, hb, hml, hown, hts⟩ (c_X3_at l X (h 5) (h 6) (40 : Int32) (6 : Int32) 240 rG fG x1 (1 : Int32) r_1 hc_2) (cwV 2 hts gX2_isGrantOf_X3_at rfl rfl rfl (by decide +kernel) ⟨Nat.le_of_ble_eq_true rfl, Nat.le_of_ble_eq_true rfl⟩) 3 rfl rfl rfl rfl hl.1 rfl (Nat.le_of_ble_eq_true rfl) dX2_isGrantOf_6 hK hP (hD0.addr rfl) hS hA [5, 6] rfl rfl rfl rfl ⟨Nat.zero_le _, Nat.zero_le _⟩ (fun H locs hP hD hS => ?_)
  refine lv_iload_n hx hb dX2_isGrantOf_9 rfl (lv_at hl 2 rfl) ?_
  refine lv_icmp_ne (tgt := 45) hx hb dX2_isGrantOf_10 (by decide) (fun c_3 => ?_) (fun c_3 => ?_)
  · replace hf := fp_f c_3 hf
    refine lv_iconst (v := 0) hx hb dX2_isGrantOf_45 (by decide) ?_
    cases hf
    exact fn_zret hx hb hr rfl hlocks hP hS dX2_isGrantOf_46
  · replace hf := fp_t c_3 hf
    refine lv_aload_n hx hb dX2_isGrantOf_13 rfl (lv_at hl 0 rfl) ?_
    refine va_get (D := X.1) (ci := 2) (v := .ref (h 5)) (C := RX2) (T := TX2) (N := 9) hx hb hts hiX2 hown hK.1 hP 0 rfl rfl 2 (by decide) k23 (fun _ h9 => h9) rfl dX2_isGrantOf_14 ?_
    refine lv_iload_n hx hb dX2_isGrantOf_17 rfl (lv_at hl 1 rfl) ?_
    refine lv_iconst (v := 2) hx hb dX2_isGrantOf_18 (by decide) ?_
    obtain ⟨r_4, hc_5, hf⟩ := bd_of hf
    refine fn_V (v := some (.int r_4)) (As := [.int x1, .int (2 : Int32)]) (rest := []) (st1 := [.int r_4]) (ws' := (wHo X h rP fP rT fT rG fG rL fL rH fH gi di re ti)) (nL := 5) ⟨hx, hb, hml, hown, hts⟩ (c_X3_at l X (h 5) (h 6) (40 : Int32) (6 : Int32) 240 rG fG x1 (2 : Int32) r_4 hc_5) (cwV 2 hts gX2_isGrantOf_X3_at rfl rfl rfl (by decide +kernel) ⟨Nat.le_of_ble_eq_true rfl, Nat.le_of_ble_eq_true rfl⟩) 3 rfl rfl rfl rfl hl.1 rfl (Nat.le_of_ble_eq_true rfl) dX2_isGrantOf_19 hK hP (hD0.addr rfl) hS hA [5, 6] rfl rfl rfl rfl ⟨Nat.zero_le _, Nat.zero_le _⟩ (fun H locs hP hD hS => ?_)
    refine lv_iload_n hx hb dX2_isGrantOf_22 rfl (lv_at hl 3 rfl) ?_
    refine lv_icmp_ne (tgt := 45) hx hb dX2_isGrantOf_23 (by decide) (fun c_6 => ?_) (fun c_6 => ?_)
    · replace hf := fp_f c_6 hf
      refine lv_iconst (v := 0) hx hb dX2_isGrantOf_45 (by decide) ?_
      cases hf
      exact fn_zret hx hb hr rfl hlocks hP hS dX2_isGrantOf_46
    · replace hf := fp_t c_6 hf
      refine lv_aload_n hx hb dX2_isGrantOf_26 rfl (lv_at hl 0 rfl) ?_
      refine va_get (D := X.1) (ci := 2) (v := .ref (h 5)) (C := RX2) (T := TX2) (N := 9) hx hb hts hiX2 hown hK.1 hP 0 rfl rfl 2 (by decide) k23 (fun _ h9 => h9) rfl dX2_isGrantOf_27 ?_
      refine lv_iload_n hx hb dX2_isGrantOf_30 rfl (lv_at hl 1 rfl) ?_
      refine lv_iconst (v := 3) hx hb dX2_isGrantOf_31 (by decide) ?_
      obtain ⟨r_7, hc_8, hf⟩ := bd_of hf
      refine fn_V (v := some (.int r_7)) (As := [.int x1, .int (3 : Int32)]) (rest := []) (st1 := [.int r_7]) (ws' := (wHo X h rP fP rT fT rG fG rL fL rH fH gi di re ti)) (nL := 5) ⟨hx, hb, hml, hown, hts⟩ (c_X3_at l X (h 5) (h 6) (40 : Int32) (6 : Int32) 240 rG fG x1 (3 : Int32) r_7 hc_8) (cwV 2 hts gX2_isGrantOf_X3_at rfl rfl rfl (by decide +kernel) ⟨Nat.le_of_ble_eq_true rfl, Nat.le_of_ble_eq_true rfl⟩) 3 rfl rfl rfl rfl hl.1 rfl (Nat.le_of_ble_eq_true rfl) dX2_isGrantOf_32 hK hP (hD0.addr rfl) hS hA [5, 6] rfl rfl rfl rfl ⟨Nat.zero_le _, Nat.zero_le _⟩ (fun H locs hP hD hS => ?_)
      refine lv_iload hx hb dX2_isGrantOf_35 (lv_at hl 4 rfl) ?_
      refine lv_iand hx hb dX2_isGrantOf_37 ?_
      refine lv_if_eq (tgt := 45) hx hb dX2_isGrantOf_38 (by decide) (fun c_9 => ?_) (fun c_9 => ?_)
      · replace hf := fp_t c_9 hf
        refine lv_iconst (v := 0) hx hb dX2_isGrantOf_45 (by decide) ?_
        cases hf
        exact fn_zret hx hb hr rfl hlocks hP hS dX2_isGrantOf_46
      · replace hf := fp_f c_9 hf
        refine lv_iconst (v := 1) hx hb dX2_isGrantOf_41 (by decide) ?_
        refine lv_goto (tgt := 46) hx hb dX2_isGrantOf_42 (by decide) ?_
        cases hf
        exact fn_zret hx hb hr rfl hlocks hP hS dX2_isGrantOf_46

def f_X2_settle_L80 (rT : Int32) (fT : (Nat → Int32)) (rG : Int32) (fG : (Nat → Int32)) (rH : Int32) : Nat → Int32 → Int32 → (Nat → Int32) →  Option (Int32 × (Nat → Int32))
  | 0, _, _, _ => none
  | k_ + 1, x1, x3, fH =>
    bd (f_X3_rows rG) (fun r_1 =>
    if r_1 ≤ x3 then
    (some (x1, fH))
    else
    (bd (f_X3_at (6 : Int32) 240 x3 (2 : Int32) rG fG) (fun r_4 =>
    bd (f_X3_at (6 : Int32) 240 x3 (1 : Int32) rG fG) (fun r_6 =>
    bd (f_X3_at (10 : Int32) 80 r_4 r_6 rH fH) (fun r_8 =>
    bd (f_X2_passedOn x3 rT fT rG fG rH fH) (fun r_10 =>
    nm (r_8 ||| r_10) (fun v_12 =>
    bd (f_X3_put (10 : Int32) 80 r_4 r_6 v_12 rH fH) (fun fH_13 =>
    if x1 = (0 : Int32) then
    (if v_12 = r_8 then
    (nm (x3 + (1 : Int32)) (fun v_18 =>
    f_X2_settle_L80 rT fT rG fG rH k_ (0 : Int32) v_18 fH_13))
    else
    (nm (x3 + (1 : Int32)) (fun v_19 =>
    f_X2_settle_L80 rT fT rG fG rH k_ (1 : Int32) v_19 fH_13)))
    else
    (nm (x3 + (1 : Int32)) (fun v_16 =>
    f_X2_settle_L80 rT fT rG fG rH k_ (1 : Int32) v_16 fH_13))))))))))
def f_X2_settle_L65 (rT : Int32) (fT : (Nat → Int32)) (rG : Int32) (fG : (Nat → Int32)) (rH : Int32) : Nat → Int32 → Int32 → (Nat → Int32) →  Option ((Nat → Int32))
  | 0, _, _, _ => none
  | k_ + 1, x1, x2, fH =>
    if (241 : Int32) ≤ x2 then
    (some fH)
    else
    (if x1 = (0 : Int32) then
    (some fH)
    else
    (bd2 (f_X2_settle_L80 rT fT rG fG rH FU (0 : Int32) (0 : Int32) fH) (fun y1_22 fH_23 =>
    nm (x2 + (1 : Int32)) (fun v_25 =>
    f_X2_settle_L65 rT fT rG fG rH k_ y1_22 v_25 fH_23))))
def f_X2_settle_L15 (x1 : Int32) (rT : Int32) (fT : (Nat → Int32)) (rH : Int32) : Nat → Int32 → (Nat → Int32) →  Option ((Nat → Int32))
  | 0, _, _ => none
  | k_ + 1, x2, fH =>
    if (10 : Int32) ≤ x2 then
    (some fH)
    else
    (bd (f_X3_at (2 : Int32) 16 x1 (0 : Int32) rT fT) (fun r_27 =>
    if x2 = r_27 then
    (bd (f_X3_put (10 : Int32) 80 x1 x2 (7 : Int32) rH fH) (fun fH_33 =>
    nm (x2 + (1 : Int32)) (fun v_35 =>
    f_X2_settle_L15 x1 rT fT rH k_ v_35 fH_33)))
    else
    (bd (f_X3_put (10 : Int32) 80 x1 x2 (0 : Int32) rH fH) (fun fH_30 =>
    nm (x2 + (1 : Int32)) (fun v_32 =>
    f_X2_settle_L15 x1 rT fT rH k_ v_32 fH_30)))))
def f_X2_settle_L2 (rT : Int32) (fT : (Nat → Int32)) (rH : Int32) : Nat → Int32 → (Nat → Int32) →  Option ((Nat → Int32))
  | 0, _, _ => none
  | k_ + 1, x1, fH =>
    bd (f_X3_rows rT) (fun r_36 =>
    if r_36 ≤ x1 then
    (some fH)
    else
    (bd (f_X2_settle_L15 x1 rT fT rH FU (0 : Int32) fH) (fun fH_39 =>
    nm (x1 + (1 : Int32)) (fun v_41 =>
    f_X2_settle_L2 rT fT rH k_ v_41 fH_39))))
def f_X2_settle (rT : Int32) (fT : (Nat → Int32)) (rG : Int32) (fG : (Nat → Int32)) (rH : Int32) (fH : (Nat → Int32)) : Option ((Nat → Int32)) :=
  bd (f_X2_settle_L2 rT fT rH FU (0 : Int32) fH) (fun fH_42 =>
  bd (f_X2_settle_L65 rT fT rG fG rH FU (1 : Int32) (0 : Int32) fH_42) (fun fH_44 =>
  some fH_44))
set_option maxHeartbeats 4000000 in
set_option maxRecDepth 100000 in
theorem c_X2_settle (l : Launch) (X : cx_G) (h : (Nat → Nat)) (rP : Int32) (fP : (Nat → Int32)) (rT : Int32) (fT : (Nat → Int32)) (rG : Int32) (fG : (Nat → Int32)) (rL : Int32) (fL : (Nat → Int32)) (rH : Int32) (fH : (Nat → Int32)) (gi : Int32) (di : Int32) (re : Int32) (ti : Int32) (fH' : (Nat → Int32)) (hf : f_X2_settle rT fT rG fG rH fH = some fH') : Fn l yX2_settle wsX2_settle ({ frames := 2, cells := 0, slots := 0, locals := 47 } : Room) X [.ref (h 0)] (wHo X h rP fP rT fT rG fG rL fL rH fH gi di re ti) none (wHo X h rP fP rT fT rG fG rL fL rH fH' gi di re ti) := by
  refine fn_intro (cc := cX2_settle) (maxL := 8) (ret := none) (by decide) rfl rfl (Nat.le_of_ble_eq_true rfl) ?_
  intro p e s m args below meth c A ls hx hb hml hr hts hown hlocks hK hP hD0 hS hA hl
  have hown : s.vm.findClass RX2 = some m.cls := hown
  have hl : lv_has ls 8 [(0, .ref (h 0))] := hl
  have hiX2 : ∀ w ∈ u_ws RX2 TX2 9, w ∈ wsX2_settle := by decide +kernel
  have k20 := hts (.fieldLink RX2 20 "LentRights$House" "things" "LLentRights$Table;") (by decide +kernel)
  have k23 := hts (.fieldLink RX2 23 "LentRights$House" "grants" "LLentRights$Table;") (by decide +kernel)
  have k29 := hts (.fieldLink RX2 29 "LentRights$House" "held" "LLentRights$Table;") (by decide +kernel)
  have loop_80 : ∀ (Q : State → Prop) (x2 : Int32) (y1 : Int32) (fHo : (Nat → Int32)), (∀ (H : Heap) (locs : List Loc) (ls : Array Slot), va_P X.1 vwCl (wHo X h rP fP rT fT rG fG rL fL rH fHo gi di re ti) H → va_S A s.heap H locs → lv_has ls 8 [(0, .ref (h 0)), (1, .int y1), (2, .int x2)] → W p l e ({ frames := 2, cells := 0, slots := 0, locals := 47 } : Room) s m args below meth c H locs 0 0 Q (F0 m 172 ls [])) → ∀ (k_ : Nat) (x1 : Int32) (x3 : Int32) (fH : (Nat → Int32)) (H : Heap) (locs : List Loc) (ls : Array Slot), f_X2_settle_L80 rT fT rG fG rH k_ x1 x3 fH = some (y1, fHo) → va_P X.1 vwCl (wHo X h rP fP rT fT rG fG rL fL rH fH gi di re ti) H → va_S A s.heap H locs → lv_has ls 8 [(0, .ref (h 0)), (1, .int x1), (2, .int x2), (3, .int x3)] → W p l e ({ frames := 2, cells := 0, slots := 0, locals := 47 } : Room) s m args below meth c H locs 0 0 Q (F0 m 80 ls []) := by
    intro Q x2 y1 fHo kx k_
    induction k_ with
    | zero => intro x1 x3 fH H locs ls hf; exact nomatch (show (none : Option (Int32 × (Nat → Int32))) = some _ from hf)
    | succ k_ ih =>
      intro x1 x3 fH H locs ls hf hP hS hl
      unfold f_X2_settle_L80 at hf
      refine lv_iload_n hx hb dX2_settle_80 rfl (lv_at hl 3 rfl) ?_
      refine lv_aload_n hx hb dX2_settle_81 rfl (lv_at hl 0 rfl) ?_
      refine va_get (D := X.1) (ci := 2) (v := .ref (h 5)) (C := RX2) (T := TX2) (N := 9) hx hb hts hiX2 hown hK.1 hP 0 rfl rfl 2 (by decide) k23 (fun _ h9 => h9) rfl dX2_settle_82 ?_
      obtain ⟨r_1, hc_2, hf⟩ := bd_of hf
      refine fn_V (v := some (.int r_1)) (As := []) (rest := [.int x3]) (st1 := [.int r_1, .int x3]) (ws' := (wHo X h rP fP rT fT rG fG rL fL rH fH gi di re ti)) (nL := 8) ⟨hx, hb, hml, hown, hts⟩ (c_X3_rows l X (h 5) (h 6) (40 : Int32) (6 : Int32) 240 rG fG r_1 hc_2) (cwV 0 hts gX2_settle_X3_rows rfl rfl rfl (by decide +kernel) ⟨Nat.le_of_ble_eq_true rfl, Nat.le_of_ble_eq_true rfl⟩) 3 rfl rfl rfl rfl hl.1 rfl (Nat.le_of_ble_eq_true rfl) dX2_settle_85 hK hP (hD0.addr rfl) hS hA [5, 6] rfl rfl rfl rfl ⟨Nat.zero_le _, Nat.zero_le _⟩ (fun H locs hP hD hS => ?_)
      refine lv_icmp_ge (tgt := 172) hx hb dX2_settle_88 (by decide) (fun c_3 => ?_) (fun c_3 => ?_)
      · replace hf := fp_t c_3 hf
        cases hf
        exact kx _ _ _ hP hS (lv_sub hl [0, 1, 2] rfl)
      · replace hf := fp_f c_3 hf
        refine lv_aload_n hx hb dX2_settle_91 rfl (lv_at hl 0 rfl) ?_
        refine va_get (D := X.1) (ci := 2) (v := .ref (h 5)) (C := RX2) (T := TX2) (N := 9) hx hb hts hiX2 hown hK.1 hP 0 rfl rfl 2 (by decide) k23 (fun _ h9 => h9) rfl dX2_settle_92 ?_
        refine lv_iload_n hx hb dX2_settle_95 rfl (lv_at hl 3 rfl) ?_
        refine lv_iconst (v := 2) hx hb dX2_settle_96 (by decide) ?_
        obtain ⟨r_4, hc_5, hf⟩ := bd_of hf
        refine fn_V (v := some (.int r_4)) (As := [.int x3, .int (2 : Int32)]) (rest := []) (st1 := [.int r_4]) (ws' := (wHo X h rP fP rT fT rG fG rL fL rH fH gi di re ti)) (nL := 8) ⟨hx, hb, hml, hown, hts⟩ (c_X3_at l X (h 5) (h 6) (40 : Int32) (6 : Int32) 240 rG fG x3 (2 : Int32) r_4 hc_5) (cwV 2 hts gX2_settle_X3_at rfl rfl rfl (by decide +kernel) ⟨Nat.le_of_ble_eq_true rfl, Nat.le_of_ble_eq_true rfl⟩) 3 rfl rfl rfl rfl hl.1 rfl (Nat.le_of_ble_eq_true rfl) dX2_settle_97 hK hP (hD0.addr rfl) hS hA [5, 6] rfl rfl rfl rfl ⟨Nat.zero_le _, Nat.zero_le _⟩ (fun H locs hP hD hS => ?_)
        refine lv_istore (lv' := [(4, .int r_4), (0, .ref (h 0)), (1, .int x1), (2, .int x2), (3, .int x3)]) hx hb dX2_settle_100 hl (by decide) rfl (fun ls hl => ?_)
        refine lv_aload_n hx hb dX2_settle_102 rfl (lv_at hl 1 rfl) ?_
        refine va_get (D := X.1) (ci := 2) (v := .ref (h 5)) (C := RX2) (T := TX2) (N := 9) hx hb hts hiX2 hown hK.1 hP 0 rfl rfl 2 (by decide) k23 (fun _ h9 => h9) rfl dX2_settle_103 ?_
        refine lv_iload_n hx hb dX2_settle_106 rfl (lv_at hl 4 rfl) ?_
        refine lv_iconst (v := 1) hx hb dX2_settle_107 (by decide) ?_
        obtain ⟨r_6, hc_7, hf⟩ := bd_of hf
        refine fn_V (v := some (.int r_6)) (As := [.int x3, .int (1 : Int32)]) (rest := []) (st1 := [.int r_6]) (ws' := (wHo X h rP fP rT fT rG fG rL fL rH fH gi di re ti)) (nL := 8) ⟨hx, hb, hml, hown, hts⟩ (c_X3_at l X (h 5) (h 6) (40 : Int32) (6 : Int32) 240 rG fG x3 (1 : Int32) r_6 hc_7) (cwV 2 hts gX2_settle_X3_at rfl rfl rfl (by decide +kernel) ⟨Nat.le_of_ble_eq_true rfl, Nat.le_of_ble_eq_true rfl⟩) 3 rfl rfl rfl rfl hl.1 rfl (Nat.le_of_ble_eq_true rfl) dX2_settle_108 hK hP (hD0.addr rfl) hS hA [5, 6] rfl rfl rfl rfl ⟨Nat.zero_le _, Nat.zero_le _⟩ (fun H locs hP hD hS => ?_)
        refine lv_istore (lv' := [(5, .int r_6), (4, .int r_4), (0, .ref (h 0)), (1, .int x1), (2, .int x2), (3, .int x3)]) hx hb dX2_settle_111 hl (by decide) rfl (fun ls hl => ?_)
        refine lv_aload_n hx hb dX2_settle_113 rfl (lv_at hl 2 rfl) ?_
        refine va_get (D := X.1) (ci := 2) (v := .ref (h 9)) (C := RX2) (T := TX2) (N := 9) hx hb hts hiX2 hown hK.1 hP 0 rfl rfl 4 (by decide) k29 (fun _ h9 => h9) rfl dX2_settle_114 ?_
        refine lv_iload hx hb dX2_settle_117 (lv_at hl 1 rfl) ?_
        refine lv_iload hx hb dX2_settle_119 (lv_at hl 0 rfl) ?_
        obtain ⟨r_8, hc_9, hf⟩ := bd_of hf
        refine fn_V (v := some (.int r_8)) (As := [.int r_4, .int r_6]) (rest := []) (st1 := [.int r_8]) (ws' := (wHo X h rP fP rT fT rG fG rL fL rH fH gi di re ti)) (nL := 8) ⟨hx, hb, hml, hown, hts⟩ (c_X3_at l X (h 9) (h 10) (8 : Int32) (10 : Int32) 80 rH fH r_4 r_6 r_8 hc_9) (cwV 2 hts gX2_settle_X3_at rfl rfl rfl (by decide +kernel) ⟨Nat.le_of_ble_eq_true rfl, Nat.le_of_ble_eq_true rfl⟩) 3 rfl rfl rfl rfl hl.1 rfl (Nat.le_of_ble_eq_true rfl) dX2_settle_121 hK hP (hD0.addr rfl) hS hA [9, 10] rfl rfl rfl rfl ⟨Nat.zero_le _, Nat.zero_le _⟩ (fun H locs hP hD hS => ?_)
        refine lv_istore (lv' := [(6, .int r_8), (5, .int r_6), (4, .int r_4), (0, .ref (h 0)), (1, .int x1), (2, .int x2), (3, .int x3)]) hx hb dX2_settle_124 hl (by decide) rfl (fun ls hl => ?_)
        refine lv_iload hx hb dX2_settle_126 (lv_at hl 0 rfl) ?_
        refine lv_aload_n hx hb dX2_settle_128 rfl (lv_at hl 3 rfl) ?_
        refine lv_iload_n hx hb dX2_settle_129 rfl (lv_at hl 6 rfl) ?_
        obtain ⟨r_10, hc_11, hf⟩ := bd_of hf
        refine fn_V (v := some (.int r_10)) (As := [.int x3]) (rest := [.int r_8]) (st1 := [.int r_10, .int r_8]) (ws' := (wHo X h rP fP rT fT rG fG rL fL rH fH gi di re ti)) (nL := 8) ⟨hx, hb, hml, hown, hts⟩ (c_X2_passedOn l X h rP fP rT fT rG fG rL fL rH fH gi di re ti x3 r_10 hc_11) (cwV 1 hts gX2_settle_X2_passedOn rfl rfl rfl (by decide +kernel) ⟨Nat.le_of_ble_eq_true rfl, Nat.le_of_ble_eq_true rfl⟩) 2 rfl rfl rfl rfl hl.1 rfl (Nat.le_of_ble_eq_true rfl) dX2_settle_130 hK hP (hD0.addr rfl) hS hA [0, 1, 2, 3, 4, 5, 6, 7, 8, 9, 10] rfl rfl rfl rfl ⟨Nat.zero_le _, Nat.zero_le _⟩ (fun H locs hP hD hS => ?_)
        refine lv_ior hx hb dX2_settle_133 ?_
        refine lv_topi (fun v_12 ev_12 => ?_)
        replace hf := nm_of ev_12 hf
        refine lv_istore (lv' := [(7, .int v_12), (6, .int r_8), (5, .int r_6), (4, .int r_4), (0, .ref (h 0)), (1, .int x1), (2, .int x2), (3, .int x3)]) hx hb dX2_settle_134 hl (by decide) rfl (fun ls hl => ?_)
        refine lv_aload_n hx hb dX2_settle_136 rfl (lv_at hl 4 rfl) ?_
        refine va_get (D := X.1) (ci := 2) (v := .ref (h 9)) (C := RX2) (T := TX2) (N := 9) hx hb hts hiX2 hown hK.1 hP 0 rfl rfl 4 (by decide) k29 (fun _ h9 => h9) rfl dX2_settle_137 ?_
        refine lv_iload hx hb dX2_settle_140 (lv_at hl 3 rfl) ?_
        refine lv_iload hx hb dX2_settle_142 (lv_at hl 2 rfl) ?_
        refine lv_iload hx hb dX2_settle_144 (lv_at hl 0 rfl) ?_
        obtain ⟨fH_13, hc_14, hf⟩ := bd_of hf
        refine fn_V (v := none) (As := [.int r_4, .int r_6, .int v_12]) (rest := []) (st1 := []) (ws' := (wHo X h rP fP rT fT rG fG rL fL rH fH_13 gi di re ti)) (nL := 8) ⟨hx, hb, hml, hown, hts⟩ (c_X3_put l X (h 9) (h 10) (8 : Int32) (10 : Int32) 80 rH fH r_4 r_6 v_12 fH_13 hc_14) (cwV 3 hts gX2_settle_X3_put rfl rfl rfl (by decide +kernel) ⟨Nat.le_of_ble_eq_true rfl, Nat.le_of_ble_eq_true rfl⟩) 3 rfl rfl rfl rfl hl.1 rfl (Nat.le_of_ble_eq_true rfl) dX2_settle_146 hK hP (hD0.addr rfl) hS hA [9, 10] rfl rfl rfl rfl ⟨Nat.zero_le _, Nat.zero_le _⟩ (fun H locs hP hD hS => ?_)
        refine lv_iload_n hx hb dX2_settle_149 rfl (lv_at hl 5 rfl) ?_
        refine lv_if_ne (tgt := 160) hx hb dX2_settle_150 (by decide) (fun c_15 => ?_) (fun c_15 => ?_)
        · replace hf := fp_f c_15 hf
          refine lv_iconst (v := 1) hx hb dX2_settle_160 (by decide) ?_
          refine lv_goto (tgt := 165) hx hb dX2_settle_161 (by decide) ?_
          refine lv_istore_n (lv' := [(1, .int (1 : Int32)), (7, .int v_12), (6, .int r_8), (5, .int r_6), (4, .int r_4), (0, .ref (h 0)), (2, .int x2), (3, .int x3)]) hx hb dX2_settle_165 rfl hl (by decide) rfl (fun ls hl => ?_)
          obtain ⟨v_16, ev_16⟩ : ∃ y : Int32, y = x3 + (1 : Int32) := ⟨_, rfl⟩
          replace hf := nm_of ev_16 hf
          refine lv_iinc (v := v_16) (lv' := [(3, .int v_16), (1, .int (1 : Int32)), (7, .int v_12), (6, .int r_8), (5, .int r_6), (4, .int r_4), (0, .ref (h 0)), (2, .int x2)]) hx hb dX2_settle_166 hl (k := 7) rfl (by rw [ev_16]; rfl) (by decide) rfl (fun ls hl => ?_)
          refine lv_goto (tgt := 80) hx hb dX2_settle_169 (by decide) ?_
          exact ih (1 : Int32) v_16 fH_13 _ _ _ hf hP hS (lv_sub hl [6, 1, 7, 0] rfl)
        · replace hf := fp_t c_15 hf
          refine lv_iload hx hb dX2_settle_153 (lv_at hl 0 rfl) ?_
          refine lv_iload hx hb dX2_settle_155 (lv_at hl 1 rfl) ?_
          refine lv_icmp_eq (tgt := 164) hx hb dX2_settle_157 (by decide) (fun c_17 => ?_) (fun c_17 => ?_)
          · replace hf := fp_t c_17 hf
            refine lv_iconst (v := 0) hx hb dX2_settle_164 (by decide) ?_
            refine lv_istore_n (lv' := [(1, .int (0 : Int32)), (7, .int v_12), (6, .int r_8), (5, .int r_6), (4, .int r_4), (0, .ref (h 0)), (2, .int x2), (3, .int x3)]) hx hb dX2_settle_165 rfl hl (by decide) rfl (fun ls hl => ?_)
            obtain ⟨v_18, ev_18⟩ : ∃ y : Int32, y = x3 + (1 : Int32) := ⟨_, rfl⟩
            replace hf := nm_of ev_18 hf
            refine lv_iinc (v := v_18) (lv' := [(3, .int v_18), (1, .int (0 : Int32)), (7, .int v_12), (6, .int r_8), (5, .int r_6), (4, .int r_4), (0, .ref (h 0)), (2, .int x2)]) hx hb dX2_settle_166 hl (k := 7) rfl (by rw [ev_18]; rfl) (by decide) rfl (fun ls hl => ?_)
            refine lv_goto (tgt := 80) hx hb dX2_settle_169 (by decide) ?_
            exact ih (0 : Int32) v_18 fH_13 _ _ _ hf hP hS (lv_sub hl [6, 1, 7, 0] rfl)
          · replace hf := fp_f c_17 hf
            refine lv_iconst (v := 1) hx hb dX2_settle_160 (by decide) ?_
            refine lv_goto (tgt := 165) hx hb dX2_settle_161 (by decide) ?_
            refine lv_istore_n (lv' := [(1, .int (1 : Int32)), (7, .int v_12), (6, .int r_8), (5, .int r_6), (4, .int r_4), (0, .ref (h 0)), (2, .int x2), (3, .int x3)]) hx hb dX2_settle_165 rfl hl (by decide) rfl (fun ls hl => ?_)
            obtain ⟨v_19, ev_19⟩ : ∃ y : Int32, y = x3 + (1 : Int32) := ⟨_, rfl⟩
            replace hf := nm_of ev_19 hf
            refine lv_iinc (v := v_19) (lv' := [(3, .int v_19), (1, .int (1 : Int32)), (7, .int v_12), (6, .int r_8), (5, .int r_6), (4, .int r_4), (0, .ref (h 0)), (2, .int x2)]) hx hb dX2_settle_166 hl (k := 7) rfl (by rw [ev_19]; rfl) (by decide) rfl (fun ls hl => ?_)
            refine lv_goto (tgt := 80) hx hb dX2_settle_169 (by decide) ?_
            exact ih (1 : Int32) v_19 fH_13 _ _ _ hf hP hS (lv_sub hl [6, 1, 7, 0] rfl)
  have loop_65 : ∀ (Q : State → Prop) (fHo : (Nat → Int32)), (∀ (H : Heap) (locs : List Loc) (ls : Array Slot), va_P X.1 vwCl (wHo X h rP fP rT fT rG fG rL fL rH fHo gi di re ti) H → va_S A s.heap H locs → lv_has ls 8 [] → W p l e ({ frames := 2, cells := 0, slots := 0, locals := 47 } : Room) s m args below meth c H locs 0 0 Q (F0 m 178 ls [])) → ∀ (k_ : Nat) (x1 : Int32) (x2 : Int32) (fH : (Nat → Int32)) (H : Heap) (locs : List Loc) (ls : Array Slot), f_X2_settle_L65 rT fT rG fG rH k_ x1 x2 fH = some fHo → va_P X.1 vwCl (wHo X h rP fP rT fT rG fG rL fL rH fH gi di re ti) H → va_S A s.heap H locs → lv_has ls 8 [(0, .ref (h 0)), (1, .int x1), (2, .int x2)] → W p l e ({ frames := 2, cells := 0, slots := 0, locals := 47 } : Room) s m args below meth c H locs 0 0 Q (F0 m 65 ls []) := by
    intro Q fHo kx k_
    induction k_ with
    | zero => intro x1 x2 fH H locs ls hf; exact nomatch (show (none : Option ((Nat → Int32))) = some _ from hf)
    | succ k_ ih =>
      intro x1 x2 fH H locs ls hf hP hS hl
      unfold f_X2_settle_L65 at hf
      refine lv_iload_n hx hb dX2_settle_65 rfl (lv_at hl 2 rfl) ?_
      refine lv_sipush (v := 241) hx hb dX2_settle_66 (by decide) ?_
      refine lv_icmp_ge (tgt := 178) hx hb dX2_settle_69 (by decide) (fun c_20 => ?_) (fun c_20 => ?_)
      · replace hf := fp_t c_20 hf
        cases hf
        exact kx _ _ _ hP hS (lv_sub hl [] rfl)
      · replace hf := fp_f c_20 hf
        refine lv_iload_n hx hb dX2_settle_72 rfl (lv_at hl 1 rfl) ?_
        refine lv_if_eq (tgt := 178) hx hb dX2_settle_73 (by decide) (fun c_21 => ?_) (fun c_21 => ?_)
        · replace hf := fp_t c_21 hf
          cases hf
          exact kx _ _ _ hP hS (lv_sub hl [] rfl)
        · replace hf := fp_f c_21 hf
          refine lv_iconst (v := 0) hx hb dX2_settle_76 (by decide) ?_
          refine lv_istore_n (lv' := [(1, .int (0 : Int32)), (0, .ref (h 0)), (2, .int x2)]) hx hb dX2_settle_77 rfl hl (by decide) rfl (fun ls hl => ?_)
          refine lv_iconst (v := 0) hx hb dX2_settle_78 (by decide) ?_
          refine lv_istore_n (lv' := [(3, .int (0 : Int32)), (1, .int (0 : Int32)), (0, .ref (h 0)), (2, .int x2)]) hx hb dX2_settle_79 rfl hl (by decide) rfl (fun ls hl => ?_)
          obtain ⟨y1_22, fH_23, hL_24, hf⟩ := bd2_of hf
          refine loop_80 _ x2 y1_22 fH_23 (fun H locs ls hP hS hl => ?_) FU (0 : Int32) (0 : Int32) fH _ _ _ hL_24 hP hS (lv_sub hl [2, 1, 3, 0] rfl)
          obtain ⟨v_25, ev_25⟩ : ∃ y : Int32, y = x2 + (1 : Int32) := ⟨_, rfl⟩
          replace hf := nm_of ev_25 hf
          refine lv_iinc (v := v_25) (lv' := [(2, .int v_25), (0, .ref (h 0)), (1, .int y1_22)]) hx hb dX2_settle_172 hl (k := 2) rfl (by rw [ev_25]; rfl) (by decide) rfl (fun ls hl => ?_)
          refine lv_goto (tgt := 65) hx hb dX2_settle_175 (by decide) ?_
          exact ih y1_22 v_25 fH_23 _ _ _ hf hP hS (lv_sub hl [1, 2, 0] rfl)
  have loop_15 : ∀ (Q : State → Prop) (x1 : Int32) (fHo : (Nat → Int32)), (∀ (H : Heap) (locs : List Loc) (ls : Array Slot), va_P X.1 vwCl (wHo X h rP fP rT fT rG fG rL fL rH fHo gi di re ti) H → va_S A s.heap H locs → lv_has ls 8 [(0, .ref (h 0)), (1, .int x1)] → W p l e ({ frames := 2, cells := 0, slots := 0, locals := 47 } : Room) s m args below meth c H locs 0 0 Q (F0 m 55 ls [])) → ∀ (k_ : Nat) (x2 : Int32) (fH : (Nat → Int32)) (H : Heap) (locs : List Loc) (ls : Array Slot), f_X2_settle_L15 x1 rT fT rH k_ x2 fH = some fHo → va_P X.1 vwCl (wHo X h rP fP rT fT rG fG rL fL rH fH gi di re ti) H → va_S A s.heap H locs → lv_has ls 8 [(0, .ref (h 0)), (1, .int x1), (2, .int x2)] → W p l e ({ frames := 2, cells := 0, slots := 0, locals := 47 } : Room) s m args below meth c H locs 0 0 Q (F0 m 15 ls []) := by
    intro Q x1 fHo kx k_
    induction k_ with
    | zero => intro x2 fH H locs ls hf; exact nomatch (show (none : Option ((Nat → Int32))) = some _ from hf)
    | succ k_ ih =>
      intro x2 fH H locs ls hf hP hS hl
      unfold f_X2_settle_L15 at hf
      refine lv_iload_n hx hb dX2_settle_15 rfl (lv_at hl 2 rfl) ?_
      refine lv_bipush (v := 10) hx hb dX2_settle_16 (by decide) ?_
      refine lv_icmp_ge (tgt := 55) hx hb dX2_settle_18 (by decide) (fun c_26 => ?_) (fun c_26 => ?_)
      · replace hf := fp_t c_26 hf
        cases hf
        exact kx _ _ _ hP hS (lv_sub hl [0, 1] rfl)
      · replace hf := fp_f c_26 hf
        refine lv_aload_n hx hb dX2_settle_21 rfl (lv_at hl 0 rfl) ?_
        refine va_get (D := X.1) (ci := 2) (v := .ref (h 9)) (C := RX2) (T := TX2) (N := 9) hx hb hts hiX2 hown hK.1 hP 0 rfl rfl 4 (by decide) k29 (fun _ h9 => h9) rfl dX2_settle_22 ?_
        refine lv_iload_n hx hb dX2_settle_25 rfl (lv_at hl 1 rfl) ?_
        refine lv_iload_n hx hb dX2_settle_26 rfl (lv_at hl 2 rfl) ?_
        refine lv_iload_n hx hb dX2_settle_27 rfl (lv_at hl 2 rfl) ?_
        refine lv_aload_n hx hb dX2_settle_28 rfl (lv_at hl 0 rfl) ?_
        refine va_get (D := X.1) (ci := 2) (v := .ref (h 3)) (C := RX2) (T := TX2) (N := 9) hx hb hts hiX2 hown hK.1 hP 0 rfl rfl 1 (by decide) k20 (fun _ h9 => h9) rfl dX2_settle_29 ?_
        refine lv_iload_n hx hb dX2_settle_32 rfl (lv_at hl 1 rfl) ?_
        refine lv_iconst (v := 0) hx hb dX2_settle_33 (by decide) ?_
        obtain ⟨r_27, hc_28, hf⟩ := bd_of hf
        refine fn_V (v := some (.int r_27)) (As := [.int x1, .int (0 : Int32)]) (rest := [.int x2, .int x2, .int x1, .ref (h 9)]) (st1 := [.int r_27, .int x2, .int x2, .int x1, .ref (h 9)]) (ws' := (wHo X h rP fP rT fT rG fG rL fL rH fH gi di re ti)) (nL := 8) ⟨hx, hb, hml, hown, hts⟩ (c_X3_at l X (h 3) (h 4) (8 : Int32) (2 : Int32) 16 rT fT x1 (0 : Int32) r_27 hc_28) (cwV 2 hts gX2_settle_X3_at rfl rfl rfl (by decide +kernel) ⟨Nat.le_of_ble_eq_true rfl, Nat.le_of_ble_eq_true rfl⟩) 3 rfl rfl rfl rfl hl.1 rfl (Nat.le_of_ble_eq_true rfl) dX2_settle_34 hK hP (hD0.addr rfl) hS hA [3, 4] rfl rfl rfl rfl ⟨Nat.zero_le _, Nat.zero_le _⟩ (fun H locs hP hD hS => ?_)
        refine lv_icmp_ne (tgt := 45) hx hb dX2_settle_37 (by decide) (fun c_29 => ?_) (fun c_29 => ?_)
        · replace hf := fp_f c_29 hf
          refine lv_iconst (v := 0) hx hb dX2_settle_45 (by decide) ?_
          obtain ⟨fH_30, hc_31, hf⟩ := bd_of hf
          refine fn_V (v := none) (As := [.int x1, .int x2, .int (0 : Int32)]) (rest := []) (st1 := []) (ws' := (wHo X h rP fP rT fT rG fG rL fL rH fH_30 gi di re ti)) (nL := 8) ⟨hx, hb, hml, hown, hts⟩ (c_X3_put l X (h 9) (h 10) (8 : Int32) (10 : Int32) 80 rH fH x1 x2 (0 : Int32) fH_30 hc_31) (cwV 3 hts gX2_settle_X3_put rfl rfl rfl (by decide +kernel) ⟨Nat.le_of_ble_eq_true rfl, Nat.le_of_ble_eq_true rfl⟩) 3 rfl rfl rfl rfl hl.1 rfl (Nat.le_of_ble_eq_true rfl) dX2_settle_46 hK hP (hD0.addr rfl) hS hA [9, 10] rfl rfl rfl rfl ⟨Nat.zero_le _, Nat.zero_le _⟩ (fun H locs hP hD hS => ?_)
          obtain ⟨v_32, ev_32⟩ : ∃ y : Int32, y = x2 + (1 : Int32) := ⟨_, rfl⟩
          replace hf := nm_of ev_32 hf
          refine lv_iinc (v := v_32) (lv' := [(2, .int v_32), (0, .ref (h 0)), (1, .int x1)]) hx hb dX2_settle_49 hl (k := 2) rfl (by rw [ev_32]; rfl) (by decide) rfl (fun ls hl => ?_)
          refine lv_goto (tgt := 15) hx hb dX2_settle_52 (by decide) ?_
          exact ih v_32 fH_30 _ _ _ hf hP hS (lv_sub hl [1, 2, 0] rfl)
        · replace hf := fp_t c_29 hf
          refine lv_bipush (v := 7) hx hb dX2_settle_40 (by decide) ?_
          refine lv_goto (tgt := 46) hx hb dX2_settle_42 (by decide) ?_
          obtain ⟨fH_33, hc_34, hf⟩ := bd_of hf
          refine fn_V (v := none) (As := [.int x1, .int x2, .int (7 : Int32)]) (rest := []) (st1 := []) (ws' := (wHo X h rP fP rT fT rG fG rL fL rH fH_33 gi di re ti)) (nL := 8) ⟨hx, hb, hml, hown, hts⟩ (c_X3_put l X (h 9) (h 10) (8 : Int32) (10 : Int32) 80 rH fH x1 x2 (7 : Int32) fH_33 hc_34) (cwV 3 hts gX2_settle_X3_put rfl rfl rfl (by decide +kernel) ⟨Nat.le_of_ble_eq_true rfl, Nat.le_of_ble_eq_true rfl⟩) 3 rfl rfl rfl rfl hl.1 rfl (Nat.le_of_ble_eq_true rfl) dX2_settle_46 hK hP (hD0.addr rfl) hS hA [9, 10] rfl rfl rfl rfl ⟨Nat.zero_le _, Nat.zero_le _⟩ (fun H locs hP hD hS => ?_)
          obtain ⟨v_35, ev_35⟩ : ∃ y : Int32, y = x2 + (1 : Int32) := ⟨_, rfl⟩
          replace hf := nm_of ev_35 hf
          refine lv_iinc (v := v_35) (lv' := [(2, .int v_35), (0, .ref (h 0)), (1, .int x1)]) hx hb dX2_settle_49 hl (k := 2) rfl (by rw [ev_35]; rfl) (by decide) rfl (fun ls hl => ?_)
          refine lv_goto (tgt := 15) hx hb dX2_settle_52 (by decide) ?_
          exact ih v_35 fH_33 _ _ _ hf hP hS (lv_sub hl [1, 2, 0] rfl)
  have loop_2 : ∀ (Q : State → Prop) (fHo : (Nat → Int32)), (∀ (H : Heap) (locs : List Loc) (ls : Array Slot), va_P X.1 vwCl (wHo X h rP fP rT fT rG fG rL fL rH fHo gi di re ti) H → va_S A s.heap H locs → lv_has ls 8 [(0, .ref (h 0))] → W p l e ({ frames := 2, cells := 0, slots := 0, locals := 47 } : Room) s m args below meth c H locs 0 0 Q (F0 m 61 ls [])) → ∀ (k_ : Nat) (x1 : Int32) (fH : (Nat → Int32)) (H : Heap) (locs : List Loc) (ls : Array Slot), f_X2_settle_L2 rT fT rH k_ x1 fH = some fHo → va_P X.1 vwCl (wHo X h rP fP rT fT rG fG rL fL rH fH gi di re ti) H → va_S A s.heap H locs → lv_has ls 8 [(0, .ref (h 0)), (1, .int x1)] → W p l e ({ frames := 2, cells := 0, slots := 0, locals := 47 } : Room) s m args below meth c H locs 0 0 Q (F0 m 2 ls []) := by
    intro Q fHo kx k_
    induction k_ with
    | zero => intro x1 fH H locs ls hf; exact nomatch (show (none : Option ((Nat → Int32))) = some _ from hf)
    | succ k_ ih =>
      intro x1 fH H locs ls hf hP hS hl
      unfold f_X2_settle_L2 at hf
      refine lv_iload_n hx hb dX2_settle_2 rfl (lv_at hl 1 rfl) ?_
      refine lv_aload_n hx hb dX2_settle_3 rfl (lv_at hl 0 rfl) ?_
      refine va_get (D := X.1) (ci := 2) (v := .ref (h 3)) (C := RX2) (T := TX2) (N := 9) hx hb hts hiX2 hown hK.1 hP 0 rfl rfl 1 (by decide) k20 (fun _ h9 => h9) rfl dX2_settle_4 ?_
      obtain ⟨r_36, hc_37, hf⟩ := bd_of hf
      refine fn_V (v := some (.int r_36)) (As := []) (rest := [.int x1]) (st1 := [.int r_36, .int x1]) (ws' := (wHo X h rP fP rT fT rG fG rL fL rH fH gi di re ti)) (nL := 8) ⟨hx, hb, hml, hown, hts⟩ (c_X3_rows l X (h 3) (h 4) (8 : Int32) (2 : Int32) 16 rT fT r_36 hc_37) (cwV 0 hts gX2_settle_X3_rows rfl rfl rfl (by decide +kernel) ⟨Nat.le_of_ble_eq_true rfl, Nat.le_of_ble_eq_true rfl⟩) 3 rfl rfl rfl rfl hl.1 rfl (Nat.le_of_ble_eq_true rfl) dX2_settle_7 hK hP (hD0.addr rfl) hS hA [3, 4] rfl rfl rfl rfl ⟨Nat.zero_le _, Nat.zero_le _⟩ (fun H locs hP hD hS => ?_)
      refine lv_icmp_ge (tgt := 61) hx hb dX2_settle_10 (by decide) (fun c_38 => ?_) (fun c_38 => ?_)
      · replace hf := fp_t c_38 hf
        cases hf
        exact kx _ _ _ hP hS (lv_sub hl [0] rfl)
      · replace hf := fp_f c_38 hf
        refine lv_iconst (v := 0) hx hb dX2_settle_13 (by decide) ?_
        refine lv_istore_n (lv' := [(2, .int (0 : Int32)), (0, .ref (h 0)), (1, .int x1)]) hx hb dX2_settle_14 rfl hl (by decide) rfl (fun ls hl => ?_)
        obtain ⟨fH_39, hL_40, hf⟩ := bd_of hf
        refine loop_15 _ x1 fH_39 (fun H locs ls hP hS hl => ?_) FU (0 : Int32) fH _ _ _ hL_40 hP hS (lv_sub hl [1, 2, 0] rfl)
        obtain ⟨v_41, ev_41⟩ : ∃ y : Int32, y = x1 + (1 : Int32) := ⟨_, rfl⟩
        replace hf := nm_of ev_41 hf
        refine lv_iinc (v := v_41) (lv' := [(1, .int v_41), (0, .ref (h 0))]) hx hb dX2_settle_55 hl (k := 1) rfl (by rw [ev_41]; rfl) (by decide) rfl (fun ls hl => ?_)
        refine lv_goto (tgt := 2) hx hb dX2_settle_58 (by decide) ?_
        exact ih v_41 fH_39 _ _ _ hf hP hS (lv_sub hl [1, 0] rfl)
  unfold f_X2_settle at hf
  refine lv_iconst (v := 0) hx hb dX2_settle_0 (by decide) ?_
  refine lv_istore_n (lv' := [(1, .int (0 : Int32)), (0, .ref (h 0))]) hx hb dX2_settle_1 rfl hl (by decide) rfl (fun ls hl => ?_)
  obtain ⟨fH_42, hL_43, hf⟩ := bd_of hf
  refine loop_2 _ fH_42 (fun H locs ls hP hS hl => ?_) FU (0 : Int32) fH _ _ _ hL_43 hP hS (lv_sub hl [1, 0] rfl)
  refine lv_iconst (v := 1) hx hb dX2_settle_61 (by decide) ?_
  refine lv_istore_n (lv' := [(1, .int (1 : Int32)), (0, .ref (h 0))]) hx hb dX2_settle_62 rfl hl (by decide) rfl (fun ls hl => ?_)
  refine lv_iconst (v := 0) hx hb dX2_settle_63 (by decide) ?_
  refine lv_istore_n (lv' := [(2, .int (0 : Int32)), (1, .int (1 : Int32)), (0, .ref (h 0))]) hx hb dX2_settle_64 rfl hl (by decide) rfl (fun ls hl => ?_)
  obtain ⟨fH_44, hL_45, hf⟩ := bd_of hf
  refine loop_65 _ fH_44 (fun H locs ls hP hS hl => ?_) FU (1 : Int32) (0 : Int32) fH_42 _ _ _ hL_45 hP hS (lv_sub hl [2, 1, 0] rfl)
  cases hf
  exact fn_vret hx hb hr hlocks hP hS dX2_settle_178

def f_X2_takeOver (rP : Int32) (fP : (Nat → Int32)) (rT : Int32) (fT : (Nat → Int32)) (rG : Int32) (fG : (Nat → Int32)) (rL : Int32) (fL : (Nat → Int32)) (rH : Int32) (fH : (Nat → Int32)) (gi : Int32) (di : Int32) (re : Int32) (ti : Int32) (rP2 : Int32) (fP2 : (Nat → Int32)) (rT2 : Int32) (fT2 : (Nat → Int32)) (rG2 : Int32) (fG2 : (Nat → Int32)) (rL2 : Int32) (fL2 : (Nat → Int32)) (rH2 : Int32) (fH2 : (Nat → Int32)) (gi2 : Int32) (di2 : Int32) (re2 : Int32) (ti2 : Int32) : Option (Int32 × (Nat → Int32) × Int32 × (Nat → Int32) × Int32 × (Nat → Int32) × Int32 × (Nat → Int32) × Int32 × (Nat → Int32) × Int32 × Int32 × Int32 × Int32) :=
  bd2 (f_X3_takeOver (10 : Int32) (2 : Int32) 20 20 rP fP rP2 fP2) (fun rP_1 fP_2 =>
  bd2 (f_X3_takeOver (8 : Int32) (2 : Int32) 16 16 rT fT rT2 fT2) (fun rT_4 fT_5 =>
  bd2 (f_X3_takeOver (40 : Int32) (6 : Int32) 240 240 rG fG rG2 fG2) (fun rG_7 fG_8 =>
  bd2 (f_X3_takeOver (12 : Int32) (3 : Int32) 36 36 rL fL rL2 fL2) (fun rL_10 fL_11 =>
  bd2 (f_X3_takeOver (8 : Int32) (10 : Int32) 80 80 rH fH rH2 fH2) (fun rH_13 fH_14 =>
  some (rP_1, fP_2, rT_4, fT_5, rG_7, fG_8, rL_10, fL_11, rH_13, fH_14, gi2, di2, re2, ti2))))))
set_option maxHeartbeats 4000000 in
set_option maxRecDepth 100000 in
theorem c_X2_takeOver (l : Launch) (X : cx_G) (h : (Nat → Nat)) (h2 : (Nat → Nat)) (rP : Int32) (fP : (Nat → Int32)) (rT : Int32) (fT : (Nat → Int32)) (rG : Int32) (fG : (Nat → Int32)) (rL : Int32) (fL : (Nat → Int32)) (rH : Int32) (fH : (Nat → Int32)) (gi : Int32) (di : Int32) (re : Int32) (ti : Int32) (rP2 : Int32) (fP2 : (Nat → Int32)) (rT2 : Int32) (fT2 : (Nat → Int32)) (rG2 : Int32) (fG2 : (Nat → Int32)) (rL2 : Int32) (fL2 : (Nat → Int32)) (rH2 : Int32) (fH2 : (Nat → Int32)) (gi2 : Int32) (di2 : Int32) (re2 : Int32) (ti2 : Int32) (rP' : Int32) (fP' : (Nat → Int32)) (rT' : Int32) (fT' : (Nat → Int32)) (rG' : Int32) (fG' : (Nat → Int32)) (rL' : Int32) (fL' : (Nat → Int32)) (rH' : Int32) (fH' : (Nat → Int32)) (gi' : Int32) (di' : Int32) (re' : Int32) (ti' : Int32) (hf : f_X2_takeOver rP fP rT fT rG fG rL fL rH fH gi di re ti rP2 fP2 rT2 fT2 rG2 fG2 rL2 fL2 rH2 fH2 gi2 di2 re2 ti2 = some (rP', fP', rT', fT', rG', fG', rL', fL', rH', fH', gi', di', re', ti')) : Fn l yX2_takeOver wsX2_takeOver ({ frames := 1, cells := 0, slots := 0, locals := 23 } : Room) X [.ref (h 0), .ref (h2 0)] ((wHo X h rP fP rT fT rG fG rL fL rH fH gi di re ti) ++ (wHo X h2 rP2 fP2 rT2 fT2 rG2 fG2 rL2 fL2 rH2 fH2 gi2 di2 re2 ti2)) none ((wHo X h rP' fP' rT' fT' rG' fG' rL' fL' rH' fH' gi' di' re' ti') ++ (wHo X h2 rP2 fP2 rT2 fT2 rG2 fG2 rL2 fL2 rH2 fH2 gi2 di2 re2 ti2)) := by
  refine fn_intro (cc := cX2_takeOver) (maxL := 2) (ret := none) (by decide) rfl rfl (Nat.le_of_ble_eq_true rfl) ?_
  intro p e s m args below meth c A ls hx hb hml hr hts hown hlocks hK hP hD0 hS hA hl
  have hown : s.vm.findClass RX2 = some m.cls := hown
  have hl : lv_has ls 2 [(0, .ref (h 0)), (1, .ref (h2 0))] := hl
  have hiX2 : ∀ w ∈ u_ws RX2 TX2 9, w ∈ wsX2_takeOver := by decide +kernel
  have k14 := hts (.fieldLink RX2 14 "LentRights$House" "persons" "LLentRights$Table;") (by decide +kernel)
  have k20 := hts (.fieldLink RX2 20 "LentRights$House" "things" "LLentRights$Table;") (by decide +kernel)
  have k23 := hts (.fieldLink RX2 23 "LentRights$House" "grants" "LLentRights$Table;") (by decide +kernel)
  have k26 := hts (.fieldLink RX2 26 "LentRights$House" "log" "LLentRights$Table;") (by decide +kernel)
  have k29 := hts (.fieldLink RX2 29 "LentRights$House" "held" "LLentRights$Table;") (by decide +kernel)
  have k44 := hts (.fieldLink RX2 44 "LentRights$House" "given" "I") (by decide +kernel)
  have k48 := hts (.fieldLink RX2 48 "LentRights$House" "died" "I") (by decide +kernel)
  have k51 := hts (.fieldLink RX2 51 "LentRights$House" "revoked" "I") (by decide +kernel)
  have k54 := hts (.fieldLink RX2 54 "LentRights$House" "time" "I") (by decide +kernel)
  unfold f_X2_takeOver at hf
  refine lv_aload_n hx hb dX2_takeOver_0 rfl (lv_at hl 0 rfl) ?_
  refine va_get (D := X.1) (ci := 2) (v := .ref (h 1)) (C := RX2) (T := TX2) (N := 9) hx hb hts hiX2 hown hK.1 hP 0 rfl rfl 0 (by decide) k14 (fun _ h9 => h9) rfl dX2_takeOver_1 ?_
  refine lv_aload_n hx hb dX2_takeOver_4 rfl (lv_at hl 1 rfl) ?_
  refine va_get (D := X.1) (ci := 2) (v := .ref (h2 1)) (C := RX2) (T := TX2) (N := 9) hx hb hts hiX2 hown hK.1 hP 11 rfl rfl 0 (by decide) k14 (fun _ h9 => h9) rfl dX2_takeOver_5 ?_
  obtain ⟨rP_1, fP_2, hc_3, hf⟩ := bd2_of hf
  refine fn_V (v := none) (As := [.ref (h2 1)]) (rest := []) (st1 := []) (ws' := ((wHo X h rP_1 fP_2 rT fT rG fG rL fL rH fH gi di re ti) ++ (wHo X h2 rP2 fP2 rT2 fT2 rG2 fG2 rL2 fL2 rH2 fH2 gi2 di2 re2 ti2))) (nL := 2) ⟨hx, hb, hml, hown, hts⟩ (c_X3_takeOver l X (h 1) (h 2) (h2 1) (h2 2) (10 : Int32) (2 : Int32) 20 (10 : Int32) (2 : Int32) 20 rP fP rP2 fP2 rP_1 fP_2 hc_3) (cwV 1 hts gX2_takeOver_X3_takeOver rfl rfl rfl (by decide +kernel) ⟨Nat.le_of_ble_eq_true rfl, Nat.le_of_ble_eq_true rfl⟩) 3 rfl rfl rfl rfl hl.1 rfl (Nat.le_of_ble_eq_true rfl) dX2_takeOver_8 hK hP (hD0.addr rfl) hS hA [1, 2, 12, 13] rfl rfl rfl rfl ⟨Nat.zero_le _, Nat.zero_le _⟩ (fun H locs hP hD hS => ?_)
  refine lv_aload_n hx hb dX2_takeOver_11 rfl (lv_at hl 0 rfl) ?_
  refine va_get (D := X.1) (ci := 2) (v := .ref (h 3)) (C := RX2) (T := TX2) (N := 9) hx hb hts hiX2 hown hK.1 hP 0 rfl rfl 1 (by decide) k20 (fun _ h9 => h9) rfl dX2_takeOver_12 ?_
  refine lv_aload_n hx hb dX2_takeOver_15 rfl (lv_at hl 1 rfl) ?_
  refine va_get (D := X.1) (ci := 2) (v := .ref (h2 3)) (C := RX2) (T := TX2) (N := 9) hx hb hts hiX2 hown hK.1 hP 11 rfl rfl 1 (by decide) k20 (fun _ h9 => h9) rfl dX2_takeOver_16 ?_
  obtain ⟨rT_4, fT_5, hc_6, hf⟩ := bd2_of hf
  refine fn_V (v := none) (As := [.ref (h2 3)]) (rest := []) (st1 := []) (ws' := ((wHo X h rP_1 fP_2 rT_4 fT_5 rG fG rL fL rH fH gi di re ti) ++ (wHo X h2 rP2 fP2 rT2 fT2 rG2 fG2 rL2 fL2 rH2 fH2 gi2 di2 re2 ti2))) (nL := 2) ⟨hx, hb, hml, hown, hts⟩ (c_X3_takeOver l X (h 3) (h 4) (h2 3) (h2 4) (8 : Int32) (2 : Int32) 16 (8 : Int32) (2 : Int32) 16 rT fT rT2 fT2 rT_4 fT_5 hc_6) (cwV 1 hts gX2_takeOver_X3_takeOver rfl rfl rfl (by decide +kernel) ⟨Nat.le_of_ble_eq_true rfl, Nat.le_of_ble_eq_true rfl⟩) 3 rfl rfl rfl rfl hl.1 rfl (Nat.le_of_ble_eq_true rfl) dX2_takeOver_19 hK hP (hD0.addr rfl) hS hA [3, 4, 14, 15] rfl rfl rfl rfl ⟨Nat.zero_le _, Nat.zero_le _⟩ (fun H locs hP hD hS => ?_)
  refine lv_aload_n hx hb dX2_takeOver_22 rfl (lv_at hl 0 rfl) ?_
  refine va_get (D := X.1) (ci := 2) (v := .ref (h 5)) (C := RX2) (T := TX2) (N := 9) hx hb hts hiX2 hown hK.1 hP 0 rfl rfl 2 (by decide) k23 (fun _ h9 => h9) rfl dX2_takeOver_23 ?_
  refine lv_aload_n hx hb dX2_takeOver_26 rfl (lv_at hl 1 rfl) ?_
  refine va_get (D := X.1) (ci := 2) (v := .ref (h2 5)) (C := RX2) (T := TX2) (N := 9) hx hb hts hiX2 hown hK.1 hP 11 rfl rfl 2 (by decide) k23 (fun _ h9 => h9) rfl dX2_takeOver_27 ?_
  obtain ⟨rG_7, fG_8, hc_9, hf⟩ := bd2_of hf
  refine fn_V (v := none) (As := [.ref (h2 5)]) (rest := []) (st1 := []) (ws' := ((wHo X h rP_1 fP_2 rT_4 fT_5 rG_7 fG_8 rL fL rH fH gi di re ti) ++ (wHo X h2 rP2 fP2 rT2 fT2 rG2 fG2 rL2 fL2 rH2 fH2 gi2 di2 re2 ti2))) (nL := 2) ⟨hx, hb, hml, hown, hts⟩ (c_X3_takeOver l X (h 5) (h 6) (h2 5) (h2 6) (40 : Int32) (6 : Int32) 240 (40 : Int32) (6 : Int32) 240 rG fG rG2 fG2 rG_7 fG_8 hc_9) (cwV 1 hts gX2_takeOver_X3_takeOver rfl rfl rfl (by decide +kernel) ⟨Nat.le_of_ble_eq_true rfl, Nat.le_of_ble_eq_true rfl⟩) 3 rfl rfl rfl rfl hl.1 rfl (Nat.le_of_ble_eq_true rfl) dX2_takeOver_30 hK hP (hD0.addr rfl) hS hA [5, 6, 16, 17] rfl rfl rfl rfl ⟨Nat.zero_le _, Nat.zero_le _⟩ (fun H locs hP hD hS => ?_)
  refine lv_aload_n hx hb dX2_takeOver_33 rfl (lv_at hl 0 rfl) ?_
  refine va_get (D := X.1) (ci := 2) (v := .ref (h 7)) (C := RX2) (T := TX2) (N := 9) hx hb hts hiX2 hown hK.1 hP 0 rfl rfl 3 (by decide) k26 (fun _ h9 => h9) rfl dX2_takeOver_34 ?_
  refine lv_aload_n hx hb dX2_takeOver_37 rfl (lv_at hl 1 rfl) ?_
  refine va_get (D := X.1) (ci := 2) (v := .ref (h2 7)) (C := RX2) (T := TX2) (N := 9) hx hb hts hiX2 hown hK.1 hP 11 rfl rfl 3 (by decide) k26 (fun _ h9 => h9) rfl dX2_takeOver_38 ?_
  obtain ⟨rL_10, fL_11, hc_12, hf⟩ := bd2_of hf
  refine fn_V (v := none) (As := [.ref (h2 7)]) (rest := []) (st1 := []) (ws' := ((wHo X h rP_1 fP_2 rT_4 fT_5 rG_7 fG_8 rL_10 fL_11 rH fH gi di re ti) ++ (wHo X h2 rP2 fP2 rT2 fT2 rG2 fG2 rL2 fL2 rH2 fH2 gi2 di2 re2 ti2))) (nL := 2) ⟨hx, hb, hml, hown, hts⟩ (c_X3_takeOver l X (h 7) (h 8) (h2 7) (h2 8) (12 : Int32) (3 : Int32) 36 (12 : Int32) (3 : Int32) 36 rL fL rL2 fL2 rL_10 fL_11 hc_12) (cwV 1 hts gX2_takeOver_X3_takeOver rfl rfl rfl (by decide +kernel) ⟨Nat.le_of_ble_eq_true rfl, Nat.le_of_ble_eq_true rfl⟩) 3 rfl rfl rfl rfl hl.1 rfl (Nat.le_of_ble_eq_true rfl) dX2_takeOver_41 hK hP (hD0.addr rfl) hS hA [7, 8, 18, 19] rfl rfl rfl rfl ⟨Nat.zero_le _, Nat.zero_le _⟩ (fun H locs hP hD hS => ?_)
  refine lv_aload_n hx hb dX2_takeOver_44 rfl (lv_at hl 0 rfl) ?_
  refine va_get (D := X.1) (ci := 2) (v := .ref (h 9)) (C := RX2) (T := TX2) (N := 9) hx hb hts hiX2 hown hK.1 hP 0 rfl rfl 4 (by decide) k29 (fun _ h9 => h9) rfl dX2_takeOver_45 ?_
  refine lv_aload_n hx hb dX2_takeOver_48 rfl (lv_at hl 1 rfl) ?_
  refine va_get (D := X.1) (ci := 2) (v := .ref (h2 9)) (C := RX2) (T := TX2) (N := 9) hx hb hts hiX2 hown hK.1 hP 11 rfl rfl 4 (by decide) k29 (fun _ h9 => h9) rfl dX2_takeOver_49 ?_
  obtain ⟨rH_13, fH_14, hc_15, hf⟩ := bd2_of hf
  refine fn_V (v := none) (As := [.ref (h2 9)]) (rest := []) (st1 := []) (ws' := ((wHo X h rP_1 fP_2 rT_4 fT_5 rG_7 fG_8 rL_10 fL_11 rH_13 fH_14 gi di re ti) ++ (wHo X h2 rP2 fP2 rT2 fT2 rG2 fG2 rL2 fL2 rH2 fH2 gi2 di2 re2 ti2))) (nL := 2) ⟨hx, hb, hml, hown, hts⟩ (c_X3_takeOver l X (h 9) (h 10) (h2 9) (h2 10) (8 : Int32) (10 : Int32) 80 (8 : Int32) (10 : Int32) 80 rH fH rH2 fH2 rH_13 fH_14 hc_15) (cwV 1 hts gX2_takeOver_X3_takeOver rfl rfl rfl (by decide +kernel) ⟨Nat.le_of_ble_eq_true rfl, Nat.le_of_ble_eq_true rfl⟩) 3 rfl rfl rfl rfl hl.1 rfl (Nat.le_of_ble_eq_true rfl) dX2_takeOver_52 hK hP (hD0.addr rfl) hS hA [9, 10, 20, 21] rfl rfl rfl rfl ⟨Nat.zero_le _, Nat.zero_le _⟩ (fun H locs hP hD hS => ?_)
  refine lv_aload_n hx hb dX2_takeOver_55 rfl (lv_at hl 0 rfl) ?_
  refine lv_aload_n hx hb dX2_takeOver_56 rfl (lv_at hl 1 rfl) ?_
  refine va_get (D := X.1) (ci := 2) (v := .int gi2) (C := RX2) (T := TX2) (N := 9) hx hb hts hiX2 hown hK.1 hP 11 rfl rfl 5 (by decide) k44 (fun _ h9 => h9) rfl dX2_takeOver_57 ?_
  refine va_put (D := X.1) (ci := 2) (v := .int gi2) (ty := .int) (C := RX2) (T := TX2) (N := 9) hx hb hts hiX2 tyX2 tyX2_ok nmX2 hown hK.1 hP (hD0.addr rfl) hS 0 rfl rfl 5 (by decide) k44 (fun _ h9 => h9) rfl (by decide +kernel) rfl rfl (Nat.le_of_ble_eq_true rfl) dX2_takeOver_60 (fun H locs hP hD hS => ?_)
  have hP : va_P X.1 vwCl ((wHo X h rP_1 fP_2 rT_4 fT_5 rG_7 fG_8 rL_10 fL_11 rH_13 fH_14 gi2 di re ti) ++ (wHo X h2 rP2 fP2 rT2 fT2 rG2 fG2 rL2 fL2 rH2 fH2 gi2 di2 re2 ti2)) H := hP
  refine lv_aload_n hx hb dX2_takeOver_63 rfl (lv_at hl 0 rfl) ?_
  refine lv_aload_n hx hb dX2_takeOver_64 rfl (lv_at hl 1 rfl) ?_
  refine va_get (D := X.1) (ci := 2) (v := .int di2) (C := RX2) (T := TX2) (N := 9) hx hb hts hiX2 hown hK.1 hP 11 rfl rfl 6 (by decide) k48 (fun _ h9 => h9) rfl dX2_takeOver_65 ?_
  refine va_put (D := X.1) (ci := 2) (v := .int di2) (ty := .int) (C := RX2) (T := TX2) (N := 9) hx hb hts hiX2 tyX2 tyX2_ok nmX2 hown hK.1 hP (hD0.addr rfl) hS 0 rfl rfl 6 (by decide) k48 (fun _ h9 => h9) rfl (by decide +kernel) rfl rfl (Nat.le_of_ble_eq_true rfl) dX2_takeOver_68 (fun H locs hP hD hS => ?_)
  have hP : va_P X.1 vwCl ((wHo X h rP_1 fP_2 rT_4 fT_5 rG_7 fG_8 rL_10 fL_11 rH_13 fH_14 gi2 di2 re ti) ++ (wHo X h2 rP2 fP2 rT2 fT2 rG2 fG2 rL2 fL2 rH2 fH2 gi2 di2 re2 ti2)) H := hP
  refine lv_aload_n hx hb dX2_takeOver_71 rfl (lv_at hl 0 rfl) ?_
  refine lv_aload_n hx hb dX2_takeOver_72 rfl (lv_at hl 1 rfl) ?_
  refine va_get (D := X.1) (ci := 2) (v := .int re2) (C := RX2) (T := TX2) (N := 9) hx hb hts hiX2 hown hK.1 hP 11 rfl rfl 7 (by decide) k51 (fun _ h9 => h9) rfl dX2_takeOver_73 ?_
  refine va_put (D := X.1) (ci := 2) (v := .int re2) (ty := .int) (C := RX2) (T := TX2) (N := 9) hx hb hts hiX2 tyX2 tyX2_ok nmX2 hown hK.1 hP (hD0.addr rfl) hS 0 rfl rfl 7 (by decide) k51 (fun _ h9 => h9) rfl (by decide +kernel) rfl rfl (Nat.le_of_ble_eq_true rfl) dX2_takeOver_76 (fun H locs hP hD hS => ?_)
  have hP : va_P X.1 vwCl ((wHo X h rP_1 fP_2 rT_4 fT_5 rG_7 fG_8 rL_10 fL_11 rH_13 fH_14 gi2 di2 re2 ti) ++ (wHo X h2 rP2 fP2 rT2 fT2 rG2 fG2 rL2 fL2 rH2 fH2 gi2 di2 re2 ti2)) H := hP
  refine lv_aload_n hx hb dX2_takeOver_79 rfl (lv_at hl 0 rfl) ?_
  refine lv_aload_n hx hb dX2_takeOver_80 rfl (lv_at hl 1 rfl) ?_
  refine va_get (D := X.1) (ci := 2) (v := .int ti2) (C := RX2) (T := TX2) (N := 9) hx hb hts hiX2 hown hK.1 hP 11 rfl rfl 8 (by decide) k54 (fun _ h9 => h9) rfl dX2_takeOver_81 ?_
  refine va_put (D := X.1) (ci := 2) (v := .int ti2) (ty := .int) (C := RX2) (T := TX2) (N := 9) hx hb hts hiX2 tyX2 tyX2_ok nmX2 hown hK.1 hP (hD0.addr rfl) hS 0 rfl rfl 8 (by decide) k54 (fun _ h9 => h9) rfl (by decide +kernel) rfl rfl (Nat.le_of_ble_eq_true rfl) dX2_takeOver_84 (fun H locs hP hD hS => ?_)
  have hP : va_P X.1 vwCl ((wHo X h rP_1 fP_2 rT_4 fT_5 rG_7 fG_8 rL_10 fL_11 rH_13 fH_14 gi2 di2 re2 ti2) ++ (wHo X h2 rP2 fP2 rT2 fT2 rG2 fG2 rL2 fL2 rH2 fH2 gi2 di2 re2 ti2)) H := hP
  cases hf
  exact fn_vret hx hb hr hlocks hP hS dX2_takeOver_87
