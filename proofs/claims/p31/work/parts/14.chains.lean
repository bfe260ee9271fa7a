def f_X0_stepsTo (x1 : Int32) (rS : Int32) (fS : (Nat → Int32)) : Option (Int32) :=
  bd (f_X3_at (10 : Int32) 10 (0 : Int32) x1 rS fS) (fun r_1 =>
  some r_1)
set_option maxHeartbeats 4000000 in
set_option maxRecDepth 100000 in
theorem c_X0_stepsTo (l : Launch) (X : cx_G) (ch : (Nat → Nat)) (rS : Int32) (fS : (Nat → Int32)) (x1 : Int32) (r : Int32) (hf : f_X0_stepsTo x1 rS fS = some r) : Fn l yX0_stepsTo wsX0_stepsTo ({ frames := 1, cells := 0, slots := 0, locals := 24 } : Room) X [.ref (ch 0), .int x1] (wCh X ch rS fS) (some (.int r)) (wCh X ch rS fS) := by
  refine fn_intro (cc := cX0_stepsTo) (maxL := 2) (ret := (some .int)) (by decide) rfl rfl (Nat.le_of_ble_eq_true rfl) ?_
  intro p e s m args below meth c A ls hx hb hml hr hts hown hlocks hK hP hD0 hS hA hl
  have hown : s.vm.findClass RX0 = some m.cls := hown
  have hl : lv_has ls 2 [(0, .ref (ch 0)), (1, .int x1)] := hl
  have hiX0 : ∀ w ∈ u_ws RX0 TX0 1, w ∈ wsX0_stepsTo := by decide +kernel
  have k14 := hts (.fieldLink RX0 14 "LentRights$Chains" "steps" "LLentRights$Table;") (by decide +kernel)
  unfold f_X0_stepsTo at hf
  refine lv_aload_n hx hb dX0_stepsTo_0 rfl (lv_at hl 0 rfl) ?_
  refine va_get (D := X.1) (ci := 0) (v := .ref (ch 1)) (C := RX0) (T := TX0) (N := 1) hx hb hts hiX0 hown hK.1 hP 0 rfl rfl 0 (by decide) k14 (fun _ h9 => h9) rfl dX0_stepsTo_1 ?_
  refine lv_iconst (v := 0) hx hb dX0_stepsTo_4 (by decide) ?_
  refine lv_iload_n hx hb dX0_stepsTo_5 rfl (lv_at hl 1 rfl) ?_
  obtain ⟨r_1, hc_2, hf⟩ := bd_of hf
  refine fn_V (v := some (.int r_1)) (As := [.int (0 : Int32), .int x1]) (rest := []) (st1 := [.int r_1]) (ws' := (wCh X ch rS fS)) (nL := 2) ⟨hx, hb, hml, hown, hts⟩ (c_X3_at l X (ch 1) (ch 2) (1 : Int32) (10 : Int32) 10 rS fS (0 : Int32) x1 r_1 hc_2) (cwV 2 hts gX0_stepsTo_X3_at rfl rfl rfl (by decide +kernel) ⟨Nat.le_of_ble_eq_true rfl, Nat.le_of_ble_eq_true rfl⟩) 3 rfl rfl rfl rfl hl.1 rfl (Nat.le_of_ble_eq_true rfl) dX0_stepsTo_6 hK hP (hD0.addr rfl) hS hA [1, 2] rfl rfl rfl rfl ⟨Nat.zero_le _, Nat.zero_le _⟩ (fun H locs hP hD hS => ?_)
  cases hf
  exact fn_iret hx hb hr hlocks hP hS dX0_stepsTo_9

def f_X0_isLink (x2 : Int32) (x3 : Int32) (x4 : Int32) (rS : Int32) (fS : (Nat → Int32)) (rT : Int32) (fT : (Nat → Int32)) (rG : Int32) (fG : (Nat → Int32)) (rH : Int32) (fH : (Nat → Int32)) : Option (Int32) :=
  bd (f_X3_at (6 : Int32) 240 x2 (2 : Int32) rG fG) (fun r_1 =>
  if r_1 = x3 then
  (bd (f_X3_at (6 : Int32) 240 x2 (0 : Int32) rG fG) (fun r_4 =>
  bd (f_X0_stepsTo r_4 rS fS) (fun r_6 =>
  if r_6 = x4 - (1 : Int32) then
  (bd (f_X2_passedOn x2 rT fT rG fG rH fH) (fun r_9 =>
  if r_9 &&& (1 : Int32) = (0 : Int32) then
  (some (0 : Int32))
  else
  (some (1 : Int32))))
  else
  (some (0 : Int32)))))
  else
  (some (0 : Int32)))
theorem z_X0_isLink {x2 : Int32} {x3 : Int32} {x4 : Int32} {rS : Int32} {fS : (Nat → Int32)} {rT : Int32} {fT : (Nat → Int32)} {rG : Int32} {fG : (Nat → Int32)} {rH : Int32} {fH : (Nat → Int32)} {r : Int32} (hf : f_X0_isLink x2 x3 x4 rS fS rT fT rG fG rH fH = some r) : r = 0 ∨ r = 1 := by
  unfold f_X0_isLink at hf
  obtain ⟨r_1, hc_2, hf⟩ := bd_of hf
  by_cases c_3 : r_1 = x3
  · replace hf := fp_t c_3 hf
    obtain ⟨r_4, hc_5, hf⟩ := bd_of hf
    obtain ⟨r_6, hc_7, hf⟩ := bd_of hf
    by_cases c_8 : r_6 = x4 - (1 : Int32)
    · replace hf := fp_t c_8 hf
      obtain ⟨r_9, hc_10, hf⟩ := bd_of hf
      by_cases c_11 : r_9 &&& (1 : Int32) = (0 : Int32)
      · replace hf := fp_t c_11 hf
        cases hf
        exact Or.inl rfl
      · replace hf := fp_f c_11 hf
        cases hf
        exact Or.inr rfl
    · replace hf := fp_f c_8 hf
      cases hf
      exact Or.inl rfl
  · replace hf := fp_f c_3 hf
    cases hf
    exact Or.inl rfl
set_option maxHeartbeats 4000000 in
set_option maxRecDepth 100000 in
theorem c_X0_isLink (l : Launch) (X : cx_G) (ch : (Nat → Nat)) (h : (Nat → Nat)) (rS : Int32) (fS : (Nat → Int32)) (rP : Int32) (fP : (Nat → Int32)) (rT : Int32) (fT : (Nat → Int32)) (rG : Int32) (fG : (Nat → Int32)) (rL : Int32) (fL : (Nat → Int32)) (rH : Int32) (fH : (Nat → Int32)) (gi : Int32) (di : Int32) (re : Int32) (ti : Int32) (x2 : Int32) (x3 : Int32) (x4 : Int32) (r : Int32) (hf : f_X0_isLink x2 x3 x4 rS fS rT fT rG fG rH fH = some r) : Fn l yX0_isLink wsX0_isLink ({ frames := 2, cells := 0, slots := 0, locals := 47 } : Room) X [.ref (ch 0), .ref (h 0), .int x2, .int x3, .int x4] ((wCh X ch rS fS) ++ (wHo X h rP fP rT fT rG fG rL fL rH fH gi di re ti)) (some (.int r)) ((wCh X ch rS fS) ++ (wHo X h rP fP rT fT rG fG rL fL rH fH gi di re ti)) := by
  refine fn_intro (cc := cX0_isLink) (maxL := 5) (ret := (some .boolean)) (by decide) rfl rfl (Nat.le_of_ble_eq_true rfl) ?_
  intro p e s m args below meth c A ls hx hb hml hr hts hown hlocks hK hP hD0 hS hA hl
  have hown : s.vm.findClass RX0 = some m.cls := hown
  have hl : lv_has ls 5 [(0, .ref (ch 0)), (1, .ref (h 0)), (2, .int x2), (3, .int x3), (4, .int x4)] := hl
  have hiX2 : ∀ w ∈ u_ws RX2 TX2 9, w ∈ wsX0_isLink := by decide +kernel
  have k37 := hts (.fieldLink RX0 37 "LentRights$House" "grants" "LLentRights$Table;") (by decide +kernel)
  unfold f_X0_isLink at hf
  refine lv_aload_n hx hb dX0_isLink_0 rfl (lv_at hl 1 rfl) ?_
  refine va_get (D := X.1) (ci := 2) (v := .ref (h 5)) (C := RX2) (T := TX2) (N := 9) hx hb hts hiX2 hown hK.1 hP 3 rfl rfl 2 (by decide) k37 (fun _ h9 => h9) rfl dX0_isLink_1 ?_
  refine lv_iload_n hx hb dX0_isLink_4 rfl (lv_at hl 2 rfl) ?_
  refine lv_iconst (v := 2) hx hb dX0_isLink_5 (by decide) ?_
  obtain ⟨r_1, hc_2, hf⟩ := bd_of hf
  refine fn_V (v := some (.int r_1)) (As := [.int x2, .int (2 : Int32)]) (rest := []) (st1 := [.int r_1]) (ws' := ((wCh X ch rS fS) ++ (wHo X h rP fP rT fT rG fG rL fL rH fH gi di re ti))) (nL := 5) ⟨hx, hb, hml, hown, hts⟩ (c_X3_at l X (h 5) (h 6) (40 : Int32) (6 : Int32) 240 rG fG x2 (2 : Int32) r_1 hc_2) (cwV 2 hts gX0_isLink_X3_at rfl rfl rfl (by decide +kernel) ⟨Nat.le_of_ble_eq_true rfl, Nat.le_of_ble_eq_true rfl⟩) 3 rfl rfl rfl rfl hl.1 rfl (Nat.le_of_ble_eq_true rfl) dX0_isLink_6 hK hP (hD0.addr rfl) hS hA [8, 9] rfl rfl rfl rfl ⟨Nat.zero_le _, Nat.zero_le _⟩ (fun H locs hP hD hS => ?_)
  refine lv_iload_n hx hb dX0_isLink_9 rfl (lv_at hl 3 rfl) ?_
  refine lv_icmp_ne (tgt := 47) hx hb dX0_isLink_10 (by decide) (fun c_3 => ?_) (fun c_3 => ?_)
  · replace hf := fp_f c_3 hf
    refine lv_iconst (v := 0) hx hb dX0_isLink_47 (by decide) ?_
    cases hf
    exact fn_zret hx hb hr rfl hlocks hP hS dX0_isLink_48
  · replace hf := fp_t c_3 hf
    refine lv_aload_n hx hb dX0_isLink_13 rfl (lv_at hl 0 rfl) ?_
    refine lv_aload_n hx hb dX0_isLink_14 rfl (lv_at hl 1 rfl) ?_
    refine va_get (D := X.1) (ci := 2) (v := .ref (h 5)) (C := RX2) (T := TX2) (N := 9) hx hb hts hiX2 hown hK.1 hP 3 rfl rfl 2 (by decide) k37 (fun _ h9 => h9) rfl dX0_isLink_15 ?_
    refine lv_iload_n hx hb dX0_isLink_18 rfl (lv_at hl 2 rfl) ?_
    refine lv_iconst (v := 0) hx hb dX0_isLink_19 (by decide) ?_
    obtain ⟨r_4, hc_5, hf⟩ := bd_of hf
    refine fn_V (v := some (.int r_4)) (As := [.int x2, .int (0 : Int32)]) (rest := [.ref (ch 0)]) (st1 := [.int r_4, .ref (ch 0)]) (ws' := ((wCh X ch rS fS) ++ (wHo X h rP fP rT fT rG fG rL fL rH fH gi di re ti))) (nL := 5) ⟨hx, hb, hml, hown, hts⟩ (c_X3_at l X (h 5) (h 6) (40 : Int32) (6 : Int32) 240 rG fG x2 (0 : Int32) r_4 hc_5) (cwV 2 hts gX0_isLink_X3_at rfl rfl rfl (by decide +kernel) ⟨Nat.le_of_ble_eq_true rfl, Nat.le_of_ble_eq_true rfl⟩) 3 rfl rfl rfl rfl hl.1 rfl (Nat.le_of_ble_eq_true rfl) dX0_isLink_20 hK hP (hD0.addr rfl) hS hA [8, 9] rfl rfl rfl rfl ⟨Nat.zero_le _, Nat.zero_le _⟩ (fun H locs hP hD hS => ?_)
    obtain ⟨r_6, hc_7, hf⟩ := bd_of hf
    refine fn_V (v := some (.int r_6)) (As := [.int r_4]) (rest := []) (st1 := [.int r_6]) (ws' := ((wCh X ch rS fS) ++ (wHo X h rP fP rT fT rG fG rL fL rH fH gi di re ti))) (nL := 5) ⟨hx, hb, hml, hown, hts⟩ (c_X0_stepsTo l X ch rS fS r_4 r_6 hc_7) (cwV 1 hts gX0_isLink_X0_stepsTo rfl rfl rfl (by decide +kernel) ⟨Nat.le_of_ble_eq_true rfl, Nat.le_of_ble_eq_true rfl⟩) 0 rfl rfl rfl rfl hl.1 rfl (Nat.le_of_ble_eq_true rfl) dX0_isLink_23 hK hP (hD0.addr rfl) hS hA [0, 1, 2] rfl rfl rfl rfl ⟨Nat.zero_le _, Nat.zero_le _⟩ (fun H locs hP hD hS => ?_)
    refine lv_iload hx hb dX0_isLink_26 (lv_at hl 4 rfl) ?_
    refine lv_iconst (v := 1) hx hb dX0_isLink_28 (by decide) ?_
    refine lv_isub hx hb dX0_isLink_29 ?_
    refine lv_icmp_ne (tgt := 47) hx hb dX0_isLink_30 (by decide) (fun c_8 => ?_) (fun c_8 => ?_)
    · replace hf := fp_f c_8 hf
      refine lv_iconst (v := 0) hx hb dX0_isLink_47 (by decide) ?_
      cases hf
      exact fn_zret hx hb hr rfl hlocks hP hS dX0_isLink_48
    · replace hf := fp_t c_8 hf
      refine lv_aload_n hx hb dX0_isLink_33 rfl (lv_at hl 1 rfl) ?_
      refine lv_iload_n hx hb dX0_isLink_34 rfl (lv_at hl 2 rfl) ?_
      obtain ⟨r_9, hc_10, hf⟩ := bd_of hf
      refine fn_V (v := some (.int r_9)) (As := [.int x2]) (rest := []) (st1 := [.int r_9]) (ws' := ((wCh X ch rS fS) ++ (wHo X h rP fP rT fT rG fG rL fL rH fH gi di re ti))) (nL := 5) ⟨hx, hb, hml, hown, hts⟩ (c_X2_passedOn l X h rP fP rT fT rG fG rL fL rH fH gi di re ti x2 r_9 hc_10) (cwV 1 hts gX0_isLink_X2_passedOn rfl rfl rfl (by decide +kernel) ⟨Nat.le_of_ble_eq_true rfl, Nat.le_of_ble_eq_true rfl⟩) 2 rfl rfl rfl rfl hl.1 rfl (Nat.le_of_ble_eq_true rfl) dX0_isLink_35 hK hP (hD0.addr rfl) hS hA [3, 4, 5, 6, 7, 8, 9, 10, 11, 12, 13] rfl rfl rfl rfl ⟨Nat.zero_le _, Nat.zero_le _⟩ (fun H locs hP hD hS => ?_)
      refine lv_iconst (v := 1) hx hb dX0_isLink_38 (by decide) ?_
      refine lv_iand hx hb dX0_isLink_39 ?_
      refine lv_if_eq (tgt := 47) hx hb dX0_isLink_40 (by decide) (fun c_11 => ?_) (fun c_11 => ?_)
      · replace hf := fp_t c_11 hf
        refine lv_iconst (v := 0) hx hb dX0_isLink_47 (by decide) ?_
        cases hf
        exact fn_zret hx hb hr rfl hlocks hP hS dX0_isLink_48
      · replace hf := fp_f c_11 hf
        refine lv_iconst (v := 1) hx hb dX0_isLink_43 (by decide) ?_
        refine lv_goto (tgt := 48) hx hb dX0_isLink_44 (by decide) ?_
        cases hf
        exact fn_zret hx hb hr rfl hlocks hP hS dX0_isLink_48

def f_X0_measure_L62 (x2 : Int32) (x4 : Int32) (rS : Int32) (rT : Int32) (fT : (Nat → Int32)) (rG : Int32) (fG : (Nat → Int32)) (rH : Int32) (fH : (Nat → Int32)) : Nat → Int32 → Int32 → (Nat → Int32) →  Option (Int32 × (Nat → Int32))
  | 0, _, _, _ => none
  | k_ + 1, x3, x5, fS =>
    bd (f_X3_rows rG) (fun r_1 =>
    if r_1 ≤ x5 then
    (some (x3, fS))
    else
    (bd (f_X3_at (6 : Int32) 240 x5 (1 : Int32) rG fG) (fun r_4 =>
    bd (f_X0_stepsTo r_4 rS fS) (fun r_6 =>
    if r_6 = (-1 : Int32) then
    (bd (f_X0_isLink x5 x2 x4 rS fS rT fT rG fG rH fH) (fun r_10 =>
    if r_10 = (0 : Int32) then
    (nm (x5 + (1 : Int32)) (fun v_13 =>
    f_X0_measure_L62 x2 x4 rS rT fT rG fG rH fH k_ x3 v_13 fS))
    else
    (bd (f_X3_put (10 : Int32) 10 (0 : Int32) r_4 x4 rS fS) (fun fS_14 =>
    nm (x5 + (1 : Int32)) (fun v_16 =>
    f_X0_measure_L62 x2 x4 rS rT fT rG fG rH fH k_ (1 : Int32) v_16 fS_14)))))
    else
    (nm (x5 + (1 : Int32)) (fun v_9 =>
    f_X0_measure_L62 x2 x4 rS rT fT rG fG rH fH k_ x3 v_9 fS))))))
def f_X0_measure_L46 (x2 : Int32) (rS : Int32) (rT : Int32) (fT : (Nat → Int32)) (rG : Int32) (fG : (Nat → Int32)) (rH : Int32) (fH : (Nat → Int32)) : Nat → Int32 → Int32 → (Nat → Int32) →  Option ((Nat → Int32))
  | 0, _, _, _ => none
  | k_ + 1, x3, x4, fS =>
    if (10 : Int32) ≤ x4 then
    (some fS)
    else
    (if x3 = (0 : Int32) then
    (some fS)
    else
    (bd2 (f_X0_measure_L62 x2 x4 rS rT fT rG fG rH fH FU (0 : Int32) (0 : Int32) fS) (fun y3_19 fS_20 =>
    nm (x4 + (1 : Int32)) (fun v_22 =>
    f_X0_measure_L46 x2 rS rT fT rG fG rH fH k_ y3_19 v_22 fS_20))))
def f_X0_measure_L2 (x2 : Int32) (rS : Int32) (rT : Int32) (fT : (Nat → Int32)) : Nat → Int32 → (Nat → Int32) →  Option ((Nat → Int32))
  | 0, _, _ => none
  | k_ + 1, x3, fS =>
    if (10 : Int32) ≤ x3 then
    (some fS)
    else
    (bd (f_X3_at (2 : Int32) 16 x2 (0 : Int32) rT fT) (fun r_24 =>
    if x3 = r_24 then
    (bd (f_X3_put (10 : Int32) 10 (0 : Int32) x3 (0 : Int32) rS fS) (fun fS_30 =>
    nm (x3 + (1 : Int32)) (fun v_32 =>
    f_X0_measure_L2 x2 rS rT fT k_ v_32 fS_30)))
    else
    (bd (f_X3_put (10 : Int32) 10 (0 : Int32) x3 (-1 : Int32) rS fS) (fun fS_27 =>
    nm (x3 + (1 : Int32)) (fun v_29 =>
    f_X0_measure_L2 x2 rS rT fT k_ v_29 fS_27)))))
def f_X0_measure (x2 : Int32) (rS : Int32) (fS : (Nat → Int32)) (rT : Int32) (fT : (Nat → Int32)) (rG : Int32) (fG : (Nat → Int32)) (rH : Int32) (fH : (Nat → Int32)) : Option ((Nat → Int32)) :=
  bd (f_X0_measure_L2 x2 rS rT fT FU (0 : Int32) fS) (fun fS_33 =>
  bd (f_X0_measure_L46 x2 rS rT fT rG fG rH fH FU (1 : Int32) (1 : Int32) fS_33) (fun fS_35 =>
  some fS_35))
set_option maxHeartbeats 4000000 in
set_option maxRecDepth 100000 in
theorem c_X0_measure (l : Launch) (X : cx_G) (ch : (Nat → Nat)) (h : (Nat → Nat)) (rS : Int32) (fS : (Nat → Int32)) (rP : Int32) (fP : (Nat → Int32)) (rT : Int32) (fT : (Nat → Int32)) (rG : Int32) (fG : (Nat → Int32)) (rL : Int32) (fL : (Nat → Int32)) (rH : Int32) (fH : (Nat → Int32)) (gi : Int32) (di : Int32) (re : Int32) (ti : Int32) (x2 : Int32) (fS' : (Nat → Int32)) (hf : f_X0_measure x2 rS fS rT fT rG fG rH fH = some fS') : Fn l yX0_measure wsX0_measure ({ frames := 3, cells := 0, slots := 0, locals := 71 } : Room) X [.ref (ch 0), .ref (h 0), .int x2] ((wCh X ch rS fS) ++ (wHo X h rP fP rT fT rG fG rL fL rH fH gi di re ti)) none ((wCh X ch rS fS') ++ (wHo X h rP fP rT fT rG fG rL fL rH fH gi di re ti)) := by
  refine fn_intro (cc := cX0_measure) (maxL := 7) (ret := none) (by decide) rfl rfl (Nat.le_of_ble_eq_true rfl) ?_
  intro p e s m args below meth c A ls hx hb hml hr hts hown hlocks hK hP hD0 hS hA hl
  have hown : s.vm.findClass RX0 = some m.cls := hown
  have hl : lv_has ls 7 [(0, .ref (ch 0)), (1, .ref (h 0)), (2, .int x2)] := hl
  have hiX0 : ∀ w ∈ u_ws RX0 TX0 1, w ∈ wsX0_measure := by decide +kernel
  have hiX2 : ∀ w ∈ u_ws RX2 TX2 9, w ∈ wsX0_measure := by decide +kernel
  have k14 := hts (.fieldLink RX0 14 "LentRights$Chains" "steps" "LLentRights$Table;") (by decide +kernel)
  have k28 := hts (.fieldLink RX0 28 "LentRights$House" "things" "LLentRights$Table;") (by decide +kernel)
  have k37 := hts (.fieldLink RX0 37 "LentRights$House" "grants" "LLentRights$Table;") (by decide +kernel)
  have loop_62 : ∀ (Q : State → Prop) (x4 : Int32) (y3 : Int32) (fSo : (Nat → Int32)), (∀ (H : Heap) (locs : List Loc) (ls : Array Slot), va_P X.1 vwCl ((wCh X ch rS fSo) ++ (wHo X h rP fP rT fT rG fG rL fL rH fH gi di re ti)) H → va_S A s.heap H locs → lv_has ls 7 [(0, .ref (ch 0)), (1, .ref (h 0)), (2, .int x2), (3, .int y3), (4, .int x4)] → W p l e ({ frames := 3, cells := 0, slots := 0, locals := 71 } : Room) s m args below meth c H locs 0 0 Q (F0 m 129 ls [])) → ∀ (k_ : Nat) (x3 : Int32) (x5 : Int32) (fS : (Nat → Int32)) (H : Heap) (locs : List Loc) (ls : Array Slot), f_X0_measure_L62 x2 x4 rS rT fT rG fG rH fH k_ x3 x5 fS = some (y3, fSo) → va_P X.1 vwCl ((wCh X ch rS fS) ++ (wHo X h rP fP rT fT rG fG rL fL rH fH gi di re ti)) H → va_S A s.heap H locs → lv_has ls 7 [(0, .ref (ch 0)), (1, .ref (h 0)), (2, .int x2), (3, .int x3), (4, .int x4), (5, .int x5)] → W p l e ({ frames := 3, cells := 0, slots := 0, locals := 71 } : Room) s m args below meth c H locs 0 0 Q (F0 m 62 ls []) := by
    intro Q x4 y3 fSo kx k_
    induction k_ with
    | zero => intro x3 x5 fS H locs ls hf; exact nomatch (show (none : Option (Int32 × (Nat → Int32))) = some _ from hf)
    | succ k_ ih =>
      intro x3 x5 fS H locs ls hf hP hS hl
      unfold f_X0_measure_L62 at hf
      refine lv_iload hx hb dX0_measure_62 (lv_at hl 5 rfl) ?_
      refine lv_aload_n hx hb dX0_measure_64 rfl (lv_at hl 1 rfl) ?_
      refine va_get (D := X.1) (ci := 2) (v := .ref (h 5)) (C := RX2) (T := TX2) (N := 9) hx hb hts hiX2 hown hK.1 hP 3 rfl rfl 2 (by decide) k37 (fun _ h9 => h9) rfl dX0_measure_65 ?_
      obtain ⟨r_1, hc_2, hf⟩ := bd_of hf
      refine fn_V (v := some (.int r_1)) (As := []) (rest := [.int x5]) (st1 := [.int r_1, .int x5]) (ws' := ((wCh X ch rS fS) ++ (wHo X h rP fP rT fT rG fG rL fL rH fH gi di re ti))) (nL := 7) ⟨hx, hb, hml, hown, hts⟩ (c_X3_rows l X (h 5) (h 6) (40 : Int32) (6 : Int32) 240 rG fG r_1 hc_2) (cwV 0 hts gX0_measure_X3_rows rfl rfl rfl (by decide +kernel) ⟨Nat.le_of_ble_eq_true rfl, Nat.le_of_ble_eq_true rfl⟩) 3 rfl rfl rfl rfl hl.1 rfl (Nat.le_of_ble_eq_true rfl) dX0_measure_68 hK hP (hD0.addr rfl) hS hA [8, 9] rfl rfl rfl rfl ⟨Nat.zero_le _, Nat.zero_le _⟩ (fun H locs hP hD hS => ?_)
      refine lv_icmp_ge (tgt := 129) hx hb dX0_measure_71 (by decide) (fun c_3 => ?_) (fun c_3 => ?_)
      · replace hf := fp_t c_3 hf
        cases hf
        exact kx _ _ _ hP hS (lv_sub hl [0, 1, 2, 3, 4] rfl)
      · replace hf := fp_f c_3 hf
        refine lv_aload_n hx hb dX0_measure_74 rfl (lv_at hl 1 rfl) ?_
        refine va_get (D := X.1) (ci := 2) (v := .ref (h 5)) (C := RX2) (T := TX2) (N := 9) hx hb hts hiX2 hown hK.1 hP 3 rfl rfl 2 (by decide) k37 (fun _ h9 => h9) rfl dX0_measure_75 ?_
        refine lv_iload hx hb dX0_measure_78 (lv_at hl 5 rfl) ?_
        refine lv_iconst (v := 1) hx hb dX0_measure_80 (by decide) ?_
        obtain ⟨r_4, hc_5, hf⟩ := bd_of hf
        refine fn_V (v := some (.int r_4)) (As := [.int x5, .int (1 : Int32)]) (rest := []) (st1 := [.int r_4]) (ws' := ((wCh X ch rS fS) ++ (wHo X h rP fP rT fT rG fG rL fL rH fH gi di re ti))) (nL := 7) ⟨hx, hb, hml, hown, hts⟩ (c_X3_at l X (h 5) (h 6) (40 : Int32) (6 : Int32) 240 rG fG x5 (1 : Int32) r_4 hc_5) (cwV 2 hts gX0_measure_X3_at rfl rfl rfl (by decide +kernel) ⟨Nat.le_of_ble_eq_true rfl, Nat.le_of_ble_eq_true rfl⟩) 3 rfl rfl rfl rfl hl.1 rfl (Nat.le_of_ble_eq_true rfl) dX0_measure_81 hK hP (hD0.addr rfl) hS hA [8, 9] rfl rfl rfl rfl ⟨Nat.zero_le _, Nat.zero_le _⟩ (fun H locs hP hD hS => ?_)
        refine lv_istore (lv' := [(6, .int r_4), (0, .ref (ch 0)), (1, .ref (h 0)), (2, .int x2), (3, .int x3), (4, .int x4), (5, .int x5)]) hx hb dX0_measure_84 hl (by decide) rfl (fun ls hl => ?_)
        refine lv_aload_n hx hb dX0_measure_86 rfl (lv_at hl 1 rfl) ?_
        refine lv_iload hx hb dX0_measure_87 (lv_at hl 0 rfl) ?_
        obtain ⟨r_6, hc_7, hf⟩ := bd_of hf
        refine fn_V (v := some (.int r_6)) (As := [.int r_4]) (rest := []) (st1 := [.int r_6]) (ws' := ((wCh X ch rS fS) ++ (wHo X h rP fP rT fT rG fG rL fL rH fH gi di re ti))) (nL := 7) ⟨hx, hb, hml, hown, hts⟩ (c_X0_stepsTo l X ch rS fS r_4 r_6 hc_7) (cwV 1 hts gX0_measure_X0_stepsTo rfl rfl rfl (by decide +kernel) ⟨Nat.le_of_ble_eq_true rfl, Nat.le_of_ble_eq_true rfl⟩) 0 rfl rfl rfl rfl hl.1 rfl (Nat.le_of_ble_eq_true rfl) dX0_measure_89 hK hP (hD0.addr rfl) hS hA [0, 1, 2] rfl rfl rfl rfl ⟨Nat.zero_le _, Nat.zero_le _⟩ (fun H locs hP hD hS => ?_)
        refine lv_iconst (v := -1) hx hb dX0_measure_92 (by decide) ?_
        refine lv_icmp_ne (tgt := 123) hx hb dX0_measure_93 (by decide) (fun c_8 => ?_) (fun c_8 => ?_)
        · replace hf := fp_f c_8 hf
          obtain ⟨v_9, ev_9⟩ : ∃ y : Int32, y = x5 + (1 : Int32) := ⟨_, rfl⟩
          replace hf := nm_of ev_9 hf
          refine lv_iinc (v := v_9) (lv' := [(5, .int v_9), (6, .int r_4), (0, .ref (ch 0)), (1, .ref (h 0)), (2, .int x2), (3, .int x3), (4, .int x4)]) hx hb dX0_measure_123 hl (k := 6) rfl (by rw [ev_9]; rfl) (by decide) rfl (fun ls hl => ?_)
          refine lv_goto (tgt := 62) hx hb dX0_measure_126 (by decide) ?_
          exact ih x3 v_9 fS _ _ _ hf hP hS (lv_sub hl [2, 3, 4, 5, 6, 0] rfl)
        · replace hf := fp_t c_8 hf
          refine lv_aload_n hx hb dX0_measure_96 rfl (lv_at hl 1 rfl) ?_
          refine lv_aload_n hx hb dX0_measure_97 rfl (lv_at hl 2 rfl) ?_
          refine lv_iload hx hb dX0_measure_98 (lv_at hl 6 rfl) ?_
          refine lv_iload_n hx hb dX0_measure_100 rfl (lv_at hl 3 rfl) ?_
          refine lv_iload hx hb dX0_measure_101 (lv_at hl 5 rfl) ?_
          obtain ⟨r_10, hc_11, hf⟩ := bd_of hf
          refine fn_V (v := some (.int r_10)) (As := [.ref (h 0), .int x5, .int x2, .int x4]) (rest := []) (st1 := [.int r_10]) (ws' := ((wCh X ch rS fS) ++ (wHo X h rP fP rT fT rG fG rL fL rH fH gi di re ti))) (nL := 7) ⟨hx, hb, hml, hown, hts⟩ (c_X0_isLink l X ch h rS fS rP fP rT fT rG fG rL fL rH fH gi di re ti x5 x2 x4 r_10 hc_11) (cwV 4 hts gX0_measure_X0_isLink rfl rfl rfl (by decide +kernel) ⟨Nat.le_of_ble_eq_true rfl, Nat.le_of_ble_eq_true rfl⟩) 0 rfl rfl rfl rfl hl.1 rfl (Nat.le_of_ble_eq_true rfl) dX0_measure_103 hK hP (hD0.addr rfl) hS hA [0, 1, 2, 3, 4, 5, 6, 7, 8, 9, 10, 11, 12, 13] rfl rfl rfl rfl ⟨Nat.zero_le _, Nat.zero_le _⟩ (fun H locs hP hD hS => ?_)
          refine lv_if_eq (tgt := 123) hx hb dX0_measure_106 (by decide) (fun c_12 => ?_) (fun c_12 => ?_)
          · replace hf := fp_t c_12 hf
            obtain ⟨v_13, ev_13⟩ : ∃ y : Int32, y = x5 + (1 : Int32) := ⟨_, rfl⟩
            replace hf := nm_of ev_13 hf
            refine lv_iinc (v := v_13) (lv' := [(5, .int v_13), (6, .int r_4), (0, .ref (ch 0)), (1, .ref (h 0)), (2, .int x2), (3, .int x3), (4, .int x4)]) hx hb dX0_measure_123 hl (k := 6) rfl (by rw [ev_13]; rfl) (by decide) rfl (fun ls hl => ?_)
            refine lv_goto (tgt := 62) hx hb dX0_measure_126 (by decide) ?_
            exact ih x3 v_13 fS _ _ _ hf hP hS (lv_sub hl [2, 3, 4, 5, 6, 0] rfl)
          · replace hf := fp_f c_12 hf
            refine lv_aload_n hx hb dX0_measure_109 rfl (lv_at hl 1 rfl) ?_
            refine va_get (D := X.1) (ci := 0) (v := .ref (ch 1)) (C := RX0) (T := TX0) (N := 1) hx hb hts hiX0 hown hK.1 hP 0 rfl rfl 0 (by decide) k14 (fun _ h9 => h9) rfl dX0_measure_110 ?_
            refine lv_iconst (v := 0) hx hb dX0_measure_113 (by decide) ?_
            refine lv_iload hx hb dX0_measure_114 (lv_at hl 0 rfl) ?_
            refine lv_iload hx hb dX0_measure_116 (lv_at hl 5 rfl) ?_
            obtain ⟨fS_14, hc_15, hf⟩ := bd_of hf
            refine fn_V (v := none) (As := [.int (0 : Int32), .int r_4, .int x4]) (rest := []) (st1 := []) (ws' := ((wCh X ch rS fS_14) ++ (wHo X h rP fP rT fT rG fG rL fL rH fH gi di re ti))) (nL := 7) ⟨hx, hb, hml, hown, hts⟩ (c_X3_put l X (ch 1) (ch 2) (1 : Int32) (10 : Int32) 10 rS fS (0 : Int32) r_4 x4 fS_14 hc_15) (cwV 3 hts gX0_measure_X3_put rfl rfl rfl (by decide +kernel) ⟨Nat.le_of_ble_eq_true rfl, Nat.le_of_ble_eq_true rfl⟩) 3 rfl rfl rfl rfl hl.1 rfl (Nat.le_of_ble_eq_true rfl) dX0_measure_118 hK hP (hD0.addr rfl) hS hA [1, 2] rfl rfl rfl rfl ⟨Nat.zero_le _, Nat.zero_le _⟩ (fun H locs hP hD hS => ?_)
            refine lv_iconst (v := 1) hx hb dX0_measure_121 (by decide) ?_
            refine lv_istore_n (lv' := [(3, .int (1 : Int32)), (6, .int r_4), (0, .ref (ch 0)), (1, .ref (h 0)), (2, .int x2), (4, .int x4), (5, .int x5)]) hx hb dX0_measure_122 rfl hl (by decide) rfl (fun ls hl => ?_)
            obtain ⟨v_16, ev_16⟩ : ∃ y : Int32, y = x5 + (1 : Int32) := ⟨_, rfl⟩
            replace hf := nm_of ev_16 hf
            refine lv_iinc (v := v_16) (lv' := [(5, .int v_16), (3, .int (1 : Int32)), (6, .int r_4), (0, .ref (ch 0)), (1, .ref (h 0)), (2, .int x2), (4, .int x4)]) hx hb dX0_measure_123 hl (k := 6) rfl (by rw [ev_16]; rfl) (by decide) rfl (fun ls hl => ?_)
            refine lv_goto (tgt := 62) hx hb dX0_measure_126 (by decide) ?_
            exact ih (1 : Int32) v_16 fS_14 _ _ _ hf hP hS (lv_sub hl [3, 4, 5, 1, 6, 0] rfl)
  have loop_46 : ∀ (Q : State → Prop) (fSo : (Nat → Int32)), (∀ (H : Heap) (locs : List Loc) (ls : Array Slot), va_P X.1 vwCl ((wCh X ch rS fSo) ++ (wHo X h rP fP rT fT rG fG rL fL rH fH gi di re ti)) H → va_S A s.heap H locs → lv_has ls 7 [] → W p l e ({ frames := 3, cells := 0, slots := 0, locals := 71 } : Room) s m args below meth c H locs 0 0 Q (F0 m 135 ls [])) → ∀ (k_ : Nat) (x3 : Int32) (x4 : Int32) (fS : (Nat → Int32)) (H : Heap) (locs : List Loc) (ls : Array Slot), f_X0_measure_L46 x2 rS rT fT rG fG rH fH k_ x3 x4 fS = some fSo → va_P X.1 vwCl ((wCh X ch rS fS) ++ (wHo X h rP fP rT fT rG fG rL fL rH fH gi di re ti)) H → va_S A s.heap H locs → lv_has ls 7 [(0, .ref (ch 0)), (1, .ref (h 0)), (2, .int x2), (3, .int x3), (4, .int x4)] → W p l e ({ frames := 3, cells := 0, slots := 0, locals := 71 } : Room) s m args below meth c H locs 0 0 Q (F0 m 46 ls []) := by
    intro Q fSo kx k_
    induction k_ with
    | zero => intro x3 x4 fS H locs ls hf; exact nomatch (show (none : Option ((Nat → Int32))) = some _ from hf)
    | succ k_ ih =>
      intro x3 x4 fS H locs ls hf hP hS hl
      unfold f_X0_measure_L46 at hf
      refine lv_iload hx hb dX0_measure_46 (lv_at hl 4 rfl) ?_
      refine lv_bipush (v := 10) hx hb dX0_measure_48 (by decide) ?_
      refine lv_icmp_ge (tgt := 135) hx hb dX0_measure_50 (by decide) (fun c_17 => ?_) (fun c_17 => ?_)
      · replace hf := fp_t c_17 hf
        cases hf
        exact kx _ _ _ hP hS (lv_sub hl [] rfl)
      · replace hf := fp_f c_17 hf
        refine lv_iload_n hx hb dX0_measure_53 rfl (lv_at hl 3 rfl) ?_
        refine lv_if_eq (tgt := 135) hx hb dX0_measure_54 (by decide) (fun c_18 => ?_) (fun c_18 => ?_)
        · replace hf := fp_t c_18 hf
          cases hf
          exact kx _ _ _ hP hS (lv_sub hl [] rfl)
        · replace hf := fp_f c_18 hf
          refine lv_iconst (v := 0) hx hb dX0_measure_57 (by decide) ?_
          refine lv_istore_n (lv' := [(3, .int (0 : Int32)), (0, .ref (ch 0)), (1, .ref (h 0)), (2, .int x2), (4, .int x4)]) hx hb dX0_measure_58 rfl hl (by decide) rfl (fun ls hl => ?_)
          refine lv_iconst (v := 0) hx hb dX0_measure_59 (by decide) ?_
          refine lv_istore (lv' := [(5, .int (0 : Int32)), (3, .int (0 : Int32)), (0, .ref (ch 0)), (1, .ref (h 0)), (2, .int x2), (4, .int x4)]) hx hb dX0_measure_60 hl (by decide) rfl (fun ls hl => ?_)
          obtain ⟨y3_19, fS_20, hL_21, hf⟩ := bd2_of hf
          refine loop_62 _ x4 y3_19 fS_20 (fun H locs ls hP hS hl => ?_) FU (0 : Int32) (0 : Int32) fS _ _ _ hL_21 hP hS (lv_sub hl [2, 3, 4, 1, 5, 0] rfl)
          obtain ⟨v_22, ev_22⟩ : ∃ y : Int32, y = x4 + (1 : Int32) := ⟨_, rfl⟩
          replace hf := nm_of ev_22 hf
          refine lv_iinc (v := v_22) (lv' := [(4, .int v_22), (0, .ref (ch 0)), (1, .ref (h 0)), (2, .int x2), (3, .int y3_19)]) hx hb dX0_measure_129 hl (k := 4) rfl (by rw [ev_22]; rfl) (by decide) rfl (fun ls hl => ?_)
          refine lv_goto (tgt := 46) hx hb dX0_measure_132 (by decide) ?_
          exact ih y3_19 v_22 fS_20 _ _ _ hf hP hS (lv_sub hl [1, 2, 3, 4, 0] rfl)
  have loop_2 : ∀ (Q : State → Prop) (fSo : (Nat → Int32)), (∀ (H : Heap) (locs : List Loc) (ls : Array Slot), va_P X.1 vwCl ((wCh X ch rS fSo) ++ (wHo X h rP fP rT fT rG fG rL fL rH fH gi di re ti)) H → va_S A s.heap H locs → lv_has ls 7 [(0, .ref (ch 0)), (1, .ref (h 0)), (2, .int x2)] → W p l e ({ frames := 3, cells := 0, slots := 0, locals := 71 } : Room) s m args below meth c H locs 0 0 Q (F0 m 41 ls [])) → ∀ (k_ : Nat) (x3 : Int32) (fS : (Nat → Int32)) (H : Heap) (locs : List Loc) (ls : Array Slot), f_X0_measure_L2 x2 rS rT fT k_ x3 fS = some fSo → va_P X.1 vwCl ((wCh X ch rS fS) ++ (wHo X h rP fP rT fT rG fG rL fL rH fH gi di re ti)) H → va_S A s.heap H locs → lv_has ls 7 [(0, .ref (ch 0)), (1, .ref (h 0)), (2, .int x2), (3, .int x3)] → W p l e ({ frames := 3, cells := 0, slots := 0, locals := 71 } : Room) s m args below meth c H locs 0 0 Q (F0 m 2 ls []) := by
    intro Q fSo kx k_
    induction k_ with
    | zero => intro x3 fS H locs ls hf; exact nomatch (show (none : Option ((Nat → Int32))) = some _ from hf)
    | succ k_ ih =>
      intro x3 fS H locs ls hf hP hS hl
      unfold f_X0_measure_L2 at hf
      refine lv_iload_n hx hb dX0_measure_2 rfl (lv_at hl 3 rfl) ?_
      refine lv_bipush (v := 10) hx hb dX0_measure_3 (by decide) ?_
      refine lv_icmp_ge (tgt := 41) hx hb dX0_measure_5 (by decide) (fun c_23 => ?_) (fun c_23 => ?_)
      · replace hf := fp_t c_23 hf
        cases hf
        exact kx _ _ _ hP hS (lv_sub hl [0, 1, 2] rfl)
      · replace hf := fp_f c_23 hf
        refine lv_aload_n hx hb dX0_measure_8 rfl (lv_at hl 0 rfl) ?_
        refine va_get (D := X.1) (ci := 0) (v := .ref (ch 1)) (C := RX0) (T := TX0) (N := 1) hx hb hts hiX0 hown hK.1 hP 0 rfl rfl 0 (by decide) k14 (fun _ h9 => h9) rfl dX0_measure_9 ?_
        refine lv_iconst (v := 0) hx hb dX0_measure_12 (by decide) ?_
        refine lv_iload_n hx hb dX0_measure_13 rfl (lv_at hl 3 rfl) ?_
        refine lv_iload_n hx hb dX0_measure_14 rfl (lv_at hl 3 rfl) ?_
        refine lv_aload_n hx hb dX0_measure_15 rfl (lv_at hl 1 rfl) ?_
        refine va_get (D := X.1) (ci := 2) (v := .ref (h 3)) (C := RX2) (T := TX2) (N := 9) hx hb hts hiX2 hown hK.1 hP 3 rfl rfl 1 (by decide) k28 (fun _ h9 => h9) rfl dX0_measure_16 ?_
        refine lv_iload_n hx hb dX0_measure_19 rfl (lv_at hl 2 rfl) ?_
        refine lv_iconst (v := 0) hx hb dX0_measure_20 (by decide) ?_
        obtain ⟨r_24, hc_25, hf⟩ := bd_of hf
        refine fn_V (v := some (.int r_24)) (As := [.int x2, .int (0 : Int32)]) (rest := [.int x3, .int x3, .int (0 : Int32), .ref (ch 1)]) (st1 := [.int r_24, .int x3, .int x3, .int (0 : Int32), .ref (ch 1)]) (ws' := ((wCh X ch rS fS) ++ (wHo X h rP fP rT fT rG fG rL fL rH fH gi di re ti))) (nL := 7) ⟨hx, hb, hml, hown, hts⟩ (c_X3_at l X (h 3) (h 4) (8 : Int32) (2 : Int32) 16 rT fT x2 (0 : Int32) r_24 hc_25) (cwV 2 hts gX0_measure_X3_at rfl rfl rfl (by decide +kernel) ⟨Nat.le_of_ble_eq_true rfl, Nat.le_of_ble_eq_true rfl⟩) 3 rfl rfl rfl rfl hl.1 rfl (Nat.le_of_ble_eq_true rfl) dX0_measure_21 hK hP (hD0.addr rfl) hS hA [6, 7] rfl rfl rfl rfl ⟨Nat.zero_le _, Nat.zero_le _⟩ (fun H locs hP hD hS => ?_)
        refine lv_icmp_ne (tgt := 31) hx hb dX0_measure_24 (by decide) (fun c_26 => ?_) (fun c_26 => ?_)
        · replace hf := fp_f c_26 hf
          refine lv_iconst (v := -1) hx hb dX0_measure_31 (by decide) ?_
          obtain ⟨fS_27, hc_28, hf⟩ := bd_of hf
          refine fn_V (v := none) (As := [.int (0 : Int32), .int x3, .int (-1 : Int32)]) (rest := []) (st1 := []) (ws' := ((wCh X ch rS fS_27) ++ (wHo X h rP fP rT fT rG fG rL fL rH fH gi di re ti))) (nL := 7) ⟨hx, hb, hml, hown, hts⟩ (c_X3_put l X (ch 1) (ch 2) (1 : Int32) (10 : Int32) 10 rS fS (0 : Int32) x3 (-1 : Int32) fS_27 hc_28) (cwV 3 hts gX0_measure_X3_put rfl rfl rfl (by decide +kernel) ⟨Nat.le_of_ble_eq_true rfl, Nat.le_of_ble_eq_true rfl⟩) 3 rfl rfl rfl rfl hl.1 rfl (Nat.le_of_ble_eq_true rfl) dX0_measure_32 hK hP (hD0.addr rfl) hS hA [1, 2] rfl rfl rfl rfl ⟨Nat.zero_le _, Nat.zero_le _⟩ (fun H locs hP hD hS => ?_)
          obtain ⟨v_29, ev_29⟩ : ∃ y : Int32, y = x3 + (1 : Int32) := ⟨_, rfl⟩
          replace hf := nm_of ev_29 hf
          refine lv_iinc (v := v_29) (lv' := [(3, .int v_29), (0, .ref (ch 0)), (1, .ref (h 0)), (2, .int x2)]) hx hb dX0_measure_35 hl (k := 3) rfl (by rw [ev_29]; rfl) (by decide) rfl (fun ls hl => ?_)
          refine lv_goto (tgt := 2) hx hb dX0_measure_38 (by decide) ?_
          exact ih v_29 fS_27 _ _ _ hf hP hS (lv_sub hl [1, 2, 3, 0] rfl)
        · replace hf := fp_t c_26 hf
          refine lv_iconst (v := 0) hx hb dX0_measure_27 (by decide) ?_
          refine lv_goto (tgt := 32) hx hb dX0_measure_28 (by decide) ?_
          obtain ⟨fS_30, hc_31, hf⟩ := bd_of hf
          refine fn_V (v := none) (As := [.int (0 : Int32), .int x3, .int (0 : Int32)]) (rest := []) (st1 := []) (ws' := ((wCh X ch rS fS_30) ++ (wHo X h rP fP rT fT rG fG rL fL rH fH gi di re ti))) (nL := 7) ⟨hx, hb, hml, hown, hts⟩ (c_X3_put l X (ch 1) (ch 2) (1 : Int32) (10 : Int32) 10 rS fS (0 : Int32) x3 (0 : Int32) fS_30 hc_31) (cwV 3 hts gX0_measure_X3_put rfl rfl rfl (by decide +kernel) ⟨Nat.le_of_ble_eq_true rfl, Nat.le_of_ble_eq_true rfl⟩) 3 rfl rfl rfl rfl hl.1 rfl (Nat.le_of_ble_eq_true rfl) dX0_measure_32 hK hP (hD0.addr rfl) hS hA [1, 2] rfl rfl rfl rfl ⟨Nat.zero_le _, Nat.zero_le _⟩ (fun H locs hP hD hS => ?_)
          obtain ⟨v_32, ev_32⟩ : ∃ y : Int32, y = x3 + (1 : Int32) := ⟨_, rfl⟩
          replace hf := nm_of ev_32 hf
          refine lv_iinc (v := v_32) (lv' := [(3, .int v_32), (0, .ref (ch 0)), (1, .ref (h 0)), (2, .int x2)]) hx hb dX0_measure_35 hl (k := 3) rfl (by rw [ev_32]; rfl) (by decide) rfl (fun ls hl => ?_)
          refine lv_goto (tgt := 2) hx hb dX0_measure_38 (by decide) ?_
          exact ih v_32 fS_30 _ _ _ hf hP hS (lv_sub hl [1, 2, 3, 0] rfl)
  unfold f_X0_measure at hf
  refine lv_iconst (v := 0) hx hb dX0_measure_0 (by decide) ?_
  refine lv_istore_n (lv' := [(3, .int (0 : Int32)), (0, .ref (ch 0)), (1, .ref (h 0)), (2, .int x2)]) hx hb dX0_measure_1 rfl hl (by decide) rfl (fun ls hl => ?_)
  obtain ⟨fS_33, hL_34, hf⟩ := bd_of hf
  refine loop_2 _ fS_33 (fun H locs ls hP hS hl => ?_) FU (0 : Int32) fS _ _ _ hL_34 hP hS (lv_sub hl [1, 2, 3, 0] rfl)
  refine lv_iconst (v := 1) hx hb dX0_measure_41 (by decide) ?_
  refine lv_istore_n (lv' := [(3, .int (1 : Int32)), (0, .ref (ch 0)), (1, .ref (h 0)), (2, .int x2)]) hx hb dX0_measure_42 rfl hl (by decide) rfl (fun ls hl => ?_)
  refine lv_iconst (v := 1) hx hb dX0_measure_43 (by decide) ?_
  refine lv_istore (lv' := [(4, .int (1 : Int32)), (3, .int (1 : Int32)), (0, .ref (ch 0)), (1, .ref (h 0)), (2, .int x2)]) hx hb dX0_measure_44 hl (by decide) rfl (fun ls hl => ?_)
  obtain ⟨fS_35, hL_36, hf⟩ := bd_of hf
  refine loop_46 _ fS_35 (fun H locs ls hP hS hl => ?_) FU (1 : Int32) (1 : Int32) fS_33 _ _ _ hL_36 hP hS (lv_sub hl [2, 3, 4, 1, 0] rfl)
  cases hf
  exact fn_vret hx hb hr hlocks hP hS dX0_measure_135

def f_X0_lastLink_L3 (x2 : Int32) (x3 : Int32) (x4 : Int32) (rS : Int32) (fS : (Nat → Int32)) (rT : Int32) (fT : (Nat → Int32)) (rG : Int32) (fG : (Nat → Int32)) (rH : Int32) (fH : (Nat → Int32)) : Nat → Int32 →  Option (Int32)
  | 0, _ => none
  | k_ + 1, x5 =>
    bd (f_X3_rows rG) (fun r_1 =>
    if r_1 ≤ x5 then
    (some (-1 : Int32))
    else
    (bd (f_X3_at (6 : Int32) 240 x5 (1 : Int32) rG fG) (fun r_4 =>
    if r_4 = x2 then
    (bd (f_X0_isLink x5 x3 x4 rS fS rT fT rG fG rH fH) (fun r_10 =>
    if r_10 = (0 : Int32) then
    (nm (x5 + (1 : Int32)) (fun v_13 =>
    f_X0_lastLink_L3 x2 x3 x4 rS fS rT fT rG fG rH fH k_ v_13))
    else
    (some x5)))
    else
    (nm (x5 + (1 : Int32)) (fun v_8 =>
    f_X0_lastLink_L3 x2 x3 x4 rS fS rT fT rG fG rH fH k_ v_8)))))
def f_X0_lastLink (x2 : Int32) (x3 : Int32) (x4 : Int32) (rS : Int32) (fS : (Nat → Int32)) (rT : Int32) (fT : (Nat → Int32)) (rG : Int32) (fG : (Nat → Int32)) (rH : Int32) (fH : (Nat → Int32)) : Option (Int32) :=
  f_X0_lastLink_L3 x2 x3 x4 rS fS rT fT rG fG rH fH FU (0 : Int32)
set_option maxHeartbeats 4000000 in
set_option maxRecDepth 100000 in
theorem c_X0_lastLink (l : Launch) (X : cx_G) (ch : (Nat → Nat)) (h : (Nat → Nat)) (rS : Int32) (fS : (Nat → Int32)) (rP : Int32) (fP : (Nat → Int32)) (rT : Int32) (fT : (Nat → Int32)) (rG : Int32) (fG : (Nat → Int32)) (rL : Int32) (fL : (Nat → Int32)) (rH : Int32) (fH : (Nat → Int32)) (gi : Int32) (di : Int32) (re : Int32) (ti : Int32) (x2 : Int32) (x3 : Int32) (x4 : Int32) (r : Int32) (hf : f_X0_lastLink x2 x3 x4 rS fS rT fT rG fG rH fH = some r) : Fn l yX0_lastLink wsX0_lastLink ({ frames := 3, cells := 0, slots := 0, locals := 71 } : Room) X [.ref (ch 0), .ref (h 0), .int x2, .int x3, .int x4] ((wCh X ch rS fS) ++ (wHo X h rP fP rT fT rG fG rL fL rH fH gi di re ti)) (some (.int r)) ((wCh X ch rS fS) ++ (wHo X h rP fP rT fT rG fG rL fL rH fH gi di re ti)) := by
  refine fn_intro (cc := cX0_lastLink) (maxL := 7) (ret := (some .int)) (by decide) rfl rfl (Nat.le_of_ble_eq_true rfl) ?_
  intro p e s m args below meth c A ls hx hb hml hr hts hown hlocks hK hP hD0 hS hA hl
  have hown : s.vm.findClass RX0 = some m.cls := hown
  have hl : lv_has ls 7 [(0, .ref (ch 0)), (1, .ref (h 0)), (2, .int x2), (3, .int x3), (4, .int x4)] := hl
  have hiX2 : ∀ w ∈ u_ws RX2 TX2 9, w ∈ wsX0_lastLink := by decide +kernel
  have k37 := hts (.fieldLink RX0 37 "LentRights$House" "grants" "LLentRights$Table;") (by decide +kernel)
  have loop_3 : ∀  (k_ : Nat) (x5 : Int32) (H : Heap) (locs : List Loc) (ls : Array Slot), f_X0_lastLink_L3 x2 x3 x4 rS fS rT fT rG fG rH fH k_ x5 = some r → va_P X.1 vwCl ((wCh X ch rS fS) ++ (wHo X h rP fP rT fT rG fG rL fL rH fH gi di re ti)) H → va_S A s.heap H locs → lv_has ls 7 [(0, .ref (ch 0)), (1, .ref (h 0)), (2, .int x2), (3, .int x3), (4, .int x4), (5, .int x5)] → W p l e ({ frames := 3, cells := 0, slots := 0, locals := 71 } : Room) s m args below meth c H locs 0 0 (fn_Z below X (some (.int r)) ((wCh X ch rS fS) ++ (wHo X h rP fP rT fT rG fG rL fL rH fH gi di re ti)) A args s) (F0 m 3 ls []) := by
    intro  k_
    induction k_ with
    | zero => intro x5 H locs ls hf; exact nomatch (show (none : Option (Int32)) = some _ from hf)
    | succ k_ ih =>
      intro x5 H locs ls hf hP hS hl
      unfold f_X0_lastLink_L3 at hf
      refine lv_iload hx hb dX0_lastLink_3 (lv_at hl 5 rfl) ?_
      refine lv_aload_n hx hb dX0_lastLink_5 rfl (lv_at hl 1 rfl) ?_
      refine va_get (D := X.1) (ci := 2) (v := .ref (h 5)) (C := RX2) (T := TX2) (N := 9) hx hb hts hiX2 hown hK.1 hP 3 rfl rfl 2 (by decide) k37 (fun _ h9 => h9) rfl dX0_lastLink_6 ?_
      obtain ⟨r_1, hc_2, hf⟩ := bd_of hf
      refine fn_V (v := some (.int r_1)) (As := []) (rest := [.int x5]) (st1 := [.int r_1, .int x5]) (ws' := ((wCh X ch rS fS) ++ (wHo X h rP fP rT fT rG fG rL fL rH fH gi di re ti))) (nL := 7) ⟨hx, hb, hml, hown, hts⟩ (c_X3_rows l X (h 5) (h 6) (40 : Int32) (6 : Int32) 240 rG fG r_1 hc_2) (cwV 0 hts gX0_lastLink_X3_rows rfl rfl rfl (by decide +kernel) ⟨Nat.le_of_ble_eq_true rfl, Nat.le_of_ble_eq_true rfl⟩) 3 rfl rfl rfl rfl hl.1 rfl (Nat.le_of_ble_eq_true rfl) dX0_lastLink_9 hK hP (hD0.addr rfl) hS hA [8, 9] rfl rfl rfl rfl ⟨Nat.zero_le _, Nat.zero_le _⟩ (fun H locs hP hD hS => ?_)
      refine lv_icmp_ge (tgt := 63) hx hb dX0_lastLink_12 (by decide) (fun c_3 => ?_) (fun c_3 => ?_)
      · replace hf := fp_t c_3 hf
        refine lv_iconst (v := -1) hx hb dX0_lastLink_63 (by decide) ?_
        cases hf
        exact fn_iret hx hb hr hlocks hP hS dX0_lastLink_64
      · replace hf := fp_f c_3 hf
        refine lv_aload_n hx hb dX0_lastLink_15 rfl (lv_at hl 1 rfl) ?_
        refine va_get (D := X.1) (ci := 2) (v := .ref (h 5)) (C := RX2) (T := TX2) (N := 9) hx hb hts hiX2 hown hK.1 hP 3 rfl rfl 2 (by decide) k37 (fun _ h9 => h9) rfl dX0_lastLink_16 ?_
        refine lv_iload hx hb dX0_lastLink_19 (lv_at hl 5 rfl) ?_
        refine lv_iconst (v := 1) hx hb dX0_lastLink_21 (by decide) ?_
        obtain ⟨r_4, hc_5, hf⟩ := bd_of hf
        refine fn_V (v := some (.int r_4)) (As := [.int x5, .int (1 : Int32)]) (rest := []) (st1 := [.int r_4]) (ws' := ((wCh X ch rS fS) ++ (wHo X h rP fP rT fT rG fG rL fL rH fH gi di re ti))) (nL := 7) ⟨hx, hb, hml, hown, hts⟩ (c_X3_at l X (h 5) (h 6) (40 : Int32) (6 : Int32) 240 rG fG x5 (1 : Int32) r_4 hc_5) (cwV 2 hts gX0_lastLink_X3_at rfl rfl rfl (by decide +kernel) ⟨Nat.le_of_ble_eq_true rfl, Nat.le_of_ble_eq_true rfl⟩) 3 rfl rfl rfl rfl hl.1 rfl (Nat.le_of_ble_eq_true rfl) dX0_lastLink_22 hK hP (hD0.addr rfl) hS hA [8, 9] rfl rfl rfl rfl ⟨Nat.zero_le _, Nat.zero_le _⟩ (fun H locs hP hD hS => ?_)
        refine lv_iload_n hx hb dX0_lastLink_25 rfl (lv_at hl 2 rfl) ?_
        refine lv_icmp_ne (tgt := 33) hx hb dX0_lastLink_26 (by decide) (fun c_6 => ?_) (fun c_6 => ?_)
        · replace hf := fp_f c_6 hf
          refine lv_iconst (v := 0) hx hb dX0_lastLink_33 (by decide) ?_
          refine lv_istore (lv' := [(6, .int (0 : Int32)), (0, .ref (ch 0)), (1, .ref (h 0)), (2, .int x2), (3, .int x3), (4, .int x4), (5, .int x5)]) hx hb dX0_lastLink_34 hl (by decide) rfl (fun ls hl => ?_)
          refine lv_iload hx hb dX0_lastLink_36 (lv_at hl 0 rfl) ?_
          refine lv_if_eq (tgt := 57) hx hb dX0_lastLink_38 (by decide) (fun _ => ?_) (fun c9 => absurd c9 (by decide))
          obtain ⟨v_8, ev_8⟩ : ∃ y : Int32, y = x5 + (1 : Int32) := ⟨_, rfl⟩
          replace hf := nm_of ev_8 hf
          refine lv_iinc (v := v_8) (lv' := [(5, .int v_8), (6, .int (0 : Int32)), (0, .ref (ch 0)), (1, .ref (h 0)), (2, .int x2), (3, .int x3), (4, .int x4)]) hx hb dX0_lastLink_57 hl (k := 6) rfl (by rw [ev_8]; rfl) (by decide) rfl (fun ls hl => ?_)
          refine lv_goto (tgt := 3) hx hb dX0_lastLink_60 (by decide) ?_
          exact ih v_8 _ _ _ hf hP hS (lv_sub hl [2, 3, 4, 5, 6, 0] rfl)
        · replace hf := fp_t c_6 hf
          refine lv_iconst (v := 1) hx hb dX0_lastLink_29 (by decide) ?_
          refine lv_goto (tgt := 34) hx hb dX0_lastLink_30 (by decide) ?_
          refine lv_istore (lv' := [(6, .int (1 : Int32)), (0, .ref (ch 0)), (1, .ref (h 0)), (2, .int x2), (3, .int x3), (4, .int x4), (5, .int x5)]) hx hb dX0_lastLink_34 hl (by decide) rfl (fun ls hl => ?_)
          refine lv_iload hx hb dX0_lastLink_36 (lv_at hl 0 rfl) ?_
          refine lv_if_eq (tgt := 57) hx hb dX0_lastLink_38 (by decide) (fun c9 => absurd c9 (by decide)) (fun _ => ?_)
          refine lv_aload_n hx hb dX0_lastLink_41 rfl (lv_at hl 1 rfl) ?_
          refine lv_aload_n hx hb dX0_lastLink_42 rfl (lv_at hl 2 rfl) ?_
          refine lv_iload hx hb dX0_lastLink_43 (lv_at hl 6 rfl) ?_
          refine lv_iload_n hx hb dX0_lastLink_45 rfl (lv_at hl 4 rfl) ?_
          refine lv_iload hx hb dX0_lastLink_46 (lv_at hl 5 rfl) ?_
          obtain ⟨r_10, hc_11, hf⟩ := bd_of hf
          refine fn_V (v := some (.int r_10)) (As := [.ref (h 0), .int x5, .int x3, .int x4]) (rest := []) (st1 := [.int r_10]) (ws' := ((wCh X ch rS fS) ++ (wHo X h rP fP rT fT rG fG rL fL rH fH gi di re ti))) (nL := 7) ⟨hx, hb, hml, hown, hts⟩ (c_X0_isLink l X ch h rS fS rP fP rT fT rG fG rL fL rH fH gi di re ti x5 x3 x4 r_10 hc_11) (cwV 4 hts gX0_lastLink_X0_isLink rfl rfl rfl (by decide +kernel) ⟨Nat.le_of_ble_eq_true rfl, Nat.le_of_ble_eq_true rfl⟩) 0 rfl rfl rfl rfl hl.1 rfl (Nat.le_of_ble_eq_true rfl) dX0_lastLink_48 hK hP (hD0.addr rfl) hS hA [0, 1, 2, 3, 4, 5, 6, 7, 8, 9, 10, 11, 12, 13] rfl rfl rfl rfl ⟨Nat.zero_le _, Nat.zero_le _⟩ (fun H locs hP hD hS => ?_)
          refine lv_if_eq (tgt := 57) hx hb dX0_lastLink_51 (by decide) (fun c_12 => ?_) (fun c_12 => ?_)
          · replace hf := fp_t c_12 hf
            obtain ⟨v_13, ev_13⟩ : ∃ y : Int32, y = x5 + (1 : Int32) := ⟨_, rfl⟩
            replace hf := nm_of ev_13 hf
            refine lv_iinc (v := v_13) (lv' := [(5, .int v_13), (6, .int (1 : Int32)), (0, .ref (ch 0)), (1, .ref (h 0)), (2, .int x2), (3, .int x3), (4, .int x4)]) hx hb dX0_lastLink_57 hl (k := 6) rfl (by rw [ev_13]; rfl) (by decide) rfl (fun ls hl => ?_)
            refine lv_goto (tgt := 3) hx hb dX0_lastLink_60 (by decide) ?_
            exact ih v_13 _ _ _ hf hP hS (lv_sub hl [2, 3, 4, 5, 6, 0] rfl)
          · replace hf := fp_f c_12 hf
            refine lv_iload hx hb dX0_lastLink_54 (lv_at hl 6 rfl) ?_
            cases hf
            exact fn_iret hx hb hr hlocks hP hS dX0_lastLink_56
  unfold f_X0_lastLink at hf
  refine lv_iconst (v := 0) hx hb dX0_lastLink_0 (by decide) ?_
  refine lv_istore (lv' := [(5, .int (0 : Int32)), (0, .ref (ch 0)), (1, .ref (h 0)), (2, .int x2), (3, .int x3), (4, .int x4)]) hx hb dX0_lastLink_1 hl (by decide) rfl (fun ls hl => ?_)
  exact loop_3 FU (0 : Int32) _ _ _ hf hP hS (lv_sub hl [1, 2, 3, 4, 5, 0] rfl)

def f_X0_numberAt_L13 (x3 : Int32) (x4 : Int32) (rS : Int32) (fS : (Nat → Int32)) (rT : Int32) (fT : (Nat → Int32)) (rG : Int32) (fG : (Nat → Int32)) (rH : Int32) (fH : (Nat → Int32)) : Nat → Int32 → Int32 → Int32 →  Option (Int32)
  | 0, _, _, _ => none
  | k_ + 1, x5, x6, x7 =>
    if x7 ≤ x4 then
    (some x5)
    else
    (if x7 ≤ (0 : Int32) then
    (some x5)
    else
    (bd (f_X0_lastLink x6 x3 x7 rS fS rT fT rG fG rH fH) (fun r_3 =>
    bd (f_X3_at (6 : Int32) 240 r_3 (5 : Int32) rG fG) (fun r_5 =>
    bd (f_X3_at (6 : Int32) 240 r_3 (0 : Int32) rG fG) (fun r_7 =>
    nm (x7 + (-1 : Int32)) (fun v_9 =>
    f_X0_numberAt_L13 x3 x4 rS fS rT fT rG fG rH fH k_ r_5 r_7 v_9))))))
def f_X0_numberAt (x2 : Int32) (x3 : Int32) (x4 : Int32) (rS : Int32) (fS : (Nat → Int32)) (rT : Int32) (fT : (Nat → Int32)) (rG : Int32) (fG : (Nat → Int32)) (rH : Int32) (fH : (Nat → Int32)) : Option (Int32) :=
  bd (f_X0_stepsTo x2 rS fS) (fun r_10 =>
  bd (f_X0_numberAt_L13 x3 x4 rS fS rT fT rG fG rH fH FU (-1 : Int32) x2 r_10) (fun y5_12 =>
  some y5_12))
set_option maxHeartbeats 4000000 in
set_option maxRecDepth 100000 in
theorem c_X0_numberAt (l : Launch) (X : cx_G) (ch : (Nat → Nat)) (h : (Nat → Nat)) (rS : Int32) (fS : (Nat → Int32)) (rP : Int32) (fP : (Nat → Int32)) (rT : Int32) (fT : (Nat → Int32)) (rG : Int32) (fG : (Nat → Int32)) (rL : Int32) (fL : (Nat → Int32)) (rH : Int32) (fH : (Nat → Int32)) (gi : Int32) (di : Int32) (re : Int32) (ti : Int32) (x2 : Int32) (x3 : Int32) (x4 : Int32) (r : Int32) (hf : f_X0_numberAt x2 x3 x4 rS fS rT fT rG fG rH fH = some r) : Fn l yX0_numberAt wsX0_numberAt ({ frames := 4, cells := 0, slots := 0, locals := 97 } : Room) X [.ref (ch 0), .ref (h 0), .int x2, .int x3, .int x4] ((wCh X ch rS fS) ++ (wHo X h rP fP rT fT rG fG rL fL rH fH gi di re ti)) (some (.int r)) ((wCh X ch rS fS) ++ (wHo X h rP fP rT fT rG fG rL fL rH fH gi di re ti)) := by
  refine fn_intro (cc := cX0_numberAt) (maxL := 9) (ret := (some .int)) (by decide) rfl rfl (Nat.le_of_ble_eq_true rfl) ?_
  intro p e s m args below meth c A ls hx hb hml hr hts hown hlocks hK hP hD0 hS hA hl
  have hown : s.vm.findClass RX0 = some m.cls := hown
  have hl : lv_has ls 9 [(0, .ref (ch 0)), (1, .ref (h 0)), (2, .int x2), (3, .int x3), (4, .int x4)] := hl
  have hiX2 : ∀ w ∈ u_ws RX2 TX2 9, w ∈ wsX0_numberAt := by decide +kernel
  have k37 := hts (.fieldLink RX0 37 "LentRights$House" "grants" "LLentRights$Table;") (by decide +kernel)
  have loop_13 : ∀ (Q : State → Prop) (y5 : Int32), (∀ (H : Heap) (locs : List Loc) (ls : Array Slot), va_P X.1 vwCl ((wCh X ch rS fS) ++ (wHo X h rP fP rT fT rG fG rL fL rH fH gi di re ti)) H → va_S A s.heap H locs → lv_has ls 9 [(5, .int y5)] → W p l e ({ frames := 4, cells := 0, slots := 0, locals := 97 } : Room) s m args below meth c H locs 0 0 Q (F0 m 67 ls [])) → ∀ (k_ : Nat) (x5 : Int32) (x6 : Int32) (x7 : Int32) (H : Heap) (locs : List Loc) (ls : Array Slot), f_X0_numberAt_L13 x3 x4 rS fS rT fT rG fG rH fH k_ x5 x6 x7 = some y5 → va_P X.1 vwCl ((wCh X ch rS fS) ++ (wHo X h rP fP rT fT rG fG rL fL rH fH gi di re ti)) H → va_S A s.heap H locs → lv_has ls 9 [(0, .ref (ch 0)), (1, .ref (h 0)), (3, .int x3), (4, .int x4), (5, .int x5), (6, .int x6), (7, .int x7)] → W p l e ({ frames := 4, cells := 0, slots := 0, locals := 97 } : Room) s m args below meth c H locs 0 0 Q (F0 m 13 ls []) := by
    intro Q y5 kx k_
    induction k_ with
    | zero => intro x5 x6 x7 H locs ls hf; exact nomatch (show (none : Option (Int32)) = some _ from hf)
    | succ k_ ih =>
      intro x5 x6 x7 H locs ls hf hP hS hl
      unfold f_X0_numberAt_L13 at hf
      refine lv_iload hx hb dX0_numberAt_13 (lv_at hl 6 rfl) ?_
      refine lv_iload hx hb dX0_numberAt_15 (lv_at hl 3 rfl) ?_
      refine lv_icmp_le (tgt := 67) hx hb dX0_numberAt_17 (by decide) (fun c_1 => ?_) (fun c_1 => ?_)
      · replace hf := fp_t c_1 hf
        cases hf
        exact kx _ _ _ hP hS (lv_sub hl [4] rfl)
      · replace hf := fp_f c_1 hf
        refine lv_iload hx hb dX0_numberAt_20 (lv_at hl 6 rfl) ?_
        refine lv_if_le (tgt := 67) hx hb dX0_numberAt_22 (by decide) (fun c_2 => ?_) (fun c_2 => ?_)
        · replace hf := fp_t c_2 hf
          cases hf
          exact kx _ _ _ hP hS (lv_sub hl [4] rfl)
        · replace hf := fp_f c_2 hf
          refine lv_aload_n hx hb dX0_numberAt_25 rfl (lv_at hl 0 rfl) ?_
          refine lv_aload_n hx hb dX0_numberAt_26 rfl (lv_at hl 1 rfl) ?_
          refine lv_iload hx hb dX0_numberAt_27 (lv_at hl 5 rfl) ?_
          refine lv_iload_n hx hb dX0_numberAt_29 rfl (lv_at hl 2 rfl) ?_
          refine lv_iload hx hb dX0_numberAt_30 (lv_at hl 6 rfl) ?_
          obtain ⟨r_3, hc_4, hf⟩ := bd_of hf
          refine fn_V (v := some (.int r_3)) (As := [.ref (h 0), .int x6, .int x3, .int x7]) (rest := []) (st1 := [.int r_3]) (ws' := ((wCh X ch rS fS) ++ (wHo X h rP fP rT fT rG fG rL fL rH fH gi di re ti))) (nL := 9) ⟨hx, hb, hml, hown, hts⟩ (c_X0_lastLink l X ch h rS fS rP fP rT fT rG fG rL fL rH fH gi di re ti x6 x3 x7 r_3 hc_4) (cwV 4 hts gX0_numberAt_X0_lastLink rfl rfl rfl (by decide +kernel) ⟨Nat.le_of_ble_eq_true rfl, Nat.le_of_ble_eq_true rfl⟩) 0 rfl rfl rfl rfl hl.1 rfl (Nat.le_of_ble_eq_true rfl) dX0_numberAt_32 hK hP (hD0.addr rfl) hS hA [0, 1, 2, 3, 4, 5, 6, 7, 8, 9, 10, 11, 12, 13] rfl rfl rfl rfl ⟨Nat.zero_le _, Nat.zero_le _⟩ (fun H locs hP hD hS => ?_)
          refine lv_istore (lv' := [(8, .int r_3), (0, .ref (ch 0)), (1, .ref (h 0)), (3, .int x3), (4, .int x4), (5, .int x5), (6, .int x6), (7, .int x7)]) hx hb dX0_numberAt_35 hl (by decide) rfl (fun ls hl => ?_)
          refine lv_aload_n hx hb dX0_numberAt_37 rfl (lv_at hl 2 rfl) ?_
          refine va_get (D := X.1) (ci := 2) (v := .ref (h 5)) (C := RX2) (T := TX2) (N := 9) hx hb hts hiX2 hown hK.1 hP 3 rfl rfl 2 (by decide) k37 (fun _ h9 => h9) rfl dX0_numberAt_38 ?_
          refine lv_iload hx hb dX0_numberAt_41 (lv_at hl 0 rfl) ?_
          refine lv_iconst (v := 5) hx hb dX0_numberAt_43 (by decide) ?_
          obtain ⟨r_5, hc_6, hf⟩ := bd_of hf
          refine fn_V (v := some (.int r_5)) (As := [.int r_3, .int (5 : Int32)]) (rest := []) (st1 := [.int r_5]) (ws' := ((wCh X ch rS fS) ++ (wHo X h rP fP rT fT rG fG rL fL rH fH gi di re ti))) (nL := 9) ⟨hx, hb, hml, hown, hts⟩ (c_X3_at l X (h 5) (h 6) (40 : Int32) (6 : Int32) 240 rG fG r_3 (5 : Int32) r_5 hc_6) (cwV 2 hts gX0_numberAt_X3_at rfl rfl rfl (by decide +kernel) ⟨Nat.le_of_ble_eq_true rfl, Nat.le_of_ble_eq_true rfl⟩) 3 rfl rfl rfl rfl hl.1 rfl (Nat.le_of_ble_eq_true rfl) dX0_numberAt_44 hK hP (hD0.addr rfl) hS hA [8, 9] rfl rfl rfl rfl ⟨Nat.zero_le _, Nat.zero_le _⟩ (fun H locs hP hD hS => ?_)
          refine lv_istore (lv' := [(5, .int r_5), (8, .int r_3), (0, .ref (ch 0)), (1, .ref (h 0)), (3, .int x3), (4, .int x4), (6, .int x6), (7, .int x7)]) hx hb dX0_numberAt_47 hl (by decide) rfl (fun ls hl => ?_)
          refine lv_aload_n hx hb dX0_numberAt_49 rfl (lv_at hl 3 rfl) ?_
          refine va_get (D := X.1) (ci := 2) (v := .ref (h 5)) (C := RX2) (T := TX2) (N := 9) hx hb hts hiX2 hown hK.1 hP 3 rfl rfl 2 (by decide) k37 (fun _ h9 => h9) rfl dX0_numberAt_50 ?_
          refine lv_iload hx hb dX0_numberAt_53 (lv_at hl 1 rfl) ?_
          refine lv_iconst (v := 0) hx hb dX0_numberAt_55 (by decide) ?_
          obtain ⟨r_7, hc_8, hf⟩ := bd_of hf
          refine fn_V (v := some (.int r_7)) (As := [.int r_3, .int (0 : Int32)]) (rest := []) (st1 := [.int r_7]) (ws' := ((wCh X ch rS fS) ++ (wHo X h rP fP rT fT rG fG rL fL rH fH gi di re ti))) (nL := 9) ⟨hx, hb, hml, hown, hts⟩ (c_X3_at l X (h 5) (h 6) (40 : Int32) (6 : Int32) 240 rG fG r_3 (0 : Int32) r_7 hc_8) (cwV 2 hts gX0_numberAt_X3_at rfl rfl rfl (by decide +kernel) ⟨Nat.le_of_ble_eq_true rfl, Nat.le_of_ble_eq_true rfl⟩) 3 rfl rfl rfl rfl hl.1 rfl (Nat.le_of_ble_eq_true rfl) dX0_numberAt_56 hK hP (hD0.addr rfl) hS hA [8, 9] rfl rfl rfl rfl ⟨Nat.zero_le _, Nat.zero_le _⟩ (fun H locs hP hD hS => ?_)
          refine lv_istore (lv' := [(6, .int r_7), (5, .int r_5), (8, .int r_3), (0, .ref (ch 0)), (1, .ref (h 0)), (3, .int x3), (4, .int x4), (7, .int x7)]) hx hb dX0_numberAt_59 hl (by decide) rfl (fun ls hl => ?_)
          obtain ⟨v_9, ev_9⟩ : ∃ y : Int32, y = x7 + (-1 : Int32) := ⟨_, rfl⟩
          replace hf := nm_of ev_9 hf
          refine lv_iinc (v := v_9) (lv' := [(7, .int v_9), (6, .int r_7), (5, .int r_5), (8, .int r_3), (0, .ref (ch 0)), (1, .ref (h 0)), (3, .int x3), (4, .int x4)]) hx hb dX0_numberAt_61 hl (k := 7) rfl (by rw [ev_9]; rfl) (by decide) rfl (fun ls hl => ?_)
          refine lv_goto (tgt := 13) hx hb dX0_numberAt_64 (by decide) ?_
          exact ih r_5 r_7 v_9 _ _ _ hf hP hS (lv_sub hl [4, 5, 6, 7, 2, 1, 0] rfl)
  unfold f_X0_numberAt at hf
  refine lv_iconst (v := -1) hx hb dX0_numberAt_0 (by decide) ?_
  refine lv_istore (lv' := [(5, .int (-1 : Int32)), (0, .ref (ch 0)), (1, .ref (h 0)), (2, .int x2), (3, .int x3), (4, .int x4)]) hx hb dX0_numberAt_1 hl (by decide) rfl (fun ls hl => ?_)
  refine lv_iload_n hx hb dX0_numberAt_3 rfl (lv_at hl 3 rfl) ?_
  refine lv_istore (lv' := [(6, .int x2), (5, .int (-1 : Int32)), (0, .ref (ch 0)), (1, .ref (h 0)), (2, .int x2), (3, .int x3), (4, .int x4)]) hx hb dX0_numberAt_4 hl (by decide) rfl (fun ls hl => ?_)
  refine lv_aload_n hx hb dX0_numberAt_6 rfl (lv_at hl 2 rfl) ?_
  refine lv_iload_n hx hb dX0_numberAt_7 rfl (lv_at hl 4 rfl) ?_
  obtain ⟨r_10, hc_11, hf⟩ := bd_of hf
  refine fn_V (v := some (.int r_10)) (As := [.int x2]) (rest := []) (st1 := [.int r_10]) (ws' := ((wCh X ch rS fS) ++ (wHo X h rP fP rT fT rG fG rL fL rH fH gi di re ti))) (nL := 9) ⟨hx, hb, hml, hown, hts⟩ (c_X0_stepsTo l X ch rS fS x2 r_10 hc_11) (cwV 1 hts gX0_numberAt_X0_stepsTo rfl rfl rfl (by decide +kernel) ⟨Nat.le_of_ble_eq_true rfl, Nat.le_of_ble_eq_true rfl⟩) 0 rfl rfl rfl rfl hl.1 rfl (Nat.le_of_ble_eq_true rfl) dX0_numberAt_8 hK hP (hD0.addr rfl) hS hA [0, 1, 2] rfl rfl rfl rfl ⟨Nat.zero_le _, Nat.zero_le _⟩ (fun H locs hP hD hS => ?_)
  refine lv_istore (lv' := [(7, .int r_10), (6, .int x2), (5, .int (-1 : Int32)), (0, .ref (ch 0)), (1, .ref (h 0)), (2, .int x2), (3, .int x3), (4, .int x4)]) hx hb dX0_numberAt_11 hl (by decide) rfl (fun ls hl => ?_)
  obtain ⟨y5_12, hL_13, hf⟩ := bd_of hf
  refine loop_13 _ y5_12 (fun H locs ls hP hS hl => ?_) FU (-1 : Int32) x2 r_10 _ _ _ hL_13 hP hS (lv_sub hl [3, 4, 6, 7, 2, 1, 0] rfl)
  refine lv_iload hx hb dX0_numberAt_67 (lv_at hl 0 rfl) ?_
  cases hf
  exact fn_iret hx hb hr hlocks hP hS dX0_numberAt_69
