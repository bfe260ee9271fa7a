def f_X5_requirePerson (x0 : Int32) : Option ((String) ⊕ (Unit)) :=
  bd (f_X5_isPerson x0) (fun r_1 =>
  if r_1 = (0 : Int32) then
  (some (.inl ("java/lang/IndexOutOfBoundsException")))
  else
  (some (.inr ())))
set_option maxHeartbeats 4000000 in
set_option maxRecDepth 100000 in
theorem c_X5_requirePerson (l : Launch) (X : cx_G) (x0 : Int32) (hf : f_X5_requirePerson x0 = some (.inr ())) : Fn l yX5_requirePerson wsX5_requirePerson ({ frames := 2, cells := 0, slots := 0, locals := 42 } : Room) X [.int x0] ([] : va_W) none ([] : va_W) := by
  refine fn_intro (cc := cX5_requirePerson) (maxL := 1) (ret := none) (by decide) rfl rfl (Nat.le_of_ble_eq_true rfl) ?_
  intro p e s m args below meth c A ls hx hb hml hr hts hown hlocks hK hP hD0 hS hA hl
  have hown : s.vm.findClass RX5 = some m.cls := hown
  have hl : lv_has ls 1 [(0, .int x0)] := hl
  unfold f_X5_requirePerson at hf
  refine lv_iload_n hx hb dX5_requirePerson_0 rfl (lv_at hl 0 rfl) ?_
  obtain ⟨r_1, hc_2, hf⟩ := bd_of hf
  refine fn_Sx (v := some (.int r_1)) (As := [.int x0]) (rest := []) (st1 := [.int r_1]) (ws' := ([] : va_W)) (nL := 1) ⟨hx, hb, hml, hown, hts⟩ (c_X5_isPerson l X x0 r_1 hc_2) (va_cwS 1 hts gX5_requirePerson_X5_isPerson rfl rfl rfl (by decide +kernel) ⟨Nat.le_of_ble_eq_true rfl, Nat.le_of_ble_eq_true rfl⟩) rfl hl.1 rfl (Nat.le_of_ble_eq_true rfl) dX5_requirePerson_1 hK hP (hD0.addr rfl) hS hA [] rfl rfl rfl rfl ⟨Nat.zero_le _, Nat.zero_le _⟩ (fun H locs hP hD hS => ?_)
  refine lv_if_ne (tgt := 18) hx hb dX5_requirePerson_4 (by decide) (fun c_3 => ?_) (fun c_3 => ?_)
  · replace hf := fp_f c_3 hf
    cases hf
    exact fn_vret hx hb hr hlocks hP hS dX5_requirePerson_18
  · replace hf := fp_t c_3 hf
    cases hf

def f_X5_requireRange (x0 : Int32) (x1 : Int32) (x2 : Int32) : Option ((String) ⊕ (Unit)) :=
  bd (f_X5_isBetween x0 x1 x2) (fun r_1 =>
  if r_1 = (0 : Int32) then
  (some (.inl ("java/lang/IllegalArgumentException")))
  else
  (some (.inr ())))
set_option maxHeartbeats 4000000 in
set_option maxRecDepth 100000 in
theorem c_X5_requireRange (l : Launch) (X : cx_G) (x0 : Int32) (x1 : Int32) (x2 : Int32) (hf : f_X5_requireRange x0 x1 x2 = some (.inr ())) : Fn l yX5_requireRange wsX5_requireRange ({ frames := 1, cells := 0, slots := 0, locals := 22 } : Room) X [.int x0, .int x1, .int x2] ([] : va_W) none ([] : va_W) := by
  refine fn_intro (cc := cX5_requireRange) (maxL := 3) (ret := none) (by decide) rfl rfl (Nat.le_of_ble_eq_true rfl) ?_
  intro p e s m args below meth c A ls hx hb hml hr hts hown hlocks hK hP hD0 hS hA hl
  have hown : s.vm.findClass RX5 = some m.cls := hown
  have hl : lv_has ls 3 [(0, .int x0), (1, .int x1), (2, .int x2)] := hl
  unfold f_X5_requireRange at hf
  refine lv_iload_n hx hb dX5_requireRange_0 rfl (lv_at hl 0 rfl) ?_
  refine lv_iload_n hx hb dX5_requireRange_1 rfl (lv_at hl 1 rfl) ?_
  refine lv_iload_n hx hb dX5_requireRange_2 rfl (lv_at hl 2 rfl) ?_
  obtain ⟨r_1, hc_2, hf⟩ := bd_of hf
  refine fn_Sx (v := some (.int r_1)) (As := [.int x0, .int x1, .int x2]) (rest := []) (st1 := [.int r_1]) (ws' := ([] : va_W)) (nL := 3) ⟨hx, hb, hml, hown, hts⟩ (c_X5_isBetween l X x0 x1 x2 r_1 hc_2) (va_cwS 3 hts gX5_requireRange_X5_isBetween rfl rfl rfl (by decide +kernel) ⟨Nat.le_of_ble_eq_true rfl, Nat.le_of_ble_eq_true rfl⟩) rfl hl.1 rfl (Nat.le_of_ble_eq_true rfl) dX5_requireRange_3 hK hP (hD0.addr rfl) hS hA [] rfl rfl rfl rfl ⟨Nat.zero_le _, Nat.zero_le _⟩ (fun H locs hP hD hS => ?_)
  refine lv_if_ne (tgt := 20) hx hb dX5_requireRange_6 (by decide) (fun c_3 => ?_) (fun c_3 => ?_)
  · replace hf := fp_f c_3 hf
    cases hf
    exact fn_vret hx hb hr hlocks hP hS dX5_requireRange_20
  · replace hf := fp_t c_3 hf
    cases hf

def f_X5_requireMask (x0 : Int32) : Option ((String) ⊕ (Unit)) :=
  bx (f_X5_requireRange x0 (0 : Int32) (7 : Int32)) (fun E_3 => some (.inl E_3)) (fun u_2 =>
  some (.inr ()))
set_option maxHeartbeats 4000000 in
set_option maxRecDepth 100000 in
theorem c_X5_requireMask (l : Launch) (X : cx_G) (x0 : Int32) (hf : f_X5_requireMask x0 = some (.inr ())) : Fn l yX5_requireMask wsX5_requireMask ({ frames := 2, cells := 0, slots := 0, locals := 44 } : Room) X [.int x0] ([] : va_W) none ([] : va_W) := by
  refine fn_intro (cc := cX5_requireMask) (maxL := 1) (ret := none) (by decide) rfl rfl (Nat.le_of_ble_eq_true rfl) ?_
  intro p e s m args below meth c A ls hx hb hml hr hts hown hlocks hK hP hD0 hS hA hl
  have hown : s.vm.findClass RX5 = some m.cls := hown
  have hl : lv_has ls 1 [(0, .int x0)] := hl
  unfold f_X5_requireMask at hf
  refine lv_iload_n hx hb dX5_requireMask_0 rfl (lv_at hl 0 rfl) ?_
  refine lv_iconst (v := 0) hx hb dX5_requireMask_1 (by decide) ?_
  refine lv_bipush (v := 7) hx hb dX5_requireMask_2 (by decide) ?_
  rcases bx_of hf with ⟨E_3, hc_1, hf⟩ | ⟨u_2, hc_1, hf⟩
  · cases hf
  · refine fn_Sx (v := none) (As := [.int x0, .int (0 : Int32), .int (7 : Int32)]) (rest := []) (st1 := []) (ws' := ([] : va_W)) (nL := 1) ⟨hx, hb, hml, hown, hts⟩ (c_X5_requireRange l X x0 (0 : Int32) (7 : Int32) hc_1) (va_cwS 3 hts gX5_requireMask_X5_requireRange rfl rfl rfl (by decide +kernel) ⟨Nat.le_of_ble_eq_true rfl, Nat.le_of_ble_eq_true rfl⟩) rfl hl.1 rfl (Nat.le_of_ble_eq_true rfl) dX5_requireMask_4 hK hP (hD0.addr rfl) hS hA [] rfl rfl rfl rfl ⟨Nat.zero_le _, Nat.zero_le _⟩ (fun H locs hP hD hS => ?_)
    cases hf
    exact fn_vret hx hb hr hlocks hP hS dX5_requireMask_7

def f_X5_requireFit (x0 : Int32) : Option ((String) ⊕ (Unit)) :=
  if x0 = (1 : Int32) then
  (some (.inl ("java/lang/IndexOutOfBoundsException")))
  else
  (if x0 = (2 : Int32) then
  (some (.inl ("java/lang/IllegalArgumentException")))
  else
  (some (.inr ())))
set_option maxHeartbeats 4000000 in
set_option maxRecDepth 100000 in
theorem c_X5_requireFit (l : Launch) (X : cx_G) (x0 : Int32) (hf : f_X5_requireFit x0 = some (.inr ())) : Fn l yX5_requireFit wsX5_requireFit ({ frames := 0, cells := 0, slots := 0, locals := 0 } : Room) X [.int x0] ([] : va_W) none ([] : va_W) := by
  refine fn_intro (cc := cX5_requireFit) (maxL := 1) (ret := none) (by decide) rfl rfl (Nat.le_of_ble_eq_true rfl) ?_
  intro p e s m args below meth c A ls hx hb hml hr hts hown hlocks hK hP hD0 hS hA hl
  have hown : s.vm.findClass RX5 = some m.cls := hown
  have hl : lv_has ls 1 [(0, .int x0)] := hl
  unfold f_X5_requireFit at hf
  refine lv_iload_n hx hb dX5_requireFit_0 rfl (lv_at hl 0 rfl) ?_
  refine lv_iconst (v := 1) hx hb dX5_requireFit_1 (by decide) ?_
  refine lv_icmp_ne (tgt := 15) hx hb dX5_requireFit_2 (by decide) (fun c_1 => ?_) (fun c_1 => ?_)
  · replace hf := fp_f c_1 hf
    refine lv_iload_n hx hb dX5_requireFit_15 rfl (lv_at hl 0 rfl) ?_
    refine lv_iconst (v := 2) hx hb dX5_requireFit_16 (by decide) ?_
    refine lv_icmp_ne (tgt := 30) hx hb dX5_requireFit_17 (by decide) (fun c_2 => ?_) (fun c_2 => ?_)
    · replace hf := fp_f c_2 hf
      cases hf
      exact fn_vret hx hb hr hlocks hP hS dX5_requireFit_30
    · replace hf := fp_t c_2 hf
      cases hf
  · replace hf := fp_t c_1 hf
    cases hf

def f_X5_requireThing (x1 : Int32) (rT : Int32) : Option ((String) ⊕ (Unit)) :=
  bd (f_X3_has x1 rT) (fun r_1 =>
  if r_1 = (0 : Int32) then
  (some (.inl ("java/lang/IndexOutOfBoundsException")))
  else
  (some (.inr ())))
set_option maxHeartbeats 4000000 in
set_option maxRecDepth 100000 in
theorem c_X5_requireThing (l : Launch) (X : cx_G) (x0 : Nat) (hh : (Nat → Nat)) (ht : (Nat → Nat)) (ch : (Nat → Nat)) (tx : (Nat → Nat)) (y : (Nat → Nat)) (hy : (Nat → Nat → Nat)) (rP : Int32) (fP : (Nat → Int32)) (rT : Int32) (fT : (Nat → Int32)) (rG : Int32) (fG : (Nat → Int32)) (rL : Int32) (fL : (Nat → Int32)) (rH : Int32) (fH : (Nat → Int32)) (gi : Int32) (di : Int32) (re : Int32) (ti : Int32) (rPT : Int32) (fPT : (Nat → Int32)) (rTT : Int32) (fTT : (Nat → Int32)) (rGT : Int32) (fGT : (Nat → Int32)) (rLT : Int32) (fLT : (Nat → Int32)) (rHT : Int32) (fHT : (Nat → Int32)) (giT : Int32) (diT : Int32) (reT : Int32) (tiT : Int32) (rS : Int32) (fS : (Nat → Int32)) (rB : Int32) (fB : (Nat → Int32)) (rO : Int32) (fO : (Nat → Int32)) (pl : Int32) (fa : Int32) (cn : Int32) (ro : Nat) (Qh : (Nat → HS)) (x1 : Int32) (hf : f_X5_requireThing x1 rT = some (.inr ())) : Fn l yX5_requireThing wsX5_requireThing ({ frames := 1, cells := 0, slots := 0, locals := 21 } : Room) X [.ref (x0), .int x1] (wLR X x0 hh ht ch tx y hy rP fP rT fT rG fG rL fL rH fH gi di re ti rPT fPT rTT fTT rGT fGT rLT fLT rHT fHT giT diT reT tiT rS fS rB fB rO fO pl fa cn ro Qh) none (wLR X x0 hh ht ch tx y hy rP fP rT fT rG fG rL fL rH fH gi di re ti rPT fPT rTT fTT rGT fGT rLT fLT rHT fHT giT diT reT tiT rS fS rB fB rO fO pl fa cn ro Qh) := by
  refine fn_intro (cc := cX5_requireThing) (maxL := 2) (ret := none) (by decide) rfl rfl (Nat.le_of_ble_eq_true rfl) ?_
  intro p e s m args below meth c A ls hx hb hml hr hts hown hlocks hK hP hD0 hS hA hl
  have hown : s.vm.findClass RX5 = some m.cls := hown
  have hl : lv_has ls 2 [(0, .ref (x0)), (1, .int x1)] := hl
  have hiX2 : ∀ w ∈ u_ws RX2 TX2 9, w ∈ wsX5_requireThing := by decide +kernel
  have hiX5 : ∀ w ∈ u_ws RX5 TX5 5, w ∈ wsX5_requireThing := by decide +kernel
  have k10 := hts (.fieldLink RX5 10 "LentRights" "house" "LLentRights$House;") (by decide +kernel)
  have k47 := hts (.fieldLink RX5 47 "LentRights$House" "things" "LLentRights$Table;") (by decide +kernel)
  unfold f_X5_requireThing at hf
  refine lv_aload_n hx hb dX5_requireThing_0 rfl (lv_at hl 0 rfl) ?_
  refine va_get (D := X.1) (ci := 5) (v := .ref (hh 0)) (C := RX5) (T := TX5) (N := 5) hx hb hts hiX5 hown hK.1 hP 0 rfl rfl 0 (by decide) k10 (fun _ h9 => h9) rfl dX5_requireThing_1 ?_
  refine va_get (D := X.1) (ci := 2) (v := .ref (hh 3)) (C := RX2) (T := TX2) (N := 9) hx hb hts hiX2 hown hK.1 hP 1 rfl rfl 1 (by decide) k47 (fun _ h9 => h9) rfl dX5_requireThing_4 ?_
  refine lv_iload_n hx hb dX5_requireThing_7 rfl (lv_at hl 1 rfl) ?_
  obtain ⟨r_1, hc_2, hf⟩ := bd_of hf
  refine fn_V (v := some (.int r_1)) (As := [.int x1]) (rest := []) (st1 := [.int r_1]) (ws' := (wLR X x0 hh ht ch tx y hy rP fP rT fT rG fG rL fL rH fH gi di re ti rPT fPT rTT fTT rGT fGT rLT fLT rHT fHT giT diT reT tiT rS fS rB fB rO fO pl fa cn ro Qh)) (nL := 2) ⟨hx, hb, hml, hown, hts⟩ (c_X3_has l X (hh 3) (hh 4) (8 : Int32) (2 : Int32) 16 rT fT x1 r_1 hc_2) (cwV 1 hts gX5_requireThing_X3_has rfl rfl rfl (by decide +kernel) ⟨Nat.le_of_ble_eq_true rfl, Nat.le_of_ble_eq_true rfl⟩) 3 rfl rfl rfl rfl hl.1 rfl (Nat.le_of_ble_eq_true rfl) dX5_requireThing_8 hK hP (hD0.addr (wLR_fst.trans wLR_fst.symm)) hS hA [4, 5] (by decide +kernel) rfl (pt_setid _ _ _ rfl) rfl ⟨Nat.zero_le _, Nat.zero_le _⟩ (fun H locs hP hD hS => ?_)
  refine lv_if_ne (tgt := 25) hx hb dX5_requireThing_11 (by decide) (fun c_3 => ?_) (fun c_3 => ?_)
  · replace hf := fp_f c_3 hf
    cases hf
    exact fn_vret hx hb hr hlocks hP hS dX5_requireThing_25
  · replace hf := fp_t c_3 hf
    cases hf

def f_X5_requireGrant (x1 : Int32) (rG : Int32) (fG : (Nat → Int32)) : Option ((String) ⊕ (Int32)) :=
  bd (f_X2_placeOf x1 rG fG) (fun r_1 =>
  if r_1 = (-1 : Int32) then
  (some (.inl ("java/util/NoSuchElementException")))
  else
  (some (.inr r_1)))
set_option maxHeartbeats 4000000 in
set_option maxRecDepth 100000 in
theorem c_X5_requireGrant (l : Launch) (X : cx_G) (x0 : Nat) (hh : (Nat → Nat)) (ht : (Nat → Nat)) (ch : (Nat → Nat)) (tx : (Nat → Nat)) (y : (Nat → Nat)) (hy : (Nat → Nat → Nat)) (rP : Int32) (fP : (Nat → Int32)) (rT : Int32) (fT : (Nat → Int32)) (rG : Int32) (fG : (Nat → Int32)) (rL : Int32) (fL : (Nat → Int32)) (rH : Int32) (fH : (Nat → Int32)) (gi : Int32) (di : Int32) (re : Int32) (ti : Int32) (rPT : Int32) (fPT : (Nat → Int32)) (rTT : Int32) (fTT : (Nat → Int32)) (rGT : Int32) (fGT : (Nat → Int32)) (rLT : Int32) (fLT : (Nat → Int32)) (rHT : Int32) (fHT : (Nat → Int32)) (giT : Int32) (diT : Int32) (reT : Int32) (tiT : Int32) (rS : Int32) (fS : (Nat → Int32)) (rB : Int32) (fB : (Nat → Int32)) (rO : Int32) (fO : (Nat → Int32)) (pl : Int32) (fa : Int32) (cn : Int32) (ro : Nat) (Qh : (Nat → HS)) (x1 : Int32) (r : Int32) (hf : f_X5_requireGrant x1 rG fG = some (.inr r)) : Fn l yX5_requireGrant wsX5_requireGrant ({ frames := 2, cells := 0, slots := 0, locals := 46 } : Room) X [.ref (x0), .int x1] (wLR X x0 hh ht ch tx y hy rP fP rT fT rG fG rL fL rH fH gi di re ti rPT fPT rTT fTT rGT fGT rLT fLT rHT fHT giT diT reT tiT rS fS rB fB rO fO pl fa cn ro Qh) (some (.int r)) (wLR X x0 hh ht ch tx y hy rP fP rT fT rG fG rL fL rH fH gi di re ti rPT fPT rTT fTT rGT fGT rLT fLT rHT fHT giT diT reT tiT rS fS rB fB rO fO pl fa cn ro Qh) := by
  refine fn_intro (cc := cX5_requireGrant) (maxL := 3) (ret := (some .int)) (by decide) rfl rfl (Nat.le_of_ble_eq_true rfl) ?_
  intro p e s m args below meth c A ls hx hb hml hr hts hown hlocks hK hP hD0 hS hA hl
  have hown : s.vm.findClass RX5 = some m.cls := hown
  have hl : lv_has ls 3 [(0, .ref (x0)), (1, .int x1)] := hl
  have hiX5 : ∀ w ∈ u_ws RX5 TX5 5, w ∈ wsX5_requireGrant := by decide +kernel
  have k10 := hts (.fieldLink RX5 10 "LentRights" "house" "LLentRights$House;") (by decide +kernel)
  unfold f_X5_requireGrant at hf
  refine lv_aload_n hx hb dX5_requireGrant_0 rfl (lv_at hl 0 rfl) ?_
  refine va_get (D := X.1) (ci := 5) (v := .ref (hh 0)) (C := RX5) (T := TX5) (N := 5) hx hb hts hiX5 hown hK.1 hP 0 rfl rfl 0 (by decide) k10 (fun _ h9 => h9) rfl dX5_requireGrant_1 ?_
  refine lv_iload_n hx hb dX5_requireGrant_4 rfl (lv_at hl 1 rfl) ?_
  obtain ⟨r_1, hc_2, hf⟩ := bd_of hf
  refine fn_V (v := some (.int r_1)) (As := [.int x1]) (rest := []) (st1 := [.int r_1]) (ws' := (wLR X x0 hh ht ch tx y hy rP fP rT fT rG fG rL fL rH fH gi di re ti rPT fPT rTT fTT rGT fGT rLT fLT rHT fHT giT diT reT tiT rS fS rB fB rO fO pl fa cn ro Qh)) (nL := 3) ⟨hx, hb, hml, hown, hts⟩ (c_X2_placeOf l X hh rP fP rT fT rG fG rL fL rH fH gi di re ti x1 r_1 hc_2) (cwV 1 hts gX5_requireGrant_X2_placeOf rfl rfl rfl (by decide +kernel) ⟨Nat.le_of_ble_eq_true rfl, Nat.le_of_ble_eq_true rfl⟩) 2 rfl rfl rfl rfl hl.1 rfl (Nat.le_of_ble_eq_true rfl) dX5_requireGrant_5 hK hP (hD0.addr (wLR_fst.trans wLR_fst.symm)) hS hA [1, 2, 3, 4, 5, 6, 7, 8, 9, 10, 11] (by decide +kernel) lC_h (pt_setid _ _ _ lC_h) rfl ⟨Nat.zero_le _, Nat.zero_le _⟩ (fun H locs hP hD hS => ?_)
  refine lv_istore_n (lv' := [(2, .int r_1), (0, .ref (x0)), (1, .int x1)]) hx hb dX5_requireGrant_8 rfl hl (by decide) rfl (fun ls hl => ?_)
  refine lv_iload_n hx hb dX5_requireGrant_9 rfl (lv_at hl 0 rfl) ?_
  refine lv_iconst (v := -1) hx hb dX5_requireGrant_10 (by decide) ?_
  refine lv_icmp_ne (tgt := 24) hx hb dX5_requireGrant_11 (by decide) (fun c_3 => ?_) (fun c_3 => ?_)
  · replace hf := fp_f c_3 hf
    refine lv_iload_n hx hb dX5_requireGrant_24 rfl (lv_at hl 0 rfl) ?_
    cases hf
    exact fn_iret hx hb hr hlocks hP hS dX5_requireGrant_25
  · replace hf := fp_t c_3 hf
    cases hf
