def f_X6_cheers (x1 : Int32) (x2 : Int32) (al : (Nat → Int32)) : Option ((Nat → Int32)) :=
  ix ((8 : Int32) + x1) 320 (
  nm ((al ((8 : Int32) + x1).toNatClampNeg) + x2) (fun v_2 =>
  if (0 : Int32) ≤ v_2 then
  (if v_2 ≤ (100 : Int32) then
  (ix ((8 : Int32) + x1) 320 (
  nm (upd al ((8 : Int32) + x1).toNatClampNeg v_2) (fun al_6 =>
  bd2 (f_X6_die al_6) (fun r_7 al_8 =>
  some al_8))))
  else
  (ix ((8 : Int32) + x1) 320 (
  nm (upd al ((8 : Int32) + x1).toNatClampNeg (100 : Int32)) (fun al_11 =>
  bd2 (f_X6_die al_11) (fun r_12 al_13 =>
  some al_13)))))
  else
  (ix ((8 : Int32) + x1) 320 (
  nm (upd al ((8 : Int32) + x1).toNatClampNeg (0 : Int32)) (fun al_16 =>
  bd2 (f_X6_die al_16) (fun r_17 al_18 =>
  some al_18))))))
set_option maxHeartbeats 4000000 in
set_option maxRecDepth 100000 in
theorem c_X6_cheers (l : Launch) (X : cx_G) (mo : (Nat → Nat)) (al : (Nat → Int32)) (sv : (Nat → Int32)) (sm : Int32) (asd : (Nat → Int32)) (th : Int32) (ho : (Nat → Int32)) (fr : (Nat → Int32)) (txt : (Nat → Int32)) (tl : Int32) (pos : Int32) (od : Int32) (nu : (Nat → Int32)) (su : Int64) (x1 : Int32) (x2 : Int32) (al' : (Nat → Int32)) (hf : f_X6_cheers x1 x2 al = some al') : Fn l yX6_cheers wsX6_cheers ({ frames := 3, cells := 0, slots := 0, locals := 66 } : Room) X [.ref (mo 0), .int x1, .int x2] (wMo X mo al sv sm asd th ho fr txt tl pos od nu su) none (wMo X mo al' sv sm asd th ho fr txt tl pos od nu su) := by
  refine fn_intro (cc := cX6_cheers) (maxL := 5) (ret := none) (by decide) rfl rfl (Nat.le_of_ble_eq_true rfl) ?_
  intro p e s m args below meth c A ls hx hb hml hr hts hown hlocks hK hP hD0 hS hA hl
  have hown : s.vm.findClass RX6 = some m.cls := hown
  have hl : lv_has ls 5 [(0, .ref (mo 0)), (1, .int x1), (2, .int x2)] := hl
  have hiX6 : ∀ w ∈ u_ws RX6 TX6 13, w ∈ wsX6_cheers := by decide +kernel
  have k7 := hts (.fieldLink RX6 7 "LentRightsModel" "all" "[I") (by decide +kernel)
  unfold f_X6_cheers at hf
  refine lv_aload_n hx hb dX6_cheers_0 rfl (lv_at hl 0 rfl) ?_
  refine va_get (D := X.1) (ci := 6) (v := .ref (mo 1)) (C := RX6) (T := TX6) (N := 13) hx hb hts hiX6 hown hK.1 hP 0 rfl rfl 0 (by decide) k7 (fun _ h9 => h9) rfl dX6_cheers_1 ?_
  refine lv_bipush (v := 8) hx hb dX6_cheers_4 (by decide) ?_
  refine lv_iload_n hx hb dX6_cheers_6 rfl (lv_at hl 1 rfl) ?_
  refine lv_iadd hx hb dX6_cheers_7 ?_
  obtain ⟨hi_1, hf⟩ := ix_of hf
  refine va_iald hx hb hK.1 hP 1 0 rfl rfl hi_1 dX6_cheers_8 ?_
  refine lv_iload_n hx hb dX6_cheers_9 rfl (lv_at hl 2 rfl) ?_
  refine lv_iadd hx hb dX6_cheers_10 ?_
  refine lv_topi (fun v_2 ev_2 => ?_)
  replace hf := nm_of ev_2 hf
  refine lv_istore_n (lv' := [(3, .int v_2), (0, .ref (mo 0)), (1, .int x1), (2, .int x2)]) hx hb dX6_cheers_11 rfl hl (by decide) rfl (fun ls hl => ?_)
  refine lv_aload_n hx hb dX6_cheers_12 rfl (lv_at hl 1 rfl) ?_
  refine va_get (D := X.1) (ci := 6) (v := .ref (mo 1)) (C := RX6) (T := TX6) (N := 13) hx hb hts hiX6 hown hK.1 hP 0 rfl rfl 0 (by decide) k7 (fun _ h9 => h9) rfl dX6_cheers_13 ?_
  refine lv_bipush (v := 8) hx hb dX6_cheers_16 (by decide) ?_
  refine lv_iload_n hx hb dX6_cheers_18 rfl (lv_at hl 2 rfl) ?_
  refine lv_iadd hx hb dX6_cheers_19 ?_
  refine lv_iload_n hx hb dX6_cheers_20 rfl (lv_at hl 0 rfl) ?_
  refine lv_if_ge (tgt := 28) hx hb dX6_cheers_21 (by decide) (fun c_3 => ?_) (fun c_3 => ?_)
  · replace hf := fp_t c_3 hf
    refine lv_iload_n hx hb dX6_cheers_28 rfl (lv_at hl 0 rfl) ?_
    refine lv_bipush (v := 100) hx hb dX6_cheers_29 (by decide) ?_
    refine lv_icmp_le (tgt := 39) hx hb dX6_cheers_31 (by decide) (fun c_4 => ?_) (fun c_4 => ?_)
    · replace hf := fp_t c_4 hf
      refine lv_iload_n hx hb dX6_cheers_39 rfl (lv_at hl 0 rfl) ?_
      obtain ⟨hi_5, hf⟩ := ix_of hf
      refine va_iast hx hb hK.1 hP (hD0.addr rfl) hS 1 0 rfl rfl hi_5 dX6_cheers_40 (fun H locs hP hD hS => ?_)
      obtain ⟨al_6, eal_6⟩ : ∃ g : Nat → Int32, g = upd al ((8 : Int32) + x1).toNatClampNeg v_2 := ⟨_, rfl⟩
      replace hf := nm_of eal_6 hf
      have hP : va_P X.1 vwCl (wMo X mo al_6 sv sm asd th ho fr txt tl pos od nu su) H := by rw [eal_6]; exact hP
      refine lv_aload_n hx hb dX6_cheers_41 rfl (lv_at hl 1 rfl) ?_
      obtain ⟨r_7, al_8, hc_9, hf⟩ := bd2_of hf
      refine fn_V (v := some (.int r_7)) (As := []) (rest := []) (st1 := [.int r_7]) (ws' := (wMo X mo al_8 sv sm asd th ho fr txt tl pos od nu su)) (nL := 5) ⟨hx, hb, hml, hown, hts⟩ (c_X6_die l X mo al_6 sv sm asd th ho fr txt tl pos od nu su r_7 al_8 hc_9) (cwV 0 hts gX6_cheers_X6_die rfl rfl rfl (by decide +kernel) ⟨Nat.le_of_ble_eq_true rfl, Nat.le_of_ble_eq_true rfl⟩) 6 rfl rfl rfl rfl hl.1 rfl (Nat.le_of_ble_eq_true rfl) dX6_cheers_42 hK hP (hD0.addr rfl) hS hA [0, 1, 2, 3, 4, 5, 6, 7] rfl rfl rfl rfl ⟨Nat.zero_le _, Nat.zero_le _⟩ (fun H locs hP hD hS => ?_)
      refine lv_istore (lv' := [(4, .int r_7), (3, .int v_2), (0, .ref (mo 0)), (1, .int x1), (2, .int x2)]) hx hb dX6_cheers_45 hl (by decide) rfl (fun ls hl => ?_)
      cases hf
      exact fn_vret hx hb hr hlocks hP hS dX6_cheers_47
    · replace hf := fp_f c_4 hf
      refine lv_bipush (v := 100) hx hb dX6_cheers_34 (by decide) ?_
      refine lv_goto (tgt := 40) hx hb dX6_cheers_36 (by decide) ?_
      obtain ⟨hi_10, hf⟩ := ix_of hf
      refine va_iast hx hb hK.1 hP (hD0.addr rfl) hS 1 0 rfl rfl hi_10 dX6_cheers_40 (fun H locs hP hD hS => ?_)
      obtain ⟨al_11, eal_11⟩ : ∃ g : Nat → Int32, g = upd al ((8 : Int32) + x1).toNatClampNeg (100 : Int32) := ⟨_, rfl⟩
      replace hf := nm_of eal_11 hf
      have hP : va_P X.1 vwCl (wMo X mo al_11 sv sm asd th ho fr txt tl pos od nu su) H := by rw [eal_11]; exact hP
      refine lv_aload_n hx hb dX6_cheers_41 rfl (lv_at hl 1 rfl) ?_
      obtain ⟨r_12, al_13, hc_14, hf⟩ := bd2_of hf
      refine fn_V (v := some (.int r_12)) (As := []) (rest := []) (st1 := [.int r_12]) (ws' := (wMo X mo al_13 sv sm asd th ho fr txt tl pos od nu su)) (nL := 5) ⟨hx, hb, hml, hown, hts⟩ (c_X6_die l X mo al_11 sv sm asd th ho fr txt tl pos od nu su r_12 al_13 hc_14) (cwV 0 hts gX6_cheers_X6_die rfl rfl rfl (by decide +kernel) ⟨Nat.le_of_ble_eq_true rfl, Nat.le_of_ble_eq_true rfl⟩) 6 rfl rfl rfl rfl hl.1 rfl (Nat.le_of_ble_eq_true rfl) dX6_cheers_42 hK hP (hD0.addr rfl) hS hA [0, 1, 2, 3, 4, 5, 6, 7] rfl rfl rfl rfl ⟨Nat.zero_le _, Nat.zero_le _⟩ (fun H locs hP hD hS => ?_)
      refine lv_istore (lv' := [(4, .int r_12), (3, .int v_2), (0, .ref (mo 0)), (1, .int x1), (2, .int x2)]) hx hb dX6_cheers_45 hl (by decide) rfl (fun ls hl => ?_)
      cases hf
      exact fn_vret hx hb hr hlocks hP hS dX6_cheers_47
  · replace hf := fp_f c_3 hf
    refine lv_iconst (v := 0) hx hb dX6_cheers_24 (by decide) ?_
    refine lv_goto (tgt := 40) hx hb dX6_cheers_25 (by decide) ?_
    obtain ⟨hi_15, hf⟩ := ix_of hf
    refine va_iast hx hb hK.1 hP (hD0.addr rfl) hS 1 0 rfl rfl hi_15 dX6_cheers_40 (fun H locs hP hD hS => ?_)
    obtain ⟨al_16, eal_16⟩ : ∃ g : Nat → Int32, g = upd al ((8 : Int32) + x1).toNatClampNeg (0 : Int32) := ⟨_, rfl⟩
    replace hf := nm_of eal_16 hf
    have hP : va_P X.1 vwCl (wMo X mo al_16 sv sm asd th ho fr txt tl pos od nu su) H := by rw [eal_16]; exact hP
    refine lv_aload_n hx hb dX6_cheers_41 rfl (lv_at hl 1 rfl) ?_
    obtain ⟨r_17, al_18, hc_19, hf⟩ := bd2_of hf
    refine fn_V (v := some (.int r_17)) (As := []) (rest := []) (st1 := [.int r_17]) (ws' := (wMo X mo al_18 sv sm asd th ho fr txt tl pos od nu su)) (nL := 5) ⟨hx, hb, hml, hown, hts⟩ (c_X6_die l X mo al_16 sv sm asd th ho fr txt tl pos od nu su r_17 al_18 hc_19) (cwV 0 hts gX6_cheers_X6_die rfl rfl rfl (by decide +kernel) ⟨Nat.le_of_ble_eq_true rfl, Nat.le_of_ble_eq_true rfl⟩) 6 rfl rfl rfl rfl hl.1 rfl (Nat.le_of_ble_eq_true rfl) dX6_cheers_42 hK hP (hD0.addr rfl) hS hA [0, 1, 2, 3, 4, 5, 6, 7] rfl rfl rfl rfl ⟨Nat.zero_le _, Nat.zero_le _⟩ (fun H locs hP hD hS => ?_)
    refine lv_istore (lv' := [(4, .int r_17), (3, .int v_2), (0, .ref (mo 0)), (1, .int x1), (2, .int x2)]) hx hb dX6_cheers_45 hl (by decide) rfl (fun ls hl => ?_)
    cases hf
    exact fn_vret hx hb hr hlocks hP hS dX6_cheers_47

def f_X6_cheer (x1 : Int32) (x2 : Int32) (al : (Nat → Int32)) (sv : (Nat → Int32)) (sm : Int32) (th : Int32) : Option (Int32 × (Nat → Int32) × (Nat → Int32) × Int32 × Int32) :=
  bd (f_X6_isPerson x1) (fun r_1 =>
  bd (f_X6_in x2.toInt64 (-100 : Int64) (100 : Int64)) (fun r_3 =>
  bd2 (f_X6_goes r_1 r_3 (1 : Int32) th) (fun r_5 th_6 =>
  if r_5 = (0 : Int32) then
  (some ((0 : Int32), al, sv, sm, th_6))
  else
  (bd2 (f_X6_save al sv sm) (fun sv_9 sm_10 =>
  bd (f_X6_cheers x1 x2 al) (fun al_12 =>
  ix ((8 : Int32) + x1) 320 (
  nm (al_12 ((8 : Int32) + x1).toNatClampNeg) (fun v_15 =>
  some (v_15, al_12, sv_9, sm_10, th_6)))))))))
set_option maxHeartbeats 4000000 in
set_option maxRecDepth 100000 in
theorem c_X6_cheer (l : Launch) (X : cx_G) (mo : (Nat → Nat)) (al : (Nat → Int32)) (sv : (Nat → Int32)) (sm : Int32) (asd : (Nat → Int32)) (th : Int32) (ho : (Nat → Int32)) (fr : (Nat → Int32)) (txt : (Nat → Int32)) (tl : Int32) (pos : Int32) (od : Int32) (nu : (Nat → Int32)) (su : Int64) (x1 : Int32) (x2 : Int32) (r : Int32) (al' : (Nat → Int32)) (sv' : (Nat → Int32)) (sm' : Int32) (th' : Int32) (hf : f_X6_cheer x1 x2 al sv sm th = some (r, al', sv', sm', th')) : Fn l yX6_cheer wsX6_cheer ({ frames := 4, cells := 0, slots := 0, locals := 90 } : Room) X [.ref (mo 0), .int x1, .int x2] (wMo X mo al sv sm asd th ho fr txt tl pos od nu su) (some (.int r)) (wMo X mo al' sv' sm' asd th' ho fr txt tl pos od nu su) := by
  refine fn_intro (cc := cX6_cheer) (maxL := 3) (ret := (some .int)) (by decide) rfl rfl (Nat.le_of_ble_eq_true rfl) ?_
  intro p e s m args below meth c A ls hx hb hml hr hts hown hlocks hK hP hD0 hS hA hl
  have hown : s.vm.findClass RX6 = some m.cls := hown
  have hl : lv_has ls 3 [(0, .ref (mo 0)), (1, .int x1), (2, .int x2)] := hl
  have hiX6 : ∀ w ∈ u_ws RX6 TX6 13, w ∈ wsX6_cheer := by decide +kernel
  have k7 := hts (.fieldLink RX6 7 "LentRightsModel" "all" "[I") (by decide +kernel)
  unfold f_X6_cheer at hf
  refine lv_aload_n hx hb dX6_cheer_0 rfl (lv_at hl 0 rfl) ?_
  refine lv_iload_n hx hb dX6_cheer_1 rfl (lv_at hl 1 rfl) ?_
  obtain ⟨r_1, hc_2, hf⟩ := bd_of hf
  refine fn_Sx (v := some (.int r_1)) (As := [.int x1]) (rest := [.ref (mo 0)]) (st1 := [.int r_1, .ref (mo 0)]) (ws' := (wMo X mo al sv sm asd th ho fr txt tl pos od nu su)) (nL := 3) ⟨hx, hb, hml, hown, hts⟩ (c_X6_isPerson l X x1 r_1 hc_2) (va_cwS 1 hts gX6_cheer_X6_isPerson rfl rfl rfl (by decide +kernel) ⟨Nat.le_of_ble_eq_true rfl, Nat.le_of_ble_eq_true rfl⟩) rfl hl.1 rfl (Nat.le_of_ble_eq_true rfl) dX6_cheer_2 hK hP (hD0.addr rfl) hS hA [] rfl rfl rfl rfl ⟨Nat.zero_le _, Nat.zero_le _⟩ (fun H locs hP hD hS => ?_)
  refine lv_iload_n hx hb dX6_cheer_5 rfl (lv_at hl 2 rfl) ?_
  refine lv_i2l (v := x2.toInt64) hx hb dX6_cheer_6 rfl ?_
  refine lv_ldc2 hx hb hown (hts (.constantLong RX6 125 (-100)) (by decide +kernel)) dX6_cheer_7 ?_
  refine lv_ldc2 hx hb hown (hts (.constantLong RX6 95 (100)) (by decide +kernel)) dX6_cheer_10 ?_
  obtain ⟨r_3, hc_4, hf⟩ := bd_of hf
  refine fn_Sx (v := some (.int r_3)) (As := [.long x2.toInt64, .long (-100 : Int64), .long (100 : Int64)]) (rest := [.int r_1, .ref (mo 0)]) (st1 := [.int r_3, .int r_1, .ref (mo 0)]) (ws' := (wMo X mo al sv sm asd th ho fr txt tl pos od nu su)) (nL := 3) ⟨hx, hb, hml, hown, hts⟩ (c_X6_in l X x2.toInt64 (-100 : Int64) (100 : Int64) r_3 hc_4) (va_cwS 3 hts gX6_cheer_X6_in rfl rfl rfl (by decide +kernel) ⟨Nat.le_of_ble_eq_true rfl, Nat.le_of_ble_eq_true rfl⟩) rfl hl.1 rfl (Nat.le_of_ble_eq_true rfl) dX6_cheer_13 hK hP (hD0.addr rfl) hS hA [] rfl rfl rfl rfl ⟨Nat.zero_le _, Nat.zero_le _⟩ (fun H locs hP hD hS => ?_)
  refine lv_iconst (v := 1) hx hb dX6_cheer_16 (by decide) ?_
  obtain ⟨r_5, th_6, hc_7, hf⟩ := bd2_of hf
  refine fn_V (v := some (.int r_5)) (As := [.int r_1, .int r_3, .int (1 : Int32)]) (rest := []) (st1 := [.int r_5]) (ws' := (wMo X mo al sv sm asd th_6 ho fr txt tl pos od nu su)) (nL := 3) ⟨hx, hb, hml, hown, hts⟩ (c_X6_goes l X mo al sv sm asd th ho fr txt tl pos od nu su r_1 r_3 (1 : Int32) r_5 th_6 hc_7) (cwV 3 hts gX6_cheer_X6_goes rfl rfl rfl (by decide +kernel) ⟨Nat.le_of_ble_eq_true rfl, Nat.le_of_ble_eq_true rfl⟩) 6 rfl rfl rfl rfl hl.1 rfl (Nat.le_of_ble_eq_true rfl) dX6_cheer_17 hK hP (hD0.addr rfl) hS hA [0, 1, 2, 3, 4, 5, 6, 7] rfl rfl rfl rfl ⟨Nat.zero_le _, Nat.zero_le _⟩ (fun H locs hP hD hS => ?_)
  refine lv_if_ne (tgt := 25) hx hb dX6_cheer_20 (by decide) (fun c_8 => ?_) (fun c_8 => ?_)
  · replace hf := fp_f c_8 hf
    refine lv_aload_n hx hb dX6_cheer_25 rfl (lv_at hl 0 rfl) ?_
    obtain ⟨sv_9, sm_10, hc_11, hf⟩ := bd2_of hf
    refine fn_V (v := none) (As := []) (rest := []) (st1 := []) (ws' := (wMo X mo al sv_9 sm_10 asd th_6 ho fr txt tl pos od nu su)) (nL := 3) ⟨hx, hb, hml, hown, hts⟩ (c_X6_save l X mo al sv sm asd th_6 ho fr txt tl pos od nu su sv_9 sm_10 hc_11) (cwV 0 hts gX6_cheer_X6_save rfl rfl rfl (by decide +kernel) ⟨Nat.le_of_ble_eq_true rfl, Nat.le_of_ble_eq_true rfl⟩) 6 rfl rfl rfl rfl hl.1 rfl (Nat.le_of_ble_eq_true rfl) dX6_cheer_26 hK hP (hD0.addr rfl) hS hA [0, 1, 2, 3, 4, 5, 6, 7] rfl rfl rfl rfl ⟨Nat.zero_le _, Nat.zero_le _⟩ (fun H locs hP hD hS => ?_)
    refine lv_aload_n hx hb dX6_cheer_29 rfl (lv_at hl 0 rfl) ?_
    refine lv_iload_n hx hb dX6_cheer_30 rfl (lv_at hl 1 rfl) ?_
    refine lv_iload_n hx hb dX6_cheer_31 rfl (lv_at hl 2 rfl) ?_
    obtain ⟨al_12, hc_13, hf⟩ := bd_of hf
    refine fn_V (v := none) (As := [.int x1, .int x2]) (rest := []) (st1 := []) (ws' := (wMo X mo al_12 sv_9 sm_10 asd th_6 ho fr txt tl pos od nu su)) (nL := 3) ⟨hx, hb, hml, hown, hts⟩ (c_X6_cheers l X mo al sv_9 sm_10 asd th_6 ho fr txt tl pos od nu su x1 x2 al_12 hc_13) (cwV 2 hts gX6_cheer_X6_cheers rfl rfl rfl (by decide +kernel) ⟨Nat.le_of_ble_eq_true rfl, Nat.le_of_ble_eq_true rfl⟩) 6 rfl rfl rfl rfl hl.1 rfl (Nat.le_of_ble_eq_true rfl) dX6_cheer_32 hK hP (hD0.addr rfl) hS hA [0, 1, 2, 3, 4, 5, 6, 7] rfl rfl rfl rfl ⟨Nat.zero_le _, Nat.zero_le _⟩ (fun H locs hP hD hS => ?_)
    refine lv_aload_n hx hb dX6_cheer_35 rfl (lv_at hl 0 rfl) ?_
    refine va_get (D := X.1) (ci := 6) (v := .ref (mo 1)) (C := RX6) (T := TX6) (N := 13) hx hb hts hiX6 hown hK.1 hP 0 rfl rfl 0 (by decide) k7 (fun _ h9 => h9) rfl dX6_cheer_36 ?_
    refine lv_bipush (v := 8) hx hb dX6_cheer_39 (by decide) ?_
    refine lv_iload_n hx hb dX6_cheer_41 rfl (lv_at hl 1 rfl) ?_
    refine lv_iadd hx hb dX6_cheer_42 ?_
    obtain ⟨hi_14, hf⟩ := ix_of hf
    refine va_iald hx hb hK.1 hP 1 0 rfl rfl hi_14 dX6_cheer_43 ?_
    refine lv_topi (fun v_15 ev_15 => ?_)
    replace hf := nm_of ev_15 hf
    cases hf
    exact fn_iret hx hb hr hlocks hP hS dX6_cheer_44
  · replace hf := fp_t c_8 hf
    refine lv_iconst (v := 0) hx hb dX6_cheer_23 (by decide) ?_
    cases hf
    exact fn_iret hx hb hr hlocks hP hS dX6_cheer_24

def f_X6_tick_L12  : Nat → Int32 → (Nat → Int32) →  Option ((Nat → Int32))
  | 0, _, _ => none
  | k_ + 1, x1, al =>
    if (10 : Int32) ≤ x1 then
    (some al)
    else
    (ix ((18 : Int32) + x1) 320 (
    ix ((8 : Int32) + x1) 320 (
    nm ((al ((18 : Int32) + x1).toNatClampNeg) - (al ((8 : Int32) + x1).toNatClampNeg)) (fun v_4 =>
    nm ((8 : Int32) + x1) (fun v_5 =>
    ix v_5 320 (
    if v_4 ≤ (0 : Int32) then
    (if (0 : Int32) ≤ v_4 then
    (nm ((al v_5.toNatClampNeg) + (0 : Int32)) (fun v_9 =>
    ix v_5 320 (
    nm (upd al v_5.toNatClampNeg v_9) (fun al_11 =>
    nm (x1 + (1 : Int32)) (fun v_12 =>
    f_X6_tick_L12 k_ v_12 al_11)))))
    else
    (nm ((al v_5.toNatClampNeg) + (-1 : Int32)) (fun v_13 =>
    ix v_5 320 (
    nm (upd al v_5.toNatClampNeg v_13) (fun al_15 =>
    nm (x1 + (1 : Int32)) (fun v_16 =>
    f_X6_tick_L12 k_ v_16 al_15))))))
    else
    (nm ((al v_5.toNatClampNeg) + (1 : Int32)) (fun v_17 =>
    ix v_5 320 (
    nm (upd al v_5.toNatClampNeg v_17) (fun al_19 =>
    nm (x1 + (1 : Int32)) (fun v_20 =>
    f_X6_tick_L12 k_ v_20 al_19)))))))))))
def f_X6_tick (al : (Nat → Int32)) : Option (Int32 × (Nat → Int32)) :=
  ix (0 : Int32) 320 (
  nm ((al (0 : Int32).toNatClampNeg) + (1 : Int32)) (fun v_22 =>
  ix (0 : Int32) 320 (
  nm (upd al (0 : Int32).toNatClampNeg v_22) (fun al_24 =>
  bd (f_X6_tick_L12 FU (0 : Int32) al_24) (fun al_25 =>
  bd2 (f_X6_die al_25) (fun r_27 al_28 =>
  some (r_27, al_28)))))))
set_option maxHeartbeats 4000000 in
set_option maxRecDepth 100000 in
theorem c_X6_tick (l : Launch) (X : cx_G) (mo : (Nat → Nat)) (al : (Nat → Int32)) (sv : (Nat → Int32)) (sm : Int32) (asd : (Nat → Int32)) (th : Int32) (ho : (Nat → Int32)) (fr : (Nat → Int32)) (txt : (Nat → Int32)) (tl : Int32) (pos : Int32) (od : Int32) (nu : (Nat → Int32)) (su : Int64) (r : Int32) (al' : (Nat → Int32)) (hf : f_X6_tick al = some (r, al')) : Fn l yX6_tick wsX6_tick ({ frames := 3, cells := 0, slots := 0, locals := 66 } : Room) X [.ref (mo 0)] (wMo X mo al sv sm asd th ho fr txt tl pos od nu su) (some (.int r)) (wMo X mo al' sv sm asd th ho fr txt tl pos od nu su) := by
  refine fn_intro (cc := cX6_tick) (maxL := 3) (ret := (some .int)) (by decide) rfl rfl (Nat.le_of_ble_eq_true rfl) ?_
  intro p e s m args below meth c A ls hx hb hml hr hts hown hlocks hK hP hD0 hS hA hl
  have hown : s.vm.findClass RX6 = some m.cls := hown
  have hl : lv_has ls 3 [(0, .ref (mo 0))] := hl
  have hiX6 : ∀ w ∈ u_ws RX6 TX6 13, w ∈ wsX6_tick := by decide +kernel
  have k7 := hts (.fieldLink RX6 7 "LentRightsModel" "all" "[I") (by decide +kernel)
  have loop_12 : ∀ (Q : State → Prop) (alo : (Nat → Int32)), (∀ (H : Heap) (locs : List Loc) (ls : Array Slot), va_P X.1 vwCl (wMo X mo alo sv sm asd th ho fr txt tl pos od nu su) H → va_S A s.heap H locs → lv_has ls 3 [(0, .ref (mo 0))] → W p l e ({ frames := 3, cells := 0, slots := 0, locals := 66 } : Room) s m args below meth c H locs 0 0 Q (F0 m 73 ls [])) → ∀ (k_ : Nat) (x1 : Int32) (al : (Nat → Int32)) (H : Heap) (locs : List Loc) (ls : Array Slot), f_X6_tick_L12 k_ x1 al = some alo → va_P X.1 vwCl (wMo X mo al sv sm asd th ho fr txt tl pos od nu su) H → va_S A s.heap H locs → lv_has ls 3 [(0, .ref (mo 0)), (1, .int x1)] → W p l e ({ frames := 3, cells := 0, slots := 0, locals := 66 } : Room) s m args below meth c H locs 0 0 Q (F0 m 12 ls []) := by
    intro Q alo kx k_
    induction k_ with
    | zero => intro x1 al H locs ls hf; exact nomatch (show (none : Option ((Nat → Int32))) = some _ from hf)
    | succ k_ ih =>
      intro x1 al H locs ls hf hP hS hl
      unfold f_X6_tick_L12 at hf
      refine lv_iload_n hx hb dX6_tick_12 rfl (lv_at hl 1 rfl) ?_
      refine lv_bipush (v := 10) hx hb dX6_tick_13 (by decide) ?_
      refine lv_icmp_ge (tgt := 73) hx hb dX6_tick_15 (by decide) (fun c_1 => ?_) (fun c_1 => ?_)
      · replace hf := fp_t c_1 hf
        cases hf
        exact kx _ _ _ hP hS (lv_sub hl [0] rfl)
      · replace hf := fp_f c_1 hf
        refine lv_aload_n hx hb dX6_tick_18 rfl (lv_at hl 0 rfl) ?_
        refine va_get (D := X.1) (ci := 6) (v := .ref (mo 1)) (C := RX6) (T := TX6) (N := 13) hx hb hts hiX6 hown hK.1 hP 0 rfl rfl 0 (by decide) k7 (fun _ h9 => h9) rfl dX6_tick_19 ?_
        refine lv_bipush (v := 18) hx hb dX6_tick_22 (by decide) ?_
        refine lv_iload_n hx hb dX6_tick_24 rfl (lv_at hl 1 rfl) ?_
        refine lv_iadd hx hb dX6_tick_25 ?_
        obtain ⟨hi_2, hf⟩ := ix_of hf
        refine va_iald hx hb hK.1 hP 1 0 rfl rfl hi_2 dX6_tick_26 ?_
        refine lv_aload_n hx hb dX6_tick_27 rfl (lv_at hl 0 rfl) ?_
        refine va_get (D := X.1) (ci := 6) (v := .ref (mo 1)) (C := RX6) (T := TX6) (N := 13) hx hb hts hiX6 hown hK.1 hP 0 rfl rfl 0 (by decide) k7 (fun _ h9 => h9) rfl dX6_tick_28 ?_
        refine lv_bipush (v := 8) hx hb dX6_tick_31 (by decide) ?_
        refine lv_iload_n hx hb dX6_tick_33 rfl (lv_at hl 1 rfl) ?_
        refine lv_iadd hx hb dX6_tick_34 ?_
        obtain ⟨hi_3, hf⟩ := ix_of hf
        refine va_iald hx hb hK.1 hP 1 0 rfl rfl hi_3 dX6_tick_35 ?_
        refine lv_isub hx hb dX6_tick_36 ?_
        refine lv_topi (fun v_4 ev_4 => ?_)
        replace hf := nm_of ev_4 hf
        refine lv_istore_n (lv' := [(2, .int v_4), (0, .ref (mo 0)), (1, .int x1)]) hx hb dX6_tick_37 rfl hl (by decide) rfl (fun ls hl => ?_)
        refine lv_aload_n hx hb dX6_tick_38 rfl (lv_at hl 1 rfl) ?_
        refine va_get (D := X.1) (ci := 6) (v := .ref (mo 1)) (C := RX6) (T := TX6) (N := 13) hx hb hts hiX6 hown hK.1 hP 0 rfl rfl 0 (by decide) k7 (fun _ h9 => h9) rfl dX6_tick_39 ?_
        refine lv_bipush (v := 8) hx hb dX6_tick_42 (by decide) ?_
        refine lv_iload_n hx hb dX6_tick_44 rfl (lv_at hl 2 rfl) ?_
        refine lv_iadd hx hb dX6_tick_45 ?_
        refine lv_topi (fun v_5 ev_5 => ?_)
        replace hf := nm_of ev_5 hf
        refine lv_dup2_11 hx hb dX6_tick_46 rfl rfl ?_
        obtain ⟨hi_6, hf⟩ := ix_of hf
        refine va_iald hx hb hK.1 hP 1 0 rfl rfl hi_6 dX6_tick_47 ?_
        refine lv_iload_n hx hb dX6_tick_48 rfl (lv_at hl 0 rfl) ?_
        refine lv_if_le (tgt := 56) hx hb dX6_tick_49 (by decide) (fun c_7 => ?_) (fun c_7 => ?_)
        · replace hf := fp_t c_7 hf
          refine lv_iload_n hx hb dX6_tick_56 rfl (lv_at hl 0 rfl) ?_
          refine lv_if_ge (tgt := 64) hx hb dX6_tick_57 (by decide) (fun c_8 => ?_) (fun c_8 => ?_)
          · replace hf := fp_t c_8 hf
            refine lv_iconst (v := 0) hx hb dX6_tick_64 (by decide) ?_
            refine lv_iadd hx hb dX6_tick_65 ?_
            refine lv_topi (fun v_9 ev_9 => ?_)
            replace hf := nm_of ev_9 hf
            obtain ⟨hi_10, hf⟩ := ix_of hf
            refine va_iast hx hb hK.1 hP (hD0.addr rfl) hS 1 0 rfl rfl hi_10 dX6_tick_66 (fun H locs hP hD hS => ?_)
            obtain ⟨al_11, eal_11⟩ : ∃ g : Nat → Int32, g = upd al v_5.toNatClampNeg v_9 := ⟨_, rfl⟩
            replace hf := nm_of eal_11 hf
            have hP : va_P X.1 vwCl (wMo X mo al_11 sv sm asd th ho fr txt tl pos od nu su) H := by rw [eal_11]; exact hP
            obtain ⟨v_12, ev_12⟩ : ∃ y : Int32, y = x1 + (1 : Int32) := ⟨_, rfl⟩
            replace hf := nm_of ev_12 hf
            refine lv_iinc (v := v_12) (lv' := [(1, .int v_12), (2, .int v_4), (0, .ref (mo 0))]) hx hb dX6_tick_67 hl (k := 2) rfl (by rw [ev_12]; rfl) (by decide) rfl (fun ls hl => ?_)
            refine lv_goto (tgt := 12) hx hb dX6_tick_70 (by decide) ?_
            exact ih v_12 al_11 _ _ _ hf hP hS (lv_sub hl [2, 0] rfl)
          · replace hf := fp_f c_8 hf
            refine lv_iconst (v := -1) hx hb dX6_tick_60 (by decide) ?_
            refine lv_goto (tgt := 65) hx hb dX6_tick_61 (by decide) ?_
            refine lv_iadd hx hb dX6_tick_65 ?_
            refine lv_topi (fun v_13 ev_13 => ?_)
            replace hf := nm_of ev_13 hf
            obtain ⟨hi_14, hf⟩ := ix_of hf
            refine va_iast hx hb hK.1 hP (hD0.addr rfl) hS 1 0 rfl rfl hi_14 dX6_tick_66 (fun H locs hP hD hS => ?_)
            obtain ⟨al_15, eal_15⟩ : ∃ g : Nat → Int32, g = upd al v_5.toNatClampNeg v_13 := ⟨_, rfl⟩
            replace hf := nm_of eal_15 hf
            have hP : va_P X.1 vwCl (wMo X mo al_15 sv sm asd th ho fr txt tl pos od nu su) H := by rw [eal_15]; exact hP
            obtain ⟨v_16, ev_16⟩ : ∃ y : Int32, y = x1 + (1 : Int32) := ⟨_, rfl⟩
            replace hf := nm_of ev_16 hf
            refine lv_iinc (v := v_16) (lv' := [(1, .int v_16), (2, .int v_4), (0, .ref (mo 0))]) hx hb dX6_tick_67 hl (k := 2) rfl (by rw [ev_16]; rfl) (by decide) rfl (fun ls hl => ?_)
            refine lv_goto (tgt := 12) hx hb dX6_tick_70 (by decide) ?_
            exact ih v_16 al_15 _ _ _ hf hP hS (lv_sub hl [2, 0] rfl)
        · replace hf := fp_f c_7 hf
          refine lv_iconst (v := 1) hx hb dX6_tick_52 (by decide) ?_
          refine lv_goto (tgt := 65) hx hb dX6_tick_53 (by decide) ?_
          refine lv_iadd hx hb dX6_tick_65 ?_
          refine lv_topi (fun v_17 ev_17 => ?_)
          replace hf := nm_of ev_17 hf
          obtain ⟨hi_18, hf⟩ := ix_of hf
          refine va_iast hx hb hK.1 hP (hD0.addr rfl) hS 1 0 rfl rfl hi_18 dX6_tick_66 (fun H locs hP hD hS => ?_)
          obtain ⟨al_19, eal_19⟩ : ∃ g : Nat → Int32, g = upd al v_5.toNatClampNeg v_17 := ⟨_, rfl⟩
          replace hf := nm_of eal_19 hf
          have hP : va_P X.1 vwCl (wMo X mo al_19 sv sm asd th ho fr txt tl pos od nu su) H := by rw [eal_19]; exact hP
          obtain ⟨v_20, ev_20⟩ : ∃ y : Int32, y = x1 + (1 : Int32) := ⟨_, rfl⟩
          replace hf := nm_of ev_20 hf
          refine lv_iinc (v := v_20) (lv' := [(1, .int v_20), (2, .int v_4), (0, .ref (mo 0))]) hx hb dX6_tick_67 hl (k := 2) rfl (by rw [ev_20]; rfl) (by decide) rfl (fun ls hl => ?_)
          refine lv_goto (tgt := 12) hx hb dX6_tick_70 (by decide) ?_
          exact ih v_20 al_19 _ _ _ hf hP hS (lv_sub hl [2, 0] rfl)
  unfold f_X6_tick at hf
  refine lv_aload_n hx hb dX6_tick_0 rfl (lv_at hl 0 rfl) ?_
  refine va_get (D := X.1) (ci := 6) (v := .ref (mo 1)) (C := RX6) (T := TX6) (N := 13) hx hb hts hiX6 hown hK.1 hP 0 rfl rfl 0 (by decide) k7 (fun _ h9 => h9) rfl dX6_tick_1 ?_
  refine lv_iconst (v := 0) hx hb dX6_tick_4 (by decide) ?_
  refine lv_dup2_11 hx hb dX6_tick_5 rfl rfl ?_
  obtain ⟨hi_21, hf⟩ := ix_of hf
  refine va_iald hx hb hK.1 hP 1 0 rfl rfl hi_21 dX6_tick_6 ?_
  refine lv_iconst (v := 1) hx hb dX6_tick_7 (by decide) ?_
  refine lv_iadd hx hb dX6_tick_8 ?_
  refine lv_topi (fun v_22 ev_22 => ?_)
  replace hf := nm_of ev_22 hf
  obtain ⟨hi_23, hf⟩ := ix_of hf
  refine va_iast hx hb hK.1 hP (hD0.addr rfl) hS 1 0 rfl rfl hi_23 dX6_tick_9 (fun H locs hP hD hS => ?_)
  obtain ⟨al_24, eal_24⟩ : ∃ g : Nat → Int32, g = upd al (0 : Int32).toNatClampNeg v_22 := ⟨_, rfl⟩
  replace hf := nm_of eal_24 hf
  have hP : va_P X.1 vwCl (wMo X mo al_24 sv sm asd th ho fr txt tl pos od nu su) H := by rw [eal_24]; exact hP
  refine lv_iconst (v := 0) hx hb dX6_tick_10 (by decide) ?_
  refine lv_istore_n (lv' := [(1, .int (0 : Int32)), (0, .ref (mo 0))]) hx hb dX6_tick_11 rfl hl (by decide) rfl (fun ls hl => ?_)
  obtain ⟨al_25, hL_26, hf⟩ := bd_of hf
  refine loop_12 _ al_25 (fun H locs ls hP hS hl => ?_) FU (0 : Int32) al_24 _ _ _ hL_26 hP hS (lv_sub hl [1, 0] rfl)
  refine lv_aload_n hx hb dX6_tick_73 rfl (lv_at hl 0 rfl) ?_
  obtain ⟨r_27, al_28, hc_29, hf⟩ := bd2_of hf
  refine fn_V (v := some (.int r_27)) (As := []) (rest := []) (st1 := [.int r_27]) (ws' := (wMo X mo al_28 sv sm asd th ho fr txt tl pos od nu su)) (nL := 3) ⟨hx, hb, hml, hown, hts⟩ (c_X6_die l X mo al_25 sv sm asd th ho fr txt tl pos od nu su r_27 al_28 hc_29) (cwV 0 hts gX6_tick_X6_die rfl rfl rfl (by decide +kernel) ⟨Nat.le_of_ble_eq_true rfl, Nat.le_of_ble_eq_true rfl⟩) 6 rfl rfl rfl rfl hl.1 rfl (Nat.le_of_ble_eq_true rfl) dX6_tick_74 hK hP (hD0.addr rfl) hS hA [0, 1, 2, 3, 4, 5, 6, 7] rfl rfl rfl rfl ⟨Nat.zero_le _, Nat.zero_le _⟩ (fun H locs hP hD hS => ?_)
  cases hf
  exact fn_iret hx hb hr hlocks hP hS dX6_tick_77

def f_X6_ticks_L4 (x1 : Int32) : Nat → Int32 → Int32 → (Nat → Int32) →  Option (Int32 × (Nat → Int32))
  | 0, _, _, _ => none
  | k_ + 1, x2, x3, al =>
    if x1 ≤ x3 then
    (some (x2, al))
    else
    (bd2 (f_X6_tick al) (fun r_2 al_3 =>
    nm (x2 + r_2) (fun v_5 =>
    nm (x3 + (1 : Int32)) (fun v_6 =>
    f_X6_ticks_L4 x1 k_ v_5 v_6 al_3))))
def f_X6_ticks (x1 : Int32) (al : (Nat → Int32)) : Option (Int32 × (Nat → Int32)) :=
  bd2 (f_X6_ticks_L4 x1 FU (0 : Int32) (0 : Int32) al) (fun y2_7 al_8 =>
  some (y2_7, al_8))
set_option maxHeartbeats 4000000 in
set_option maxRecDepth 100000 in
theorem c_X6_ticks (l : Launch) (X : cx_G) (mo : (Nat → Nat)) (al : (Nat → Int32)) (sv : (Nat → Int32)) (sm : Int32) (asd : (Nat → Int32)) (th : Int32) (ho : (Nat → Int32)) (fr : (Nat → Int32)) (txt : (Nat → Int32)) (tl : Int32) (pos : Int32) (od : Int32) (nu : (Nat → Int32)) (su : Int64) (x1 : Int32) (r : Int32) (al' : (Nat → Int32)) (hf : f_X6_ticks x1 al = some (r, al')) : Fn l yX6_ticks wsX6_ticks ({ frames := 4, cells := 0, slots := 0, locals := 88 } : Room) X [.ref (mo 0), .int x1] (wMo X mo al sv sm asd th ho fr txt tl pos od nu su) (some (.int r)) (wMo X mo al' sv sm asd th ho fr txt tl pos od nu su) := by
  refine fn_intro (cc := cX6_ticks) (maxL := 4) (ret := (some .int)) (by decide) rfl rfl (Nat.le_of_ble_eq_true rfl) ?_
  intro p e s m args below meth c A ls hx hb hml hr hts hown hlocks hK hP hD0 hS hA hl
  have hown : s.vm.findClass RX6 = some m.cls := hown
  have hl : lv_has ls 4 [(0, .ref (mo 0)), (1, .int x1)] := hl
  have loop_4 : ∀ (Q : State → Prop) (y2 : Int32) (alo : (Nat → Int32)), (∀ (H : Heap) (locs : List Loc) (ls : Array Slot), va_P X.1 vwCl (wMo X mo alo sv sm asd th ho fr txt tl pos od nu su) H → va_S A s.heap H locs → lv_has ls 4 [(2, .int y2)] → W p l e ({ frames := 4, cells := 0, slots := 0, locals := 88 } : Room) s m args below meth c H locs 0 0 Q (F0 m 22 ls [])) → ∀ (k_ : Nat) (x2 : Int32) (x3 : Int32) (al : (Nat → Int32)) (H : Heap) (locs : List Loc) (ls : Array Slot), f_X6_ticks_L4 x1 k_ x2 x3 al = some (y2, alo) → va_P X.1 vwCl (wMo X mo al sv sm asd th ho fr txt tl pos od nu su) H → va_S A s.heap H locs → lv_has ls 4 [(0, .ref (mo 0)), (1, .int x1), (2, .int x2), (3, .int x3)] → W p l e ({ frames := 4, cells := 0, slots := 0, locals := 88 } : Room) s m args below meth c H locs 0 0 Q (F0 m 4 ls []) := by
    intro Q y2 alo kx k_
    induction k_ with
    | zero => intro x2 x3 al H locs ls hf; exact nomatch (show (none : Option (Int32 × (Nat → Int32))) = some _ from hf)
    | succ k_ ih =>
      intro x2 x3 al H locs ls hf hP hS hl
      unfold f_X6_ticks_L4 at hf
      refine lv_iload_n hx hb dX6_ticks_4 rfl (lv_at hl 3 rfl) ?_
      refine lv_iload_n hx hb dX6_ticks_5 rfl (lv_at hl 1 rfl) ?_
      refine lv_icmp_ge (tgt := 22) hx hb dX6_ticks_6 (by decide) (fun c_1 => ?_) (fun c_1 => ?_)
      · replace hf := fp_t c_1 hf
        cases hf
        exact kx _ _ _ hP hS (lv_sub hl [2] rfl)
      · replace hf := fp_f c_1 hf
        refine lv_iload_n hx hb dX6_ticks_9 rfl (lv_at hl 2 rfl) ?_
        refine lv_aload_n hx hb dX6_ticks_10 rfl (lv_at hl 0 rfl) ?_
        obtain ⟨r_2, al_3, hc_4, hf⟩ := bd2_of hf
        refine fn_V (v := some (.int r_2)) (As := []) (rest := [.int x2]) (st1 := [.int r_2, .int x2]) (ws' := (wMo X mo al_3 sv sm asd th ho fr txt tl pos od nu su)) (nL := 4) ⟨hx, hb, hml, hown, hts⟩ (c_X6_tick l X mo al sv sm asd th ho fr txt tl pos od nu su r_2 al_3 hc_4) (cwV 0 hts gX6_ticks_X6_tick rfl rfl rfl (by decide +kernel) ⟨Nat.le_of_ble_eq_true rfl, Nat.le_of_ble_eq_true rfl⟩) 6 rfl rfl rfl rfl hl.1 rfl (Nat.le_of_ble_eq_true rfl) dX6_ticks_11 hK hP (hD0.addr rfl) hS hA [0, 1, 2, 3, 4, 5, 6, 7] rfl rfl rfl rfl ⟨Nat.zero_le _, Nat.zero_le _⟩ (fun H locs hP hD hS => ?_)
        refine lv_iadd hx hb dX6_ticks_14 ?_
        refine lv_topi (fun v_5 ev_5 => ?_)
        replace hf := nm_of ev_5 hf
        refine lv_istore_n (lv' := [(2, .int v_5), (0, .ref (mo 0)), (1, .int x1), (3, .int x3)]) hx hb dX6_ticks_15 rfl hl (by decide) rfl (fun ls hl => ?_)
        obtain ⟨v_6, ev_6⟩ : ∃ y : Int32, y = x3 + (1 : Int32) := ⟨_, rfl⟩
        replace hf := nm_of ev_6 hf
        refine lv_iinc (v := v_6) (lv' := [(3, .int v_6), (2, .int v_5), (0, .ref (mo 0)), (1, .int x1)]) hx hb dX6_ticks_16 hl (k := 3) rfl (by rw [ev_6]; rfl) (by decide) rfl (fun ls hl => ?_)
        refine lv_goto (tgt := 4) hx hb dX6_ticks_19 (by decide) ?_
        exact ih v_5 v_6 al_3 _ _ _ hf hP hS (lv_sub hl [2, 3, 1, 0] rfl)
  unfold f_X6_ticks at hf
  refine lv_iconst (v := 0) hx hb dX6_ticks_0 (by decide) ?_
  refine lv_istore_n (lv' := [(2, .int (0 : Int32)), (0, .ref (mo 0)), (1, .int x1)]) hx hb dX6_ticks_1 rfl hl (by decide) rfl (fun ls hl => ?_)
  refine lv_iconst (v := 0) hx hb dX6_ticks_2 (by decide) ?_
  refine lv_istore_n (lv' := [(3, .int (0 : Int32)), (2, .int (0 : Int32)), (0, .ref (mo 0)), (1, .int x1)]) hx hb dX6_ticks_3 rfl hl (by decide) rfl (fun ls hl => ?_)
  obtain ⟨y2_7, al_8, hL_9, hf⟩ := bd2_of hf
  refine loop_4 _ y2_7 al_8 (fun H locs ls hP hS hl => ?_) FU (0 : Int32) (0 : Int32) al _ _ _ hL_9 hP hS (lv_sub hl [2, 3, 1, 0] rfl)
  refine lv_iload_n hx hb dX6_ticks_22 rfl (lv_at hl 0 rfl) ?_
  cases hf
  exact fn_iret hx hb hr hlocks hP hS dX6_ticks_23

def f_X6_mayPass (x1 : Int32) (al : (Nat → Int32)) : Option (Int32) :=
  ix (0 : Int32) 320 (
  if (100000 : Int32) < (al (0 : Int32).toNatClampNeg) + x1 then
  (some (0 : Int32))
  else
  (some (1 : Int32)))
theorem z_X6_mayPass {x1 : Int32} {al : (Nat → Int32)} {r : Int32} (hf : f_X6_mayPass x1 al = some r) : r = 0 ∨ r = 1 := by
  unfold f_X6_mayPass at hf
  obtain ⟨hi_1, hf⟩ := ix_of hf
  by_cases c_2 : (100000 : Int32) < (al (0 : Int32).toNatClampNeg) + x1
  · replace hf := fp_t c_2 hf
    cases hf
    exact Or.inl rfl
  · replace hf := fp_f c_2 hf
    cases hf
    exact Or.inr rfl
set_option maxHeartbeats 4000000 in
set_option maxRecDepth 100000 in
theorem c_X6_mayPass (l : Launch) (X : cx_G) (mo : (Nat → Nat)) (al : (Nat → Int32)) (sv : (Nat → Int32)) (sm : Int32) (asd : (Nat → Int32)) (th : Int32) (ho : (Nat → Int32)) (fr : (Nat → Int32)) (txt : (Nat → Int32)) (tl : Int32) (pos : Int32) (od : Int32) (nu : (Nat → Int32)) (su : Int64) (x1 : Int32) (r : Int32) (hf : f_X6_mayPass x1 al = some r) : Fn l yX6_mayPass wsX6_mayPass ({ frames := 0, cells := 0, slots := 0, locals := 0 } : Room) X [.ref (mo 0), .int x1] (wMo X mo al sv sm asd th ho fr txt tl pos od nu su) (some (.int r)) (wMo X mo al sv sm asd th ho fr txt tl pos od nu su) := by
  refine fn_intro (cc := cX6_mayPass) (maxL := 2) (ret := (some .boolean)) (by decide) rfl rfl (Nat.le_of_ble_eq_true rfl) ?_
  intro p e s m args below meth c A ls hx hb hml hr hts hown hlocks hK hP hD0 hS hA hl
  have hown : s.vm.findClass RX6 = some m.cls := hown
  have hl : lv_has ls 2 [(0, .ref (mo 0)), (1, .int x1)] := hl
  have hiX6 : ∀ w ∈ u_ws RX6 TX6 13, w ∈ wsX6_mayPass := by decide +kernel
  have k7 := hts (.fieldLink RX6 7 "LentRightsModel" "all" "[I") (by decide +kernel)
  unfold f_X6_mayPass at hf
  refine lv_aload_n hx hb dX6_mayPass_0 rfl (lv_at hl 0 rfl) ?_
  refine va_get (D := X.1) (ci := 6) (v := .ref (mo 1)) (C := RX6) (T := TX6) (N := 13) hx hb hts hiX6 hown hK.1 hP 0 rfl rfl 0 (by decide) k7 (fun _ h9 => h9) rfl dX6_mayPass_1 ?_
  refine lv_iconst (v := 0) hx hb dX6_mayPass_4 (by decide) ?_
  obtain ⟨hi_1, hf⟩ := ix_of hf
  refine va_iald hx hb hK.1 hP 1 0 rfl rfl hi_1 dX6_mayPass_5 ?_
  refine lv_iload_n hx hb dX6_mayPass_6 rfl (lv_at hl 1 rfl) ?_
  refine lv_iadd hx hb dX6_mayPass_7 ?_
  refine lv_ldc hx hb hown (hts (.constant RX6 134 (100000)) (by decide +kernel)) dX6_mayPass_8 ?_
  refine lv_icmp_gt (tgt := 17) hx hb dX6_mayPass_10 (by decide) (fun c_2 => ?_) (fun c_2 => ?_)
  · replace hf := fp_t c_2 hf
    refine lv_iconst (v := 0) hx hb dX6_mayPass_17 (by decide) ?_
    cases hf
    exact fn_zret hx hb hr rfl hlocks hP hS dX6_mayPass_18
  · replace hf := fp_f c_2 hf
    refine lv_iconst (v := 1) hx hb dX6_mayPass_13 (by decide) ?_
    refine lv_goto (tgt := 18) hx hb dX6_mayPass_14 (by decide) ?_
    cases hf
    exact fn_zret hx hb hr rfl hlocks hP hS dX6_mayPass_18

def f_X6_pass (x1 : Int32) (al : (Nat → Int32)) (sv : (Nat → Int32)) (sm : Int32) (th : Int32) : Option (Int32 × (Nat → Int32) × (Nat → Int32) × Int32 × Int32) :=
  bd (f_X6_in x1.toInt64 (1 : Int64) (100 : Int64)) (fun r_1 =>
  if r_1 = (0 : Int32) then
  (bd2 (f_X6_goes r_1 (0 : Int32) (1 : Int32) th) (fun r_4 th_5 =>
  if r_4 = (0 : Int32) then
  (some ((0 : Int32), al, sv, sm, th_5))
  else
  (bd2 (f_X6_save al sv sm) (fun sv_8 sm_9 =>
  bd2 (f_X6_ticks x1 al) (fun r_11 al_12 =>
  some (r_11, al_12, sv_8, sm_9, th_5))))))
  else
  (bd (f_X6_mayPass x1 al) (fun r_14 =>
  if r_14 = (0 : Int32) then
  (bd2 (f_X6_goes r_1 (0 : Int32) (1 : Int32) th) (fun r_17 th_18 =>
  if r_17 = (0 : Int32) then
  (some ((0 : Int32), al, sv, sm, th_18))
  else
  (bd2 (f_X6_save al sv sm) (fun sv_21 sm_22 =>
  bd2 (f_X6_ticks x1 al) (fun r_24 al_25 =>
  some (r_24, al_25, sv_21, sm_22, th_18))))))
  else
  (bd2 (f_X6_goes r_1 (1 : Int32) (1 : Int32) th) (fun r_27 th_28 =>
  if r_27 = (0 : Int32) then
  (some ((0 : Int32), al, sv, sm, th_28))
  else
  (bd2 (f_X6_save al sv sm) (fun sv_31 sm_32 =>
  bd2 (f_X6_ticks x1 al) (fun r_34 al_35 =>
  some (r_34, al_35, sv_31, sm_32, th_28)))))))))
set_option maxHeartbeats 4000000 in
set_option maxRecDepth 100000 in
theorem c_X6_pass (l : Launch) (X : cx_G) (mo : (Nat → Nat)) (al : (Nat → Int32)) (sv : (Nat → Int32)) (sm : Int32) (asd : (Nat → Int32)) (th : Int32) (ho : (Nat → Int32)) (fr : (Nat → Int32)) (txt : (Nat → Int32)) (tl : Int32) (pos : Int32) (od : Int32) (nu : (Nat → Int32)) (su : Int64) (x1 : Int32) (r : Int32) (al' : (Nat → Int32)) (sv' : (Nat → Int32)) (sm' : Int32) (th' : Int32) (hf : f_X6_pass x1 al sv sm th = some (r, al', sv', sm', th')) : Fn l yX6_pass wsX6_pass ({ frames := 5, cells := 0, slots := 0, locals := 111 } : Room) X [.ref (mo 0), .int x1] (wMo X mo al sv sm asd th ho fr txt tl pos od nu su) (some (.int r)) (wMo X mo al' sv' sm' asd th' ho fr txt tl pos od nu su) := by
  refine fn_intro (cc := cX6_pass) (maxL := 3) (ret := (some .int)) (by decide) rfl rfl (Nat.le_of_ble_eq_true rfl) ?_
  intro p e s m args below meth c A ls hx hb hml hr hts hown hlocks hK hP hD0 hS hA hl
  have hown : s.vm.findClass RX6 = some m.cls := hown
  have hl : lv_has ls 3 [(0, .ref (mo 0)), (1, .int x1)] := hl
  unfold f_X6_pass at hf
  refine lv_iload_n hx hb dX6_pass_0 rfl (lv_at hl 1 rfl) ?_
  refine lv_i2l (v := x1.toInt64) hx hb dX6_pass_1 rfl ?_
  refine lv_lconst (v := 1) hx hb dX6_pass_2 (by decide) ?_
  refine lv_ldc2 hx hb hown (hts (.constantLong RX6 95 (100)) (by decide +kernel)) dX6_pass_3 ?_
  obtain ⟨r_1, hc_2, hf⟩ := bd_of hf
  refine fn_Sx (v := some (.int r_1)) (As := [.long x1.toInt64, .long (1 : Int64), .long (100 : Int64)]) (rest := []) (st1 := [.int r_1]) (ws' := (wMo X mo al sv sm asd th ho fr txt tl pos od nu su)) (nL := 3) ⟨hx, hb, hml, hown, hts⟩ (c_X6_in l X x1.toInt64 (1 : Int64) (100 : Int64) r_1 hc_2) (va_cwS 3 hts gX6_pass_X6_in rfl rfl rfl (by decide +kernel) ⟨Nat.le_of_ble_eq_true rfl, Nat.le_of_ble_eq_true rfl⟩) rfl hl.1 rfl (Nat.le_of_ble_eq_true rfl) dX6_pass_6 hK hP (hD0.addr rfl) hS hA [] rfl rfl rfl rfl ⟨Nat.zero_le _, Nat.zero_le _⟩ (fun H locs hP hD hS => ?_)
  refine lv_istore_n (lv' := [(2, .int r_1), (0, .ref (mo 0)), (1, .int x1)]) hx hb dX6_pass_9 rfl hl (by decide) rfl (fun ls hl => ?_)
  refine lv_aload_n hx hb dX6_pass_10 rfl (lv_at hl 1 rfl) ?_
  refine lv_iload_n hx hb dX6_pass_11 rfl (lv_at hl 0 rfl) ?_
  refine lv_iload_n hx hb dX6_pass_12 rfl (lv_at hl 0 rfl) ?_
  refine lv_if_eq (tgt := 28) hx hb dX6_pass_13 (by decide) (fun c_3 => ?_) (fun c_3 => ?_)
  · replace hf := fp_t c_3 hf
    refine lv_iconst (v := 0) hx hb dX6_pass_28 (by decide) ?_
    refine lv_iconst (v := 1) hx hb dX6_pass_29 (by decide) ?_
    obtain ⟨r_4, th_5, hc_6, hf⟩ := bd2_of hf
    refine fn_V (v := some (.int r_4)) (As := [.int r_1, .int (0 : Int32), .int (1 : Int32)]) (rest := []) (st1 := [.int r_4]) (ws' := (wMo X mo al sv sm asd th_5 ho fr txt tl pos od nu su)) (nL := 3) ⟨hx, hb, hml, hown, hts⟩ (c_X6_goes l X mo al sv sm asd th ho fr txt tl pos od nu su r_1 (0 : Int32) (1 : Int32) r_4 th_5 hc_6) (cwV 3 hts gX6_pass_X6_goes rfl rfl rfl (by decide +kernel) ⟨Nat.le_of_ble_eq_true rfl, Nat.le_of_ble_eq_true rfl⟩) 6 rfl rfl rfl rfl hl.1 rfl (Nat.le_of_ble_eq_true rfl) dX6_pass_30 hK hP (hD0.addr rfl) hS hA [0, 1, 2, 3, 4, 5, 6, 7] rfl rfl rfl rfl ⟨Nat.zero_le _, Nat.zero_le _⟩ (fun H locs hP hD hS => ?_)
    refine lv_if_ne (tgt := 38) hx hb dX6_pass_33 (by decide) (fun c_7 => ?_) (fun c_7 => ?_)
    · replace hf := fp_f c_7 hf
      refine lv_aload_n hx hb dX6_pass_38 rfl (lv_at hl 1 rfl) ?_
      obtain ⟨sv_8, sm_9, hc_10, hf⟩ := bd2_of hf
      refine fn_V (v := none) (As := []) (rest := []) (st1 := []) (ws' := (wMo X mo al sv_8 sm_9 asd th_5 ho fr txt tl pos od nu su)) (nL := 3) ⟨hx, hb, hml, hown, hts⟩ (c_X6_save l X mo al sv sm asd th_5 ho fr txt tl pos od nu su sv_8 sm_9 hc_10) (cwV 0 hts gX6_pass_X6_save rfl rfl rfl (by decide +kernel) ⟨Nat.le_of_ble_eq_true rfl, Nat.le_of_ble_eq_true rfl⟩) 6 rfl rfl rfl rfl hl.1 rfl (Nat.le_of_ble_eq_true rfl) dX6_pass_39 hK hP (hD0.addr rfl) hS hA [0, 1, 2, 3, 4, 5, 6, 7] rfl rfl rfl rfl ⟨Nat.zero_le _, Nat.zero_le _⟩ (fun H locs hP hD hS => ?_)
      refine lv_aload_n hx hb dX6_pass_42 rfl (lv_at hl 1 rfl) ?_
      refine lv_iload_n hx hb dX6_pass_43 rfl (lv_at hl 2 rfl) ?_
      obtain ⟨r_11, al_12, hc_13, hf⟩ := bd2_of hf
      refine fn_V (v := some (.int r_11)) (As := [.int x1]) (rest := []) (st1 := [.int r_11]) (ws' := (wMo X mo al_12 sv_8 sm_9 asd th_5 ho fr txt tl pos od nu su)) (nL := 3) ⟨hx, hb, hml, hown, hts⟩ (c_X6_ticks l X mo al sv_8 sm_9 asd th_5 ho fr txt tl pos od nu su x1 r_11 al_12 hc_13) (cwV 1 hts gX6_pass_X6_ticks rfl rfl rfl (by decide +kernel) ⟨Nat.le_of_ble_eq_true rfl, Nat.le_of_ble_eq_true rfl⟩) 6 rfl rfl rfl rfl hl.1 rfl (Nat.le_of_ble_eq_true rfl) dX6_pass_44 hK hP (hD0.addr rfl) hS hA [0, 1, 2, 3, 4, 5, 6, 7] rfl rfl rfl rfl ⟨Nat.zero_le _, Nat.zero_le _⟩ (fun H locs hP hD hS => ?_)
      cases hf
      exact fn_iret hx hb hr hlocks hP hS dX6_pass_47
    · replace hf := fp_t c_7 hf
      refine lv_iconst (v := 0) hx hb dX6_pass_36 (by decide) ?_
      cases hf
      exact fn_iret hx hb hr hlocks hP hS dX6_pass_37
  · replace hf := fp_f c_3 hf
    refine lv_aload_n hx hb dX6_pass_16 rfl (lv_at hl 1 rfl) ?_
    refine lv_iload_n hx hb dX6_pass_17 rfl (lv_at hl 2 rfl) ?_
    obtain ⟨r_14, hc_15, hf⟩ := bd_of hf
    refine fn_V (v := some (.int r_14)) (As := [.int x1]) (rest := [.int r_1, .ref (mo 0)]) (st1 := [.int r_14, .int r_1, .ref (mo 0)]) (ws' := (wMo X mo al sv sm asd th ho fr txt tl pos od nu su)) (nL := 3) ⟨hx, hb, hml, hown, hts⟩ (c_X6_mayPass l X mo al sv sm asd th ho fr txt tl pos od nu su x1 r_14 hc_15) (cwV 1 hts gX6_pass_X6_mayPass rfl rfl rfl (by decide +kernel) ⟨Nat.le_of_ble_eq_true rfl, Nat.le_of_ble_eq_true rfl⟩) 6 rfl rfl rfl rfl hl.1 rfl (Nat.le_of_ble_eq_true rfl) dX6_pass_18 hK hP (hD0.addr rfl) hS hA [0, 1, 2, 3, 4, 5, 6, 7] rfl rfl rfl rfl ⟨Nat.zero_le _, Nat.zero_le _⟩ (fun H locs hP hD hS => ?_)
    refine lv_if_eq (tgt := 28) hx hb dX6_pass_21 (by decide) (fun c_16 => ?_) (fun c_16 => ?_)
    · replace hf := fp_t c_16 hf
      refine lv_iconst (v := 0) hx hb dX6_pass_28 (by decide) ?_
      refine lv_iconst (v := 1) hx hb dX6_pass_29 (by decide) ?_
      obtain ⟨r_17, th_18, hc_19, hf⟩ := bd2_of hf
      refine fn_V (v := some (.int r_17)) (As := [.int r_1, .int (0 : Int32), .int (1 : Int32)]) (rest := []) (st1 := [.int r_17]) (ws' := (wMo X mo al sv sm asd th_18 ho fr txt tl pos od nu su)) (nL := 3) ⟨hx, hb, hml, hown, hts⟩ (c_X6_goes l X mo al sv sm asd th ho fr txt tl pos od nu su r_1 (0 : Int32) (1 : Int32) r_17 th_18 hc_19) (cwV 3 hts gX6_pass_X6_goes rfl rfl rfl (by decide +kernel) ⟨Nat.le_of_ble_eq_true rfl, Nat.le_of_ble_eq_true rfl⟩) 6 rfl rfl rfl rfl hl.1 rfl (Nat.le_of_ble_eq_true rfl) dX6_pass_30 hK hP (hD0.addr rfl) hS hA [0, 1, 2, 3, 4, 5, 6, 7] rfl rfl rfl rfl ⟨Nat.zero_le _, Nat.zero_le _⟩ (fun H locs hP hD hS => ?_)
      refine lv_if_ne (tgt := 38) hx hb dX6_pass_33 (by decide) (fun c_20 => ?_) (fun c_20 => ?_)
      · replace hf := fp_f c_20 hf
        refine lv_aload_n hx hb dX6_pass_38 rfl (lv_at hl 1 rfl) ?_
        obtain ⟨sv_21, sm_22, hc_23, hf⟩ := bd2_of hf
        refine fn_V (v := none) (As := []) (rest := []) (st1 := []) (ws' := (wMo X mo al sv_21 sm_22 asd th_18 ho fr txt tl pos od nu su)) (nL := 3) ⟨hx, hb, hml, hown, hts⟩ (c_X6_save l X mo al sv sm asd th_18 ho fr txt tl pos od nu su sv_21 sm_22 hc_23) (cwV 0 hts gX6_pass_X6_save rfl rfl rfl (by decide +kernel) ⟨Nat.le_of_ble_eq_true rfl, Nat.le_of_ble_eq_true rfl⟩) 6 rfl rfl rfl rfl hl.1 rfl (Nat.le_of_ble_eq_true rfl) dX6_pass_39 hK hP (hD0.addr rfl) hS hA [0, 1, 2, 3, 4, 5, 6, 7] rfl rfl rfl rfl ⟨Nat.zero_le _, Nat.zero_le _⟩ (fun H locs hP hD hS => ?_)
        refine lv_aload_n hx hb dX6_pass_42 rfl (lv_at hl 1 rfl) ?_
        refine lv_iload_n hx hb dX6_pass_43 rfl (lv_at hl 2 rfl) ?_
        obtain ⟨r_24, al_25, hc_26, hf⟩ := bd2_of hf
        refine fn_V (v := some (.int r_24)) (As := [.int x1]) (rest := []) (st1 := [.int r_24]) (ws' := (wMo X mo al_25 sv_21 sm_22 asd th_18 ho fr txt tl pos od nu su)) (nL := 3) ⟨hx, hb, hml, hown, hts⟩ (c_X6_ticks l X mo al sv_21 sm_22 asd th_18 ho fr txt tl pos od nu su x1 r_24 al_25 hc_26) (cwV 1 hts gX6_pass_X6_ticks rfl rfl rfl (by decide +kernel) ⟨Nat.le_of_ble_eq_true rfl, Nat.le_of_ble_eq_true rfl⟩) 6 rfl rfl rfl rfl hl.1 rfl (Nat.le_of_ble_eq_true rfl) dX6_pass_44 hK hP (hD0.addr rfl) hS hA [0, 1, 2, 3, 4, 5, 6, 7] rfl rfl rfl rfl ⟨Nat.zero_le _, Nat.zero_le _⟩ (fun H locs hP hD hS => ?_)
        cases hf
        exact fn_iret hx hb hr hlocks hP hS dX6_pass_47
      · replace hf := fp_t c_20 hf
        refine lv_iconst (v := 0) hx hb dX6_pass_36 (by decide) ?_
        cases hf
        exact fn_iret hx hb hr hlocks hP hS dX6_pass_37
    · replace hf := fp_f c_16 hf
      refine lv_iconst (v := 1) hx hb dX6_pass_24 (by decide) ?_
      refine lv_goto (tgt := 29) hx hb dX6_pass_25 (by decide) ?_
      refine lv_iconst (v := 1) hx hb dX6_pass_29 (by decide) ?_
      obtain ⟨r_27, th_28, hc_29, hf⟩ := bd2_of hf
      refine fn_V (v := some (.int r_27)) (As := [.int r_1, .int (1 : Int32), .int (1 : Int32)]) (rest := []) (st1 := [.int r_27]) (ws' := (wMo X mo al sv sm asd th_28 ho fr txt tl pos od nu su)) (nL := 3) ⟨hx, hb, hml, hown, hts⟩ (c_X6_goes l X mo al sv sm asd th ho fr txt tl pos od nu su r_1 (1 : Int32) (1 : Int32) r_27 th_28 hc_29) (cwV 3 hts gX6_pass_X6_goes rfl rfl rfl (by decide +kernel) ⟨Nat.le_of_ble_eq_true rfl, Nat.le_of_ble_eq_true rfl⟩) 6 rfl rfl rfl rfl hl.1 rfl (Nat.le_of_ble_eq_true rfl) dX6_pass_30 hK hP (hD0.addr rfl) hS hA [0, 1, 2, 3, 4, 5, 6, 7] rfl rfl rfl rfl ⟨Nat.zero_le _, Nat.zero_le _⟩ (fun H locs hP hD hS => ?_)
      refine lv_if_ne (tgt := 38) hx hb dX6_pass_33 (by decide) (fun c_30 => ?_) (fun c_30 => ?_)
      · replace hf := fp_f c_30 hf
        refine lv_aload_n hx hb dX6_pass_38 rfl (lv_at hl 1 rfl) ?_
        obtain ⟨sv_31, sm_32, hc_33, hf⟩ := bd2_of hf
        refine fn_V (v := none) (As := []) (rest := []) (st1 := []) (ws' := (wMo X mo al sv_31 sm_32 asd th_28 ho fr txt tl pos od nu su)) (nL := 3) ⟨hx, hb, hml, hown, hts⟩ (c_X6_save l X mo al sv sm asd th_28 ho fr txt tl pos od nu su sv_31 sm_32 hc_33) (cwV 0 hts gX6_pass_X6_save rfl rfl rfl (by decide +kernel) ⟨Nat.le_of_ble_eq_true rfl, Nat.le_of_ble_eq_true rfl⟩) 6 rfl rfl rfl rfl hl.1 rfl (Nat.le_of_ble_eq_true rfl) dX6_pass_39 hK hP (hD0.addr rfl) hS hA [0, 1, 2, 3, 4, 5, 6, 7] rfl rfl rfl rfl ⟨Nat.zero_le _, Nat.zero_le _⟩ (fun H locs hP hD hS => ?_)
        refine lv_aload_n hx hb dX6_pass_42 rfl (lv_at hl 1 rfl) ?_
        refine lv_iload_n hx hb dX6_pass_43 rfl (lv_at hl 2 rfl) ?_
        obtain ⟨r_34, al_35, hc_36, hf⟩ := bd2_of hf
        refine fn_V (v := some (.int r_34)) (As := [.int x1]) (rest := []) (st1 := [.int r_34]) (ws' := (wMo X mo al_35 sv_31 sm_32 asd th_28 ho fr txt tl pos od nu su)) (nL := 3) ⟨hx, hb, hml, hown, hts⟩ (c_X6_ticks l X mo al sv_31 sm_32 asd th_28 ho fr txt tl pos od nu su x1 r_34 al_35 hc_36) (cwV 1 hts gX6_pass_X6_ticks rfl rfl rfl (by decide +kernel) ⟨Nat.le_of_ble_eq_true rfl, Nat.le_of_ble_eq_true rfl⟩) 6 rfl rfl rfl rfl hl.1 rfl (Nat.le_of_ble_eq_true rfl) dX6_pass_44 hK hP (hD0.addr rfl) hS hA [0, 1, 2, 3, 4, 5, 6, 7] rfl rfl rfl rfl ⟨Nat.zero_le _, Nat.zero_le _⟩ (fun H locs hP hD hS => ?_)
        cases hf
        exact fn_iret hx hb hr hlocks hP hS dX6_pass_47
      · replace hf := fp_t c_30 hf
        refine lv_iconst (v := 0) hx hb dX6_pass_36 (by decide) ?_
        cases hf
        exact fn_iret hx hb hr hlocks hP hS dX6_pass_37

def f_X6_held (x1 : Int32) (x2 : Int32) (al : (Nat → Int32)) (th : Int32) (ho : (Nat → Int32)) : Option (Int32 × Int32 × (Nat → Int32)) :=
  bd (f_X6_isPerson x1) (fun r_1 =>
  if r_1 = (0 : Int32) then
  (bd2 (f_X6_goes (0 : Int32) (1 : Int32) (1 : Int32) th) (fun r_4 th_5 =>
  if r_4 = (0 : Int32) then
  (some ((0 : Int32), th_5, ho))
  else
  (bd (f_X6_lay al ho) (fun ho_8 =>
  bd (f_X6_holds x1 x2 ho_8) (fun r_10 =>
  some (r_10, th_5, ho_8))))))
  else
  (bd (f_X6_isThing x2 al) (fun r_12 =>
  if r_12 = (0 : Int32) then
  (bd2 (f_X6_goes (0 : Int32) (1 : Int32) (1 : Int32) th) (fun r_15 th_16 =>
  if r_15 = (0 : Int32) then
  (some ((0 : Int32), th_16, ho))
  else
  (bd (f_X6_lay al ho) (fun ho_19 =>
  bd (f_X6_holds x1 x2 ho_19) (fun r_21 =>
  some (r_21, th_16, ho_19))))))
  else
  (bd2 (f_X6_goes (1 : Int32) (1 : Int32) (1 : Int32) th) (fun r_23 th_24 =>
  if r_23 = (0 : Int32) then
  (some ((0 : Int32), th_24, ho))
  else
  (bd (f_X6_lay al ho) (fun ho_27 =>
  bd (f_X6_holds x1 x2 ho_27) (fun r_29 =>
  some (r_29, th_24, ho_27)))))))))
set_option maxHeartbeats 4000000 in
set_option maxRecDepth 100000 in
theorem c_X6_held (l : Launch) (X : cx_G) (mo : (Nat → Nat)) (al : (Nat → Int32)) (sv : (Nat → Int32)) (sm : Int32) (asd : (Nat → Int32)) (th : Int32) (ho : (Nat → Int32)) (fr : (Nat → Int32)) (txt : (Nat → Int32)) (tl : Int32) (pos : Int32) (od : Int32) (nu : (Nat → Int32)) (su : Int64) (x1 : Int32) (x2 : Int32) (r : Int32) (th' : Int32) (ho' : (Nat → Int32)) (hf : f_X6_held x1 x2 al th ho = some (r, th', ho')) : Fn l yX6_held wsX6_held ({ frames := 3, cells := 0, slots := 0, locals := 68 } : Room) X [.ref (mo 0), .int x1, .int x2] (wMo X mo al sv sm asd th ho fr txt tl pos od nu su) (some (.int r)) (wMo X mo al sv sm asd th' ho' fr txt tl pos od nu su) := by
  refine fn_intro (cc := cX6_held) (maxL := 3) (ret := (some .int)) (by decide) rfl rfl (Nat.le_of_ble_eq_true rfl) ?_
  intro p e s m args below meth c A ls hx hb hml hr hts hown hlocks hK hP hD0 hS hA hl
  have hown : s.vm.findClass RX6 = some m.cls := hown
  have hl : lv_has ls 3 [(0, .ref (mo 0)), (1, .int x1), (2, .int x2)] := hl
  unfold f_X6_held at hf
  refine lv_aload_n hx hb dX6_held_0 rfl (lv_at hl 0 rfl) ?_
  refine lv_iload_n hx hb dX6_held_1 rfl (lv_at hl 1 rfl) ?_
  obtain ⟨r_1, hc_2, hf⟩ := bd_of hf
  refine fn_Sx (v := some (.int r_1)) (As := [.int x1]) (rest := [.ref (mo 0)]) (st1 := [.int r_1, .ref (mo 0)]) (ws' := (wMo X mo al sv sm asd th ho fr txt tl pos od nu su)) (nL := 3) ⟨hx, hb, hml, hown, hts⟩ (c_X6_isPerson l X x1 r_1 hc_2) (va_cwS 1 hts gX6_held_X6_isPerson rfl rfl rfl (by decide +kernel) ⟨Nat.le_of_ble_eq_true rfl, Nat.le_of_ble_eq_true rfl⟩) rfl hl.1 rfl (Nat.le_of_ble_eq_true rfl) dX6_held_2 hK hP (hD0.addr rfl) hS hA [] rfl rfl rfl rfl ⟨Nat.zero_le _, Nat.zero_le _⟩ (fun H locs hP hD hS => ?_)
  refine lv_if_eq (tgt := 20) hx hb dX6_held_5 (by decide) (fun c_3 => ?_) (fun c_3 => ?_)
  · replace hf := fp_t c_3 hf
    refine lv_iconst (v := 0) hx hb dX6_held_20 (by decide) ?_
    refine lv_iconst (v := 1) hx hb dX6_held_21 (by decide) ?_
    refine lv_iconst (v := 1) hx hb dX6_held_22 (by decide) ?_
    obtain ⟨r_4, th_5, hc_6, hf⟩ := bd2_of hf
    refine fn_V (v := some (.int r_4)) (As := [.int (0 : Int32), .int (1 : Int32), .int (1 : Int32)]) (rest := []) (st1 := [.int r_4]) (ws' := (wMo X mo al sv sm asd th_5 ho fr txt tl pos od nu su)) (nL := 3) ⟨hx, hb, hml, hown, hts⟩ (c_X6_goes l X mo al sv sm asd th ho fr txt tl pos od nu su (0 : Int32) (1 : Int32) (1 : Int32) r_4 th_5 hc_6) (cwV 3 hts gX6_held_X6_goes rfl rfl rfl (by decide +kernel) ⟨Nat.le_of_ble_eq_true rfl, Nat.le_of_ble_eq_true rfl⟩) 6 rfl rfl rfl rfl hl.1 rfl (Nat.le_of_ble_eq_true rfl) dX6_held_23 hK hP (hD0.addr rfl) hS hA [0, 1, 2, 3, 4, 5, 6, 7] rfl rfl rfl rfl ⟨Nat.zero_le _, Nat.zero_le _⟩ (fun H locs hP hD hS => ?_)
    refine lv_if_ne (tgt := 31) hx hb dX6_held_26 (by decide) (fun c_7 => ?_) (fun c_7 => ?_)
    · replace hf := fp_f c_7 hf
      refine lv_aload_n hx hb dX6_held_31 rfl (lv_at hl 0 rfl) ?_
      obtain ⟨ho_8, hc_9, hf⟩ := bd_of hf
      refine fn_V (v := none) (As := []) (rest := []) (st1 := []) (ws' := (wMo X mo al sv sm asd th_5 ho_8 fr txt tl pos od nu su)) (nL := 3) ⟨hx, hb, hml, hown, hts⟩ (c_X6_lay l X mo al sv sm asd th_5 ho fr txt tl pos od nu su ho_8 hc_9) (cwV 0 hts gX6_held_X6_lay rfl rfl rfl (by decide +kernel) ⟨Nat.le_of_ble_eq_true rfl, Nat.le_of_ble_eq_true rfl⟩) 6 rfl rfl rfl rfl hl.1 rfl (Nat.le_of_ble_eq_true rfl) dX6_held_32 hK hP (hD0.addr rfl) hS hA [0, 1, 2, 3, 4, 5, 6, 7] rfl rfl rfl rfl ⟨Nat.zero_le _, Nat.zero_le _⟩ (fun H locs hP hD hS => ?_)
      refine lv_aload_n hx hb dX6_held_35 rfl (lv_at hl 0 rfl) ?_
      refine lv_iload_n hx hb dX6_held_36 rfl (lv_at hl 1 rfl) ?_
      refine lv_iload_n hx hb dX6_held_37 rfl (lv_at hl 2 rfl) ?_
      obtain ⟨r_10, hc_11, hf⟩ := bd_of hf
      refine fn_V (v := some (.int r_10)) (As := [.int x1, .int x2]) (rest := []) (st1 := [.int r_10]) (ws' := (wMo X mo al sv sm asd th_5 ho_8 fr txt tl pos od nu su)) (nL := 3) ⟨hx, hb, hml, hown, hts⟩ (c_X6_holds l X mo al sv sm asd th_5 ho_8 fr txt tl pos od nu su x1 x2 r_10 hc_11) (cwV 2 hts gX6_held_X6_holds rfl rfl rfl (by decide +kernel) ⟨Nat.le_of_ble_eq_true rfl, Nat.le_of_ble_eq_true rfl⟩) 6 rfl rfl rfl rfl hl.1 rfl (Nat.le_of_ble_eq_true rfl) dX6_held_38 hK hP (hD0.addr rfl) hS hA [0, 1, 2, 3, 4, 5, 6, 7] rfl rfl rfl rfl ⟨Nat.zero_le _, Nat.zero_le _⟩ (fun H locs hP hD hS => ?_)
      cases hf
      exact fn_iret hx hb hr hlocks hP hS dX6_held_41
    · replace hf := fp_t c_7 hf
      refine lv_iconst (v := 0) hx hb dX6_held_29 (by decide) ?_
      cases hf
      exact fn_iret hx hb hr hlocks hP hS dX6_held_30
  · replace hf := fp_f c_3 hf
    refine lv_aload_n hx hb dX6_held_8 rfl (lv_at hl 0 rfl) ?_
    refine lv_iload_n hx hb dX6_held_9 rfl (lv_at hl 2 rfl) ?_
    obtain ⟨r_12, hc_13, hf⟩ := bd_of hf
    refine fn_V (v := some (.int r_12)) (As := [.int x2]) (rest := [.ref (mo 0)]) (st1 := [.int r_12, .ref (mo 0)]) (ws' := (wMo X mo al sv sm asd th ho fr txt tl pos od nu su)) (nL := 3) ⟨hx, hb, hml, hown, hts⟩ (c_X6_isThing l X mo al sv sm asd th ho fr txt tl pos od nu su x2 r_12 hc_13) (cwV 1 hts gX6_held_X6_isThing rfl rfl rfl (by decide +kernel) ⟨Nat.le_of_ble_eq_true rfl, Nat.le_of_ble_eq_true rfl⟩) 6 rfl rfl rfl rfl hl.1 rfl (Nat.le_of_ble_eq_true rfl) dX6_held_10 hK hP (hD0.addr rfl) hS hA [0, 1, 2, 3, 4, 5, 6, 7] rfl rfl rfl rfl ⟨Nat.zero_le _, Nat.zero_le _⟩ (fun H locs hP hD hS => ?_)
    refine lv_if_eq (tgt := 20) hx hb dX6_held_13 (by decide) (fun c_14 => ?_) (fun c_14 => ?_)
    · replace hf := fp_t c_14 hf
      refine lv_iconst (v := 0) hx hb dX6_held_20 (by decide) ?_
      refine lv_iconst (v := 1) hx hb dX6_held_21 (by decide) ?_
      refine lv_iconst (v := 1) hx hb dX6_held_22 (by decide) ?_
      obtain ⟨r_15, th_16, hc_17, hf⟩ := bd2_of hf
      refine fn_V (v := some (.int r_15)) (As := [.int (0 : Int32), .int (1 : Int32), .int (1 : Int32)]) (rest := []) (st1 := [.int r_15]) (ws' := (wMo X mo al sv sm asd th_16 ho fr txt tl pos od nu su)) (nL := 3) ⟨hx, hb, hml, hown, hts⟩ (c_X6_goes l X mo al sv sm asd th ho fr txt tl pos od nu su (0 : Int32) (1 : Int32) (1 : Int32) r_15 th_16 hc_17) (cwV 3 hts gX6_held_X6_goes rfl rfl rfl (by decide +kernel) ⟨Nat.le_of_ble_eq_true rfl, Nat.le_of_ble_eq_true rfl⟩) 6 rfl rfl rfl rfl hl.1 rfl (Nat.le_of_ble_eq_true rfl) dX6_held_23 hK hP (hD0.addr rfl) hS hA [0, 1, 2, 3, 4, 5, 6, 7] rfl rfl rfl rfl ⟨Nat.zero_le _, Nat.zero_le _⟩ (fun H locs hP hD hS => ?_)
      refine lv_if_ne (tgt := 31) hx hb dX6_held_26 (by decide) (fun c_18 => ?_) (fun c_18 => ?_)
      · replace hf := fp_f c_18 hf
        refine lv_aload_n hx hb dX6_held_31 rfl (lv_at hl 0 rfl) ?_
        obtain ⟨ho_19, hc_20, hf⟩ := bd_of hf
        refine fn_V (v := none) (As := []) (rest := []) (st1 := []) (ws' := (wMo X mo al sv sm asd th_16 ho_19 fr txt tl pos od nu su)) (nL := 3) ⟨hx, hb, hml, hown, hts⟩ (c_X6_lay l X mo al sv sm asd th_16 ho fr txt tl pos od nu su ho_19 hc_20) (cwV 0 hts gX6_held_X6_lay rfl rfl rfl (by decide +kernel) ⟨Nat.le_of_ble_eq_true rfl, Nat.le_of_ble_eq_true rfl⟩) 6 rfl rfl rfl rfl hl.1 rfl (Nat.le_of_ble_eq_true rfl) dX6_held_32 hK hP (hD0.addr rfl) hS hA [0, 1, 2, 3, 4, 5, 6, 7] rfl rfl rfl rfl ⟨Nat.zero_le _, Nat.zero_le _⟩ (fun H locs hP hD hS => ?_)
        refine lv_aload_n hx hb dX6_held_35 rfl (lv_at hl 0 rfl) ?_
        refine lv_iload_n hx hb dX6_held_36 rfl (lv_at hl 1 rfl) ?_
        refine lv_iload_n hx hb dX6_held_37 rfl (lv_at hl 2 rfl) ?_
        obtain ⟨r_21, hc_22, hf⟩ := bd_of hf
        refine fn_V (v := some (.int r_21)) (As := [.int x1, .int x2]) (rest := []) (st1 := [.int r_21]) (ws' := (wMo X mo al sv sm asd th_16 ho_19 fr txt tl pos od nu su)) (nL := 3) ⟨hx, hb, hml, hown, hts⟩ (c_X6_holds l X mo al sv sm asd th_16 ho_19 fr txt tl pos od nu su x1 x2 r_21 hc_22) (cwV 2 hts gX6_held_X6_holds rfl rfl rfl (by decide +kernel) ⟨Nat.le_of_ble_eq_true rfl, Nat.le_of_ble_eq_true rfl⟩) 6 rfl rfl rfl rfl hl.1 rfl (Nat.le_of_ble_eq_true rfl) dX6_held_38 hK hP (hD0.addr rfl) hS hA [0, 1, 2, 3, 4, 5, 6, 7] rfl rfl rfl rfl ⟨Nat.zero_le _, Nat.zero_le _⟩ (fun H locs hP hD hS => ?_)
        cases hf
        exact fn_iret hx hb hr hlocks hP hS dX6_held_41
      · replace hf := fp_t c_18 hf
        refine lv_iconst (v := 0) hx hb dX6_held_29 (by decide) ?_
        cases hf
        exact fn_iret hx hb hr hlocks hP hS dX6_held_30
    · replace hf := fp_f c_14 hf
      refine lv_iconst (v := 1) hx hb dX6_held_16 (by decide) ?_
      refine lv_goto (tgt := 21) hx hb dX6_held_17 (by decide) ?_
      refine lv_iconst (v := 1) hx hb dX6_held_21 (by decide) ?_
      refine lv_iconst (v := 1) hx hb dX6_held_22 (by decide) ?_
      obtain ⟨r_23, th_24, hc_25, hf⟩ := bd2_of hf
      refine fn_V (v := some (.int r_23)) (As := [.int (1 : Int32), .int (1 : Int32), .int (1 : Int32)]) (rest := []) (st1 := [.int r_23]) (ws' := (wMo X mo al sv sm asd th_24 ho fr txt tl pos od nu su)) (nL := 3) ⟨hx, hb, hml, hown, hts⟩ (c_X6_goes l X mo al sv sm asd th ho fr txt tl pos od nu su (1 : Int32) (1 : Int32) (1 : Int32) r_23 th_24 hc_25) (cwV 3 hts gX6_held_X6_goes rfl rfl rfl (by decide +kernel) ⟨Nat.le_of_ble_eq_true rfl, Nat.le_of_ble_eq_true rfl⟩) 6 rfl rfl rfl rfl hl.1 rfl (Nat.le_of_ble_eq_true rfl) dX6_held_23 hK hP (hD0.addr rfl) hS hA [0, 1, 2, 3, 4, 5, 6, 7] rfl rfl rfl rfl ⟨Nat.zero_le _, Nat.zero_le _⟩ (fun H locs hP hD hS => ?_)
      refine lv_if_ne (tgt := 31) hx hb dX6_held_26 (by decide) (fun c_26 => ?_) (fun c_26 => ?_)
      · replace hf := fp_f c_26 hf
        refine lv_aload_n hx hb dX6_held_31 rfl (lv_at hl 0 rfl) ?_
        obtain ⟨ho_27, hc_28, hf⟩ := bd_of hf
        refine fn_V (v := none) (As := []) (rest := []) (st1 := []) (ws' := (wMo X mo al sv sm asd th_24 ho_27 fr txt tl pos od nu su)) (nL := 3) ⟨hx, hb, hml, hown, hts⟩ (c_X6_lay l X mo al sv sm asd th_24 ho fr txt tl pos od nu su ho_27 hc_28) (cwV 0 hts gX6_held_X6_lay rfl rfl rfl (by decide +kernel) ⟨Nat.le_of_ble_eq_true rfl, Nat.le_of_ble_eq_true rfl⟩) 6 rfl rfl rfl rfl hl.1 rfl (Nat.le_of_ble_eq_true rfl) dX6_held_32 hK hP (hD0.addr rfl) hS hA [0, 1, 2, 3, 4, 5, 6, 7] rfl rfl rfl rfl ⟨Nat.zero_le _, Nat.zero_le _⟩ (fun H locs hP hD hS => ?_)
        refine lv_aload_n hx hb dX6_held_35 rfl (lv_at hl 0 rfl) ?_
        refine lv_iload_n hx hb dX6_held_36 rfl (lv_at hl 1 rfl) ?_
        refine lv_iload_n hx hb dX6_held_37 rfl (lv_at hl 2 rfl) ?_
        obtain ⟨r_29, hc_30, hf⟩ := bd_of hf
        refine fn_V (v := some (.int r_29)) (As := [.int x1, .int x2]) (rest := []) (st1 := [.int r_29]) (ws' := (wMo X mo al sv sm asd th_24 ho_27 fr txt tl pos od nu su)) (nL := 3) ⟨hx, hb, hml, hown, hts⟩ (c_X6_holds l X mo al sv sm asd th_24 ho_27 fr txt tl pos od nu su x1 x2 r_29 hc_30) (cwV 2 hts gX6_held_X6_holds rfl rfl rfl (by decide +kernel) ⟨Nat.le_of_ble_eq_true rfl, Nat.le_of_ble_eq_true rfl⟩) 6 rfl rfl rfl rfl hl.1 rfl (Nat.le_of_ble_eq_true rfl) dX6_held_38 hK hP (hD0.addr rfl) hS hA [0, 1, 2, 3, 4, 5, 6, 7] rfl rfl rfl rfl ⟨Nat.zero_le _, Nat.zero_le _⟩ (fun H locs hP hD hS => ?_)
        cases hf
        exact fn_iret hx hb hr hlocks hP hS dX6_held_41
      · replace hf := fp_t c_26 hf
        refine lv_iconst (v := 0) hx hb dX6_held_29 (by decide) ?_
        cases hf
        exact fn_iret hx hb hr hlocks hP hS dX6_held_30

def f_X6_grantsBy_L5 (x1 : Int32) (x2 : Int32) (al : (Nat → Int32)) : Nat → Int32 → Int32 →  Option (Int32)
  | 0, _, _ => none
  | k_ + 1, x3, x4 =>
    ix (5 : Int32) 320 (
    if al (5 : Int32).toNatClampNeg ≤ x4 then
    (some x3)
    else
    (bd (f_X6_of x4 x2 al) (fun r_3 =>
    if r_3 = x1 then
    (nm (x3 + (1 : Int32)) (fun v_8 =>
    nm (x4 + (1 : Int32)) (fun v_9 =>
    f_X6_grantsBy_L5 x1 x2 al k_ v_8 v_9)))
    else
    (nm (x3 + (0 : Int32)) (fun v_6 =>
    nm (x4 + (1 : Int32)) (fun v_7 =>
    f_X6_grantsBy_L5 x1 x2 al k_ v_6 v_7))))))
def f_X6_grantsBy (x1 : Int32) (x2 : Int32) (al : (Nat → Int32)) : Option (Int32) :=
  bd (f_X6_grantsBy_L5 x1 x2 al FU (0 : Int32) (0 : Int32)) (fun y3_10 =>
  some y3_10)
set_option maxHeartbeats 4000000 in
set_option maxRecDepth 100000 in
theorem c_X6_grantsBy (l : Launch) (X : cx_G) (mo : (Nat → Nat)) (al : (Nat → Int32)) (sv : (Nat → Int32)) (sm : Int32) (asd : (Nat → Int32)) (th : Int32) (ho : (Nat → Int32)) (fr : (Nat → Int32)) (txt : (Nat → Int32)) (tl : Int32) (pos : Int32) (od : Int32) (nu : (Nat → Int32)) (su : Int64) (x1 : Int32) (x2 : Int32) (r : Int32) (hf : f_X6_grantsBy x1 x2 al = some r) : Fn l yX6_grantsBy wsX6_grantsBy ({ frames := 1, cells := 0, slots := 0, locals := 22 } : Room) X [.ref (mo 0), .int x1, .int x2] (wMo X mo al sv sm asd th ho fr txt tl pos od nu su) (some (.int r)) (wMo X mo al sv sm asd th ho fr txt tl pos od nu su) := by
  refine fn_intro (cc := cX6_grantsBy) (maxL := 5) (ret := (some .int)) (by decide) rfl rfl (Nat.le_of_ble_eq_true rfl) ?_
  intro p e s m args below meth c A ls hx hb hml hr hts hown hlocks hK hP hD0 hS hA hl
  have hown : s.vm.findClass RX6 = some m.cls := hown
  have hl : lv_has ls 5 [(0, .ref (mo 0)), (1, .int x1), (2, .int x2)] := hl
  have hiX6 : ∀ w ∈ u_ws RX6 TX6 13, w ∈ wsX6_grantsBy := by decide +kernel
  have k7 := hts (.fieldLink RX6 7 "LentRightsModel" "all" "[I") (by decide +kernel)
  have loop_5 : ∀ (Q : State → Prop) (y3 : Int32), (∀ (H : Heap) (locs : List Loc) (ls : Array Slot), va_P X.1 vwCl (wMo X mo al sv sm asd th ho fr txt tl pos od nu su) H → va_S A s.heap H locs → lv_has ls 5 [(3, .int y3)] → W p l e ({ frames := 1, cells := 0, slots := 0, locals := 22 } : Room) s m args below meth c H locs 0 0 Q (F0 m 41 ls [])) → ∀ (k_ : Nat) (x3 : Int32) (x4 : Int32) (H : Heap) (locs : List Loc) (ls : Array Slot), f_X6_grantsBy_L5 x1 x2 al k_ x3 x4 = some y3 → va_P X.1 vwCl (wMo X mo al sv sm asd th ho fr txt tl pos od nu su) H → va_S A s.heap H locs → lv_has ls 5 [(0, .ref (mo 0)), (1, .int x1), (2, .int x2), (3, .int x3), (4, .int x4)] → W p l e ({ frames := 1, cells := 0, slots := 0, locals := 22 } : Room) s m args below meth c H locs 0 0 Q (F0 m 5 ls []) := by
    intro Q y3 kx k_
    induction k_ with
    | zero => intro x3 x4 H locs ls hf; exact nomatch (show (none : Option (Int32)) = some _ from hf)
    | succ k_ ih =>
      intro x3 x4 H locs ls hf hP hS hl
      unfold f_X6_grantsBy_L5 at hf
      refine lv_iload hx hb dX6_grantsBy_5 (lv_at hl 4 rfl) ?_
      refine lv_aload_n hx hb dX6_grantsBy_7 rfl (lv_at hl 0 rfl) ?_
      refine va_get (D := X.1) (ci := 6) (v := .ref (mo 1)) (C := RX6) (T := TX6) (N := 13) hx hb hts hiX6 hown hK.1 hP 0 rfl rfl 0 (by decide) k7 (fun _ h9 => h9) rfl dX6_grantsBy_8 ?_
      refine lv_iconst (v := 5) hx hb dX6_grantsBy_11 (by decide) ?_
      obtain ⟨hi_1, hf⟩ := ix_of hf
      refine va_iald hx hb hK.1 hP 1 0 rfl rfl hi_1 dX6_grantsBy_12 ?_
      refine lv_icmp_ge (tgt := 41) hx hb dX6_grantsBy_13 (by decide) (fun c_2 => ?_) (fun c_2 => ?_)
      · replace hf := fp_t c_2 hf
        cases hf
        exact kx _ _ _ hP hS (lv_sub hl [3] rfl)
      · replace hf := fp_f c_2 hf
        refine lv_iload_n hx hb dX6_grantsBy_16 rfl (lv_at hl 3 rfl) ?_
        refine lv_aload_n hx hb dX6_grantsBy_17 rfl (lv_at hl 0 rfl) ?_
        refine lv_iload hx hb dX6_grantsBy_18 (lv_at hl 4 rfl) ?_
        refine lv_iload_n hx hb dX6_grantsBy_20 rfl (lv_at hl 2 rfl) ?_
        obtain ⟨r_3, hc_4, hf⟩ := bd_of hf
        refine fn_V (v := some (.int r_3)) (As := [.int x4, .int x2]) (rest := [.int x3]) (st1 := [.int r_3, .int x3]) (ws' := (wMo X mo al sv sm asd th ho fr txt tl pos od nu su)) (nL := 5) ⟨hx, hb, hml, hown, hts⟩ (c_X6_of l X mo al sv sm asd th ho fr txt tl pos od nu su x4 x2 r_3 hc_4) (cwV 2 hts gX6_grantsBy_X6_of rfl rfl rfl (by decide +kernel) ⟨Nat.le_of_ble_eq_true rfl, Nat.le_of_ble_eq_true rfl⟩) 6 rfl rfl rfl rfl hl.1 rfl (Nat.le_of_ble_eq_true rfl) dX6_grantsBy_21 hK hP (hD0.addr rfl) hS hA [0, 1, 2, 3, 4, 5, 6, 7] rfl rfl rfl rfl ⟨Nat.zero_le _, Nat.zero_le _⟩ (fun H locs hP hD hS => ?_)
        refine lv_iload_n hx hb dX6_grantsBy_24 rfl (lv_at hl 1 rfl) ?_
        refine lv_icmp_ne (tgt := 32) hx hb dX6_grantsBy_25 (by decide) (fun c_5 => ?_) (fun c_5 => ?_)
        · replace hf := fp_f c_5 hf
          refine lv_iconst (v := 0) hx hb dX6_grantsBy_32 (by decide) ?_
          refine lv_iadd hx hb dX6_grantsBy_33 ?_
          refine lv_topi (fun v_6 ev_6 => ?_)
          replace hf := nm_of ev_6 hf
          refine lv_istore_n (lv' := [(3, .int v_6), (0, .ref (mo 0)), (1, .int x1), (2, .int x2), (4, .int x4)]) hx hb dX6_grantsBy_34 rfl hl (by decide) rfl (fun ls hl => ?_)
          obtain ⟨v_7, ev_7⟩ : ∃ y : Int32, y = x4 + (1 : Int32) := ⟨_, rfl⟩
          replace hf := nm_of ev_7 hf
          refine lv_iinc (v := v_7) (lv' := [(4, .int v_7), (3, .int v_6), (0, .ref (mo 0)), (1, .int x1), (2, .int x2)]) hx hb dX6_grantsBy_35 hl (k := 4) rfl (by rw [ev_7]; rfl) (by decide) rfl (fun ls hl => ?_)
          refine lv_goto (tgt := 5) hx hb dX6_grantsBy_38 (by decide) ?_
          exact ih v_6 v_7 _ _ _ hf hP hS (lv_sub hl [2, 3, 4, 1, 0] rfl)
        · replace hf := fp_t c_5 hf
          refine lv_iconst (v := 1) hx hb dX6_grantsBy_28 (by decide) ?_
          refine lv_goto (tgt := 33) hx hb dX6_grantsBy_29 (by decide) ?_
          refine lv_iadd hx hb dX6_grantsBy_33 ?_
          refine lv_topi (fun v_8 ev_8 => ?_)
          replace hf := nm_of ev_8 hf
          refine lv_istore_n (lv' := [(3, .int v_8), (0, .ref (mo 0)), (1, .int x1), (2, .int x2), (4, .int x4)]) hx hb dX6_grantsBy_34 rfl hl (by decide) rfl (fun ls hl => ?_)
          obtain ⟨v_9, ev_9⟩ : ∃ y : Int32, y = x4 + (1 : Int32) := ⟨_, rfl⟩
          replace hf := nm_of ev_9 hf
          refine lv_iinc (v := v_9) (lv' := [(4, .int v_9), (3, .int v_8), (0, .ref (mo 0)), (1, .int x1), (2, .int x2)]) hx hb dX6_grantsBy_35 hl (k := 4) rfl (by rw [ev_9]; rfl) (by decide) rfl (fun ls hl => ?_)
          refine lv_goto (tgt := 5) hx hb dX6_grantsBy_38 (by decide) ?_
          exact ih v_8 v_9 _ _ _ hf hP hS (lv_sub hl [2, 3, 4, 1, 0] rfl)
  unfold f_X6_grantsBy at hf
  refine lv_iconst (v := 0) hx hb dX6_grantsBy_0 (by decide) ?_
  refine lv_istore_n (lv' := [(3, .int (0 : Int32)), (0, .ref (mo 0)), (1, .int x1), (2, .int x2)]) hx hb dX6_grantsBy_1 rfl hl (by decide) rfl (fun ls hl => ?_)
  refine lv_iconst (v := 0) hx hb dX6_grantsBy_2 (by decide) ?_
  refine lv_istore (lv' := [(4, .int (0 : Int32)), (3, .int (0 : Int32)), (0, .ref (mo 0)), (1, .int x1), (2, .int x2)]) hx hb dX6_grantsBy_3 hl (by decide) rfl (fun ls hl => ?_)
  obtain ⟨y3_10, hL_11, hf⟩ := bd_of hf
  refine loop_5 _ y3_10 (fun H locs ls hP hS hl => ?_) FU (0 : Int32) (0 : Int32) _ _ _ hL_11 hP hS (lv_sub hl [2, 3, 4, 1, 0] rfl)
  refine lv_iload_n hx hb dX6_grantsBy_41 rfl (lv_at hl 0 rfl) ?_
  cases hf
  exact fn_iret hx hb hr hlocks hP hS dX6_grantsBy_42

def f_X6_personValue_L8 (x1 : Int32) (al : (Nat → Int32)) (ho : (Nat → Int32)) : Nat → Int32 → Int32 → Int32 →  Option (Int32 × Int32)
  | 0, _, _, _ => none
  | k_ + 1, x3, x4, x5 =>
    ix (4 : Int32) 320 (
    if al (4 : Int32).toNatClampNeg ≤ x5 then
    (some (x3, x4))
    else
    (bd (f_X6_owner x5 al) (fun r_3 =>
    if r_3 = x1 then
    (nm (x3 + (1 : Int32)) (fun v_11 =>
    bd (f_X6_holds x1 x5 ho) (fun r_12 =>
    nm (x4 ||| ((r_12 &&& (1 : Int32)) <<< (x5 &&& 31))) (fun v_14 =>
    nm (x5 + (1 : Int32)) (fun v_15 =>
    f_X6_personValue_L8 x1 al ho k_ v_11 v_14 v_15)))))
    else
    (nm (x3 + (0 : Int32)) (fun v_6 =>
    bd (f_X6_holds x1 x5 ho) (fun r_7 =>
    nm (x4 ||| ((r_7 &&& (1 : Int32)) <<< (x5 &&& 31))) (fun v_9 =>
    nm (x5 + (1 : Int32)) (fun v_10 =>
    f_X6_personValue_L8 x1 al ho k_ v_6 v_9 v_10))))))))
def f_X6_personValue (x1 : Int32) (x2 : Int32) (al : (Nat → Int32)) (ho : (Nat → Int32)) : Option (Int32) :=
  bd2 (f_X6_personValue_L8 x1 al ho FU (0 : Int32) (0 : Int32) (0 : Int32)) (fun y3_16 y4_17 =>
  if x2 = (0 : Int32) then
  (ix ((8 : Int32) + x1) 320 (
  nm (al ((8 : Int32) + x1).toNatClampNeg) (fun v_21 =>
  some v_21)))
  else
  (if x2 = (1 : Int32) then
  (ix ((18 : Int32) + x1) 320 (
  nm (al ((18 : Int32) + x1).toNatClampNeg) (fun v_24 =>
  some v_24)))
  else
  (if x2 = (2 : Int32) then
  (some y3_16)
  else
  (if x2 = (3 : Int32) then
  (bd (f_X6_bits y4_17) (fun r_27 =>
  some r_27))
  else
  (if x2 = (4 : Int32) then
  (bd (f_X6_grantsBy x1 (1 : Int32) al) (fun r_30 =>
  some r_30))
  else
  (if x2 = (5 : Int32) then
  (bd (f_X6_grantsBy x1 (2 : Int32) al) (fun r_33 =>
  some r_33))
  else
  (some y4_17)))))))
set_option maxHeartbeats 4000000 in
set_option maxRecDepth 100000 in
theorem c_X6_personValue (l : Launch) (X : cx_G) (mo : (Nat → Nat)) (al : (Nat → Int32)) (sv : (Nat → Int32)) (sm : Int32) (asd : (Nat → Int32)) (th : Int32) (ho : (Nat → Int32)) (fr : (Nat → Int32)) (txt : (Nat → Int32)) (tl : Int32) (pos : Int32) (od : Int32) (nu : (Nat → Int32)) (su : Int64) (x1 : Int32) (x2 : Int32) (r : Int32) (hf : f_X6_personValue x1 x2 al ho = some r) : Fn l yX6_personValue wsX6_personValue ({ frames := 2, cells := 0, slots := 0, locals := 46 } : Room) X [.ref (mo 0), .int x1, .int x2] (wMo X mo al sv sm asd th ho fr txt tl pos od nu su) (some (.int r)) (wMo X mo al sv sm asd th ho fr txt tl pos od nu su) := by
  refine fn_intro (cc := cX6_personValue) (maxL := 6) (ret := (some .int)) (by decide) rfl rfl (Nat.le_of_ble_eq_true rfl) ?_
  intro p e s m args below meth c A ls hx hb hml hr hts hown hlocks hK hP hD0 hS hA hl
  have hown : s.vm.findClass RX6 = some m.cls := hown
  have hl : lv_has ls 6 [(0, .ref (mo 0)), (1, .int x1), (2, .int x2)] := hl
  have hiX6 : ∀ w ∈ u_ws RX6 TX6 13, w ∈ wsX6_personValue := by decide +kernel
  have k7 := hts (.fieldLink RX6 7 "LentRightsModel" "all" "[I") (by decide +kernel)
  have loop_8 : ∀ (Q : State → Prop) (y3 : Int32) (y4 : Int32), (∀ (H : Heap) (locs : List Loc) (ls : Array Slot), va_P X.1 vwCl (wMo X mo al sv sm asd th ho fr txt tl pos od nu su) H → va_S A s.heap H locs → lv_has ls 6 [(0, .ref (mo 0)), (1, .int x1), (2, .int x2), (3, .int y3), (4, .int y4)] → W p l e ({ frames := 2, cells := 0, slots := 0, locals := 46 } : Room) s m args below meth c H locs 0 0 Q (F0 m 60 ls [])) → ∀ (k_ : Nat) (x3 : Int32) (x4 : Int32) (x5 : Int32) (H : Heap) (locs : List Loc) (ls : Array Slot), f_X6_personValue_L8 x1 al ho k_ x3 x4 x5 = some (y3, y4) → va_P X.1 vwCl (wMo X mo al sv sm asd th ho fr txt tl pos od nu su) H → va_S A s.heap H locs → lv_has ls 6 [(0, .ref (mo 0)), (1, .int x1), (2, .int x2), (3, .int x3), (4, .int x4), (5, .int x5)] → W p l e ({ frames := 2, cells := 0, slots := 0, locals := 46 } : Room) s m args below meth c H locs 0 0 Q (F0 m 8 ls []) := by
    intro Q y3 y4 kx k_
    induction k_ with
    | zero => intro x3 x4 x5 H locs ls hf; exact nomatch (show (none : Option (Int32 × Int32)) = some _ from hf)
    | succ k_ ih =>
      intro x3 x4 x5 H locs ls hf hP hS hl
      unfold f_X6_personValue_L8 at hf
      refine lv_iload hx hb dX6_personValue_8 (lv_at hl 5 rfl) ?_
      refine lv_aload_n hx hb dX6_personValue_10 rfl (lv_at hl 0 rfl) ?_
      refine va_get (D := X.1) (ci := 6) (v := .ref (mo 1)) (C := RX6) (T := TX6) (N := 13) hx hb hts hiX6 hown hK.1 hP 0 rfl rfl 0 (by decide) k7 (fun _ h9 => h9) rfl dX6_personValue_11 ?_
      refine lv_iconst (v := 4) hx hb dX6_personValue_14 (by decide) ?_
      obtain ⟨hi_1, hf⟩ := ix_of hf
      refine va_iald hx hb hK.1 hP 1 0 rfl rfl hi_1 dX6_personValue_15 ?_
      refine lv_icmp_ge (tgt := 60) hx hb dX6_personValue_16 (by decide) (fun c_2 => ?_) (fun c_2 => ?_)
      · replace hf := fp_t c_2 hf
        cases hf
        exact kx _ _ _ hP hS (lv_sub hl [0, 1, 2, 3, 4] rfl)
      · replace hf := fp_f c_2 hf
        refine lv_iload_n hx hb dX6_personValue_19 rfl (lv_at hl 3 rfl) ?_
        refine lv_aload_n hx hb dX6_personValue_20 rfl (lv_at hl 0 rfl) ?_
        refine lv_iload hx hb dX6_personValue_21 (lv_at hl 5 rfl) ?_
        obtain ⟨r_3, hc_4, hf⟩ := bd_of hf
        refine fn_V (v := some (.int r_3)) (As := [.int x5]) (rest := [.int x3]) (st1 := [.int r_3, .int x3]) (ws' := (wMo X mo al sv sm asd th ho fr txt tl pos od nu su)) (nL := 6) ⟨hx, hb, hml, hown, hts⟩ (c_X6_owner l X mo al sv sm asd th ho fr txt tl pos od nu su x5 r_3 hc_4) (cwV 1 hts gX6_personValue_X6_owner rfl rfl rfl (by decide +kernel) ⟨Nat.le_of_ble_eq_true rfl, Nat.le_of_ble_eq_true rfl⟩) 6 rfl rfl rfl rfl hl.1 rfl (Nat.le_of_ble_eq_true rfl) dX6_personValue_23 hK hP (hD0.addr rfl) hS hA [0, 1, 2, 3, 4, 5, 6, 7] rfl rfl rfl rfl ⟨Nat.zero_le _, Nat.zero_le _⟩ (fun H locs hP hD hS => ?_)
        refine lv_iload_n hx hb dX6_personValue_26 rfl (lv_at hl 1 rfl) ?_
        refine lv_icmp_ne (tgt := 34) hx hb dX6_personValue_27 (by decide) (fun c_5 => ?_) (fun c_5 => ?_)
        · replace hf := fp_f c_5 hf
          refine lv_iconst (v := 0) hx hb dX6_personValue_34 (by decide) ?_
          refine lv_iadd hx hb dX6_personValue_35 ?_
          refine lv_topi (fun v_6 ev_6 => ?_)
          replace hf := nm_of ev_6 hf
          refine lv_istore_n (lv' := [(3, .int v_6), (0, .ref (mo 0)), (1, .int x1), (2, .int x2), (4, .int x4), (5, .int x5)]) hx hb dX6_personValue_36 rfl hl (by decide) rfl (fun ls hl => ?_)
          refine lv_iload hx hb dX6_personValue_37 (lv_at hl 4 rfl) ?_
          refine lv_aload_n hx hb dX6_personValue_39 rfl (lv_at hl 1 rfl) ?_
          refine lv_iload_n hx hb dX6_personValue_40 rfl (lv_at hl 2 rfl) ?_
          refine lv_iload hx hb dX6_personValue_41 (lv_at hl 5 rfl) ?_
          obtain ⟨r_7, hc_8, hf⟩ := bd_of hf
          refine fn_V (v := some (.int r_7)) (As := [.int x1, .int x5]) (rest := [.int x4]) (st1 := [.int r_7, .int x4]) (ws' := (wMo X mo al sv sm asd th ho fr txt tl pos od nu su)) (nL := 6) ⟨hx, hb, hml, hown, hts⟩ (c_X6_holds l X mo al sv sm asd th ho fr txt tl pos od nu su x1 x5 r_7 hc_8) (cwV 2 hts gX6_personValue_X6_holds rfl rfl rfl (by decide +kernel) ⟨Nat.le_of_ble_eq_true rfl, Nat.le_of_ble_eq_true rfl⟩) 6 rfl rfl rfl rfl hl.1 rfl (Nat.le_of_ble_eq_true rfl) dX6_personValue_43 hK hP (hD0.addr rfl) hS hA [0, 1, 2, 3, 4, 5, 6, 7] rfl rfl rfl rfl ⟨Nat.zero_le _, Nat.zero_le _⟩ (fun H locs hP hD hS => ?_)
          refine lv_iconst (v := 1) hx hb dX6_personValue_46 (by decide) ?_
          refine lv_iand hx hb dX6_personValue_47 ?_
          refine lv_iload hx hb dX6_personValue_48 (lv_at hl 5 rfl) ?_
          refine lv_ishl hx hb dX6_personValue_50 ?_
          refine lv_ior hx hb dX6_personValue_51 ?_
          refine lv_topi (fun v_9 ev_9 => ?_)
          replace hf := nm_of ev_9 hf
          refine lv_istore (lv' := [(4, .int v_9), (3, .int v_6), (0, .ref (mo 0)), (1, .int x1), (2, .int x2), (5, .int x5)]) hx hb dX6_personValue_52 hl (by decide) rfl (fun ls hl => ?_)
          obtain ⟨v_10, ev_10⟩ : ∃ y : Int32, y = x5 + (1 : Int32) := ⟨_, rfl⟩
          replace hf := nm_of ev_10 hf
          refine lv_iinc (v := v_10) (lv' := [(5, .int v_10), (4, .int v_9), (3, .int v_6), (0, .ref (mo 0)), (1, .int x1), (2, .int x2)]) hx hb dX6_personValue_54 hl (k := 5) rfl (by rw [ev_10]; rfl) (by decide) rfl (fun ls hl => ?_)
          refine lv_goto (tgt := 8) hx hb dX6_personValue_57 (by decide) ?_
          exact ih v_6 v_9 v_10 _ _ _ hf hP hS (lv_sub hl [3, 4, 5, 2, 1, 0] rfl)
        · replace hf := fp_t c_5 hf
          refine lv_iconst (v := 1) hx hb dX6_personValue_30 (by decide) ?_
          refine lv_goto (tgt := 35) hx hb dX6_personValue_31 (by decide) ?_
          refine lv_iadd hx hb dX6_personValue_35 ?_
          refine lv_topi (fun v_11 ev_11 => ?_)
          replace hf := nm_of ev_11 hf
          refine lv_istore_n (lv' := [(3, .int v_11), (0, .ref (mo 0)), (1, .int x1), (2, .int x2), (4, .int x4), (5, .int x5)]) hx hb dX6_personValue_36 rfl hl (by decide) rfl (fun ls hl => ?_)
          refine lv_iload hx hb dX6_personValue_37 (lv_at hl 4 rfl) ?_
          refine lv_aload_n hx hb dX6_personValue_39 rfl (lv_at hl 1 rfl) ?_
          refine lv_iload_n hx hb dX6_personValue_40 rfl (lv_at hl 2 rfl) ?_
          refine lv_iload hx hb dX6_personValue_41 (lv_at hl 5 rfl) ?_
          obtain ⟨r_12, hc_13, hf⟩ := bd_of hf
          refine fn_V (v := some (.int r_12)) (As := [.int x1, .int x5]) (rest := [.int x4]) (st1 := [.int r_12, .int x4]) (ws' := (wMo X mo al sv sm asd th ho fr txt tl pos od nu su)) (nL := 6) ⟨hx, hb, hml, hown, hts⟩ (c_X6_holds l X mo al sv sm asd th ho fr txt tl pos od nu su x1 x5 r_12 hc_13) (cwV 2 hts gX6_personValue_X6_holds rfl rfl rfl (by decide +kernel) ⟨Nat.le_of_ble_eq_true rfl, Nat.le_of_ble_eq_true rfl⟩) 6 rfl rfl rfl rfl hl.1 rfl (Nat.le_of_ble_eq_true rfl) dX6_personValue_43 hK hP (hD0.addr rfl) hS hA [0, 1, 2, 3, 4, 5, 6, 7] rfl rfl rfl rfl ⟨Nat.zero_le _, Nat.zero_le _⟩ (fun H locs hP hD hS => ?_)
          refine lv_iconst (v := 1) hx hb dX6_personValue_46 (by decide) ?_
          refine lv_iand hx hb dX6_personValue_47 ?_
          refine lv_iload hx hb dX6_personValue_48 (lv_at hl 5 rfl) ?_
          refine lv_ishl hx hb dX6_personValue_50 ?_
          refine lv_ior hx hb dX6_personValue_51 ?_
          refine lv_topi (fun v_14 ev_14 => ?_)
          replace hf := nm_of ev_14 hf
          refine lv_istore (lv' := [(4, .int v_14), (3, .int v_11), (0, .ref (mo 0)), (1, .int x1), (2, .int x2), (5, .int x5)]) hx hb dX6_personValue_52 hl (by decide) rfl (fun ls hl => ?_)
          obtain ⟨v_15, ev_15⟩ : ∃ y : Int32, y = x5 + (1 : Int32) := ⟨_, rfl⟩
          replace hf := nm_of ev_15 hf
          refine lv_iinc (v := v_15) (lv' := [(5, .int v_15), (4, .int v_14), (3, .int v_11), (0, .ref (mo 0)), (1, .int x1), (2, .int x2)]) hx hb dX6_personValue_54 hl (k := 5) rfl (by rw [ev_15]; rfl) (by decide) rfl (fun ls hl => ?_)
          refine lv_goto (tgt := 8) hx hb dX6_personValue_57 (by decide) ?_
          exact ih v_11 v_14 v_15 _ _ _ hf hP hS (lv_sub hl [3, 4, 5, 2, 1, 0] rfl)
  unfold f_X6_personValue at hf
  refine lv_iconst (v := 0) hx hb dX6_personValue_0 (by decide) ?_
  refine lv_istore_n (lv' := [(3, .int (0 : Int32)), (0, .ref (mo 0)), (1, .int x1), (2, .int x2)]) hx hb dX6_personValue_1 rfl hl (by decide) rfl (fun ls hl => ?_)
  refine lv_iconst (v := 0) hx hb dX6_personValue_2 (by decide) ?_
  refine lv_istore (lv' := [(4, .int (0 : Int32)), (3, .int (0 : Int32)), (0, .ref (mo 0)), (1, .int x1), (2, .int x2)]) hx hb dX6_personValue_3 hl (by decide) rfl (fun ls hl => ?_)
  refine lv_iconst (v := 0) hx hb dX6_personValue_5 (by decide) ?_
  refine lv_istore (lv' := [(5, .int (0 : Int32)), (4, .int (0 : Int32)), (3, .int (0 : Int32)), (0, .ref (mo 0)), (1, .int x1), (2, .int x2)]) hx hb dX6_personValue_6 hl (by decide) rfl (fun ls hl => ?_)
  obtain ⟨y3_16, y4_17, hL_18, hf⟩ := bd2_of hf
  refine loop_8 _ y3_16 y4_17 (fun H locs ls hP hS hl => ?_) FU (0 : Int32) (0 : Int32) (0 : Int32) _ _ _ hL_18 hP hS (lv_sub hl [3, 4, 5, 2, 1, 0] rfl)
  refine lv_iload_n hx hb dX6_personValue_60 rfl (lv_at hl 2 rfl) ?_
  by_cases c_19 : x2 = (0 : Int32)
  · replace hf := fp_t c_19 hf
    refine lv_tableIn (off := 39) (tgt := 100) hx hb dX6_personValue_61 (by rw [c_19]; decide) (by rw [c_19]; decide) (by rw [c_19]; rfl) (by decide) ?_
    refine lv_aload_n hx hb dX6_personValue_100 rfl (lv_at hl 0 rfl) ?_
    refine va_get (D := X.1) (ci := 6) (v := .ref (mo 1)) (C := RX6) (T := TX6) (N := 13) hx hb hts hiX6 hown hK.1 hP 0 rfl rfl 0 (by decide) k7 (fun _ h9 => h9) rfl dX6_personValue_101 ?_
    refine lv_bipush (v := 8) hx hb dX6_personValue_104 (by decide) ?_
    refine lv_iload_n hx hb dX6_personValue_106 rfl (lv_at hl 1 rfl) ?_
    refine lv_iadd hx hb dX6_personValue_107 ?_
    obtain ⟨hi_20, hf⟩ := ix_of hf
    refine va_iald hx hb hK.1 hP 1 0 rfl rfl hi_20 dX6_personValue_108 ?_
    refine lv_topi (fun v_21 ev_21 => ?_)
    replace hf := nm_of ev_21 hf
    cases hf
    exact fn_iret hx hb hr hlocks hP hS dX6_personValue_109
  · replace hf := fp_f c_19 hf
    by_cases c_22 : x2 = (1 : Int32)
    · replace hf := fp_t c_22 hf
      refine lv_tableIn (off := 49) (tgt := 110) hx hb dX6_personValue_61 (by rw [c_22]; decide) (by rw [c_22]; decide) (by rw [c_22]; rfl) (by decide) ?_
      refine lv_aload_n hx hb dX6_personValue_110 rfl (lv_at hl 0 rfl) ?_
      refine va_get (D := X.1) (ci := 6) (v := .ref (mo 1)) (C := RX6) (T := TX6) (N := 13) hx hb hts hiX6 hown hK.1 hP 0 rfl rfl 0 (by decide) k7 (fun _ h9 => h9) rfl dX6_personValue_111 ?_
      refine lv_bipush (v := 18) hx hb dX6_personValue_114 (by decide) ?_
      refine lv_iload_n hx hb dX6_personValue_116 rfl (lv_at hl 1 rfl) ?_
      refine lv_iadd hx hb dX6_personValue_117 ?_
      obtain ⟨hi_23, hf⟩ := ix_of hf
      refine va_iald hx hb hK.1 hP 1 0 rfl rfl hi_23 dX6_personValue_118 ?_
      refine lv_topi (fun v_24 ev_24 => ?_)
      replace hf := nm_of ev_24 hf
      cases hf
      exact fn_iret hx hb hr hlocks hP hS dX6_personValue_119
    · replace hf := fp_f c_22 hf
      by_cases c_25 : x2 = (2 : Int32)
      · replace hf := fp_t c_25 hf
        refine lv_tableIn (off := 59) (tgt := 120) hx hb dX6_personValue_61 (by rw [c_25]; decide) (by rw [c_25]; decide) (by rw [c_25]; rfl) (by decide) ?_
        refine lv_iload_n hx hb dX6_personValue_120 rfl (lv_at hl 3 rfl) ?_
        cases hf
        exact fn_iret hx hb hr hlocks hP hS dX6_personValue_121
      · replace hf := fp_f c_25 hf
        by_cases c_26 : x2 = (3 : Int32)
        · replace hf := fp_t c_26 hf
          refine lv_tableIn (off := 61) (tgt := 122) hx hb dX6_personValue_61 (by rw [c_26]; decide) (by rw [c_26]; decide) (by rw [c_26]; rfl) (by decide) ?_
          refine lv_iload hx hb dX6_personValue_122 (lv_at hl 4 rfl) ?_
          obtain ⟨r_27, hc_28, hf⟩ := bd_of hf
          refine fn_Sx (v := some (.int r_27)) (As := [.int y4_17]) (rest := []) (st1 := [.int r_27]) (ws' := (wMo X mo al sv sm asd th ho fr txt tl pos od nu su)) (nL := 6) ⟨hx, hb, hml, hown, hts⟩ (c_X6_bits l X y4_17 r_27 hc_28) (va_cwS 1 hts gX6_personValue_X6_bits rfl rfl rfl (by decide +kernel) ⟨Nat.le_of_ble_eq_true rfl, Nat.le_of_ble_eq_true rfl⟩) rfl hl.1 rfl (Nat.le_of_ble_eq_true rfl) dX6_personValue_124 hK hP (hD0.addr rfl) hS hA [] rfl rfl rfl rfl ⟨Nat.zero_le _, Nat.zero_le _⟩ (fun H locs hP hD hS => ?_)
          cases hf
          exact fn_iret hx hb hr hlocks hP hS dX6_personValue_127
        · replace hf := fp_f c_26 hf
          by_cases c_29 : x2 = (4 : Int32)
          · replace hf := fp_t c_29 hf
            refine lv_tableIn (off := 67) (tgt := 128) hx hb dX6_personValue_61 (by rw [c_29]; decide) (by rw [c_29]; decide) (by rw [c_29]; rfl) (by decide) ?_
            refine lv_aload_n hx hb dX6_personValue_128 rfl (lv_at hl 0 rfl) ?_
            refine lv_iload_n hx hb dX6_personValue_129 rfl (lv_at hl 1 rfl) ?_
            refine lv_iconst (v := 1) hx hb dX6_personValue_130 (by decide) ?_
            obtain ⟨r_30, hc_31, hf⟩ := bd_of hf
            refine fn_V (v := some (.int r_30)) (As := [.int x1, .int (1 : Int32)]) (rest := []) (st1 := [.int r_30]) (ws' := (wMo X mo al sv sm asd th ho fr txt tl pos od nu su)) (nL := 6) ⟨hx, hb, hml, hown, hts⟩ (c_X6_grantsBy l X mo al sv sm asd th ho fr txt tl pos od nu su x1 (1 : Int32) r_30 hc_31) (cwV 2 hts gX6_personValue_X6_grantsBy rfl rfl rfl (by decide +kernel) ⟨Nat.le_of_ble_eq_true rfl, Nat.le_of_ble_eq_true rfl⟩) 6 rfl rfl rfl rfl hl.1 rfl (Nat.le_of_ble_eq_true rfl) dX6_personValue_131 hK hP (hD0.addr rfl) hS hA [0, 1, 2, 3, 4, 5, 6, 7] rfl rfl rfl rfl ⟨Nat.zero_le _, Nat.zero_le _⟩ (fun H locs hP hD hS => ?_)
            cases hf
            exact fn_iret hx hb hr hlocks hP hS dX6_personValue_134
          · replace hf := fp_f c_29 hf
            by_cases c_32 : x2 = (5 : Int32)
            · replace hf := fp_t c_32 hf
              refine lv_tableIn (off := 74) (tgt := 135) hx hb dX6_personValue_61 (by rw [c_32]; decide) (by rw [c_32]; decide) (by rw [c_32]; rfl) (by decide) ?_
              refine lv_aload_n hx hb dX6_personValue_135 rfl (lv_at hl 0 rfl) ?_
              refine lv_iload_n hx hb dX6_personValue_136 rfl (lv_at hl 1 rfl) ?_
              refine lv_iconst (v := 2) hx hb dX6_personValue_137 (by decide) ?_
              obtain ⟨r_33, hc_34, hf⟩ := bd_of hf
              refine fn_V (v := some (.int r_33)) (As := [.int x1, .int (2 : Int32)]) (rest := []) (st1 := [.int r_33]) (ws' := (wMo X mo al sv sm asd th ho fr txt tl pos od nu su)) (nL := 6) ⟨hx, hb, hml, hown, hts⟩ (c_X6_grantsBy l X mo al sv sm asd th ho fr txt tl pos od nu su x1 (2 : Int32) r_33 hc_34) (cwV 2 hts gX6_personValue_X6_grantsBy rfl rfl rfl (by decide +kernel) ⟨Nat.le_of_ble_eq_true rfl, Nat.le_of_ble_eq_true rfl⟩) 6 rfl rfl rfl rfl hl.1 rfl (Nat.le_of_ble_eq_true rfl) dX6_personValue_138 hK hP (hD0.addr rfl) hS hA [0, 1, 2, 3, 4, 5, 6, 7] rfl rfl rfl rfl ⟨Nat.zero_le _, Nat.zero_le _⟩ (fun H locs hP hD hS => ?_)
              cases hf
              exact fn_iret hx hb hr hlocks hP hS dX6_personValue_141
            · replace hf := fp_f c_32 hf
              have hsw : x2.toInt < 0 ∨ (5 : Int) < x2.toInt := by
                refine sw_out (x := x2) 5 (by decide) ?_
                intro j hj
                have hj2 : j = 0 ∨ j = 1 ∨ j = 2 ∨ j = 3 ∨ j = 4 ∨ j = 5 := by omega
                rcases hj2 with rfl | rfl | rfl | rfl | rfl | rfl
                · exact c_19
                · exact c_22
                · exact c_25
                · exact c_26
                · exact c_29
                · exact c_32
              refine lv_tableOut (tgt := 142) hx hb dX6_personValue_61 hsw (by decide) ?_
              refine lv_iload hx hb dX6_personValue_142 (lv_at hl 4 rfl) ?_
              cases hf
              exact fn_iret hx hb hr hlocks hP hS dX6_personValue_144

def f_X6_person (x1 : Int32) (x2 : Int32) (al : (Nat → Int32)) (th : Int32) (ho : (Nat → Int32)) : Option (Int32 × Int32 × (Nat → Int32)) :=
  bd (f_X6_isPerson x1) (fun r_1 =>
  bd (f_X6_in x2.toInt64 (0 : Int64) (6 : Int64)) (fun r_3 =>
  bd2 (f_X6_goes r_1 r_3 (1 : Int32) th) (fun r_5 th_6 =>
  if r_5 = (0 : Int32) then
  (some ((0 : Int32), th_6, ho))
  else
  (bd (f_X6_lay al ho) (fun ho_9 =>
  bd (f_X6_personValue x1 x2 al ho_9) (fun r_11 =>
  some (r_11, th_6, ho_9)))))))
set_option maxHeartbeats 4000000 in
set_option maxRecDepth 100000 in
theorem c_X6_person (l : Launch) (X : cx_G) (mo : (Nat → Nat)) (al : (Nat → Int32)) (sv : (Nat → Int32)) (sm : Int32) (asd : (Nat → Int32)) (th : Int32) (ho : (Nat → Int32)) (fr : (Nat → Int32)) (txt : (Nat → Int32)) (tl : Int32) (pos : Int32) (od : Int32) (nu : (Nat → Int32)) (su : Int64) (x1 : Int32) (x2 : Int32) (r : Int32) (th' : Int32) (ho' : (Nat → Int32)) (hf : f_X6_person x1 x2 al th ho = some (r, th', ho')) : Fn l yX6_person wsX6_person ({ frames := 3, cells := 0, slots := 0, locals := 71 } : Room) X [.ref (mo 0), .int x1, .int x2] (wMo X mo al sv sm asd th ho fr txt tl pos od nu su) (some (.int r)) (wMo X mo al sv sm asd th' ho' fr txt tl pos od nu su) := by
  refine fn_intro (cc := cX6_person) (maxL := 3) (ret := (some .int)) (by decide) rfl rfl (Nat.le_of_ble_eq_true rfl) ?_
  intro p e s m args below meth c A ls hx hb hml hr hts hown hlocks hK hP hD0 hS hA hl
  have hown : s.vm.findClass RX6 = some m.cls := hown
  have hl : lv_has ls 3 [(0, .ref (mo 0)), (1, .int x1), (2, .int x2)] := hl
  unfold f_X6_person at hf
  refine lv_aload_n hx hb dX6_person_0 rfl (lv_at hl 0 rfl) ?_
  refine lv_iload_n hx hb dX6_person_1 rfl (lv_at hl 1 rfl) ?_
  obtain ⟨r_1, hc_2, hf⟩ := bd_of hf
  refine fn_Sx (v := some (.int r_1)) (As := [.int x1]) (rest := [.ref (mo 0)]) (st1 := [.int r_1, .ref (mo 0)]) (ws' := (wMo X mo al sv sm asd th ho fr txt tl pos od nu su)) (nL := 3) ⟨hx, hb, hml, hown, hts⟩ (c_X6_isPerson l X x1 r_1 hc_2) (va_cwS 1 hts gX6_person_X6_isPerson rfl rfl rfl (by decide +kernel) ⟨Nat.le_of_ble_eq_true rfl, Nat.le_of_ble_eq_true rfl⟩) rfl hl.1 rfl (Nat.le_of_ble_eq_true rfl) dX6_person_2 hK hP (hD0.addr rfl) hS hA [] rfl rfl rfl rfl ⟨Nat.zero_le _, Nat.zero_le _⟩ (fun H locs hP hD hS => ?_)
  refine lv_iload_n hx hb dX6_person_5 rfl (lv_at hl 2 rfl) ?_
  refine lv_i2l (v := x2.toInt64) hx hb dX6_person_6 rfl ?_
  refine lv_lconst (v := 0) hx hb dX6_person_7 (by decide) ?_
  refine lv_ldc2 hx hb hown (hts (.constantLong RX6 144 (6)) (by decide +kernel)) dX6_person_8 ?_
  obtain ⟨r_3, hc_4, hf⟩ := bd_of hf
  refine fn_Sx (v := some (.int r_3)) (As := [.long x2.toInt64, .long (0 : Int64), .long (6 : Int64)]) (rest := [.int r_1, .ref (mo 0)]) (st1 := [.int r_3, .int r_1, .ref (mo 0)]) (ws' := (wMo X mo al sv sm asd th ho fr txt tl pos od nu su)) (nL := 3) ⟨hx, hb, hml, hown, hts⟩ (c_X6_in l X x2.toInt64 (0 : Int64) (6 : Int64) r_3 hc_4) (va_cwS 3 hts gX6_person_X6_in rfl rfl rfl (by decide +kernel) ⟨Nat.le_of_ble_eq_true rfl, Nat.le_of_ble_eq_true rfl⟩) rfl hl.1 rfl (Nat.le_of_ble_eq_true rfl) dX6_person_11 hK hP (hD0.addr rfl) hS hA [] rfl rfl rfl rfl ⟨Nat.zero_le _, Nat.zero_le _⟩ (fun H locs hP hD hS => ?_)
  refine lv_iconst (v := 1) hx hb dX6_person_14 (by decide) ?_
  obtain ⟨r_5, th_6, hc_7, hf⟩ := bd2_of hf
  refine fn_V (v := some (.int r_5)) (As := [.int r_1, .int r_3, .int (1 : Int32)]) (rest := []) (st1 := [.int r_5]) (ws' := (wMo X mo al sv sm asd th_6 ho fr txt tl pos od nu su)) (nL := 3) ⟨hx, hb, hml, hown, hts⟩ (c_X6_goes l X mo al sv sm asd th ho fr txt tl pos od nu su r_1 r_3 (1 : Int32) r_5 th_6 hc_7) (cwV 3 hts gX6_person_X6_goes rfl rfl rfl (by decide +kernel) ⟨Nat.le_of_ble_eq_true rfl, Nat.le_of_ble_eq_true rfl⟩) 6 rfl rfl rfl rfl hl.1 rfl (Nat.le_of_ble_eq_true rfl) dX6_person_15 hK hP (hD0.addr rfl) hS hA [0, 1, 2, 3, 4, 5, 6, 7] rfl rfl rfl rfl ⟨Nat.zero_le _, Nat.zero_le _⟩ (fun H locs hP hD hS => ?_)
  refine lv_if_ne (tgt := 23) hx hb dX6_person_18 (by decide) (fun c_8 => ?_) (fun c_8 => ?_)
  · replace hf := fp_f c_8 hf
    refine lv_aload_n hx hb dX6_person_23 rfl (lv_at hl 0 rfl) ?_
    obtain ⟨ho_9, hc_10, hf⟩ := bd_of hf
    refine fn_V (v := none) (As := []) (rest := []) (st1 := []) (ws' := (wMo X mo al sv sm asd th_6 ho_9 fr txt tl pos od nu su)) (nL := 3) ⟨hx, hb, hml, hown, hts⟩ (c_X6_lay l X mo al sv sm asd th_6 ho fr txt tl pos od nu su ho_9 hc_10) (cwV 0 hts gX6_person_X6_lay rfl rfl rfl (by decide +kernel) ⟨Nat.le_of_ble_eq_true rfl, Nat.le_of_ble_eq_true rfl⟩) 6 rfl rfl rfl rfl hl.1 rfl (Nat.le_of_ble_eq_true rfl) dX6_person_24 hK hP (hD0.addr rfl) hS hA [0, 1, 2, 3, 4, 5, 6, 7] rfl rfl rfl rfl ⟨Nat.zero_le _, Nat.zero_le _⟩ (fun H locs hP hD hS => ?_)
    refine lv_aload_n hx hb dX6_person_27 rfl (lv_at hl 0 rfl) ?_
    refine lv_iload_n hx hb dX6_person_28 rfl (lv_at hl 1 rfl) ?_
    refine lv_iload_n hx hb dX6_person_29 rfl (lv_at hl 2 rfl) ?_
    obtain ⟨r_11, hc_12, hf⟩ := bd_of hf
    refine fn_V (v := some (.int r_11)) (As := [.int x1, .int x2]) (rest := []) (st1 := [.int r_11]) (ws' := (wMo X mo al sv sm asd th_6 ho_9 fr txt tl pos od nu su)) (nL := 3) ⟨hx, hb, hml, hown, hts⟩ (c_X6_personValue l X mo al sv sm asd th_6 ho_9 fr txt tl pos od nu su x1 x2 r_11 hc_12) (cwV 2 hts gX6_person_X6_personValue rfl rfl rfl (by decide +kernel) ⟨Nat.le_of_ble_eq_true rfl, Nat.le_of_ble_eq_true rfl⟩) 6 rfl rfl rfl rfl hl.1 rfl (Nat.le_of_ble_eq_true rfl) dX6_person_30 hK hP (hD0.addr rfl) hS hA [0, 1, 2, 3, 4, 5, 6, 7] rfl rfl rfl rfl ⟨Nat.zero_le _, Nat.zero_le _⟩ (fun H locs hP hD hS => ?_)
    cases hf
    exact fn_iret hx hb hr hlocks hP hS dX6_person_33
  · replace hf := fp_t c_8 hf
    refine lv_iconst (v := 0) hx hb dX6_person_21 (by decide) ?_
    cases hf
    exact fn_iret hx hb hr hlocks hP hS dX6_person_22

def f_X6_thingValue (x1 : Int32) (x2 : Int32) (al : (Nat → Int32)) (ho : (Nat → Int32)) : Option (Int32) :=
  if (2 : Int32) ≤ x2 then
  (if x2 = (2 : Int32) then
  (bd (f_X6_grantsBy x1 (3 : Int32) al) (fun r_5 =>
  some r_5))
  else
  (bd (f_X6_whoHas x1 ((1 : Int32) <<< ((x2 - (3 : Int32)) &&& 31)) ho) (fun r_3 =>
  some r_3)))
  else
  (ix (((28 : Int32) + ((2 : Int32) * x1)) + x2) 320 (
  nm (al (((28 : Int32) + ((2 : Int32) * x1)) + x2).toNatClampNeg) (fun v_8 =>
  some v_8)))
set_option maxHeartbeats 4000000 in
set_option maxRecDepth 100000 in
theorem c_X6_thingValue (l : Launch) (X : cx_G) (mo : (Nat → Nat)) (al : (Nat → Int32)) (sv : (Nat → Int32)) (sm : Int32) (asd : (Nat → Int32)) (th : Int32) (ho : (Nat → Int32)) (fr : (Nat → Int32)) (txt : (Nat → Int32)) (tl : Int32) (pos : Int32) (od : Int32) (nu : (Nat → Int32)) (su : Int64) (x1 : Int32) (x2 : Int32) (r : Int32) (hf : f_X6_thingValue x1 x2 al ho = some r) : Fn l yX6_thingValue wsX6_thingValue ({ frames := 2, cells := 0, slots := 0, locals := 46 } : Room) X [.ref (mo 0), .int x1, .int x2] (wMo X mo al sv sm asd th ho fr txt tl pos od nu su) (some (.int r)) (wMo X mo al sv sm asd th ho fr txt tl pos od nu su) := by
  refine fn_intro (cc := cX6_thingValue) (maxL := 3) (ret := (some .int)) (by decide) rfl rfl (Nat.le_of_ble_eq_true rfl) ?_
  intro p e s m args below meth c A ls hx hb hml hr hts hown hlocks hK hP hD0 hS hA hl
  have hown : s.vm.findClass RX6 = some m.cls := hown
  have hl : lv_has ls 3 [(0, .ref (mo 0)), (1, .int x1), (2, .int x2)] := hl
  have hiX6 : ∀ w ∈ u_ws RX6 TX6 13, w ∈ wsX6_thingValue := by decide +kernel
  have k7 := hts (.fieldLink RX6 7 "LentRightsModel" "all" "[I") (by decide +kernel)
  unfold f_X6_thingValue at hf
  refine lv_iload_n hx hb dX6_thingValue_0 rfl (lv_at hl 2 rfl) ?_
  refine lv_iconst (v := 2) hx hb dX6_thingValue_1 (by decide) ?_
  refine lv_icmp_ge (tgt := 21) hx hb dX6_thingValue_2 (by decide) (fun c_1 => ?_) (fun c_1 => ?_)
  · replace hf := fp_t c_1 hf
    refine lv_iload_n hx hb dX6_thingValue_21 rfl (lv_at hl 2 rfl) ?_
    refine lv_iconst (v := 2) hx hb dX6_thingValue_22 (by decide) ?_
    refine lv_icmp_ne (tgt := 35) hx hb dX6_thingValue_23 (by decide) (fun c_2 => ?_) (fun c_2 => ?_)
    · replace hf := fp_f c_2 hf
      refine lv_aload_n hx hb dX6_thingValue_35 rfl (lv_at hl 0 rfl) ?_
      refine lv_iload_n hx hb dX6_thingValue_36 rfl (lv_at hl 1 rfl) ?_
      refine lv_iconst (v := 1) hx hb dX6_thingValue_37 (by decide) ?_
      refine lv_iload_n hx hb dX6_thingValue_38 rfl (lv_at hl 2 rfl) ?_
      refine lv_iconst (v := 3) hx hb dX6_thingValue_39 (by decide) ?_
      refine lv_isub hx hb dX6_thingValue_40 ?_
      refine lv_ishl hx hb dX6_thingValue_41 ?_
      obtain ⟨r_3, hc_4, hf⟩ := bd_of hf
      refine fn_V (v := some (.int r_3)) (As := [.int x1, .int ((1 : Int32) <<< ((x2 - (3 : Int32)) &&& 31))]) (rest := []) (st1 := [.int r_3]) (ws' := (wMo X mo al sv sm asd th ho fr txt tl pos od nu su)) (nL := 3) ⟨hx, hb, hml, hown, hts⟩ (c_X6_whoHas l X mo al sv sm asd th ho fr txt tl pos od nu su x1 ((1 : Int32) <<< ((x2 - (3 : Int32)) &&& 31)) r_3 hc_4) (cwV 2 hts gX6_thingValue_X6_whoHas rfl rfl rfl (by decide +kernel) ⟨Nat.le_of_ble_eq_true rfl, Nat.le_of_ble_eq_true rfl⟩) 6 rfl rfl rfl rfl hl.1 rfl (Nat.le_of_ble_eq_true rfl) dX6_thingValue_42 hK hP (hD0.addr rfl) hS hA [0, 1, 2, 3, 4, 5, 6, 7] rfl rfl rfl rfl ⟨Nat.zero_le _, Nat.zero_le _⟩ (fun H locs hP hD hS => ?_)
      cases hf
      exact fn_iret hx hb hr hlocks hP hS dX6_thingValue_45
    · replace hf := fp_t c_2 hf
      refine lv_aload_n hx hb dX6_thingValue_26 rfl (lv_at hl 0 rfl) ?_
      refine lv_iload_n hx hb dX6_thingValue_27 rfl (lv_at hl 1 rfl) ?_
      refine lv_iconst (v := 3) hx hb dX6_thingValue_28 (by decide) ?_
      obtain ⟨r_5, hc_6, hf⟩ := bd_of hf
      refine fn_V (v := some (.int r_5)) (As := [.int x1, .int (3 : Int32)]) (rest := []) (st1 := [.int r_5]) (ws' := (wMo X mo al sv sm asd th ho fr txt tl pos od nu su)) (nL := 3) ⟨hx, hb, hml, hown, hts⟩ (c_X6_grantsBy l X mo al sv sm asd th ho fr txt tl pos od nu su x1 (3 : Int32) r_5 hc_6) (cwV 2 hts gX6_thingValue_X6_grantsBy rfl rfl rfl (by decide +kernel) ⟨Nat.le_of_ble_eq_true rfl, Nat.le_of_ble_eq_true rfl⟩) 6 rfl rfl rfl rfl hl.1 rfl (Nat.le_of_ble_eq_true rfl) dX6_thingValue_29 hK hP (hD0.addr rfl) hS hA [0, 1, 2, 3, 4, 5, 6, 7] rfl rfl rfl rfl ⟨Nat.zero_le _, Nat.zero_le _⟩ (fun H locs hP hD hS => ?_)
      refine lv_goto (tgt := 45) hx hb dX6_thingValue_32 (by decide) ?_
      cases hf
      exact fn_iret hx hb hr hlocks hP hS dX6_thingValue_45
  · replace hf := fp_f c_1 hf
    refine lv_aload_n hx hb dX6_thingValue_5 rfl (lv_at hl 0 rfl) ?_
    refine va_get (D := X.1) (ci := 6) (v := .ref (mo 1)) (C := RX6) (T := TX6) (N := 13) hx hb hts hiX6 hown hK.1 hP 0 rfl rfl 0 (by decide) k7 (fun _ h9 => h9) rfl dX6_thingValue_6 ?_
    refine lv_bipush (v := 28) hx hb dX6_thingValue_9 (by decide) ?_
    refine lv_iconst (v := 2) hx hb dX6_thingValue_11 (by decide) ?_
    refine lv_iload_n hx hb dX6_thingValue_12 rfl (lv_at hl 1 rfl) ?_
    refine lv_imul hx hb dX6_thingValue_13 ?_
    refine lv_iadd hx hb dX6_thingValue_14 ?_
    refine lv_iload_n hx hb dX6_thingValue_15 rfl (lv_at hl 2 rfl) ?_
    refine lv_iadd hx hb dX6_thingValue_16 ?_
    obtain ⟨hi_7, hf⟩ := ix_of hf
    refine va_iald hx hb hK.1 hP 1 0 rfl rfl hi_7 dX6_thingValue_17 ?_
    refine lv_goto (tgt := 45) hx hb dX6_thingValue_18 (by decide) ?_
    refine lv_topi (fun v_8 ev_8 => ?_)
    replace hf := nm_of ev_8 hf
    cases hf
    exact fn_iret hx hb hr hlocks hP hS dX6_thingValue_45

def f_X6_thing (x1 : Int32) (x2 : Int32) (al : (Nat → Int32)) (th : Int32) (ho : (Nat → Int32)) : Option (Int32 × Int32 × (Nat → Int32)) :=
  bd (f_X6_isThing x1 al) (fun r_1 =>
  bd (f_X6_in x2.toInt64 (0 : Int64) (5 : Int64)) (fun r_3 =>
  bd2 (f_X6_goes r_1 r_3 (1 : Int32) th) (fun r_5 th_6 =>
  if r_5 = (0 : Int32) then
  (some ((0 : Int32), th_6, ho))
  else
  (bd (f_X6_lay al ho) (fun ho_9 =>
  bd (f_X6_thingValue x1 x2 al ho_9) (fun r_11 =>
  some (r_11, th_6, ho_9)))))))
set_option maxHeartbeats 4000000 in
set_option maxRecDepth 100000 in
theorem c_X6_thing (l : Launch) (X : cx_G) (mo : (Nat → Nat)) (al : (Nat → Int32)) (sv : (Nat → Int32)) (sm : Int32) (asd : (Nat → Int32)) (th : Int32) (ho : (Nat → Int32)) (fr : (Nat → Int32)) (txt : (Nat → Int32)) (tl : Int32) (pos : Int32) (od : Int32) (nu : (Nat → Int32)) (su : Int64) (x1 : Int32) (x2 : Int32) (r : Int32) (th' : Int32) (ho' : (Nat → Int32)) (hf : f_X6_thing x1 x2 al th ho = some (r, th', ho')) : Fn l yX6_thing wsX6_thing ({ frames := 3, cells := 0, slots := 0, locals := 68 } : Room) X [.ref (mo 0), .int x1, .int x2] (wMo X mo al sv sm asd th ho fr txt tl pos od nu su) (some (.int r)) (wMo X mo al sv sm asd th' ho' fr txt tl pos od nu su) := by
  refine fn_intro (cc := cX6_thing) (maxL := 3) (ret := (some .int)) (by decide) rfl rfl (Nat.le_of_ble_eq_true rfl) ?_
  intro p e s m args below meth c A ls hx hb hml hr hts hown hlocks hK hP hD0 hS hA hl
  have hown : s.vm.findClass RX6 = some m.cls := hown
  have hl : lv_has ls 3 [(0, .ref (mo 0)), (1, .int x1), (2, .int x2)] := hl
  unfold f_X6_thing at hf
  refine lv_aload_n hx hb dX6_thing_0 rfl (lv_at hl 0 rfl) ?_
  refine lv_aload_n hx hb dX6_thing_1 rfl (lv_at hl 0 rfl) ?_
  refine lv_iload_n hx hb dX6_thing_2 rfl (lv_at hl 1 rfl) ?_
  obtain ⟨r_1, hc_2, hf⟩ := bd_of hf
  refine fn_V (v := some (.int r_1)) (As := [.int x1]) (rest := [.ref (mo 0)]) (st1 := [.int r_1, .ref (mo 0)]) (ws' := (wMo X mo al sv sm asd th ho fr txt tl pos od nu su)) (nL := 3) ⟨hx, hb, hml, hown, hts⟩ (c_X6_isThing l X mo al sv sm asd th ho fr txt tl pos od nu su x1 r_1 hc_2) (cwV 1 hts gX6_thing_X6_isThing rfl rfl rfl (by decide +kernel) ⟨Nat.le_of_ble_eq_true rfl, Nat.le_of_ble_eq_true rfl⟩) 6 rfl rfl rfl rfl hl.1 rfl (Nat.le_of_ble_eq_true rfl) dX6_thing_3 hK hP (hD0.addr rfl) hS hA [0, 1, 2, 3, 4, 5, 6, 7] rfl rfl rfl rfl ⟨Nat.zero_le _, Nat.zero_le _⟩ (fun H locs hP hD hS => ?_)
  refine lv_iload_n hx hb dX6_thing_6 rfl (lv_at hl 2 rfl) ?_
  refine lv_i2l (v := x2.toInt64) hx hb dX6_thing_7 rfl ?_
  refine lv_lconst (v := 0) hx hb dX6_thing_8 (by decide) ?_
  refine lv_ldc2 hx hb hown (hts (.constantLong RX6 149 (5)) (by decide +kernel)) dX6_thing_9 ?_
  obtain ⟨r_3, hc_4, hf⟩ := bd_of hf
  refine fn_Sx (v := some (.int r_3)) (As := [.long x2.toInt64, .long (0 : Int64), .long (5 : Int64)]) (rest := [.int r_1, .ref (mo 0)]) (st1 := [.int r_3, .int r_1, .ref (mo 0)]) (ws' := (wMo X mo al sv sm asd th ho fr txt tl pos od nu su)) (nL := 3) ⟨hx, hb, hml, hown, hts⟩ (c_X6_in l X x2.toInt64 (0 : Int64) (5 : Int64) r_3 hc_4) (va_cwS 3 hts gX6_thing_X6_in rfl rfl rfl (by decide +kernel) ⟨Nat.le_of_ble_eq_true rfl, Nat.le_of_ble_eq_true rfl⟩) rfl hl.1 rfl (Nat.le_of_ble_eq_true rfl) dX6_thing_12 hK hP (hD0.addr rfl) hS hA [] rfl rfl rfl rfl ⟨Nat.zero_le _, Nat.zero_le _⟩ (fun H locs hP hD hS => ?_)
  refine lv_iconst (v := 1) hx hb dX6_thing_15 (by decide) ?_
  obtain ⟨r_5, th_6, hc_7, hf⟩ := bd2_of hf
  refine fn_V (v := some (.int r_5)) (As := [.int r_1, .int r_3, .int (1 : Int32)]) (rest := []) (st1 := [.int r_5]) (ws' := (wMo X mo al sv sm asd th_6 ho fr txt tl pos od nu su)) (nL := 3) ⟨hx, hb, hml, hown, hts⟩ (c_X6_goes l X mo al sv sm asd th ho fr txt tl pos od nu su r_1 r_3 (1 : Int32) r_5 th_6 hc_7) (cwV 3 hts gX6_thing_X6_goes rfl rfl rfl (by decide +kernel) ⟨Nat.le_of_ble_eq_true rfl, Nat.le_of_ble_eq_true rfl⟩) 6 rfl rfl rfl rfl hl.1 rfl (Nat.le_of_ble_eq_true rfl) dX6_thing_16 hK hP (hD0.addr rfl) hS hA [0, 1, 2, 3, 4, 5, 6, 7] rfl rfl rfl rfl ⟨Nat.zero_le _, Nat.zero_le _⟩ (fun H locs hP hD hS => ?_)
  refine lv_if_ne (tgt := 24) hx hb dX6_thing_19 (by decide) (fun c_8 => ?_) (fun c_8 => ?_)
  · replace hf := fp_f c_8 hf
    refine lv_aload_n hx hb dX6_thing_24 rfl (lv_at hl 0 rfl) ?_
    obtain ⟨ho_9, hc_10, hf⟩ := bd_of hf
    refine fn_V (v := none) (As := []) (rest := []) (st1 := []) (ws' := (wMo X mo al sv sm asd th_6 ho_9 fr txt tl pos od nu su)) (nL := 3) ⟨hx, hb, hml, hown, hts⟩ (c_X6_lay l X mo al sv sm asd th_6 ho fr txt tl pos od nu su ho_9 hc_10) (cwV 0 hts gX6_thing_X6_lay rfl rfl rfl (by decide +kernel) ⟨Nat.le_of_ble_eq_true rfl, Nat.le_of_ble_eq_true rfl⟩) 6 rfl rfl rfl rfl hl.1 rfl (Nat.le_of_ble_eq_true rfl) dX6_thing_25 hK hP (hD0.addr rfl) hS hA [0, 1, 2, 3, 4, 5, 6, 7] rfl rfl rfl rfl ⟨Nat.zero_le _, Nat.zero_le _⟩ (fun H locs hP hD hS => ?_)
    refine lv_aload_n hx hb dX6_thing_28 rfl (lv_at hl 0 rfl) ?_
    refine lv_iload_n hx hb dX6_thing_29 rfl (lv_at hl 1 rfl) ?_
    refine lv_iload_n hx hb dX6_thing_30 rfl (lv_at hl 2 rfl) ?_
    obtain ⟨r_11, hc_12, hf⟩ := bd_of hf
    refine fn_V (v := some (.int r_11)) (As := [.int x1, .int x2]) (rest := []) (st1 := [.int r_11]) (ws' := (wMo X mo al sv sm asd th_6 ho_9 fr txt tl pos od nu su)) (nL := 3) ⟨hx, hb, hml, hown, hts⟩ (c_X6_thingValue l X mo al sv sm asd th_6 ho_9 fr txt tl pos od nu su x1 x2 r_11 hc_12) (cwV 2 hts gX6_thing_X6_thingValue rfl rfl rfl (by decide +kernel) ⟨Nat.le_of_ble_eq_true rfl, Nat.le_of_ble_eq_true rfl⟩) 6 rfl rfl rfl rfl hl.1 rfl (Nat.le_of_ble_eq_true rfl) dX6_thing_31 hK hP (hD0.addr rfl) hS hA [0, 1, 2, 3, 4, 5, 6, 7] rfl rfl rfl rfl ⟨Nat.zero_le _, Nat.zero_le _⟩ (fun H locs hP hD hS => ?_)
    cases hf
    exact fn_iret hx hb hr hlocks hP hS dX6_thing_34
  · replace hf := fp_t c_8 hf
    refine lv_iconst (v := 0) hx hb dX6_thing_22 (by decide) ?_
    cases hf
    exact fn_iret hx hb hr hlocks hP hS dX6_thing_23

def f_X6_grantValue (x1 : Int32) (x2 : Int32) (al : (Nat → Int32)) (ho : (Nat → Int32)) : Option (Int32) :=
  if (5 : Int32) ≤ x2 then
  (bd (f_X6_passes x1 al ho) (fun r_2 =>
  some r_2))
  else
  (bd (f_X6_of x1 (x2 + (1 : Int32)) al) (fun r_4 =>
  some r_4))
set_option maxHeartbeats 4000000 in
set_option maxRecDepth 100000 in
theorem c_X6_grantValue (l : Launch) (X : cx_G) (mo : (Nat → Nat)) (al : (Nat → Int32)) (sv : (Nat → Int32)) (sm : Int32) (asd : (Nat → Int32)) (th : Int32) (ho : (Nat → Int32)) (fr : (Nat → Int32)) (txt : (Nat → Int32)) (tl : Int32) (pos : Int32) (od : Int32) (nu : (Nat → Int32)) (su : Int64) (x1 : Int32) (x2 : Int32) (r : Int32) (hf : f_X6_grantValue x1 x2 al ho = some r) : Fn l yX6_grantValue wsX6_grantValue ({ frames := 2, cells := 0, slots := 0, locals := 44 } : Room) X [.ref (mo 0), .int x1, .int x2] (wMo X mo al sv sm asd th ho fr txt tl pos od nu su) (some (.int r)) (wMo X mo al sv sm asd th ho fr txt tl pos od nu su) := by
  refine fn_intro (cc := cX6_grantValue) (maxL := 3) (ret := (some .int)) (by decide) rfl rfl (Nat.le_of_ble_eq_true rfl) ?_
  intro p e s m args below meth c A ls hx hb hml hr hts hown hlocks hK hP hD0 hS hA hl
  have hown : s.vm.findClass RX6 = some m.cls := hown
  have hl : lv_has ls 3 [(0, .ref (mo 0)), (1, .int x1), (2, .int x2)] := hl
  unfold f_X6_grantValue at hf
  refine lv_iload_n hx hb dX6_grantValue_0 rfl (lv_at hl 2 rfl) ?_
  refine lv_iconst (v := 5) hx hb dX6_grantValue_1 (by decide) ?_
  refine lv_icmp_ge (tgt := 16) hx hb dX6_grantValue_2 (by decide) (fun c_1 => ?_) (fun c_1 => ?_)
  · replace hf := fp_t c_1 hf
    refine lv_aload_n hx hb dX6_grantValue_16 rfl (lv_at hl 0 rfl) ?_
    refine lv_iload_n hx hb dX6_grantValue_17 rfl (lv_at hl 1 rfl) ?_
    obtain ⟨r_2, hc_3, hf⟩ := bd_of hf
    refine fn_V (v := some (.int r_2)) (As := [.int x1]) (rest := []) (st1 := [.int r_2]) (ws' := (wMo X mo al sv sm asd th ho fr txt tl pos od nu su)) (nL := 3) ⟨hx, hb, hml, hown, hts⟩ (c_X6_passes l X mo al sv sm asd th ho fr txt tl pos od nu su x1 r_2 hc_3) (cwV 1 hts gX6_grantValue_X6_passes rfl rfl rfl (by decide +kernel) ⟨Nat.le_of_ble_eq_true rfl, Nat.le_of_ble_eq_true rfl⟩) 6 rfl rfl rfl rfl hl.1 rfl (Nat.le_of_ble_eq_true rfl) dX6_grantValue_18 hK hP (hD0.addr rfl) hS hA [0, 1, 2, 3, 4, 5, 6, 7] rfl rfl rfl rfl ⟨Nat.zero_le _, Nat.zero_le _⟩ (fun H locs hP hD hS => ?_)
    cases hf
    exact fn_iret hx hb hr hlocks hP hS dX6_grantValue_21
  · replace hf := fp_f c_1 hf
    refine lv_aload_n hx hb dX6_grantValue_5 rfl (lv_at hl 0 rfl) ?_
    refine lv_iload_n hx hb dX6_grantValue_6 rfl (lv_at hl 1 rfl) ?_
    refine lv_iload_n hx hb dX6_grantValue_7 rfl (lv_at hl 2 rfl) ?_
    refine lv_iconst (v := 1) hx hb dX6_grantValue_8 (by decide) ?_
    refine lv_iadd hx hb dX6_grantValue_9 ?_
    obtain ⟨r_4, hc_5, hf⟩ := bd_of hf
    refine fn_V (v := some (.int r_4)) (As := [.int x1, .int (x2 + (1 : Int32))]) (rest := []) (st1 := [.int r_4]) (ws' := (wMo X mo al sv sm asd th ho fr txt tl pos od nu su)) (nL := 3) ⟨hx, hb, hml, hown, hts⟩ (c_X6_of l X mo al sv sm asd th ho fr txt tl pos od nu su x1 (x2 + (1 : Int32)) r_4 hc_5) (cwV 2 hts gX6_grantValue_X6_of rfl rfl rfl (by decide +kernel) ⟨Nat.le_of_ble_eq_true rfl, Nat.le_of_ble_eq_true rfl⟩) 6 rfl rfl rfl rfl hl.1 rfl (Nat.le_of_ble_eq_true rfl) dX6_grantValue_10 hK hP (hD0.addr rfl) hS hA [0, 1, 2, 3, 4, 5, 6, 7] rfl rfl rfl rfl ⟨Nat.zero_le _, Nat.zero_le _⟩ (fun H locs hP hD hS => ?_)
    refine lv_goto (tgt := 21) hx hb dX6_grantValue_13 (by decide) ?_
    cases hf
    exact fn_iret hx hb hr hlocks hP hS dX6_grantValue_21

def f_X6_grantOf (x1 : Int32) (x2 : Int32) (al : (Nat → Int32)) (th : Int32) (ho : (Nat → Int32)) : Option (Int32 × Int32 × (Nat → Int32)) :=
  bd (f_X6_placeOf x1 al) (fun r_1 =>
  if r_1 = (-1 : Int32) then
  (bd (f_X6_in x2.toInt64 (0 : Int64) (5 : Int64)) (fun r_4 =>
  bd2 (f_X6_goes (0 : Int32) r_4 (1 : Int32) th) (fun r_6 th_7 =>
  if r_6 = (0 : Int32) then
  (some ((0 : Int32), th_7, ho))
  else
  (bd (f_X6_lay al ho) (fun ho_10 =>
  bd (f_X6_grantValue r_1 x2 al ho_10) (fun r_12 =>
  some (r_12, th_7, ho_10)))))))
  else
  (bd (f_X6_in x2.toInt64 (0 : Int64) (5 : Int64)) (fun r_14 =>
  bd2 (f_X6_goes (1 : Int32) r_14 (1 : Int32) th) (fun r_16 th_17 =>
  if r_16 = (0 : Int32) then
  (some ((0 : Int32), th_17, ho))
  else
  (bd (f_X6_lay al ho) (fun ho_20 =>
  bd (f_X6_grantValue r_1 x2 al ho_20) (fun r_22 =>
  some (r_22, th_17, ho_20))))))))
set_option maxHeartbeats 4000000 in
set_option maxRecDepth 100000 in
theorem c_X6_grantOf (l : Launch) (X : cx_G) (mo : (Nat → Nat)) (al : (Nat → Int32)) (sv : (Nat → Int32)) (sm : Int32) (asd : (Nat → Int32)) (th : Int32) (ho : (Nat → Int32)) (fr : (Nat → Int32)) (txt : (Nat → Int32)) (tl : Int32) (pos : Int32) (od : Int32) (nu : (Nat → Int32)) (su : Int64) (x1 : Int32) (x2 : Int32) (r : Int32) (th' : Int32) (ho' : (Nat → Int32)) (hf : f_X6_grantOf x1 x2 al th ho = some (r, th', ho')) : Fn l yX6_grantOf wsX6_grantOf ({ frames := 3, cells := 0, slots := 0, locals := 68 } : Room) X [.ref (mo 0), .int x1, .int x2] (wMo X mo al sv sm asd th ho fr txt tl pos od nu su) (some (.int r)) (wMo X mo al sv sm asd th' ho' fr txt tl pos od nu su) := by
  refine fn_intro (cc := cX6_grantOf) (maxL := 4) (ret := (some .int)) (by decide) rfl rfl (Nat.le_of_ble_eq_true rfl) ?_
  intro p e s m args below meth c A ls hx hb hml hr hts hown hlocks hK hP hD0 hS hA hl
  have hown : s.vm.findClass RX6 = some m.cls := hown
  have hl : lv_has ls 4 [(0, .ref (mo 0)), (1, .int x1), (2, .int x2)] := hl
  unfold f_X6_grantOf at hf
  refine lv_aload_n hx hb dX6_grantOf_0 rfl (lv_at hl 0 rfl) ?_
  refine lv_iload_n hx hb dX6_grantOf_1 rfl (lv_at hl 1 rfl) ?_
  obtain ⟨r_1, hc_2, hf⟩ := bd_of hf
  refine fn_V (v := some (.int r_1)) (As := [.int x1]) (rest := []) (st1 := [.int r_1]) (ws' := (wMo X mo al sv sm asd th ho fr txt tl pos od nu su)) (nL := 4) ⟨hx, hb, hml, hown, hts⟩ (c_X6_placeOf l X mo al sv sm asd th ho fr txt tl pos od nu su x1 r_1 hc_2) (cwV 1 hts gX6_grantOf_X6_placeOf rfl rfl rfl (by decide +kernel) ⟨Nat.le_of_ble_eq_true rfl, Nat.le_of_ble_eq_true rfl⟩) 6 rfl rfl rfl rfl hl.1 rfl (Nat.le_of_ble_eq_true rfl) dX6_grantOf_2 hK hP (hD0.addr rfl) hS hA [0, 1, 2, 3, 4, 5, 6, 7] rfl rfl rfl rfl ⟨Nat.zero_le _, Nat.zero_le _⟩ (fun H locs hP hD hS => ?_)
  refine lv_istore_n (lv' := [(3, .int r_1), (0, .ref (mo 0)), (1, .int x1), (2, .int x2)]) hx hb dX6_grantOf_5 rfl hl (by decide) rfl (fun ls hl => ?_)
  refine lv_aload_n hx hb dX6_grantOf_6 rfl (lv_at hl 1 rfl) ?_
  refine lv_iload_n hx hb dX6_grantOf_7 rfl (lv_at hl 0 rfl) ?_
  refine lv_iconst (v := -1) hx hb dX6_grantOf_8 (by decide) ?_
  refine lv_icmp_eq (tgt := 16) hx hb dX6_grantOf_9 (by decide) (fun c_3 => ?_) (fun c_3 => ?_)
  · replace hf := fp_t c_3 hf
    refine lv_iconst (v := 0) hx hb dX6_grantOf_16 (by decide) ?_
    refine lv_iload_n hx hb dX6_grantOf_17 rfl (lv_at hl 3 rfl) ?_
    refine lv_i2l (v := x2.toInt64) hx hb dX6_grantOf_18 rfl ?_
    refine lv_lconst (v := 0) hx hb dX6_grantOf_19 (by decide) ?_
    refine lv_ldc2 hx hb hown (hts (.constantLong RX6 149 (5)) (by decide +kernel)) dX6_grantOf_20 ?_
    obtain ⟨r_4, hc_5, hf⟩ := bd_of hf
    refine fn_Sx (v := some (.int r_4)) (As := [.long x2.toInt64, .long (0 : Int64), .long (5 : Int64)]) (rest := [.int (0 : Int32), .ref (mo 0)]) (st1 := [.int r_4, .int (0 : Int32), .ref (mo 0)]) (ws' := (wMo X mo al sv sm asd th ho fr txt tl pos od nu su)) (nL := 4) ⟨hx, hb, hml, hown, hts⟩ (c_X6_in l X x2.toInt64 (0 : Int64) (5 : Int64) r_4 hc_5) (va_cwS 3 hts gX6_grantOf_X6_in rfl rfl rfl (by decide +kernel) ⟨Nat.le_of_ble_eq_true rfl, Nat.le_of_ble_eq_true rfl⟩) rfl hl.1 rfl (Nat.le_of_ble_eq_true rfl) dX6_grantOf_23 hK hP (hD0.addr rfl) hS hA [] rfl rfl rfl rfl ⟨Nat.zero_le _, Nat.zero_le _⟩ (fun H locs hP hD hS => ?_)
    refine lv_iconst (v := 1) hx hb dX6_grantOf_26 (by decide) ?_
    obtain ⟨r_6, th_7, hc_8, hf⟩ := bd2_of hf
    refine fn_V (v := some (.int r_6)) (As := [.int (0 : Int32), .int r_4, .int (1 : Int32)]) (rest := []) (st1 := [.int r_6]) (ws' := (wMo X mo al sv sm asd th_7 ho fr txt tl pos od nu su)) (nL := 4) ⟨hx, hb, hml, hown, hts⟩ (c_X6_goes l X mo al sv sm asd th ho fr txt tl pos od nu su (0 : Int32) r_4 (1 : Int32) r_6 th_7 hc_8) (cwV 3 hts gX6_grantOf_X6_goes rfl rfl rfl (by decide +kernel) ⟨Nat.le_of_ble_eq_true rfl, Nat.le_of_ble_eq_true rfl⟩) 6 rfl rfl rfl rfl hl.1 rfl (Nat.le_of_ble_eq_true rfl) dX6_grantOf_27 hK hP (hD0.addr rfl) hS hA [0, 1, 2, 3, 4, 5, 6, 7] rfl rfl rfl rfl ⟨Nat.zero_le _, Nat.zero_le _⟩ (fun H locs hP hD hS => ?_)
    refine lv_if_ne (tgt := 35) hx hb dX6_grantOf_30 (by decide) (fun c_9 => ?_) (fun c_9 => ?_)
    · replace hf := fp_f c_9 hf
      refine lv_aload_n hx hb dX6_grantOf_35 rfl (lv_at hl 1 rfl) ?_
      obtain ⟨ho_10, hc_11, hf⟩ := bd_of hf
      refine fn_V (v := none) (As := []) (rest := []) (st1 := []) (ws' := (wMo X mo al sv sm asd th_7 ho_10 fr txt tl pos od nu su)) (nL := 4) ⟨hx, hb, hml, hown, hts⟩ (c_X6_lay l X mo al sv sm asd th_7 ho fr txt tl pos od nu su ho_10 hc_11) (cwV 0 hts gX6_grantOf_X6_lay rfl rfl rfl (by decide +kernel) ⟨Nat.le_of_ble_eq_true rfl, Nat.le_of_ble_eq_true rfl⟩) 6 rfl rfl rfl rfl hl.1 rfl (Nat.le_of_ble_eq_true rfl) dX6_grantOf_36 hK hP (hD0.addr rfl) hS hA [0, 1, 2, 3, 4, 5, 6, 7] rfl rfl rfl rfl ⟨Nat.zero_le _, Nat.zero_le _⟩ (fun H locs hP hD hS => ?_)
      refine lv_aload_n hx hb dX6_grantOf_39 rfl (lv_at hl 1 rfl) ?_
      refine lv_iload_n hx hb dX6_grantOf_40 rfl (lv_at hl 0 rfl) ?_
      refine lv_iload_n hx hb dX6_grantOf_41 rfl (lv_at hl 3 rfl) ?_
      obtain ⟨r_12, hc_13, hf⟩ := bd_of hf
      refine fn_V (v := some (.int r_12)) (As := [.int r_1, .int x2]) (rest := []) (st1 := [.int r_12]) (ws' := (wMo X mo al sv sm asd th_7 ho_10 fr txt tl pos od nu su)) (nL := 4) ⟨hx, hb, hml, hown, hts⟩ (c_X6_grantValue l X mo al sv sm asd th_7 ho_10 fr txt tl pos od nu su r_1 x2 r_12 hc_13) (cwV 2 hts gX6_grantOf_X6_grantValue rfl rfl rfl (by decide +kernel) ⟨Nat.le_of_ble_eq_true rfl, Nat.le_of_ble_eq_true rfl⟩) 6 rfl rfl rfl rfl hl.1 rfl (Nat.le_of_ble_eq_true rfl) dX6_grantOf_42 hK hP (hD0.addr rfl) hS hA [0, 1, 2, 3, 4, 5, 6, 7] rfl rfl rfl rfl ⟨Nat.zero_le _, Nat.zero_le _⟩ (fun H locs hP hD hS => ?_)
      cases hf
      exact fn_iret hx hb hr hlocks hP hS dX6_grantOf_45
    · replace hf := fp_t c_9 hf
      refine lv_iconst (v := 0) hx hb dX6_grantOf_33 (by decide) ?_
      cases hf
      exact fn_iret hx hb hr hlocks hP hS dX6_grantOf_34
  · replace hf := fp_f c_3 hf
    refine lv_iconst (v := 1) hx hb dX6_grantOf_12 (by decide) ?_
    refine lv_goto (tgt := 17) hx hb dX6_grantOf_13 (by decide) ?_
    refine lv_iload_n hx hb dX6_grantOf_17 rfl (lv_at hl 3 rfl) ?_
    refine lv_i2l (v := x2.toInt64) hx hb dX6_grantOf_18 rfl ?_
    refine lv_lconst (v := 0) hx hb dX6_grantOf_19 (by decide) ?_
    refine lv_ldc2 hx hb hown (hts (.constantLong RX6 149 (5)) (by decide +kernel)) dX6_grantOf_20 ?_
    obtain ⟨r_14, hc_15, hf⟩ := bd_of hf
    refine fn_Sx (v := some (.int r_14)) (As := [.long x2.toInt64, .long (0 : Int64), .long (5 : Int64)]) (rest := [.int (1 : Int32), .ref (mo 0)]) (st1 := [.int r_14, .int (1 : Int32), .ref (mo 0)]) (ws' := (wMo X mo al sv sm asd th ho fr txt tl pos od nu su)) (nL := 4) ⟨hx, hb, hml, hown, hts⟩ (c_X6_in l X x2.toInt64 (0 : Int64) (5 : Int64) r_14 hc_15) (va_cwS 3 hts gX6_grantOf_X6_in rfl rfl rfl (by decide +kernel) ⟨Nat.le_of_ble_eq_true rfl, Nat.le_of_ble_eq_true rfl⟩) rfl hl.1 rfl (Nat.le_of_ble_eq_true rfl) dX6_grantOf_23 hK hP (hD0.addr rfl) hS hA [] rfl rfl rfl rfl ⟨Nat.zero_le _, Nat.zero_le _⟩ (fun H locs hP hD hS => ?_)
    refine lv_iconst (v := 1) hx hb dX6_grantOf_26 (by decide) ?_
    obtain ⟨r_16, th_17, hc_18, hf⟩ := bd2_of hf
    refine fn_V (v := some (.int r_16)) (As := [.int (1 : Int32), .int r_14, .int (1 : Int32)]) (rest := []) (st1 := [.int r_16]) (ws' := (wMo X mo al sv sm asd th_17 ho fr txt tl pos od nu su)) (nL := 4) ⟨hx, hb, hml, hown, hts⟩ (c_X6_goes l X mo al sv sm asd th ho fr txt tl pos od nu su (1 : Int32) r_14 (1 : Int32) r_16 th_17 hc_18) (cwV 3 hts gX6_grantOf_X6_goes rfl rfl rfl (by decide +kernel) ⟨Nat.le_of_ble_eq_true rfl, Nat.le_of_ble_eq_true rfl⟩) 6 rfl rfl rfl rfl hl.1 rfl (Nat.le_of_ble_eq_true rfl) dX6_grantOf_27 hK hP (hD0.addr rfl) hS hA [0, 1, 2, 3, 4, 5, 6, 7] rfl rfl rfl rfl ⟨Nat.zero_le _, Nat.zero_le _⟩ (fun H locs hP hD hS => ?_)
    refine lv_if_ne (tgt := 35) hx hb dX6_grantOf_30 (by decide) (fun c_19 => ?_) (fun c_19 => ?_)
    · replace hf := fp_f c_19 hf
      refine lv_aload_n hx hb dX6_grantOf_35 rfl (lv_at hl 1 rfl) ?_
      obtain ⟨ho_20, hc_21, hf⟩ := bd_of hf
      refine fn_V (v := none) (As := []) (rest := []) (st1 := []) (ws' := (wMo X mo al sv sm asd th_17 ho_20 fr txt tl pos od nu su)) (nL := 4) ⟨hx, hb, hml, hown, hts⟩ (c_X6_lay l X mo al sv sm asd th_17 ho fr txt tl pos od nu su ho_20 hc_21) (cwV 0 hts gX6_grantOf_X6_lay rfl rfl rfl (by decide +kernel) ⟨Nat.le_of_ble_eq_true rfl, Nat.le_of_ble_eq_true rfl⟩) 6 rfl rfl rfl rfl hl.1 rfl (Nat.le_of_ble_eq_true rfl) dX6_grantOf_36 hK hP (hD0.addr rfl) hS hA [0, 1, 2, 3, 4, 5, 6, 7] rfl rfl rfl rfl ⟨Nat.zero_le _, Nat.zero_le _⟩ (fun H locs hP hD hS => ?_)
      refine lv_aload_n hx hb dX6_grantOf_39 rfl (lv_at hl 1 rfl) ?_
      refine lv_iload_n hx hb dX6_grantOf_40 rfl (lv_at hl 0 rfl) ?_
      refine lv_iload_n hx hb dX6_grantOf_41 rfl (lv_at hl 3 rfl) ?_
      obtain ⟨r_22, hc_23, hf⟩ := bd_of hf
      refine fn_V (v := some (.int r_22)) (As := [.int r_1, .int x2]) (rest := []) (st1 := [.int r_22]) (ws' := (wMo X mo al sv sm asd th_17 ho_20 fr txt tl pos od nu su)) (nL := 4) ⟨hx, hb, hml, hown, hts⟩ (c_X6_grantValue l X mo al sv sm asd th_17 ho_20 fr txt tl pos od nu su r_1 x2 r_22 hc_23) (cwV 2 hts gX6_grantOf_X6_grantValue rfl rfl rfl (by decide +kernel) ⟨Nat.le_of_ble_eq_true rfl, Nat.le_of_ble_eq_true rfl⟩) 6 rfl rfl rfl rfl hl.1 rfl (Nat.le_of_ble_eq_true rfl) dX6_grantOf_42 hK hP (hD0.addr rfl) hS hA [0, 1, 2, 3, 4, 5, 6, 7] rfl rfl rfl rfl ⟨Nat.zero_le _, Nat.zero_le _⟩ (fun H locs hP hD hS => ?_)
      cases hf
      exact fn_iret hx hb hr hlocks hP hS dX6_grantOf_45
    · replace hf := fp_t c_19 hf
      refine lv_iconst (v := 0) hx hb dX6_grantOf_33 (by decide) ?_
      cases hf
      exact fn_iret hx hb hr hlocks hP hS dX6_grantOf_34

def f_X6_isLink (x1 : Int32) (x2 : Int32) (al : (Nat → Int32)) (ho : (Nat → Int32)) : Option (Int32) :=
  bd (f_X6_of x1 (3 : Int32) al) (fun r_1 =>
  if r_1 = x2 then
  (bd (f_X6_of x1 (4 : Int32) al) (fun r_4 =>
  if r_4 &&& (1 : Int32) = (0 : Int32) then
  (some (0 : Int32))
  else
  (bd (f_X6_of x1 (1 : Int32) al) (fun r_7 =>
  bd (f_X6_holds r_7 x2 ho) (fun r_9 =>
  if r_9 &&& (5 : Int32) = (5 : Int32) then
  (bd (f_X6_mask x2 al) (fun r_12 =>
  if r_12 &&& (1 : Int32) = (0 : Int32) then
  (some (0 : Int32))
  else
  (some (1 : Int32))))
  else
  (some (0 : Int32)))))))
  else
  (some (0 : Int32)))
theorem z_X6_isLink {x1 : Int32} {x2 : Int32} {al : (Nat → Int32)} {ho : (Nat → Int32)} {r : Int32} (hf : f_X6_isLink x1 x2 al ho = some r) : r = 0 ∨ r = 1 := by
  unfold f_X6_isLink at hf
  obtain ⟨r_1, hc_2, hf⟩ := bd_of hf
  by_cases c_3 : r_1 = x2
  · replace hf := fp_t c_3 hf
    obtain ⟨r_4, hc_5, hf⟩ := bd_of hf
    by_cases c_6 : r_4 &&& (1 : Int32) = (0 : Int32)
    · replace hf := fp_t c_6 hf
      cases hf
      exact Or.inl rfl
    · replace hf := fp_f c_6 hf
      obtain ⟨r_7, hc_8, hf⟩ := bd_of hf
      obtain ⟨r_9, hc_10, hf⟩ := bd_of hf
      by_cases c_11 : r_9 &&& (5 : Int32) = (5 : Int32)
      · replace hf := fp_t c_11 hf
        obtain ⟨r_12, hc_13, hf⟩ := bd_of hf
        by_cases c_14 : r_12 &&& (1 : Int32) = (0 : Int32)
        · replace hf := fp_t c_14 hf
          cases hf
          exact Or.inl rfl
        · replace hf := fp_f c_14 hf
          cases hf
          exact Or.inr rfl
      · replace hf := fp_f c_11 hf
        cases hf
        exact Or.inl rfl
  · replace hf := fp_f c_3 hf
    cases hf
    exact Or.inl rfl
set_option maxHeartbeats 4000000 in
set_option maxRecDepth 100000 in
theorem c_X6_isLink (l : Launch) (X : cx_G) (mo : (Nat → Nat)) (al : (Nat → Int32)) (sv : (Nat → Int32)) (sm : Int32) (asd : (Nat → Int32)) (th : Int32) (ho : (Nat → Int32)) (fr : (Nat → Int32)) (txt : (Nat → Int32)) (tl : Int32) (pos : Int32) (od : Int32) (nu : (Nat → Int32)) (su : Int64) (x1 : Int32) (x2 : Int32) (r : Int32) (hf : f_X6_isLink x1 x2 al ho = some r) : Fn l yX6_isLink wsX6_isLink ({ frames := 1, cells := 0, slots := 0, locals := 22 } : Room) X [.ref (mo 0), .int x1, .int x2] (wMo X mo al sv sm asd th ho fr txt tl pos od nu su) (some (.int r)) (wMo X mo al sv sm asd th ho fr txt tl pos od nu su) := by
  refine fn_intro (cc := cX6_isLink) (maxL := 3) (ret := (some .boolean)) (by decide) rfl rfl (Nat.le_of_ble_eq_true rfl) ?_
  intro p e s m args below meth c A ls hx hb hml hr hts hown hlocks hK hP hD0 hS hA hl
  have hown : s.vm.findClass RX6 = some m.cls := hown
  have hl : lv_has ls 3 [(0, .ref (mo 0)), (1, .int x1), (2, .int x2)] := hl
  unfold f_X6_isLink at hf
  refine lv_aload_n hx hb dX6_isLink_0 rfl (lv_at hl 0 rfl) ?_
  refine lv_iload_n hx hb dX6_isLink_1 rfl (lv_at hl 1 rfl) ?_
  refine lv_iconst (v := 3) hx hb dX6_isLink_2 (by decide) ?_
  obtain ⟨r_1, hc_2, hf⟩ := bd_of hf
  refine fn_V (v := some (.int r_1)) (As := [.int x1, .int (3 : Int32)]) (rest := []) (st1 := [.int r_1]) (ws' := (wMo X mo al sv sm asd th ho fr txt tl pos od nu su)) (nL := 3) ⟨hx, hb, hml, hown, hts⟩ (c_X6_of l X mo al sv sm asd th ho fr txt tl pos od nu su x1 (3 : Int32) r_1 hc_2) (cwV 2 hts gX6_isLink_X6_of rfl rfl rfl (by decide +kernel) ⟨Nat.le_of_ble_eq_true rfl, Nat.le_of_ble_eq_true rfl⟩) 6 rfl rfl rfl rfl hl.1 rfl (Nat.le_of_ble_eq_true rfl) dX6_isLink_3 hK hP (hD0.addr rfl) hS hA [0, 1, 2, 3, 4, 5, 6, 7] rfl rfl rfl rfl ⟨Nat.zero_le _, Nat.zero_le _⟩ (fun H locs hP hD hS => ?_)
  refine lv_iload_n hx hb dX6_isLink_6 rfl (lv_at hl 2 rfl) ?_
  refine lv_icmp_ne (tgt := 52) hx hb dX6_isLink_7 (by decide) (fun c_3 => ?_) (fun c_3 => ?_)
  · replace hf := fp_f c_3 hf
    refine lv_iconst (v := 0) hx hb dX6_isLink_52 (by decide) ?_
    cases hf
    exact fn_zret hx hb hr rfl hlocks hP hS dX6_isLink_53
  · replace hf := fp_t c_3 hf
    refine lv_aload_n hx hb dX6_isLink_10 rfl (lv_at hl 0 rfl) ?_
    refine lv_iload_n hx hb dX6_isLink_11 rfl (lv_at hl 1 rfl) ?_
    refine lv_iconst (v := 4) hx hb dX6_isLink_12 (by decide) ?_
    obtain ⟨r_4, hc_5, hf⟩ := bd_of hf
    refine fn_V (v := some (.int r_4)) (As := [.int x1, .int (4 : Int32)]) (rest := []) (st1 := [.int r_4]) (ws' := (wMo X mo al sv sm asd th ho fr txt tl pos od nu su)) (nL := 3) ⟨hx, hb, hml, hown, hts⟩ (c_X6_of l X mo al sv sm asd th ho fr txt tl pos od nu su x1 (4 : Int32) r_4 hc_5) (cwV 2 hts gX6_isLink_X6_of rfl rfl rfl (by decide +kernel) ⟨Nat.le_of_ble_eq_true rfl, Nat.le_of_ble_eq_true rfl⟩) 6 rfl rfl rfl rfl hl.1 rfl (Nat.le_of_ble_eq_true rfl) dX6_isLink_13 hK hP (hD0.addr rfl) hS hA [0, 1, 2, 3, 4, 5, 6, 7] rfl rfl rfl rfl ⟨Nat.zero_le _, Nat.zero_le _⟩ (fun H locs hP hD hS => ?_)
    refine lv_iconst (v := 1) hx hb dX6_isLink_16 (by decide) ?_
    refine lv_iand hx hb dX6_isLink_17 ?_
    refine lv_if_eq (tgt := 52) hx hb dX6_isLink_18 (by decide) (fun c_6 => ?_) (fun c_6 => ?_)
    · replace hf := fp_t c_6 hf
      refine lv_iconst (v := 0) hx hb dX6_isLink_52 (by decide) ?_
      cases hf
      exact fn_zret hx hb hr rfl hlocks hP hS dX6_isLink_53
    · replace hf := fp_f c_6 hf
      refine lv_aload_n hx hb dX6_isLink_21 rfl (lv_at hl 0 rfl) ?_
      refine lv_aload_n hx hb dX6_isLink_22 rfl (lv_at hl 0 rfl) ?_
      refine lv_iload_n hx hb dX6_isLink_23 rfl (lv_at hl 1 rfl) ?_
      refine lv_iconst (v := 1) hx hb dX6_isLink_24 (by decide) ?_
      obtain ⟨r_7, hc_8, hf⟩ := bd_of hf
      refine fn_V (v := some (.int r_7)) (As := [.int x1, .int (1 : Int32)]) (rest := [.ref (mo 0)]) (st1 := [.int r_7, .ref (mo 0)]) (ws' := (wMo X mo al sv sm asd th ho fr txt tl pos od nu su)) (nL := 3) ⟨hx, hb, hml, hown, hts⟩ (c_X6_of l X mo al sv sm asd th ho fr txt tl pos od nu su x1 (1 : Int32) r_7 hc_8) (cwV 2 hts gX6_isLink_X6_of rfl rfl rfl (by decide +kernel) ⟨Nat.le_of_ble_eq_true rfl, Nat.le_of_ble_eq_true rfl⟩) 6 rfl rfl rfl rfl hl.1 rfl (Nat.le_of_ble_eq_true rfl) dX6_isLink_25 hK hP (hD0.addr rfl) hS hA [0, 1, 2, 3, 4, 5, 6, 7] rfl rfl rfl rfl ⟨Nat.zero_le _, Nat.zero_le _⟩ (fun H locs hP hD hS => ?_)
      refine lv_iload_n hx hb dX6_isLink_28 rfl (lv_at hl 2 rfl) ?_
      obtain ⟨r_9, hc_10, hf⟩ := bd_of hf
      refine fn_V (v := some (.int r_9)) (As := [.int r_7, .int x2]) (rest := []) (st1 := [.int r_9]) (ws' := (wMo X mo al sv sm asd th ho fr txt tl pos od nu su)) (nL := 3) ⟨hx, hb, hml, hown, hts⟩ (c_X6_holds l X mo al sv sm asd th ho fr txt tl pos od nu su r_7 x2 r_9 hc_10) (cwV 2 hts gX6_isLink_X6_holds rfl rfl rfl (by decide +kernel) ⟨Nat.le_of_ble_eq_true rfl, Nat.le_of_ble_eq_true rfl⟩) 6 rfl rfl rfl rfl hl.1 rfl (Nat.le_of_ble_eq_true rfl) dX6_isLink_29 hK hP (hD0.addr rfl) hS hA [0, 1, 2, 3, 4, 5, 6, 7] rfl rfl rfl rfl ⟨Nat.zero_le _, Nat.zero_le _⟩ (fun H locs hP hD hS => ?_)
      refine lv_iconst (v := 5) hx hb dX6_isLink_32 (by decide) ?_
      refine lv_iand hx hb dX6_isLink_33 ?_
      refine lv_iconst (v := 5) hx hb dX6_isLink_34 (by decide) ?_
      refine lv_icmp_ne (tgt := 52) hx hb dX6_isLink_35 (by decide) (fun c_11 => ?_) (fun c_11 => ?_)
      · replace hf := fp_f c_11 hf
        refine lv_iconst (v := 0) hx hb dX6_isLink_52 (by decide) ?_
        cases hf
        exact fn_zret hx hb hr rfl hlocks hP hS dX6_isLink_53
      · replace hf := fp_t c_11 hf
        refine lv_aload_n hx hb dX6_isLink_38 rfl (lv_at hl 0 rfl) ?_
        refine lv_iload_n hx hb dX6_isLink_39 rfl (lv_at hl 2 rfl) ?_
        obtain ⟨r_12, hc_13, hf⟩ := bd_of hf
        refine fn_V (v := some (.int r_12)) (As := [.int x2]) (rest := []) (st1 := [.int r_12]) (ws' := (wMo X mo al sv sm asd th ho fr txt tl pos od nu su)) (nL := 3) ⟨hx, hb, hml, hown, hts⟩ (c_X6_mask l X mo al sv sm asd th ho fr txt tl pos od nu su x2 r_12 hc_13) (cwV 1 hts gX6_isLink_X6_mask rfl rfl rfl (by decide +kernel) ⟨Nat.le_of_ble_eq_true rfl, Nat.le_of_ble_eq_true rfl⟩) 6 rfl rfl rfl rfl hl.1 rfl (Nat.le_of_ble_eq_true rfl) dX6_isLink_40 hK hP (hD0.addr rfl) hS hA [0, 1, 2, 3, 4, 5, 6, 7] rfl rfl rfl rfl ⟨Nat.zero_le _, Nat.zero_le _⟩ (fun H locs hP hD hS => ?_)
        refine lv_iconst (v := 1) hx hb dX6_isLink_43 (by decide) ?_
        refine lv_iand hx hb dX6_isLink_44 ?_
        refine lv_if_eq (tgt := 52) hx hb dX6_isLink_45 (by decide) (fun c_14 => ?_) (fun c_14 => ?_)
        · replace hf := fp_t c_14 hf
          refine lv_iconst (v := 0) hx hb dX6_isLink_52 (by decide) ?_
          cases hf
          exact fn_zret hx hb hr rfl hlocks hP hS dX6_isLink_53
        · replace hf := fp_f c_14 hf
          refine lv_iconst (v := 1) hx hb dX6_isLink_48 (by decide) ?_
          refine lv_goto (tgt := 53) hx hb dX6_isLink_49 (by decide) ?_
          cases hf
          exact fn_zret hx hb hr rfl hlocks hP hS dX6_isLink_53

def f_X6_measure_L44 (x1 : Int32) (x2 : Int32) (al : (Nat → Int32)) (ho : (Nat → Int32)) : Nat → Int32 → (Nat → Int32) →  Option ((Nat → Int32))
  | 0, _, _ => none
  | k_ + 1, x3, fr =>
    ix (5 : Int32) 320 (
    if al (5 : Int32).toNatClampNeg ≤ x3 then
    (some fr)
    else
    (bd (f_X6_isLink x3 x1 al ho) (fun r_3 =>
    if r_3 = (0 : Int32) then
    (bd (f_X6_of x3 (2 : Int32) al) (fun r_6 =>
    bd (f_X6_of x3 (2 : Int32) al) (fun r_9 =>
    ix r_9 10 (
    nm (fr r_9.toNatClampNeg) (fun v_12 =>
    ix r_6 10 (
    nm (upd fr r_6.toNatClampNeg v_12) (fun fr_14 =>
    nm (x3 + (1 : Int32)) (fun v_15 =>
    f_X6_measure_L44 x1 x2 al ho k_ v_15 fr_14))))))))
    else
    (bd (f_X6_of x3 (1 : Int32) al) (fun r_16 =>
    ix r_16 10 (
    if fr r_16.toNatClampNeg = x2 then
    (bd (f_X6_of x3 (2 : Int32) al) (fun r_30 =>
    ix r_30 10 (
    if fr r_30.toNatClampNeg = (-1 : Int32) then
    (bd (f_X6_of x3 (2 : Int32) al) (fun r_44 =>
    nm (x2 + (1 : Int32)) (fun v_47 =>
    ix r_44 10 (
    nm (upd fr r_44.toNatClampNeg v_47) (fun fr_49 =>
    nm (x3 + (1 : Int32)) (fun v_50 =>
    f_X6_measure_L44 x1 x2 al ho k_ v_50 fr_49))))))
    else
    (bd (f_X6_of x3 (2 : Int32) al) (fun r_34 =>
    bd (f_X6_of x3 (2 : Int32) al) (fun r_37 =>
    ix r_37 10 (
    nm (fr r_37.toNatClampNeg) (fun v_40 =>
    ix r_34 10 (
    nm (upd fr r_34.toNatClampNeg v_40) (fun fr_42 =>
    nm (x3 + (1 : Int32)) (fun v_43 =>
    f_X6_measure_L44 x1 x2 al ho k_ v_43 fr_42)))))))))))
    else
    (bd (f_X6_of x3 (2 : Int32) al) (fun r_20 =>
    bd (f_X6_of x3 (2 : Int32) al) (fun r_23 =>
    ix r_23 10 (
    nm (fr r_23.toNatClampNeg) (fun v_26 =>
    ix r_20 10 (
    nm (upd fr r_20.toNatClampNeg v_26) (fun fr_28 =>
    nm (x3 + (1 : Int32)) (fun v_29 =>
    f_X6_measure_L44 x1 x2 al ho k_ v_29 fr_28))))))))))))))
def f_X6_measure_L36 (x1 : Int32) (al : (Nat → Int32)) (ho : (Nat → Int32)) : Nat → Int32 → (Nat → Int32) →  Option ((Nat → Int32))
  | 0, _, _ => none
  | k_ + 1, x2, fr =>
    if (10 : Int32) ≤ x2 then
    (some fr)
    else
    (bd (f_X6_measure_L44 x1 x2 al ho FU (0 : Int32) fr) (fun fr_52 =>
    nm (x2 + (1 : Int32)) (fun v_54 =>
    f_X6_measure_L36 x1 al ho k_ v_54 fr_52)))
def f_X6_measure_L2 (x1 : Int32) (al : (Nat → Int32)) : Nat → Int32 → (Nat → Int32) →  Option ((Nat → Int32))
  | 0, _, _ => none
  | k_ + 1, x2, fr =>
    if (10 : Int32) ≤ x2 then
    (some fr)
    else
    (bd (f_X6_owner x1 al) (fun r_56 =>
    if x2 = r_56 then
    (ix x2 10 (
    nm (upd fr x2.toNatClampNeg (0 : Int32)) (fun fr_63 =>
    nm (x2 + (1 : Int32)) (fun v_64 =>
    f_X6_measure_L2 x1 al k_ v_64 fr_63))))
    else
    (ix x2 10 (
    nm (upd fr x2.toNatClampNeg (-1 : Int32)) (fun fr_60 =>
    nm (x2 + (1 : Int32)) (fun v_61 =>
    f_X6_measure_L2 x1 al k_ v_61 fr_60))))))
def f_X6_measure (x1 : Int32) (al : (Nat → Int32)) (ho : (Nat → Int32)) (fr : (Nat → Int32)) : Option ((Nat → Int32)) :=
  bd (f_X6_measure_L2 x1 al FU (0 : Int32) fr) (fun fr_65 =>
  bd (f_X6_measure_L36 x1 al ho FU (0 : Int32) fr_65) (fun fr_67 =>
  some fr_67))
set_option maxHeartbeats 4000000 in
set_option maxRecDepth 100000 in
theorem c_X6_measure (l : Launch) (X : cx_G) (mo : (Nat → Nat)) (al : (Nat → Int32)) (sv : (Nat → Int32)) (sm : Int32) (asd : (Nat → Int32)) (th : Int32) (ho : (Nat → Int32)) (fr : (Nat → Int32)) (txt : (Nat → Int32)) (tl : Int32) (pos : Int32) (od : Int32) (nu : (Nat → Int32)) (su : Int64) (x1 : Int32) (fr' : (Nat → Int32)) (hf : f_X6_measure x1 al ho fr = some fr') : Fn l yX6_measure wsX6_measure ({ frames := 2, cells := 0, slots := 0, locals := 44 } : Room) X [.ref (mo 0), .int x1] (wMo X mo al sv sm asd th ho fr txt tl pos od nu su) none (wMo X mo al sv sm asd th ho fr' txt tl pos od nu su) := by
  refine fn_intro (cc := cX6_measure) (maxL := 5) (ret := none) (by decide) rfl rfl (Nat.le_of_ble_eq_true rfl) ?_
  intro p e s m args below meth c A ls hx hb hml hr hts hown hlocks hK hP hD0 hS hA hl
  have hown : s.vm.findClass RX6 = some m.cls := hown
  have hl : lv_has ls 5 [(0, .ref (mo 0)), (1, .int x1)] := hl
  have hiX6 : ∀ w ∈ u_ws RX6 TX6 13, w ∈ wsX6_measure := by decide +kernel
  have k7 := hts (.fieldLink RX6 7 "LentRightsModel" "all" "[I") (by decide +kernel)
  have k22 := hts (.fieldLink RX6 22 "LentRightsModel" "far" "[I") (by decide +kernel)
  have loop_44 : ∀ (Q : State → Prop) (x2 : Int32) (fro : (Nat → Int32)), (∀ (H : Heap) (locs : List Loc) (ls : Array Slot), va_P X.1 vwCl (wMo X mo al sv sm asd th ho fro txt tl pos od nu su) H → va_S A s.heap H locs → lv_has ls 5 [(0, .ref (mo 0)), (1, .int x1), (2, .int x2)] → W p l e ({ frames := 2, cells := 0, slots := 0, locals := 44 } : Room) s m args below meth c H locs 0 0 Q (F0 m 139 ls [])) → ∀ (k_ : Nat) (x3 : Int32) (fr : (Nat → Int32)) (H : Heap) (locs : List Loc) (ls : Array Slot), f_X6_measure_L44 x1 x2 al ho k_ x3 fr = some fro → va_P X.1 vwCl (wMo X mo al sv sm asd th ho fr txt tl pos od nu su) H → va_S A s.heap H locs → lv_has ls 5 [(0, .ref (mo 0)), (1, .int x1), (2, .int x2), (3, .int x3)] → W p l e ({ frames := 2, cells := 0, slots := 0, locals := 44 } : Room) s m args below meth c H locs 0 0 Q (F0 m 44 ls []) := by
    intro Q x2 fro kx k_
    induction k_ with
    | zero => intro x3 fr H locs ls hf; exact nomatch (show (none : Option ((Nat → Int32))) = some _ from hf)
    | succ k_ ih =>
      intro x3 fr H locs ls hf hP hS hl
      unfold f_X6_measure_L44 at hf
      refine lv_iload_n hx hb dX6_measure_44 rfl (lv_at hl 3 rfl) ?_
      refine lv_aload_n hx hb dX6_measure_45 rfl (lv_at hl 0 rfl) ?_
      refine va_get (D := X.1) (ci := 6) (v := .ref (mo 1)) (C := RX6) (T := TX6) (N := 13) hx hb hts hiX6 hown hK.1 hP 0 rfl rfl 0 (by decide) k7 (fun _ h9 => h9) rfl dX6_measure_46 ?_
      refine lv_iconst (v := 5) hx hb dX6_measure_49 (by decide) ?_
      obtain ⟨hi_1, hf⟩ := ix_of hf
      refine va_iald hx hb hK.1 hP 1 0 rfl rfl hi_1 dX6_measure_50 ?_
      refine lv_icmp_ge (tgt := 139) hx hb dX6_measure_51 (by decide) (fun c_2 => ?_) (fun c_2 => ?_)
      · replace hf := fp_t c_2 hf
        cases hf
        exact kx _ _ _ hP hS (lv_sub hl [0, 1, 2] rfl)
      · replace hf := fp_f c_2 hf
        refine lv_aload_n hx hb dX6_measure_54 rfl (lv_at hl 0 rfl) ?_
        refine lv_iload_n hx hb dX6_measure_55 rfl (lv_at hl 3 rfl) ?_
        refine lv_iload_n hx hb dX6_measure_56 rfl (lv_at hl 1 rfl) ?_
        obtain ⟨r_3, hc_4, hf⟩ := bd_of hf
        refine fn_V (v := some (.int r_3)) (As := [.int x3, .int x1]) (rest := []) (st1 := [.int r_3]) (ws' := (wMo X mo al sv sm asd th ho fr txt tl pos od nu su)) (nL := 5) ⟨hx, hb, hml, hown, hts⟩ (c_X6_isLink l X mo al sv sm asd th ho fr txt tl pos od nu su x3 x1 r_3 hc_4) (cwV 2 hts gX6_measure_X6_isLink rfl rfl rfl (by decide +kernel) ⟨Nat.le_of_ble_eq_true rfl, Nat.le_of_ble_eq_true rfl⟩) 6 rfl rfl rfl rfl hl.1 rfl (Nat.le_of_ble_eq_true rfl) dX6_measure_57 hK hP (hD0.addr rfl) hS hA [0, 1, 2, 3, 4, 5, 6, 7] rfl rfl rfl rfl ⟨Nat.zero_le _, Nat.zero_le _⟩ (fun H locs hP hD hS => ?_)
        refine lv_if_eq (tgt := 97) hx hb dX6_measure_60 (by decide) (fun c_5 => ?_) (fun c_5 => ?_)
        · replace hf := fp_t c_5 hf
          refine lv_iconst (v := 0) hx hb dX6_measure_97 (by decide) ?_
          refine lv_istore (lv' := [(4, .int (0 : Int32)), (0, .ref (mo 0)), (1, .int x1), (2, .int x2), (3, .int x3)]) hx hb dX6_measure_98 hl (by decide) rfl (fun ls hl => ?_)
          refine lv_aload_n hx hb dX6_measure_100 rfl (lv_at hl 1 rfl) ?_
          refine va_get (D := X.1) (ci := 6) (v := .ref (mo 5)) (C := RX6) (T := TX6) (N := 13) hx hb hts hiX6 hown hK.1 hP 0 rfl rfl 6 (by decide) k22 (fun _ h9 => h9) rfl dX6_measure_101 ?_
          refine lv_aload_n hx hb dX6_measure_104 rfl (lv_at hl 1 rfl) ?_
          refine lv_iload_n hx hb dX6_measure_105 rfl (lv_at hl 4 rfl) ?_
          refine lv_iconst (v := 2) hx hb dX6_measure_106 (by decide) ?_
          obtain ⟨r_6, hc_7, hf⟩ := bd_of hf
          refine fn_V (v := some (.int r_6)) (As := [.int x3, .int (2 : Int32)]) (rest := [.ref (mo 5)]) (st1 := [.int r_6, .ref (mo 5)]) (ws' := (wMo X mo al sv sm asd th ho fr txt tl pos od nu su)) (nL := 5) ⟨hx, hb, hml, hown, hts⟩ (c_X6_of l X mo al sv sm asd th ho fr txt tl pos od nu su x3 (2 : Int32) r_6 hc_7) (cwV 2 hts gX6_measure_X6_of rfl rfl rfl (by decide +kernel) ⟨Nat.le_of_ble_eq_true rfl, Nat.le_of_ble_eq_true rfl⟩) 6 rfl rfl rfl rfl hl.1 rfl (Nat.le_of_ble_eq_true rfl) dX6_measure_107 hK hP (hD0.addr rfl) hS hA [0, 1, 2, 3, 4, 5, 6, 7] rfl rfl rfl rfl ⟨Nat.zero_le _, Nat.zero_le _⟩ (fun H locs hP hD hS => ?_)
          refine lv_iload hx hb dX6_measure_110 (lv_at hl 0 rfl) ?_
          refine lv_if_eq (tgt := 121) hx hb dX6_measure_112 (by decide) (fun _ => ?_) (fun c9 => absurd c9 (by decide))
          refine lv_aload_n hx hb dX6_measure_121 rfl (lv_at hl 1 rfl) ?_
          refine va_get (D := X.1) (ci := 6) (v := .ref (mo 5)) (C := RX6) (T := TX6) (N := 13) hx hb hts hiX6 hown hK.1 hP 0 rfl rfl 6 (by decide) k22 (fun _ h9 => h9) rfl dX6_measure_122 ?_
          refine lv_aload_n hx hb dX6_measure_125 rfl (lv_at hl 1 rfl) ?_
          refine lv_iload_n hx hb dX6_measure_126 rfl (lv_at hl 4 rfl) ?_
          refine lv_iconst (v := 2) hx hb dX6_measure_127 (by decide) ?_
          obtain ⟨r_9, hc_10, hf⟩ := bd_of hf
          refine fn_V (v := some (.int r_9)) (As := [.int x3, .int (2 : Int32)]) (rest := [.ref (mo 5), .int r_6, .ref (mo 5)]) (st1 := [.int r_9, .ref (mo 5), .int r_6, .ref (mo 5)]) (ws' := (wMo X mo al sv sm asd th ho fr txt tl pos od nu su)) (nL := 5) ⟨hx, hb, hml, hown, hts⟩ (c_X6_of l X mo al sv sm asd th ho fr txt tl pos od nu su x3 (2 : Int32) r_9 hc_10) (cwV 2 hts gX6_measure_X6_of rfl rfl rfl (by decide +kernel) ⟨Nat.le_of_ble_eq_true rfl, Nat.le_of_ble_eq_true rfl⟩) 6 rfl rfl rfl rfl hl.1 rfl (Nat.le_of_ble_eq_true rfl) dX6_measure_128 hK hP (hD0.addr rfl) hS hA [0, 1, 2, 3, 4, 5, 6, 7] rfl rfl rfl rfl ⟨Nat.zero_le _, Nat.zero_le _⟩ (fun H locs hP hD hS => ?_)
          obtain ⟨hi_11, hf⟩ := ix_of hf
          refine va_iald hx hb hK.1 hP 5 0 rfl rfl hi_11 dX6_measure_131 ?_
          refine lv_topi (fun v_12 ev_12 => ?_)
          replace hf := nm_of ev_12 hf
          obtain ⟨hi_13, hf⟩ := ix_of hf
          refine va_iast hx hb hK.1 hP (hD0.addr rfl) hS 5 0 rfl rfl hi_13 dX6_measure_132 (fun H locs hP hD hS => ?_)
          obtain ⟨fr_14, efr_14⟩ : ∃ g : Nat → Int32, g = upd fr r_6.toNatClampNeg v_12 := ⟨_, rfl⟩
          replace hf := nm_of efr_14 hf
          have hP : va_P X.1 vwCl (wMo X mo al sv sm asd th ho fr_14 txt tl pos od nu su) H := by rw [efr_14]; exact hP
          obtain ⟨v_15, ev_15⟩ : ∃ y : Int32, y = x3 + (1 : Int32) := ⟨_, rfl⟩
          replace hf := nm_of ev_15 hf
          refine lv_iinc (v := v_15) (lv' := [(3, .int v_15), (4, .int (0 : Int32)), (0, .ref (mo 0)), (1, .int x1), (2, .int x2)]) hx hb dX6_measure_133 hl (k := 4) rfl (by rw [ev_15]; rfl) (by decide) rfl (fun ls hl => ?_)
          refine lv_goto (tgt := 44) hx hb dX6_measure_136 (by decide) ?_
          exact ih v_15 fr_14 _ _ _ hf hP hS (lv_sub hl [2, 3, 4, 0] rfl)
        · replace hf := fp_f c_5 hf
          refine lv_aload_n hx hb dX6_measure_63 rfl (lv_at hl 0 rfl) ?_
          refine va_get (D := X.1) (ci := 6) (v := .ref (mo 5)) (C := RX6) (T := TX6) (N := 13) hx hb hts hiX6 hown hK.1 hP 0 rfl rfl 6 (by decide) k22 (fun _ h9 => h9) rfl dX6_measure_64 ?_
          refine lv_aload_n hx hb dX6_measure_67 rfl (lv_at hl 0 rfl) ?_
          refine lv_iload_n hx hb dX6_measure_68 rfl (lv_at hl 3 rfl) ?_
          refine lv_iconst (v := 1) hx hb dX6_measure_69 (by decide) ?_
          obtain ⟨r_16, hc_17, hf⟩ := bd_of hf
          refine fn_V (v := some (.int r_16)) (As := [.int x3, .int (1 : Int32)]) (rest := [.ref (mo 5)]) (st1 := [.int r_16, .ref (mo 5)]) (ws' := (wMo X mo al sv sm asd th ho fr txt tl pos od nu su)) (nL := 5) ⟨hx, hb, hml, hown, hts⟩ (c_X6_of l X mo al sv sm asd th ho fr txt tl pos od nu su x3 (1 : Int32) r_16 hc_17) (cwV 2 hts gX6_measure_X6_of rfl rfl rfl (by decide +kernel) ⟨Nat.le_of_ble_eq_true rfl, Nat.le_of_ble_eq_true rfl⟩) 6 rfl rfl rfl rfl hl.1 rfl (Nat.le_of_ble_eq_true rfl) dX6_measure_70 hK hP (hD0.addr rfl) hS hA [0, 1, 2, 3, 4, 5, 6, 7] rfl rfl rfl rfl ⟨Nat.zero_le _, Nat.zero_le _⟩ (fun H locs hP hD hS => ?_)
          obtain ⟨hi_18, hf⟩ := ix_of hf
          refine va_iald hx hb hK.1 hP 5 0 rfl rfl hi_18 dX6_measure_73 ?_
          refine lv_iload_n hx hb dX6_measure_74 rfl (lv_at hl 2 rfl) ?_
          refine lv_icmp_ne (tgt := 97) hx hb dX6_measure_75 (by decide) (fun c_19 => ?_) (fun c_19 => ?_)
          · replace hf := fp_f c_19 hf
            refine lv_iconst (v := 0) hx hb dX6_measure_97 (by decide) ?_
            refine lv_istore (lv' := [(4, .int (0 : Int32)), (0, .ref (mo 0)), (1, .int x1), (2, .int x2), (3, .int x3)]) hx hb dX6_measure_98 hl (by decide) rfl (fun ls hl => ?_)
            refine lv_aload_n hx hb dX6_measure_100 rfl (lv_at hl 1 rfl) ?_
            refine va_get (D := X.1) (ci := 6) (v := .ref (mo 5)) (C := RX6) (T := TX6) (N := 13) hx hb hts hiX6 hown hK.1 hP 0 rfl rfl 6 (by decide) k22 (fun _ h9 => h9) rfl dX6_measure_101 ?_
            refine lv_aload_n hx hb dX6_measure_104 rfl (lv_at hl 1 rfl) ?_
            refine lv_iload_n hx hb dX6_measure_105 rfl (lv_at hl 4 rfl) ?_
            refine lv_iconst (v := 2) hx hb dX6_measure_106 (by decide) ?_
            obtain ⟨r_20, hc_21, hf⟩ := bd_of hf
            refine fn_V (v := some (.int r_20)) (As := [.int x3, .int (2 : Int32)]) (rest := [.ref (mo 5)]) (st1 := [.int r_20, .ref (mo 5)]) (ws' := (wMo X mo al sv sm asd th ho fr txt tl pos od nu su)) (nL := 5) ⟨hx, hb, hml, hown, hts⟩ (c_X6_of l X mo al sv sm asd th ho fr txt tl pos od nu su x3 (2 : Int32) r_20 hc_21) (cwV 2 hts gX6_measure_X6_of rfl rfl rfl (by decide +kernel) ⟨Nat.le_of_ble_eq_true rfl, Nat.le_of_ble_eq_true rfl⟩) 6 rfl rfl rfl rfl hl.1 rfl (Nat.le_of_ble_eq_true rfl) dX6_measure_107 hK hP (hD0.addr rfl) hS hA [0, 1, 2, 3, 4, 5, 6, 7] rfl rfl rfl rfl ⟨Nat.zero_le _, Nat.zero_le _⟩ (fun H locs hP hD hS => ?_)
            refine lv_iload hx hb dX6_measure_110 (lv_at hl 0 rfl) ?_
            refine lv_if_eq (tgt := 121) hx hb dX6_measure_112 (by decide) (fun _ => ?_) (fun c9 => absurd c9 (by decide))
            refine lv_aload_n hx hb dX6_measure_121 rfl (lv_at hl 1 rfl) ?_
            refine va_get (D := X.1) (ci := 6) (v := .ref (mo 5)) (C := RX6) (T := TX6) (N := 13) hx hb hts hiX6 hown hK.1 hP 0 rfl rfl 6 (by decide) k22 (fun _ h9 => h9) rfl dX6_measure_122 ?_
            refine lv_aload_n hx hb dX6_measure_125 rfl (lv_at hl 1 rfl) ?_
            refine lv_iload_n hx hb dX6_measure_126 rfl (lv_at hl 4 rfl) ?_
            refine lv_iconst (v := 2) hx hb dX6_measure_127 (by decide) ?_
            obtain ⟨r_23, hc_24, hf⟩ := bd_of hf
            refine fn_V (v := some (.int r_23)) (As := [.int x3, .int (2 : Int32)]) (rest := [.ref (mo 5), .int r_20, .ref (mo 5)]) (st1 := [.int r_23, .ref (mo 5), .int r_20, .ref (mo 5)]) (ws' := (wMo X mo al sv sm asd th ho fr txt tl pos od nu su)) (nL := 5) ⟨hx, hb, hml, hown, hts⟩ (c_X6_of l X mo al sv sm asd th ho fr txt tl pos od nu su x3 (2 : Int32) r_23 hc_24) (cwV 2 hts gX6_measure_X6_of rfl rfl rfl (by decide +kernel) ⟨Nat.le_of_ble_eq_true rfl, Nat.le_of_ble_eq_true rfl⟩) 6 rfl rfl rfl rfl hl.1 rfl (Nat.le_of_ble_eq_true rfl) dX6_measure_128 hK hP (hD0.addr rfl) hS hA [0, 1, 2, 3, 4, 5, 6, 7] rfl rfl rfl rfl ⟨Nat.zero_le _, Nat.zero_le _⟩ (fun H locs hP hD hS => ?_)
            obtain ⟨hi_25, hf⟩ := ix_of hf
            refine va_iald hx hb hK.1 hP 5 0 rfl rfl hi_25 dX6_measure_131 ?_
            refine lv_topi (fun v_26 ev_26 => ?_)
            replace hf := nm_of ev_26 hf
            obtain ⟨hi_27, hf⟩ := ix_of hf
            refine va_iast hx hb hK.1 hP (hD0.addr rfl) hS 5 0 rfl rfl hi_27 dX6_measure_132 (fun H locs hP hD hS => ?_)
            obtain ⟨fr_28, efr_28⟩ : ∃ g : Nat → Int32, g = upd fr r_20.toNatClampNeg v_26 := ⟨_, rfl⟩
            replace hf := nm_of efr_28 hf
            have hP : va_P X.1 vwCl (wMo X mo al sv sm asd th ho fr_28 txt tl pos od nu su) H := by rw [efr_28]; exact hP
            obtain ⟨v_29, ev_29⟩ : ∃ y : Int32, y = x3 + (1 : Int32) := ⟨_, rfl⟩
            replace hf := nm_of ev_29 hf
            refine lv_iinc (v := v_29) (lv' := [(3, .int v_29), (4, .int (0 : Int32)), (0, .ref (mo 0)), (1, .int x1), (2, .int x2)]) hx hb dX6_measure_133 hl (k := 4) rfl (by rw [ev_29]; rfl) (by decide) rfl (fun ls hl => ?_)
            refine lv_goto (tgt := 44) hx hb dX6_measure_136 (by decide) ?_
            exact ih v_29 fr_28 _ _ _ hf hP hS (lv_sub hl [2, 3, 4, 0] rfl)
          · replace hf := fp_t c_19 hf
            refine lv_aload_n hx hb dX6_measure_78 rfl (lv_at hl 0 rfl) ?_
            refine va_get (D := X.1) (ci := 6) (v := .ref (mo 5)) (C := RX6) (T := TX6) (N := 13) hx hb hts hiX6 hown hK.1 hP 0 rfl rfl 6 (by decide) k22 (fun _ h9 => h9) rfl dX6_measure_79 ?_
            refine lv_aload_n hx hb dX6_measure_82 rfl (lv_at hl 0 rfl) ?_
            refine lv_iload_n hx hb dX6_measure_83 rfl (lv_at hl 3 rfl) ?_
            refine lv_iconst (v := 2) hx hb dX6_measure_84 (by decide) ?_
            obtain ⟨r_30, hc_31, hf⟩ := bd_of hf
            refine fn_V (v := some (.int r_30)) (As := [.int x3, .int (2 : Int32)]) (rest := [.ref (mo 5)]) (st1 := [.int r_30, .ref (mo 5)]) (ws' := (wMo X mo al sv sm asd th ho fr txt tl pos od nu su)) (nL := 5) ⟨hx, hb, hml, hown, hts⟩ (c_X6_of l X mo al sv sm asd th ho fr txt tl pos od nu su x3 (2 : Int32) r_30 hc_31) (cwV 2 hts gX6_measure_X6_of rfl rfl rfl (by decide +kernel) ⟨Nat.le_of_ble_eq_true rfl, Nat.le_of_ble_eq_true rfl⟩) 6 rfl rfl rfl rfl hl.1 rfl (Nat.le_of_ble_eq_true rfl) dX6_measure_85 hK hP (hD0.addr rfl) hS hA [0, 1, 2, 3, 4, 5, 6, 7] rfl rfl rfl rfl ⟨Nat.zero_le _, Nat.zero_le _⟩ (fun H locs hP hD hS => ?_)
            obtain ⟨hi_32, hf⟩ := ix_of hf
            refine va_iald hx hb hK.1 hP 5 0 rfl rfl hi_32 dX6_measure_88 ?_
            refine lv_iconst (v := -1) hx hb dX6_measure_89 (by decide) ?_
            refine lv_icmp_ne (tgt := 97) hx hb dX6_measure_90 (by decide) (fun c_33 => ?_) (fun c_33 => ?_)
            · replace hf := fp_f c_33 hf
              refine lv_iconst (v := 0) hx hb dX6_measure_97 (by decide) ?_
              refine lv_istore (lv' := [(4, .int (0 : Int32)), (0, .ref (mo 0)), (1, .int x1), (2, .int x2), (3, .int x3)]) hx hb dX6_measure_98 hl (by decide) rfl (fun ls hl => ?_)
              refine lv_aload_n hx hb dX6_measure_100 rfl (lv_at hl 1 rfl) ?_
              refine va_get (D := X.1) (ci := 6) (v := .ref (mo 5)) (C := RX6) (T := TX6) (N := 13) hx hb hts hiX6 hown hK.1 hP 0 rfl rfl 6 (by decide) k22 (fun _ h9 => h9) rfl dX6_measure_101 ?_
              refine lv_aload_n hx hb dX6_measure_104 rfl (lv_at hl 1 rfl) ?_
              refine lv_iload_n hx hb dX6_measure_105 rfl (lv_at hl 4 rfl) ?_
              refine lv_iconst (v := 2) hx hb dX6_measure_106 (by decide) ?_
              obtain ⟨r_34, hc_35, hf⟩ := bd_of hf
              refine fn_V (v := some (.int r_34)) (As := [.int x3, .int (2 : Int32)]) (rest := [.ref (mo 5)]) (st1 := [.int r_34, .ref (mo 5)]) (ws' := (wMo X mo al sv sm asd th ho fr txt tl pos od nu su)) (nL := 5) ⟨hx, hb, hml, hown, hts⟩ (c_X6_of l X mo al sv sm asd th ho fr txt tl pos od nu su x3 (2 : Int32) r_34 hc_35) (cwV 2 hts gX6_measure_X6_of rfl rfl rfl (by decide +kernel) ⟨Nat.le_of_ble_eq_true rfl, Nat.le_of_ble_eq_true rfl⟩) 6 rfl rfl rfl rfl hl.1 rfl (Nat.le_of_ble_eq_true rfl) dX6_measure_107 hK hP (hD0.addr rfl) hS hA [0, 1, 2, 3, 4, 5, 6, 7] rfl rfl rfl rfl ⟨Nat.zero_le _, Nat.zero_le _⟩ (fun H locs hP hD hS => ?_)
              refine lv_iload hx hb dX6_measure_110 (lv_at hl 0 rfl) ?_
              refine lv_if_eq (tgt := 121) hx hb dX6_measure_112 (by decide) (fun _ => ?_) (fun c9 => absurd c9 (by decide))
              refine lv_aload_n hx hb dX6_measure_121 rfl (lv_at hl 1 rfl) ?_
              refine va_get (D := X.1) (ci := 6) (v := .ref (mo 5)) (C := RX6) (T := TX6) (N := 13) hx hb hts hiX6 hown hK.1 hP 0 rfl rfl 6 (by decide) k22 (fun _ h9 => h9) rfl dX6_measure_122 ?_
              refine lv_aload_n hx hb dX6_measure_125 rfl (lv_at hl 1 rfl) ?_
              refine lv_iload_n hx hb dX6_measure_126 rfl (lv_at hl 4 rfl) ?_
              refine lv_iconst (v := 2) hx hb dX6_measure_127 (by decide) ?_
              obtain ⟨r_37, hc_38, hf⟩ := bd_of hf
              refine fn_V (v := some (.int r_37)) (As := [.int x3, .int (2 : Int32)]) (rest := [.ref (mo 5), .int r_34, .ref (mo 5)]) (st1 := [.int r_37, .ref (mo 5), .int r_34, .ref (mo 5)]) (ws' := (wMo X mo al sv sm asd th ho fr txt tl pos od nu su)) (nL := 5) ⟨hx, hb, hml, hown, hts⟩ (c_X6_of l X mo al sv sm asd th ho fr txt tl pos od nu su x3 (2 : Int32) r_37 hc_38) (cwV 2 hts gX6_measure_X6_of rfl rfl rfl (by decide +kernel) ⟨Nat.le_of_ble_eq_true rfl, Nat.le_of_ble_eq_true rfl⟩) 6 rfl rfl rfl rfl hl.1 rfl (Nat.le_of_ble_eq_true rfl) dX6_measure_128 hK hP (hD0.addr rfl) hS hA [0, 1, 2, 3, 4, 5, 6, 7] rfl rfl rfl rfl ⟨Nat.zero_le _, Nat.zero_le _⟩ (fun H locs hP hD hS => ?_)
              obtain ⟨hi_39, hf⟩ := ix_of hf
              refine va_iald hx hb hK.1 hP 5 0 rfl rfl hi_39 dX6_measure_131 ?_
              refine lv_topi (fun v_40 ev_40 => ?_)
              replace hf := nm_of ev_40 hf
              obtain ⟨hi_41, hf⟩ := ix_of hf
              refine va_iast hx hb hK.1 hP (hD0.addr rfl) hS 5 0 rfl rfl hi_41 dX6_measure_132 (fun H locs hP hD hS => ?_)
              obtain ⟨fr_42, efr_42⟩ : ∃ g : Nat → Int32, g = upd fr r_34.toNatClampNeg v_40 := ⟨_, rfl⟩
              replace hf := nm_of efr_42 hf
              have hP : va_P X.1 vwCl (wMo X mo al sv sm asd th ho fr_42 txt tl pos od nu su) H := by rw [efr_42]; exact hP
              obtain ⟨v_43, ev_43⟩ : ∃ y : Int32, y = x3 + (1 : Int32) := ⟨_, rfl⟩
              replace hf := nm_of ev_43 hf
              refine lv_iinc (v := v_43) (lv' := [(3, .int v_43), (4, .int (0 : Int32)), (0, .ref (mo 0)), (1, .int x1), (2, .int x2)]) hx hb dX6_measure_133 hl (k := 4) rfl (by rw [ev_43]; rfl) (by decide) rfl (fun ls hl => ?_)
              refine lv_goto (tgt := 44) hx hb dX6_measure_136 (by decide) ?_
              exact ih v_43 fr_42 _ _ _ hf hP hS (lv_sub hl [2, 3, 4, 0] rfl)
            · replace hf := fp_t c_33 hf
              refine lv_iconst (v := 1) hx hb dX6_measure_93 (by decide) ?_
              refine lv_goto (tgt := 98) hx hb dX6_measure_94 (by decide) ?_
              refine lv_istore (lv' := [(4, .int (1 : Int32)), (0, .ref (mo 0)), (1, .int x1), (2, .int x2), (3, .int x3)]) hx hb dX6_measure_98 hl (by decide) rfl (fun ls hl => ?_)
              refine lv_aload_n hx hb dX6_measure_100 rfl (lv_at hl 1 rfl) ?_
              refine va_get (D := X.1) (ci := 6) (v := .ref (mo 5)) (C := RX6) (T := TX6) (N := 13) hx hb hts hiX6 hown hK.1 hP 0 rfl rfl 6 (by decide) k22 (fun _ h9 => h9) rfl dX6_measure_101 ?_
              refine lv_aload_n hx hb dX6_measure_104 rfl (lv_at hl 1 rfl) ?_
              refine lv_iload_n hx hb dX6_measure_105 rfl (lv_at hl 4 rfl) ?_
              refine lv_iconst (v := 2) hx hb dX6_measure_106 (by decide) ?_
              obtain ⟨r_44, hc_45, hf⟩ := bd_of hf
              refine fn_V (v := some (.int r_44)) (As := [.int x3, .int (2 : Int32)]) (rest := [.ref (mo 5)]) (st1 := [.int r_44, .ref (mo 5)]) (ws' := (wMo X mo al sv sm asd th ho fr txt tl pos od nu su)) (nL := 5) ⟨hx, hb, hml, hown, hts⟩ (c_X6_of l X mo al sv sm asd th ho fr txt tl pos od nu su x3 (2 : Int32) r_44 hc_45) (cwV 2 hts gX6_measure_X6_of rfl rfl rfl (by decide +kernel) ⟨Nat.le_of_ble_eq_true rfl, Nat.le_of_ble_eq_true rfl⟩) 6 rfl rfl rfl rfl hl.1 rfl (Nat.le_of_ble_eq_true rfl) dX6_measure_107 hK hP (hD0.addr rfl) hS hA [0, 1, 2, 3, 4, 5, 6, 7] rfl rfl rfl rfl ⟨Nat.zero_le _, Nat.zero_le _⟩ (fun H locs hP hD hS => ?_)
              refine lv_iload hx hb dX6_measure_110 (lv_at hl 0 rfl) ?_
              refine lv_if_eq (tgt := 121) hx hb dX6_measure_112 (by decide) (fun c9 => absurd c9 (by decide)) (fun _ => ?_)
              refine lv_iload_n hx hb dX6_measure_115 rfl (lv_at hl 3 rfl) ?_
              refine lv_iconst (v := 1) hx hb dX6_measure_116 (by decide) ?_
              refine lv_iadd hx hb dX6_measure_117 ?_
              refine lv_goto (tgt := 132) hx hb dX6_measure_118 (by decide) ?_
              refine lv_topi (fun v_47 ev_47 => ?_)
              replace hf := nm_of ev_47 hf
              obtain ⟨hi_48, hf⟩ := ix_of hf
              refine va_iast hx hb hK.1 hP (hD0.addr rfl) hS 5 0 rfl rfl hi_48 dX6_measure_132 (fun H locs hP hD hS => ?_)
              obtain ⟨fr_49, efr_49⟩ : ∃ g : Nat → Int32, g = upd fr r_44.toNatClampNeg v_47 := ⟨_, rfl⟩
              replace hf := nm_of efr_49 hf
              have hP : va_P X.1 vwCl (wMo X mo al sv sm asd th ho fr_49 txt tl pos od nu su) H := by rw [efr_49]; exact hP
              obtain ⟨v_50, ev_50⟩ : ∃ y : Int32, y = x3 + (1 : Int32) := ⟨_, rfl⟩
              replace hf := nm_of ev_50 hf
              refine lv_iinc (v := v_50) (lv' := [(3, .int v_50), (4, .int (1 : Int32)), (0, .ref (mo 0)), (1, .int x1), (2, .int x2)]) hx hb dX6_measure_133 hl (k := 4) rfl (by rw [ev_50]; rfl) (by decide) rfl (fun ls hl => ?_)
              refine lv_goto (tgt := 44) hx hb dX6_measure_136 (by decide) ?_
              exact ih v_50 fr_49 _ _ _ hf hP hS (lv_sub hl [2, 3, 4, 0] rfl)
  have loop_36 : ∀ (Q : State → Prop) (fro : (Nat → Int32)), (∀ (H : Heap) (locs : List Loc) (ls : Array Slot), va_P X.1 vwCl (wMo X mo al sv sm asd th ho fro txt tl pos od nu su) H → va_S A s.heap H locs → lv_has ls 5 [] → W p l e ({ frames := 2, cells := 0, slots := 0, locals := 44 } : Room) s m args below meth c H locs 0 0 Q (F0 m 145 ls [])) → ∀ (k_ : Nat) (x2 : Int32) (fr : (Nat → Int32)) (H : Heap) (locs : List Loc) (ls : Array Slot), f_X6_measure_L36 x1 al ho k_ x2 fr = some fro → va_P X.1 vwCl (wMo X mo al sv sm asd th ho fr txt tl pos od nu su) H → va_S A s.heap H locs → lv_has ls 5 [(0, .ref (mo 0)), (1, .int x1), (2, .int x2)] → W p l e ({ frames := 2, cells := 0, slots := 0, locals := 44 } : Room) s m args below meth c H locs 0 0 Q (F0 m 36 ls []) := by
    intro Q fro kx k_
    induction k_ with
    | zero => intro x2 fr H locs ls hf; exact nomatch (show (none : Option ((Nat → Int32))) = some _ from hf)
    | succ k_ ih =>
      intro x2 fr H locs ls hf hP hS hl
      unfold f_X6_measure_L36 at hf
      refine lv_iload_n hx hb dX6_measure_36 rfl (lv_at hl 2 rfl) ?_
      refine lv_bipush (v := 10) hx hb dX6_measure_37 (by decide) ?_
      refine lv_icmp_ge (tgt := 145) hx hb dX6_measure_39 (by decide) (fun c_51 => ?_) (fun c_51 => ?_)
      · replace hf := fp_t c_51 hf
        cases hf
        exact kx _ _ _ hP hS (lv_sub hl [] rfl)
      · replace hf := fp_f c_51 hf
        refine lv_iconst (v := 0) hx hb dX6_measure_42 (by decide) ?_
        refine lv_istore_n (lv' := [(3, .int (0 : Int32)), (0, .ref (mo 0)), (1, .int x1), (2, .int x2)]) hx hb dX6_measure_43 rfl hl (by decide) rfl (fun ls hl => ?_)
        obtain ⟨fr_52, hL_53, hf⟩ := bd_of hf
        refine loop_44 _ x2 fr_52 (fun H locs ls hP hS hl => ?_) FU (0 : Int32) fr _ _ _ hL_53 hP hS (lv_sub hl [1, 2, 3, 0] rfl)
        obtain ⟨v_54, ev_54⟩ : ∃ y : Int32, y = x2 + (1 : Int32) := ⟨_, rfl⟩
        replace hf := nm_of ev_54 hf
        refine lv_iinc (v := v_54) (lv' := [(2, .int v_54), (0, .ref (mo 0)), (1, .int x1)]) hx hb dX6_measure_139 hl (k := 2) rfl (by rw [ev_54]; rfl) (by decide) rfl (fun ls hl => ?_)
        refine lv_goto (tgt := 36) hx hb dX6_measure_142 (by decide) ?_
        exact ih v_54 fr_52 _ _ _ hf hP hS (lv_sub hl [1, 2, 0] rfl)
  have loop_2 : ∀ (Q : State → Prop) (fro : (Nat → Int32)), (∀ (H : Heap) (locs : List Loc) (ls : Array Slot), va_P X.1 vwCl (wMo X mo al sv sm asd th ho fro txt tl pos od nu su) H → va_S A s.heap H locs → lv_has ls 5 [(0, .ref (mo 0)), (1, .int x1)] → W p l e ({ frames := 2, cells := 0, slots := 0, locals := 44 } : Room) s m args below meth c H locs 0 0 Q (F0 m 34 ls [])) → ∀ (k_ : Nat) (x2 : Int32) (fr : (Nat → Int32)) (H : Heap) (locs : List Loc) (ls : Array Slot), f_X6_measure_L2 x1 al k_ x2 fr = some fro → va_P X.1 vwCl (wMo X mo al sv sm asd th ho fr txt tl pos od nu su) H → va_S A s.heap H locs → lv_has ls 5 [(0, .ref (mo 0)), (1, .int x1), (2, .int x2)] → W p l e ({ frames := 2, cells := 0, slots := 0, locals := 44 } : Room) s m args below meth c H locs 0 0 Q (F0 m 2 ls []) := by
    intro Q fro kx k_
    induction k_ with
    | zero => intro x2 fr H locs ls hf; exact nomatch (show (none : Option ((Nat → Int32))) = some _ from hf)
    | succ k_ ih =>
      intro x2 fr H locs ls hf hP hS hl
      unfold f_X6_measure_L2 at hf
      refine lv_iload_n hx hb dX6_measure_2 rfl (lv_at hl 2 rfl) ?_
      refine lv_bipush (v := 10) hx hb dX6_measure_3 (by decide) ?_
      refine lv_icmp_ge (tgt := 34) hx hb dX6_measure_5 (by decide) (fun c_55 => ?_) (fun c_55 => ?_)
      · replace hf := fp_t c_55 hf
        cases hf
        exact kx _ _ _ hP hS (lv_sub hl [0, 1] rfl)
      · replace hf := fp_f c_55 hf
        refine lv_aload_n hx hb dX6_measure_8 rfl (lv_at hl 0 rfl) ?_
        refine va_get (D := X.1) (ci := 6) (v := .ref (mo 5)) (C := RX6) (T := TX6) (N := 13) hx hb hts hiX6 hown hK.1 hP 0 rfl rfl 6 (by decide) k22 (fun _ h9 => h9) rfl dX6_measure_9 ?_
        refine lv_iload_n hx hb dX6_measure_12 rfl (lv_at hl 2 rfl) ?_
        refine lv_iload_n hx hb dX6_measure_13 rfl (lv_at hl 2 rfl) ?_
        refine lv_aload_n hx hb dX6_measure_14 rfl (lv_at hl 0 rfl) ?_
        refine lv_iload_n hx hb dX6_measure_15 rfl (lv_at hl 1 rfl) ?_
        obtain ⟨r_56, hc_57, hf⟩ := bd_of hf
        refine fn_V (v := some (.int r_56)) (As := [.int x1]) (rest := [.int x2, .int x2, .ref (mo 5)]) (st1 := [.int r_56, .int x2, .int x2, .ref (mo 5)]) (ws' := (wMo X mo al sv sm asd th ho fr txt tl pos od nu su)) (nL := 5) ⟨hx, hb, hml, hown, hts⟩ (c_X6_owner l X mo al sv sm asd th ho fr txt tl pos od nu su x1 r_56 hc_57) (cwV 1 hts gX6_measure_X6_owner rfl rfl rfl (by decide +kernel) ⟨Nat.le_of_ble_eq_true rfl, Nat.le_of_ble_eq_true rfl⟩) 6 rfl rfl rfl rfl hl.1 rfl (Nat.le_of_ble_eq_true rfl) dX6_measure_16 hK hP (hD0.addr rfl) hS hA [0, 1, 2, 3, 4, 5, 6, 7] rfl rfl rfl rfl ⟨Nat.zero_le _, Nat.zero_le _⟩ (fun H locs hP hD hS => ?_)
        refine lv_icmp_ne (tgt := 26) hx hb dX6_measure_19 (by decide) (fun c_58 => ?_) (fun c_58 => ?_)
        · replace hf := fp_f c_58 hf
          refine lv_iconst (v := -1) hx hb dX6_measure_26 (by decide) ?_
          obtain ⟨hi_59, hf⟩ := ix_of hf
          refine va_iast hx hb hK.1 hP (hD0.addr rfl) hS 5 0 rfl rfl hi_59 dX6_measure_27 (fun H locs hP hD hS => ?_)
          obtain ⟨fr_60, efr_60⟩ : ∃ g : Nat → Int32, g = upd fr x2.toNatClampNeg (-1 : Int32) := ⟨_, rfl⟩
          replace hf := nm_of efr_60 hf
          have hP : va_P X.1 vwCl (wMo X mo al sv sm asd th ho fr_60 txt tl pos od nu su) H := by rw [efr_60]; exact hP
          obtain ⟨v_61, ev_61⟩ : ∃ y : Int32, y = x2 + (1 : Int32) := ⟨_, rfl⟩
          replace hf := nm_of ev_61 hf
          refine lv_iinc (v := v_61) (lv' := [(2, .int v_61), (0, .ref (mo 0)), (1, .int x1)]) hx hb dX6_measure_28 hl (k := 2) rfl (by rw [ev_61]; rfl) (by decide) rfl (fun ls hl => ?_)
          refine lv_goto (tgt := 2) hx hb dX6_measure_31 (by decide) ?_
          exact ih v_61 fr_60 _ _ _ hf hP hS (lv_sub hl [1, 2, 0] rfl)
        · replace hf := fp_t c_58 hf
          refine lv_iconst (v := 0) hx hb dX6_measure_22 (by decide) ?_
          refine lv_goto (tgt := 27) hx hb dX6_measure_23 (by decide) ?_
          obtain ⟨hi_62, hf⟩ := ix_of hf
          refine va_iast hx hb hK.1 hP (hD0.addr rfl) hS 5 0 rfl rfl hi_62 dX6_measure_27 (fun H locs hP hD hS => ?_)
          obtain ⟨fr_63, efr_63⟩ : ∃ g : Nat → Int32, g = upd fr x2.toNatClampNeg (0 : Int32) := ⟨_, rfl⟩
          replace hf := nm_of efr_63 hf
          have hP : va_P X.1 vwCl (wMo X mo al sv sm asd th ho fr_63 txt tl pos od nu su) H := by rw [efr_63]; exact hP
          obtain ⟨v_64, ev_64⟩ : ∃ y : Int32, y = x2 + (1 : Int32) := ⟨_, rfl⟩
          replace hf := nm_of ev_64 hf
          refine lv_iinc (v := v_64) (lv' := [(2, .int v_64), (0, .ref (mo 0)), (1, .int x1)]) hx hb dX6_measure_28 hl (k := 2) rfl (by rw [ev_64]; rfl) (by decide) rfl (fun ls hl => ?_)
          refine lv_goto (tgt := 2) hx hb dX6_measure_31 (by decide) ?_
          exact ih v_64 fr_63 _ _ _ hf hP hS (lv_sub hl [1, 2, 0] rfl)
  unfold f_X6_measure at hf
  refine lv_iconst (v := 0) hx hb dX6_measure_0 (by decide) ?_
  refine lv_istore_n (lv' := [(2, .int (0 : Int32)), (0, .ref (mo 0)), (1, .int x1)]) hx hb dX6_measure_1 rfl hl (by decide) rfl (fun ls hl => ?_)
  obtain ⟨fr_65, hL_66, hf⟩ := bd_of hf
  refine loop_2 _ fr_65 (fun H locs ls hP hS hl => ?_) FU (0 : Int32) fr _ _ _ hL_66 hP hS (lv_sub hl [1, 2, 0] rfl)
  refine lv_iconst (v := 0) hx hb dX6_measure_34 (by decide) ?_
  refine lv_istore_n (lv' := [(2, .int (0 : Int32)), (0, .ref (mo 0)), (1, .int x1)]) hx hb dX6_measure_35 rfl hl (by decide) rfl (fun ls hl => ?_)
  obtain ⟨fr_67, hL_68, hf⟩ := bd_of hf
  refine loop_36 _ fr_67 (fun H locs ls hP hS hl => ?_) FU (0 : Int32) fr_65 _ _ _ hL_68 hP hS (lv_sub hl [1, 2, 0] rfl)
  cases hf
  exact fn_vret hx hb hr hlocks hP hS dX6_measure_145

def f_X6_chainOf (x1 : Int32) (x2 : Int32) (al : (Nat → Int32)) (ho : (Nat → Int32)) (fr : (Nat → Int32)) : Option (Int32 × (Nat → Int32)) :=
  bd (f_X6_measure x2 al ho fr) (fun fr_1 =>
  ix x1 10 (
  nm (fr_1 x1.toNatClampNeg) (fun v_4 =>
  some (v_4, fr_1))))
set_option maxHeartbeats 4000000 in
set_option maxRecDepth 100000 in
theorem c_X6_chainOf (l : Launch) (X : cx_G) (mo : (Nat → Nat)) (al : (Nat → Int32)) (sv : (Nat → Int32)) (sm : Int32) (asd : (Nat → Int32)) (th : Int32) (ho : (Nat → Int32)) (fr : (Nat → Int32)) (txt : (Nat → Int32)) (tl : Int32) (pos : Int32) (od : Int32) (nu : (Nat → Int32)) (su : Int64) (x1 : Int32) (x2 : Int32) (r : Int32) (fr' : (Nat → Int32)) (hf : f_X6_chainOf x1 x2 al ho fr = some (r, fr')) : Fn l yX6_chainOf wsX6_chainOf ({ frames := 3, cells := 0, slots := 0, locals := 68 } : Room) X [.ref (mo 0), .int x1, .int x2] (wMo X mo al sv sm asd th ho fr txt tl pos od nu su) (some (.int r)) (wMo X mo al sv sm asd th ho fr' txt tl pos od nu su) := by
  refine fn_intro (cc := cX6_chainOf) (maxL := 3) (ret := (some .int)) (by decide) rfl rfl (Nat.le_of_ble_eq_true rfl) ?_
  intro p e s m args below meth c A ls hx hb hml hr hts hown hlocks hK hP hD0 hS hA hl
  have hown : s.vm.findClass RX6 = some m.cls := hown
  have hl : lv_has ls 3 [(0, .ref (mo 0)), (1, .int x1), (2, .int x2)] := hl
  have hiX6 : ∀ w ∈ u_ws RX6 TX6 13, w ∈ wsX6_chainOf := by decide +kernel
  have k22 := hts (.fieldLink RX6 22 "LentRightsModel" "far" "[I") (by decide +kernel)
  unfold f_X6_chainOf at hf
  refine lv_aload_n hx hb dX6_chainOf_0 rfl (lv_at hl 0 rfl) ?_
  refine lv_iload_n hx hb dX6_chainOf_1 rfl (lv_at hl 2 rfl) ?_
  obtain ⟨fr_1, hc_2, hf⟩ := bd_of hf
  refine fn_V (v := none) (As := [.int x2]) (rest := []) (st1 := []) (ws' := (wMo X mo al sv sm asd th ho fr_1 txt tl pos od nu su)) (nL := 3) ⟨hx, hb, hml, hown, hts⟩ (c_X6_measure l X mo al sv sm asd th ho fr txt tl pos od nu su x2 fr_1 hc_2) (cwV 1 hts gX6_chainOf_X6_measure rfl rfl rfl (by decide +kernel) ⟨Nat.le_of_ble_eq_true rfl, Nat.le_of_ble_eq_true rfl⟩) 6 rfl rfl rfl rfl hl.1 rfl (Nat.le_of_ble_eq_true rfl) dX6_chainOf_2 hK hP (hD0.addr rfl) hS hA [0, 1, 2, 3, 4, 5, 6, 7] rfl rfl rfl rfl ⟨Nat.zero_le _, Nat.zero_le _⟩ (fun H locs hP hD hS => ?_)
  refine lv_aload_n hx hb dX6_chainOf_5 rfl (lv_at hl 0 rfl) ?_
  refine va_get (D := X.1) (ci := 6) (v := .ref (mo 5)) (C := RX6) (T := TX6) (N := 13) hx hb hts hiX6 hown hK.1 hP 0 rfl rfl 6 (by decide) k22 (fun _ h9 => h9) rfl dX6_chainOf_6 ?_
  refine lv_iload_n hx hb dX6_chainOf_9 rfl (lv_at hl 1 rfl) ?_
  obtain ⟨hi_3, hf⟩ := ix_of hf
  refine va_iald hx hb hK.1 hP 5 0 rfl rfl hi_3 dX6_chainOf_10 ?_
  refine lv_topi (fun v_4 ev_4 => ?_)
  replace hf := nm_of ev_4 hf
  cases hf
  exact fn_iret hx hb hr hlocks hP hS dX6_chainOf_11

def f_X6_chain (x1 : Int32) (x2 : Int32) (al : (Nat → Int32)) (th : Int32) (ho : (Nat → Int32)) (fr : (Nat → Int32)) : Option (Int32 × Int32 × (Nat → Int32) × (Nat → Int32)) :=
  bd (f_X6_isPerson x1) (fun r_1 =>
  if r_1 = (0 : Int32) then
  (bd2 (f_X6_goes (0 : Int32) (1 : Int32) (1 : Int32) th) (fun r_4 th_5 =>
  if r_4 = (0 : Int32) then
  (some ((0 : Int32), th_5, ho, fr))
  else
  (bd (f_X6_lay al ho) (fun ho_8 =>
  bd2 (f_X6_chainOf x1 x2 al ho_8 fr) (fun r_10 fr_11 =>
  some (r_10, th_5, ho_8, fr_11))))))
  else
  (bd (f_X6_isThing x2 al) (fun r_13 =>
  if r_13 = (0 : Int32) then
  (bd2 (f_X6_goes (0 : Int32) (1 : Int32) (1 : Int32) th) (fun r_16 th_17 =>
  if r_16 = (0 : Int32) then
  (some ((0 : Int32), th_17, ho, fr))
  else
  (bd (f_X6_lay al ho) (fun ho_20 =>
  bd2 (f_X6_chainOf x1 x2 al ho_20 fr) (fun r_22 fr_23 =>
  some (r_22, th_17, ho_20, fr_23))))))
  else
  (bd2 (f_X6_goes (1 : Int32) (1 : Int32) (1 : Int32) th) (fun r_25 th_26 =>
  if r_25 = (0 : Int32) then
  (some ((0 : Int32), th_26, ho, fr))
  else
  (bd (f_X6_lay al ho) (fun ho_29 =>
  bd2 (f_X6_chainOf x1 x2 al ho_29 fr) (fun r_31 fr_32 =>
  some (r_31, th_26, ho_29, fr_32)))))))))
set_option maxHeartbeats 4000000 in
set_option maxRecDepth 100000 in
theorem c_X6_chain (l : Launch) (X : cx_G) (mo : (Nat → Nat)) (al : (Nat → Int32)) (sv : (Nat → Int32)) (sm : Int32) (asd : (Nat → Int32)) (th : Int32) (ho : (Nat → Int32)) (fr : (Nat → Int32)) (txt : (Nat → Int32)) (tl : Int32) (pos : Int32) (od : Int32) (nu : (Nat → Int32)) (su : Int64) (x1 : Int32) (x2 : Int32) (r : Int32) (th' : Int32) (ho' : (Nat → Int32)) (fr' : (Nat → Int32)) (hf : f_X6_chain x1 x2 al th ho fr = some (r, th', ho', fr')) : Fn l yX6_chain wsX6_chain ({ frames := 4, cells := 0, slots := 0, locals := 90 } : Room) X [.ref (mo 0), .int x1, .int x2] (wMo X mo al sv sm asd th ho fr txt tl pos od nu su) (some (.int r)) (wMo X mo al sv sm asd th' ho' fr' txt tl pos od nu su) := by
  refine fn_intro (cc := cX6_chain) (maxL := 3) (ret := (some .int)) (by decide) rfl rfl (Nat.le_of_ble_eq_true rfl) ?_
  intro p e s m args below meth c A ls hx hb hml hr hts hown hlocks hK hP hD0 hS hA hl
  have hown : s.vm.findClass RX6 = some m.cls := hown
  have hl : lv_has ls 3 [(0, .ref (mo 0)), (1, .int x1), (2, .int x2)] := hl
  unfold f_X6_chain at hf
  refine lv_aload_n hx hb dX6_chain_0 rfl (lv_at hl 0 rfl) ?_
  refine lv_iload_n hx hb dX6_chain_1 rfl (lv_at hl 1 rfl) ?_
  obtain ⟨r_1, hc_2, hf⟩ := bd_of hf
  refine fn_Sx (v := some (.int r_1)) (As := [.int x1]) (rest := [.ref (mo 0)]) (st1 := [.int r_1, .ref (mo 0)]) (ws' := (wMo X mo al sv sm asd th ho fr txt tl pos od nu su)) (nL := 3) ⟨hx, hb, hml, hown, hts⟩ (c_X6_isPerson l X x1 r_1 hc_2) (va_cwS 1 hts gX6_chain_X6_isPerson rfl rfl rfl (by decide +kernel) ⟨Nat.le_of_ble_eq_true rfl, Nat.le_of_ble_eq_true rfl⟩) rfl hl.1 rfl (Nat.le_of_ble_eq_true rfl) dX6_chain_2 hK hP (hD0.addr rfl) hS hA [] rfl rfl rfl rfl ⟨Nat.zero_le _, Nat.zero_le _⟩ (fun H locs hP hD hS => ?_)
  refine lv_if_eq (tgt := 20) hx hb dX6_chain_5 (by decide) (fun c_3 => ?_) (fun c_3 => ?_)
  · replace hf := fp_t c_3 hf
    refine lv_iconst (v := 0) hx hb dX6_chain_20 (by decide) ?_
    refine lv_iconst (v := 1) hx hb dX6_chain_21 (by decide) ?_
    refine lv_iconst (v := 1) hx hb dX6_chain_22 (by decide) ?_
    obtain ⟨r_4, th_5, hc_6, hf⟩ := bd2_of hf
    refine fn_V (v := some (.int r_4)) (As := [.int (0 : Int32), .int (1 : Int32), .int (1 : Int32)]) (rest := []) (st1 := [.int r_4]) (ws' := (wMo X mo al sv sm asd th_5 ho fr txt tl pos od nu su)) (nL := 3) ⟨hx, hb, hml, hown, hts⟩ (c_X6_goes l X mo al sv sm asd th ho fr txt tl pos od nu su (0 : Int32) (1 : Int32) (1 : Int32) r_4 th_5 hc_6) (cwV 3 hts gX6_chain_X6_goes rfl rfl rfl (by decide +kernel) ⟨Nat.le_of_ble_eq_true rfl, Nat.le_of_ble_eq_true rfl⟩) 6 rfl rfl rfl rfl hl.1 rfl (Nat.le_of_ble_eq_true rfl) dX6_chain_23 hK hP (hD0.addr rfl) hS hA [0, 1, 2, 3, 4, 5, 6, 7] rfl rfl rfl rfl ⟨Nat.zero_le _, Nat.zero_le _⟩ (fun H locs hP hD hS => ?_)
    refine lv_if_ne (tgt := 31) hx hb dX6_chain_26 (by decide) (fun c_7 => ?_) (fun c_7 => ?_)
    · replace hf := fp_f c_7 hf
      refine lv_aload_n hx hb dX6_chain_31 rfl (lv_at hl 0 rfl) ?_
      obtain ⟨ho_8, hc_9, hf⟩ := bd_of hf
      refine fn_V (v := none) (As := []) (rest := []) (st1 := []) (ws' := (wMo X mo al sv sm asd th_5 ho_8 fr txt tl pos od nu su)) (nL := 3) ⟨hx, hb, hml, hown, hts⟩ (c_X6_lay l X mo al sv sm asd th_5 ho fr txt tl pos od nu su ho_8 hc_9) (cwV 0 hts gX6_chain_X6_lay rfl rfl rfl (by decide +kernel) ⟨Nat.le_of_ble_eq_true rfl, Nat.le_of_ble_eq_true rfl⟩) 6 rfl rfl rfl rfl hl.1 rfl (Nat.le_of_ble_eq_true rfl) dX6_chain_32 hK hP (hD0.addr rfl) hS hA [0, 1, 2, 3, 4, 5, 6, 7] rfl rfl rfl rfl ⟨Nat.zero_le _, Nat.zero_le _⟩ (fun H locs hP hD hS => ?_)
      refine lv_aload_n hx hb dX6_chain_35 rfl (lv_at hl 0 rfl) ?_
      refine lv_iload_n hx hb dX6_chain_36 rfl (lv_at hl 1 rfl) ?_
      refine lv_iload_n hx hb dX6_chain_37 rfl (lv_at hl 2 rfl) ?_
      obtain ⟨r_10, fr_11, hc_12, hf⟩ := bd2_of hf
      refine fn_V (v := some (.int r_10)) (As := [.int x1, .int x2]) (rest := []) (st1 := [.int r_10]) (ws' := (wMo X mo al sv sm asd th_5 ho_8 fr_11 txt tl pos od nu su)) (nL := 3) ⟨hx, hb, hml, hown, hts⟩ (c_X6_chainOf l X mo al sv sm asd th_5 ho_8 fr txt tl pos od nu su x1 x2 r_10 fr_11 hc_12) (cwV 2 hts gX6_chain_X6_chainOf rfl rfl rfl (by decide +kernel) ⟨Nat.le_of_ble_eq_true rfl, Nat.le_of_ble_eq_true rfl⟩) 6 rfl rfl rfl rfl hl.1 rfl (Nat.le_of_ble_eq_true rfl) dX6_chain_38 hK hP (hD0.addr rfl) hS hA [0, 1, 2, 3, 4, 5, 6, 7] rfl rfl rfl rfl ⟨Nat.zero_le _, Nat.zero_le _⟩ (fun H locs hP hD hS => ?_)
      cases hf
      exact fn_iret hx hb hr hlocks hP hS dX6_chain_41
    · replace hf := fp_t c_7 hf
      refine lv_iconst (v := 0) hx hb dX6_chain_29 (by decide) ?_
      cases hf
      exact fn_iret hx hb hr hlocks hP hS dX6_chain_30
  · replace hf := fp_f c_3 hf
    refine lv_aload_n hx hb dX6_chain_8 rfl (lv_at hl 0 rfl) ?_
    refine lv_iload_n hx hb dX6_chain_9 rfl (lv_at hl 2 rfl) ?_
    obtain ⟨r_13, hc_14, hf⟩ := bd_of hf
    refine fn_V (v := some (.int r_13)) (As := [.int x2]) (rest := [.ref (mo 0)]) (st1 := [.int r_13, .ref (mo 0)]) (ws' := (wMo X mo al sv sm asd th ho fr txt tl pos od nu su)) (nL := 3) ⟨hx, hb, hml, hown, hts⟩ (c_X6_isThing l X mo al sv sm asd th ho fr txt tl pos od nu su x2 r_13 hc_14) (cwV 1 hts gX6_chain_X6_isThing rfl rfl rfl (by decide +kernel) ⟨Nat.le_of_ble_eq_true rfl, Nat.le_of_ble_eq_true rfl⟩) 6 rfl rfl rfl rfl hl.1 rfl (Nat.le_of_ble_eq_true rfl) dX6_chain_10 hK hP (hD0.addr rfl) hS hA [0, 1, 2, 3, 4, 5, 6, 7] rfl rfl rfl rfl ⟨Nat.zero_le _, Nat.zero_le _⟩ (fun H locs hP hD hS => ?_)
    refine lv_if_eq (tgt := 20) hx hb dX6_chain_13 (by decide) (fun c_15 => ?_) (fun c_15 => ?_)
    · replace hf := fp_t c_15 hf
      refine lv_iconst (v := 0) hx hb dX6_chain_20 (by decide) ?_
      refine lv_iconst (v := 1) hx hb dX6_chain_21 (by decide) ?_
      refine lv_iconst (v := 1) hx hb dX6_chain_22 (by decide) ?_
      obtain ⟨r_16, th_17, hc_18, hf⟩ := bd2_of hf
      refine fn_V (v := some (.int r_16)) (As := [.int (0 : Int32), .int (1 : Int32), .int (1 : Int32)]) (rest := []) (st1 := [.int r_16]) (ws' := (wMo X mo al sv sm asd th_17 ho fr txt tl pos od nu su)) (nL := 3) ⟨hx, hb, hml, hown, hts⟩ (c_X6_goes l X mo al sv sm asd th ho fr txt tl pos od nu su (0 : Int32) (1 : Int32) (1 : Int32) r_16 th_17 hc_18) (cwV 3 hts gX6_chain_X6_goes rfl rfl rfl (by decide +kernel) ⟨Nat.le_of_ble_eq_true rfl, Nat.le_of_ble_eq_true rfl⟩) 6 rfl rfl rfl rfl hl.1 rfl (Nat.le_of_ble_eq_true rfl) dX6_chain_23 hK hP (hD0.addr rfl) hS hA [0, 1, 2, 3, 4, 5, 6, 7] rfl rfl rfl rfl ⟨Nat.zero_le _, Nat.zero_le _⟩ (fun H locs hP hD hS => ?_)
      refine lv_if_ne (tgt := 31) hx hb dX6_chain_26 (by decide) (fun c_19 => ?_) (fun c_19 => ?_)
      · replace hf := fp_f c_19 hf
        refine lv_aload_n hx hb dX6_chain_31 rfl (lv_at hl 0 rfl) ?_
        obtain ⟨ho_20, hc_21, hf⟩ := bd_of hf
        refine fn_V (v := none) (As := []) (rest := []) (st1 := []) (ws' := (wMo X mo al sv sm asd th_17 ho_20 fr txt tl pos od nu su)) (nL := 3) ⟨hx, hb, hml, hown, hts⟩ (c_X6_lay l X mo al sv sm asd th_17 ho fr txt tl pos od nu su ho_20 hc_21) (cwV 0 hts gX6_chain_X6_lay rfl rfl rfl (by decide +kernel) ⟨Nat.le_of_ble_eq_true rfl, Nat.le_of_ble_eq_true rfl⟩) 6 rfl rfl rfl rfl hl.1 rfl (Nat.le_of_ble_eq_true rfl) dX6_chain_32 hK hP (hD0.addr rfl) hS hA [0, 1, 2, 3, 4, 5, 6, 7] rfl rfl rfl rfl ⟨Nat.zero_le _, Nat.zero_le _⟩ (fun H locs hP hD hS => ?_)
        refine lv_aload_n hx hb dX6_chain_35 rfl (lv_at hl 0 rfl) ?_
        refine lv_iload_n hx hb dX6_chain_36 rfl (lv_at hl 1 rfl) ?_
        refine lv_iload_n hx hb dX6_chain_37 rfl (lv_at hl 2 rfl) ?_
        obtain ⟨r_22, fr_23, hc_24, hf⟩ := bd2_of hf
        refine fn_V (v := some (.int r_22)) (As := [.int x1, .int x2]) (rest := []) (st1 := [.int r_22]) (ws' := (wMo X mo al sv sm asd th_17 ho_20 fr_23 txt tl pos od nu su)) (nL := 3) ⟨hx, hb, hml, hown, hts⟩ (c_X6_chainOf l X mo al sv sm asd th_17 ho_20 fr txt tl pos od nu su x1 x2 r_22 fr_23 hc_24) (cwV 2 hts gX6_chain_X6_chainOf rfl rfl rfl (by decide +kernel) ⟨Nat.le_of_ble_eq_true rfl, Nat.le_of_ble_eq_true rfl⟩) 6 rfl rfl rfl rfl hl.1 rfl (Nat.le_of_ble_eq_true rfl) dX6_chain_38 hK hP (hD0.addr rfl) hS hA [0, 1, 2, 3, 4, 5, 6, 7] rfl rfl rfl rfl ⟨Nat.zero_le _, Nat.zero_le _⟩ (fun H locs hP hD hS => ?_)
        cases hf
        exact fn_iret hx hb hr hlocks hP hS dX6_chain_41
      · replace hf := fp_t c_19 hf
        refine lv_iconst (v := 0) hx hb dX6_chain_29 (by decide) ?_
        cases hf
        exact fn_iret hx hb hr hlocks hP hS dX6_chain_30
    · replace hf := fp_f c_15 hf
      refine lv_iconst (v := 1) hx hb dX6_chain_16 (by decide) ?_
      refine lv_goto (tgt := 21) hx hb dX6_chain_17 (by decide) ?_
      refine lv_iconst (v := 1) hx hb dX6_chain_21 (by decide) ?_
      refine lv_iconst (v := 1) hx hb dX6_chain_22 (by decide) ?_
      obtain ⟨r_25, th_26, hc_27, hf⟩ := bd2_of hf
      refine fn_V (v := some (.int r_25)) (As := [.int (1 : Int32), .int (1 : Int32), .int (1 : Int32)]) (rest := []) (st1 := [.int r_25]) (ws' := (wMo X mo al sv sm asd th_26 ho fr txt tl pos od nu su)) (nL := 3) ⟨hx, hb, hml, hown, hts⟩ (c_X6_goes l X mo al sv sm asd th ho fr txt tl pos od nu su (1 : Int32) (1 : Int32) (1 : Int32) r_25 th_26 hc_27) (cwV 3 hts gX6_chain_X6_goes rfl rfl rfl (by decide +kernel) ⟨Nat.le_of_ble_eq_true rfl, Nat.le_of_ble_eq_true rfl⟩) 6 rfl rfl rfl rfl hl.1 rfl (Nat.le_of_ble_eq_true rfl) dX6_chain_23 hK hP (hD0.addr rfl) hS hA [0, 1, 2, 3, 4, 5, 6, 7] rfl rfl rfl rfl ⟨Nat.zero_le _, Nat.zero_le _⟩ (fun H locs hP hD hS => ?_)
      refine lv_if_ne (tgt := 31) hx hb dX6_chain_26 (by decide) (fun c_28 => ?_) (fun c_28 => ?_)
      · replace hf := fp_f c_28 hf
        refine lv_aload_n hx hb dX6_chain_31 rfl (lv_at hl 0 rfl) ?_
        obtain ⟨ho_29, hc_30, hf⟩ := bd_of hf
        refine fn_V (v := none) (As := []) (rest := []) (st1 := []) (ws' := (wMo X mo al sv sm asd th_26 ho_29 fr txt tl pos od nu su)) (nL := 3) ⟨hx, hb, hml, hown, hts⟩ (c_X6_lay l X mo al sv sm asd th_26 ho fr txt tl pos od nu su ho_29 hc_30) (cwV 0 hts gX6_chain_X6_lay rfl rfl rfl (by decide +kernel) ⟨Nat.le_of_ble_eq_true rfl, Nat.le_of_ble_eq_true rfl⟩) 6 rfl rfl rfl rfl hl.1 rfl (Nat.le_of_ble_eq_true rfl) dX6_chain_32 hK hP (hD0.addr rfl) hS hA [0, 1, 2, 3, 4, 5, 6, 7] rfl rfl rfl rfl ⟨Nat.zero_le _, Nat.zero_le _⟩ (fun H locs hP hD hS => ?_)
        refine lv_aload_n hx hb dX6_chain_35 rfl (lv_at hl 0 rfl) ?_
        refine lv_iload_n hx hb dX6_chain_36 rfl (lv_at hl 1 rfl) ?_
        refine lv_iload_n hx hb dX6_chain_37 rfl (lv_at hl 2 rfl) ?_
        obtain ⟨r_31, fr_32, hc_33, hf⟩ := bd2_of hf
        refine fn_V (v := some (.int r_31)) (As := [.int x1, .int x2]) (rest := []) (st1 := [.int r_31]) (ws' := (wMo X mo al sv sm asd th_26 ho_29 fr_32 txt tl pos od nu su)) (nL := 3) ⟨hx, hb, hml, hown, hts⟩ (c_X6_chainOf l X mo al sv sm asd th_26 ho_29 fr txt tl pos od nu su x1 x2 r_31 fr_32 hc_33) (cwV 2 hts gX6_chain_X6_chainOf rfl rfl rfl (by decide +kernel) ⟨Nat.le_of_ble_eq_true rfl, Nat.le_of_ble_eq_true rfl⟩) 6 rfl rfl rfl rfl hl.1 rfl (Nat.le_of_ble_eq_true rfl) dX6_chain_38 hK hP (hD0.addr rfl) hS hA [0, 1, 2, 3, 4, 5, 6, 7] rfl rfl rfl rfl ⟨Nat.zero_le _, Nat.zero_le _⟩ (fun H locs hP hD hS => ?_)
        cases hf
        exact fn_iret hx hb hr hlocks hP hS dX6_chain_41
      · replace hf := fp_t c_28 hf
        refine lv_iconst (v := 0) hx hb dX6_chain_29 (by decide) ?_
        cases hf
        exact fn_iret hx hb hr hlocks hP hS dX6_chain_30

def f_X6_lastLink_L2 (x1 : Int32) (x2 : Int32) (al : (Nat → Int32)) (ho : (Nat → Int32)) (fr : (Nat → Int32)) : Nat → Int32 →  Option (Int32)
  | 0, _ => none
  | k_ + 1, x3 =>
    ix (5 : Int32) 320 (
    if al (5 : Int32).toNatClampNeg ≤ x3 then
    (some (-1 : Int32))
    else
    (bd (f_X6_isLink x3 x2 al ho) (fun r_3 =>
    if r_3 = (0 : Int32) then
    (nm (x3 + (1 : Int32)) (fun v_6 =>
    f_X6_lastLink_L2 x1 x2 al ho fr k_ v_6))
    else
    (bd (f_X6_of x3 (2 : Int32) al) (fun r_7 =>
    if r_7 = x1 then
    (bd (f_X6_of x3 (1 : Int32) al) (fun r_11 =>
    ix r_11 10 (
    ix x1 10 (
    if fr r_11.toNatClampNeg = (fr x1.toNatClampNeg) - (1 : Int32) then
    (some x3)
    else
    (nm (x3 + (1 : Int32)) (fun v_16 =>
    f_X6_lastLink_L2 x1 x2 al ho fr k_ v_16))))))
    else
    (nm (x3 + (1 : Int32)) (fun v_10 =>
    f_X6_lastLink_L2 x1 x2 al ho fr k_ v_10)))))))
def f_X6_lastLink (x1 : Int32) (x2 : Int32) (al : (Nat → Int32)) (ho : (Nat → Int32)) (fr : (Nat → Int32)) : Option (Int32) :=
  f_X6_lastLink_L2 x1 x2 al ho fr FU (0 : Int32)
set_option maxHeartbeats 4000000 in
set_option maxRecDepth 100000 in
theorem c_X6_lastLink (l : Launch) (X : cx_G) (mo : (Nat → Nat)) (al : (Nat → Int32)) (sv : (Nat → Int32)) (sm : Int32) (asd : (Nat → Int32)) (th : Int32) (ho : (Nat → Int32)) (fr : (Nat → Int32)) (txt : (Nat → Int32)) (tl : Int32) (pos : Int32) (od : Int32) (nu : (Nat → Int32)) (su : Int64) (x1 : Int32) (x2 : Int32) (r : Int32) (hf : f_X6_lastLink x1 x2 al ho fr = some r) : Fn l yX6_lastLink wsX6_lastLink ({ frames := 2, cells := 0, slots := 0, locals := 44 } : Room) X [.ref (mo 0), .int x1, .int x2] (wMo X mo al sv sm asd th ho fr txt tl pos od nu su) (some (.int r)) (wMo X mo al sv sm asd th ho fr txt tl pos od nu su) := by
  refine fn_intro (cc := cX6_lastLink) (maxL := 4) (ret := (some .int)) (by decide) rfl rfl (Nat.le_of_ble_eq_true rfl) ?_
  intro p e s m args below meth c A ls hx hb hml hr hts hown hlocks hK hP hD0 hS hA hl
  have hown : s.vm.findClass RX6 = some m.cls := hown
  have hl : lv_has ls 4 [(0, .ref (mo 0)), (1, .int x1), (2, .int x2)] := hl
  have hiX6 : ∀ w ∈ u_ws RX6 TX6 13, w ∈ wsX6_lastLink := by decide +kernel
  have k7 := hts (.fieldLink RX6 7 "LentRightsModel" "all" "[I") (by decide +kernel)
  have k22 := hts (.fieldLink RX6 22 "LentRightsModel" "far" "[I") (by decide +kernel)
  have loop_2 : ∀  (k_ : Nat) (x3 : Int32) (H : Heap) (locs : List Loc) (ls : Array Slot), f_X6_lastLink_L2 x1 x2 al ho fr k_ x3 = some r → va_P X.1 vwCl (wMo X mo al sv sm asd th ho fr txt tl pos od nu su) H → va_S A s.heap H locs → lv_has ls 4 [(0, .ref (mo 0)), (1, .int x1), (2, .int x2), (3, .int x3)] → W p l e ({ frames := 2, cells := 0, slots := 0, locals := 44 } : Room) s m args below meth c H locs 0 0 (fn_Z below X (some (.int r)) (wMo X mo al sv sm asd th ho fr txt tl pos od nu su) A args s) (F0 m 2 ls []) := by
    intro  k_
    induction k_ with
    | zero => intro x3 H locs ls hf; exact nomatch (show (none : Option (Int32)) = some _ from hf)
    | succ k_ ih =>
      intro x3 H locs ls hf hP hS hl
      unfold f_X6_lastLink_L2 at hf
      refine lv_iload_n hx hb dX6_lastLink_2 rfl (lv_at hl 3 rfl) ?_
      refine lv_aload_n hx hb dX6_lastLink_3 rfl (lv_at hl 0 rfl) ?_
      refine va_get (D := X.1) (ci := 6) (v := .ref (mo 1)) (C := RX6) (T := TX6) (N := 13) hx hb hts hiX6 hown hK.1 hP 0 rfl rfl 0 (by decide) k7 (fun _ h9 => h9) rfl dX6_lastLink_4 ?_
      refine lv_iconst (v := 5) hx hb dX6_lastLink_7 (by decide) ?_
      obtain ⟨hi_1, hf⟩ := ix_of hf
      refine va_iald hx hb hK.1 hP 1 0 rfl rfl hi_1 dX6_lastLink_8 ?_
      refine lv_icmp_ge (tgt := 61) hx hb dX6_lastLink_9 (by decide) (fun c_2 => ?_) (fun c_2 => ?_)
      · replace hf := fp_t c_2 hf
        refine lv_iconst (v := -1) hx hb dX6_lastLink_61 (by decide) ?_
        cases hf
        exact fn_iret hx hb hr hlocks hP hS dX6_lastLink_62
      · replace hf := fp_f c_2 hf
        refine lv_aload_n hx hb dX6_lastLink_12 rfl (lv_at hl 0 rfl) ?_
        refine lv_iload_n hx hb dX6_lastLink_13 rfl (lv_at hl 3 rfl) ?_
        refine lv_iload_n hx hb dX6_lastLink_14 rfl (lv_at hl 2 rfl) ?_
        obtain ⟨r_3, hc_4, hf⟩ := bd_of hf
        refine fn_V (v := some (.int r_3)) (As := [.int x3, .int x2]) (rest := []) (st1 := [.int r_3]) (ws' := (wMo X mo al sv sm asd th ho fr txt tl pos od nu su)) (nL := 4) ⟨hx, hb, hml, hown, hts⟩ (c_X6_isLink l X mo al sv sm asd th ho fr txt tl pos od nu su x3 x2 r_3 hc_4) (cwV 2 hts gX6_lastLink_X6_isLink rfl rfl rfl (by decide +kernel) ⟨Nat.le_of_ble_eq_true rfl, Nat.le_of_ble_eq_true rfl⟩) 6 rfl rfl rfl rfl hl.1 rfl (Nat.le_of_ble_eq_true rfl) dX6_lastLink_15 hK hP (hD0.addr rfl) hS hA [0, 1, 2, 3, 4, 5, 6, 7] rfl rfl rfl rfl ⟨Nat.zero_le _, Nat.zero_le _⟩ (fun H locs hP hD hS => ?_)
        refine lv_if_eq (tgt := 55) hx hb dX6_lastLink_18 (by decide) (fun c_5 => ?_) (fun c_5 => ?_)
        · replace hf := fp_t c_5 hf
          obtain ⟨v_6, ev_6⟩ : ∃ y : Int32, y = x3 + (1 : Int32) := ⟨_, rfl⟩
          replace hf := nm_of ev_6 hf
          refine lv_iinc (v := v_6) (lv' := [(3, .int v_6), (0, .ref (mo 0)), (1, .int x1), (2, .int x2)]) hx hb dX6_lastLink_55 hl (k := 3) rfl (by rw [ev_6]; rfl) (by decide) rfl (fun ls hl => ?_)
          refine lv_goto (tgt := 2) hx hb dX6_lastLink_58 (by decide) ?_
          exact ih v_6 _ _ _ hf hP hS (lv_sub hl [1, 2, 3, 0] rfl)
        · replace hf := fp_f c_5 hf
          refine lv_aload_n hx hb dX6_lastLink_21 rfl (lv_at hl 0 rfl) ?_
          refine lv_iload_n hx hb dX6_lastLink_22 rfl (lv_at hl 3 rfl) ?_
          refine lv_iconst (v := 2) hx hb dX6_lastLink_23 (by decide) ?_
          obtain ⟨r_7, hc_8, hf⟩ := bd_of hf
          refine fn_V (v := some (.int r_7)) (As := [.int x3, .int (2 : Int32)]) (rest := []) (st1 := [.int r_7]) (ws' := (wMo X mo al sv sm asd th ho fr txt tl pos od nu su)) (nL := 4) ⟨hx, hb, hml, hown, hts⟩ (c_X6_of l X mo al sv sm asd th ho fr txt tl pos od nu su x3 (2 : Int32) r_7 hc_8) (cwV 2 hts gX6_lastLink_X6_of rfl rfl rfl (by decide +kernel) ⟨Nat.le_of_ble_eq_true rfl, Nat.le_of_ble_eq_true rfl⟩) 6 rfl rfl rfl rfl hl.1 rfl (Nat.le_of_ble_eq_true rfl) dX6_lastLink_24 hK hP (hD0.addr rfl) hS hA [0, 1, 2, 3, 4, 5, 6, 7] rfl rfl rfl rfl ⟨Nat.zero_le _, Nat.zero_le _⟩ (fun H locs hP hD hS => ?_)
          refine lv_iload_n hx hb dX6_lastLink_27 rfl (lv_at hl 1 rfl) ?_
          refine lv_icmp_ne (tgt := 55) hx hb dX6_lastLink_28 (by decide) (fun c_9 => ?_) (fun c_9 => ?_)
          · replace hf := fp_f c_9 hf
            obtain ⟨v_10, ev_10⟩ : ∃ y : Int32, y = x3 + (1 : Int32) := ⟨_, rfl⟩
            replace hf := nm_of ev_10 hf
            refine lv_iinc (v := v_10) (lv' := [(3, .int v_10), (0, .ref (mo 0)), (1, .int x1), (2, .int x2)]) hx hb dX6_lastLink_55 hl (k := 3) rfl (by rw [ev_10]; rfl) (by decide) rfl (fun ls hl => ?_)
            refine lv_goto (tgt := 2) hx hb dX6_lastLink_58 (by decide) ?_
            exact ih v_10 _ _ _ hf hP hS (lv_sub hl [1, 2, 3, 0] rfl)
          · replace hf := fp_t c_9 hf
            refine lv_aload_n hx hb dX6_lastLink_31 rfl (lv_at hl 0 rfl) ?_
            refine va_get (D := X.1) (ci := 6) (v := .ref (mo 5)) (C := RX6) (T := TX6) (N := 13) hx hb hts hiX6 hown hK.1 hP 0 rfl rfl 6 (by decide) k22 (fun _ h9 => h9) rfl dX6_lastLink_32 ?_
            refine lv_aload_n hx hb dX6_lastLink_35 rfl (lv_at hl 0 rfl) ?_
            refine lv_iload_n hx hb dX6_lastLink_36 rfl (lv_at hl 3 rfl) ?_
            refine lv_iconst (v := 1) hx hb dX6_lastLink_37 (by decide) ?_
            obtain ⟨r_11, hc_12, hf⟩ := bd_of hf
            refine fn_V (v := some (.int r_11)) (As := [.int x3, .int (1 : Int32)]) (rest := [.ref (mo 5)]) (st1 := [.int r_11, .ref (mo 5)]) (ws' := (wMo X mo al sv sm asd th ho fr txt tl pos od nu su)) (nL := 4) ⟨hx, hb, hml, hown, hts⟩ (c_X6_of l X mo al sv sm asd th ho fr txt tl pos od nu su x3 (1 : Int32) r_11 hc_12) (cwV 2 hts gX6_lastLink_X6_of rfl rfl rfl (by decide +kernel) ⟨Nat.le_of_ble_eq_true rfl, Nat.le_of_ble_eq_true rfl⟩) 6 rfl rfl rfl rfl hl.1 rfl (Nat.le_of_ble_eq_true rfl) dX6_lastLink_38 hK hP (hD0.addr rfl) hS hA [0, 1, 2, 3, 4, 5, 6, 7] rfl rfl rfl rfl ⟨Nat.zero_le _, Nat.zero_le _⟩ (fun H locs hP hD hS => ?_)
            obtain ⟨hi_13, hf⟩ := ix_of hf
            refine va_iald hx hb hK.1 hP 5 0 rfl rfl hi_13 dX6_lastLink_41 ?_
            refine lv_aload_n hx hb dX6_lastLink_42 rfl (lv_at hl 0 rfl) ?_
            refine va_get (D := X.1) (ci := 6) (v := .ref (mo 5)) (C := RX6) (T := TX6) (N := 13) hx hb hts hiX6 hown hK.1 hP 0 rfl rfl 6 (by decide) k22 (fun _ h9 => h9) rfl dX6_lastLink_43 ?_
            refine lv_iload_n hx hb dX6_lastLink_46 rfl (lv_at hl 1 rfl) ?_
            obtain ⟨hi_14, hf⟩ := ix_of hf
            refine va_iald hx hb hK.1 hP 5 0 rfl rfl hi_14 dX6_lastLink_47 ?_
            refine lv_iconst (v := 1) hx hb dX6_lastLink_48 (by decide) ?_
            refine lv_isub hx hb dX6_lastLink_49 ?_
            refine lv_icmp_ne (tgt := 55) hx hb dX6_lastLink_50 (by decide) (fun c_15 => ?_) (fun c_15 => ?_)
            · replace hf := fp_f c_15 hf
              obtain ⟨v_16, ev_16⟩ : ∃ y : Int32, y = x3 + (1 : Int32) := ⟨_, rfl⟩
              replace hf := nm_of ev_16 hf
              refine lv_iinc (v := v_16) (lv' := [(3, .int v_16), (0, .ref (mo 0)), (1, .int x1), (2, .int x2)]) hx hb dX6_lastLink_55 hl (k := 3) rfl (by rw [ev_16]; rfl) (by decide) rfl (fun ls hl => ?_)
              refine lv_goto (tgt := 2) hx hb dX6_lastLink_58 (by decide) ?_
              exact ih v_16 _ _ _ hf hP hS (lv_sub hl [1, 2, 3, 0] rfl)
            · replace hf := fp_t c_15 hf
              refine lv_iload_n hx hb dX6_lastLink_53 rfl (lv_at hl 3 rfl) ?_
              cases hf
              exact fn_iret hx hb hr hlocks hP hS dX6_lastLink_54
  unfold f_X6_lastLink at hf
  refine lv_iconst (v := 0) hx hb dX6_lastLink_0 (by decide) ?_
  refine lv_istore_n (lv' := [(3, .int (0 : Int32)), (0, .ref (mo 0)), (1, .int x1), (2, .int x2)]) hx hb dX6_lastLink_1 rfl hl (by decide) rfl (fun ls hl => ?_)
  exact loop_2 FU (0 : Int32) _ _ _ hf hP hS (lv_sub hl [1, 2, 3, 0] rfl)

def f_X6_link_L97 (x2 : Int32) (al : (Nat → Int32)) (ho : (Nat → Int32)) (fr : (Nat → Int32)) : Nat → Int32 → Int32 →  Option (Int32)
  | 0, _, _ => none
  | k_ + 1, x7, x8 =>
    if x8 ≤ (0 : Int32) then
    (some x7)
    else
    (bd (f_X6_of x7 (1 : Int32) al) (fun r_2 =>
    bd (f_X6_lastLink r_2 x2 al ho fr) (fun r_4 =>
    nm (x8 + (-1 : Int32)) (fun v_6 =>
    f_X6_link_L97 x2 al ho fr k_ r_4 v_6))))
def f_X6_link (x1 : Int32) (x2 : Int32) (x3 : Int32) (al : (Nat → Int32)) (th : Int32) (ho : (Nat → Int32)) (fr : (Nat → Int32)) : Option (Int32 × Int32 × (Nat → Int32) × (Nat → Int32)) :=
  bd (f_X6_isPerson x1) (fun r_7 =>
  if r_7 = (0 : Int32) then
  (bd2 (f_X6_goes (0 : Int32) (1 : Int32) (1 : Int32) th) (fun r_12 th_13 =>
  if r_12 = (0 : Int32) then
  (some ((0 : Int32), th_13, ho, fr))
  else
  (bd (f_X6_lastLink x1 x2 al ho fr) (fun r_16 =>
  nm (((0 : Int32) - (1 : Int32)) - x3) (fun v_18 =>
  bd (f_X6_link_L97 x2 al ho fr FU r_16 v_18) (fun y7_19 =>
  bd (f_X6_of y7_19 (0 : Int32) al) (fun r_21 =>
  some (r_21, th_13, ho, fr))))))))
  else
  (bd (f_X6_isThing x2 al) (fun r_23 =>
  if r_23 = (0 : Int32) then
  (bd2 (f_X6_goes (0 : Int32) (1 : Int32) (1 : Int32) th) (fun r_28 th_29 =>
  if r_28 = (0 : Int32) then
  (some ((0 : Int32), th_29, ho, fr))
  else
  (bd (f_X6_lastLink x1 x2 al ho fr) (fun r_32 =>
  nm (((0 : Int32) - (1 : Int32)) - x3) (fun v_34 =>
  bd (f_X6_link_L97 x2 al ho fr FU r_32 v_34) (fun y7_35 =>
  bd (f_X6_of y7_35 (0 : Int32) al) (fun r_37 =>
  some (r_37, th_29, ho, fr))))))))
  else
  (bd (f_X6_lay al ho) (fun ho_40 =>
  bd2 (f_X6_chainOf x1 x2 al ho_40 fr) (fun r_42 fr_43 =>
  bd (f_X6_in x3.toInt64 (0 : Int64) (r_42.toInt64 - (1 : Int64))) (fun r_46 =>
  if r_46 = (0 : Int32) then
  (bd2 (f_X6_goes (0 : Int32) (1 : Int32) (1 : Int32) th) (fun r_49 th_50 =>
  if r_49 = (0 : Int32) then
  (some ((0 : Int32), th_50, ho_40, fr_43))
  else
  (bd (f_X6_lastLink x1 x2 al ho_40 fr_43) (fun r_53 =>
  nm ((r_42 - (1 : Int32)) - x3) (fun v_55 =>
  bd (f_X6_link_L97 x2 al ho_40 fr_43 FU r_53 v_55) (fun y7_56 =>
  bd (f_X6_of y7_56 (0 : Int32) al) (fun r_58 =>
  some (r_58, th_50, ho_40, fr_43))))))))
  else
  (bd2 (f_X6_goes (1 : Int32) (1 : Int32) (1 : Int32) th) (fun r_60 th_61 =>
  if r_60 = (0 : Int32) then
  (some ((0 : Int32), th_61, ho_40, fr_43))
  else
  (bd (f_X6_lastLink x1 x2 al ho_40 fr_43) (fun r_64 =>
  nm ((r_42 - (1 : Int32)) - x3) (fun v_66 =>
  bd (f_X6_link_L97 x2 al ho_40 fr_43 FU r_64 v_66) (fun y7_67 =>
  bd (f_X6_of y7_67 (0 : Int32) al) (fun r_69 =>
  some (r_69, th_61, ho_40, fr_43)))))))))))))))
set_option maxHeartbeats 4000000 in
set_option maxRecDepth 100000 in
theorem c_X6_link (l : Launch) (X : cx_G) (mo : (Nat → Nat)) (al : (Nat → Int32)) (sv : (Nat → Int32)) (sm : Int32) (asd : (Nat → Int32)) (th : Int32) (ho : (Nat → Int32)) (fr : (Nat → Int32)) (txt : (Nat → Int32)) (tl : Int32) (pos : Int32) (od : Int32) (nu : (Nat → Int32)) (su : Int64) (x1 : Int32) (x2 : Int32) (x3 : Int32) (r : Int32) (th' : Int32) (ho' : (Nat → Int32)) (fr' : (Nat → Int32)) (hf : f_X6_link x1 x2 x3 al th ho fr = some (r, th', ho', fr')) : Fn l yX6_link wsX6_link ({ frames := 4, cells := 0, slots := 0, locals := 90 } : Room) X [.ref (mo 0), .int x1, .int x2, .int x3] (wMo X mo al sv sm asd th ho fr txt tl pos od nu su) (some (.int r)) (wMo X mo al sv sm asd th' ho' fr' txt tl pos od nu su) := by
  refine fn_intro (cc := cX6_link) (maxL := 9) (ret := (some .int)) (by decide) rfl rfl (Nat.le_of_ble_eq_true rfl) ?_
  intro p e s m args below meth c A ls hx hb hml hr hts hown hlocks hK hP hD0 hS hA hl
  have hown : s.vm.findClass RX6 = some m.cls := hown
  have hl : lv_has ls 9 [(0, .ref (mo 0)), (1, .int x1), (2, .int x2), (3, .int x3)] := hl
  have loop_97 : ∀ (Q : State → Prop) (th : Int32) (ho : (Nat → Int32)) (fr : (Nat → Int32)) (y7 : Int32), (∀ (H : Heap) (locs : List Loc) (ls : Array Slot), va_P X.1 vwCl (wMo X mo al sv sm asd th ho fr txt tl pos od nu su) H → va_S A s.heap H locs → lv_has ls 9 [(0, .ref (mo 0)), (7, .int y7)] → W p l e ({ frames := 4, cells := 0, slots := 0, locals := 90 } : Room) s m args below meth c H locs 0 0 Q (F0 m 126 ls [])) → ∀ (k_ : Nat) (x7 : Int32) (x8 : Int32) (H : Heap) (locs : List Loc) (ls : Array Slot), f_X6_link_L97 x2 al ho fr k_ x7 x8 = some y7 → va_P X.1 vwCl (wMo X mo al sv sm asd th ho fr txt tl pos od nu su) H → va_S A s.heap H locs → lv_has ls 9 [(0, .ref (mo 0)), (2, .int x2), (7, .int x7), (8, .int x8)] → W p l e ({ frames := 4, cells := 0, slots := 0, locals := 90 } : Room) s m args below meth c H locs 0 0 Q (F0 m 97 ls []) := by
    intro Q th ho fr y7 kx k_
    induction k_ with
    | zero => intro x7 x8 H locs ls hf; exact nomatch (show (none : Option (Int32)) = some _ from hf)
    | succ k_ ih =>
      intro x7 x8 H locs ls hf hP hS hl
      unfold f_X6_link_L97 at hf
      refine lv_iload hx hb dX6_link_97 (lv_at hl 3 rfl) ?_
      refine lv_if_le (tgt := 126) hx hb dX6_link_99 (by decide) (fun c_1 => ?_) (fun c_1 => ?_)
      · replace hf := fp_t c_1 hf
        cases hf
        exact kx _ _ _ hP hS (lv_sub hl [0, 2] rfl)
      · replace hf := fp_f c_1 hf
        refine lv_aload_n hx hb dX6_link_102 rfl (lv_at hl 0 rfl) ?_
        refine lv_iload hx hb dX6_link_103 (lv_at hl 2 rfl) ?_
        refine lv_iconst (v := 1) hx hb dX6_link_105 (by decide) ?_
        obtain ⟨r_2, hc_3, hf⟩ := bd_of hf
        refine fn_V (v := some (.int r_2)) (As := [.int x7, .int (1 : Int32)]) (rest := []) (st1 := [.int r_2]) (ws' := (wMo X mo al sv sm asd th ho fr txt tl pos od nu su)) (nL := 9) ⟨hx, hb, hml, hown, hts⟩ (c_X6_of l X mo al sv sm asd th ho fr txt tl pos od nu su x7 (1 : Int32) r_2 hc_3) (cwV 2 hts gX6_link_X6_of rfl rfl rfl (by decide +kernel) ⟨Nat.le_of_ble_eq_true rfl, Nat.le_of_ble_eq_true rfl⟩) 6 rfl rfl rfl rfl hl.1 rfl (Nat.le_of_ble_eq_true rfl) dX6_link_106 hK hP (hD0.addr rfl) hS hA [0, 1, 2, 3, 4, 5, 6, 7] rfl rfl rfl rfl ⟨Nat.zero_le _, Nat.zero_le _⟩ (fun H locs hP hD hS => ?_)
        refine lv_istore (lv' := [(6, .int r_2), (0, .ref (mo 0)), (2, .int x2), (7, .int x7), (8, .int x8)]) hx hb dX6_link_109 hl (by decide) rfl (fun ls hl => ?_)
        refine lv_aload_n hx hb dX6_link_111 rfl (lv_at hl 1 rfl) ?_
        refine lv_iload hx hb dX6_link_112 (lv_at hl 0 rfl) ?_
        refine lv_iload_n hx hb dX6_link_114 rfl (lv_at hl 2 rfl) ?_
        obtain ⟨r_4, hc_5, hf⟩ := bd_of hf
        refine fn_V (v := some (.int r_4)) (As := [.int r_2, .int x2]) (rest := []) (st1 := [.int r_4]) (ws' := (wMo X mo al sv sm asd th ho fr txt tl pos od nu su)) (nL := 9) ⟨hx, hb, hml, hown, hts⟩ (c_X6_lastLink l X mo al sv sm asd th ho fr txt tl pos od nu su r_2 x2 r_4 hc_5) (cwV 2 hts gX6_link_X6_lastLink rfl rfl rfl (by decide +kernel) ⟨Nat.le_of_ble_eq_true rfl, Nat.le_of_ble_eq_true rfl⟩) 6 rfl rfl rfl rfl hl.1 rfl (Nat.le_of_ble_eq_true rfl) dX6_link_115 hK hP (hD0.addr rfl) hS hA [0, 1, 2, 3, 4, 5, 6, 7] rfl rfl rfl rfl ⟨Nat.zero_le _, Nat.zero_le _⟩ (fun H locs hP hD hS => ?_)
        refine lv_istore (lv' := [(7, .int r_4), (6, .int r_2), (0, .ref (mo 0)), (2, .int x2), (8, .int x8)]) hx hb dX6_link_118 hl (by decide) rfl (fun ls hl => ?_)
        obtain ⟨v_6, ev_6⟩ : ∃ y : Int32, y = x8 + (-1 : Int32) := ⟨_, rfl⟩
        replace hf := nm_of ev_6 hf
        refine lv_iinc (v := v_6) (lv' := [(8, .int v_6), (7, .int r_4), (6, .int r_2), (0, .ref (mo 0)), (2, .int x2)]) hx hb dX6_link_120 hl (k := 4) rfl (by rw [ev_6]; rfl) (by decide) rfl (fun ls hl => ?_)
        refine lv_goto (tgt := 97) hx hb dX6_link_123 (by decide) ?_
        exact ih r_4 v_6 _ _ _ hf hP hS (lv_sub hl [3, 4, 1, 0] rfl)
  unfold f_X6_link at hf
  refine lv_iload_n hx hb dX6_link_0 rfl (lv_at hl 1 rfl) ?_
  obtain ⟨r_7, hc_8, hf⟩ := bd_of hf
  refine fn_Sx (v := some (.int r_7)) (As := [.int x1]) (rest := []) (st1 := [.int r_7]) (ws' := (wMo X mo al sv sm asd th ho fr txt tl pos od nu su)) (nL := 9) ⟨hx, hb, hml, hown, hts⟩ (c_X6_isPerson l X x1 r_7 hc_8) (va_cwS 1 hts gX6_link_X6_isPerson rfl rfl rfl (by decide +kernel) ⟨Nat.le_of_ble_eq_true rfl, Nat.le_of_ble_eq_true rfl⟩) rfl hl.1 rfl (Nat.le_of_ble_eq_true rfl) dX6_link_1 hK hP (hD0.addr rfl) hS hA [] rfl rfl rfl rfl ⟨Nat.zero_le _, Nat.zero_le _⟩ (fun H locs hP hD hS => ?_)
  refine lv_if_eq (tgt := 19) hx hb dX6_link_4 (by decide) (fun c_9 => ?_) (fun c_9 => ?_)
  · replace hf := fp_t c_9 hf
    refine lv_iconst (v := 0) hx hb dX6_link_19 (by decide) ?_
    refine lv_istore (lv' := [(4, .int (0 : Int32)), (0, .ref (mo 0)), (1, .int x1), (2, .int x2), (3, .int x3)]) hx hb dX6_link_20 hl (by decide) rfl (fun ls hl => ?_)
    refine lv_iconst (v := 0) hx hb dX6_link_22 (by decide) ?_
    refine lv_istore (lv' := [(5, .int (0 : Int32)), (4, .int (0 : Int32)), (0, .ref (mo 0)), (1, .int x1), (2, .int x2), (3, .int x3)]) hx hb dX6_link_23 hl (by decide) rfl (fun ls hl => ?_)
    refine lv_iload hx hb dX6_link_25 (lv_at hl 1 rfl) ?_
    refine lv_if_eq (tgt := 42) hx hb dX6_link_27 (by decide) (fun _ => ?_) (fun c9 => absurd c9 (by decide))
    refine lv_aload_n hx hb dX6_link_42 rfl (lv_at hl 2 rfl) ?_
    refine lv_iload hx hb dX6_link_43 (lv_at hl 1 rfl) ?_
    refine lv_if_eq (tgt := 66) hx hb dX6_link_45 (by decide) (fun _ => ?_) (fun c9 => absurd c9 (by decide))
    refine lv_iconst (v := 0) hx hb dX6_link_66 (by decide) ?_
    refine lv_iconst (v := 1) hx hb dX6_link_67 (by decide) ?_
    refine lv_iconst (v := 1) hx hb dX6_link_68 (by decide) ?_
    obtain ⟨r_12, th_13, hc_14, hf⟩ := bd2_of hf
    refine fn_V (v := some (.int r_12)) (As := [.int (0 : Int32), .int (1 : Int32), .int (1 : Int32)]) (rest := []) (st1 := [.int r_12]) (ws' := (wMo X mo al sv sm asd th_13 ho fr txt tl pos od nu su)) (nL := 9) ⟨hx, hb, hml, hown, hts⟩ (c_X6_goes l X mo al sv sm asd th ho fr txt tl pos od nu su (0 : Int32) (1 : Int32) (1 : Int32) r_12 th_13 hc_14) (cwV 3 hts gX6_link_X6_goes rfl rfl rfl (by decide +kernel) ⟨Nat.le_of_ble_eq_true rfl, Nat.le_of_ble_eq_true rfl⟩) 6 rfl rfl rfl rfl hl.1 rfl (Nat.le_of_ble_eq_true rfl) dX6_link_69 hK hP (hD0.addr rfl) hS hA [0, 1, 2, 3, 4, 5, 6, 7] rfl rfl rfl rfl ⟨Nat.zero_le _, Nat.zero_le _⟩ (fun H locs hP hD hS => ?_)
    refine lv_if_ne (tgt := 77) hx hb dX6_link_72 (by decide) (fun c_15 => ?_) (fun c_15 => ?_)
    · replace hf := fp_f c_15 hf
      refine lv_iload_n hx hb dX6_link_77 rfl (lv_at hl 3 rfl) ?_
      refine lv_istore (lv' := [(6, .int x1), (5, .int (0 : Int32)), (4, .int (0 : Int32)), (0, .ref (mo 0)), (1, .int x1), (2, .int x2), (3, .int x3)]) hx hb dX6_link_78 hl (by decide) rfl (fun ls hl => ?_)
      refine lv_aload_n hx hb dX6_link_80 rfl (lv_at hl 3 rfl) ?_
      refine lv_iload hx hb dX6_link_81 (lv_at hl 0 rfl) ?_
      refine lv_iload_n hx hb dX6_link_83 rfl (lv_at hl 5 rfl) ?_
      obtain ⟨r_16, hc_17, hf⟩ := bd_of hf
      refine fn_V (v := some (.int r_16)) (As := [.int x1, .int x2]) (rest := []) (st1 := [.int r_16]) (ws' := (wMo X mo al sv sm asd th_13 ho fr txt tl pos od nu su)) (nL := 9) ⟨hx, hb, hml, hown, hts⟩ (c_X6_lastLink l X mo al sv sm asd th_13 ho fr txt tl pos od nu su x1 x2 r_16 hc_17) (cwV 2 hts gX6_link_X6_lastLink rfl rfl rfl (by decide +kernel) ⟨Nat.le_of_ble_eq_true rfl, Nat.le_of_ble_eq_true rfl⟩) 6 rfl rfl rfl rfl hl.1 rfl (Nat.le_of_ble_eq_true rfl) dX6_link_84 hK hP (hD0.addr rfl) hS hA [0, 1, 2, 3, 4, 5, 6, 7] rfl rfl rfl rfl ⟨Nat.zero_le _, Nat.zero_le _⟩ (fun H locs hP hD hS => ?_)
      refine lv_istore (lv' := [(7, .int r_16), (6, .int x1), (5, .int (0 : Int32)), (4, .int (0 : Int32)), (0, .ref (mo 0)), (1, .int x1), (2, .int x2), (3, .int x3)]) hx hb dX6_link_87 hl (by decide) rfl (fun ls hl => ?_)
      refine lv_iload hx hb dX6_link_89 (lv_at hl 2 rfl) ?_
      refine lv_iconst (v := 1) hx hb dX6_link_91 (by decide) ?_
      refine lv_isub hx hb dX6_link_92 ?_
      refine lv_iload_n hx hb dX6_link_93 rfl (lv_at hl 7 rfl) ?_
      refine lv_isub hx hb dX6_link_94 ?_
      refine lv_topi (fun v_18 ev_18 => ?_)
      replace hf := nm_of ev_18 hf
      refine lv_istore (lv' := [(8, .int v_18), (7, .int r_16), (6, .int x1), (5, .int (0 : Int32)), (4, .int (0 : Int32)), (0, .ref (mo 0)), (1, .int x1), (2, .int x2), (3, .int x3)]) hx hb dX6_link_95 hl (by decide) rfl (fun ls hl => ?_)
      obtain ⟨y7_19, hL_20, hf⟩ := bd_of hf
      refine loop_97 _ th_13 ho fr y7_19 (fun H locs ls hP hS hl => ?_) FU r_16 v_18 _ _ _ hL_20 hP hS (lv_sub hl [5, 7, 1, 0] rfl)
      refine lv_aload_n hx hb dX6_link_126 rfl (lv_at hl 0 rfl) ?_
      refine lv_iload hx hb dX6_link_127 (lv_at hl 1 rfl) ?_
      refine lv_iconst (v := 0) hx hb dX6_link_129 (by decide) ?_
      obtain ⟨r_21, hc_22, hf⟩ := bd_of hf
      refine fn_V (v := some (.int r_21)) (As := [.int y7_19, .int (0 : Int32)]) (rest := []) (st1 := [.int r_21]) (ws' := (wMo X mo al sv sm asd th_13 ho fr txt tl pos od nu su)) (nL := 9) ⟨hx, hb, hml, hown, hts⟩ (c_X6_of l X mo al sv sm asd th_13 ho fr txt tl pos od nu su y7_19 (0 : Int32) r_21 hc_22) (cwV 2 hts gX6_link_X6_of rfl rfl rfl (by decide +kernel) ⟨Nat.le_of_ble_eq_true rfl, Nat.le_of_ble_eq_true rfl⟩) 6 rfl rfl rfl rfl hl.1 rfl (Nat.le_of_ble_eq_true rfl) dX6_link_130 hK hP (hD0.addr rfl) hS hA [0, 1, 2, 3, 4, 5, 6, 7] rfl rfl rfl rfl ⟨Nat.zero_le _, Nat.zero_le _⟩ (fun H locs hP hD hS => ?_)
      cases hf
      exact fn_iret hx hb hr hlocks hP hS dX6_link_133
    · replace hf := fp_t c_15 hf
      refine lv_iconst (v := 0) hx hb dX6_link_75 (by decide) ?_
      cases hf
      exact fn_iret hx hb hr hlocks hP hS dX6_link_76
  · replace hf := fp_f c_9 hf
    refine lv_aload_n hx hb dX6_link_7 rfl (lv_at hl 0 rfl) ?_
    refine lv_iload_n hx hb dX6_link_8 rfl (lv_at hl 2 rfl) ?_
    obtain ⟨r_23, hc_24, hf⟩ := bd_of hf
    refine fn_V (v := some (.int r_23)) (As := [.int x2]) (rest := []) (st1 := [.int r_23]) (ws' := (wMo X mo al sv sm asd th ho fr txt tl pos od nu su)) (nL := 9) ⟨hx, hb, hml, hown, hts⟩ (c_X6_isThing l X mo al sv sm asd th ho fr txt tl pos od nu su x2 r_23 hc_24) (cwV 1 hts gX6_link_X6_isThing rfl rfl rfl (by decide +kernel) ⟨Nat.le_of_ble_eq_true rfl, Nat.le_of_ble_eq_true rfl⟩) 6 rfl rfl rfl rfl hl.1 rfl (Nat.le_of_ble_eq_true rfl) dX6_link_9 hK hP (hD0.addr rfl) hS hA [0, 1, 2, 3, 4, 5, 6, 7] rfl rfl rfl rfl ⟨Nat.zero_le _, Nat.zero_le _⟩ (fun H locs hP hD hS => ?_)
    refine lv_if_eq (tgt := 19) hx hb dX6_link_12 (by decide) (fun c_25 => ?_) (fun c_25 => ?_)
    · replace hf := fp_t c_25 hf
      refine lv_iconst (v := 0) hx hb dX6_link_19 (by decide) ?_
      refine lv_istore (lv' := [(4, .int (0 : Int32)), (0, .ref (mo 0)), (1, .int x1), (2, .int x2), (3, .int x3)]) hx hb dX6_link_20 hl (by decide) rfl (fun ls hl => ?_)
      refine lv_iconst (v := 0) hx hb dX6_link_22 (by decide) ?_
      refine lv_istore (lv' := [(5, .int (0 : Int32)), (4, .int (0 : Int32)), (0, .ref (mo 0)), (1, .int x1), (2, .int x2), (3, .int x3)]) hx hb dX6_link_23 hl (by decide) rfl (fun ls hl => ?_)
      refine lv_iload hx hb dX6_link_25 (lv_at hl 1 rfl) ?_
      refine lv_if_eq (tgt := 42) hx hb dX6_link_27 (by decide) (fun _ => ?_) (fun c9 => absurd c9 (by decide))
      refine lv_aload_n hx hb dX6_link_42 rfl (lv_at hl 2 rfl) ?_
      refine lv_iload hx hb dX6_link_43 (lv_at hl 1 rfl) ?_
      refine lv_if_eq (tgt := 66) hx hb dX6_link_45 (by decide) (fun _ => ?_) (fun c9 => absurd c9 (by decide))
      refine lv_iconst (v := 0) hx hb dX6_link_66 (by decide) ?_
      refine lv_iconst (v := 1) hx hb dX6_link_67 (by decide) ?_
      refine lv_iconst (v := 1) hx hb dX6_link_68 (by decide) ?_
      obtain ⟨r_28, th_29, hc_30, hf⟩ := bd2_of hf
      refine fn_V (v := some (.int r_28)) (As := [.int (0 : Int32), .int (1 : Int32), .int (1 : Int32)]) (rest := []) (st1 := [.int r_28]) (ws' := (wMo X mo al sv sm asd th_29 ho fr txt tl pos od nu su)) (nL := 9) ⟨hx, hb, hml, hown, hts⟩ (c_X6_goes l X mo al sv sm asd th ho fr txt tl pos od nu su (0 : Int32) (1 : Int32) (1 : Int32) r_28 th_29 hc_30) (cwV 3 hts gX6_link_X6_goes rfl rfl rfl (by decide +kernel) ⟨Nat.le_of_ble_eq_true rfl, Nat.le_of_ble_eq_true rfl⟩) 6 rfl rfl rfl rfl hl.1 rfl (Nat.le_of_ble_eq_true rfl) dX6_link_69 hK hP (hD0.addr rfl) hS hA [0, 1, 2, 3, 4, 5, 6, 7] rfl rfl rfl rfl ⟨Nat.zero_le _, Nat.zero_le _⟩ (fun H locs hP hD hS => ?_)
      refine lv_if_ne (tgt := 77) hx hb dX6_link_72 (by decide) (fun c_31 => ?_) (fun c_31 => ?_)
      · replace hf := fp_f c_31 hf
        refine lv_iload_n hx hb dX6_link_77 rfl (lv_at hl 3 rfl) ?_
        refine lv_istore (lv' := [(6, .int x1), (5, .int (0 : Int32)), (4, .int (0 : Int32)), (0, .ref (mo 0)), (1, .int x1), (2, .int x2), (3, .int x3)]) hx hb dX6_link_78 hl (by decide) rfl (fun ls hl => ?_)
        refine lv_aload_n hx hb dX6_link_80 rfl (lv_at hl 3 rfl) ?_
        refine lv_iload hx hb dX6_link_81 (lv_at hl 0 rfl) ?_
        refine lv_iload_n hx hb dX6_link_83 rfl (lv_at hl 5 rfl) ?_
        obtain ⟨r_32, hc_33, hf⟩ := bd_of hf
        refine fn_V (v := some (.int r_32)) (As := [.int x1, .int x2]) (rest := []) (st1 := [.int r_32]) (ws' := (wMo X mo al sv sm asd th_29 ho fr txt tl pos od nu su)) (nL := 9) ⟨hx, hb, hml, hown, hts⟩ (c_X6_lastLink l X mo al sv sm asd th_29 ho fr txt tl pos od nu su x1 x2 r_32 hc_33) (cwV 2 hts gX6_link_X6_lastLink rfl rfl rfl (by decide +kernel) ⟨Nat.le_of_ble_eq_true rfl, Nat.le_of_ble_eq_true rfl⟩) 6 rfl rfl rfl rfl hl.1 rfl (Nat.le_of_ble_eq_true rfl) dX6_link_84 hK hP (hD0.addr rfl) hS hA [0, 1, 2, 3, 4, 5, 6, 7] rfl rfl rfl rfl ⟨Nat.zero_le _, Nat.zero_le _⟩ (fun H locs hP hD hS => ?_)
        refine lv_istore (lv' := [(7, .int r_32), (6, .int x1), (5, .int (0 : Int32)), (4, .int (0 : Int32)), (0, .ref (mo 0)), (1, .int x1), (2, .int x2), (3, .int x3)]) hx hb dX6_link_87 hl (by decide) rfl (fun ls hl => ?_)
        refine lv_iload hx hb dX6_link_89 (lv_at hl 2 rfl) ?_
        refine lv_iconst (v := 1) hx hb dX6_link_91 (by decide) ?_
        refine lv_isub hx hb dX6_link_92 ?_
        refine lv_iload_n hx hb dX6_link_93 rfl (lv_at hl 7 rfl) ?_
        refine lv_isub hx hb dX6_link_94 ?_
        refine lv_topi (fun v_34 ev_34 => ?_)
        replace hf := nm_of ev_34 hf
        refine lv_istore (lv' := [(8, .int v_34), (7, .int r_32), (6, .int x1), (5, .int (0 : Int32)), (4, .int (0 : Int32)), (0, .ref (mo 0)), (1, .int x1), (2, .int x2), (3, .int x3)]) hx hb dX6_link_95 hl (by decide) rfl (fun ls hl => ?_)
        obtain ⟨y7_35, hL_36, hf⟩ := bd_of hf
        refine loop_97 _ th_29 ho fr y7_35 (fun H locs ls hP hS hl => ?_) FU r_32 v_34 _ _ _ hL_36 hP hS (lv_sub hl [5, 7, 1, 0] rfl)
        refine lv_aload_n hx hb dX6_link_126 rfl (lv_at hl 0 rfl) ?_
        refine lv_iload hx hb dX6_link_127 (lv_at hl 1 rfl) ?_
        refine lv_iconst (v := 0) hx hb dX6_link_129 (by decide) ?_
        obtain ⟨r_37, hc_38, hf⟩ := bd_of hf
        refine fn_V (v := some (.int r_37)) (As := [.int y7_35, .int (0 : Int32)]) (rest := []) (st1 := [.int r_37]) (ws' := (wMo X mo al sv sm asd th_29 ho fr txt tl pos od nu su)) (nL := 9) ⟨hx, hb, hml, hown, hts⟩ (c_X6_of l X mo al sv sm asd th_29 ho fr txt tl pos od nu su y7_35 (0 : Int32) r_37 hc_38) (cwV 2 hts gX6_link_X6_of rfl rfl rfl (by decide +kernel) ⟨Nat.le_of_ble_eq_true rfl, Nat.le_of_ble_eq_true rfl⟩) 6 rfl rfl rfl rfl hl.1 rfl (Nat.le_of_ble_eq_true rfl) dX6_link_130 hK hP (hD0.addr rfl) hS hA [0, 1, 2, 3, 4, 5, 6, 7] rfl rfl rfl rfl ⟨Nat.zero_le _, Nat.zero_le _⟩ (fun H locs hP hD hS => ?_)
        cases hf
        exact fn_iret hx hb hr hlocks hP hS dX6_link_133
      · replace hf := fp_t c_31 hf
        refine lv_iconst (v := 0) hx hb dX6_link_75 (by decide) ?_
        cases hf
        exact fn_iret hx hb hr hlocks hP hS dX6_link_76
    · replace hf := fp_f c_25 hf
      refine lv_iconst (v := 1) hx hb dX6_link_15 (by decide) ?_
      refine lv_goto (tgt := 20) hx hb dX6_link_16 (by decide) ?_
      refine lv_istore (lv' := [(4, .int (1 : Int32)), (0, .ref (mo 0)), (1, .int x1), (2, .int x2), (3, .int x3)]) hx hb dX6_link_20 hl (by decide) rfl (fun ls hl => ?_)
      refine lv_iconst (v := 0) hx hb dX6_link_22 (by decide) ?_
      refine lv_istore (lv' := [(5, .int (0 : Int32)), (4, .int (1 : Int32)), (0, .ref (mo 0)), (1, .int x1), (2, .int x2), (3, .int x3)]) hx hb dX6_link_23 hl (by decide) rfl (fun ls hl => ?_)
      refine lv_iload hx hb dX6_link_25 (lv_at hl 1 rfl) ?_
      refine lv_if_eq (tgt := 42) hx hb dX6_link_27 (by decide) (fun c9 => absurd c9 (by decide)) (fun _ => ?_)
      refine lv_aload_n hx hb dX6_link_30 rfl (lv_at hl 2 rfl) ?_
      obtain ⟨ho_40, hc_41, hf⟩ := bd_of hf
      refine fn_V (v := none) (As := []) (rest := []) (st1 := []) (ws' := (wMo X mo al sv sm asd th ho_40 fr txt tl pos od nu su)) (nL := 9) ⟨hx, hb, hml, hown, hts⟩ (c_X6_lay l X mo al sv sm asd th ho fr txt tl pos od nu su ho_40 hc_41) (cwV 0 hts gX6_link_X6_lay rfl rfl rfl (by decide +kernel) ⟨Nat.le_of_ble_eq_true rfl, Nat.le_of_ble_eq_true rfl⟩) 6 rfl rfl rfl rfl hl.1 rfl (Nat.le_of_ble_eq_true rfl) dX6_link_31 hK hP (hD0.addr rfl) hS hA [0, 1, 2, 3, 4, 5, 6, 7] rfl rfl rfl rfl ⟨Nat.zero_le _, Nat.zero_le _⟩ (fun H locs hP hD hS => ?_)
      refine lv_aload_n hx hb dX6_link_34 rfl (lv_at hl 2 rfl) ?_
      refine lv_iload_n hx hb dX6_link_35 rfl (lv_at hl 3 rfl) ?_
      refine lv_iload_n hx hb dX6_link_36 rfl (lv_at hl 4 rfl) ?_
      obtain ⟨r_42, fr_43, hc_44, hf⟩ := bd2_of hf
      refine fn_V (v := some (.int r_42)) (As := [.int x1, .int x2]) (rest := []) (st1 := [.int r_42]) (ws' := (wMo X mo al sv sm asd th ho_40 fr_43 txt tl pos od nu su)) (nL := 9) ⟨hx, hb, hml, hown, hts⟩ (c_X6_chainOf l X mo al sv sm asd th ho_40 fr txt tl pos od nu su x1 x2 r_42 fr_43 hc_44) (cwV 2 hts gX6_link_X6_chainOf rfl rfl rfl (by decide +kernel) ⟨Nat.le_of_ble_eq_true rfl, Nat.le_of_ble_eq_true rfl⟩) 6 rfl rfl rfl rfl hl.1 rfl (Nat.le_of_ble_eq_true rfl) dX6_link_37 hK hP (hD0.addr rfl) hS hA [0, 1, 2, 3, 4, 5, 6, 7] rfl rfl rfl rfl ⟨Nat.zero_le _, Nat.zero_le _⟩ (fun H locs hP hD hS => ?_)
      refine lv_istore (lv' := [(5, .int r_42), (4, .int (1 : Int32)), (0, .ref (mo 0)), (1, .int x1), (2, .int x2), (3, .int x3)]) hx hb dX6_link_40 hl (by decide) rfl (fun ls hl => ?_)
      refine lv_aload_n hx hb dX6_link_42 rfl (lv_at hl 2 rfl) ?_
      refine lv_iload hx hb dX6_link_43 (lv_at hl 1 rfl) ?_
      refine lv_if_eq (tgt := 66) hx hb dX6_link_45 (by decide) (fun c9 => absurd c9 (by decide)) (fun _ => ?_)
      refine lv_iload_n hx hb dX6_link_48 rfl (lv_at hl 5 rfl) ?_
      refine lv_i2l (v := x3.toInt64) hx hb dX6_link_49 rfl ?_
      refine lv_lconst (v := 0) hx hb dX6_link_50 (by decide) ?_
      refine lv_iload hx hb dX6_link_51 (lv_at hl 0 rfl) ?_
      refine lv_i2l (v := r_42.toInt64) hx hb dX6_link_53 rfl ?_
      refine lv_lconst (v := 1) hx hb dX6_link_54 (by decide) ?_
      refine lv_lsub hx hb dX6_link_55 ?_
      obtain ⟨r_46, hc_47, hf⟩ := bd_of hf
      refine fn_Sx (v := some (.int r_46)) (As := [.long x3.toInt64, .long (0 : Int64), .long (r_42.toInt64 - (1 : Int64))]) (rest := [.ref (mo 0)]) (st1 := [.int r_46, .ref (mo 0)]) (ws' := (wMo X mo al sv sm asd th ho_40 fr_43 txt tl pos od nu su)) (nL := 9) ⟨hx, hb, hml, hown, hts⟩ (c_X6_in l X x3.toInt64 (0 : Int64) (r_42.toInt64 - (1 : Int64)) r_46 hc_47) (va_cwS 3 hts gX6_link_X6_in rfl rfl rfl (by decide +kernel) ⟨Nat.le_of_ble_eq_true rfl, Nat.le_of_ble_eq_true rfl⟩) rfl hl.1 rfl (Nat.le_of_ble_eq_true rfl) dX6_link_56 hK hP (hD0.addr rfl) hS hA [] rfl rfl rfl rfl ⟨Nat.zero_le _, Nat.zero_le _⟩ (fun H locs hP hD hS => ?_)
      refine lv_if_eq (tgt := 66) hx hb dX6_link_59 (by decide) (fun c_48 => ?_) (fun c_48 => ?_)
      · replace hf := fp_t c_48 hf
        refine lv_iconst (v := 0) hx hb dX6_link_66 (by decide) ?_
        refine lv_iconst (v := 1) hx hb dX6_link_67 (by decide) ?_
        refine lv_iconst (v := 1) hx hb dX6_link_68 (by decide) ?_
        obtain ⟨r_49, th_50, hc_51, hf⟩ := bd2_of hf
        refine fn_V (v := some (.int r_49)) (As := [.int (0 : Int32), .int (1 : Int32), .int (1 : Int32)]) (rest := []) (st1 := [.int r_49]) (ws' := (wMo X mo al sv sm asd th_50 ho_40 fr_43 txt tl pos od nu su)) (nL := 9) ⟨hx, hb, hml, hown, hts⟩ (c_X6_goes l X mo al sv sm asd th ho_40 fr_43 txt tl pos od nu su (0 : Int32) (1 : Int32) (1 : Int32) r_49 th_50 hc_51) (cwV 3 hts gX6_link_X6_goes rfl rfl rfl (by decide +kernel) ⟨Nat.le_of_ble_eq_true rfl, Nat.le_of_ble_eq_true rfl⟩) 6 rfl rfl rfl rfl hl.1 rfl (Nat.le_of_ble_eq_true rfl) dX6_link_69 hK hP (hD0.addr rfl) hS hA [0, 1, 2, 3, 4, 5, 6, 7] rfl rfl rfl rfl ⟨Nat.zero_le _, Nat.zero_le _⟩ (fun H locs hP hD hS => ?_)
        refine lv_if_ne (tgt := 77) hx hb dX6_link_72 (by decide) (fun c_52 => ?_) (fun c_52 => ?_)
        · replace hf := fp_f c_52 hf
          refine lv_iload_n hx hb dX6_link_77 rfl (lv_at hl 3 rfl) ?_
          refine lv_istore (lv' := [(6, .int x1), (5, .int r_42), (4, .int (1 : Int32)), (0, .ref (mo 0)), (1, .int x1), (2, .int x2), (3, .int x3)]) hx hb dX6_link_78 hl (by decide) rfl (fun ls hl => ?_)
          refine lv_aload_n hx hb dX6_link_80 rfl (lv_at hl 3 rfl) ?_
          refine lv_iload hx hb dX6_link_81 (lv_at hl 0 rfl) ?_
          refine lv_iload_n hx hb dX6_link_83 rfl (lv_at hl 5 rfl) ?_
          obtain ⟨r_53, hc_54, hf⟩ := bd_of hf
          refine fn_V (v := some (.int r_53)) (As := [.int x1, .int x2]) (rest := []) (st1 := [.int r_53]) (ws' := (wMo X mo al sv sm asd th_50 ho_40 fr_43 txt tl pos od nu su)) (nL := 9) ⟨hx, hb, hml, hown, hts⟩ (c_X6_lastLink l X mo al sv sm asd th_50 ho_40 fr_43 txt tl pos od nu su x1 x2 r_53 hc_54) (cwV 2 hts gX6_link_X6_lastLink rfl rfl rfl (by decide +kernel) ⟨Nat.le_of_ble_eq_true rfl, Nat.le_of_ble_eq_true rfl⟩) 6 rfl rfl rfl rfl hl.1 rfl (Nat.le_of_ble_eq_true rfl) dX6_link_84 hK hP (hD0.addr rfl) hS hA [0, 1, 2, 3, 4, 5, 6, 7] rfl rfl rfl rfl ⟨Nat.zero_le _, Nat.zero_le _⟩ (fun H locs hP hD hS => ?_)
          refine lv_istore (lv' := [(7, .int r_53), (6, .int x1), (5, .int r_42), (4, .int (1 : Int32)), (0, .ref (mo 0)), (1, .int x1), (2, .int x2), (3, .int x3)]) hx hb dX6_link_87 hl (by decide) rfl (fun ls hl => ?_)
          refine lv_iload hx hb dX6_link_89 (lv_at hl 2 rfl) ?_
          refine lv_iconst (v := 1) hx hb dX6_link_91 (by decide) ?_
          refine lv_isub hx hb dX6_link_92 ?_
          refine lv_iload_n hx hb dX6_link_93 rfl (lv_at hl 7 rfl) ?_
          refine lv_isub hx hb dX6_link_94 ?_
          refine lv_topi (fun v_55 ev_55 => ?_)
          replace hf := nm_of ev_55 hf
          refine lv_istore (lv' := [(8, .int v_55), (7, .int r_53), (6, .int x1), (5, .int r_42), (4, .int (1 : Int32)), (0, .ref (mo 0)), (1, .int x1), (2, .int x2), (3, .int x3)]) hx hb dX6_link_95 hl (by decide) rfl (fun ls hl => ?_)
          obtain ⟨y7_56, hL_57, hf⟩ := bd_of hf
          refine loop_97 _ th_50 ho_40 fr_43 y7_56 (fun H locs ls hP hS hl => ?_) FU r_53 v_55 _ _ _ hL_57 hP hS (lv_sub hl [5, 7, 1, 0] rfl)
          refine lv_aload_n hx hb dX6_link_126 rfl (lv_at hl 0 rfl) ?_
          refine lv_iload hx hb dX6_link_127 (lv_at hl 1 rfl) ?_
          refine lv_iconst (v := 0) hx hb dX6_link_129 (by decide) ?_
          obtain ⟨r_58, hc_59, hf⟩ := bd_of hf
          refine fn_V (v := some (.int r_58)) (As := [.int y7_56, .int (0 : Int32)]) (rest := []) (st1 := [.int r_58]) (ws' := (wMo X mo al sv sm asd th_50 ho_40 fr_43 txt tl pos od nu su)) (nL := 9) ⟨hx, hb, hml, hown, hts⟩ (c_X6_of l X mo al sv sm asd th_50 ho_40 fr_43 txt tl pos od nu su y7_56 (0 : Int32) r_58 hc_59) (cwV 2 hts gX6_link_X6_of rfl rfl rfl (by decide +kernel) ⟨Nat.le_of_ble_eq_true rfl, Nat.le_of_ble_eq_true rfl⟩) 6 rfl rfl rfl rfl hl.1 rfl (Nat.le_of_ble_eq_true rfl) dX6_link_130 hK hP (hD0.addr rfl) hS hA [0, 1, 2, 3, 4, 5, 6, 7] rfl rfl rfl rfl ⟨Nat.zero_le _, Nat.zero_le _⟩ (fun H locs hP hD hS => ?_)
          cases hf
          exact fn_iret hx hb hr hlocks hP hS dX6_link_133
        · replace hf := fp_t c_52 hf
          refine lv_iconst (v := 0) hx hb dX6_link_75 (by decide) ?_
          cases hf
          exact fn_iret hx hb hr hlocks hP hS dX6_link_76
      · replace hf := fp_f c_48 hf
        refine lv_iconst (v := 1) hx hb dX6_link_62 (by decide) ?_
        refine lv_goto (tgt := 67) hx hb dX6_link_63 (by decide) ?_
        refine lv_iconst (v := 1) hx hb dX6_link_67 (by decide) ?_
        refine lv_iconst (v := 1) hx hb dX6_link_68 (by decide) ?_
        obtain ⟨r_60, th_61, hc_62, hf⟩ := bd2_of hf
        refine fn_V (v := some (.int r_60)) (As := [.int (1 : Int32), .int (1 : Int32), .int (1 : Int32)]) (rest := []) (st1 := [.int r_60]) (ws' := (wMo X mo al sv sm asd th_61 ho_40 fr_43 txt tl pos od nu su)) (nL := 9) ⟨hx, hb, hml, hown, hts⟩ (c_X6_goes l X mo al sv sm asd th ho_40 fr_43 txt tl pos od nu su (1 : Int32) (1 : Int32) (1 : Int32) r_60 th_61 hc_62) (cwV 3 hts gX6_link_X6_goes rfl rfl rfl (by decide +kernel) ⟨Nat.le_of_ble_eq_true rfl, Nat.le_of_ble_eq_true rfl⟩) 6 rfl rfl rfl rfl hl.1 rfl (Nat.le_of_ble_eq_true rfl) dX6_link_69 hK hP (hD0.addr rfl) hS hA [0, 1, 2, 3, 4, 5, 6, 7] rfl rfl rfl rfl ⟨Nat.zero_le _, Nat.zero_le _⟩ (fun H locs hP hD hS => ?_)
        refine lv_if_ne (tgt := 77) hx hb dX6_link_72 (by decide) (fun c_63 => ?_) (fun c_63 => ?_)
        · replace hf := fp_f c_63 hf
          refine lv_iload_n hx hb dX6_link_77 rfl (lv_at hl 3 rfl) ?_
          refine lv_istore (lv' := [(6, .int x1), (5, .int r_42), (4, .int (1 : Int32)), (0, .ref (mo 0)), (1, .int x1), (2, .int x2), (3, .int x3)]) hx hb dX6_link_78 hl (by decide) rfl (fun ls hl => ?_)
          refine lv_aload_n hx hb dX6_link_80 rfl (lv_at hl 3 rfl) ?_
          refine lv_iload hx hb dX6_link_81 (lv_at hl 0 rfl) ?_
          refine lv_iload_n hx hb dX6_link_83 rfl (lv_at hl 5 rfl) ?_
          obtain ⟨r_64, hc_65, hf⟩ := bd_of hf
          refine fn_V (v := some (.int r_64)) (As := [.int x1, .int x2]) (rest := []) (st1 := [.int r_64]) (ws' := (wMo X mo al sv sm asd th_61 ho_40 fr_43 txt tl pos od nu su)) (nL := 9) ⟨hx, hb, hml, hown, hts⟩ (c_X6_lastLink l X mo al sv sm asd th_61 ho_40 fr_43 txt tl pos od nu su x1 x2 r_64 hc_65) (cwV 2 hts gX6_link_X6_lastLink rfl rfl rfl (by decide +kernel) ⟨Nat.le_of_ble_eq_true rfl, Nat.le_of_ble_eq_true rfl⟩) 6 rfl rfl rfl rfl hl.1 rfl (Nat.le_of_ble_eq_true rfl) dX6_link_84 hK hP (hD0.addr rfl) hS hA [0, 1, 2, 3, 4, 5, 6, 7] rfl rfl rfl rfl ⟨Nat.zero_le _, Nat.zero_le _⟩ (fun H locs hP hD hS => ?_)
          refine lv_istore (lv' := [(7, .int r_64), (6, .int x1), (5, .int r_42), (4, .int (1 : Int32)), (0, .ref (mo 0)), (1, .int x1), (2, .int x2), (3, .int x3)]) hx hb dX6_link_87 hl (by decide) rfl (fun ls hl => ?_)
          refine lv_iload hx hb dX6_link_89 (lv_at hl 2 rfl) ?_
          refine lv_iconst (v := 1) hx hb dX6_link_91 (by decide) ?_
          refine lv_isub hx hb dX6_link_92 ?_
          refine lv_iload_n hx hb dX6_link_93 rfl (lv_at hl 7 rfl) ?_
          refine lv_isub hx hb dX6_link_94 ?_
          refine lv_topi (fun v_66 ev_66 => ?_)
          replace hf := nm_of ev_66 hf
          refine lv_istore (lv' := [(8, .int v_66), (7, .int r_64), (6, .int x1), (5, .int r_42), (4, .int (1 : Int32)), (0, .ref (mo 0)), (1, .int x1), (2, .int x2), (3, .int x3)]) hx hb dX6_link_95 hl (by decide) rfl (fun ls hl => ?_)
          obtain ⟨y7_67, hL_68, hf⟩ := bd_of hf
          refine loop_97 _ th_61 ho_40 fr_43 y7_67 (fun H locs ls hP hS hl => ?_) FU r_64 v_66 _ _ _ hL_68 hP hS (lv_sub hl [5, 7, 1, 0] rfl)
          refine lv_aload_n hx hb dX6_link_126 rfl (lv_at hl 0 rfl) ?_
          refine lv_iload hx hb dX6_link_127 (lv_at hl 1 rfl) ?_
          refine lv_iconst (v := 0) hx hb dX6_link_129 (by decide) ?_
          obtain ⟨r_69, hc_70, hf⟩ := bd_of hf
          refine fn_V (v := some (.int r_69)) (As := [.int y7_67, .int (0 : Int32)]) (rest := []) (st1 := [.int r_69]) (ws' := (wMo X mo al sv sm asd th_61 ho_40 fr_43 txt tl pos od nu su)) (nL := 9) ⟨hx, hb, hml, hown, hts⟩ (c_X6_of l X mo al sv sm asd th_61 ho_40 fr_43 txt tl pos od nu su y7_67 (0 : Int32) r_69 hc_70) (cwV 2 hts gX6_link_X6_of rfl rfl rfl (by decide +kernel) ⟨Nat.le_of_ble_eq_true rfl, Nat.le_of_ble_eq_true rfl⟩) 6 rfl rfl rfl rfl hl.1 rfl (Nat.le_of_ble_eq_true rfl) dX6_link_130 hK hP (hD0.addr rfl) hS hA [0, 1, 2, 3, 4, 5, 6, 7] rfl rfl rfl rfl ⟨Nat.zero_le _, Nat.zero_le _⟩ (fun H locs hP hD hS => ?_)
          cases hf
          exact fn_iret hx hb hr hlocks hP hS dX6_link_133
        · replace hf := fp_t c_63 hf
          refine lv_iconst (v := 0) hx hb dX6_link_75 (by decide) ?_
          cases hf
          exact fn_iret hx hb hr hlocks hP hS dX6_link_76

def f_X6_grantsWith_L6 (x1 : Int32) (x2 : Int32) (x3 : Int32) (x4 : Int32) (al : (Nat → Int32)) (ho : (Nat → Int32)) : Nat → Int32 → Int32 →  Option (Int32)
  | 0, _, _ => none
  | k_ + 1, x5, x6 =>
    ix (5 : Int32) 320 (
    if al (5 : Int32).toNatClampNeg ≤ x6 then
    (some x5)
    else
    (bd (f_X6_of x6 (3 : Int32) al) (fun r_3 =>
    if r_3 = x2 then
    (bd (f_X6_of x6 (2 : Int32) al) (fun r_9 =>
    if r_9 = x1 then
    (bd (f_X6_of x6 (4 : Int32) al) (fun r_15 =>
    if r_15 &&& x3 = (0 : Int32) then
    (nm (x5 + (0 : Int32)) (fun v_19 =>
    nm (x6 + (1 : Int32)) (fun v_20 =>
    f_X6_grantsWith_L6 x1 x2 x3 x4 al ho k_ v_19 v_20)))
    else
    (bd (f_X6_of x6 (1 : Int32) al) (fun r_22 =>
    bd (f_X6_holds r_22 x2 ho) (fun r_24 =>
    if r_24 &&& x4 = x4 then
    (nm (x5 + (1 : Int32)) (fun v_29 =>
    nm (x6 + (1 : Int32)) (fun v_30 =>
    f_X6_grantsWith_L6 x1 x2 x3 x4 al ho k_ v_29 v_30)))
    else
    (nm (x5 + (0 : Int32)) (fun v_27 =>
    nm (x6 + (1 : Int32)) (fun v_28 =>
    f_X6_grantsWith_L6 x1 x2 x3 x4 al ho k_ v_27 v_28))))))))
    else
    (nm (x5 + (0 : Int32)) (fun v_13 =>
    nm (x6 + (1 : Int32)) (fun v_14 =>
    f_X6_grantsWith_L6 x1 x2 x3 x4 al ho k_ v_13 v_14)))))
    else
    (nm (x5 + (0 : Int32)) (fun v_7 =>
    nm (x6 + (1 : Int32)) (fun v_8 =>
    f_X6_grantsWith_L6 x1 x2 x3 x4 al ho k_ v_7 v_8))))))
def f_X6_grantsWith (x1 : Int32) (x2 : Int32) (x3 : Int32) (x4 : Int32) (al : (Nat → Int32)) (ho : (Nat → Int32)) : Option (Int32) :=
  bd (f_X6_grantsWith_L6 x1 x2 x3 x4 al ho FU (0 : Int32) (0 : Int32)) (fun y5_31 =>
  some y5_31)
set_option maxHeartbeats 4000000 in
set_option maxRecDepth 100000 in
theorem c_X6_grantsWith (l : Launch) (X : cx_G) (mo : (Nat → Nat)) (al : (Nat → Int32)) (sv : (Nat → Int32)) (sm : Int32) (asd : (Nat → Int32)) (th : Int32) (ho : (Nat → Int32)) (fr : (Nat → Int32)) (txt : (Nat → Int32)) (tl : Int32) (pos : Int32) (od : Int32) (nu : (Nat → Int32)) (su : Int64) (x1 : Int32) (x2 : Int32) (x3 : Int32) (x4 : Int32) (r : Int32) (hf : f_X6_grantsWith x1 x2 x3 x4 al ho = some r) : Fn l yX6_grantsWith wsX6_grantsWith ({ frames := 1, cells := 0, slots := 0, locals := 22 } : Room) X [.ref (mo 0), .int x1, .int x2, .int x3, .int x4] (wMo X mo al sv sm asd th ho fr txt tl pos od nu su) (some (.int r)) (wMo X mo al sv sm asd th ho fr txt tl pos od nu su) := by
  refine fn_intro (cc := cX6_grantsWith) (maxL := 8) (ret := (some .int)) (by decide) rfl rfl (Nat.le_of_ble_eq_true rfl) ?_
  intro p e s m args below meth c A ls hx hb hml hr hts hown hlocks hK hP hD0 hS hA hl
  have hown : s.vm.findClass RX6 = some m.cls := hown
  have hl : lv_has ls 8 [(0, .ref (mo 0)), (1, .int x1), (2, .int x2), (3, .int x3), (4, .int x4)] := hl
  have hiX6 : ∀ w ∈ u_ws RX6 TX6 13, w ∈ wsX6_grantsWith := by decide +kernel
  have k7 := hts (.fieldLink RX6 7 "LentRightsModel" "all" "[I") (by decide +kernel)
  have loop_6 : ∀ (Q : State → Prop) (y5 : Int32), (∀ (H : Heap) (locs : List Loc) (ls : Array Slot), va_P X.1 vwCl (wMo X mo al sv sm asd th ho fr txt tl pos od nu su) H → va_S A s.heap H locs → lv_has ls 8 [(5, .int y5)] → W p l e ({ frames := 1, cells := 0, slots := 0, locals := 22 } : Room) s m args below meth c H locs 0 0 Q (F0 m 99 ls [])) → ∀ (k_ : Nat) (x5 : Int32) (x6 : Int32) (H : Heap) (locs : List Loc) (ls : Array Slot), f_X6_grantsWith_L6 x1 x2 x3 x4 al ho k_ x5 x6 = some y5 → va_P X.1 vwCl (wMo X mo al sv sm asd th ho fr txt tl pos od nu su) H → va_S A s.heap H locs → lv_has ls 8 [(0, .ref (mo 0)), (1, .int x1), (2, .int x2), (3, .int x3), (4, .int x4), (5, .int x5), (6, .int x6)] → W p l e ({ frames := 1, cells := 0, slots := 0, locals := 22 } : Room) s m args below meth c H locs 0 0 Q (F0 m 6 ls []) := by
    intro Q y5 kx k_
    induction k_ with
    | zero => intro x5 x6 H locs ls hf; exact nomatch (show (none : Option (Int32)) = some _ from hf)
    | succ k_ ih =>
      intro x5 x6 H locs ls hf hP hS hl
      unfold f_X6_grantsWith_L6 at hf
      refine lv_iload hx hb dX6_grantsWith_6 (lv_at hl 6 rfl) ?_
      refine lv_aload_n hx hb dX6_grantsWith_8 rfl (lv_at hl 0 rfl) ?_
      refine va_get (D := X.1) (ci := 6) (v := .ref (mo 1)) (C := RX6) (T := TX6) (N := 13) hx hb hts hiX6 hown hK.1 hP 0 rfl rfl 0 (by decide) k7 (fun _ h9 => h9) rfl dX6_grantsWith_9 ?_
      refine lv_iconst (v := 5) hx hb dX6_grantsWith_12 (by decide) ?_
      obtain ⟨hi_1, hf⟩ := ix_of hf
      refine va_iald hx hb hK.1 hP 1 0 rfl rfl hi_1 dX6_grantsWith_13 ?_
      refine lv_icmp_ge (tgt := 99) hx hb dX6_grantsWith_14 (by decide) (fun c_2 => ?_) (fun c_2 => ?_)
      · replace hf := fp_t c_2 hf
        cases hf
        exact kx _ _ _ hP hS (lv_sub hl [5] rfl)
      · replace hf := fp_f c_2 hf
        refine lv_aload_n hx hb dX6_grantsWith_17 rfl (lv_at hl 0 rfl) ?_
        refine lv_iload hx hb dX6_grantsWith_18 (lv_at hl 6 rfl) ?_
        refine lv_iconst (v := 3) hx hb dX6_grantsWith_20 (by decide) ?_
        obtain ⟨r_3, hc_4, hf⟩ := bd_of hf
        refine fn_V (v := some (.int r_3)) (As := [.int x6, .int (3 : Int32)]) (rest := []) (st1 := [.int r_3]) (ws' := (wMo X mo al sv sm asd th ho fr txt tl pos od nu su)) (nL := 8) ⟨hx, hb, hml, hown, hts⟩ (c_X6_of l X mo al sv sm asd th ho fr txt tl pos od nu su x6 (3 : Int32) r_3 hc_4) (cwV 2 hts gX6_grantsWith_X6_of rfl rfl rfl (by decide +kernel) ⟨Nat.le_of_ble_eq_true rfl, Nat.le_of_ble_eq_true rfl⟩) 6 rfl rfl rfl rfl hl.1 rfl (Nat.le_of_ble_eq_true rfl) dX6_grantsWith_21 hK hP (hD0.addr rfl) hS hA [0, 1, 2, 3, 4, 5, 6, 7] rfl rfl rfl rfl ⟨Nat.zero_le _, Nat.zero_le _⟩ (fun H locs hP hD hS => ?_)
        refine lv_iload_n hx hb dX6_grantsWith_24 rfl (lv_at hl 2 rfl) ?_
        refine lv_icmp_ne (tgt := 55) hx hb dX6_grantsWith_25 (by decide) (fun c_5 => ?_) (fun c_5 => ?_)
        · replace hf := fp_f c_5 hf
          refine lv_iconst (v := 0) hx hb dX6_grantsWith_55 (by decide) ?_
          refine lv_istore (lv' := [(7, .int (0 : Int32)), (0, .ref (mo 0)), (1, .int x1), (2, .int x2), (3, .int x3), (4, .int x4), (5, .int x5), (6, .int x6)]) hx hb dX6_grantsWith_56 hl (by decide) rfl (fun ls hl => ?_)
          refine lv_iload hx hb dX6_grantsWith_58 (lv_at hl 6 rfl) ?_
          refine lv_iload hx hb dX6_grantsWith_60 (lv_at hl 0 rfl) ?_
          refine lv_if_eq (tgt := 89) hx hb dX6_grantsWith_62 (by decide) (fun _ => ?_) (fun c9 => absurd c9 (by decide))
          refine lv_iconst (v := 0) hx hb dX6_grantsWith_89 (by decide) ?_
          refine lv_iadd hx hb dX6_grantsWith_90 ?_
          refine lv_topi (fun v_7 ev_7 => ?_)
          replace hf := nm_of ev_7 hf
          refine lv_istore (lv' := [(5, .int v_7), (7, .int (0 : Int32)), (0, .ref (mo 0)), (1, .int x1), (2, .int x2), (3, .int x3), (4, .int x4), (6, .int x6)]) hx hb dX6_grantsWith_91 hl (by decide) rfl (fun ls hl => ?_)
          obtain ⟨v_8, ev_8⟩ : ∃ y : Int32, y = x6 + (1 : Int32) := ⟨_, rfl⟩
          replace hf := nm_of ev_8 hf
          refine lv_iinc (v := v_8) (lv' := [(6, .int v_8), (5, .int v_7), (7, .int (0 : Int32)), (0, .ref (mo 0)), (1, .int x1), (2, .int x2), (3, .int x3), (4, .int x4)]) hx hb dX6_grantsWith_93 hl (k := 7) rfl (by rw [ev_8]; rfl) (by decide) rfl (fun ls hl => ?_)
          refine lv_goto (tgt := 6) hx hb dX6_grantsWith_96 (by decide) ?_
          exact ih v_7 v_8 _ _ _ hf hP hS (lv_sub hl [3, 4, 5, 6, 7, 1, 0] rfl)
        · replace hf := fp_t c_5 hf
          refine lv_aload_n hx hb dX6_grantsWith_28 rfl (lv_at hl 0 rfl) ?_
          refine lv_iload hx hb dX6_grantsWith_29 (lv_at hl 6 rfl) ?_
          refine lv_iconst (v := 2) hx hb dX6_grantsWith_31 (by decide) ?_
          obtain ⟨r_9, hc_10, hf⟩ := bd_of hf
          refine fn_V (v := some (.int r_9)) (As := [.int x6, .int (2 : Int32)]) (rest := []) (st1 := [.int r_9]) (ws' := (wMo X mo al sv sm asd th ho fr txt tl pos od nu su)) (nL := 8) ⟨hx, hb, hml, hown, hts⟩ (c_X6_of l X mo al sv sm asd th ho fr txt tl pos od nu su x6 (2 : Int32) r_9 hc_10) (cwV 2 hts gX6_grantsWith_X6_of rfl rfl rfl (by decide +kernel) ⟨Nat.le_of_ble_eq_true rfl, Nat.le_of_ble_eq_true rfl⟩) 6 rfl rfl rfl rfl hl.1 rfl (Nat.le_of_ble_eq_true rfl) dX6_grantsWith_32 hK hP (hD0.addr rfl) hS hA [0, 1, 2, 3, 4, 5, 6, 7] rfl rfl rfl rfl ⟨Nat.zero_le _, Nat.zero_le _⟩ (fun H locs hP hD hS => ?_)
          refine lv_iload_n hx hb dX6_grantsWith_35 rfl (lv_at hl 1 rfl) ?_
          refine lv_icmp_ne (tgt := 55) hx hb dX6_grantsWith_36 (by decide) (fun c_11 => ?_) (fun c_11 => ?_)
          · replace hf := fp_f c_11 hf
            refine lv_iconst (v := 0) hx hb dX6_grantsWith_55 (by decide) ?_
            refine lv_istore (lv' := [(7, .int (0 : Int32)), (0, .ref (mo 0)), (1, .int x1), (2, .int x2), (3, .int x3), (4, .int x4), (5, .int x5), (6, .int x6)]) hx hb dX6_grantsWith_56 hl (by decide) rfl (fun ls hl => ?_)
            refine lv_iload hx hb dX6_grantsWith_58 (lv_at hl 6 rfl) ?_
            refine lv_iload hx hb dX6_grantsWith_60 (lv_at hl 0 rfl) ?_
            refine lv_if_eq (tgt := 89) hx hb dX6_grantsWith_62 (by decide) (fun _ => ?_) (fun c9 => absurd c9 (by decide))
            refine lv_iconst (v := 0) hx hb dX6_grantsWith_89 (by decide) ?_
            refine lv_iadd hx hb dX6_grantsWith_90 ?_
            refine lv_topi (fun v_13 ev_13 => ?_)
            replace hf := nm_of ev_13 hf
            refine lv_istore (lv' := [(5, .int v_13), (7, .int (0 : Int32)), (0, .ref (mo 0)), (1, .int x1), (2, .int x2), (3, .int x3), (4, .int x4), (6, .int x6)]) hx hb dX6_grantsWith_91 hl (by decide) rfl (fun ls hl => ?_)
            obtain ⟨v_14, ev_14⟩ : ∃ y : Int32, y = x6 + (1 : Int32) := ⟨_, rfl⟩
            replace hf := nm_of ev_14 hf
            refine lv_iinc (v := v_14) (lv' := [(6, .int v_14), (5, .int v_13), (7, .int (0 : Int32)), (0, .ref (mo 0)), (1, .int x1), (2, .int x2), (3, .int x3), (4, .int x4)]) hx hb dX6_grantsWith_93 hl (k := 7) rfl (by rw [ev_14]; rfl) (by decide) rfl (fun ls hl => ?_)
            refine lv_goto (tgt := 6) hx hb dX6_grantsWith_96 (by decide) ?_
            exact ih v_13 v_14 _ _ _ hf hP hS (lv_sub hl [3, 4, 5, 6, 7, 1, 0] rfl)
          · replace hf := fp_t c_11 hf
            refine lv_aload_n hx hb dX6_grantsWith_39 rfl (lv_at hl 0 rfl) ?_
            refine lv_iload hx hb dX6_grantsWith_40 (lv_at hl 6 rfl) ?_
            refine lv_iconst (v := 4) hx hb dX6_grantsWith_42 (by decide) ?_
            obtain ⟨r_15, hc_16, hf⟩ := bd_of hf
            refine fn_V (v := some (.int r_15)) (As := [.int x6, .int (4 : Int32)]) (rest := []) (st1 := [.int r_15]) (ws' := (wMo X mo al sv sm asd th ho fr txt tl pos od nu su)) (nL := 8) ⟨hx, hb, hml, hown, hts⟩ (c_X6_of l X mo al sv sm asd th ho fr txt tl pos od nu su x6 (4 : Int32) r_15 hc_16) (cwV 2 hts gX6_grantsWith_X6_of rfl rfl rfl (by decide +kernel) ⟨Nat.le_of_ble_eq_true rfl, Nat.le_of_ble_eq_true rfl⟩) 6 rfl rfl rfl rfl hl.1 rfl (Nat.le_of_ble_eq_true rfl) dX6_grantsWith_43 hK hP (hD0.addr rfl) hS hA [0, 1, 2, 3, 4, 5, 6, 7] rfl rfl rfl rfl ⟨Nat.zero_le _, Nat.zero_le _⟩ (fun H locs hP hD hS => ?_)
            refine lv_iload_n hx hb dX6_grantsWith_46 rfl (lv_at hl 3 rfl) ?_
            refine lv_iand hx hb dX6_grantsWith_47 ?_
            refine lv_if_eq (tgt := 55) hx hb dX6_grantsWith_48 (by decide) (fun c_17 => ?_) (fun c_17 => ?_)
            · replace hf := fp_t c_17 hf
              refine lv_iconst (v := 0) hx hb dX6_grantsWith_55 (by decide) ?_
              refine lv_istore (lv' := [(7, .int (0 : Int32)), (0, .ref (mo 0)), (1, .int x1), (2, .int x2), (3, .int x3), (4, .int x4), (5, .int x5), (6, .int x6)]) hx hb dX6_grantsWith_56 hl (by decide) rfl (fun ls hl => ?_)
              refine lv_iload hx hb dX6_grantsWith_58 (lv_at hl 6 rfl) ?_
              refine lv_iload hx hb dX6_grantsWith_60 (lv_at hl 0 rfl) ?_
              refine lv_if_eq (tgt := 89) hx hb dX6_grantsWith_62 (by decide) (fun _ => ?_) (fun c9 => absurd c9 (by decide))
              refine lv_iconst (v := 0) hx hb dX6_grantsWith_89 (by decide) ?_
              refine lv_iadd hx hb dX6_grantsWith_90 ?_
              refine lv_topi (fun v_19 ev_19 => ?_)
              replace hf := nm_of ev_19 hf
              refine lv_istore (lv' := [(5, .int v_19), (7, .int (0 : Int32)), (0, .ref (mo 0)), (1, .int x1), (2, .int x2), (3, .int x3), (4, .int x4), (6, .int x6)]) hx hb dX6_grantsWith_91 hl (by decide) rfl (fun ls hl => ?_)
              obtain ⟨v_20, ev_20⟩ : ∃ y : Int32, y = x6 + (1 : Int32) := ⟨_, rfl⟩
              replace hf := nm_of ev_20 hf
              refine lv_iinc (v := v_20) (lv' := [(6, .int v_20), (5, .int v_19), (7, .int (0 : Int32)), (0, .ref (mo 0)), (1, .int x1), (2, .int x2), (3, .int x3), (4, .int x4)]) hx hb dX6_grantsWith_93 hl (k := 7) rfl (by rw [ev_20]; rfl) (by decide) rfl (fun ls hl => ?_)
              refine lv_goto (tgt := 6) hx hb dX6_grantsWith_96 (by decide) ?_
              exact ih v_19 v_20 _ _ _ hf hP hS (lv_sub hl [3, 4, 5, 6, 7, 1, 0] rfl)
            · replace hf := fp_f c_17 hf
              refine lv_iconst (v := 1) hx hb dX6_grantsWith_51 (by decide) ?_
              refine lv_goto (tgt := 56) hx hb dX6_grantsWith_52 (by decide) ?_
              refine lv_istore (lv' := [(7, .int (1 : Int32)), (0, .ref (mo 0)), (1, .int x1), (2, .int x2), (3, .int x3), (4, .int x4), (5, .int x5), (6, .int x6)]) hx hb dX6_grantsWith_56 hl (by decide) rfl (fun ls hl => ?_)
              refine lv_iload hx hb dX6_grantsWith_58 (lv_at hl 6 rfl) ?_
              refine lv_iload hx hb dX6_grantsWith_60 (lv_at hl 0 rfl) ?_
              refine lv_if_eq (tgt := 89) hx hb dX6_grantsWith_62 (by decide) (fun c9 => absurd c9 (by decide)) (fun _ => ?_)
              refine lv_aload_n hx hb dX6_grantsWith_65 rfl (lv_at hl 1 rfl) ?_
              refine lv_aload_n hx hb dX6_grantsWith_66 rfl (lv_at hl 1 rfl) ?_
              refine lv_iload hx hb dX6_grantsWith_67 (lv_at hl 7 rfl) ?_
              refine lv_iconst (v := 1) hx hb dX6_grantsWith_69 (by decide) ?_
              obtain ⟨r_22, hc_23, hf⟩ := bd_of hf
              refine fn_V (v := some (.int r_22)) (As := [.int x6, .int (1 : Int32)]) (rest := [.ref (mo 0), .int x5]) (st1 := [.int r_22, .ref (mo 0), .int x5]) (ws' := (wMo X mo al sv sm asd th ho fr txt tl pos od nu su)) (nL := 8) ⟨hx, hb, hml, hown, hts⟩ (c_X6_of l X mo al sv sm asd th ho fr txt tl pos od nu su x6 (1 : Int32) r_22 hc_23) (cwV 2 hts gX6_grantsWith_X6_of rfl rfl rfl (by decide +kernel) ⟨Nat.le_of_ble_eq_true rfl, Nat.le_of_ble_eq_true rfl⟩) 6 rfl rfl rfl rfl hl.1 rfl (Nat.le_of_ble_eq_true rfl) dX6_grantsWith_70 hK hP (hD0.addr rfl) hS hA [0, 1, 2, 3, 4, 5, 6, 7] rfl rfl rfl rfl ⟨Nat.zero_le _, Nat.zero_le _⟩ (fun H locs hP hD hS => ?_)
              refine lv_iload_n hx hb dX6_grantsWith_73 rfl (lv_at hl 3 rfl) ?_
              obtain ⟨r_24, hc_25, hf⟩ := bd_of hf
              refine fn_V (v := some (.int r_24)) (As := [.int r_22, .int x2]) (rest := [.int x5]) (st1 := [.int r_24, .int x5]) (ws' := (wMo X mo al sv sm asd th ho fr txt tl pos od nu su)) (nL := 8) ⟨hx, hb, hml, hown, hts⟩ (c_X6_holds l X mo al sv sm asd th ho fr txt tl pos od nu su r_22 x2 r_24 hc_25) (cwV 2 hts gX6_grantsWith_X6_holds rfl rfl rfl (by decide +kernel) ⟨Nat.le_of_ble_eq_true rfl, Nat.le_of_ble_eq_true rfl⟩) 6 rfl rfl rfl rfl hl.1 rfl (Nat.le_of_ble_eq_true rfl) dX6_grantsWith_74 hK hP (hD0.addr rfl) hS hA [0, 1, 2, 3, 4, 5, 6, 7] rfl rfl rfl rfl ⟨Nat.zero_le _, Nat.zero_le _⟩ (fun H locs hP hD hS => ?_)
              refine lv_iload hx hb dX6_grantsWith_77 (lv_at hl 5 rfl) ?_
              refine lv_iand hx hb dX6_grantsWith_79 ?_
              refine lv_iload hx hb dX6_grantsWith_80 (lv_at hl 5 rfl) ?_
              refine lv_icmp_ne (tgt := 89) hx hb dX6_grantsWith_82 (by decide) (fun c_26 => ?_) (fun c_26 => ?_)
              · replace hf := fp_f c_26 hf
                refine lv_iconst (v := 0) hx hb dX6_grantsWith_89 (by decide) ?_
                refine lv_iadd hx hb dX6_grantsWith_90 ?_
                refine lv_topi (fun v_27 ev_27 => ?_)
                replace hf := nm_of ev_27 hf
                refine lv_istore (lv' := [(5, .int v_27), (7, .int (1 : Int32)), (0, .ref (mo 0)), (1, .int x1), (2, .int x2), (3, .int x3), (4, .int x4), (6, .int x6)]) hx hb dX6_grantsWith_91 hl (by decide) rfl (fun ls hl => ?_)
                obtain ⟨v_28, ev_28⟩ : ∃ y : Int32, y = x6 + (1 : Int32) := ⟨_, rfl⟩
                replace hf := nm_of ev_28 hf
                refine lv_iinc (v := v_28) (lv' := [(6, .int v_28), (5, .int v_27), (7, .int (1 : Int32)), (0, .ref (mo 0)), (1, .int x1), (2, .int x2), (3, .int x3), (4, .int x4)]) hx hb dX6_grantsWith_93 hl (k := 7) rfl (by rw [ev_28]; rfl) (by decide) rfl (fun ls hl => ?_)
                refine lv_goto (tgt := 6) hx hb dX6_grantsWith_96 (by decide) ?_
                exact ih v_27 v_28 _ _ _ hf hP hS (lv_sub hl [3, 4, 5, 6, 7, 1, 0] rfl)
              · replace hf := fp_t c_26 hf
                refine lv_iconst (v := 1) hx hb dX6_grantsWith_85 (by decide) ?_
                refine lv_goto (tgt := 90) hx hb dX6_grantsWith_86 (by decide) ?_
                refine lv_iadd hx hb dX6_grantsWith_90 ?_
                refine lv_topi (fun v_29 ev_29 => ?_)
                replace hf := nm_of ev_29 hf
                refine lv_istore (lv' := [(5, .int v_29), (7, .int (1 : Int32)), (0, .ref (mo 0)), (1, .int x1), (2, .int x2), (3, .int x3), (4, .int x4), (6, .int x6)]) hx hb dX6_grantsWith_91 hl (by decide) rfl (fun ls hl => ?_)
                obtain ⟨v_30, ev_30⟩ : ∃ y : Int32, y = x6 + (1 : Int32) := ⟨_, rfl⟩
                replace hf := nm_of ev_30 hf
                refine lv_iinc (v := v_30) (lv' := [(6, .int v_30), (5, .int v_29), (7, .int (1 : Int32)), (0, .ref (mo 0)), (1, .int x1), (2, .int x2), (3, .int x3), (4, .int x4)]) hx hb dX6_grantsWith_93 hl (k := 7) rfl (by rw [ev_30]; rfl) (by decide) rfl (fun ls hl => ?_)
                refine lv_goto (tgt := 6) hx hb dX6_grantsWith_96 (by decide) ?_
                exact ih v_29 v_30 _ _ _ hf hP hS (lv_sub hl [3, 4, 5, 6, 7, 1, 0] rfl)
  unfold f_X6_grantsWith at hf
  refine lv_iconst (v := 0) hx hb dX6_grantsWith_0 (by decide) ?_
  refine lv_istore (lv' := [(5, .int (0 : Int32)), (0, .ref (mo 0)), (1, .int x1), (2, .int x2), (3, .int x3), (4, .int x4)]) hx hb dX6_grantsWith_1 hl (by decide) rfl (fun ls hl => ?_)
  refine lv_iconst (v := 0) hx hb dX6_grantsWith_3 (by decide) ?_
  refine lv_istore (lv' := [(6, .int (0 : Int32)), (5, .int (0 : Int32)), (0, .ref (mo 0)), (1, .int x1), (2, .int x2), (3, .int x3), (4, .int x4)]) hx hb dX6_grantsWith_4 hl (by decide) rfl (fun ls hl => ?_)
  obtain ⟨y5_31, hL_32, hf⟩ := bd_of hf
  refine loop_6 _ y5_31 (fun H locs ls hP hS hl => ?_) FU (0 : Int32) (0 : Int32) _ _ _ hL_32 hP hS (lv_sub hl [2, 3, 4, 5, 6, 1, 0] rfl)
  refine lv_iload hx hb dX6_grantsWith_99 (lv_at hl 0 rfl) ?_
  cases hf
  exact fn_iret hx hb hr hlocks hP hS dX6_grantsWith_101

def f_X6_why (x1 : Int32) (x2 : Int32) (x3 : Int32) (al : (Nat → Int32)) (th : Int32) (ho : (Nat → Int32)) : Option (Int32 × Int32 × (Nat → Int32)) :=
  bd (f_X6_isPerson x1) (fun r_1 =>
  if r_1 = (0 : Int32) then
  (if x3 = (1 : Int32) then
  (bd2 (f_X6_goes (0 : Int32) (1 : Int32) (1 : Int32) th) (fun r_5 th_6 =>
  if r_5 = (0 : Int32) then
  (some ((0 : Int32), th_6, ho))
  else
  (bd (f_X6_lay al ho) (fun ho_9 =>
  bd (f_X6_holds x1 x2 ho_9) (fun r_11 =>
  if r_11 &&& x3 = (0 : Int32) then
  (bd (f_X6_mask x2 al) (fun r_14 =>
  if r_14 &&& x3 = (0 : Int32) then
  (some ((1 : Int32), th_6, ho_9))
  else
  (bd (f_X6_grantsWith x1 x2 x3 (0 : Int32) al ho_9) (fun r_17 =>
  if r_17 = (0 : Int32) then
  (some ((2 : Int32), th_6, ho_9))
  else
  (bd (f_X6_grantsWith x1 x2 x3 (4 : Int32) al ho_9) (fun r_20 =>
  if r_20 = (0 : Int32) then
  (some ((3 : Int32), th_6, ho_9))
  else
  (some ((4 : Int32), th_6, ho_9))))))))
  else
  (some ((0 : Int32), th_6, ho_9)))))))
  else
  (if x3 = (2 : Int32) then
  (bd2 (f_X6_goes (0 : Int32) (1 : Int32) (1 : Int32) th) (fun r_24 th_25 =>
  if r_24 = (0 : Int32) then
  (some ((0 : Int32), th_25, ho))
  else
  (bd (f_X6_lay al ho) (fun ho_28 =>
  bd (f_X6_holds x1 x2 ho_28) (fun r_30 =>
  if r_30 &&& x3 = (0 : Int32) then
  (bd (f_X6_mask x2 al) (fun r_33 =>
  if r_33 &&& x3 = (0 : Int32) then
  (some ((1 : Int32), th_25, ho_28))
  else
  (bd (f_X6_grantsWith x1 x2 x3 (0 : Int32) al ho_28) (fun r_36 =>
  if r_36 = (0 : Int32) then
  (some ((2 : Int32), th_25, ho_28))
  else
  (bd (f_X6_grantsWith x1 x2 x3 (4 : Int32) al ho_28) (fun r_39 =>
  if r_39 = (0 : Int32) then
  (some ((3 : Int32), th_25, ho_28))
  else
  (some ((4 : Int32), th_25, ho_28))))))))
  else
  (some ((0 : Int32), th_25, ho_28)))))))
  else
  (if x3 = (4 : Int32) then
  (bd2 (f_X6_goes (0 : Int32) (1 : Int32) (1 : Int32) th) (fun r_61 th_62 =>
  if r_61 = (0 : Int32) then
  (some ((0 : Int32), th_62, ho))
  else
  (bd (f_X6_lay al ho) (fun ho_65 =>
  bd (f_X6_holds x1 x2 ho_65) (fun r_67 =>
  if r_67 &&& x3 = (0 : Int32) then
  (bd (f_X6_mask x2 al) (fun r_70 =>
  if r_70 &&& x3 = (0 : Int32) then
  (some ((1 : Int32), th_62, ho_65))
  else
  (bd (f_X6_grantsWith x1 x2 x3 (0 : Int32) al ho_65) (fun r_73 =>
  if r_73 = (0 : Int32) then
  (some ((2 : Int32), th_62, ho_65))
  else
  (bd (f_X6_grantsWith x1 x2 x3 (4 : Int32) al ho_65) (fun r_76 =>
  if r_76 = (0 : Int32) then
  (some ((3 : Int32), th_62, ho_65))
  else
  (some ((4 : Int32), th_62, ho_65))))))))
  else
  (some ((0 : Int32), th_62, ho_65)))))))
  else
  (bd2 (f_X6_goes (0 : Int32) (0 : Int32) (1 : Int32) th) (fun r_43 th_44 =>
  if r_43 = (0 : Int32) then
  (some ((0 : Int32), th_44, ho))
  else
  (bd (f_X6_lay al ho) (fun ho_47 =>
  bd (f_X6_holds x1 x2 ho_47) (fun r_49 =>
  if r_49 &&& x3 = (0 : Int32) then
  (bd (f_X6_mask x2 al) (fun r_52 =>
  if r_52 &&& x3 = (0 : Int32) then
  (some ((1 : Int32), th_44, ho_47))
  else
  (bd (f_X6_grantsWith x1 x2 x3 (0 : Int32) al ho_47) (fun r_55 =>
  if r_55 = (0 : Int32) then
  (some ((2 : Int32), th_44, ho_47))
  else
  (bd (f_X6_grantsWith x1 x2 x3 (4 : Int32) al ho_47) (fun r_58 =>
  if r_58 = (0 : Int32) then
  (some ((3 : Int32), th_44, ho_47))
  else
  (some ((4 : Int32), th_44, ho_47))))))))
  else
  (some ((0 : Int32), th_44, ho_47))))))))))
  else
  (bd (f_X6_isThing x2 al) (fun r_79 =>
  if r_79 = (0 : Int32) then
  (if x3 = (1 : Int32) then
  (bd2 (f_X6_goes (0 : Int32) (1 : Int32) (1 : Int32) th) (fun r_83 th_84 =>
  if r_83 = (0 : Int32) then
  (some ((0 : Int32), th_84, ho))
  else
  (bd (f_X6_lay al ho) (fun ho_87 =>
  bd (f_X6_holds x1 x2 ho_87) (fun r_89 =>
  if r_89 &&& x3 = (0 : Int32) then
  (bd (f_X6_mask x2 al) (fun r_92 =>
  if r_92 &&& x3 = (0 : Int32) then
  (some ((1 : Int32), th_84, ho_87))
  else
  (bd (f_X6_grantsWith x1 x2 x3 (0 : Int32) al ho_87) (fun r_95 =>
  if r_95 = (0 : Int32) then
  (some ((2 : Int32), th_84, ho_87))
  else
  (bd (f_X6_grantsWith x1 x2 x3 (4 : Int32) al ho_87) (fun r_98 =>
  if r_98 = (0 : Int32) then
  (some ((3 : Int32), th_84, ho_87))
  else
  (some ((4 : Int32), th_84, ho_87))))))))
  else
  (some ((0 : Int32), th_84, ho_87)))))))
  else
  (if x3 = (2 : Int32) then
  (bd2 (f_X6_goes (0 : Int32) (1 : Int32) (1 : Int32) th) (fun r_102 th_103 =>
  if r_102 = (0 : Int32) then
  (some ((0 : Int32), th_103, ho))
  else
  (bd (f_X6_lay al ho) (fun ho_106 =>
  bd (f_X6_holds x1 x2 ho_106) (fun r_108 =>
  if r_108 &&& x3 = (0 : Int32) then
  (bd (f_X6_mask x2 al) (fun r_111 =>
  if r_111 &&& x3 = (0 : Int32) then
  (some ((1 : Int32), th_103, ho_106))
  else
  (bd (f_X6_grantsWith x1 x2 x3 (0 : Int32) al ho_106) (fun r_114 =>
  if r_114 = (0 : Int32) then
  (some ((2 : Int32), th_103, ho_106))
  else
  (bd (f_X6_grantsWith x1 x2 x3 (4 : Int32) al ho_106) (fun r_117 =>
  if r_117 = (0 : Int32) then
  (some ((3 : Int32), th_103, ho_106))
  else
  (some ((4 : Int32), th_103, ho_106))))))))
  else
  (some ((0 : Int32), th_103, ho_106)))))))
  else
  (if x3 = (4 : Int32) then
  (bd2 (f_X6_goes (0 : Int32) (1 : Int32) (1 : Int32) th) (fun r_139 th_140 =>
  if r_139 = (0 : Int32) then
  (some ((0 : Int32), th_140, ho))
  else
  (bd (f_X6_lay al ho) (fun ho_143 =>
  bd (f_X6_holds x1 x2 ho_143) (fun r_145 =>
  if r_145 &&& x3 = (0 : Int32) then
  (bd (f_X6_mask x2 al) (fun r_148 =>
  if r_148 &&& x3 = (0 : Int32) then
  (some ((1 : Int32), th_140, ho_143))
  else
  (bd (f_X6_grantsWith x1 x2 x3 (0 : Int32) al ho_143) (fun r_151 =>
  if r_151 = (0 : Int32) then
  (some ((2 : Int32), th_140, ho_143))
  else
  (bd (f_X6_grantsWith x1 x2 x3 (4 : Int32) al ho_143) (fun r_154 =>
  if r_154 = (0 : Int32) then
  (some ((3 : Int32), th_140, ho_143))
  else
  (some ((4 : Int32), th_140, ho_143))))))))
  else
  (some ((0 : Int32), th_140, ho_143)))))))
  else
  (bd2 (f_X6_goes (0 : Int32) (0 : Int32) (1 : Int32) th) (fun r_121 th_122 =>
  if r_121 = (0 : Int32) then
  (some ((0 : Int32), th_122, ho))
  else
  (bd (f_X6_lay al ho) (fun ho_125 =>
  bd (f_X6_holds x1 x2 ho_125) (fun r_127 =>
  if r_127 &&& x3 = (0 : Int32) then
  (bd (f_X6_mask x2 al) (fun r_130 =>
  if r_130 &&& x3 = (0 : Int32) then
  (some ((1 : Int32), th_122, ho_125))
  else
  (bd (f_X6_grantsWith x1 x2 x3 (0 : Int32) al ho_125) (fun r_133 =>
  if r_133 = (0 : Int32) then
  (some ((2 : Int32), th_122, ho_125))
  else
  (bd (f_X6_grantsWith x1 x2 x3 (4 : Int32) al ho_125) (fun r_136 =>
  if r_136 = (0 : Int32) then
  (some ((3 : Int32), th_122, ho_125))
  else
  (some ((4 : Int32), th_122, ho_125))))))))
  else
  (some ((0 : Int32), th_122, ho_125))))))))))
  else
  (if x3 = (1 : Int32) then
  (bd2 (f_X6_goes (1 : Int32) (1 : Int32) (1 : Int32) th) (fun r_158 th_159 =>
  if r_158 = (0 : Int32) then
  (some ((0 : Int32), th_159, ho))
  else
  (bd (f_X6_lay al ho) (fun ho_162 =>
  bd (f_X6_holds x1 x2 ho_162) (fun r_164 =>
  if r_164 &&& x3 = (0 : Int32) then
  (bd (f_X6_mask x2 al) (fun r_167 =>
  if r_167 &&& x3 = (0 : Int32) then
  (some ((1 : Int32), th_159, ho_162))
  else
  (bd (f_X6_grantsWith x1 x2 x3 (0 : Int32) al ho_162) (fun r_170 =>
  if r_170 = (0 : Int32) then
  (some ((2 : Int32), th_159, ho_162))
  else
  (bd (f_X6_grantsWith x1 x2 x3 (4 : Int32) al ho_162) (fun r_173 =>
  if r_173 = (0 : Int32) then
  (some ((3 : Int32), th_159, ho_162))
  else
  (some ((4 : Int32), th_159, ho_162))))))))
  else
  (some ((0 : Int32), th_159, ho_162)))))))
  else
  (if x3 = (2 : Int32) then
  (bd2 (f_X6_goes (1 : Int32) (1 : Int32) (1 : Int32) th) (fun r_177 th_178 =>
  if r_177 = (0 : Int32) then
  (some ((0 : Int32), th_178, ho))
  else
  (bd (f_X6_lay al ho) (fun ho_181 =>
  bd (f_X6_holds x1 x2 ho_181) (fun r_183 =>
  if r_183 &&& x3 = (0 : Int32) then
  (bd (f_X6_mask x2 al) (fun r_186 =>
  if r_186 &&& x3 = (0 : Int32) then
  (some ((1 : Int32), th_178, ho_181))
  else
  (bd (f_X6_grantsWith x1 x2 x3 (0 : Int32) al ho_181) (fun r_189 =>
  if r_189 = (0 : Int32) then
  (some ((2 : Int32), th_178, ho_181))
  else
  (bd (f_X6_grantsWith x1 x2 x3 (4 : Int32) al ho_181) (fun r_192 =>
  if r_192 = (0 : Int32) then
  (some ((3 : Int32), th_178, ho_181))
  else
  (some ((4 : Int32), th_178, ho_181))))))))
  else
  (some ((0 : Int32), th_178, ho_181)))))))
  else
  (if x3 = (4 : Int32) then
  (bd2 (f_X6_goes (1 : Int32) (1 : Int32) (1 : Int32) th) (fun r_214 th_215 =>
  if r_214 = (0 : Int32) then
  (some ((0 : Int32), th_215, ho))
  else
  (bd (f_X6_lay al ho) (fun ho_218 =>
  bd (f_X6_holds x1 x2 ho_218) (fun r_220 =>
  if r_220 &&& x3 = (0 : Int32) then
  (bd (f_X6_mask x2 al) (fun r_223 =>
  if r_223 &&& x3 = (0 : Int32) then
  (some ((1 : Int32), th_215, ho_218))
  else
  (bd (f_X6_grantsWith x1 x2 x3 (0 : Int32) al ho_218) (fun r_226 =>
  if r_226 = (0 : Int32) then
  (some ((2 : Int32), th_215, ho_218))
  else
  (bd (f_X6_grantsWith x1 x2 x3 (4 : Int32) al ho_218) (fun r_229 =>
  if r_229 = (0 : Int32) then
  (some ((3 : Int32), th_215, ho_218))
  else
  (some ((4 : Int32), th_215, ho_218))))))))
  else
  (some ((0 : Int32), th_215, ho_218)))))))
  else
  (bd2 (f_X6_goes (1 : Int32) (0 : Int32) (1 : Int32) th) (fun r_196 th_197 =>
  if r_196 = (0 : Int32) then
  (some ((0 : Int32), th_197, ho))
  else
  (bd (f_X6_lay al ho) (fun ho_200 =>
  bd (f_X6_holds x1 x2 ho_200) (fun r_202 =>
  if r_202 &&& x3 = (0 : Int32) then
  (bd (f_X6_mask x2 al) (fun r_205 =>
  if r_205 &&& x3 = (0 : Int32) then
  (some ((1 : Int32), th_197, ho_200))
  else
  (bd (f_X6_grantsWith x1 x2 x3 (0 : Int32) al ho_200) (fun r_208 =>
  if r_208 = (0 : Int32) then
  (some ((2 : Int32), th_197, ho_200))
  else
  (bd (f_X6_grantsWith x1 x2 x3 (4 : Int32) al ho_200) (fun r_211 =>
  if r_211 = (0 : Int32) then
  (some ((3 : Int32), th_197, ho_200))
  else
  (some ((4 : Int32), th_197, ho_200))))))))
  else
  (some ((0 : Int32), th_197, ho_200)))))))))))))
set_option maxHeartbeats 4000000 in
set_option maxRecDepth 100000 in
theorem c_X6_why (l : Launch) (X : cx_G) (mo : (Nat → Nat)) (al : (Nat → Int32)) (sv : (Nat → Int32)) (sm : Int32) (asd : (Nat → Int32)) (th : Int32) (ho : (Nat → Int32)) (fr : (Nat → Int32)) (txt : (Nat → Int32)) (tl : Int32) (pos : Int32) (od : Int32) (nu : (Nat → Int32)) (su : Int64) (x1 : Int32) (x2 : Int32) (x3 : Int32) (r : Int32) (th' : Int32) (ho' : (Nat → Int32)) (hf : f_X6_why x1 x2 x3 al th ho = some (r, th', ho')) : Fn l yX6_why wsX6_why ({ frames := 3, cells := 0, slots := 0, locals := 68 } : Room) X [.ref (mo 0), .int x1, .int x2, .int x3] (wMo X mo al sv sm asd th ho fr txt tl pos od nu su) (some (.int r)) (wMo X mo al sv sm asd th' ho' fr txt tl pos od nu su) := by
  refine fn_intro (cc := cX6_why) (maxL := 4) (ret := (some .int)) (by decide) rfl rfl (Nat.le_of_ble_eq_true rfl) ?_
  intro p e s m args below meth c A ls hx hb hml hr hts hown hlocks hK hP hD0 hS hA hl
  have hown : s.vm.findClass RX6 = some m.cls := hown
  have hl : lv_has ls 4 [(0, .ref (mo 0)), (1, .int x1), (2, .int x2), (3, .int x3)] := hl
  unfold f_X6_why at hf
  refine lv_aload_n hx hb dX6_why_0 rfl (lv_at hl 0 rfl) ?_
  refine lv_iload_n hx hb dX6_why_1 rfl (lv_at hl 1 rfl) ?_
  obtain ⟨r_1, hc_2, hf⟩ := bd_of hf
  refine fn_Sx (v := some (.int r_1)) (As := [.int x1]) (rest := [.ref (mo 0)]) (st1 := [.int r_1, .ref (mo 0)]) (ws' := (wMo X mo al sv sm asd th ho fr txt tl pos od nu su)) (nL := 4) ⟨hx, hb, hml, hown, hts⟩ (c_X6_isPerson l X x1 r_1 hc_2) (va_cwS 1 hts gX6_why_X6_isPerson rfl rfl rfl (by decide +kernel) ⟨Nat.le_of_ble_eq_true rfl, Nat.le_of_ble_eq_true rfl⟩) rfl hl.1 rfl (Nat.le_of_ble_eq_true rfl) dX6_why_2 hK hP (hD0.addr rfl) hS hA [] rfl rfl rfl rfl ⟨Nat.zero_le _, Nat.zero_le _⟩ (fun H locs hP hD hS => ?_)
  refine lv_if_eq (tgt := 20) hx hb dX6_why_5 (by decide) (fun c_3 => ?_) (fun c_3 => ?_)
  · replace hf := fp_t c_3 hf
    refine lv_iconst (v := 0) hx hb dX6_why_20 (by decide) ?_
    refine lv_iload_n hx hb dX6_why_21 rfl (lv_at hl 3 rfl) ?_
    refine lv_iconst (v := 1) hx hb dX6_why_22 (by decide) ?_
    refine lv_icmp_eq (tgt := 36) hx hb dX6_why_23 (by decide) (fun c_4 => ?_) (fun c_4 => ?_)
    · replace hf := fp_t c_4 hf
      refine lv_iconst (v := 1) hx hb dX6_why_36 (by decide) ?_
      refine lv_goto (tgt := 41) hx hb dX6_why_37 (by decide) ?_
      refine lv_iconst (v := 1) hx hb dX6_why_41 (by decide) ?_
      obtain ⟨r_5, th_6, hc_7, hf⟩ := bd2_of hf
      refine fn_V (v := some (.int r_5)) (As := [.int (0 : Int32), .int (1 : Int32), .int (1 : Int32)]) (rest := []) (st1 := [.int r_5]) (ws' := (wMo X mo al sv sm asd th_6 ho fr txt tl pos od nu su)) (nL := 4) ⟨hx, hb, hml, hown, hts⟩ (c_X6_goes l X mo al sv sm asd th ho fr txt tl pos od nu su (0 : Int32) (1 : Int32) (1 : Int32) r_5 th_6 hc_7) (cwV 3 hts gX6_why_X6_goes rfl rfl rfl (by decide +kernel) ⟨Nat.le_of_ble_eq_true rfl, Nat.le_of_ble_eq_true rfl⟩) 6 rfl rfl rfl rfl hl.1 rfl (Nat.le_of_ble_eq_true rfl) dX6_why_42 hK hP (hD0.addr rfl) hS hA [0, 1, 2, 3, 4, 5, 6, 7] rfl rfl rfl rfl ⟨Nat.zero_le _, Nat.zero_le _⟩ (fun H locs hP hD hS => ?_)
      refine lv_if_ne (tgt := 50) hx hb dX6_why_45 (by decide) (fun c_8 => ?_) (fun c_8 => ?_)
      · replace hf := fp_f c_8 hf
        refine lv_aload_n hx hb dX6_why_50 rfl (lv_at hl 0 rfl) ?_
        obtain ⟨ho_9, hc_10, hf⟩ := bd_of hf
        refine fn_V (v := none) (As := []) (rest := []) (st1 := []) (ws' := (wMo X mo al sv sm asd th_6 ho_9 fr txt tl pos od nu su)) (nL := 4) ⟨hx, hb, hml, hown, hts⟩ (c_X6_lay l X mo al sv sm asd th_6 ho fr txt tl pos od nu su ho_9 hc_10) (cwV 0 hts gX6_why_X6_lay rfl rfl rfl (by decide +kernel) ⟨Nat.le_of_ble_eq_true rfl, Nat.le_of_ble_eq_true rfl⟩) 6 rfl rfl rfl rfl hl.1 rfl (Nat.le_of_ble_eq_true rfl) dX6_why_51 hK hP (hD0.addr rfl) hS hA [0, 1, 2, 3, 4, 5, 6, 7] rfl rfl rfl rfl ⟨Nat.zero_le _, Nat.zero_le _⟩ (fun H locs hP hD hS => ?_)
        refine lv_aload_n hx hb dX6_why_54 rfl (lv_at hl 0 rfl) ?_
        refine lv_iload_n hx hb dX6_why_55 rfl (lv_at hl 1 rfl) ?_
        refine lv_iload_n hx hb dX6_why_56 rfl (lv_at hl 2 rfl) ?_
        obtain ⟨r_11, hc_12, hf⟩ := bd_of hf
        refine fn_V (v := some (.int r_11)) (As := [.int x1, .int x2]) (rest := []) (st1 := [.int r_11]) (ws' := (wMo X mo al sv sm asd th_6 ho_9 fr txt tl pos od nu su)) (nL := 4) ⟨hx, hb, hml, hown, hts⟩ (c_X6_holds l X mo al sv sm asd th_6 ho_9 fr txt tl pos od nu su x1 x2 r_11 hc_12) (cwV 2 hts gX6_why_X6_holds rfl rfl rfl (by decide +kernel) ⟨Nat.le_of_ble_eq_true rfl, Nat.le_of_ble_eq_true rfl⟩) 6 rfl rfl rfl rfl hl.1 rfl (Nat.le_of_ble_eq_true rfl) dX6_why_57 hK hP (hD0.addr rfl) hS hA [0, 1, 2, 3, 4, 5, 6, 7] rfl rfl rfl rfl ⟨Nat.zero_le _, Nat.zero_le _⟩ (fun H locs hP hD hS => ?_)
        refine lv_iload_n hx hb dX6_why_60 rfl (lv_at hl 3 rfl) ?_
        refine lv_iand hx hb dX6_why_61 ?_
        refine lv_if_eq (tgt := 67) hx hb dX6_why_62 (by decide) (fun c_13 => ?_) (fun c_13 => ?_)
        · replace hf := fp_t c_13 hf
          refine lv_aload_n hx hb dX6_why_67 rfl (lv_at hl 0 rfl) ?_
          refine lv_iload_n hx hb dX6_why_68 rfl (lv_at hl 2 rfl) ?_
          obtain ⟨r_14, hc_15, hf⟩ := bd_of hf
          refine fn_V (v := some (.int r_14)) (As := [.int x2]) (rest := []) (st1 := [.int r_14]) (ws' := (wMo X mo al sv sm asd th_6 ho_9 fr txt tl pos od nu su)) (nL := 4) ⟨hx, hb, hml, hown, hts⟩ (c_X6_mask l X mo al sv sm asd th_6 ho_9 fr txt tl pos od nu su x2 r_14 hc_15) (cwV 1 hts gX6_why_X6_mask rfl rfl rfl (by decide +kernel) ⟨Nat.le_of_ble_eq_true rfl, Nat.le_of_ble_eq_true rfl⟩) 6 rfl rfl rfl rfl hl.1 rfl (Nat.le_of_ble_eq_true rfl) dX6_why_69 hK hP (hD0.addr rfl) hS hA [0, 1, 2, 3, 4, 5, 6, 7] rfl rfl rfl rfl ⟨Nat.zero_le _, Nat.zero_le _⟩ (fun H locs hP hD hS => ?_)
          refine lv_iload_n hx hb dX6_why_72 rfl (lv_at hl 3 rfl) ?_
          refine lv_iand hx hb dX6_why_73 ?_
          refine lv_if_ne (tgt := 79) hx hb dX6_why_74 (by decide) (fun c_16 => ?_) (fun c_16 => ?_)
          · replace hf := fp_f c_16 hf
            refine lv_aload_n hx hb dX6_why_79 rfl (lv_at hl 0 rfl) ?_
            refine lv_iload_n hx hb dX6_why_80 rfl (lv_at hl 1 rfl) ?_
            refine lv_iload_n hx hb dX6_why_81 rfl (lv_at hl 2 rfl) ?_
            refine lv_iload_n hx hb dX6_why_82 rfl (lv_at hl 3 rfl) ?_
            refine lv_iconst (v := 0) hx hb dX6_why_83 (by decide) ?_
            obtain ⟨r_17, hc_18, hf⟩ := bd_of hf
            refine fn_V (v := some (.int r_17)) (As := [.int x1, .int x2, .int x3, .int (0 : Int32)]) (rest := []) (st1 := [.int r_17]) (ws' := (wMo X mo al sv sm asd th_6 ho_9 fr txt tl pos od nu su)) (nL := 4) ⟨hx, hb, hml, hown, hts⟩ (c_X6_grantsWith l X mo al sv sm asd th_6 ho_9 fr txt tl pos od nu su x1 x2 x3 (0 : Int32) r_17 hc_18) (cwV 4 hts gX6_why_X6_grantsWith rfl rfl rfl (by decide +kernel) ⟨Nat.le_of_ble_eq_true rfl, Nat.le_of_ble_eq_true rfl⟩) 6 rfl rfl rfl rfl hl.1 rfl (Nat.le_of_ble_eq_true rfl) dX6_why_84 hK hP (hD0.addr rfl) hS hA [0, 1, 2, 3, 4, 5, 6, 7] rfl rfl rfl rfl ⟨Nat.zero_le _, Nat.zero_le _⟩ (fun H locs hP hD hS => ?_)
            refine lv_if_ne (tgt := 94) hx hb dX6_why_87 (by decide) (fun c_19 => ?_) (fun c_19 => ?_)
            · replace hf := fp_f c_19 hf
              refine lv_aload_n hx hb dX6_why_94 rfl (lv_at hl 0 rfl) ?_
              refine lv_iload_n hx hb dX6_why_95 rfl (lv_at hl 1 rfl) ?_
              refine lv_iload_n hx hb dX6_why_96 rfl (lv_at hl 2 rfl) ?_
              refine lv_iload_n hx hb dX6_why_97 rfl (lv_at hl 3 rfl) ?_
              refine lv_iconst (v := 4) hx hb dX6_why_98 (by decide) ?_
              obtain ⟨r_20, hc_21, hf⟩ := bd_of hf
              refine fn_V (v := some (.int r_20)) (As := [.int x1, .int x2, .int x3, .int (4 : Int32)]) (rest := []) (st1 := [.int r_20]) (ws' := (wMo X mo al sv sm asd th_6 ho_9 fr txt tl pos od nu su)) (nL := 4) ⟨hx, hb, hml, hown, hts⟩ (c_X6_grantsWith l X mo al sv sm asd th_6 ho_9 fr txt tl pos od nu su x1 x2 x3 (4 : Int32) r_20 hc_21) (cwV 4 hts gX6_why_X6_grantsWith rfl rfl rfl (by decide +kernel) ⟨Nat.le_of_ble_eq_true rfl, Nat.le_of_ble_eq_true rfl⟩) 6 rfl rfl rfl rfl hl.1 rfl (Nat.le_of_ble_eq_true rfl) dX6_why_99 hK hP (hD0.addr rfl) hS hA [0, 1, 2, 3, 4, 5, 6, 7] rfl rfl rfl rfl ⟨Nat.zero_le _, Nat.zero_le _⟩ (fun H locs hP hD hS => ?_)
              refine lv_if_ne (tgt := 109) hx hb dX6_why_102 (by decide) (fun c_22 => ?_) (fun c_22 => ?_)
              · replace hf := fp_f c_22 hf
                refine lv_iconst (v := 4) hx hb dX6_why_109 (by decide) ?_
                cases hf
                exact fn_iret hx hb hr hlocks hP hS dX6_why_110
              · replace hf := fp_t c_22 hf
                refine lv_iconst (v := 3) hx hb dX6_why_105 (by decide) ?_
                refine lv_goto (tgt := 110) hx hb dX6_why_106 (by decide) ?_
                cases hf
                exact fn_iret hx hb hr hlocks hP hS dX6_why_110
            · replace hf := fp_t c_19 hf
              refine lv_iconst (v := 2) hx hb dX6_why_90 (by decide) ?_
              refine lv_goto (tgt := 110) hx hb dX6_why_91 (by decide) ?_
              cases hf
              exact fn_iret hx hb hr hlocks hP hS dX6_why_110
          · replace hf := fp_t c_16 hf
            refine lv_iconst (v := 1) hx hb dX6_why_77 (by decide) ?_
            cases hf
            exact fn_iret hx hb hr hlocks hP hS dX6_why_78
        · replace hf := fp_f c_13 hf
          refine lv_iconst (v := 0) hx hb dX6_why_65 (by decide) ?_
          cases hf
          exact fn_iret hx hb hr hlocks hP hS dX6_why_66
      · replace hf := fp_t c_8 hf
        refine lv_iconst (v := 0) hx hb dX6_why_48 (by decide) ?_
        cases hf
        exact fn_iret hx hb hr hlocks hP hS dX6_why_49
    · replace hf := fp_f c_4 hf
      refine lv_iload_n hx hb dX6_why_26 rfl (lv_at hl 3 rfl) ?_
      refine lv_iconst (v := 2) hx hb dX6_why_27 (by decide) ?_
      refine lv_icmp_eq (tgt := 36) hx hb dX6_why_28 (by decide) (fun c_23 => ?_) (fun c_23 => ?_)
      · replace hf := fp_t c_23 hf
        refine lv_iconst (v := 1) hx hb dX6_why_36 (by decide) ?_
        refine lv_goto (tgt := 41) hx hb dX6_why_37 (by decide) ?_
        refine lv_iconst (v := 1) hx hb dX6_why_41 (by decide) ?_
        obtain ⟨r_24, th_25, hc_26, hf⟩ := bd2_of hf
        refine fn_V (v := some (.int r_24)) (As := [.int (0 : Int32), .int (1 : Int32), .int (1 : Int32)]) (rest := []) (st1 := [.int r_24]) (ws' := (wMo X mo al sv sm asd th_25 ho fr txt tl pos od nu su)) (nL := 4) ⟨hx, hb, hml, hown, hts⟩ (c_X6_goes l X mo al sv sm asd th ho fr txt tl pos od nu su (0 : Int32) (1 : Int32) (1 : Int32) r_24 th_25 hc_26) (cwV 3 hts gX6_why_X6_goes rfl rfl rfl (by decide +kernel) ⟨Nat.le_of_ble_eq_true rfl, Nat.le_of_ble_eq_true rfl⟩) 6 rfl rfl rfl rfl hl.1 rfl (Nat.le_of_ble_eq_true rfl) dX6_why_42 hK hP (hD0.addr rfl) hS hA [0, 1, 2, 3, 4, 5, 6, 7] rfl rfl rfl rfl ⟨Nat.zero_le _, Nat.zero_le _⟩ (fun H locs hP hD hS => ?_)
        refine lv_if_ne (tgt := 50) hx hb dX6_why_45 (by decide) (fun c_27 => ?_) (fun c_27 => ?_)
        · replace hf := fp_f c_27 hf
          refine lv_aload_n hx hb dX6_why_50 rfl (lv_at hl 0 rfl) ?_
          obtain ⟨ho_28, hc_29, hf⟩ := bd_of hf
          refine fn_V (v := none) (As := []) (rest := []) (st1 := []) (ws' := (wMo X mo al sv sm asd th_25 ho_28 fr txt tl pos od nu su)) (nL := 4) ⟨hx, hb, hml, hown, hts⟩ (c_X6_lay l X mo al sv sm asd th_25 ho fr txt tl pos od nu su ho_28 hc_29) (cwV 0 hts gX6_why_X6_lay rfl rfl rfl (by decide +kernel) ⟨Nat.le_of_ble_eq_true rfl, Nat.le_of_ble_eq_true rfl⟩) 6 rfl rfl rfl rfl hl.1 rfl (Nat.le_of_ble_eq_true rfl) dX6_why_51 hK hP (hD0.addr rfl) hS hA [0, 1, 2, 3, 4, 5, 6, 7] rfl rfl rfl rfl ⟨Nat.zero_le _, Nat.zero_le _⟩ (fun H locs hP hD hS => ?_)
          refine lv_aload_n hx hb dX6_why_54 rfl (lv_at hl 0 rfl) ?_
          refine lv_iload_n hx hb dX6_why_55 rfl (lv_at hl 1 rfl) ?_
          refine lv_iload_n hx hb dX6_why_56 rfl (lv_at hl 2 rfl) ?_
          obtain ⟨r_30, hc_31, hf⟩ := bd_of hf
          refine fn_V (v := some (.int r_30)) (As := [.int x1, .int x2]) (rest := []) (st1 := [.int r_30]) (ws' := (wMo X mo al sv sm asd th_25 ho_28 fr txt tl pos od nu su)) (nL := 4) ⟨hx, hb, hml, hown, hts⟩ (c_X6_holds l X mo al sv sm asd th_25 ho_28 fr txt tl pos od nu su x1 x2 r_30 hc_31) (cwV 2 hts gX6_why_X6_holds rfl rfl rfl (by decide +kernel) ⟨Nat.le_of_ble_eq_true rfl, Nat.le_of_ble_eq_true rfl⟩) 6 rfl rfl rfl rfl hl.1 rfl (Nat.le_of_ble_eq_true rfl) dX6_why_57 hK hP (hD0.addr rfl) hS hA [0, 1, 2, 3, 4, 5, 6, 7] rfl rfl rfl rfl ⟨Nat.zero_le _, Nat.zero_le _⟩ (fun H locs hP hD hS => ?_)
          refine lv_iload_n hx hb dX6_why_60 rfl (lv_at hl 3 rfl) ?_
          refine lv_iand hx hb dX6_why_61 ?_
          refine lv_if_eq (tgt := 67) hx hb dX6_why_62 (by decide) (fun c_32 => ?_) (fun c_32 => ?_)
          · replace hf := fp_t c_32 hf
            refine lv_aload_n hx hb dX6_why_67 rfl (lv_at hl 0 rfl) ?_
            refine lv_iload_n hx hb dX6_why_68 rfl (lv_at hl 2 rfl) ?_
            obtain ⟨r_33, hc_34, hf⟩ := bd_of hf
            refine fn_V (v := some (.int r_33)) (As := [.int x2]) (rest := []) (st1 := [.int r_33]) (ws' := (wMo X mo al sv sm asd th_25 ho_28 fr txt tl pos od nu su)) (nL := 4) ⟨hx, hb, hml, hown, hts⟩ (c_X6_mask l X mo al sv sm asd th_25 ho_28 fr txt tl pos od nu su x2 r_33 hc_34) (cwV 1 hts gX6_why_X6_mask rfl rfl rfl (by decide +kernel) ⟨Nat.le_of_ble_eq_true rfl, Nat.le_of_ble_eq_true rfl⟩) 6 rfl rfl rfl rfl hl.1 rfl (Nat.le_of_ble_eq_true rfl) dX6_why_69 hK hP (hD0.addr rfl) hS hA [0, 1, 2, 3, 4, 5, 6, 7] rfl rfl rfl rfl ⟨Nat.zero_le _, Nat.zero_le _⟩ (fun H locs hP hD hS => ?_)
            refine lv_iload_n hx hb dX6_why_72 rfl (lv_at hl 3 rfl) ?_
            refine lv_iand hx hb dX6_why_73 ?_
            refine lv_if_ne (tgt := 79) hx hb dX6_why_74 (by decide) (fun c_35 => ?_) (fun c_35 => ?_)
            · replace hf := fp_f c_35 hf
              refine lv_aload_n hx hb dX6_why_79 rfl (lv_at hl 0 rfl) ?_
              refine lv_iload_n hx hb dX6_why_80 rfl (lv_at hl 1 rfl) ?_
              refine lv_iload_n hx hb dX6_why_81 rfl (lv_at hl 2 rfl) ?_
              refine lv_iload_n hx hb dX6_why_82 rfl (lv_at hl 3 rfl) ?_
              refine lv_iconst (v := 0) hx hb dX6_why_83 (by decide) ?_
              obtain ⟨r_36, hc_37, hf⟩ := bd_of hf
              refine fn_V (v := some (.int r_36)) (As := [.int x1, .int x2, .int x3, .int (0 : Int32)]) (rest := []) (st1 := [.int r_36]) (ws' := (wMo X mo al sv sm asd th_25 ho_28 fr txt tl pos od nu su)) (nL := 4) ⟨hx, hb, hml, hown, hts⟩ (c_X6_grantsWith l X mo al sv sm asd th_25 ho_28 fr txt tl pos od nu su x1 x2 x3 (0 : Int32) r_36 hc_37) (cwV 4 hts gX6_why_X6_grantsWith rfl rfl rfl (by decide +kernel) ⟨Nat.le_of_ble_eq_true rfl, Nat.le_of_ble_eq_true rfl⟩) 6 rfl rfl rfl rfl hl.1 rfl (Nat.le_of_ble_eq_true rfl) dX6_why_84 hK hP (hD0.addr rfl) hS hA [0, 1, 2, 3, 4, 5, 6, 7] rfl rfl rfl rfl ⟨Nat.zero_le _, Nat.zero_le _⟩ (fun H locs hP hD hS => ?_)
              refine lv_if_ne (tgt := 94) hx hb dX6_why_87 (by decide) (fun c_38 => ?_) (fun c_38 => ?_)
              · replace hf := fp_f c_38 hf
                refine lv_aload_n hx hb dX6_why_94 rfl (lv_at hl 0 rfl) ?_
                refine lv_iload_n hx hb dX6_why_95 rfl (lv_at hl 1 rfl) ?_
                refine lv_iload_n hx hb dX6_why_96 rfl (lv_at hl 2 rfl) ?_
                refine lv_iload_n hx hb dX6_why_97 rfl (lv_at hl 3 rfl) ?_
                refine lv_iconst (v := 4) hx hb dX6_why_98 (by decide) ?_
                obtain ⟨r_39, hc_40, hf⟩ := bd_of hf
                refine fn_V (v := some (.int r_39)) (As := [.int x1, .int x2, .int x3, .int (4 : Int32)]) (rest := []) (st1 := [.int r_39]) (ws' := (wMo X mo al sv sm asd th_25 ho_28 fr txt tl pos od nu su)) (nL := 4) ⟨hx, hb, hml, hown, hts⟩ (c_X6_grantsWith l X mo al sv sm asd th_25 ho_28 fr txt tl pos od nu su x1 x2 x3 (4 : Int32) r_39 hc_40) (cwV 4 hts gX6_why_X6_grantsWith rfl rfl rfl (by decide +kernel) ⟨Nat.le_of_ble_eq_true rfl, Nat.le_of_ble_eq_true rfl⟩) 6 rfl rfl rfl rfl hl.1 rfl (Nat.le_of_ble_eq_true rfl) dX6_why_99 hK hP (hD0.addr rfl) hS hA [0, 1, 2, 3, 4, 5, 6, 7] rfl rfl rfl rfl ⟨Nat.zero_le _, Nat.zero_le _⟩ (fun H locs hP hD hS => ?_)
                refine lv_if_ne (tgt := 109) hx hb dX6_why_102 (by decide) (fun c_41 => ?_) (fun c_41 => ?_)
                · replace hf := fp_f c_41 hf
                  refine lv_iconst (v := 4) hx hb dX6_why_109 (by decide) ?_
                  cases hf
                  exact fn_iret hx hb hr hlocks hP hS dX6_why_110
                · replace hf := fp_t c_41 hf
                  refine lv_iconst (v := 3) hx hb dX6_why_105 (by decide) ?_
                  refine lv_goto (tgt := 110) hx hb dX6_why_106 (by decide) ?_
                  cases hf
                  exact fn_iret hx hb hr hlocks hP hS dX6_why_110
              · replace hf := fp_t c_38 hf
                refine lv_iconst (v := 2) hx hb dX6_why_90 (by decide) ?_
                refine lv_goto (tgt := 110) hx hb dX6_why_91 (by decide) ?_
                cases hf
                exact fn_iret hx hb hr hlocks hP hS dX6_why_110
            · replace hf := fp_t c_35 hf
              refine lv_iconst (v := 1) hx hb dX6_why_77 (by decide) ?_
              cases hf
              exact fn_iret hx hb hr hlocks hP hS dX6_why_78
          · replace hf := fp_f c_32 hf
            refine lv_iconst (v := 0) hx hb dX6_why_65 (by decide) ?_
            cases hf
            exact fn_iret hx hb hr hlocks hP hS dX6_why_66
        · replace hf := fp_t c_27 hf
          refine lv_iconst (v := 0) hx hb dX6_why_48 (by decide) ?_
          cases hf
          exact fn_iret hx hb hr hlocks hP hS dX6_why_49
      · replace hf := fp_f c_23 hf
        refine lv_iload_n hx hb dX6_why_31 rfl (lv_at hl 3 rfl) ?_
        refine lv_iconst (v := 4) hx hb dX6_why_32 (by decide) ?_
        refine lv_icmp_ne (tgt := 40) hx hb dX6_why_33 (by decide) (fun c_42 => ?_) (fun c_42 => ?_)
        · replace hf := fp_f c_42 hf
          refine lv_iconst (v := 0) hx hb dX6_why_40 (by decide) ?_
          refine lv_iconst (v := 1) hx hb dX6_why_41 (by decide) ?_
          obtain ⟨r_43, th_44, hc_45, hf⟩ := bd2_of hf
          refine fn_V (v := some (.int r_43)) (As := [.int (0 : Int32), .int (0 : Int32), .int (1 : Int32)]) (rest := []) (st1 := [.int r_43]) (ws' := (wMo X mo al sv sm asd th_44 ho fr txt tl pos od nu su)) (nL := 4) ⟨hx, hb, hml, hown, hts⟩ (c_X6_goes l X mo al sv sm asd th ho fr txt tl pos od nu su (0 : Int32) (0 : Int32) (1 : Int32) r_43 th_44 hc_45) (cwV 3 hts gX6_why_X6_goes rfl rfl rfl (by decide +kernel) ⟨Nat.le_of_ble_eq_true rfl, Nat.le_of_ble_eq_true rfl⟩) 6 rfl rfl rfl rfl hl.1 rfl (Nat.le_of_ble_eq_true rfl) dX6_why_42 hK hP (hD0.addr rfl) hS hA [0, 1, 2, 3, 4, 5, 6, 7] rfl rfl rfl rfl ⟨Nat.zero_le _, Nat.zero_le _⟩ (fun H locs hP hD hS => ?_)
          refine lv_if_ne (tgt := 50) hx hb dX6_why_45 (by decide) (fun c_46 => ?_) (fun c_46 => ?_)
          · replace hf := fp_f c_46 hf
            refine lv_aload_n hx hb dX6_why_50 rfl (lv_at hl 0 rfl) ?_
            obtain ⟨ho_47, hc_48, hf⟩ := bd_of hf
            refine fn_V (v := none) (As := []) (rest := []) (st1 := []) (ws' := (wMo X mo al sv sm asd th_44 ho_47 fr txt tl pos od nu su)) (nL := 4) ⟨hx, hb, hml, hown, hts⟩ (c_X6_lay l X mo al sv sm asd th_44 ho fr txt tl pos od nu su ho_47 hc_48) (cwV 0 hts gX6_why_X6_lay rfl rfl rfl (by decide +kernel) ⟨Nat.le_of_ble_eq_true rfl, Nat.le_of_ble_eq_true rfl⟩) 6 rfl rfl rfl rfl hl.1 rfl (Nat.le_of_ble_eq_true rfl) dX6_why_51 hK hP (hD0.addr rfl) hS hA [0, 1, 2, 3, 4, 5, 6, 7] rfl rfl rfl rfl ⟨Nat.zero_le _, Nat.zero_le _⟩ (fun H locs hP hD hS => ?_)
            refine lv_aload_n hx hb dX6_why_54 rfl (lv_at hl 0 rfl) ?_
            refine lv_iload_n hx hb dX6_why_55 rfl (lv_at hl 1 rfl) ?_
            refine lv_iload_n hx hb dX6_why_56 rfl (lv_at hl 2 rfl) ?_
            obtain ⟨r_49, hc_50, hf⟩ := bd_of hf
            refine fn_V (v := some (.int r_49)) (As := [.int x1, .int x2]) (rest := []) (st1 := [.int r_49]) (ws' := (wMo X mo al sv sm asd th_44 ho_47 fr txt tl pos od nu su)) (nL := 4) ⟨hx, hb, hml, hown, hts⟩ (c_X6_holds l X mo al sv sm asd th_44 ho_47 fr txt tl pos od nu su x1 x2 r_49 hc_50) (cwV 2 hts gX6_why_X6_holds rfl rfl rfl (by decide +kernel) ⟨Nat.le_of_ble_eq_true rfl, Nat.le_of_ble_eq_true rfl⟩) 6 rfl rfl rfl rfl hl.1 rfl (Nat.le_of_ble_eq_true rfl) dX6_why_57 hK hP (hD0.addr rfl) hS hA [0, 1, 2, 3, 4, 5, 6, 7] rfl rfl rfl rfl ⟨Nat.zero_le _, Nat.zero_le _⟩ (fun H locs hP hD hS => ?_)
            refine lv_iload_n hx hb dX6_why_60 rfl (lv_at hl 3 rfl) ?_
            refine lv_iand hx hb dX6_why_61 ?_
            refine lv_if_eq (tgt := 67) hx hb dX6_why_62 (by decide) (fun c_51 => ?_) (fun c_51 => ?_)
            · replace hf := fp_t c_51 hf
              refine lv_aload_n hx hb dX6_why_67 rfl (lv_at hl 0 rfl) ?_
              refine lv_iload_n hx hb dX6_why_68 rfl (lv_at hl 2 rfl) ?_
              obtain ⟨r_52, hc_53, hf⟩ := bd_of hf
              refine fn_V (v := some (.int r_52)) (As := [.int x2]) (rest := []) (st1 := [.int r_52]) (ws' := (wMo X mo al sv sm asd th_44 ho_47 fr txt tl pos od nu su)) (nL := 4) ⟨hx, hb, hml, hown, hts⟩ (c_X6_mask l X mo al sv sm asd th_44 ho_47 fr txt tl pos od nu su x2 r_52 hc_53) (cwV 1 hts gX6_why_X6_mask rfl rfl rfl (by decide +kernel) ⟨Nat.le_of_ble_eq_true rfl, Nat.le_of_ble_eq_true rfl⟩) 6 rfl rfl rfl rfl hl.1 rfl (Nat.le_of_ble_eq_true rfl) dX6_why_69 hK hP (hD0.addr rfl) hS hA [0, 1, 2, 3, 4, 5, 6, 7] rfl rfl rfl rfl ⟨Nat.zero_le _, Nat.zero_le _⟩ (fun H locs hP hD hS => ?_)
              refine lv_iload_n hx hb dX6_why_72 rfl (lv_at hl 3 rfl) ?_
              refine lv_iand hx hb dX6_why_73 ?_
              refine lv_if_ne (tgt := 79) hx hb dX6_why_74 (by decide) (fun c_54 => ?_) (fun c_54 => ?_)
              · replace hf := fp_f c_54 hf
                refine lv_aload_n hx hb dX6_why_79 rfl (lv_at hl 0 rfl) ?_
                refine lv_iload_n hx hb dX6_why_80 rfl (lv_at hl 1 rfl) ?_
                refine lv_iload_n hx hb dX6_why_81 rfl (lv_at hl 2 rfl) ?_
                refine lv_iload_n hx hb dX6_why_82 rfl (lv_at hl 3 rfl) ?_
                refine lv_iconst (v := 0) hx hb dX6_why_83 (by decide) ?_
                obtain ⟨r_55, hc_56, hf⟩ := bd_of hf
                refine fn_V (v := some (.int r_55)) (As := [.int x1, .int x2, .int x3, .int (0 : Int32)]) (rest := []) (st1 := [.int r_55]) (ws' := (wMo X mo al sv sm asd th_44 ho_47 fr txt tl pos od nu su)) (nL := 4) ⟨hx, hb, hml, hown, hts⟩ (c_X6_grantsWith l X mo al sv sm asd th_44 ho_47 fr txt tl pos od nu su x1 x2 x3 (0 : Int32) r_55 hc_56) (cwV 4 hts gX6_why_X6_grantsWith rfl rfl rfl (by decide +kernel) ⟨Nat.le_of_ble_eq_true rfl, Nat.le_of_ble_eq_true rfl⟩) 6 rfl rfl rfl rfl hl.1 rfl (Nat.le_of_ble_eq_true rfl) dX6_why_84 hK hP (hD0.addr rfl) hS hA [0, 1, 2, 3, 4, 5, 6, 7] rfl rfl rfl rfl ⟨Nat.zero_le _, Nat.zero_le _⟩ (fun H locs hP hD hS => ?_)
                refine lv_if_ne (tgt := 94) hx hb dX6_why_87 (by decide) (fun c_57 => ?_) (fun c_57 => ?_)
                · replace hf := fp_f c_57 hf
                  refine lv_aload_n hx hb dX6_why_94 rfl (lv_at hl 0 rfl) ?_
                  refine lv_iload_n hx hb dX6_why_95 rfl (lv_at hl 1 rfl) ?_
                  refine lv_iload_n hx hb dX6_why_96 rfl (lv_at hl 2 rfl) ?_
                  refine lv_iload_n hx hb dX6_why_97 rfl (lv_at hl 3 rfl) ?_
                  refine lv_iconst (v := 4) hx hb dX6_why_98 (by decide) ?_
                  obtain ⟨r_58, hc_59, hf⟩ := bd_of hf
                  refine fn_V (v := some (.int r_58)) (As := [.int x1, .int x2, .int x3, .int (4 : Int32)]) (rest := []) (st1 := [.int r_58]) (ws' := (wMo X mo al sv sm asd th_44 ho_47 fr txt tl pos od nu su)) (nL := 4) ⟨hx, hb, hml, hown, hts⟩ (c_X6_grantsWith l X mo al sv sm asd th_44 ho_47 fr txt tl pos od nu su x1 x2 x3 (4 : Int32) r_58 hc_59) (cwV 4 hts gX6_why_X6_grantsWith rfl rfl rfl (by decide +kernel) ⟨Nat.le_of_ble_eq_true rfl, Nat.le_of_ble_eq_true rfl⟩) 6 rfl rfl rfl rfl hl.1 rfl (Nat.le_of_ble_eq_true rfl) dX6_why_99 hK hP (hD0.addr rfl) hS hA [0, 1, 2, 3, 4, 5, 6, 7] rfl rfl rfl rfl ⟨Nat.zero_le _, Nat.zero_le _⟩ (fun H locs hP hD hS => ?_)
                  refine lv_if_ne (tgt := 109) hx hb dX6_why_102 (by decide) (fun c_60 => ?_) (fun c_60 => ?_)
                  · replace hf := fp_f c_60 hf
                    refine lv_iconst (v := 4) hx hb dX6_why_109 (by decide) ?_
                    cases hf
                    exact fn_iret hx hb hr hlocks hP hS dX6_why_110
                  · replace hf := fp_t c_60 hf
                    refine lv_iconst (v := 3) hx hb dX6_why_105 (by decide) ?_
                    refine lv_goto (tgt := 110) hx hb dX6_why_106 (by decide) ?_
                    cases hf
                    exact fn_iret hx hb hr hlocks hP hS dX6_why_110
                · replace hf := fp_t c_57 hf
                  refine lv_iconst (v := 2) hx hb dX6_why_90 (by decide) ?_
                  refine lv_goto (tgt := 110) hx hb dX6_why_91 (by decide) ?_
                  cases hf
                  exact fn_iret hx hb hr hlocks hP hS dX6_why_110
              · replace hf := fp_t c_54 hf
                refine lv_iconst (v := 1) hx hb dX6_why_77 (by decide) ?_
                cases hf
                exact fn_iret hx hb hr hlocks hP hS dX6_why_78
            · replace hf := fp_f c_51 hf
              refine lv_iconst (v := 0) hx hb dX6_why_65 (by decide) ?_
              cases hf
              exact fn_iret hx hb hr hlocks hP hS dX6_why_66
          · replace hf := fp_t c_46 hf
            refine lv_iconst (v := 0) hx hb dX6_why_48 (by decide) ?_
            cases hf
            exact fn_iret hx hb hr hlocks hP hS dX6_why_49
        · replace hf := fp_t c_42 hf
          refine lv_iconst (v := 1) hx hb dX6_why_36 (by decide) ?_
          refine lv_goto (tgt := 41) hx hb dX6_why_37 (by decide) ?_
          refine lv_iconst (v := 1) hx hb dX6_why_41 (by decide) ?_
          obtain ⟨r_61, th_62, hc_63, hf⟩ := bd2_of hf
          refine fn_V (v := some (.int r_61)) (As := [.int (0 : Int32), .int (1 : Int32), .int (1 : Int32)]) (rest := []) (st1 := [.int r_61]) (ws' := (wMo X mo al sv sm asd th_62 ho fr txt tl pos od nu su)) (nL := 4) ⟨hx, hb, hml, hown, hts⟩ (c_X6_goes l X mo al sv sm asd th ho fr txt tl pos od nu su (0 : Int32) (1 : Int32) (1 : Int32) r_61 th_62 hc_63) (cwV 3 hts gX6_why_X6_goes rfl rfl rfl (by decide +kernel) ⟨Nat.le_of_ble_eq_true rfl, Nat.le_of_ble_eq_true rfl⟩) 6 rfl rfl rfl rfl hl.1 rfl (Nat.le_of_ble_eq_true rfl) dX6_why_42 hK hP (hD0.addr rfl) hS hA [0, 1, 2, 3, 4, 5, 6, 7] rfl rfl rfl rfl ⟨Nat.zero_le _, Nat.zero_le _⟩ (fun H locs hP hD hS => ?_)
          refine lv_if_ne (tgt := 50) hx hb dX6_why_45 (by decide) (fun c_64 => ?_) (fun c_64 => ?_)
          · replace hf := fp_f c_64 hf
            refine lv_aload_n hx hb dX6_why_50 rfl (lv_at hl 0 rfl) ?_
            obtain ⟨ho_65, hc_66, hf⟩ := bd_of hf
            refine fn_V (v := none) (As := []) (rest := []) (st1 := []) (ws' := (wMo X mo al sv sm asd th_62 ho_65 fr txt tl pos od nu su)) (nL := 4) ⟨hx, hb, hml, hown, hts⟩ (c_X6_lay l X mo al sv sm asd th_62 ho fr txt tl pos od nu su ho_65 hc_66) (cwV 0 hts gX6_why_X6_lay rfl rfl rfl (by decide +kernel) ⟨Nat.le_of_ble_eq_true rfl, Nat.le_of_ble_eq_true rfl⟩) 6 rfl rfl rfl rfl hl.1 rfl (Nat.le_of_ble_eq_true rfl) dX6_why_51 hK hP (hD0.addr rfl) hS hA [0, 1, 2, 3, 4, 5, 6, 7] rfl rfl rfl rfl ⟨Nat.zero_le _, Nat.zero_le _⟩ (fun H locs hP hD hS => ?_)
            refine lv_aload_n hx hb dX6_why_54 rfl (lv_at hl 0 rfl) ?_
            refine lv_iload_n hx hb dX6_why_55 rfl (lv_at hl 1 rfl) ?_
            refine lv_iload_n hx hb dX6_why_56 rfl (lv_at hl 2 rfl) ?_
            obtain ⟨r_67, hc_68, hf⟩ := bd_of hf
            refine fn_V (v := some (.int r_67)) (As := [.int x1, .int x2]) (rest := []) (st1 := [.int r_67]) (ws' := (wMo X mo al sv sm asd th_62 ho_65 fr txt tl pos od nu su)) (nL := 4) ⟨hx, hb, hml, hown, hts⟩ (c_X6_holds l X mo al sv sm asd th_62 ho_65 fr txt tl pos od nu su x1 x2 r_67 hc_68) (cwV 2 hts gX6_why_X6_holds rfl rfl rfl (by decide +kernel) ⟨Nat.le_of_ble_eq_true rfl, Nat.le_of_ble_eq_true rfl⟩) 6 rfl rfl rfl rfl hl.1 rfl (Nat.le_of_ble_eq_true rfl) dX6_why_57 hK hP (hD0.addr rfl) hS hA [0, 1, 2, 3, 4, 5, 6, 7] rfl rfl rfl rfl ⟨Nat.zero_le _, Nat.zero_le _⟩ (fun H locs hP hD hS => ?_)
            refine lv_iload_n hx hb dX6_why_60 rfl (lv_at hl 3 rfl) ?_
            refine lv_iand hx hb dX6_why_61 ?_
            refine lv_if_eq (tgt := 67) hx hb dX6_why_62 (by decide) (fun c_69 => ?_) (fun c_69 => ?_)
            · replace hf := fp_t c_69 hf
              refine lv_aload_n hx hb dX6_why_67 rfl (lv_at hl 0 rfl) ?_
              refine lv_iload_n hx hb dX6_why_68 rfl (lv_at hl 2 rfl) ?_
              obtain ⟨r_70, hc_71, hf⟩ := bd_of hf
              refine fn_V (v := some (.int r_70)) (As := [.int x2]) (rest := []) (st1 := [.int r_70]) (ws' := (wMo X mo al sv sm asd th_62 ho_65 fr txt tl pos od nu su)) (nL := 4) ⟨hx, hb, hml, hown, hts⟩ (c_X6_mask l X mo al sv sm asd th_62 ho_65 fr txt tl pos od nu su x2 r_70 hc_71) (cwV 1 hts gX6_why_X6_mask rfl rfl rfl (by decide +kernel) ⟨Nat.le_of_ble_eq_true rfl, Nat.le_of_ble_eq_true rfl⟩) 6 rfl rfl rfl rfl hl.1 rfl (Nat.le_of_ble_eq_true rfl) dX6_why_69 hK hP (hD0.addr rfl) hS hA [0, 1, 2, 3, 4, 5, 6, 7] rfl rfl rfl rfl ⟨Nat.zero_le _, Nat.zero_le _⟩ (fun H locs hP hD hS => ?_)
              refine lv_iload_n hx hb dX6_why_72 rfl (lv_at hl 3 rfl) ?_
              refine lv_iand hx hb dX6_why_73 ?_
              refine lv_if_ne (tgt := 79) hx hb dX6_why_74 (by decide) (fun c_72 => ?_) (fun c_72 => ?_)
              · replace hf := fp_f c_72 hf
                refine lv_aload_n hx hb dX6_why_79 rfl (lv_at hl 0 rfl) ?_
                refine lv_iload_n hx hb dX6_why_80 rfl (lv_at hl 1 rfl) ?_
                refine lv_iload_n hx hb dX6_why_81 rfl (lv_at hl 2 rfl) ?_
                refine lv_iload_n hx hb dX6_why_82 rfl (lv_at hl 3 rfl) ?_
                refine lv_iconst (v := 0) hx hb dX6_why_83 (by decide) ?_
                obtain ⟨r_73, hc_74, hf⟩ := bd_of hf
                refine fn_V (v := some (.int r_73)) (As := [.int x1, .int x2, .int x3, .int (0 : Int32)]) (rest := []) (st1 := [.int r_73]) (ws' := (wMo X mo al sv sm asd th_62 ho_65 fr txt tl pos od nu su)) (nL := 4) ⟨hx, hb, hml, hown, hts⟩ (c_X6_grantsWith l X mo al sv sm asd th_62 ho_65 fr txt tl pos od nu su x1 x2 x3 (0 : Int32) r_73 hc_74) (cwV 4 hts gX6_why_X6_grantsWith rfl rfl rfl (by decide +kernel) ⟨Nat.le_of_ble_eq_true rfl, Nat.le_of_ble_eq_true rfl⟩) 6 rfl rfl rfl rfl hl.1 rfl (Nat.le_of_ble_eq_true rfl) dX6_why_84 hK hP (hD0.addr rfl) hS hA [0, 1, 2, 3, 4, 5, 6, 7] rfl rfl rfl rfl ⟨Nat.zero_le _, Nat.zero_le _⟩ (fun H locs hP hD hS => ?_)
                refine lv_if_ne (tgt := 94) hx hb dX6_why_87 (by decide) (fun c_75 => ?_) (fun c_75 => ?_)
                · replace hf := fp_f c_75 hf
                  refine lv_aload_n hx hb dX6_why_94 rfl (lv_at hl 0 rfl) ?_
                  refine lv_iload_n hx hb dX6_why_95 rfl (lv_at hl 1 rfl) ?_
                  refine lv_iload_n hx hb dX6_why_96 rfl (lv_at hl 2 rfl) ?_
                  refine lv_iload_n hx hb dX6_why_97 rfl (lv_at hl 3 rfl) ?_
                  refine lv_iconst (v := 4) hx hb dX6_why_98 (by decide) ?_
                  obtain ⟨r_76, hc_77, hf⟩ := bd_of hf
                  refine fn_V (v := some (.int r_76)) (As := [.int x1, .int x2, .int x3, .int (4 : Int32)]) (rest := []) (st1 := [.int r_76]) (ws' := (wMo X mo al sv sm asd th_62 ho_65 fr txt tl pos od nu su)) (nL := 4) ⟨hx, hb, hml, hown, hts⟩ (c_X6_grantsWith l X mo al sv sm asd th_62 ho_65 fr txt tl pos od nu su x1 x2 x3 (4 : Int32) r_76 hc_77) (cwV 4 hts gX6_why_X6_grantsWith rfl rfl rfl (by decide +kernel) ⟨Nat.le_of_ble_eq_true rfl, Nat.le_of_ble_eq_true rfl⟩) 6 rfl rfl rfl rfl hl.1 rfl (Nat.le_of_ble_eq_true rfl) dX6_why_99 hK hP (hD0.addr rfl) hS hA [0, 1, 2, 3, 4, 5, 6, 7] rfl rfl rfl rfl ⟨Nat.zero_le _, Nat.zero_le _⟩ (fun H locs hP hD hS => ?_)
                  refine lv_if_ne (tgt := 109) hx hb dX6_why_102 (by decide) (fun c_78 => ?_) (fun c_78 => ?_)
                  · replace hf := fp_f c_78 hf
                    refine lv_iconst (v := 4) hx hb dX6_why_109 (by decide) ?_
                    cases hf
                    exact fn_iret hx hb hr hlocks hP hS dX6_why_110
                  · replace hf := fp_t c_78 hf
                    refine lv_iconst (v := 3) hx hb dX6_why_105 (by decide) ?_
                    refine lv_goto (tgt := 110) hx hb dX6_why_106 (by decide) ?_
                    cases hf
                    exact fn_iret hx hb hr hlocks hP hS dX6_why_110
                · replace hf := fp_t c_75 hf
                  refine lv_iconst (v := 2) hx hb dX6_why_90 (by decide) ?_
                  refine lv_goto (tgt := 110) hx hb dX6_why_91 (by decide) ?_
                  cases hf
                  exact fn_iret hx hb hr hlocks hP hS dX6_why_110
              · replace hf := fp_t c_72 hf
                refine lv_iconst (v := 1) hx hb dX6_why_77 (by decide) ?_
                cases hf
                exact fn_iret hx hb hr hlocks hP hS dX6_why_78
            · replace hf := fp_f c_69 hf
              refine lv_iconst (v := 0) hx hb dX6_why_65 (by decide) ?_
              cases hf
              exact fn_iret hx hb hr hlocks hP hS dX6_why_66
          · replace hf := fp_t c_64 hf
            refine lv_iconst (v := 0) hx hb dX6_why_48 (by decide) ?_
            cases hf
            exact fn_iret hx hb hr hlocks hP hS dX6_why_49
  · replace hf := fp_f c_3 hf
    refine lv_aload_n hx hb dX6_why_8 rfl (lv_at hl 0 rfl) ?_
    refine lv_iload_n hx hb dX6_why_9 rfl (lv_at hl 2 rfl) ?_
    obtain ⟨r_79, hc_80, hf⟩ := bd_of hf
    refine fn_V (v := some (.int r_79)) (As := [.int x2]) (rest := [.ref (mo 0)]) (st1 := [.int r_79, .ref (mo 0)]) (ws' := (wMo X mo al sv sm asd th ho fr txt tl pos od nu su)) (nL := 4) ⟨hx, hb, hml, hown, hts⟩ (c_X6_isThing l X mo al sv sm asd th ho fr txt tl pos od nu su x2 r_79 hc_80) (cwV 1 hts gX6_why_X6_isThing rfl rfl rfl (by decide +kernel) ⟨Nat.le_of_ble_eq_true rfl, Nat.le_of_ble_eq_true rfl⟩) 6 rfl rfl rfl rfl hl.1 rfl (Nat.le_of_ble_eq_true rfl) dX6_why_10 hK hP (hD0.addr rfl) hS hA [0, 1, 2, 3, 4, 5, 6, 7] rfl rfl rfl rfl ⟨Nat.zero_le _, Nat.zero_le _⟩ (fun H locs hP hD hS => ?_)
    refine lv_if_eq (tgt := 20) hx hb dX6_why_13 (by decide) (fun c_81 => ?_) (fun c_81 => ?_)
    · replace hf := fp_t c_81 hf
      refine lv_iconst (v := 0) hx hb dX6_why_20 (by decide) ?_
      refine lv_iload_n hx hb dX6_why_21 rfl (lv_at hl 3 rfl) ?_
      refine lv_iconst (v := 1) hx hb dX6_why_22 (by decide) ?_
      refine lv_icmp_eq (tgt := 36) hx hb dX6_why_23 (by decide) (fun c_82 => ?_) (fun c_82 => ?_)
      · replace hf := fp_t c_82 hf
        refine lv_iconst (v := 1) hx hb dX6_why_36 (by decide) ?_
        refine lv_goto (tgt := 41) hx hb dX6_why_37 (by decide) ?_
        refine lv_iconst (v := 1) hx hb dX6_why_41 (by decide) ?_
        obtain ⟨r_83, th_84, hc_85, hf⟩ := bd2_of hf
        refine fn_V (v := some (.int r_83)) (As := [.int (0 : Int32), .int (1 : Int32), .int (1 : Int32)]) (rest := []) (st1 := [.int r_83]) (ws' := (wMo X mo al sv sm asd th_84 ho fr txt tl pos od nu su)) (nL := 4) ⟨hx, hb, hml, hown, hts⟩ (c_X6_goes l X mo al sv sm asd th ho fr txt tl pos od nu su (0 : Int32) (1 : Int32) (1 : Int32) r_83 th_84 hc_85) (cwV 3 hts gX6_why_X6_goes rfl rfl rfl (by decide +kernel) ⟨Nat.le_of_ble_eq_true rfl, Nat.le_of_ble_eq_true rfl⟩) 6 rfl rfl rfl rfl hl.1 rfl (Nat.le_of_ble_eq_true rfl) dX6_why_42 hK hP (hD0.addr rfl) hS hA [0, 1, 2, 3, 4, 5, 6, 7] rfl rfl rfl rfl ⟨Nat.zero_le _, Nat.zero_le _⟩ (fun H locs hP hD hS => ?_)
        refine lv_if_ne (tgt := 50) hx hb dX6_why_45 (by decide) (fun c_86 => ?_) (fun c_86 => ?_)
        · replace hf := fp_f c_86 hf
          refine lv_aload_n hx hb dX6_why_50 rfl (lv_at hl 0 rfl) ?_
          obtain ⟨ho_87, hc_88, hf⟩ := bd_of hf
          refine fn_V (v := none) (As := []) (rest := []) (st1 := []) (ws' := (wMo X mo al sv sm asd th_84 ho_87 fr txt tl pos od nu su)) (nL := 4) ⟨hx, hb, hml, hown, hts⟩ (c_X6_lay l X mo al sv sm asd th_84 ho fr txt tl pos od nu su ho_87 hc_88) (cwV 0 hts gX6_why_X6_lay rfl rfl rfl (by decide +kernel) ⟨Nat.le_of_ble_eq_true rfl, Nat.le_of_ble_eq_true rfl⟩) 6 rfl rfl rfl rfl hl.1 rfl (Nat.le_of_ble_eq_true rfl) dX6_why_51 hK hP (hD0.addr rfl) hS hA [0, 1, 2, 3, 4, 5, 6, 7] rfl rfl rfl rfl ⟨Nat.zero_le _, Nat.zero_le _⟩ (fun H locs hP hD hS => ?_)
          refine lv_aload_n hx hb dX6_why_54 rfl (lv_at hl 0 rfl) ?_
          refine lv_iload_n hx hb dX6_why_55 rfl (lv_at hl 1 rfl) ?_
          refine lv_iload_n hx hb dX6_why_56 rfl (lv_at hl 2 rfl) ?_
          obtain ⟨r_89, hc_90, hf⟩ := bd_of hf
          refine fn_V (v := some (.int r_89)) (As := [.int x1, .int x2]) (rest := []) (st1 := [.int r_89]) (ws' := (wMo X mo al sv sm asd th_84 ho_87 fr txt tl pos od nu su)) (nL := 4) ⟨hx, hb, hml, hown, hts⟩ (c_X6_holds l X mo al sv sm asd th_84 ho_87 fr txt tl pos od nu su x1 x2 r_89 hc_90) (cwV 2 hts gX6_why_X6_holds rfl rfl rfl (by decide +kernel) ⟨Nat.le_of_ble_eq_true rfl, Nat.le_of_ble_eq_true rfl⟩) 6 rfl rfl rfl rfl hl.1 rfl (Nat.le_of_ble_eq_true rfl) dX6_why_57 hK hP (hD0.addr rfl) hS hA [0, 1, 2, 3, 4, 5, 6, 7] rfl rfl rfl rfl ⟨Nat.zero_le _, Nat.zero_le _⟩ (fun H locs hP hD hS => ?_)
          refine lv_iload_n hx hb dX6_why_60 rfl (lv_at hl 3 rfl) ?_
          refine lv_iand hx hb dX6_why_61 ?_
          refine lv_if_eq (tgt := 67) hx hb dX6_why_62 (by decide) (fun c_91 => ?_) (fun c_91 => ?_)
          · replace hf := fp_t c_91 hf
            refine lv_aload_n hx hb dX6_why_67 rfl (lv_at hl 0 rfl) ?_
            refine lv_iload_n hx hb dX6_why_68 rfl (lv_at hl 2 rfl) ?_
            obtain ⟨r_92, hc_93, hf⟩ := bd_of hf
            refine fn_V (v := some (.int r_92)) (As := [.int x2]) (rest := []) (st1 := [.int r_92]) (ws' := (wMo X mo al sv sm asd th_84 ho_87 fr txt tl pos od nu su)) (nL := 4) ⟨hx, hb, hml, hown, hts⟩ (c_X6_mask l X mo al sv sm asd th_84 ho_87 fr txt tl pos od nu su x2 r_92 hc_93) (cwV 1 hts gX6_why_X6_mask rfl rfl rfl (by decide +kernel) ⟨Nat.le_of_ble_eq_true rfl, Nat.le_of_ble_eq_true rfl⟩) 6 rfl rfl rfl rfl hl.1 rfl (Nat.le_of_ble_eq_true rfl) dX6_why_69 hK hP (hD0.addr rfl) hS hA [0, 1, 2, 3, 4, 5, 6, 7] rfl rfl rfl rfl ⟨Nat.zero_le _, Nat.zero_le _⟩ (fun H locs hP hD hS => ?_)
            refine lv_iload_n hx hb dX6_why_72 rfl (lv_at hl 3 rfl) ?_
            refine lv_iand hx hb dX6_why_73 ?_
            refine lv_if_ne (tgt := 79) hx hb dX6_why_74 (by decide) (fun c_94 => ?_) (fun c_94 => ?_)
            · replace hf := fp_f c_94 hf
              refine lv_aload_n hx hb dX6_why_79 rfl (lv_at hl 0 rfl) ?_
              refine lv_iload_n hx hb dX6_why_80 rfl (lv_at hl 1 rfl) ?_
              refine lv_iload_n hx hb dX6_why_81 rfl (lv_at hl 2 rfl) ?_
              refine lv_iload_n hx hb dX6_why_82 rfl (lv_at hl 3 rfl) ?_
              refine lv_iconst (v := 0) hx hb dX6_why_83 (by decide) ?_
              obtain ⟨r_95, hc_96, hf⟩ := bd_of hf
              refine fn_V (v := some (.int r_95)) (As := [.int x1, .int x2, .int x3, .int (0 : Int32)]) (rest := []) (st1 := [.int r_95]) (ws' := (wMo X mo al sv sm asd th_84 ho_87 fr txt tl pos od nu su)) (nL := 4) ⟨hx, hb, hml, hown, hts⟩ (c_X6_grantsWith l X mo al sv sm asd th_84 ho_87 fr txt tl pos od nu su x1 x2 x3 (0 : Int32) r_95 hc_96) (cwV 4 hts gX6_why_X6_grantsWith rfl rfl rfl (by decide +kernel) ⟨Nat.le_of_ble_eq_true rfl, Nat.le_of_ble_eq_true rfl⟩) 6 rfl rfl rfl rfl hl.1 rfl (Nat.le_of_ble_eq_true rfl) dX6_why_84 hK hP (hD0.addr rfl) hS hA [0, 1, 2, 3, 4, 5, 6, 7] rfl rfl rfl rfl ⟨Nat.zero_le _, Nat.zero_le _⟩ (fun H locs hP hD hS => ?_)
              refine lv_if_ne (tgt := 94) hx hb dX6_why_87 (by decide) (fun c_97 => ?_) (fun c_97 => ?_)
              · replace hf := fp_f c_97 hf
                refine lv_aload_n hx hb dX6_why_94 rfl (lv_at hl 0 rfl) ?_
                refine lv_iload_n hx hb dX6_why_95 rfl (lv_at hl 1 rfl) ?_
                refine lv_iload_n hx hb dX6_why_96 rfl (lv_at hl 2 rfl) ?_
                refine lv_iload_n hx hb dX6_why_97 rfl (lv_at hl 3 rfl) ?_
                refine lv_iconst (v := 4) hx hb dX6_why_98 (by decide) ?_
                obtain ⟨r_98, hc_99, hf⟩ := bd_of hf
                refine fn_V (v := some (.int r_98)) (As := [.int x1, .int x2, .int x3, .int (4 : Int32)]) (rest := []) (st1 := [.int r_98]) (ws' := (wMo X mo al sv sm asd th_84 ho_87 fr txt tl pos od nu su)) (nL := 4) ⟨hx, hb, hml, hown, hts⟩ (c_X6_grantsWith l X mo al sv sm asd th_84 ho_87 fr txt tl pos od nu su x1 x2 x3 (4 : Int32) r_98 hc_99) (cwV 4 hts gX6_why_X6_grantsWith rfl rfl rfl (by decide +kernel) ⟨Nat.le_of_ble_eq_true rfl, Nat.le_of_ble_eq_true rfl⟩) 6 rfl rfl rfl rfl hl.1 rfl (Nat.le_of_ble_eq_true rfl) dX6_why_99 hK hP (hD0.addr rfl) hS hA [0, 1, 2, 3, 4, 5, 6, 7] rfl rfl rfl rfl ⟨Nat.zero_le _, Nat.zero_le _⟩ (fun H locs hP hD hS => ?_)
                refine lv_if_ne (tgt := 109) hx hb dX6_why_102 (by decide) (fun c_100 => ?_) (fun c_100 => ?_)
                · replace hf := fp_f c_100 hf
                  refine lv_iconst (v := 4) hx hb dX6_why_109 (by decide) ?_
                  cases hf
                  exact fn_iret hx hb hr hlocks hP hS dX6_why_110
                · replace hf := fp_t c_100 hf
                  refine lv_iconst (v := 3) hx hb dX6_why_105 (by decide) ?_
                  refine lv_goto (tgt := 110) hx hb dX6_why_106 (by decide) ?_
                  cases hf
                  exact fn_iret hx hb hr hlocks hP hS dX6_why_110
              · replace hf := fp_t c_97 hf
                refine lv_iconst (v := 2) hx hb dX6_why_90 (by decide) ?_
                refine lv_goto (tgt := 110) hx hb dX6_why_91 (by decide) ?_
                cases hf
                exact fn_iret hx hb hr hlocks hP hS dX6_why_110
            · replace hf := fp_t c_94 hf
              refine lv_iconst (v := 1) hx hb dX6_why_77 (by decide) ?_
              cases hf
              exact fn_iret hx hb hr hlocks hP hS dX6_why_78
          · replace hf := fp_f c_91 hf
            refine lv_iconst (v := 0) hx hb dX6_why_65 (by decide) ?_
            cases hf
            exact fn_iret hx hb hr hlocks hP hS dX6_why_66
        · replace hf := fp_t c_86 hf
          refine lv_iconst (v := 0) hx hb dX6_why_48 (by decide) ?_
          cases hf
          exact fn_iret hx hb hr hlocks hP hS dX6_why_49
      · replace hf := fp_f c_82 hf
        refine lv_iload_n hx hb dX6_why_26 rfl (lv_at hl 3 rfl) ?_
        refine lv_iconst (v := 2) hx hb dX6_why_27 (by decide) ?_
        refine lv_icmp_eq (tgt := 36) hx hb dX6_why_28 (by decide) (fun c_101 => ?_) (fun c_101 => ?_)
        · replace hf := fp_t c_101 hf
          refine lv_iconst (v := 1) hx hb dX6_why_36 (by decide) ?_
          refine lv_goto (tgt := 41) hx hb dX6_why_37 (by decide) ?_
          refine lv_iconst (v := 1) hx hb dX6_why_41 (by decide) ?_
          obtain ⟨r_102, th_103, hc_104, hf⟩ := bd2_of hf
          refine fn_V (v := some (.int r_102)) (As := [.int (0 : Int32), .int (1 : Int32), .int (1 : Int32)]) (rest := []) (st1 := [.int r_102]) (ws' := (wMo X mo al sv sm asd th_103 ho fr txt tl pos od nu su)) (nL := 4) ⟨hx, hb, hml, hown, hts⟩ (c_X6_goes l X mo al sv sm asd th ho fr txt tl pos od nu su (0 : Int32) (1 : Int32) (1 : Int32) r_102 th_103 hc_104) (cwV 3 hts gX6_why_X6_goes rfl rfl rfl (by decide +kernel) ⟨Nat.le_of_ble_eq_true rfl, Nat.le_of_ble_eq_true rfl⟩) 6 rfl rfl rfl rfl hl.1 rfl (Nat.le_of_ble_eq_true rfl) dX6_why_42 hK hP (hD0.addr rfl) hS hA [0, 1, 2, 3, 4, 5, 6, 7] rfl rfl rfl rfl ⟨Nat.zero_le _, Nat.zero_le _⟩ (fun H locs hP hD hS => ?_)
          refine lv_if_ne (tgt := 50) hx hb dX6_why_45 (by decide) (fun c_105 => ?_) (fun c_105 => ?_)
          · replace hf := fp_f c_105 hf
            refine lv_aload_n hx hb dX6_why_50 rfl (lv_at hl 0 rfl) ?_
            obtain ⟨ho_106, hc_107, hf⟩ := bd_of hf
            refine fn_V (v := none) (As := []) (rest := []) (st1 := []) (ws' := (wMo X mo al sv sm asd th_103 ho_106 fr txt tl pos od nu su)) (nL := 4) ⟨hx, hb, hml, hown, hts⟩ (c_X6_lay l X mo al sv sm asd th_103 ho fr txt tl pos od nu su ho_106 hc_107) (cwV 0 hts gX6_why_X6_lay rfl rfl rfl (by decide +kernel) ⟨Nat.le_of_ble_eq_true rfl, Nat.le_of_ble_eq_true rfl⟩) 6 rfl rfl rfl rfl hl.1 rfl (Nat.le_of_ble_eq_true rfl) dX6_why_51 hK hP (hD0.addr rfl) hS hA [0, 1, 2, 3, 4, 5, 6, 7] rfl rfl rfl rfl ⟨Nat.zero_le _, Nat.zero_le _⟩ (fun H locs hP hD hS => ?_)
            refine lv_aload_n hx hb dX6_why_54 rfl (lv_at hl 0 rfl) ?_
            refine lv_iload_n hx hb dX6_why_55 rfl (lv_at hl 1 rfl) ?_
            refine lv_iload_n hx hb dX6_why_56 rfl (lv_at hl 2 rfl) ?_
            obtain ⟨r_108, hc_109, hf⟩ := bd_of hf
            refine fn_V (v := some (.int r_108)) (As := [.int x1, .int x2]) (rest := []) (st1 := [.int r_108]) (ws' := (wMo X mo al sv sm asd th_103 ho_106 fr txt tl pos od nu su)) (nL := 4) ⟨hx, hb, hml, hown, hts⟩ (c_X6_holds l X mo al sv sm asd th_103 ho_106 fr txt tl pos od nu su x1 x2 r_108 hc_109) (cwV 2 hts gX6_why_X6_holds rfl rfl rfl (by decide +kernel) ⟨Nat.le_of_ble_eq_true rfl, Nat.le_of_ble_eq_true rfl⟩) 6 rfl rfl rfl rfl hl.1 rfl (Nat.le_of_ble_eq_true rfl) dX6_why_57 hK hP (hD0.addr rfl) hS hA [0, 1, 2, 3, 4, 5, 6, 7] rfl rfl rfl rfl ⟨Nat.zero_le _, Nat.zero_le _⟩ (fun H locs hP hD hS => ?_)
            refine lv_iload_n hx hb dX6_why_60 rfl (lv_at hl 3 rfl) ?_
            refine lv_iand hx hb dX6_why_61 ?_
            refine lv_if_eq (tgt := 67) hx hb dX6_why_62 (by decide) (fun c_110 => ?_) (fun c_110 => ?_)
            · replace hf := fp_t c_110 hf
              refine lv_aload_n hx hb dX6_why_67 rfl (lv_at hl 0 rfl) ?_
              refine lv_iload_n hx hb dX6_why_68 rfl (lv_at hl 2 rfl) ?_
              obtain ⟨r_111, hc_112, hf⟩ := bd_of hf
              refine fn_V (v := some (.int r_111)) (As := [.int x2]) (rest := []) (st1 := [.int r_111]) (ws' := (wMo X mo al sv sm asd th_103 ho_106 fr txt tl pos od nu su)) (nL := 4) ⟨hx, hb, hml, hown, hts⟩ (c_X6_mask l X mo al sv sm asd th_103 ho_106 fr txt tl pos od nu su x2 r_111 hc_112) (cwV 1 hts gX6_why_X6_mask rfl rfl rfl (by decide +kernel) ⟨Nat.le_of_ble_eq_true rfl, Nat.le_of_ble_eq_true rfl⟩) 6 rfl rfl rfl rfl hl.1 rfl (Nat.le_of_ble_eq_true rfl) dX6_why_69 hK hP (hD0.addr rfl) hS hA [0, 1, 2, 3, 4, 5, 6, 7] rfl rfl rfl rfl ⟨Nat.zero_le _, Nat.zero_le _⟩ (fun H locs hP hD hS => ?_)
              refine lv_iload_n hx hb dX6_why_72 rfl (lv_at hl 3 rfl) ?_
              refine lv_iand hx hb dX6_why_73 ?_
              refine lv_if_ne (tgt := 79) hx hb dX6_why_74 (by decide) (fun c_113 => ?_) (fun c_113 => ?_)
              · replace hf := fp_f c_113 hf
                refine lv_aload_n hx hb dX6_why_79 rfl (lv_at hl 0 rfl) ?_
                refine lv_iload_n hx hb dX6_why_80 rfl (lv_at hl 1 rfl) ?_
                refine lv_iload_n hx hb dX6_why_81 rfl (lv_at hl 2 rfl) ?_
                refine lv_iload_n hx hb dX6_why_82 rfl (lv_at hl 3 rfl) ?_
                refine lv_iconst (v := 0) hx hb dX6_why_83 (by decide) ?_
                obtain ⟨r_114, hc_115, hf⟩ := bd_of hf
                refine fn_V (v := some (.int r_114)) (As := [.int x1, .int x2, .int x3, .int (0 : Int32)]) (rest := []) (st1 := [.int r_114]) (ws' := (wMo X mo al sv sm asd th_103 ho_106 fr txt tl pos od nu su)) (nL := 4) ⟨hx, hb, hml, hown, hts⟩ (c_X6_grantsWith l X mo al sv sm asd th_103 ho_106 fr txt tl pos od nu su x1 x2 x3 (0 : Int32) r_114 hc_115) (cwV 4 hts gX6_why_X6_grantsWith rfl rfl rfl (by decide +kernel) ⟨Nat.le_of_ble_eq_true rfl, Nat.le_of_ble_eq_true rfl⟩) 6 rfl rfl rfl rfl hl.1 rfl (Nat.le_of_ble_eq_true rfl) dX6_why_84 hK hP (hD0.addr rfl) hS hA [0, 1, 2, 3, 4, 5, 6, 7] rfl rfl rfl rfl ⟨Nat.zero_le _, Nat.zero_le _⟩ (fun H locs hP hD hS => ?_)
                refine lv_if_ne (tgt := 94) hx hb dX6_why_87 (by decide) (fun c_116 => ?_) (fun c_116 => ?_)
                · replace hf := fp_f c_116 hf
                  refine lv_aload_n hx hb dX6_why_94 rfl (lv_at hl 0 rfl) ?_
                  refine lv_iload_n hx hb dX6_why_95 rfl (lv_at hl 1 rfl) ?_
                  refine lv_iload_n hx hb dX6_why_96 rfl (lv_at hl 2 rfl) ?_
                  refine lv_iload_n hx hb dX6_why_97 rfl (lv_at hl 3 rfl) ?_
                  refine lv_iconst (v := 4) hx hb dX6_why_98 (by decide) ?_
                  obtain ⟨r_117, hc_118, hf⟩ := bd_of hf
                  refine fn_V (v := some (.int r_117)) (As := [.int x1, .int x2, .int x3, .int (4 : Int32)]) (rest := []) (st1 := [.int r_117]) (ws' := (wMo X mo al sv sm asd th_103 ho_106 fr txt tl pos od nu su)) (nL := 4) ⟨hx, hb, hml, hown, hts⟩ (c_X6_grantsWith l X mo al sv sm asd th_103 ho_106 fr txt tl pos od nu su x1 x2 x3 (4 : Int32) r_117 hc_118) (cwV 4 hts gX6_why_X6_grantsWith rfl rfl rfl (by decide +kernel) ⟨Nat.le_of_ble_eq_true rfl, Nat.le_of_ble_eq_true rfl⟩) 6 rfl rfl rfl rfl hl.1 rfl (Nat.le_of_ble_eq_true rfl) dX6_why_99 hK hP (hD0.addr rfl) hS hA [0, 1, 2, 3, 4, 5, 6, 7] rfl rfl rfl rfl ⟨Nat.zero_le _, Nat.zero_le _⟩ (fun H locs hP hD hS => ?_)
                  refine lv_if_ne (tgt := 109) hx hb dX6_why_102 (by decide) (fun c_119 => ?_) (fun c_119 => ?_)
                  · replace hf := fp_f c_119 hf
                    refine lv_iconst (v := 4) hx hb dX6_why_109 (by decide) ?_
                    cases hf
                    exact fn_iret hx hb hr hlocks hP hS dX6_why_110
                  · replace hf := fp_t c_119 hf
                    refine lv_iconst (v := 3) hx hb dX6_why_105 (by decide) ?_
                    refine lv_goto (tgt := 110) hx hb dX6_why_106 (by decide) ?_
                    cases hf
                    exact fn_iret hx hb hr hlocks hP hS dX6_why_110
                · replace hf := fp_t c_116 hf
                  refine lv_iconst (v := 2) hx hb dX6_why_90 (by decide) ?_
                  refine lv_goto (tgt := 110) hx hb dX6_why_91 (by decide) ?_
                  cases hf
                  exact fn_iret hx hb hr hlocks hP hS dX6_why_110
              · replace hf := fp_t c_113 hf
                refine lv_iconst (v := 1) hx hb dX6_why_77 (by decide) ?_
                cases hf
                exact fn_iret hx hb hr hlocks hP hS dX6_why_78
            · replace hf := fp_f c_110 hf
              refine lv_iconst (v := 0) hx hb dX6_why_65 (by decide) ?_
              cases hf
              exact fn_iret hx hb hr hlocks hP hS dX6_why_66
          · replace hf := fp_t c_105 hf
            refine lv_iconst (v := 0) hx hb dX6_why_48 (by decide) ?_
            cases hf
            exact fn_iret hx hb hr hlocks hP hS dX6_why_49
        · replace hf := fp_f c_101 hf
          refine lv_iload_n hx hb dX6_why_31 rfl (lv_at hl 3 rfl) ?_
          refine lv_iconst (v := 4) hx hb dX6_why_32 (by decide) ?_
          refine lv_icmp_ne (tgt := 40) hx hb dX6_why_33 (by decide) (fun c_120 => ?_) (fun c_120 => ?_)
          · replace hf := fp_f c_120 hf
            refine lv_iconst (v := 0) hx hb dX6_why_40 (by decide) ?_
            refine lv_iconst (v := 1) hx hb dX6_why_41 (by decide) ?_
            obtain ⟨r_121, th_122, hc_123, hf⟩ := bd2_of hf
            refine fn_V (v := some (.int r_121)) (As := [.int (0 : Int32), .int (0 : Int32), .int (1 : Int32)]) (rest := []) (st1 := [.int r_121]) (ws' := (wMo X mo al sv sm asd th_122 ho fr txt tl pos od nu su)) (nL := 4) ⟨hx, hb, hml, hown, hts⟩ (c_X6_goes l X mo al sv sm asd th ho fr txt tl pos od nu su (0 : Int32) (0 : Int32) (1 : Int32) r_121 th_122 hc_123) (cwV 3 hts gX6_why_X6_goes rfl rfl rfl (by decide +kernel) ⟨Nat.le_of_ble_eq_true rfl, Nat.le_of_ble_eq_true rfl⟩) 6 rfl rfl rfl rfl hl.1 rfl (Nat.le_of_ble_eq_true rfl) dX6_why_42 hK hP (hD0.addr rfl) hS hA [0, 1, 2, 3, 4, 5, 6, 7] rfl rfl rfl rfl ⟨Nat.zero_le _, Nat.zero_le _⟩ (fun H locs hP hD hS => ?_)
            refine lv_if_ne (tgt := 50) hx hb dX6_why_45 (by decide) (fun c_124 => ?_) (fun c_124 => ?_)
            · replace hf := fp_f c_124 hf
              refine lv_aload_n hx hb dX6_why_50 rfl (lv_at hl 0 rfl) ?_
              obtain ⟨ho_125, hc_126, hf⟩ := bd_of hf
              refine fn_V (v := none) (As := []) (rest := []) (st1 := []) (ws' := (wMo X mo al sv sm asd th_122 ho_125 fr txt tl pos od nu su)) (nL := 4) ⟨hx, hb, hml, hown, hts⟩ (c_X6_lay l X mo al sv sm asd th_122 ho fr txt tl pos od nu su ho_125 hc_126) (cwV 0 hts gX6_why_X6_lay rfl rfl rfl (by decide +kernel) ⟨Nat.le_of_ble_eq_true rfl, Nat.le_of_ble_eq_true rfl⟩) 6 rfl rfl rfl rfl hl.1 rfl (Nat.le_of_ble_eq_true rfl) dX6_why_51 hK hP (hD0.addr rfl) hS hA [0, 1, 2, 3, 4, 5, 6, 7] rfl rfl rfl rfl ⟨Nat.zero_le _, Nat.zero_le _⟩ (fun H locs hP hD hS => ?_)
              refine lv_aload_n hx hb dX6_why_54 rfl (lv_at hl 0 rfl) ?_
              refine lv_iload_n hx hb dX6_why_55 rfl (lv_at hl 1 rfl) ?_
              refine lv_iload_n hx hb dX6_why_56 rfl (lv_at hl 2 rfl) ?_
              obtain ⟨r_127, hc_128, hf⟩ := bd_of hf
              refine fn_V (v := some (.int r_127)) (As := [.int x1, .int x2]) (rest := []) (st1 := [.int r_127]) (ws' := (wMo X mo al sv sm asd th_122 ho_125 fr txt tl pos od nu su)) (nL := 4) ⟨hx, hb, hml, hown, hts⟩ (c_X6_holds l X mo al sv sm asd th_122 ho_125 fr txt tl pos od nu su x1 x2 r_127 hc_128) (cwV 2 hts gX6_why_X6_holds rfl rfl rfl (by decide +kernel) ⟨Nat.le_of_ble_eq_true rfl, Nat.le_of_ble_eq_true rfl⟩) 6 rfl rfl rfl rfl hl.1 rfl (Nat.le_of_ble_eq_true rfl) dX6_why_57 hK hP (hD0.addr rfl) hS hA [0, 1, 2, 3, 4, 5, 6, 7] rfl rfl rfl rfl ⟨Nat.zero_le _, Nat.zero_le _⟩ (fun H locs hP hD hS => ?_)
              refine lv_iload_n hx hb dX6_why_60 rfl (lv_at hl 3 rfl) ?_
              refine lv_iand hx hb dX6_why_61 ?_
              refine lv_if_eq (tgt := 67) hx hb dX6_why_62 (by decide) (fun c_129 => ?_) (fun c_129 => ?_)
              · replace hf := fp_t c_129 hf
                refine lv_aload_n hx hb dX6_why_67 rfl (lv_at hl 0 rfl) ?_
                refine lv_iload_n hx hb dX6_why_68 rfl (lv_at hl 2 rfl) ?_
                obtain ⟨r_130, hc_131, hf⟩ := bd_of hf
                refine fn_V (v := some (.int r_130)) (As := [.int x2]) (rest := []) (st1 := [.int r_130]) (ws' := (wMo X mo al sv sm asd th_122 ho_125 fr txt tl pos od nu su)) (nL := 4) ⟨hx, hb, hml, hown, hts⟩ (c_X6_mask l X mo al sv sm asd th_122 ho_125 fr txt tl pos od nu su x2 r_130 hc_131) (cwV 1 hts gX6_why_X6_mask rfl rfl rfl (by decide +kernel) ⟨Nat.le_of_ble_eq_true rfl, Nat.le_of_ble_eq_true rfl⟩) 6 rfl rfl rfl rfl hl.1 rfl (Nat.le_of_ble_eq_true rfl) dX6_why_69 hK hP (hD0.addr rfl) hS hA [0, 1, 2, 3, 4, 5, 6, 7] rfl rfl rfl rfl ⟨Nat.zero_le _, Nat.zero_le _⟩ (fun H locs hP hD hS => ?_)
                refine lv_iload_n hx hb dX6_why_72 rfl (lv_at hl 3 rfl) ?_
                refine lv_iand hx hb dX6_why_73 ?_
                refine lv_if_ne (tgt := 79) hx hb dX6_why_74 (by decide) (fun c_132 => ?_) (fun c_132 => ?_)
                · replace hf := fp_f c_132 hf
                  refine lv_aload_n hx hb dX6_why_79 rfl (lv_at hl 0 rfl) ?_
                  refine lv_iload_n hx hb dX6_why_80 rfl (lv_at hl 1 rfl) ?_
                  refine lv_iload_n hx hb dX6_why_81 rfl (lv_at hl 2 rfl) ?_
                  refine lv_iload_n hx hb dX6_why_82 rfl (lv_at hl 3 rfl) ?_
                  refine lv_iconst (v := 0) hx hb dX6_why_83 (by decide) ?_
                  obtain ⟨r_133, hc_134, hf⟩ := bd_of hf
                  refine fn_V (v := some (.int r_133)) (As := [.int x1, .int x2, .int x3, .int (0 : Int32)]) (rest := []) (st1 := [.int r_133]) (ws' := (wMo X mo al sv sm asd th_122 ho_125 fr txt tl pos od nu su)) (nL := 4) ⟨hx, hb, hml, hown, hts⟩ (c_X6_grantsWith l X mo al sv sm asd th_122 ho_125 fr txt tl pos od nu su x1 x2 x3 (0 : Int32) r_133 hc_134) (cwV 4 hts gX6_why_X6_grantsWith rfl rfl rfl (by decide +kernel) ⟨Nat.le_of_ble_eq_true rfl, Nat.le_of_ble_eq_true rfl⟩) 6 rfl rfl rfl rfl hl.1 rfl (Nat.le_of_ble_eq_true rfl) dX6_why_84 hK hP (hD0.addr rfl) hS hA [0, 1, 2, 3, 4, 5, 6, 7] rfl rfl rfl rfl ⟨Nat.zero_le _, Nat.zero_le _⟩ (fun H locs hP hD hS => ?_)
                  refine lv_if_ne (tgt := 94) hx hb dX6_why_87 (by decide) (fun c_135 => ?_) (fun c_135 => ?_)
                  · replace hf := fp_f c_135 hf
                    refine lv_aload_n hx hb dX6_why_94 rfl (lv_at hl 0 rfl) ?_
                    refine lv_iload_n hx hb dX6_why_95 rfl (lv_at hl 1 rfl) ?_
                    refine lv_iload_n hx hb dX6_why_96 rfl (lv_at hl 2 rfl) ?_
                    refine lv_iload_n hx hb dX6_why_97 rfl (lv_at hl 3 rfl) ?_
                    refine lv_iconst (v := 4) hx hb dX6_why_98 (by decide) ?_
                    obtain ⟨r_136, hc_137, hf⟩ := bd_of hf
                    refine fn_V (v := some (.int r_136)) (As := [.int x1, .int x2, .int x3, .int (4 : Int32)]) (rest := []) (st1 := [.int r_136]) (ws' := (wMo X mo al sv sm asd th_122 ho_125 fr txt tl pos od nu su)) (nL := 4) ⟨hx, hb, hml, hown, hts⟩ (c_X6_grantsWith l X mo al sv sm asd th_122 ho_125 fr txt tl pos od nu su x1 x2 x3 (4 : Int32) r_136 hc_137) (cwV 4 hts gX6_why_X6_grantsWith rfl rfl rfl (by decide +kernel) ⟨Nat.le_of_ble_eq_true rfl, Nat.le_of_ble_eq_true rfl⟩) 6 rfl rfl rfl rfl hl.1 rfl (Nat.le_of_ble_eq_true rfl) dX6_why_99 hK hP (hD0.addr rfl) hS hA [0, 1, 2, 3, 4, 5, 6, 7] rfl rfl rfl rfl ⟨Nat.zero_le _, Nat.zero_le _⟩ (fun H locs hP hD hS => ?_)
                    refine lv_if_ne (tgt := 109) hx hb dX6_why_102 (by decide) (fun c_138 => ?_) (fun c_138 => ?_)
                    · replace hf := fp_f c_138 hf
                      refine lv_iconst (v := 4) hx hb dX6_why_109 (by decide) ?_
                      cases hf
                      exact fn_iret hx hb hr hlocks hP hS dX6_why_110
                    · replace hf := fp_t c_138 hf
                      refine lv_iconst (v := 3) hx hb dX6_why_105 (by decide) ?_
                      refine lv_goto (tgt := 110) hx hb dX6_why_106 (by decide) ?_
                      cases hf
                      exact fn_iret hx hb hr hlocks hP hS dX6_why_110
                  · replace hf := fp_t c_135 hf
                    refine lv_iconst (v := 2) hx hb dX6_why_90 (by decide) ?_
                    refine lv_goto (tgt := 110) hx hb dX6_why_91 (by decide) ?_
                    cases hf
                    exact fn_iret hx hb hr hlocks hP hS dX6_why_110
                · replace hf := fp_t c_132 hf
                  refine lv_iconst (v := 1) hx hb dX6_why_77 (by decide) ?_
                  cases hf
                  exact fn_iret hx hb hr hlocks hP hS dX6_why_78
              · replace hf := fp_f c_129 hf
                refine lv_iconst (v := 0) hx hb dX6_why_65 (by decide) ?_
                cases hf
                exact fn_iret hx hb hr hlocks hP hS dX6_why_66
            · replace hf := fp_t c_124 hf
              refine lv_iconst (v := 0) hx hb dX6_why_48 (by decide) ?_
              cases hf
              exact fn_iret hx hb hr hlocks hP hS dX6_why_49
          · replace hf := fp_t c_120 hf
            refine lv_iconst (v := 1) hx hb dX6_why_36 (by decide) ?_
            refine lv_goto (tgt := 41) hx hb dX6_why_37 (by decide) ?_
            refine lv_iconst (v := 1) hx hb dX6_why_41 (by decide) ?_
            obtain ⟨r_139, th_140, hc_141, hf⟩ := bd2_of hf
            refine fn_V (v := some (.int r_139)) (As := [.int (0 : Int32), .int (1 : Int32), .int (1 : Int32)]) (rest := []) (st1 := [.int r_139]) (ws' := (wMo X mo al sv sm asd th_140 ho fr txt tl pos od nu su)) (nL := 4) ⟨hx, hb, hml, hown, hts⟩ (c_X6_goes l X mo al sv sm asd th ho fr txt tl pos od nu su (0 : Int32) (1 : Int32) (1 : Int32) r_139 th_140 hc_141) (cwV 3 hts gX6_why_X6_goes rfl rfl rfl (by decide +kernel) ⟨Nat.le_of_ble_eq_true rfl, Nat.le_of_ble_eq_true rfl⟩) 6 rfl rfl rfl rfl hl.1 rfl (Nat.le_of_ble_eq_true rfl) dX6_why_42 hK hP (hD0.addr rfl) hS hA [0, 1, 2, 3, 4, 5, 6, 7] rfl rfl rfl rfl ⟨Nat.zero_le _, Nat.zero_le _⟩ (fun H locs hP hD hS => ?_)
            refine lv_if_ne (tgt := 50) hx hb dX6_why_45 (by decide) (fun c_142 => ?_) (fun c_142 => ?_)
            · replace hf := fp_f c_142 hf
              refine lv_aload_n hx hb dX6_why_50 rfl (lv_at hl 0 rfl) ?_
              obtain ⟨ho_143, hc_144, hf⟩ := bd_of hf
              refine fn_V (v := none) (As := []) (rest := []) (st1 := []) (ws' := (wMo X mo al sv sm asd th_140 ho_143 fr txt tl pos od nu su)) (nL := 4) ⟨hx, hb, hml, hown, hts⟩ (c_X6_lay l X mo al sv sm asd th_140 ho fr txt tl pos od nu su ho_143 hc_144) (cwV 0 hts gX6_why_X6_lay rfl rfl rfl (by decide +kernel) ⟨Nat.le_of_ble_eq_true rfl, Nat.le_of_ble_eq_true rfl⟩) 6 rfl rfl rfl rfl hl.1 rfl (Nat.le_of_ble_eq_true rfl) dX6_why_51 hK hP (hD0.addr rfl) hS hA [0, 1, 2, 3, 4, 5, 6, 7] rfl rfl rfl rfl ⟨Nat.zero_le _, Nat.zero_le _⟩ (fun H locs hP hD hS => ?_)
              refine lv_aload_n hx hb dX6_why_54 rfl (lv_at hl 0 rfl) ?_
              refine lv_iload_n hx hb dX6_why_55 rfl (lv_at hl 1 rfl) ?_
              refine lv_iload_n hx hb dX6_why_56 rfl (lv_at hl 2 rfl) ?_
              obtain ⟨r_145, hc_146, hf⟩ := bd_of hf
              refine fn_V (v := some (.int r_145)) (As := [.int x1, .int x2]) (rest := []) (st1 := [.int r_145]) (ws' := (wMo X mo al sv sm asd th_140 ho_143 fr txt tl pos od nu su)) (nL := 4) ⟨hx, hb, hml, hown, hts⟩ (c_X6_holds l X mo al sv sm asd th_140 ho_143 fr txt tl pos od nu su x1 x2 r_145 hc_146) (cwV 2 hts gX6_why_X6_holds rfl rfl rfl (by decide +kernel) ⟨Nat.le_of_ble_eq_true rfl, Nat.le_of_ble_eq_true rfl⟩) 6 rfl rfl rfl rfl hl.1 rfl (Nat.le_of_ble_eq_true rfl) dX6_why_57 hK hP (hD0.addr rfl) hS hA [0, 1, 2, 3, 4, 5, 6, 7] rfl rfl rfl rfl ⟨Nat.zero_le _, Nat.zero_le _⟩ (fun H locs hP hD hS => ?_)
              refine lv_iload_n hx hb dX6_why_60 rfl (lv_at hl 3 rfl) ?_
              refine lv_iand hx hb dX6_why_61 ?_
              refine lv_if_eq (tgt := 67) hx hb dX6_why_62 (by decide) (fun c_147 => ?_) (fun c_147 => ?_)
              · replace hf := fp_t c_147 hf
                refine lv_aload_n hx hb dX6_why_67 rfl (lv_at hl 0 rfl) ?_
                refine lv_iload_n hx hb dX6_why_68 rfl (lv_at hl 2 rfl) ?_
                obtain ⟨r_148, hc_149, hf⟩ := bd_of hf
                refine fn_V (v := some (.int r_148)) (As := [.int x2]) (rest := []) (st1 := [.int r_148]) (ws' := (wMo X mo al sv sm asd th_140 ho_143 fr txt tl pos od nu su)) (nL := 4) ⟨hx, hb, hml, hown, hts⟩ (c_X6_mask l X mo al sv sm asd th_140 ho_143 fr txt tl pos od nu su x2 r_148 hc_149) (cwV 1 hts gX6_why_X6_mask rfl rfl rfl (by decide +kernel) ⟨Nat.le_of_ble_eq_true rfl, Nat.le_of_ble_eq_true rfl⟩) 6 rfl rfl rfl rfl hl.1 rfl (Nat.le_of_ble_eq_true rfl) dX6_why_69 hK hP (hD0.addr rfl) hS hA [0, 1, 2, 3, 4, 5, 6, 7] rfl rfl rfl rfl ⟨Nat.zero_le _, Nat.zero_le _⟩ (fun H locs hP hD hS => ?_)
                refine lv_iload_n hx hb dX6_why_72 rfl (lv_at hl 3 rfl) ?_
                refine lv_iand hx hb dX6_why_73 ?_
                refine lv_if_ne (tgt := 79) hx hb dX6_why_74 (by decide) (fun c_150 => ?_) (fun c_150 => ?_)
                · replace hf := fp_f c_150 hf
                  refine lv_aload_n hx hb dX6_why_79 rfl (lv_at hl 0 rfl) ?_
                  refine lv_iload_n hx hb dX6_why_80 rfl (lv_at hl 1 rfl) ?_
                  refine lv_iload_n hx hb dX6_why_81 rfl (lv_at hl 2 rfl) ?_
                  refine lv_iload_n hx hb dX6_why_82 rfl (lv_at hl 3 rfl) ?_
                  refine lv_iconst (v := 0) hx hb dX6_why_83 (by decide) ?_
                  obtain ⟨r_151, hc_152, hf⟩ := bd_of hf
                  refine fn_V (v := some (.int r_151)) (As := [.int x1, .int x2, .int x3, .int (0 : Int32)]) (rest := []) (st1 := [.int r_151]) (ws' := (wMo X mo al sv sm asd th_140 ho_143 fr txt tl pos od nu su)) (nL := 4) ⟨hx, hb, hml, hown, hts⟩ (c_X6_grantsWith l X mo al sv sm asd th_140 ho_143 fr txt tl pos od nu su x1 x2 x3 (0 : Int32) r_151 hc_152) (cwV 4 hts gX6_why_X6_grantsWith rfl rfl rfl (by decide +kernel) ⟨Nat.le_of_ble_eq_true rfl, Nat.le_of_ble_eq_true rfl⟩) 6 rfl rfl rfl rfl hl.1 rfl (Nat.le_of_ble_eq_true rfl) dX6_why_84 hK hP (hD0.addr rfl) hS hA [0, 1, 2, 3, 4, 5, 6, 7] rfl rfl rfl rfl ⟨Nat.zero_le _, Nat.zero_le _⟩ (fun H locs hP hD hS => ?_)
                  refine lv_if_ne (tgt := 94) hx hb dX6_why_87 (by decide) (fun c_153 => ?_) (fun c_153 => ?_)
                  · replace hf := fp_f c_153 hf
                    refine lv_aload_n hx hb dX6_why_94 rfl (lv_at hl 0 rfl) ?_
                    refine lv_iload_n hx hb dX6_why_95 rfl (lv_at hl 1 rfl) ?_
                    refine lv_iload_n hx hb dX6_why_96 rfl (lv_at hl 2 rfl) ?_
                    refine lv_iload_n hx hb dX6_why_97 rfl (lv_at hl 3 rfl) ?_
                    refine lv_iconst (v := 4) hx hb dX6_why_98 (by decide) ?_
                    obtain ⟨r_154, hc_155, hf⟩ := bd_of hf
                    refine fn_V (v := some (.int r_154)) (As := [.int x1, .int x2, .int x3, .int (4 : Int32)]) (rest := []) (st1 := [.int r_154]) (ws' := (wMo X mo al sv sm asd th_140 ho_143 fr txt tl pos od nu su)) (nL := 4) ⟨hx, hb, hml, hown, hts⟩ (c_X6_grantsWith l X mo al sv sm asd th_140 ho_143 fr txt tl pos od nu su x1 x2 x3 (4 : Int32) r_154 hc_155) (cwV 4 hts gX6_why_X6_grantsWith rfl rfl rfl (by decide +kernel) ⟨Nat.le_of_ble_eq_true rfl, Nat.le_of_ble_eq_true rfl⟩) 6 rfl rfl rfl rfl hl.1 rfl (Nat.le_of_ble_eq_true rfl) dX6_why_99 hK hP (hD0.addr rfl) hS hA [0, 1, 2, 3, 4, 5, 6, 7] rfl rfl rfl rfl ⟨Nat.zero_le _, Nat.zero_le _⟩ (fun H locs hP hD hS => ?_)
                    refine lv_if_ne (tgt := 109) hx hb dX6_why_102 (by decide) (fun c_156 => ?_) (fun c_156 => ?_)
                    · replace hf := fp_f c_156 hf
                      refine lv_iconst (v := 4) hx hb dX6_why_109 (by decide) ?_
                      cases hf
                      exact fn_iret hx hb hr hlocks hP hS dX6_why_110
                    · replace hf := fp_t c_156 hf
                      refine lv_iconst (v := 3) hx hb dX6_why_105 (by decide) ?_
                      refine lv_goto (tgt := 110) hx hb dX6_why_106 (by decide) ?_
                      cases hf
                      exact fn_iret hx hb hr hlocks hP hS dX6_why_110
                  · replace hf := fp_t c_153 hf
                    refine lv_iconst (v := 2) hx hb dX6_why_90 (by decide) ?_
                    refine lv_goto (tgt := 110) hx hb dX6_why_91 (by decide) ?_
                    cases hf
                    exact fn_iret hx hb hr hlocks hP hS dX6_why_110
                · replace hf := fp_t c_150 hf
                  refine lv_iconst (v := 1) hx hb dX6_why_77 (by decide) ?_
                  cases hf
                  exact fn_iret hx hb hr hlocks hP hS dX6_why_78
              · replace hf := fp_f c_147 hf
                refine lv_iconst (v := 0) hx hb dX6_why_65 (by decide) ?_
                cases hf
                exact fn_iret hx hb hr hlocks hP hS dX6_why_66
            · replace hf := fp_t c_142 hf
              refine lv_iconst (v := 0) hx hb dX6_why_48 (by decide) ?_
              cases hf
              exact fn_iret hx hb hr hlocks hP hS dX6_why_49
    · replace hf := fp_f c_81 hf
      refine lv_iconst (v := 1) hx hb dX6_why_16 (by decide) ?_
      refine lv_goto (tgt := 21) hx hb dX6_why_17 (by decide) ?_
      refine lv_iload_n hx hb dX6_why_21 rfl (lv_at hl 3 rfl) ?_
      refine lv_iconst (v := 1) hx hb dX6_why_22 (by decide) ?_
      refine lv_icmp_eq (tgt := 36) hx hb dX6_why_23 (by decide) (fun c_157 => ?_) (fun c_157 => ?_)
      · replace hf := fp_t c_157 hf
        refine lv_iconst (v := 1) hx hb dX6_why_36 (by decide) ?_
        refine lv_goto (tgt := 41) hx hb dX6_why_37 (by decide) ?_
        refine lv_iconst (v := 1) hx hb dX6_why_41 (by decide) ?_
        obtain ⟨r_158, th_159, hc_160, hf⟩ := bd2_of hf
        refine fn_V (v := some (.int r_158)) (As := [.int (1 : Int32), .int (1 : Int32), .int (1 : Int32)]) (rest := []) (st1 := [.int r_158]) (ws' := (wMo X mo al sv sm asd th_159 ho fr txt tl pos od nu su)) (nL := 4) ⟨hx, hb, hml, hown, hts⟩ (c_X6_goes l X mo al sv sm asd th ho fr txt tl pos od nu su (1 : Int32) (1 : Int32) (1 : Int32) r_158 th_159 hc_160) (cwV 3 hts gX6_why_X6_goes rfl rfl rfl (by decide +kernel) ⟨Nat.le_of_ble_eq_true rfl, Nat.le_of_ble_eq_true rfl⟩) 6 rfl rfl rfl rfl hl.1 rfl (Nat.le_of_ble_eq_true rfl) dX6_why_42 hK hP (hD0.addr rfl) hS hA [0, 1, 2, 3, 4, 5, 6, 7] rfl rfl rfl rfl ⟨Nat.zero_le _, Nat.zero_le _⟩ (fun H locs hP hD hS => ?_)
        refine lv_if_ne (tgt := 50) hx hb dX6_why_45 (by decide) (fun c_161 => ?_) (fun c_161 => ?_)
        · replace hf := fp_f c_161 hf
          refine lv_aload_n hx hb dX6_why_50 rfl (lv_at hl 0 rfl) ?_
          obtain ⟨ho_162, hc_163, hf⟩ := bd_of hf
          refine fn_V (v := none) (As := []) (rest := []) (st1 := []) (ws' := (wMo X mo al sv sm asd th_159 ho_162 fr txt tl pos od nu su)) (nL := 4) ⟨hx, hb, hml, hown, hts⟩ (c_X6_lay l X mo al sv sm asd th_159 ho fr txt tl pos od nu su ho_162 hc_163) (cwV 0 hts gX6_why_X6_lay rfl rfl rfl (by decide +kernel) ⟨Nat.le_of_ble_eq_true rfl, Nat.le_of_ble_eq_true rfl⟩) 6 rfl rfl rfl rfl hl.1 rfl (Nat.le_of_ble_eq_true rfl) dX6_why_51 hK hP (hD0.addr rfl) hS hA [0, 1, 2, 3, 4, 5, 6, 7] rfl rfl rfl rfl ⟨Nat.zero_le _, Nat.zero_le _⟩ (fun H locs hP hD hS => ?_)
          refine lv_aload_n hx hb dX6_why_54 rfl (lv_at hl 0 rfl) ?_
          refine lv_iload_n hx hb dX6_why_55 rfl (lv_at hl 1 rfl) ?_
          refine lv_iload_n hx hb dX6_why_56 rfl (lv_at hl 2 rfl) ?_
          obtain ⟨r_164, hc_165, hf⟩ := bd_of hf
          refine fn_V (v := some (.int r_164)) (As := [.int x1, .int x2]) (rest := []) (st1 := [.int r_164]) (ws' := (wMo X mo al sv sm asd th_159 ho_162 fr txt tl pos od nu su)) (nL := 4) ⟨hx, hb, hml, hown, hts⟩ (c_X6_holds l X mo al sv sm asd th_159 ho_162 fr txt tl pos od nu su x1 x2 r_164 hc_165) (cwV 2 hts gX6_why_X6_holds rfl rfl rfl (by decide +kernel) ⟨Nat.le_of_ble_eq_true rfl, Nat.le_of_ble_eq_true rfl⟩) 6 rfl rfl rfl rfl hl.1 rfl (Nat.le_of_ble_eq_true rfl) dX6_why_57 hK hP (hD0.addr rfl) hS hA [0, 1, 2, 3, 4, 5, 6, 7] rfl rfl rfl rfl ⟨Nat.zero_le _, Nat.zero_le _⟩ (fun H locs hP hD hS => ?_)
          refine lv_iload_n hx hb dX6_why_60 rfl (lv_at hl 3 rfl) ?_
          refine lv_iand hx hb dX6_why_61 ?_
          refine lv_if_eq (tgt := 67) hx hb dX6_why_62 (by decide) (fun c_166 => ?_) (fun c_166 => ?_)
          · replace hf := fp_t c_166 hf
            refine lv_aload_n hx hb dX6_why_67 rfl (lv_at hl 0 rfl) ?_
            refine lv_iload_n hx hb dX6_why_68 rfl (lv_at hl 2 rfl) ?_
            obtain ⟨r_167, hc_168, hf⟩ := bd_of hf
            refine fn_V (v := some (.int r_167)) (As := [.int x2]) (rest := []) (st1 := [.int r_167]) (ws' := (wMo X mo al sv sm asd th_159 ho_162 fr txt tl pos od nu su)) (nL := 4) ⟨hx, hb, hml, hown, hts⟩ (c_X6_mask l X mo al sv sm asd th_159 ho_162 fr txt tl pos od nu su x2 r_167 hc_168) (cwV 1 hts gX6_why_X6_mask rfl rfl rfl (by decide +kernel) ⟨Nat.le_of_ble_eq_true rfl, Nat.le_of_ble_eq_true rfl⟩) 6 rfl rfl rfl rfl hl.1 rfl (Nat.le_of_ble_eq_true rfl) dX6_why_69 hK hP (hD0.addr rfl) hS hA [0, 1, 2, 3, 4, 5, 6, 7] rfl rfl rfl rfl ⟨Nat.zero_le _, Nat.zero_le _⟩ (fun H locs hP hD hS => ?_)
            refine lv_iload_n hx hb dX6_why_72 rfl (lv_at hl 3 rfl) ?_
            refine lv_iand hx hb dX6_why_73 ?_
            refine lv_if_ne (tgt := 79) hx hb dX6_why_74 (by decide) (fun c_169 => ?_) (fun c_169 => ?_)
            · replace hf := fp_f c_169 hf
              refine lv_aload_n hx hb dX6_why_79 rfl (lv_at hl 0 rfl) ?_
              refine lv_iload_n hx hb dX6_why_80 rfl (lv_at hl 1 rfl) ?_
              refine lv_iload_n hx hb dX6_why_81 rfl (lv_at hl 2 rfl) ?_
              refine lv_iload_n hx hb dX6_why_82 rfl (lv_at hl 3 rfl) ?_
              refine lv_iconst (v := 0) hx hb dX6_why_83 (by decide) ?_
              obtain ⟨r_170, hc_171, hf⟩ := bd_of hf
              refine fn_V (v := some (.int r_170)) (As := [.int x1, .int x2, .int x3, .int (0 : Int32)]) (rest := []) (st1 := [.int r_170]) (ws' := (wMo X mo al sv sm asd th_159 ho_162 fr txt tl pos od nu su)) (nL := 4) ⟨hx, hb, hml, hown, hts⟩ (c_X6_grantsWith l X mo al sv sm asd th_159 ho_162 fr txt tl pos od nu su x1 x2 x3 (0 : Int32) r_170 hc_171) (cwV 4 hts gX6_why_X6_grantsWith rfl rfl rfl (by decide +kernel) ⟨Nat.le_of_ble_eq_true rfl, Nat.le_of_ble_eq_true rfl⟩) 6 rfl rfl rfl rfl hl.1 rfl (Nat.le_of_ble_eq_true rfl) dX6_why_84 hK hP (hD0.addr rfl) hS hA [0, 1, 2, 3, 4, 5, 6, 7] rfl rfl rfl rfl ⟨Nat.zero_le _, Nat.zero_le _⟩ (fun H locs hP hD hS => ?_)
              refine lv_if_ne (tgt := 94) hx hb dX6_why_87 (by decide) (fun c_172 => ?_) (fun c_172 => ?_)
              · replace hf := fp_f c_172 hf
                refine lv_aload_n hx hb dX6_why_94 rfl (lv_at hl 0 rfl) ?_
                refine lv_iload_n hx hb dX6_why_95 rfl (lv_at hl 1 rfl) ?_
                refine lv_iload_n hx hb dX6_why_96 rfl (lv_at hl 2 rfl) ?_
                refine lv_iload_n hx hb dX6_why_97 rfl (lv_at hl 3 rfl) ?_
                refine lv_iconst (v := 4) hx hb dX6_why_98 (by decide) ?_
                obtain ⟨r_173, hc_174, hf⟩ := bd_of hf
                refine fn_V (v := some (.int r_173)) (As := [.int x1, .int x2, .int x3, .int (4 : Int32)]) (rest := []) (st1 := [.int r_173]) (ws' := (wMo X mo al sv sm asd th_159 ho_162 fr txt tl pos od nu su)) (nL := 4) ⟨hx, hb, hml, hown, hts⟩ (c_X6_grantsWith l X mo al sv sm asd th_159 ho_162 fr txt tl pos od nu su x1 x2 x3 (4 : Int32) r_173 hc_174) (cwV 4 hts gX6_why_X6_grantsWith rfl rfl rfl (by decide +kernel) ⟨Nat.le_of_ble_eq_true rfl, Nat.le_of_ble_eq_true rfl⟩) 6 rfl rfl rfl rfl hl.1 rfl (Nat.le_of_ble_eq_true rfl) dX6_why_99 hK hP (hD0.addr rfl) hS hA [0, 1, 2, 3, 4, 5, 6, 7] rfl rfl rfl rfl ⟨Nat.zero_le _, Nat.zero_le _⟩ (fun H locs hP hD hS => ?_)
                refine lv_if_ne (tgt := 109) hx hb dX6_why_102 (by decide) (fun c_175 => ?_) (fun c_175 => ?_)
                · replace hf := fp_f c_175 hf
                  refine lv_iconst (v := 4) hx hb dX6_why_109 (by decide) ?_
                  cases hf
                  exact fn_iret hx hb hr hlocks hP hS dX6_why_110
                · replace hf := fp_t c_175 hf
                  refine lv_iconst (v := 3) hx hb dX6_why_105 (by decide) ?_
                  refine lv_goto (tgt := 110) hx hb dX6_why_106 (by decide) ?_
                  cases hf
                  exact fn_iret hx hb hr hlocks hP hS dX6_why_110
              · replace hf := fp_t c_172 hf
                refine lv_iconst (v := 2) hx hb dX6_why_90 (by decide) ?_
                refine lv_goto (tgt := 110) hx hb dX6_why_91 (by decide) ?_
                cases hf
                exact fn_iret hx hb hr hlocks hP hS dX6_why_110
            · replace hf := fp_t c_169 hf
              refine lv_iconst (v := 1) hx hb dX6_why_77 (by decide) ?_
              cases hf
              exact fn_iret hx hb hr hlocks hP hS dX6_why_78
          · replace hf := fp_f c_166 hf
            refine lv_iconst (v := 0) hx hb dX6_why_65 (by decide) ?_
            cases hf
            exact fn_iret hx hb hr hlocks hP hS dX6_why_66
        · replace hf := fp_t c_161 hf
          refine lv_iconst (v := 0) hx hb dX6_why_48 (by decide) ?_
          cases hf
          exact fn_iret hx hb hr hlocks hP hS dX6_why_49
      · replace hf := fp_f c_157 hf
        refine lv_iload_n hx hb dX6_why_26 rfl (lv_at hl 3 rfl) ?_
        refine lv_iconst (v := 2) hx hb dX6_why_27 (by decide) ?_
        refine lv_icmp_eq (tgt := 36) hx hb dX6_why_28 (by decide) (fun c_176 => ?_) (fun c_176 => ?_)
        · replace hf := fp_t c_176 hf
          refine lv_iconst (v := 1) hx hb dX6_why_36 (by decide) ?_
          refine lv_goto (tgt := 41) hx hb dX6_why_37 (by decide) ?_
          refine lv_iconst (v := 1) hx hb dX6_why_41 (by decide) ?_
          obtain ⟨r_177, th_178, hc_179, hf⟩ := bd2_of hf
          refine fn_V (v := some (.int r_177)) (As := [.int (1 : Int32), .int (1 : Int32), .int (1 : Int32)]) (rest := []) (st1 := [.int r_177]) (ws' := (wMo X mo al sv sm asd th_178 ho fr txt tl pos od nu su)) (nL := 4) ⟨hx, hb, hml, hown, hts⟩ (c_X6_goes l X mo al sv sm asd th ho fr txt tl pos od nu su (1 : Int32) (1 : Int32) (1 : Int32) r_177 th_178 hc_179) (cwV 3 hts gX6_why_X6_goes rfl rfl rfl (by decide +kernel) ⟨Nat.le_of_ble_eq_true rfl, Nat.le_of_ble_eq_true rfl⟩) 6 rfl rfl rfl rfl hl.1 rfl (Nat.le_of_ble_eq_true rfl) dX6_why_42 hK hP (hD0.addr rfl) hS hA [0, 1, 2, 3, 4, 5, 6, 7] rfl rfl rfl rfl ⟨Nat.zero_le _, Nat.zero_le _⟩ (fun H locs hP hD hS => ?_)
          refine lv_if_ne (tgt := 50) hx hb dX6_why_45 (by decide) (fun c_180 => ?_) (fun c_180 => ?_)
          · replace hf := fp_f c_180 hf
            refine lv_aload_n hx hb dX6_why_50 rfl (lv_at hl 0 rfl) ?_
            obtain ⟨ho_181, hc_182, hf⟩ := bd_of hf
            refine fn_V (v := none) (As := []) (rest := []) (st1 := []) (ws' := (wMo X mo al sv sm asd th_178 ho_181 fr txt tl pos od nu su)) (nL := 4) ⟨hx, hb, hml, hown, hts⟩ (c_X6_lay l X mo al sv sm asd th_178 ho fr txt tl pos od nu su ho_181 hc_182) (cwV 0 hts gX6_why_X6_lay rfl rfl rfl (by decide +kernel) ⟨Nat.le_of_ble_eq_true rfl, Nat.le_of_ble_eq_true rfl⟩) 6 rfl rfl rfl rfl hl.1 rfl (Nat.le_of_ble_eq_true rfl) dX6_why_51 hK hP (hD0.addr rfl) hS hA [0, 1, 2, 3, 4, 5, 6, 7] rfl rfl rfl rfl ⟨Nat.zero_le _, Nat.zero_le _⟩ (fun H locs hP hD hS => ?_)
            refine lv_aload_n hx hb dX6_why_54 rfl (lv_at hl 0 rfl) ?_
            refine lv_iload_n hx hb dX6_why_55 rfl (lv_at hl 1 rfl) ?_
            refine lv_iload_n hx hb dX6_why_56 rfl (lv_at hl 2 rfl) ?_
            obtain ⟨r_183, hc_184, hf⟩ := bd_of hf
            refine fn_V (v := some (.int r_183)) (As := [.int x1, .int x2]) (rest := []) (st1 := [.int r_183]) (ws' := (wMo X mo al sv sm asd th_178 ho_181 fr txt tl pos od nu su)) (nL := 4) ⟨hx, hb, hml, hown, hts⟩ (c_X6_holds l X mo al sv sm asd th_178 ho_181 fr txt tl pos od nu su x1 x2 r_183 hc_184) (cwV 2 hts gX6_why_X6_holds rfl rfl rfl (by decide +kernel) ⟨Nat.le_of_ble_eq_true rfl, Nat.le_of_ble_eq_true rfl⟩) 6 rfl rfl rfl rfl hl.1 rfl (Nat.le_of_ble_eq_true rfl) dX6_why_57 hK hP (hD0.addr rfl) hS hA [0, 1, 2, 3, 4, 5, 6, 7] rfl rfl rfl rfl ⟨Nat.zero_le _, Nat.zero_le _⟩ (fun H locs hP hD hS => ?_)
            refine lv_iload_n hx hb dX6_why_60 rfl (lv_at hl 3 rfl) ?_
            refine lv_iand hx hb dX6_why_61 ?_
            refine lv_if_eq (tgt := 67) hx hb dX6_why_62 (by decide) (fun c_185 => ?_) (fun c_185 => ?_)
            · replace hf := fp_t c_185 hf
              refine lv_aload_n hx hb dX6_why_67 rfl (lv_at hl 0 rfl) ?_
              refine lv_iload_n hx hb dX6_why_68 rfl (lv_at hl 2 rfl) ?_
              obtain ⟨r_186, hc_187, hf⟩ := bd_of hf
              refine fn_V (v := some (.int r_186)) (As := [.int x2]) (rest := []) (st1 := [.int r_186]) (ws' := (wMo X mo al sv sm asd th_178 ho_181 fr txt tl pos od nu su)) (nL := 4) ⟨hx, hb, hml, hown, hts⟩ (c_X6_mask l X mo al sv sm asd th_178 ho_181 fr txt tl pos od nu su x2 r_186 hc_187) (cwV 1 hts gX6_why_X6_mask rfl rfl rfl (by decide +kernel) ⟨Nat.le_of_ble_eq_true rfl, Nat.le_of_ble_eq_true rfl⟩) 6 rfl rfl rfl rfl hl.1 rfl (Nat.le_of_ble_eq_true rfl) dX6_why_69 hK hP (hD0.addr rfl) hS hA [0, 1, 2, 3, 4, 5, 6, 7] rfl rfl rfl rfl ⟨Nat.zero_le _, Nat.zero_le _⟩ (fun H locs hP hD hS => ?_)
              refine lv_iload_n hx hb dX6_why_72 rfl (lv_at hl 3 rfl) ?_
              refine lv_iand hx hb dX6_why_73 ?_
              refine lv_if_ne (tgt := 79) hx hb dX6_why_74 (by decide) (fun c_188 => ?_) (fun c_188 => ?_)
              · replace hf := fp_f c_188 hf
                refine lv_aload_n hx hb dX6_why_79 rfl (lv_at hl 0 rfl) ?_
                refine lv_iload_n hx hb dX6_why_80 rfl (lv_at hl 1 rfl) ?_
                refine lv_iload_n hx hb dX6_why_81 rfl (lv_at hl 2 rfl) ?_
                refine lv_iload_n hx hb dX6_why_82 rfl (lv_at hl 3 rfl) ?_
                refine lv_iconst (v := 0) hx hb dX6_why_83 (by decide) ?_
                obtain ⟨r_189, hc_190, hf⟩ := bd_of hf
                refine fn_V (v := some (.int r_189)) (As := [.int x1, .int x2, .int x3, .int (0 : Int32)]) (rest := []) (st1 := [.int r_189]) (ws' := (wMo X mo al sv sm asd th_178 ho_181 fr txt tl pos od nu su)) (nL := 4) ⟨hx, hb, hml, hown, hts⟩ (c_X6_grantsWith l X mo al sv sm asd th_178 ho_181 fr txt tl pos od nu su x1 x2 x3 (0 : Int32) r_189 hc_190) (cwV 4 hts gX6_why_X6_grantsWith rfl rfl rfl (by decide +kernel) ⟨Nat.le_of_ble_eq_true rfl, Nat.le_of_ble_eq_true rfl⟩) 6 rfl rfl rfl rfl hl.1 rfl (Nat.le_of_ble_eq_true rfl) dX6_why_84 hK hP (hD0.addr rfl) hS hA [0, 1, 2, 3, 4, 5, 6, 7] rfl rfl rfl rfl ⟨Nat.zero_le _, Nat.zero_le _⟩ (fun H locs hP hD hS => ?_)
                refine lv_if_ne (tgt := 94) hx hb dX6_why_87 (by decide) (fun c_191 => ?_) (fun c_191 => ?_)
                · replace hf := fp_f c_191 hf
                  refine lv_aload_n hx hb dX6_why_94 rfl (lv_at hl 0 rfl) ?_
                  refine lv_iload_n hx hb dX6_why_95 rfl (lv_at hl 1 rfl) ?_
                  refine lv_iload_n hx hb dX6_why_96 rfl (lv_at hl 2 rfl) ?_
                  refine lv_iload_n hx hb dX6_why_97 rfl (lv_at hl 3 rfl) ?_
                  refine lv_iconst (v := 4) hx hb dX6_why_98 (by decide) ?_
                  obtain ⟨r_192, hc_193, hf⟩ := bd_of hf
                  refine fn_V (v := some (.int r_192)) (As := [.int x1, .int x2, .int x3, .int (4 : Int32)]) (rest := []) (st1 := [.int r_192]) (ws' := (wMo X mo al sv sm asd th_178 ho_181 fr txt tl pos od nu su)) (nL := 4) ⟨hx, hb, hml, hown, hts⟩ (c_X6_grantsWith l X mo al sv sm asd th_178 ho_181 fr txt tl pos od nu su x1 x2 x3 (4 : Int32) r_192 hc_193) (cwV 4 hts gX6_why_X6_grantsWith rfl rfl rfl (by decide +kernel) ⟨Nat.le_of_ble_eq_true rfl, Nat.le_of_ble_eq_true rfl⟩) 6 rfl rfl rfl rfl hl.1 rfl (Nat.le_of_ble_eq_true rfl) dX6_why_99 hK hP (hD0.addr rfl) hS hA [0, 1, 2, 3, 4, 5, 6, 7] rfl rfl rfl rfl ⟨Nat.zero_le _, Nat.zero_le _⟩ (fun H locs hP hD hS => ?_)
                  refine lv_if_ne (tgt := 109) hx hb dX6_why_102 (by decide) (fun c_194 => ?_) (fun c_194 => ?_)
                  · replace hf := fp_f c_194 hf
                    refine lv_iconst (v := 4) hx hb dX6_why_109 (by decide) ?_
                    cases hf
                    exact fn_iret hx hb hr hlocks hP hS dX6_why_110
                  · replace hf := fp_t c_194 hf
                    refine lv_iconst (v := 3) hx hb dX6_why_105 (by decide) ?_
                    refine lv_goto (tgt := 110) hx hb dX6_why_106 (by decide) ?_
                    cases hf
                    exact fn_iret hx hb hr hlocks hP hS dX6_why_110
                · replace hf := fp_t c_191 hf
                  refine lv_iconst (v := 2) hx hb dX6_why_90 (by decide) ?_
                  refine lv_goto (tgt := 110) hx hb dX6_why_91 (by decide) ?_
                  cases hf
                  exact fn_iret hx hb hr hlocks hP hS dX6_why_110
              · replace hf := fp_t c_188 hf
                refine lv_iconst (v := 1) hx hb dX6_why_77 (by decide) ?_
                cases hf
                exact fn_iret hx hb hr hlocks hP hS dX6_why_78
            · replace hf := fp_f c_185 hf
              refine lv_iconst (v := 0) hx hb dX6_why_65 (by decide) ?_
              cases hf
              exact fn_iret hx hb hr hlocks hP hS dX6_why_66
          · replace hf := fp_t c_180 hf
            refine lv_iconst (v := 0) hx hb dX6_why_48 (by decide) ?_
            cases hf
            exact fn_iret hx hb hr hlocks hP hS dX6_why_49
        · replace hf := fp_f c_176 hf
          refine lv_iload_n hx hb dX6_why_31 rfl (lv_at hl 3 rfl) ?_
          refine lv_iconst (v := 4) hx hb dX6_why_32 (by decide) ?_
          refine lv_icmp_ne (tgt := 40) hx hb dX6_why_33 (by decide) (fun c_195 => ?_) (fun c_195 => ?_)
          · replace hf := fp_f c_195 hf
            refine lv_iconst (v := 0) hx hb dX6_why_40 (by decide) ?_
            refine lv_iconst (v := 1) hx hb dX6_why_41 (by decide) ?_
            obtain ⟨r_196, th_197, hc_198, hf⟩ := bd2_of hf
            refine fn_V (v := some (.int r_196)) (As := [.int (1 : Int32), .int (0 : Int32), .int (1 : Int32)]) (rest := []) (st1 := [.int r_196]) (ws' := (wMo X mo al sv sm asd th_197 ho fr txt tl pos od nu su)) (nL := 4) ⟨hx, hb, hml, hown, hts⟩ (c_X6_goes l X mo al sv sm asd th ho fr txt tl pos od nu su (1 : Int32) (0 : Int32) (1 : Int32) r_196 th_197 hc_198) (cwV 3 hts gX6_why_X6_goes rfl rfl rfl (by decide +kernel) ⟨Nat.le_of_ble_eq_true rfl, Nat.le_of_ble_eq_true rfl⟩) 6 rfl rfl rfl rfl hl.1 rfl (Nat.le_of_ble_eq_true rfl) dX6_why_42 hK hP (hD0.addr rfl) hS hA [0, 1, 2, 3, 4, 5, 6, 7] rfl rfl rfl rfl ⟨Nat.zero_le _, Nat.zero_le _⟩ (fun H locs hP hD hS => ?_)
            refine lv_if_ne (tgt := 50) hx hb dX6_why_45 (by decide) (fun c_199 => ?_) (fun c_199 => ?_)
            · replace hf := fp_f c_199 hf
              refine lv_aload_n hx hb dX6_why_50 rfl (lv_at hl 0 rfl) ?_
              obtain ⟨ho_200, hc_201, hf⟩ := bd_of hf
              refine fn_V (v := none) (As := []) (rest := []) (st1 := []) (ws' := (wMo X mo al sv sm asd th_197 ho_200 fr txt tl pos od nu su)) (nL := 4) ⟨hx, hb, hml, hown, hts⟩ (c_X6_lay l X mo al sv sm asd th_197 ho fr txt tl pos od nu su ho_200 hc_201) (cwV 0 hts gX6_why_X6_lay rfl rfl rfl (by decide +kernel) ⟨Nat.le_of_ble_eq_true rfl, Nat.le_of_ble_eq_true rfl⟩) 6 rfl rfl rfl rfl hl.1 rfl (Nat.le_of_ble_eq_true rfl) dX6_why_51 hK hP (hD0.addr rfl) hS hA [0, 1, 2, 3, 4, 5, 6, 7] rfl rfl rfl rfl ⟨Nat.zero_le _, Nat.zero_le _⟩ (fun H locs hP hD hS => ?_)
              refine lv_aload_n hx hb dX6_why_54 rfl (lv_at hl 0 rfl) ?_
              refine lv_iload_n hx hb dX6_why_55 rfl (lv_at hl 1 rfl) ?_
              refine lv_iload_n hx hb dX6_why_56 rfl (lv_at hl 2 rfl) ?_
              obtain ⟨r_202, hc_203, hf⟩ := bd_of hf
              refine fn_V (v := some (.int r_202)) (As := [.int x1, .int x2]) (rest := []) (st1 := [.int r_202]) (ws' := (wMo X mo al sv sm asd th_197 ho_200 fr txt tl pos od nu su)) (nL := 4) ⟨hx, hb, hml, hown, hts⟩ (c_X6_holds l X mo al sv sm asd th_197 ho_200 fr txt tl pos od nu su x1 x2 r_202 hc_203) (cwV 2 hts gX6_why_X6_holds rfl rfl rfl (by decide +kernel) ⟨Nat.le_of_ble_eq_true rfl, Nat.le_of_ble_eq_true rfl⟩) 6 rfl rfl rfl rfl hl.1 rfl (Nat.le_of_ble_eq_true rfl) dX6_why_57 hK hP (hD0.addr rfl) hS hA [0, 1, 2, 3, 4, 5, 6, 7] rfl rfl rfl rfl ⟨Nat.zero_le _, Nat.zero_le _⟩ (fun H locs hP hD hS => ?_)
              refine lv_iload_n hx hb dX6_why_60 rfl (lv_at hl 3 rfl) ?_
              refine lv_iand hx hb dX6_why_61 ?_
              refine lv_if_eq (tgt := 67) hx hb dX6_why_62 (by decide) (fun c_204 => ?_) (fun c_204 => ?_)
              · replace hf := fp_t c_204 hf
                refine lv_aload_n hx hb dX6_why_67 rfl (lv_at hl 0 rfl) ?_
                refine lv_iload_n hx hb dX6_why_68 rfl (lv_at hl 2 rfl) ?_
                obtain ⟨r_205, hc_206, hf⟩ := bd_of hf
                refine fn_V (v := some (.int r_205)) (As := [.int x2]) (rest := []) (st1 := [.int r_205]) (ws' := (wMo X mo al sv sm asd th_197 ho_200 fr txt tl pos od nu su)) (nL := 4) ⟨hx, hb, hml, hown, hts⟩ (c_X6_mask l X mo al sv sm asd th_197 ho_200 fr txt tl pos od nu su x2 r_205 hc_206) (cwV 1 hts gX6_why_X6_mask rfl rfl rfl (by decide +kernel) ⟨Nat.le_of_ble_eq_true rfl, Nat.le_of_ble_eq_true rfl⟩) 6 rfl rfl rfl rfl hl.1 rfl (Nat.le_of_ble_eq_true rfl) dX6_why_69 hK hP (hD0.addr rfl) hS hA [0, 1, 2, 3, 4, 5, 6, 7] rfl rfl rfl rfl ⟨Nat.zero_le _, Nat.zero_le _⟩ (fun H locs hP hD hS => ?_)
                refine lv_iload_n hx hb dX6_why_72 rfl (lv_at hl 3 rfl) ?_
                refine lv_iand hx hb dX6_why_73 ?_
                refine lv_if_ne (tgt := 79) hx hb dX6_why_74 (by decide) (fun c_207 => ?_) (fun c_207 => ?_)
                · replace hf := fp_f c_207 hf
                  refine lv_aload_n hx hb dX6_why_79 rfl (lv_at hl 0 rfl) ?_
                  refine lv_iload_n hx hb dX6_why_80 rfl (lv_at hl 1 rfl) ?_
                  refine lv_iload_n hx hb dX6_why_81 rfl (lv_at hl 2 rfl) ?_
                  refine lv_iload_n hx hb dX6_why_82 rfl (lv_at hl 3 rfl) ?_
                  refine lv_iconst (v := 0) hx hb dX6_why_83 (by decide) ?_
                  obtain ⟨r_208, hc_209, hf⟩ := bd_of hf
                  refine fn_V (v := some (.int r_208)) (As := [.int x1, .int x2, .int x3, .int (0 : Int32)]) (rest := []) (st1 := [.int r_208]) (ws' := (wMo X mo al sv sm asd th_197 ho_200 fr txt tl pos od nu su)) (nL := 4) ⟨hx, hb, hml, hown, hts⟩ (c_X6_grantsWith l X mo al sv sm asd th_197 ho_200 fr txt tl pos od nu su x1 x2 x3 (0 : Int32) r_208 hc_209) (cwV 4 hts gX6_why_X6_grantsWith rfl rfl rfl (by decide +kernel) ⟨Nat.le_of_ble_eq_true rfl, Nat.le_of_ble_eq_true rfl⟩) 6 rfl rfl rfl rfl hl.1 rfl (Nat.le_of_ble_eq_true rfl) dX6_why_84 hK hP (hD0.addr rfl) hS hA [0, 1, 2, 3, 4, 5, 6, 7] rfl rfl rfl rfl ⟨Nat.zero_le _, Nat.zero_le _⟩ (fun H locs hP hD hS => ?_)
                  refine lv_if_ne (tgt := 94) hx hb dX6_why_87 (by decide) (fun c_210 => ?_) (fun c_210 => ?_)
                  · replace hf := fp_f c_210 hf
                    refine lv_aload_n hx hb dX6_why_94 rfl (lv_at hl 0 rfl) ?_
                    refine lv_iload_n hx hb dX6_why_95 rfl (lv_at hl 1 rfl) ?_
                    refine lv_iload_n hx hb dX6_why_96 rfl (lv_at hl 2 rfl) ?_
                    refine lv_iload_n hx hb dX6_why_97 rfl (lv_at hl 3 rfl) ?_
                    refine lv_iconst (v := 4) hx hb dX6_why_98 (by decide) ?_
                    obtain ⟨r_211, hc_212, hf⟩ := bd_of hf
                    refine fn_V (v := some (.int r_211)) (As := [.int x1, .int x2, .int x3, .int (4 : Int32)]) (rest := []) (st1 := [.int r_211]) (ws' := (wMo X mo al sv sm asd th_197 ho_200 fr txt tl pos od nu su)) (nL := 4) ⟨hx, hb, hml, hown, hts⟩ (c_X6_grantsWith l X mo al sv sm asd th_197 ho_200 fr txt tl pos od nu su x1 x2 x3 (4 : Int32) r_211 hc_212) (cwV 4 hts gX6_why_X6_grantsWith rfl rfl rfl (by decide +kernel) ⟨Nat.le_of_ble_eq_true rfl, Nat.le_of_ble_eq_true rfl⟩) 6 rfl rfl rfl rfl hl.1 rfl (Nat.le_of_ble_eq_true rfl) dX6_why_99 hK hP (hD0.addr rfl) hS hA [0, 1, 2, 3, 4, 5, 6, 7] rfl rfl rfl rfl ⟨Nat.zero_le _, Nat.zero_le _⟩ (fun H locs hP hD hS => ?_)
                    refine lv_if_ne (tgt := 109) hx hb dX6_why_102 (by decide) (fun c_213 => ?_) (fun c_213 => ?_)
                    · replace hf := fp_f c_213 hf
                      refine lv_iconst (v := 4) hx hb dX6_why_109 (by decide) ?_
                      cases hf
                      exact fn_iret hx hb hr hlocks hP hS dX6_why_110
                    · replace hf := fp_t c_213 hf
                      refine lv_iconst (v := 3) hx hb dX6_why_105 (by decide) ?_
                      refine lv_goto (tgt := 110) hx hb dX6_why_106 (by decide) ?_
                      cases hf
                      exact fn_iret hx hb hr hlocks hP hS dX6_why_110
                  · replace hf := fp_t c_210 hf
                    refine lv_iconst (v := 2) hx hb dX6_why_90 (by decide) ?_
                    refine lv_goto (tgt := 110) hx hb dX6_why_91 (by decide) ?_
                    cases hf
                    exact fn_iret hx hb hr hlocks hP hS dX6_why_110
                · replace hf := fp_t c_207 hf
                  refine lv_iconst (v := 1) hx hb dX6_why_77 (by decide) ?_
                  cases hf
                  exact fn_iret hx hb hr hlocks hP hS dX6_why_78
              · replace hf := fp_f c_204 hf
                refine lv_iconst (v := 0) hx hb dX6_why_65 (by decide) ?_
                cases hf
                exact fn_iret hx hb hr hlocks hP hS dX6_why_66
            · replace hf := fp_t c_199 hf
              refine lv_iconst (v := 0) hx hb dX6_why_48 (by decide) ?_
              cases hf
              exact fn_iret hx hb hr hlocks hP hS dX6_why_49
          · replace hf := fp_t c_195 hf
            refine lv_iconst (v := 1) hx hb dX6_why_36 (by decide) ?_
            refine lv_goto (tgt := 41) hx hb dX6_why_37 (by decide) ?_
            refine lv_iconst (v := 1) hx hb dX6_why_41 (by decide) ?_
            obtain ⟨r_214, th_215, hc_216, hf⟩ := bd2_of hf
            refine fn_V (v := some (.int r_214)) (As := [.int (1 : Int32), .int (1 : Int32), .int (1 : Int32)]) (rest := []) (st1 := [.int r_214]) (ws' := (wMo X mo al sv sm asd th_215 ho fr txt tl pos od nu su)) (nL := 4) ⟨hx, hb, hml, hown, hts⟩ (c_X6_goes l X mo al sv sm asd th ho fr txt tl pos od nu su (1 : Int32) (1 : Int32) (1 : Int32) r_214 th_215 hc_216) (cwV 3 hts gX6_why_X6_goes rfl rfl rfl (by decide +kernel) ⟨Nat.le_of_ble_eq_true rfl, Nat.le_of_ble_eq_true rfl⟩) 6 rfl rfl rfl rfl hl.1 rfl (Nat.le_of_ble_eq_true rfl) dX6_why_42 hK hP (hD0.addr rfl) hS hA [0, 1, 2, 3, 4, 5, 6, 7] rfl rfl rfl rfl ⟨Nat.zero_le _, Nat.zero_le _⟩ (fun H locs hP hD hS => ?_)
            refine lv_if_ne (tgt := 50) hx hb dX6_why_45 (by decide) (fun c_217 => ?_) (fun c_217 => ?_)
            · replace hf := fp_f c_217 hf
              refine lv_aload_n hx hb dX6_why_50 rfl (lv_at hl 0 rfl) ?_
              obtain ⟨ho_218, hc_219, hf⟩ := bd_of hf
              refine fn_V (v := none) (As := []) (rest := []) (st1 := []) (ws' := (wMo X mo al sv sm asd th_215 ho_218 fr txt tl pos od nu su)) (nL := 4) ⟨hx, hb, hml, hown, hts⟩ (c_X6_lay l X mo al sv sm asd th_215 ho fr txt tl pos od nu su ho_218 hc_219) (cwV 0 hts gX6_why_X6_lay rfl rfl rfl (by decide +kernel) ⟨Nat.le_of_ble_eq_true rfl, Nat.le_of_ble_eq_true rfl⟩) 6 rfl rfl rfl rfl hl.1 rfl (Nat.le_of_ble_eq_true rfl) dX6_why_51 hK hP (hD0.addr rfl) hS hA [0, 1, 2, 3, 4, 5, 6, 7] rfl rfl rfl rfl ⟨Nat.zero_le _, Nat.zero_le _⟩ (fun H locs hP hD hS => ?_)
              refine lv_aload_n hx hb dX6_why_54 rfl (lv_at hl 0 rfl) ?_
              refine lv_iload_n hx hb dX6_why_55 rfl (lv_at hl 1 rfl) ?_
              refine lv_iload_n hx hb dX6_why_56 rfl (lv_at hl 2 rfl) ?_
              obtain ⟨r_220, hc_221, hf⟩ := bd_of hf
              refine fn_V (v := some (.int r_220)) (As := [.int x1, .int x2]) (rest := []) (st1 := [.int r_220]) (ws' := (wMo X mo al sv sm asd th_215 ho_218 fr txt tl pos od nu su)) (nL := 4) ⟨hx, hb, hml, hown, hts⟩ (c_X6_holds l X mo al sv sm asd th_215 ho_218 fr txt tl pos od nu su x1 x2 r_220 hc_221) (cwV 2 hts gX6_why_X6_holds rfl rfl rfl (by decide +kernel) ⟨Nat.le_of_ble_eq_true rfl, Nat.le_of_ble_eq_true rfl⟩) 6 rfl rfl rfl rfl hl.1 rfl (Nat.le_of_ble_eq_true rfl) dX6_why_57 hK hP (hD0.addr rfl) hS hA [0, 1, 2, 3, 4, 5, 6, 7] rfl rfl rfl rfl ⟨Nat.zero_le _, Nat.zero_le _⟩ (fun H locs hP hD hS => ?_)
              refine lv_iload_n hx hb dX6_why_60 rfl (lv_at hl 3 rfl) ?_
              refine lv_iand hx hb dX6_why_61 ?_
              refine lv_if_eq (tgt := 67) hx hb dX6_why_62 (by decide) (fun c_222 => ?_) (fun c_222 => ?_)
              · replace hf := fp_t c_222 hf
                refine lv_aload_n hx hb dX6_why_67 rfl (lv_at hl 0 rfl) ?_
                refine lv_iload_n hx hb dX6_why_68 rfl (lv_at hl 2 rfl) ?_
                obtain ⟨r_223, hc_224, hf⟩ := bd_of hf
                refine fn_V (v := some (.int r_223)) (As := [.int x2]) (rest := []) (st1 := [.int r_223]) (ws' := (wMo X mo al sv sm asd th_215 ho_218 fr txt tl pos od nu su)) (nL := 4) ⟨hx, hb, hml, hown, hts⟩ (c_X6_mask l X mo al sv sm asd th_215 ho_218 fr txt tl pos od nu su x2 r_223 hc_224) (cwV 1 hts gX6_why_X6_mask rfl rfl rfl (by decide +kernel) ⟨Nat.le_of_ble_eq_true rfl, Nat.le_of_ble_eq_true rfl⟩) 6 rfl rfl rfl rfl hl.1 rfl (Nat.le_of_ble_eq_true rfl) dX6_why_69 hK hP (hD0.addr rfl) hS hA [0, 1, 2, 3, 4, 5, 6, 7] rfl rfl rfl rfl ⟨Nat.zero_le _, Nat.zero_le _⟩ (fun H locs hP hD hS => ?_)
                refine lv_iload_n hx hb dX6_why_72 rfl (lv_at hl 3 rfl) ?_
                refine lv_iand hx hb dX6_why_73 ?_
                refine lv_if_ne (tgt := 79) hx hb dX6_why_74 (by decide) (fun c_225 => ?_) (fun c_225 => ?_)
                · replace hf := fp_f c_225 hf
                  refine lv_aload_n hx hb dX6_why_79 rfl (lv_at hl 0 rfl) ?_
                  refine lv_iload_n hx hb dX6_why_80 rfl (lv_at hl 1 rfl) ?_
                  refine lv_iload_n hx hb dX6_why_81 rfl (lv_at hl 2 rfl) ?_
                  refine lv_iload_n hx hb dX6_why_82 rfl (lv_at hl 3 rfl) ?_
                  refine lv_iconst (v := 0) hx hb dX6_why_83 (by decide) ?_
                  obtain ⟨r_226, hc_227, hf⟩ := bd_of hf
                  refine fn_V (v := some (.int r_226)) (As := [.int x1, .int x2, .int x3, .int (0 : Int32)]) (rest := []) (st1 := [.int r_226]) (ws' := (wMo X mo al sv sm asd th_215 ho_218 fr txt tl pos od nu su)) (nL := 4) ⟨hx, hb, hml, hown, hts⟩ (c_X6_grantsWith l X mo al sv sm asd th_215 ho_218 fr txt tl pos od nu su x1 x2 x3 (0 : Int32) r_226 hc_227) (cwV 4 hts gX6_why_X6_grantsWith rfl rfl rfl (by decide +kernel) ⟨Nat.le_of_ble_eq_true rfl, Nat.le_of_ble_eq_true rfl⟩) 6 rfl rfl rfl rfl hl.1 rfl (Nat.le_of_ble_eq_true rfl) dX6_why_84 hK hP (hD0.addr rfl) hS hA [0, 1, 2, 3, 4, 5, 6, 7] rfl rfl rfl rfl ⟨Nat.zero_le _, Nat.zero_le _⟩ (fun H locs hP hD hS => ?_)
                  refine lv_if_ne (tgt := 94) hx hb dX6_why_87 (by decide) (fun c_228 => ?_) (fun c_228 => ?_)
                  · replace hf := fp_f c_228 hf
                    refine lv_aload_n hx hb dX6_why_94 rfl (lv_at hl 0 rfl) ?_
                    refine lv_iload_n hx hb dX6_why_95 rfl (lv_at hl 1 rfl) ?_
                    refine lv_iload_n hx hb dX6_why_96 rfl (lv_at hl 2 rfl) ?_
                    refine lv_iload_n hx hb dX6_why_97 rfl (lv_at hl 3 rfl) ?_
                    refine lv_iconst (v := 4) hx hb dX6_why_98 (by decide) ?_
                    obtain ⟨r_229, hc_230, hf⟩ := bd_of hf
                    refine fn_V (v := some (.int r_229)) (As := [.int x1, .int x2, .int x3, .int (4 : Int32)]) (rest := []) (st1 := [.int r_229]) (ws' := (wMo X mo al sv sm asd th_215 ho_218 fr txt tl pos od nu su)) (nL := 4) ⟨hx, hb, hml, hown, hts⟩ (c_X6_grantsWith l X mo al sv sm asd th_215 ho_218 fr txt tl pos od nu su x1 x2 x3 (4 : Int32) r_229 hc_230) (cwV 4 hts gX6_why_X6_grantsWith rfl rfl rfl (by decide +kernel) ⟨Nat.le_of_ble_eq_true rfl, Nat.le_of_ble_eq_true rfl⟩) 6 rfl rfl rfl rfl hl.1 rfl (Nat.le_of_ble_eq_true rfl) dX6_why_99 hK hP (hD0.addr rfl) hS hA [0, 1, 2, 3, 4, 5, 6, 7] rfl rfl rfl rfl ⟨Nat.zero_le _, Nat.zero_le _⟩ (fun H locs hP hD hS => ?_)
                    refine lv_if_ne (tgt := 109) hx hb dX6_why_102 (by decide) (fun c_231 => ?_) (fun c_231 => ?_)
                    · replace hf := fp_f c_231 hf
                      refine lv_iconst (v := 4) hx hb dX6_why_109 (by decide) ?_
                      cases hf
                      exact fn_iret hx hb hr hlocks hP hS dX6_why_110
                    · replace hf := fp_t c_231 hf
                      refine lv_iconst (v := 3) hx hb dX6_why_105 (by decide) ?_
                      refine lv_goto (tgt := 110) hx hb dX6_why_106 (by decide) ?_
                      cases hf
                      exact fn_iret hx hb hr hlocks hP hS dX6_why_110
                  · replace hf := fp_t c_228 hf
                    refine lv_iconst (v := 2) hx hb dX6_why_90 (by decide) ?_
                    refine lv_goto (tgt := 110) hx hb dX6_why_91 (by decide) ?_
                    cases hf
                    exact fn_iret hx hb hr hlocks hP hS dX6_why_110
                · replace hf := fp_t c_225 hf
                  refine lv_iconst (v := 1) hx hb dX6_why_77 (by decide) ?_
                  cases hf
                  exact fn_iret hx hb hr hlocks hP hS dX6_why_78
              · replace hf := fp_f c_222 hf
                refine lv_iconst (v := 0) hx hb dX6_why_65 (by decide) ?_
                cases hf
                exact fn_iret hx hb hr hlocks hP hS dX6_why_66
            · replace hf := fp_t c_217 hf
              refine lv_iconst (v := 0) hx hb dX6_why_48 (by decide) ?_
              cases hf
              exact fn_iret hx hb hr hlocks hP hS dX6_why_49
