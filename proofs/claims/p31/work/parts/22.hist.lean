set_option maxHeartbeats 4000000 in
set_option maxRecDepth 100000 in
theorem hk_makeRoom_0 (l : Launch) (X : cx_G) (y : Nat → Nat) (hy : Nat → Nat → Nat) (q0 q1 q2 q3 : HS)  : Fn l yX1_makeRoom wsX1_makeRoom ({ frames := 0, cells := 0, slots := 0, locals := 0 } : Room) X [.ref (y 0)] (wHg X y hy (4 : Int32) (hk_g hy 0) q0 q1 q2 q3) none (wHg X y hy (3 : Int32) (hk_g hy 1) q0 q1 q2 q3) := by
  refine fn_intro (cc := cX1_makeRoom) (maxL := 3) (ret := none) (by decide) rfl rfl (Nat.le_of_ble_eq_true rfl) ?_
  intro p e s m args below meth c A ls hx hb hml hr hts hown hlocks hK hP hD0 hS hA hl
  have hown : s.vm.findClass RX1 = some m.cls := hown
  have hl : lv_has ls 3 [(0, .ref (y 0))] := hl
  have hiX1 : ∀ w ∈ u_ws RX1 TX1 2, w ∈ wsX1_makeRoom := by decide +kernel
  have k11 := hts (.fieldLink RX1 11 "LentRights$History" "states" "[LLentRights$House;") (by decide +kernel)
  have k18 := hts (.fieldLink RX1 18 "LentRights$History" "count" "I") (by decide +kernel)
  refine lv_aload_n hx hb dX1_makeRoom_0 rfl (lv_at hl 0 rfl) ?_
  refine va_get (D := X.1) (ci := 1) (v := .ref (y 1)) (C := RX1) (T := TX1) (N := 2) hx hb hts hiX1 hown hK.1 hP 0 rfl rfl 0 (by decide) k11 (fun _ h9 => h9) rfl dX1_makeRoom_1 ?_
  refine va_alen (v := (4 : Int32)) hx hb hK.1 hP 1 2 rfl rfl rfl dX1_makeRoom_4 ?_
  refine lv_if_ne (tgt := 9) hx hb dX1_makeRoom_5 (by decide) (fun _ => ?_) (fun c9 => absurd c9 (by decide))
  refine lv_aload_n hx hb dX1_makeRoom_9 rfl (lv_at hl 0 rfl) ?_
  refine va_get (D := X.1) (ci := 1) (v := .ref (y 1)) (C := RX1) (T := TX1) (N := 2) hx hb hts hiX1 hown hK.1 hP 0 rfl rfl 0 (by decide) k11 (fun _ h9 => h9) rfl dX1_makeRoom_10 ?_
  refine lv_iconst (v := 0) hx hb dX1_makeRoom_13 (by decide) ?_
  refine hi_ald (b := hy 0 0) hx hb hK.1 hP 1 2 rfl rfl (by unfold vp_in; decide) rfl dX1_makeRoom_14 ?_
  refine lv_astore_n (lv' := [(1, .ref (hy 0 0)), (0, .ref (y 0))]) hx hb dX1_makeRoom_15 rfl hl (by decide) rfl (fun ls hl => ?_)
  refine lv_iconst (v := 1) hx hb dX1_makeRoom_16 (by decide) ?_
  refine lv_istore_n (lv' := [(2, .int (1 : Int32)), (1, .ref (hy 0 0)), (0, .ref (y 0))]) hx hb dX1_makeRoom_17 rfl hl (by decide) rfl (fun ls hl => ?_)
  refine lv_iload_n hx hb dX1_makeRoom_18 rfl (lv_at hl 0 rfl) ?_
  refine lv_aload_n hx hb dX1_makeRoom_19 rfl (lv_at hl 2 rfl) ?_
  refine va_get (D := X.1) (ci := 1) (v := .ref (y 1)) (C := RX1) (T := TX1) (N := 2) hx hb hts hiX1 hown hK.1 hP 0 rfl rfl 0 (by decide) k11 (fun _ h9 => h9) rfl dX1_makeRoom_20 ?_
  refine va_alen (v := (4 : Int32)) hx hb hK.1 hP 1 2 rfl rfl rfl dX1_makeRoom_23 ?_
  refine lv_icmp_ge (tgt := 47) hx hb dX1_makeRoom_24 (by decide) (fun c9 => absurd c9 (by decide)) (fun _ => ?_)
  refine lv_aload_n hx hb dX1_makeRoom_27 rfl (lv_at hl 2 rfl) ?_
  refine va_get (D := X.1) (ci := 1) (v := .ref (y 1)) (C := RX1) (T := TX1) (N := 2) hx hb hts hiX1 hown hK.1 hP 0 rfl rfl 0 (by decide) k11 (fun _ h9 => h9) rfl dX1_makeRoom_28 ?_
  refine lv_iload_n hx hb dX1_makeRoom_31 rfl (lv_at hl 0 rfl) ?_
  refine lv_iconst (v := 1) hx hb dX1_makeRoom_32 (by decide) ?_
  refine lv_isub hx hb dX1_makeRoom_33 ?_
  refine lv_topi (fun v_3 ev_3 => ?_)
  obtain rfl : v_3 = (0 : Int32) := ev_3.trans (by decide)
  refine lv_aload_n hx hb dX1_makeRoom_34 rfl (lv_at hl 2 rfl) ?_
  refine va_get (D := X.1) (ci := 1) (v := .ref (y 1)) (C := RX1) (T := TX1) (N := 2) hx hb hts hiX1 hown hK.1 hP 0 rfl rfl 0 (by decide) k11 (fun _ h9 => h9) rfl dX1_makeRoom_35 ?_
  refine lv_iload_n hx hb dX1_makeRoom_38 rfl (lv_at hl 0 rfl) ?_
  refine hi_ald (b := hy 1 0) hx hb hK.1 hP 1 2 rfl rfl (by unfold vp_in; decide) rfl dX1_makeRoom_39 ?_
  refine va_astq hx hb hK.1 hP (hD0.addr rfl) hS 1 2 13 2 (r := (RX2, TX2, 9)) rfl rfl rfl rfl (by unfold vp_in; decide) dX1_makeRoom_40 (fun H locs hP hD hS => ?_)
  have hP : va_P X.1 vwCl (wHg X y hy (4 : Int32) (va_up (hk_g hy 0) (0 : Int32).toNatClampNeg (some (hy 1 0))) q0 q1 q2 q3) H := hP
  refine lv_iinc (v := (2 : Int32)) (lv' := [(2, .int (2 : Int32)), (1, .ref (hy 0 0)), (0, .ref (y 0))]) hx hb dX1_makeRoom_41 hl (k := 0) rfl (by decide) (by decide) rfl (fun ls hl => ?_)
  refine lv_goto (tgt := 18) hx hb dX1_makeRoom_44 (by decide) ?_
  refine lv_iload_n hx hb dX1_makeRoom_18 rfl (lv_at hl 0 rfl) ?_
  refine lv_aload_n hx hb dX1_makeRoom_19 rfl (lv_at hl 2 rfl) ?_
  refine va_get (D := X.1) (ci := 1) (v := .ref (y 1)) (C := RX1) (T := TX1) (N := 2) hx hb hts hiX1 hown hK.1 hP 0 rfl rfl 0 (by decide) k11 (fun _ h9 => h9) rfl dX1_makeRoom_20 ?_
  refine va_alen (v := (4 : Int32)) hx hb hK.1 hP 1 2 rfl rfl rfl dX1_makeRoom_23 ?_
  refine lv_icmp_ge (tgt := 47) hx hb dX1_makeRoom_24 (by decide) (fun c9 => absurd c9 (by decide)) (fun _ => ?_)
  refine lv_aload_n hx hb dX1_makeRoom_27 rfl (lv_at hl 2 rfl) ?_
  refine va_get (D := X.1) (ci := 1) (v := .ref (y 1)) (C := RX1) (T := TX1) (N := 2) hx hb hts hiX1 hown hK.1 hP 0 rfl rfl 0 (by decide) k11 (fun _ h9 => h9) rfl dX1_makeRoom_28 ?_
  refine lv_iload_n hx hb dX1_makeRoom_31 rfl (lv_at hl 0 rfl) ?_
  refine lv_iconst (v := 1) hx hb dX1_makeRoom_32 (by decide) ?_
  refine lv_isub hx hb dX1_makeRoom_33 ?_
  refine lv_topi (fun v_6 ev_6 => ?_)
  obtain rfl : v_6 = (1 : Int32) := ev_6.trans (by decide)
  refine lv_aload_n hx hb dX1_makeRoom_34 rfl (lv_at hl 2 rfl) ?_
  refine va_get (D := X.1) (ci := 1) (v := .ref (y 1)) (C := RX1) (T := TX1) (N := 2) hx hb hts hiX1 hown hK.1 hP 0 rfl rfl 0 (by decide) k11 (fun _ h9 => h9) rfl dX1_makeRoom_35 ?_
  refine lv_iload_n hx hb dX1_makeRoom_38 rfl (lv_at hl 0 rfl) ?_
  refine hi_ald (b := hy 2 0) hx hb hK.1 hP 1 2 rfl rfl (by unfold vp_in; decide) rfl dX1_makeRoom_39 ?_
  refine va_astq hx hb hK.1 hP (hD0.addr rfl) hS 1 2 24 2 (r := (RX2, TX2, 9)) rfl rfl rfl rfl (by unfold vp_in; decide) dX1_makeRoom_40 (fun H locs hP hD hS => ?_)
  have hP : va_P X.1 vwCl (wHg X y hy (4 : Int32) (va_up (va_up (hk_g hy 0) (0 : Int32).toNatClampNeg (some (hy 1 0))) (1 : Int32).toNatClampNeg (some (hy 2 0))) q0 q1 q2 q3) H := hP
  refine lv_iinc (v := (3 : Int32)) (lv' := [(2, .int (3 : Int32)), (1, .ref (hy 0 0)), (0, .ref (y 0))]) hx hb dX1_makeRoom_41 hl (k := 0) rfl (by decide) (by decide) rfl (fun ls hl => ?_)
  refine lv_goto (tgt := 18) hx hb dX1_makeRoom_44 (by decide) ?_
  refine lv_iload_n hx hb dX1_makeRoom_18 rfl (lv_at hl 0 rfl) ?_
  refine lv_aload_n hx hb dX1_makeRoom_19 rfl (lv_at hl 2 rfl) ?_
  refine va_get (D := X.1) (ci := 1) (v := .ref (y 1)) (C := RX1) (T := TX1) (N := 2) hx hb hts hiX1 hown hK.1 hP 0 rfl rfl 0 (by decide) k11 (fun _ h9 => h9) rfl dX1_makeRoom_20 ?_
  refine va_alen (v := (4 : Int32)) hx hb hK.1 hP 1 2 rfl rfl rfl dX1_makeRoom_23 ?_
  refine lv_icmp_ge (tgt := 47) hx hb dX1_makeRoom_24 (by decide) (fun c9 => absurd c9 (by decide)) (fun _ => ?_)
  refine lv_aload_n hx hb dX1_makeRoom_27 rfl (lv_at hl 2 rfl) ?_
  refine va_get (D := X.1) (ci := 1) (v := .ref (y 1)) (C := RX1) (T := TX1) (N := 2) hx hb hts hiX1 hown hK.1 hP 0 rfl rfl 0 (by decide) k11 (fun _ h9 => h9) rfl dX1_makeRoom_28 ?_
  refine lv_iload_n hx hb dX1_makeRoom_31 rfl (lv_at hl 0 rfl) ?_
  refine lv_iconst (v := 1) hx hb dX1_makeRoom_32 (by decide) ?_
  refine lv_isub hx hb dX1_makeRoom_33 ?_
  refine lv_topi (fun v_9 ev_9 => ?_)
  obtain rfl : v_9 = (2 : Int32) := ev_9.trans (by decide)
  refine lv_aload_n hx hb dX1_makeRoom_34 rfl (lv_at hl 2 rfl) ?_
  refine va_get (D := X.1) (ci := 1) (v := .ref (y 1)) (C := RX1) (T := TX1) (N := 2) hx hb hts hiX1 hown hK.1 hP 0 rfl rfl 0 (by decide) k11 (fun _ h9 => h9) rfl dX1_makeRoom_35 ?_
  refine lv_iload_n hx hb dX1_makeRoom_38 rfl (lv_at hl 0 rfl) ?_
  refine hi_ald (b := hy 3 0) hx hb hK.1 hP 1 2 rfl rfl (by unfold vp_in; decide) rfl dX1_makeRoom_39 ?_
  refine va_astq hx hb hK.1 hP (hD0.addr rfl) hS 1 2 35 2 (r := (RX2, TX2, 9)) rfl rfl rfl rfl (by unfold vp_in; decide) dX1_makeRoom_40 (fun H locs hP hD hS => ?_)
  have hP : va_P X.1 vwCl (wHg X y hy (4 : Int32) (va_up (va_up (va_up (hk_g hy 0) (0 : Int32).toNatClampNeg (some (hy 1 0))) (1 : Int32).toNatClampNeg (some (hy 2 0))) (2 : Int32).toNatClampNeg (some (hy 3 0))) q0 q1 q2 q3) H := hP
  refine lv_iinc (v := (4 : Int32)) (lv' := [(2, .int (4 : Int32)), (1, .ref (hy 0 0)), (0, .ref (y 0))]) hx hb dX1_makeRoom_41 hl (k := 0) rfl (by decide) (by decide) rfl (fun ls hl => ?_)
  refine lv_goto (tgt := 18) hx hb dX1_makeRoom_44 (by decide) ?_
  refine lv_iload_n hx hb dX1_makeRoom_18 rfl (lv_at hl 0 rfl) ?_
  refine lv_aload_n hx hb dX1_makeRoom_19 rfl (lv_at hl 2 rfl) ?_
  refine va_get (D := X.1) (ci := 1) (v := .ref (y 1)) (C := RX1) (T := TX1) (N := 2) hx hb hts hiX1 hown hK.1 hP 0 rfl rfl 0 (by decide) k11 (fun _ h9 => h9) rfl dX1_makeRoom_20 ?_
  refine va_alen (v := (4 : Int32)) hx hb hK.1 hP 1 2 rfl rfl rfl dX1_makeRoom_23 ?_
  refine lv_icmp_ge (tgt := 47) hx hb dX1_makeRoom_24 (by decide) (fun _ => ?_) (fun c9 => absurd c9 (by decide))
  refine lv_aload_n hx hb dX1_makeRoom_47 rfl (lv_at hl 2 rfl) ?_
  refine va_get (D := X.1) (ci := 1) (v := .ref (y 1)) (C := RX1) (T := TX1) (N := 2) hx hb hts hiX1 hown hK.1 hP 0 rfl rfl 0 (by decide) k11 (fun _ h9 => h9) rfl dX1_makeRoom_48 ?_
  refine lv_aload_n hx hb dX1_makeRoom_51 rfl (lv_at hl 2 rfl) ?_
  refine va_get (D := X.1) (ci := 1) (v := .ref (y 1)) (C := RX1) (T := TX1) (N := 2) hx hb hts hiX1 hown hK.1 hP 0 rfl rfl 0 (by decide) k11 (fun _ h9 => h9) rfl dX1_makeRoom_52 ?_
  refine va_alen (v := (4 : Int32)) hx hb hK.1 hP 1 2 rfl rfl rfl dX1_makeRoom_55 ?_
  refine lv_iconst (v := 1) hx hb dX1_makeRoom_56 (by decide) ?_
  refine lv_isub hx hb dX1_makeRoom_57 ?_
  refine lv_topi (fun v_12 ev_12 => ?_)
  obtain rfl : v_12 = (3 : Int32) := ev_12.trans (by decide)
  refine lv_aload_n hx hb dX1_makeRoom_58 rfl (lv_at hl 1 rfl) ?_
  refine va_astq hx hb hK.1 hP (hD0.addr rfl) hS 1 2 2 2 (r := (RX2, TX2, 9)) rfl rfl rfl rfl (by unfold vp_in; decide) dX1_makeRoom_59 (fun H locs hP hD hS => ?_)
  have hP : va_P X.1 vwCl (wHg X y hy (4 : Int32) (va_up (va_up (va_up (va_up (hk_g hy 0) (0 : Int32).toNatClampNeg (some (hy 1 0))) (1 : Int32).toNatClampNeg (some (hy 2 0))) (2 : Int32).toNatClampNeg (some (hy 3 0))) (3 : Int32).toNatClampNeg (some (hy 0 0))) q0 q1 q2 q3) H := hP
  refine lv_aload_n hx hb dX1_makeRoom_60 rfl (lv_at hl 2 rfl) ?_
  refine lv_aload_n hx hb dX1_makeRoom_61 rfl (lv_at hl 2 rfl) ?_
  refine va_get (D := X.1) (ci := 1) (v := .ref (y 1)) (C := RX1) (T := TX1) (N := 2) hx hb hts hiX1 hown hK.1 hP 0 rfl rfl 0 (by decide) k11 (fun _ h9 => h9) rfl dX1_makeRoom_62 ?_
  refine va_alen (v := (4 : Int32)) hx hb hK.1 hP 1 2 rfl rfl rfl dX1_makeRoom_65 ?_
  refine lv_iconst (v := 1) hx hb dX1_makeRoom_66 (by decide) ?_
  refine lv_isub hx hb dX1_makeRoom_67 ?_
  refine lv_topi (fun v_13 ev_13 => ?_)
  obtain rfl : v_13 = (3 : Int32) := ev_13.trans (by decide)
  refine va_put (D := X.1) (ci := 1) (v := .int (3 : Int32)) (ty := .int) (C := RX1) (T := TX1) (N := 2) hx hb hts hiX1 tyX1 tyX1_ok nmX1 hown hK.1 hP (hD0.addr rfl) hS 0 rfl rfl 1 (by decide) k18 (fun _ h9 => h9) rfl (by decide +kernel) rfl rfl (Nat.le_of_ble_eq_true rfl) dX1_makeRoom_68 (fun H locs hP hD hS => ?_)
  have hP : va_P X.1 vwCl (wHg X y hy (3 : Int32) (va_up (va_up (va_up (va_up (hk_g hy 0) (0 : Int32).toNatClampNeg (some (hy 1 0))) (1 : Int32).toNatClampNeg (some (hy 2 0))) (2 : Int32).toNatClampNeg (some (hy 3 0))) (3 : Int32).toNatClampNeg (some (hy 0 0))) q0 q1 q2 q3) H := hP
  have hP := hk_congr0 (g' := hk_g hy 1) hP (hk_4 rfl rfl rfl rfl)
  exact fn_vret hx hb hr hlocks hP hS dX1_makeRoom_71

set_option maxHeartbeats 4000000 in
set_option maxRecDepth 100000 in
theorem hk_makeRoom_1 (l : Launch) (X : cx_G) (y : Nat → Nat) (hy : Nat → Nat → Nat) (q0 q1 q2 q3 : HS)  : Fn l yX1_makeRoom wsX1_makeRoom ({ frames := 0, cells := 0, slots := 0, locals := 0 } : Room) X [.ref (y 0)] (wHg X y hy (4 : Int32) (hk_g hy 1) q0 q1 q2 q3) none (wHg X y hy (3 : Int32) (hk_g hy 2) q0 q1 q2 q3) := by
  refine fn_intro (cc := cX1_makeRoom) (maxL := 3) (ret := none) (by decide) rfl rfl (Nat.le_of_ble_eq_true rfl) ?_
  intro p e s m args below meth c A ls hx hb hml hr hts hown hlocks hK hP hD0 hS hA hl
  have hown : s.vm.findClass RX1 = some m.cls := hown
  have hl : lv_has ls 3 [(0, .ref (y 0))] := hl
  have hiX1 : ∀ w ∈ u_ws RX1 TX1 2, w ∈ wsX1_makeRoom := by decide +kernel
  have k11 := hts (.fieldLink RX1 11 "LentRights$History" "states" "[LLentRights$House;") (by decide +kernel)
  have k18 := hts (.fieldLink RX1 18 "LentRights$History" "count" "I") (by decide +kernel)
  refine lv_aload_n hx hb dX1_makeRoom_0 rfl (lv_at hl 0 rfl) ?_
  refine va_get (D := X.1) (ci := 1) (v := .ref (y 1)) (C := RX1) (T := TX1) (N := 2) hx hb hts hiX1 hown hK.1 hP 0 rfl rfl 0 (by decide) k11 (fun _ h9 => h9) rfl dX1_makeRoom_1 ?_
  refine va_alen (v := (4 : Int32)) hx hb hK.1 hP 1 2 rfl rfl rfl dX1_makeRoom_4 ?_
  refine lv_if_ne (tgt := 9) hx hb dX1_makeRoom_5 (by decide) (fun _ => ?_) (fun c9 => absurd c9 (by decide))
  refine lv_aload_n hx hb dX1_makeRoom_9 rfl (lv_at hl 0 rfl) ?_
  refine va_get (D := X.1) (ci := 1) (v := .ref (y 1)) (C := RX1) (T := TX1) (N := 2) hx hb hts hiX1 hown hK.1 hP 0 rfl rfl 0 (by decide) k11 (fun _ h9 => h9) rfl dX1_makeRoom_10 ?_
  refine lv_iconst (v := 0) hx hb dX1_makeRoom_13 (by decide) ?_
  refine hi_ald (b := hy 1 0) hx hb hK.1 hP 1 2 rfl rfl (by unfold vp_in; decide) rfl dX1_makeRoom_14 ?_
  refine lv_astore_n (lv' := [(1, .ref (hy 1 0)), (0, .ref (y 0))]) hx hb dX1_makeRoom_15 rfl hl (by decide) rfl (fun ls hl => ?_)
  refine lv_iconst (v := 1) hx hb dX1_makeRoom_16 (by decide) ?_
  refine lv_istore_n (lv' := [(2, .int (1 : Int32)), (1, .ref (hy 1 0)), (0, .ref (y 0))]) hx hb dX1_makeRoom_17 rfl hl (by decide) rfl (fun ls hl => ?_)
  refine lv_iload_n hx hb dX1_makeRoom_18 rfl (lv_at hl 0 rfl) ?_
  refine lv_aload_n hx hb dX1_makeRoom_19 rfl (lv_at hl 2 rfl) ?_
  refine va_get (D := X.1) (ci := 1) (v := .ref (y 1)) (C := RX1) (T := TX1) (N := 2) hx hb hts hiX1 hown hK.1 hP 0 rfl rfl 0 (by decide) k11 (fun _ h9 => h9) rfl dX1_makeRoom_20 ?_
  refine va_alen (v := (4 : Int32)) hx hb hK.1 hP 1 2 rfl rfl rfl dX1_makeRoom_23 ?_
  refine lv_icmp_ge (tgt := 47) hx hb dX1_makeRoom_24 (by decide) (fun c9 => absurd c9 (by decide)) (fun _ => ?_)
  refine lv_aload_n hx hb dX1_makeRoom_27 rfl (lv_at hl 2 rfl) ?_
  refine va_get (D := X.1) (ci := 1) (v := .ref (y 1)) (C := RX1) (T := TX1) (N := 2) hx hb hts hiX1 hown hK.1 hP 0 rfl rfl 0 (by decide) k11 (fun _ h9 => h9) rfl dX1_makeRoom_28 ?_
  refine lv_iload_n hx hb dX1_makeRoom_31 rfl (lv_at hl 0 rfl) ?_
  refine lv_iconst (v := 1) hx hb dX1_makeRoom_32 (by decide) ?_
  refine lv_isub hx hb dX1_makeRoom_33 ?_
  refine lv_topi (fun v_3 ev_3 => ?_)
  obtain rfl : v_3 = (0 : Int32) := ev_3.trans (by decide)
  refine lv_aload_n hx hb dX1_makeRoom_34 rfl (lv_at hl 2 rfl) ?_
  refine va_get (D := X.1) (ci := 1) (v := .ref (y 1)) (C := RX1) (T := TX1) (N := 2) hx hb hts hiX1 hown hK.1 hP 0 rfl rfl 0 (by decide) k11 (fun _ h9 => h9) rfl dX1_makeRoom_35 ?_
  refine lv_iload_n hx hb dX1_makeRoom_38 rfl (lv_at hl 0 rfl) ?_
  refine hi_ald (b := hy 2 0) hx hb hK.1 hP 1 2 rfl rfl (by unfold vp_in; decide) rfl dX1_makeRoom_39 ?_
  refine va_astq hx hb hK.1 hP (hD0.addr rfl) hS 1 2 24 2 (r := (RX2, TX2, 9)) rfl rfl rfl rfl (by unfold vp_in; decide) dX1_makeRoom_40 (fun H locs hP hD hS => ?_)
  have hP : va_P X.1 vwCl (wHg X y hy (4 : Int32) (va_up (hk_g hy 1) (0 : Int32).toNatClampNeg (some (hy 2 0))) q0 q1 q2 q3) H := hP
  refine lv_iinc (v := (2 : Int32)) (lv' := [(2, .int (2 : Int32)), (1, .ref (hy 1 0)), (0, .ref (y 0))]) hx hb dX1_makeRoom_41 hl (k := 0) rfl (by decide) (by decide) rfl (fun ls hl => ?_)
  refine lv_goto (tgt := 18) hx hb dX1_makeRoom_44 (by decide) ?_
  refine lv_iload_n hx hb dX1_makeRoom_18 rfl (lv_at hl 0 rfl) ?_
  refine lv_aload_n hx hb dX1_makeRoom_19 rfl (lv_at hl 2 rfl) ?_
  refine va_get (D := X.1) (ci := 1) (v := .ref (y 1)) (C := RX1) (T := TX1) (N := 2) hx hb hts hiX1 hown hK.1 hP 0 rfl rfl 0 (by decide) k11 (fun _ h9 => h9) rfl dX1_makeRoom_20 ?_
  refine va_alen (v := (4 : Int32)) hx hb hK.1 hP 1 2 rfl rfl rfl dX1_makeRoom_23 ?_
  refine lv_icmp_ge (tgt := 47) hx hb dX1_makeRoom_24 (by decide) (fun c9 => absurd c9 (by decide)) (fun _ => ?_)
  refine lv_aload_n hx hb dX1_makeRoom_27 rfl (lv_at hl 2 rfl) ?_
  refine va_get (D := X.1) (ci := 1) (v := .ref (y 1)) (C := RX1) (T := TX1) (N := 2) hx hb hts hiX1 hown hK.1 hP 0 rfl rfl 0 (by decide) k11 (fun _ h9 => h9) rfl dX1_makeRoom_28 ?_
  refine lv_iload_n hx hb dX1_makeRoom_31 rfl (lv_at hl 0 rfl) ?_
  refine lv_iconst (v := 1) hx hb dX1_makeRoom_32 (by decide) ?_
  refine lv_isub hx hb dX1_makeRoom_33 ?_
  refine lv_topi (fun v_6 ev_6 => ?_)
  obtain rfl : v_6 = (1 : Int32) := ev_6.trans (by decide)
  refine lv_aload_n hx hb dX1_makeRoom_34 rfl (lv_at hl 2 rfl) ?_
  refine va_get (D := X.1) (ci := 1) (v := .ref (y 1)) (C := RX1) (T := TX1) (N := 2) hx hb hts hiX1 hown hK.1 hP 0 rfl rfl 0 (by decide) k11 (fun _ h9 => h9) rfl dX1_makeRoom_35 ?_
  refine lv_iload_n hx hb dX1_makeRoom_38 rfl (lv_at hl 0 rfl) ?_
  refine hi_ald (b := hy 3 0) hx hb hK.1 hP 1 2 rfl rfl (by unfold vp_in; decide) rfl dX1_makeRoom_39 ?_
  refine va_astq hx hb hK.1 hP (hD0.addr rfl) hS 1 2 35 2 (r := (RX2, TX2, 9)) rfl rfl rfl rfl (by unfold vp_in; decide) dX1_makeRoom_40 (fun H locs hP hD hS => ?_)
  have hP : va_P X.1 vwCl (wHg X y hy (4 : Int32) (va_up (va_up (hk_g hy 1) (0 : Int32).toNatClampNeg (some (hy 2 0))) (1 : Int32).toNatClampNeg (some (hy 3 0))) q0 q1 q2 q3) H := hP
  refine lv_iinc (v := (3 : Int32)) (lv' := [(2, .int (3 : Int32)), (1, .ref (hy 1 0)), (0, .ref (y 0))]) hx hb dX1_makeRoom_41 hl (k := 0) rfl (by decide) (by decide) rfl (fun ls hl => ?_)
  refine lv_goto (tgt := 18) hx hb dX1_makeRoom_44 (by decide) ?_
  refine lv_iload_n hx hb dX1_makeRoom_18 rfl (lv_at hl 0 rfl) ?_
  refine lv_aload_n hx hb dX1_makeRoom_19 rfl (lv_at hl 2 rfl) ?_
  refine va_get (D := X.1) (ci := 1) (v := .ref (y 1)) (C := RX1) (T := TX1) (N := 2) hx hb hts hiX1 hown hK.1 hP 0 rfl rfl 0 (by decide) k11 (fun _ h9 => h9) rfl dX1_makeRoom_20 ?_
  refine va_alen (v := (4 : Int32)) hx hb hK.1 hP 1 2 rfl rfl rfl dX1_makeRoom_23 ?_
  refine lv_icmp_ge (tgt := 47) hx hb dX1_makeRoom_24 (by decide) (fun c9 => absurd c9 (by decide)) (fun _ => ?_)
  refine lv_aload_n hx hb dX1_makeRoom_27 rfl (lv_at hl 2 rfl) ?_
  refine va_get (D := X.1) (ci := 1) (v := .ref (y 1)) (C := RX1) (T := TX1) (N := 2) hx hb hts hiX1 hown hK.1 hP 0 rfl rfl 0 (by decide) k11 (fun _ h9 => h9) rfl dX1_makeRoom_28 ?_
  refine lv_iload_n hx hb dX1_makeRoom_31 rfl (lv_at hl 0 rfl) ?_
  refine lv_iconst (v := 1) hx hb dX1_makeRoom_32 (by decide) ?_
  refine lv_isub hx hb dX1_makeRoom_33 ?_
  refine lv_topi (fun v_9 ev_9 => ?_)
  obtain rfl : v_9 = (2 : Int32) := ev_9.trans (by decide)
  refine lv_aload_n hx hb dX1_makeRoom_34 rfl (lv_at hl 2 rfl) ?_
  refine va_get (D := X.1) (ci := 1) (v := .ref (y 1)) (C := RX1) (T := TX1) (N := 2) hx hb hts hiX1 hown hK.1 hP 0 rfl rfl 0 (by decide) k11 (fun _ h9 => h9) rfl dX1_makeRoom_35 ?_
  refine lv_iload_n hx hb dX1_makeRoom_38 rfl (lv_at hl 0 rfl) ?_
  refine hi_ald (b := hy 0 0) hx hb hK.1 hP 1 2 rfl rfl (by unfold vp_in; decide) rfl dX1_makeRoom_39 ?_
  refine va_astq hx hb hK.1 hP (hD0.addr rfl) hS 1 2 2 2 (r := (RX2, TX2, 9)) rfl rfl rfl rfl (by unfold vp_in; decide) dX1_makeRoom_40 (fun H locs hP hD hS => ?_)
  have hP : va_P X.1 vwCl (wHg X y hy (4 : Int32) (va_up (va_up (va_up (hk_g hy 1) (0 : Int32).toNatClampNeg (some (hy 2 0))) (1 : Int32).toNatClampNeg (some (hy 3 0))) (2 : Int32).toNatClampNeg (some (hy 0 0))) q0 q1 q2 q3) H := hP
  refine lv_iinc (v := (4 : Int32)) (lv' := [(2, .int (4 : Int32)), (1, .ref (hy 1 0)), (0, .ref (y 0))]) hx hb dX1_makeRoom_41 hl (k := 0) rfl (by decide) (by decide) rfl (fun ls hl => ?_)
  refine lv_goto (tgt := 18) hx hb dX1_makeRoom_44 (by decide) ?_
  refine lv_iload_n hx hb dX1_makeRoom_18 rfl (lv_at hl 0 rfl) ?_
  refine lv_aload_n hx hb dX1_makeRoom_19 rfl (lv_at hl 2 rfl) ?_
  refine va_get (D := X.1) (ci := 1) (v := .ref (y 1)) (C := RX1) (T := TX1) (N := 2) hx hb hts hiX1 hown hK.1 hP 0 rfl rfl 0 (by decide) k11 (fun _ h9 => h9) rfl dX1_makeRoom_20 ?_
  refine va_alen (v := (4 : Int32)) hx hb hK.1 hP 1 2 rfl rfl rfl dX1_makeRoom_23 ?_
  refine lv_icmp_ge (tgt := 47) hx hb dX1_makeRoom_24 (by decide) (fun _ => ?_) (fun c9 => absurd c9 (by decide))
  refine lv_aload_n hx hb dX1_makeRoom_47 rfl (lv_at hl 2 rfl) ?_
  refine va_get (D := X.1) (ci := 1) (v := .ref (y 1)) (C := RX1) (T := TX1) (N := 2) hx hb hts hiX1 hown hK.1 hP 0 rfl rfl 0 (by decide) k11 (fun _ h9 => h9) rfl dX1_makeRoom_48 ?_
  refine lv_aload_n hx hb dX1_makeRoom_51 rfl (lv_at hl 2 rfl) ?_
  refine va_get (D := X.1) (ci := 1) (v := .ref (y 1)) (C := RX1) (T := TX1) (N := 2) hx hb hts hiX1 hown hK.1 hP 0 rfl rfl 0 (by decide) k11 (fun _ h9 => h9) rfl dX1_makeRoom_52 ?_
  refine va_alen (v := (4 : Int32)) hx hb hK.1 hP 1 2 rfl rfl rfl dX1_makeRoom_55 ?_
  refine lv_iconst (v := 1) hx hb dX1_makeRoom_56 (by decide) ?_
  refine lv_isub hx hb dX1_makeRoom_57 ?_
  refine lv_topi (fun v_12 ev_12 => ?_)
  obtain rfl : v_12 = (3 : Int32) := ev_12.trans (by decide)
  refine lv_aload_n hx hb dX1_makeRoom_58 rfl (lv_at hl 1 rfl) ?_
  refine va_astq hx hb hK.1 hP (hD0.addr rfl) hS 1 2 13 2 (r := (RX2, TX2, 9)) rfl rfl rfl rfl (by unfold vp_in; decide) dX1_makeRoom_59 (fun H locs hP hD hS => ?_)
  have hP : va_P X.1 vwCl (wHg X y hy (4 : Int32) (va_up (va_up (va_up (va_up (hk_g hy 1) (0 : Int32).toNatClampNeg (some (hy 2 0))) (1 : Int32).toNatClampNeg (some (hy 3 0))) (2 : Int32).toNatClampNeg (some (hy 0 0))) (3 : Int32).toNatClampNeg (some (hy 1 0))) q0 q1 q2 q3) H := hP
  refine lv_aload_n hx hb dX1_makeRoom_60 rfl (lv_at hl 2 rfl) ?_
  refine lv_aload_n hx hb dX1_makeRoom_61 rfl (lv_at hl 2 rfl) ?_
  refine va_get (D := X.1) (ci := 1) (v := .ref (y 1)) (C := RX1) (T := TX1) (N := 2) hx hb hts hiX1 hown hK.1 hP 0 rfl rfl 0 (by decide) k11 (fun _ h9 => h9) rfl dX1_makeRoom_62 ?_
  refine va_alen (v := (4 : Int32)) hx hb hK.1 hP 1 2 rfl rfl rfl dX1_makeRoom_65 ?_
  refine lv_iconst (v := 1) hx hb dX1_makeRoom_66 (by decide) ?_
  refine lv_isub hx hb dX1_makeRoom_67 ?_
  refine lv_topi (fun v_13 ev_13 => ?_)
  obtain rfl : v_13 = (3 : Int32) := ev_13.trans (by decide)
  refine va_put (D := X.1) (ci := 1) (v := .int (3 : Int32)) (ty := .int) (C := RX1) (T := TX1) (N := 2) hx hb hts hiX1 tyX1 tyX1_ok nmX1 hown hK.1 hP (hD0.addr rfl) hS 0 rfl rfl 1 (by decide) k18 (fun _ h9 => h9) rfl (by decide +kernel) rfl rfl (Nat.le_of_ble_eq_true rfl) dX1_makeRoom_68 (fun H locs hP hD hS => ?_)
  have hP : va_P X.1 vwCl (wHg X y hy (3 : Int32) (va_up (va_up (va_up (va_up (hk_g hy 1) (0 : Int32).toNatClampNeg (some (hy 2 0))) (1 : Int32).toNatClampNeg (some (hy 3 0))) (2 : Int32).toNatClampNeg (some (hy 0 0))) (3 : Int32).toNatClampNeg (some (hy 1 0))) q0 q1 q2 q3) H := hP
  have hP := hk_congr0 (g' := hk_g hy 2) hP (hk_4 rfl rfl rfl rfl)
  exact fn_vret hx hb hr hlocks hP hS dX1_makeRoom_71

set_option maxHeartbeats 4000000 in
set_option maxRecDepth 100000 in
theorem hk_makeRoom_2 (l : Launch) (X : cx_G) (y : Nat → Nat) (hy : Nat → Nat → Nat) (q0 q1 q2 q3 : HS)  : Fn l yX1_makeRoom wsX1_makeRoom ({ frames := 0, cells := 0, slots := 0, locals := 0 } : Room) X [.ref (y 0)] (wHg X y hy (4 : Int32) (hk_g hy 2) q0 q1 q2 q3) none (wHg X y hy (3 : Int32) (hk_g hy 3) q0 q1 q2 q3) := by
  refine fn_intro (cc := cX1_makeRoom) (maxL := 3) (ret := none) (by decide) rfl rfl (Nat.le_of_ble_eq_true rfl) ?_
  intro p e s m args below meth c A ls hx hb hml hr hts hown hlocks hK hP hD0 hS hA hl
  have hown : s.vm.findClass RX1 = some m.cls := hown
  have hl : lv_has ls 3 [(0, .ref (y 0))] := hl
  have hiX1 : ∀ w ∈ u_ws RX1 TX1 2, w ∈ wsX1_makeRoom := by decide +kernel
  have k11 := hts (.fieldLink RX1 11 "LentRights$History" "states" "[LLentRights$House;") (by decide +kernel)
  have k18 := hts (.fieldLink RX1 18 "LentRights$History" "count" "I") (by decide +kernel)
  refine lv_aload_n hx hb dX1_makeRoom_0 rfl (lv_at hl 0 rfl) ?_
  refine va_get (D := X.1) (ci := 1) (v := .ref (y 1)) (C := RX1) (T := TX1) (N := 2) hx hb hts hiX1 hown hK.1 hP 0 rfl rfl 0 (by decide) k11 (fun _ h9 => h9) rfl dX1_makeRoom_1 ?_
  refine va_alen (v := (4 : Int32)) hx hb hK.1 hP 1 2 rfl rfl rfl dX1_makeRoom_4 ?_
  refine lv_if_ne (tgt := 9) hx hb dX1_makeRoom_5 (by decide) (fun _ => ?_) (fun c9 => absurd c9 (by decide))
  refine lv_aload_n hx hb dX1_makeRoom_9 rfl (lv_at hl 0 rfl) ?_
  refine va_get (D := X.1) (ci := 1) (v := .ref (y 1)) (C := RX1) (T := TX1) (N := 2) hx hb hts hiX1 hown hK.1 hP 0 rfl rfl 0 (by decide) k11 (fun _ h9 => h9) rfl dX1_makeRoom_10 ?_
  refine lv_iconst (v := 0) hx hb dX1_makeRoom_13 (by decide) ?_
  refine hi_ald (b := hy 2 0) hx hb hK.1 hP 1 2 rfl rfl (by unfold vp_in; decide) rfl dX1_makeRoom_14 ?_
  refine lv_astore_n (lv' := [(1, .ref (hy 2 0)), (0, .ref (y 0))]) hx hb dX1_makeRoom_15 rfl hl (by decide) rfl (fun ls hl => ?_)
  refine lv_iconst (v := 1) hx hb dX1_makeRoom_16 (by decide) ?_
  refine lv_istore_n (lv' := [(2, .int (1 : Int32)), (1, .ref (hy 2 0)), (0, .ref (y 0))]) hx hb dX1_makeRoom_17 rfl hl (by decide) rfl (fun ls hl => ?_)
  refine lv_iload_n hx hb dX1_makeRoom_18 rfl (lv_at hl 0 rfl) ?_
  refine lv_aload_n hx hb dX1_makeRoom_19 rfl (lv_at hl 2 rfl) ?_
  refine va_get (D := X.1) (ci := 1) (v := .ref (y 1)) (C := RX1) (T := TX1) (N := 2) hx hb hts hiX1 hown hK.1 hP 0 rfl rfl 0 (by decide) k11 (fun _ h9 => h9) rfl dX1_makeRoom_20 ?_
  refine va_alen (v := (4 : Int32)) hx hb hK.1 hP 1 2 rfl rfl rfl dX1_makeRoom_23 ?_
  refine lv_icmp_ge (tgt := 47) hx hb dX1_makeRoom_24 (by decide) (fun c9 => absurd c9 (by decide)) (fun _ => ?_)
  refine lv_aload_n hx hb dX1_makeRoom_27 rfl (lv_at hl 2 rfl) ?_
  refine va_get (D := X.1) (ci := 1) (v := .ref (y 1)) (C := RX1) (T := TX1) (N := 2) hx hb hts hiX1 hown hK.1 hP 0 rfl rfl 0 (by decide) k11 (fun _ h9 => h9) rfl dX1_makeRoom_28 ?_
  refine lv_iload_n hx hb dX1_makeRoom_31 rfl (lv_at hl 0 rfl) ?_
  refine lv_iconst (v := 1) hx hb dX1_makeRoom_32 (by decide) ?_
  refine lv_isub hx hb dX1_makeRoom_33 ?_
  refine lv_topi (fun v_3 ev_3 => ?_)
  obtain rfl : v_3 = (0 : Int32) := ev_3.trans (by decide)
  refine lv_aload_n hx hb dX1_makeRoom_34 rfl (lv_at hl 2 rfl) ?_
  refine va_get (D := X.1) (ci := 1) (v := .ref (y 1)) (C := RX1) (T := TX1) (N := 2) hx hb hts hiX1 hown hK.1 hP 0 rfl rfl 0 (by decide) k11 (fun _ h9 => h9) rfl dX1_makeRoom_35 ?_
  refine lv_iload_n hx hb dX1_makeRoom_38 rfl (lv_at hl 0 rfl) ?_
  refine hi_ald (b := hy 3 0) hx hb hK.1 hP 1 2 rfl rfl (by unfold vp_in; decide) rfl dX1_makeRoom_39 ?_
  refine va_astq hx hb hK.1 hP (hD0.addr rfl) hS 1 2 35 2 (r := (RX2, TX2, 9)) rfl rfl rfl rfl (by unfold vp_in; decide) dX1_makeRoom_40 (fun H locs hP hD hS => ?_)
  have hP : va_P X.1 vwCl (wHg X y hy (4 : Int32) (va_up (hk_g hy 2) (0 : Int32).toNatClampNeg (some (hy 3 0))) q0 q1 q2 q3) H := hP
  refine lv_iinc (v := (2 : Int32)) (lv' := [(2, .int (2 : Int32)), (1, .ref (hy 2 0)), (0, .ref (y 0))]) hx hb dX1_makeRoom_41 hl (k := 0) rfl (by decide) (by decide) rfl (fun ls hl => ?_)
  refine lv_goto (tgt := 18) hx hb dX1_makeRoom_44 (by decide) ?_
  refine lv_iload_n hx hb dX1_makeRoom_18 rfl (lv_at hl 0 rfl) ?_
  refine lv_aload_n hx hb dX1_makeRoom_19 rfl (lv_at hl 2 rfl) ?_
  refine va_get (D := X.1) (ci := 1) (v := .ref (y 1)) (C := RX1) (T := TX1) (N := 2) hx hb hts hiX1 hown hK.1 hP 0 rfl rfl 0 (by decide) k11 (fun _ h9 => h9) rfl dX1_makeRoom_20 ?_
  refine va_alen (v := (4 : Int32)) hx hb hK.1 hP 1 2 rfl rfl rfl dX1_makeRoom_23 ?_
  refine lv_icmp_ge (tgt := 47) hx hb dX1_makeRoom_24 (by decide) (fun c9 => absurd c9 (by decide)) (fun _ => ?_)
  refine lv_aload_n hx hb dX1_makeRoom_27 rfl (lv_at hl 2 rfl) ?_
  refine va_get (D := X.1) (ci := 1) (v := .ref (y 1)) (C := RX1) (T := TX1) (N := 2) hx hb hts hiX1 hown hK.1 hP 0 rfl rfl 0 (by decide) k11 (fun _ h9 => h9) rfl dX1_makeRoom_28 ?_
  refine lv_iload_n hx hb dX1_makeRoom_31 rfl (lv_at hl 0 rfl) ?_
  refine lv_iconst (v := 1) hx hb dX1_makeRoom_32 (by decide) ?_
  refine lv_isub hx hb dX1_makeRoom_33 ?_
  refine lv_topi (fun v_6 ev_6 => ?_)
  obtain rfl : v_6 = (1 : Int32) := ev_6.trans (by decide)
  refine lv_aload_n hx hb dX1_makeRoom_34 rfl (lv_at hl 2 rfl) ?_
  refine va_get (D := X.1) (ci := 1) (v := .ref (y 1)) (C := RX1) (T := TX1) (N := 2) hx hb hts hiX1 hown hK.1 hP 0 rfl rfl 0 (by decide) k11 (fun _ h9 => h9) rfl dX1_makeRoom_35 ?_
  refine lv_iload_n hx hb dX1_makeRoom_38 rfl (lv_at hl 0 rfl) ?_
  refine hi_ald (b := hy 0 0) hx hb hK.1 hP 1 2 rfl rfl (by unfold vp_in; decide) rfl dX1_makeRoom_39 ?_
  refine va_astq hx hb hK.1 hP (hD0.addr rfl) hS 1 2 2 2 (r := (RX2, TX2, 9)) rfl rfl rfl rfl (by unfold vp_in; decide) dX1_makeRoom_40 (fun H locs hP hD hS => ?_)
  have hP : va_P X.1 vwCl (wHg X y hy (4 : Int32) (va_up (va_up (hk_g hy 2) (0 : Int32).toNatClampNeg (some (hy 3 0))) (1 : Int32).toNatClampNeg (some (hy 0 0))) q0 q1 q2 q3) H := hP
  refine lv_iinc (v := (3 : Int32)) (lv' := [(2, .int (3 : Int32)), (1, .ref (hy 2 0)), (0, .ref (y 0))]) hx hb dX1_makeRoom_41 hl (k := 0) rfl (by decide) (by decide) rfl (fun ls hl => ?_)
  refine lv_goto (tgt := 18) hx hb dX1_makeRoom_44 (by decide) ?_
  refine lv_iload_n hx hb dX1_makeRoom_18 rfl (lv_at hl 0 rfl) ?_
  refine lv_aload_n hx hb dX1_makeRoom_19 rfl (lv_at hl 2 rfl) ?_
  refine va_get (D := X.1) (ci := 1) (v := .ref (y 1)) (C := RX1) (T := TX1) (N := 2) hx hb hts hiX1 hown hK.1 hP 0 rfl rfl 0 (by decide) k11 (fun _ h9 => h9) rfl dX1_makeRoom_20 ?_
  refine va_alen (v := (4 : Int32)) hx hb hK.1 hP 1 2 rfl rfl rfl dX1_makeRoom_23 ?_
  refine lv_icmp_ge (tgt := 47) hx hb dX1_makeRoom_24 (by decide) (fun c9 => absurd c9 (by decide)) (fun _ => ?_)
  refine lv_aload_n hx hb dX1_makeRoom_27 rfl (lv_at hl 2 rfl) ?_
  refine va_get (D := X.1) (ci := 1) (v := .ref (y 1)) (C := RX1) (T := TX1) (N := 2) hx hb hts hiX1 hown hK.1 hP 0 rfl rfl 0 (by decide) k11 (fun _ h9 => h9) rfl dX1_makeRoom_28 ?_
  refine lv_iload_n hx hb dX1_makeRoom_31 rfl (lv_at hl 0 rfl) ?_
  refine lv_iconst (v := 1) hx hb dX1_makeRoom_32 (by decide) ?_
  refine lv_isub hx hb dX1_makeRoom_33 ?_
  refine lv_topi (fun v_9 ev_9 => ?_)
  obtain rfl : v_9 = (2 : Int32) := ev_9.trans (by decide)
  refine lv_aload_n hx hb dX1_makeRoom_34 rfl (lv_at hl 2 rfl) ?_
  refine va_get (D := X.1) (ci := 1) (v := .ref (y 1)) (C := RX1) (T := TX1) (N := 2) hx hb hts hiX1 hown hK.1 hP 0 rfl rfl 0 (by decide) k11 (fun _ h9 => h9) rfl dX1_makeRoom_35 ?_
  refine lv_iload_n hx hb dX1_makeRoom_38 rfl (lv_at hl 0 rfl) ?_
  refine hi_ald (b := hy 1 0) hx hb hK.1 hP 1 2 rfl rfl (by unfold vp_in; decide) rfl dX1_makeRoom_39 ?_
  refine va_astq hx hb hK.1 hP (hD0.addr rfl) hS 1 2 13 2 (r := (RX2, TX2, 9)) rfl rfl rfl rfl (by unfold vp_in; decide) dX1_makeRoom_40 (fun H locs hP hD hS => ?_)
  have hP : va_P X.1 vwCl (wHg X y hy (4 : Int32) (va_up (va_up (va_up (hk_g hy 2) (0 : Int32).toNatClampNeg (some (hy 3 0))) (1 : Int32).toNatClampNeg (some (hy 0 0))) (2 : Int32).toNatClampNeg (some (hy 1 0))) q0 q1 q2 q3) H := hP
  refine lv_iinc (v := (4 : Int32)) (lv' := [(2, .int (4 : Int32)), (1, .ref (hy 2 0)), (0, .ref (y 0))]) hx hb dX1_makeRoom_41 hl (k := 0) rfl (by decide) (by decide) rfl (fun ls hl => ?_)
  refine lv_goto (tgt := 18) hx hb dX1_makeRoom_44 (by decide) ?_
  refine lv_iload_n hx hb dX1_makeRoom_18 rfl (lv_at hl 0 rfl) ?_
  refine lv_aload_n hx hb dX1_makeRoom_19 rfl (lv_at hl 2 rfl) ?_
  refine va_get (D := X.1) (ci := 1) (v := .ref (y 1)) (C := RX1) (T := TX1) (N := 2) hx hb hts hiX1 hown hK.1 hP 0 rfl rfl 0 (by decide) k11 (fun _ h9 => h9) rfl dX1_makeRoom_20 ?_
  refine va_alen (v := (4 : Int32)) hx hb hK.1 hP 1 2 rfl rfl rfl dX1_makeRoom_23 ?_
  refine lv_icmp_ge (tgt := 47) hx hb dX1_makeRoom_24 (by decide) (fun _ => ?_) (fun c9 => absurd c9 (by decide))
  refine lv_aload_n hx hb dX1_makeRoom_47 rfl (lv_at hl 2 rfl) ?_
  refine va_get (D := X.1) (ci := 1) (v := .ref (y 1)) (C := RX1) (T := TX1) (N := 2) hx hb hts hiX1 hown hK.1 hP 0 rfl rfl 0 (by decide) k11 (fun _ h9 => h9) rfl dX1_makeRoom_48 ?_
  refine lv_aload_n hx hb dX1_makeRoom_51 rfl (lv_at hl 2 rfl) ?_
  refine va_get (D := X.1) (ci := 1) (v := .ref (y 1)) (C := RX1) (T := TX1) (N := 2) hx hb hts hiX1 hown hK.1 hP 0 rfl rfl 0 (by decide) k11 (fun _ h9 => h9) rfl dX1_makeRoom_52 ?_
  refine va_alen (v := (4 : Int32)) hx hb hK.1 hP 1 2 rfl rfl rfl dX1_makeRoom_55 ?_
  refine lv_iconst (v := 1) hx hb dX1_makeRoom_56 (by decide) ?_
  refine lv_isub hx hb dX1_makeRoom_57 ?_
  refine lv_topi (fun v_12 ev_12 => ?_)
  obtain rfl : v_12 = (3 : Int32) := ev_12.trans (by decide)
  refine lv_aload_n hx hb dX1_makeRoom_58 rfl (lv_at hl 1 rfl) ?_
  refine va_astq hx hb hK.1 hP (hD0.addr rfl) hS 1 2 24 2 (r := (RX2, TX2, 9)) rfl rfl rfl rfl (by unfold vp_in; decide) dX1_makeRoom_59 (fun H locs hP hD hS => ?_)
  have hP : va_P X.1 vwCl (wHg X y hy (4 : Int32) (va_up (va_up (va_up (va_up (hk_g hy 2) (0 : Int32).toNatClampNeg (some (hy 3 0))) (1 : Int32).toNatClampNeg (some (hy 0 0))) (2 : Int32).toNatClampNeg (some (hy 1 0))) (3 : Int32).toNatClampNeg (some (hy 2 0))) q0 q1 q2 q3) H := hP
  refine lv_aload_n hx hb dX1_makeRoom_60 rfl (lv_at hl 2 rfl) ?_
  refine lv_aload_n hx hb dX1_makeRoom_61 rfl (lv_at hl 2 rfl) ?_
  refine va_get (D := X.1) (ci := 1) (v := .ref (y 1)) (C := RX1) (T := TX1) (N := 2) hx hb hts hiX1 hown hK.1 hP 0 rfl rfl 0 (by decide) k11 (fun _ h9 => h9) rfl dX1_makeRoom_62 ?_
  refine va_alen (v := (4 : Int32)) hx hb hK.1 hP 1 2 rfl rfl rfl dX1_makeRoom_65 ?_
  refine lv_iconst (v := 1) hx hb dX1_makeRoom_66 (by decide) ?_
  refine lv_isub hx hb dX1_makeRoom_67 ?_
  refine lv_topi (fun v_13 ev_13 => ?_)
  obtain rfl : v_13 = (3 : Int32) := ev_13.trans (by decide)
  refine va_put (D := X.1) (ci := 1) (v := .int (3 : Int32)) (ty := .int) (C := RX1) (T := TX1) (N := 2) hx hb hts hiX1 tyX1 tyX1_ok nmX1 hown hK.1 hP (hD0.addr rfl) hS 0 rfl rfl 1 (by decide) k18 (fun _ h9 => h9) rfl (by decide +kernel) rfl rfl (Nat.le_of_ble_eq_true rfl) dX1_makeRoom_68 (fun H locs hP hD hS => ?_)
  have hP : va_P X.1 vwCl (wHg X y hy (3 : Int32) (va_up (va_up (va_up (va_up (hk_g hy 2) (0 : Int32).toNatClampNeg (some (hy 3 0))) (1 : Int32).toNatClampNeg (some (hy 0 0))) (2 : Int32).toNatClampNeg (some (hy 1 0))) (3 : Int32).toNatClampNeg (some (hy 2 0))) q0 q1 q2 q3) H := hP
  have hP := hk_congr0 (g' := hk_g hy 3) hP (hk_4 rfl rfl rfl rfl)
  exact fn_vret hx hb hr hlocks hP hS dX1_makeRoom_71

set_option maxHeartbeats 4000000 in
set_option maxRecDepth 100000 in
theorem hk_makeRoom_3 (l : Launch) (X : cx_G) (y : Nat → Nat) (hy : Nat → Nat → Nat) (q0 q1 q2 q3 : HS)  : Fn l yX1_makeRoom wsX1_makeRoom ({ frames := 0, cells := 0, slots := 0, locals := 0 } : Room) X [.ref (y 0)] (wHg X y hy (4 : Int32) (hk_g hy 3) q0 q1 q2 q3) none (wHg X y hy (3 : Int32) (hk_g hy 0) q0 q1 q2 q3) := by
  refine fn_intro (cc := cX1_makeRoom) (maxL := 3) (ret := none) (by decide) rfl rfl (Nat.le_of_ble_eq_true rfl) ?_
  intro p e s m args below meth c A ls hx hb hml hr hts hown hlocks hK hP hD0 hS hA hl
  have hown : s.vm.findClass RX1 = some m.cls := hown
  have hl : lv_has ls 3 [(0, .ref (y 0))] := hl
  have hiX1 : ∀ w ∈ u_ws RX1 TX1 2, w ∈ wsX1_makeRoom := by decide +kernel
  have k11 := hts (.fieldLink RX1 11 "LentRights$History" "states" "[LLentRights$House;") (by decide +kernel)
  have k18 := hts (.fieldLink RX1 18 "LentRights$History" "count" "I") (by decide +kernel)
  refine lv_aload_n hx hb dX1_makeRoom_0 rfl (lv_at hl 0 rfl) ?_
  refine va_get (D := X.1) (ci := 1) (v := .ref (y 1)) (C := RX1) (T := TX1) (N := 2) hx hb hts hiX1 hown hK.1 hP 0 rfl rfl 0 (by decide) k11 (fun _ h9 => h9) rfl dX1_makeRoom_1 ?_
  refine va_alen (v := (4 : Int32)) hx hb hK.1 hP 1 2 rfl rfl rfl dX1_makeRoom_4 ?_
  refine lv_if_ne (tgt := 9) hx hb dX1_makeRoom_5 (by decide) (fun _ => ?_) (fun c9 => absurd c9 (by decide))
  refine lv_aload_n hx hb dX1_makeRoom_9 rfl (lv_at hl 0 rfl) ?_
  refine va_get (D := X.1) (ci := 1) (v := .ref (y 1)) (C := RX1) (T := TX1) (N := 2) hx hb hts hiX1 hown hK.1 hP 0 rfl rfl 0 (by decide) k11 (fun _ h9 => h9) rfl dX1_makeRoom_10 ?_
  refine lv_iconst (v := 0) hx hb dX1_makeRoom_13 (by decide) ?_
  refine hi_ald (b := hy 3 0) hx hb hK.1 hP 1 2 rfl rfl (by unfold vp_in; decide) rfl dX1_makeRoom_14 ?_
  refine lv_astore_n (lv' := [(1, .ref (hy 3 0)), (0, .ref (y 0))]) hx hb dX1_makeRoom_15 rfl hl (by decide) rfl (fun ls hl => ?_)
  refine lv_iconst (v := 1) hx hb dX1_makeRoom_16 (by decide) ?_
  refine lv_istore_n (lv' := [(2, .int (1 : Int32)), (1, .ref (hy 3 0)), (0, .ref (y 0))]) hx hb dX1_makeRoom_17 rfl hl (by decide) rfl (fun ls hl => ?_)
  refine lv_iload_n hx hb dX1_makeRoom_18 rfl (lv_at hl 0 rfl) ?_
  refine lv_aload_n hx hb dX1_makeRoom_19 rfl (lv_at hl 2 rfl) ?_
  refine va_get (D := X.1) (ci := 1) (v := .ref (y 1)) (C := RX1) (T := TX1) (N := 2) hx hb hts hiX1 hown hK.1 hP 0 rfl rfl 0 (by decide) k11 (fun _ h9 => h9) rfl dX1_makeRoom_20 ?_
  refine va_alen (v := (4 : Int32)) hx hb hK.1 hP 1 2 rfl rfl rfl dX1_makeRoom_23 ?_
  refine lv_icmp_ge (tgt := 47) hx hb dX1_makeRoom_24 (by decide) (fun c9 => absurd c9 (by decide)) (fun _ => ?_)
  refine lv_aload_n hx hb dX1_makeRoom_27 rfl (lv_at hl 2 rfl) ?_
  refine va_get (D := X.1) (ci := 1) (v := .ref (y 1)) (C := RX1) (T := TX1) (N := 2) hx hb hts hiX1 hown hK.1 hP 0 rfl rfl 0 (by decide) k11 (fun _ h9 => h9) rfl dX1_makeRoom_28 ?_
  refine lv_iload_n hx hb dX1_makeRoom_31 rfl (lv_at hl 0 rfl) ?_
  refine lv_iconst (v := 1) hx hb dX1_makeRoom_32 (by decide) ?_
  refine lv_isub hx hb dX1_makeRoom_33 ?_
  refine lv_topi (fun v_3 ev_3 => ?_)
  obtain rfl : v_3 = (0 : Int32) := ev_3.trans (by decide)
  refine lv_aload_n hx hb dX1_makeRoom_34 rfl (lv_at hl 2 rfl) ?_
  refine va_get (D := X.1) (ci := 1) (v := .ref (y 1)) (C := RX1) (T := TX1) (N := 2) hx hb hts hiX1 hown hK.1 hP 0 rfl rfl 0 (by decide) k11 (fun _ h9 => h9) rfl dX1_makeRoom_35 ?_
  refine lv_iload_n hx hb dX1_makeRoom_38 rfl (lv_at hl 0 rfl) ?_
  refine hi_ald (b := hy 0 0) hx hb hK.1 hP 1 2 rfl rfl (by unfold vp_in; decide) rfl dX1_makeRoom_39 ?_
  refine va_astq hx hb hK.1 hP (hD0.addr rfl) hS 1 2 2 2 (r := (RX2, TX2, 9)) rfl rfl rfl rfl (by unfold vp_in; decide) dX1_makeRoom_40 (fun H locs hP hD hS => ?_)
  have hP : va_P X.1 vwCl (wHg X y hy (4 : Int32) (va_up (hk_g hy 3) (0 : Int32).toNatClampNeg (some (hy 0 0))) q0 q1 q2 q3) H := hP
  refine lv_iinc (v := (2 : Int32)) (lv' := [(2, .int (2 : Int32)), (1, .ref (hy 3 0)), (0, .ref (y 0))]) hx hb dX1_makeRoom_41 hl (k := 0) rfl (by decide) (by decide) rfl (fun ls hl => ?_)
  refine lv_goto (tgt := 18) hx hb dX1_makeRoom_44 (by decide) ?_
  refine lv_iload_n hx hb dX1_makeRoom_18 rfl (lv_at hl 0 rfl) ?_
  refine lv_aload_n hx hb dX1_makeRoom_19 rfl (lv_at hl 2 rfl) ?_
  refine va_get (D := X.1) (ci := 1) (v := .ref (y 1)) (C := RX1) (T := TX1) (N := 2) hx hb hts hiX1 hown hK.1 hP 0 rfl rfl 0 (by decide) k11 (fun _ h9 => h9) rfl dX1_makeRoom_20 ?_
  refine va_alen (v := (4 : Int32)) hx hb hK.1 hP 1 2 rfl rfl rfl dX1_makeRoom_23 ?_
  refine lv_icmp_ge (tgt := 47) hx hb dX1_makeRoom_24 (by decide) (fun c9 => absurd c9 (by decide)) (fun _ => ?_)
  refine lv_aload_n hx hb dX1_makeRoom_27 rfl (lv_at hl 2 rfl) ?_
  refine va_get (D := X.1) (ci := 1) (v := .ref (y 1)) (C := RX1) (T := TX1) (N := 2) hx hb hts hiX1 hown hK.1 hP 0 rfl rfl 0 (by decide) k11 (fun _ h9 => h9) rfl dX1_makeRoom_28 ?_
  refine lv_iload_n hx hb dX1_makeRoom_31 rfl (lv_at hl 0 rfl) ?_
  refine lv_iconst (v := 1) hx hb dX1_makeRoom_32 (by decide) ?_
  refine lv_isub hx hb dX1_makeRoom_33 ?_
  refine lv_topi (fun v_6 ev_6 => ?_)
  obtain rfl : v_6 = (1 : Int32) := ev_6.trans (by decide)
  refine lv_aload_n hx hb dX1_makeRoom_34 rfl (lv_at hl 2 rfl) ?_
  refine va_get (D := X.1) (ci := 1) (v := .ref (y 1)) (C := RX1) (T := TX1) (N := 2) hx hb hts hiX1 hown hK.1 hP 0 rfl rfl 0 (by decide) k11 (fun _ h9 => h9) rfl dX1_makeRoom_35 ?_
  refine lv_iload_n hx hb dX1_makeRoom_38 rfl (lv_at hl 0 rfl) ?_
  refine hi_ald (b := hy 1 0) hx hb hK.1 hP 1 2 rfl rfl (by unfold vp_in; decide) rfl dX1_makeRoom_39 ?_
  refine va_astq hx hb hK.1 hP (hD0.addr rfl) hS 1 2 13 2 (r := (RX2, TX2, 9)) rfl rfl rfl rfl (by unfold vp_in; decide) dX1_makeRoom_40 (fun H locs hP hD hS => ?_)
  have hP : va_P X.1 vwCl (wHg X y hy (4 : Int32) (va_up (va_up (hk_g hy 3) (0 : Int32).toNatClampNeg (some (hy 0 0))) (1 : Int32).toNatClampNeg (some (hy 1 0))) q0 q1 q2 q3) H := hP
  refine lv_iinc (v := (3 : Int32)) (lv' := [(2, .int (3 : Int32)), (1, .ref (hy 3 0)), (0, .ref (y 0))]) hx hb dX1_makeRoom_41 hl (k := 0) rfl (by decide) (by decide) rfl (fun ls hl => ?_)
  refine lv_goto (tgt := 18) hx hb dX1_makeRoom_44 (by decide) ?_
  refine lv_iload_n hx hb dX1_makeRoom_18 rfl (lv_at hl 0 rfl) ?_
  refine lv_aload_n hx hb dX1_makeRoom_19 rfl (lv_at hl 2 rfl) ?_
  refine va_get (D := X.1) (ci := 1) (v := .ref (y 1)) (C := RX1) (T := TX1) (N := 2) hx hb hts hiX1 hown hK.1 hP 0 rfl rfl 0 (by decide) k11 (fun _ h9 => h9) rfl dX1_makeRoom_20 ?_
  refine va_alen (v := (4 : Int32)) hx hb hK.1 hP 1 2 rfl rfl rfl dX1_makeRoom_23 ?_
  refine lv_icmp_ge (tgt := 47) hx hb dX1_makeRoom_24 (by decide) (fun c9 => absurd c9 (by decide)) (fun _ => ?_)
  refine lv_aload_n hx hb dX1_makeRoom_27 rfl (lv_at hl 2 rfl) ?_
  refine va_get (D := X.1) (ci := 1) (v := .ref (y 1)) (C := RX1) (T := TX1) (N := 2) hx hb hts hiX1 hown hK.1 hP 0 rfl rfl 0 (by decide) k11 (fun _ h9 => h9) rfl dX1_makeRoom_28 ?_
  refine lv_iload_n hx hb dX1_makeRoom_31 rfl (lv_at hl 0 rfl) ?_
  refine lv_iconst (v := 1) hx hb dX1_makeRoom_32 (by decide) ?_
  refine lv_isub hx hb dX1_makeRoom_33 ?_
  refine lv_topi (fun v_9 ev_9 => ?_)
  obtain rfl : v_9 = (2 : Int32) := ev_9.trans (by decide)
  refine lv_aload_n hx hb dX1_makeRoom_34 rfl (lv_at hl 2 rfl) ?_
  refine va_get (D := X.1) (ci := 1) (v := .ref (y 1)) (C := RX1) (T := TX1) (N := 2) hx hb hts hiX1 hown hK.1 hP 0 rfl rfl 0 (by decide) k11 (fun _ h9 => h9) rfl dX1_makeRoom_35 ?_
  refine lv_iload_n hx hb dX1_makeRoom_38 rfl (lv_at hl 0 rfl) ?_
  refine hi_ald (b := hy 2 0) hx hb hK.1 hP 1 2 rfl rfl (by unfold vp_in; decide) rfl dX1_makeRoom_39 ?_
  refine va_astq hx hb hK.1 hP (hD0.addr rfl) hS 1 2 24 2 (r := (RX2, TX2, 9)) rfl rfl rfl rfl (by unfold vp_in; decide) dX1_makeRoom_40 (fun H locs hP hD hS => ?_)
  have hP : va_P X.1 vwCl (wHg X y hy (4 : Int32) (va_up (va_up (va_up (hk_g hy 3) (0 : Int32).toNatClampNeg (some (hy 0 0))) (1 : Int32).toNatClampNeg (some (hy 1 0))) (2 : Int32).toNatClampNeg (some (hy 2 0))) q0 q1 q2 q3) H := hP
  refine lv_iinc (v := (4 : Int32)) (lv' := [(2, .int (4 : Int32)), (1, .ref (hy 3 0)), (0, .ref (y 0))]) hx hb dX1_makeRoom_41 hl (k := 0) rfl (by decide) (by decide) rfl (fun ls hl => ?_)
  refine lv_goto (tgt := 18) hx hb dX1_makeRoom_44 (by decide) ?_
  refine lv_iload_n hx hb dX1_makeRoom_18 rfl (lv_at hl 0 rfl) ?_
  refine lv_aload_n hx hb dX1_makeRoom_19 rfl (lv_at hl 2 rfl) ?_
  refine va_get (D := X.1) (ci := 1) (v := .ref (y 1)) (C := RX1) (T := TX1) (N := 2) hx hb hts hiX1 hown hK.1 hP 0 rfl rfl 0 (by decide) k11 (fun _ h9 => h9) rfl dX1_makeRoom_20 ?_
  refine va_alen (v := (4 : Int32)) hx hb hK.1 hP 1 2 rfl rfl rfl dX1_makeRoom_23 ?_
  refine lv_icmp_ge (tgt := 47) hx hb dX1_makeRoom_24 (by decide) (fun _ => ?_) (fun c9 => absurd c9 (by decide))
  refine lv_aload_n hx hb dX1_makeRoom_47 rfl (lv_at hl 2 rfl) ?_
  refine va_get (D := X.1) (ci := 1) (v := .ref (y 1)) (C := RX1) (T := TX1) (N := 2) hx hb hts hiX1 hown hK.1 hP 0 rfl rfl 0 (by decide) k11 (fun _ h9 => h9) rfl dX1_makeRoom_48 ?_
  refine lv_aload_n hx hb dX1_makeRoom_51 rfl (lv_at hl 2 rfl) ?_
  refine va_get (D := X.1) (ci := 1) (v := .ref (y 1)) (C := RX1) (T := TX1) (N := 2) hx hb hts hiX1 hown hK.1 hP 0 rfl rfl 0 (by decide) k11 (fun _ h9 => h9) rfl dX1_makeRoom_52 ?_
  refine va_alen (v := (4 : Int32)) hx hb hK.1 hP 1 2 rfl rfl rfl dX1_makeRoom_55 ?_
  refine lv_iconst (v := 1) hx hb dX1_makeRoom_56 (by decide) ?_
  refine lv_isub hx hb dX1_makeRoom_57 ?_
  refine lv_topi (fun v_12 ev_12 => ?_)
  obtain rfl : v_12 = (3 : Int32) := ev_12.trans (by decide)
  refine lv_aload_n hx hb dX1_makeRoom_58 rfl (lv_at hl 1 rfl) ?_
  refine va_astq hx hb hK.1 hP (hD0.addr rfl) hS 1 2 35 2 (r := (RX2, TX2, 9)) rfl rfl rfl rfl (by unfold vp_in; decide) dX1_makeRoom_59 (fun H locs hP hD hS => ?_)
  have hP : va_P X.1 vwCl (wHg X y hy (4 : Int32) (va_up (va_up (va_up (va_up (hk_g hy 3) (0 : Int32).toNatClampNeg (some (hy 0 0))) (1 : Int32).toNatClampNeg (some (hy 1 0))) (2 : Int32).toNatClampNeg (some (hy 2 0))) (3 : Int32).toNatClampNeg (some (hy 3 0))) q0 q1 q2 q3) H := hP
  refine lv_aload_n hx hb dX1_makeRoom_60 rfl (lv_at hl 2 rfl) ?_
  refine lv_aload_n hx hb dX1_makeRoom_61 rfl (lv_at hl 2 rfl) ?_
  refine va_get (D := X.1) (ci := 1) (v := .ref (y 1)) (C := RX1) (T := TX1) (N := 2) hx hb hts hiX1 hown hK.1 hP 0 rfl rfl 0 (by decide) k11 (fun _ h9 => h9) rfl dX1_makeRoom_62 ?_
  refine va_alen (v := (4 : Int32)) hx hb hK.1 hP 1 2 rfl rfl rfl dX1_makeRoom_65 ?_
  refine lv_iconst (v := 1) hx hb dX1_makeRoom_66 (by decide) ?_
  refine lv_isub hx hb dX1_makeRoom_67 ?_
  refine lv_topi (fun v_13 ev_13 => ?_)
  obtain rfl : v_13 = (3 : Int32) := ev_13.trans (by decide)
  refine va_put (D := X.1) (ci := 1) (v := .int (3 : Int32)) (ty := .int) (C := RX1) (T := TX1) (N := 2) hx hb hts hiX1 tyX1 tyX1_ok nmX1 hown hK.1 hP (hD0.addr rfl) hS 0 rfl rfl 1 (by decide) k18 (fun _ h9 => h9) rfl (by decide +kernel) rfl rfl (Nat.le_of_ble_eq_true rfl) dX1_makeRoom_68 (fun H locs hP hD hS => ?_)
  have hP : va_P X.1 vwCl (wHg X y hy (3 : Int32) (va_up (va_up (va_up (va_up (hk_g hy 3) (0 : Int32).toNatClampNeg (some (hy 0 0))) (1 : Int32).toNatClampNeg (some (hy 1 0))) (2 : Int32).toNatClampNeg (some (hy 2 0))) (3 : Int32).toNatClampNeg (some (hy 3 0))) q0 q1 q2 q3) H := hP
  have hP := hk_congr0 (g' := hk_g hy 0) hP (hk_4 rfl rfl rfl rfl)
  exact fn_vret hx hb hr hlocks hP hS dX1_makeRoom_71

set_option maxHeartbeats 4000000 in
set_option maxRecDepth 100000 in
theorem hk_keep_0_0 (l : Launch) (X : cx_G) (y : Nat → Nat) (hy : Nat → Nat → Nat) (q0 q1 q2 q3 : HS) (h2 : Nat → Nat) (rP2 : Int32) (fP2 : (Nat → Int32)) (rT2 : Int32) (fT2 : (Nat → Int32)) (rG2 : Int32) (fG2 : (Nat → Int32)) (rL2 : Int32) (fL2 : (Nat → Int32)) (rH2 : Int32) (fH2 : (Nat → Int32)) (gi2 : Int32) (di2 : Int32) (re2 : Int32) (ti2 : Int32) (b0 : Int32) (b1 : (Nat → Int32)) (b2 : Int32) (b3 : (Nat → Int32)) (b4 : Int32) (b5 : (Nat → Int32)) (b6 : Int32) (b7 : (Nat → Int32)) (b8 : Int32) (b9 : (Nat → Int32)) (b10 : Int32) (b11 : Int32) (b12 : Int32) (b13 : Int32) (hf : f_X2_takeOver q0.1 q0.2.1 q0.2.2.1 q0.2.2.2.1 q0.2.2.2.2.1 q0.2.2.2.2.2.1 q0.2.2.2.2.2.2.1 q0.2.2.2.2.2.2.2.1 q0.2.2.2.2.2.2.2.2.1 q0.2.2.2.2.2.2.2.2.2.1 q0.2.2.2.2.2.2.2.2.2.2.1 q0.2.2.2.2.2.2.2.2.2.2.2.1 q0.2.2.2.2.2.2.2.2.2.2.2.2.1 q0.2.2.2.2.2.2.2.2.2.2.2.2.2 rP2 fP2 rT2 fT2 rG2 fG2 rL2 fL2 rH2 fH2 gi2 di2 re2 ti2 = some (b0, b1, b2, b3, b4, b5, b6, b7, b8, b9, b10, b11, b12, b13)) : Fn l yX1_keep wsX1_keep ({ frames := 2, cells := 0, slots := 0, locals := 44 } : Room) X [.ref (y 0), .ref (h2 0)] ((wHg X y hy (0 : Int32) (hk_g hy 0) q0 q1 q2 q3) ++ (wHo X h2 rP2 fP2 rT2 fT2 rG2 fG2 rL2 fL2 rH2 fH2 gi2 di2 re2 ti2)) none ((wHg X y hy (1 : Int32) (hk_g hy 0) (b0, b1, b2, b3, b4, b5, b6, b7, b8, b9, b10, b11, b12, b13) q1 q2 q3) ++ (wHo X h2 rP2 fP2 rT2 fT2 rG2 fG2 rL2 fL2 rH2 fH2 gi2 di2 re2 ti2)) := by
  refine fn_intro (cc := cX1_keep) (maxL := 2) (ret := none) (by decide) rfl (wK_fst.trans wK_fst.symm) (Nat.le_of_ble_eq_true rfl) ?_
  intro p e s m args below meth c A ls hx hb hml hr hts hown hlocks hK hP hD0 hS hA hl
  have hown : s.vm.findClass RX1 = some m.cls := hown
  have hl : lv_has ls 2 [(0, .ref (y 0)), (1, .ref (h2 0))] := hl
  have hiX1 : ∀ w ∈ u_ws RX1 TX1 2, w ∈ wsX1_keep := by decide +kernel
  have k11 := hts (.fieldLink RX1 11 "LentRights$History" "states" "[LLentRights$House;") (by decide +kernel)
  have k18 := hts (.fieldLink RX1 18 "LentRights$History" "count" "I") (by decide +kernel)
  refine lv_aload_n hx hb dX1_keep_0 rfl (lv_at hl 0 rfl) ?_
  refine va_get (D := X.1) (ci := 1) (v := .int (0 : Int32)) (C := RX1) (T := TX1) (N := 2) hx hb hts hiX1 hown hK.1 hP 0 rfl rfl 1 (by decide) k18 (fun _ h9 => h9) rfl dX1_keep_1 ?_
  refine lv_aload_n hx hb dX1_keep_4 rfl (lv_at hl 0 rfl) ?_
  refine va_get (D := X.1) (ci := 1) (v := .ref (y 1)) (C := RX1) (T := TX1) (N := 2) hx hb hts hiX1 hown hK.1 hP 0 rfl rfl 0 (by decide) k11 (fun _ h9 => h9) rfl dX1_keep_5 ?_
  refine va_alen (v := (4 : Int32)) hx hb hK.1 hP 1 2 rfl rfl rfl dX1_keep_8 ?_
  refine lv_icmp_lt (tgt := 16) hx hb dX1_keep_9 (by decide) (fun _ => ?_) (fun c9 => absurd c9 (by decide))
  refine lv_aload_n hx hb dX1_keep_16 rfl (lv_at hl 0 rfl) ?_
  refine va_get (D := X.1) (ci := 1) (v := .int (0 : Int32)) (C := RX1) (T := TX1) (N := 2) hx hb hts hiX1 hown hK.1 hP 0 rfl rfl 1 (by decide) k18 (fun _ h9 => h9) rfl dX1_keep_17 ?_
  refine lv_if_lt (tgt := 70) hx hb dX1_keep_20 (by decide) (fun c9 => absurd c9 (by decide)) (fun _ => ?_)
  refine lv_aload_n hx hb dX1_keep_23 rfl (lv_at hl 0 rfl) ?_
  refine va_get (D := X.1) (ci := 1) (v := .int (0 : Int32)) (C := RX1) (T := TX1) (N := 2) hx hb hts hiX1 hown hK.1 hP 0 rfl rfl 1 (by decide) k18 (fun _ h9 => h9) rfl dX1_keep_24 ?_
  refine lv_aload_n hx hb dX1_keep_27 rfl (lv_at hl 0 rfl) ?_
  refine va_get (D := X.1) (ci := 1) (v := .ref (y 1)) (C := RX1) (T := TX1) (N := 2) hx hb hts hiX1 hown hK.1 hP 0 rfl rfl 0 (by decide) k11 (fun _ h9 => h9) rfl dX1_keep_28 ?_
  refine va_alen (v := (4 : Int32)) hx hb hK.1 hP 1 2 rfl rfl rfl dX1_keep_31 ?_
  refine lv_icmp_ge (tgt := 70) hx hb dX1_keep_32 (by decide) (fun c9 => absurd c9 (by decide)) (fun _ => ?_)
  refine lv_aload_n hx hb dX1_keep_35 rfl (lv_at hl 0 rfl) ?_
  refine va_get (D := X.1) (ci := 1) (v := .ref (y 1)) (C := RX1) (T := TX1) (N := 2) hx hb hts hiX1 hown hK.1 hP 0 rfl rfl 0 (by decide) k11 (fun _ h9 => h9) rfl dX1_keep_36 ?_
  refine lv_aload_n hx hb dX1_keep_39 rfl (lv_at hl 0 rfl) ?_
  refine va_get (D := X.1) (ci := 1) (v := .int (0 : Int32)) (C := RX1) (T := TX1) (N := 2) hx hb hts hiX1 hown hK.1 hP 0 rfl rfl 1 (by decide) k18 (fun _ h9 => h9) rfl dX1_keep_40 ?_
  refine hi_ald (b := hy 0 0) hx hb hK.1 hP 1 2 rfl rfl (by unfold vp_in; decide) rfl dX1_keep_43 ?_
  refine lv_ifnull hx hb dX1_keep_44 ?_
  refine lv_aload_n hx hb dX1_keep_47 rfl (lv_at hl 0 rfl) ?_
  refine va_get (D := X.1) (ci := 1) (v := .ref (y 1)) (C := RX1) (T := TX1) (N := 2) hx hb hts hiX1 hown hK.1 hP 0 rfl rfl 0 (by decide) k11 (fun _ h9 => h9) rfl dX1_keep_48 ?_
  refine lv_aload_n hx hb dX1_keep_51 rfl (lv_at hl 0 rfl) ?_
  refine va_get (D := X.1) (ci := 1) (v := .int (0 : Int32)) (C := RX1) (T := TX1) (N := 2) hx hb hts hiX1 hown hK.1 hP 0 rfl rfl 1 (by decide) k18 (fun _ h9 => h9) rfl dX1_keep_52 ?_
  refine hi_ald (b := hy 0 0) hx hb hK.1 hP 1 2 rfl rfl (by unfold vp_in; decide) rfl dX1_keep_55 ?_
  refine lv_aload_n hx hb dX1_keep_56 rfl (lv_at hl 1 rfl) ?_
  refine fn_VJ (v := none) (As := [.ref (h2 0)]) (rest := []) (st1 := []) (ws' := ((wHg X y hy (0 : Int32) (hk_g hy 0) (b0, b1, b2, b3, b4, b5, b6, b7, b8, b9, b10, b11, b12, b13) q1 q2 q3) ++ (wHo X h2 rP2 fP2 rT2 fT2 rG2 fG2 rL2 fL2 rH2 fH2 gi2 di2 re2 ti2))) (nL := 2) ⟨hx, hb, hml, hown, hts⟩ (c_X2_takeOver l X (hy 0) h2 q0.1 q0.2.1 q0.2.2.1 q0.2.2.2.1 q0.2.2.2.2.1 q0.2.2.2.2.2.1 q0.2.2.2.2.2.2.1 q0.2.2.2.2.2.2.2.1 q0.2.2.2.2.2.2.2.2.1 q0.2.2.2.2.2.2.2.2.2.1 q0.2.2.2.2.2.2.2.2.2.2.1 q0.2.2.2.2.2.2.2.2.2.2.2.1 q0.2.2.2.2.2.2.2.2.2.2.2.2.1 q0.2.2.2.2.2.2.2.2.2.2.2.2.2 rP2 fP2 rT2 fT2 rG2 fG2 rL2 fL2 rH2 fH2 gi2 di2 re2 ti2 b0 b1 b2 b3 b4 b5 b6 b7 b8 b9 b10 b11 b12 b13 hf) (cwV 1 hts gX1_keep_X2_takeOver rfl rfl rfl (by decide +kernel) ⟨Nat.le_of_ble_eq_true rfl, Nat.le_of_ble_eq_true rfl⟩) 2 rfl rfl rfl rfl hl.1 rfl (Nat.le_of_ble_eq_true rfl) dX1_keep_57 hK hP (hD0.addr (wK_fst.trans wK_fst.symm)) hS hA [2, 3, 4, 5, 6, 7, 8, 9, 10, 11, 12, 46, 47, 48, 49, 50, 51, 52, 53, 54, 55, 56] (by decide +kernel) kC_0 (kJ_0 (q' := (b0, b1, b2, b3, b4, b5, b6, b7, b8, b9, b10, b11, b12, b13))) (wK_fst.trans wK_fst.symm) rfl ⟨Nat.zero_le _, Nat.zero_le _⟩ (fun H locs hP hD hS => ?_)
  refine lv_aload_n hx hb dX1_keep_60 rfl (lv_at hl 0 rfl) ?_
  refine lv_dup hx hb dX1_keep_61 rfl ?_
  refine va_get (D := X.1) (ci := 1) (v := .int (0 : Int32)) (C := RX1) (T := TX1) (N := 2) hx hb hts hiX1 hown hK.1 hP 0 rfl rfl 1 (by decide) k18 (fun _ h9 => h9) rfl dX1_keep_62 ?_
  refine lv_iconst (v := 1) hx hb dX1_keep_65 (by decide) ?_
  refine lv_iadd hx hb dX1_keep_66 ?_
  refine lv_topi (fun v_19 ev_19 => ?_)
  obtain rfl : v_19 = (1 : Int32) := ev_19.trans (by decide)
  refine va_put (D := X.1) (ci := 1) (v := .int (1 : Int32)) (ty := .int) (C := RX1) (T := TX1) (N := 2) hx hb hts hiX1 tyX1 tyX1_ok nmX1 hown hK.1 hP (hD0.addr (wK_fst.trans wK_fst.symm)) hS 0 rfl rfl 1 (by decide) k18 (fun _ h9 => h9) rfl (by decide +kernel) rfl rfl (Nat.le_of_ble_eq_true rfl) dX1_keep_67 (fun H locs hP hD hS => ?_)
  have hP : va_P X.1 vwCl ((wHg X y hy (1 : Int32) (hk_g hy 0) (b0, b1, b2, b3, b4, b5, b6, b7, b8, b9, b10, b11, b12, b13) q1 q2 q3) ++ (wHo X h2 rP2 fP2 rT2 fT2 rG2 fG2 rL2 fL2 rH2 fH2 gi2 di2 re2 ti2)) H := hP
  exact fn_vret hx hb hr hlocks hP hS dX1_keep_70

set_option maxHeartbeats 4000000 in
set_option maxRecDepth 100000 in
theorem hk_keep_1_0 (l : Launch) (X : cx_G) (y : Nat → Nat) (hy : Nat → Nat → Nat) (q0 q1 q2 q3 : HS) (h2 : Nat → Nat) (rP2 : Int32) (fP2 : (Nat → Int32)) (rT2 : Int32) (fT2 : (Nat → Int32)) (rG2 : Int32) (fG2 : (Nat → Int32)) (rL2 : Int32) (fL2 : (Nat → Int32)) (rH2 : Int32) (fH2 : (Nat → Int32)) (gi2 : Int32) (di2 : Int32) (re2 : Int32) (ti2 : Int32) (b0 : Int32) (b1 : (Nat → Int32)) (b2 : Int32) (b3 : (Nat → Int32)) (b4 : Int32) (b5 : (Nat → Int32)) (b6 : Int32) (b7 : (Nat → Int32)) (b8 : Int32) (b9 : (Nat → Int32)) (b10 : Int32) (b11 : Int32) (b12 : Int32) (b13 : Int32) (hf : f_X2_takeOver q1.1 q1.2.1 q1.2.2.1 q1.2.2.2.1 q1.2.2.2.2.1 q1.2.2.2.2.2.1 q1.2.2.2.2.2.2.1 q1.2.2.2.2.2.2.2.1 q1.2.2.2.2.2.2.2.2.1 q1.2.2.2.2.2.2.2.2.2.1 q1.2.2.2.2.2.2.2.2.2.2.1 q1.2.2.2.2.2.2.2.2.2.2.2.1 q1.2.2.2.2.2.2.2.2.2.2.2.2.1 q1.2.2.2.2.2.2.2.2.2.2.2.2.2 rP2 fP2 rT2 fT2 rG2 fG2 rL2 fL2 rH2 fH2 gi2 di2 re2 ti2 = some (b0, b1, b2, b3, b4, b5, b6, b7, b8, b9, b10, b11, b12, b13)) : Fn l yX1_keep wsX1_keep ({ frames := 2, cells := 0, slots := 0, locals := 44 } : Room) X [.ref (y 0), .ref (h2 0)] ((wHg X y hy (1 : Int32) (hk_g hy 0) q0 q1 q2 q3) ++ (wHo X h2 rP2 fP2 rT2 fT2 rG2 fG2 rL2 fL2 rH2 fH2 gi2 di2 re2 ti2)) none ((wHg X y hy (2 : Int32) (hk_g hy 0) q0 (b0, b1, b2, b3, b4, b5, b6, b7, b8, b9, b10, b11, b12, b13) q2 q3) ++ (wHo X h2 rP2 fP2 rT2 fT2 rG2 fG2 rL2 fL2 rH2 fH2 gi2 di2 re2 ti2)) := by
  refine fn_intro (cc := cX1_keep) (maxL := 2) (ret := none) (by decide) rfl (wK_fst.trans wK_fst.symm) (Nat.le_of_ble_eq_true rfl) ?_
  intro p e s m args below meth c A ls hx hb hml hr hts hown hlocks hK hP hD0 hS hA hl
  have hown : s.vm.findClass RX1 = some m.cls := hown
  have hl : lv_has ls 2 [(0, .ref (y 0)), (1, .ref (h2 0))] := hl
  have hiX1 : ∀ w ∈ u_ws RX1 TX1 2, w ∈ wsX1_keep := by decide +kernel
  have k11 := hts (.fieldLink RX1 11 "LentRights$History" "states" "[LLentRights$House;") (by decide +kernel)
  have k18 := hts (.fieldLink RX1 18 "LentRights$History" "count" "I") (by decide +kernel)
  refine lv_aload_n hx hb dX1_keep_0 rfl (lv_at hl 0 rfl) ?_
  refine va_get (D := X.1) (ci := 1) (v := .int (1 : Int32)) (C := RX1) (T := TX1) (N := 2) hx hb hts hiX1 hown hK.1 hP 0 rfl rfl 1 (by decide) k18 (fun _ h9 => h9) rfl dX1_keep_1 ?_
  refine lv_aload_n hx hb dX1_keep_4 rfl (lv_at hl 0 rfl) ?_
  refine va_get (D := X.1) (ci := 1) (v := .ref (y 1)) (C := RX1) (T := TX1) (N := 2) hx hb hts hiX1 hown hK.1 hP 0 rfl rfl 0 (by decide) k11 (fun _ h9 => h9) rfl dX1_keep_5 ?_
  refine va_alen (v := (4 : Int32)) hx hb hK.1 hP 1 2 rfl rfl rfl dX1_keep_8 ?_
  refine lv_icmp_lt (tgt := 16) hx hb dX1_keep_9 (by decide) (fun _ => ?_) (fun c9 => absurd c9 (by decide))
  refine lv_aload_n hx hb dX1_keep_16 rfl (lv_at hl 0 rfl) ?_
  refine va_get (D := X.1) (ci := 1) (v := .int (1 : Int32)) (C := RX1) (T := TX1) (N := 2) hx hb hts hiX1 hown hK.1 hP 0 rfl rfl 1 (by decide) k18 (fun _ h9 => h9) rfl dX1_keep_17 ?_
  refine lv_if_lt (tgt := 70) hx hb dX1_keep_20 (by decide) (fun c9 => absurd c9 (by decide)) (fun _ => ?_)
  refine lv_aload_n hx hb dX1_keep_23 rfl (lv_at hl 0 rfl) ?_
  refine va_get (D := X.1) (ci := 1) (v := .int (1 : Int32)) (C := RX1) (T := TX1) (N := 2) hx hb hts hiX1 hown hK.1 hP 0 rfl rfl 1 (by decide) k18 (fun _ h9 => h9) rfl dX1_keep_24 ?_
  refine lv_aload_n hx hb dX1_keep_27 rfl (lv_at hl 0 rfl) ?_
  refine va_get (D := X.1) (ci := 1) (v := .ref (y 1)) (C := RX1) (T := TX1) (N := 2) hx hb hts hiX1 hown hK.1 hP 0 rfl rfl 0 (by decide) k11 (fun _ h9 => h9) rfl dX1_keep_28 ?_
  refine va_alen (v := (4 : Int32)) hx hb hK.1 hP 1 2 rfl rfl rfl dX1_keep_31 ?_
  refine lv_icmp_ge (tgt := 70) hx hb dX1_keep_32 (by decide) (fun c9 => absurd c9 (by decide)) (fun _ => ?_)
  refine lv_aload_n hx hb dX1_keep_35 rfl (lv_at hl 0 rfl) ?_
  refine va_get (D := X.1) (ci := 1) (v := .ref (y 1)) (C := RX1) (T := TX1) (N := 2) hx hb hts hiX1 hown hK.1 hP 0 rfl rfl 0 (by decide) k11 (fun _ h9 => h9) rfl dX1_keep_36 ?_
  refine lv_aload_n hx hb dX1_keep_39 rfl (lv_at hl 0 rfl) ?_
  refine va_get (D := X.1) (ci := 1) (v := .int (1 : Int32)) (C := RX1) (T := TX1) (N := 2) hx hb hts hiX1 hown hK.1 hP 0 rfl rfl 1 (by decide) k18 (fun _ h9 => h9) rfl dX1_keep_40 ?_
  refine hi_ald (b := hy 1 0) hx hb hK.1 hP 1 2 rfl rfl (by unfold vp_in; decide) rfl dX1_keep_43 ?_
  refine lv_ifnull hx hb dX1_keep_44 ?_
  refine lv_aload_n hx hb dX1_keep_47 rfl (lv_at hl 0 rfl) ?_
  refine va_get (D := X.1) (ci := 1) (v := .ref (y 1)) (C := RX1) (T := TX1) (N := 2) hx hb hts hiX1 hown hK.1 hP 0 rfl rfl 0 (by decide) k11 (fun _ h9 => h9) rfl dX1_keep_48 ?_
  refine lv_aload_n hx hb dX1_keep_51 rfl (lv_at hl 0 rfl) ?_
  refine va_get (D := X.1) (ci := 1) (v := .int (1 : Int32)) (C := RX1) (T := TX1) (N := 2) hx hb hts hiX1 hown hK.1 hP 0 rfl rfl 1 (by decide) k18 (fun _ h9 => h9) rfl dX1_keep_52 ?_
  refine hi_ald (b := hy 1 0) hx hb hK.1 hP 1 2 rfl rfl (by unfold vp_in; decide) rfl dX1_keep_55 ?_
  refine lv_aload_n hx hb dX1_keep_56 rfl (lv_at hl 1 rfl) ?_
  refine fn_VJ (v := none) (As := [.ref (h2 0)]) (rest := []) (st1 := []) (ws' := ((wHg X y hy (1 : Int32) (hk_g hy 0) q0 (b0, b1, b2, b3, b4, b5, b6, b7, b8, b9, b10, b11, b12, b13) q2 q3) ++ (wHo X h2 rP2 fP2 rT2 fT2 rG2 fG2 rL2 fL2 rH2 fH2 gi2 di2 re2 ti2))) (nL := 2) ⟨hx, hb, hml, hown, hts⟩ (c_X2_takeOver l X (hy 1) h2 q1.1 q1.2.1 q1.2.2.1 q1.2.2.2.1 q1.2.2.2.2.1 q1.2.2.2.2.2.1 q1.2.2.2.2.2.2.1 q1.2.2.2.2.2.2.2.1 q1.2.2.2.2.2.2.2.2.1 q1.2.2.2.2.2.2.2.2.2.1 q1.2.2.2.2.2.2.2.2.2.2.1 q1.2.2.2.2.2.2.2.2.2.2.2.1 q1.2.2.2.2.2.2.2.2.2.2.2.2.1 q1.2.2.2.2.2.2.2.2.2.2.2.2.2 rP2 fP2 rT2 fT2 rG2 fG2 rL2 fL2 rH2 fH2 gi2 di2 re2 ti2 b0 b1 b2 b3 b4 b5 b6 b7 b8 b9 b10 b11 b12 b13 hf) (cwV 1 hts gX1_keep_X2_takeOver rfl rfl rfl (by decide +kernel) ⟨Nat.le_of_ble_eq_true rfl, Nat.le_of_ble_eq_true rfl⟩) 2 rfl rfl rfl rfl hl.1 rfl (Nat.le_of_ble_eq_true rfl) dX1_keep_57 hK hP (hD0.addr (wK_fst.trans wK_fst.symm)) hS hA [13, 14, 15, 16, 17, 18, 19, 20, 21, 22, 23, 46, 47, 48, 49, 50, 51, 52, 53, 54, 55, 56] (by decide +kernel) kC_1 (kJ_1 (q' := (b0, b1, b2, b3, b4, b5, b6, b7, b8, b9, b10, b11, b12, b13))) (wK_fst.trans wK_fst.symm) rfl ⟨Nat.zero_le _, Nat.zero_le _⟩ (fun H locs hP hD hS => ?_)
  refine lv_aload_n hx hb dX1_keep_60 rfl (lv_at hl 0 rfl) ?_
  refine lv_dup hx hb dX1_keep_61 rfl ?_
  refine va_get (D := X.1) (ci := 1) (v := .int (1 : Int32)) (C := RX1) (T := TX1) (N := 2) hx hb hts hiX1 hown hK.1 hP 0 rfl rfl 1 (by decide) k18 (fun _ h9 => h9) rfl dX1_keep_62 ?_
  refine lv_iconst (v := 1) hx hb dX1_keep_65 (by decide) ?_
  refine lv_iadd hx hb dX1_keep_66 ?_
  refine lv_topi (fun v_19 ev_19 => ?_)
  obtain rfl : v_19 = (2 : Int32) := ev_19.trans (by decide)
  refine va_put (D := X.1) (ci := 1) (v := .int (2 : Int32)) (ty := .int) (C := RX1) (T := TX1) (N := 2) hx hb hts hiX1 tyX1 tyX1_ok nmX1 hown hK.1 hP (hD0.addr (wK_fst.trans wK_fst.symm)) hS 0 rfl rfl 1 (by decide) k18 (fun _ h9 => h9) rfl (by decide +kernel) rfl rfl (Nat.le_of_ble_eq_true rfl) dX1_keep_67 (fun H locs hP hD hS => ?_)
  have hP : va_P X.1 vwCl ((wHg X y hy (2 : Int32) (hk_g hy 0) q0 (b0, b1, b2, b3, b4, b5, b6, b7, b8, b9, b10, b11, b12, b13) q2 q3) ++ (wHo X h2 rP2 fP2 rT2 fT2 rG2 fG2 rL2 fL2 rH2 fH2 gi2 di2 re2 ti2)) H := hP
  exact fn_vret hx hb hr hlocks hP hS dX1_keep_70

set_option maxHeartbeats 4000000 in
set_option maxRecDepth 100000 in
theorem hk_keep_2_0 (l : Launch) (X : cx_G) (y : Nat → Nat) (hy : Nat → Nat → Nat) (q0 q1 q2 q3 : HS) (h2 : Nat → Nat) (rP2 : Int32) (fP2 : (Nat → Int32)) (rT2 : Int32) (fT2 : (Nat → Int32)) (rG2 : Int32) (fG2 : (Nat → Int32)) (rL2 : Int32) (fL2 : (Nat → Int32)) (rH2 : Int32) (fH2 : (Nat → Int32)) (gi2 : Int32) (di2 : Int32) (re2 : Int32) (ti2 : Int32) (b0 : Int32) (b1 : (Nat → Int32)) (b2 : Int32) (b3 : (Nat → Int32)) (b4 : Int32) (b5 : (Nat → Int32)) (b6 : Int32) (b7 : (Nat → Int32)) (b8 : Int32) (b9 : (Nat → Int32)) (b10 : Int32) (b11 : Int32) (b12 : Int32) (b13 : Int32) (hf : f_X2_takeOver q2.1 q2.2.1 q2.2.2.1 q2.2.2.2.1 q2.2.2.2.2.1 q2.2.2.2.2.2.1 q2.2.2.2.2.2.2.1 q2.2.2.2.2.2.2.2.1 q2.2.2.2.2.2.2.2.2.1 q2.2.2.2.2.2.2.2.2.2.1 q2.2.2.2.2.2.2.2.2.2.2.1 q2.2.2.2.2.2.2.2.2.2.2.2.1 q2.2.2.2.2.2.2.2.2.2.2.2.2.1 q2.2.2.2.2.2.2.2.2.2.2.2.2.2 rP2 fP2 rT2 fT2 rG2 fG2 rL2 fL2 rH2 fH2 gi2 di2 re2 ti2 = some (b0, b1, b2, b3, b4, b5, b6, b7, b8, b9, b10, b11, b12, b13)) : Fn l yX1_keep wsX1_keep ({ frames := 2, cells := 0, slots := 0, locals := 44 } : Room) X [.ref (y 0), .ref (h2 0)] ((wHg X y hy (2 : Int32) (hk_g hy 0) q0 q1 q2 q3) ++ (wHo X h2 rP2 fP2 rT2 fT2 rG2 fG2 rL2 fL2 rH2 fH2 gi2 di2 re2 ti2)) none ((wHg X y hy (3 : Int32) (hk_g hy 0) q0 q1 (b0, b1, b2, b3, b4, b5, b6, b7, b8, b9, b10, b11, b12, b13) q3) ++ (wHo X h2 rP2 fP2 rT2 fT2 rG2 fG2 rL2 fL2 rH2 fH2 gi2 di2 re2 ti2)) := by
  refine fn_intro (cc := cX1_keep) (maxL := 2) (ret := none) (by decide) rfl (wK_fst.trans wK_fst.symm) (Nat.le_of_ble_eq_true rfl) ?_
  intro p e s m args below meth c A ls hx hb hml hr hts hown hlocks hK hP hD0 hS hA hl
  have hown : s.vm.findClass RX1 = some m.cls := hown
  have hl : lv_has ls 2 [(0, .ref (y 0)), (1, .ref (h2 0))] := hl
  have hiX1 : ∀ w ∈ u_ws RX1 TX1 2, w ∈ wsX1_keep := by decide +kernel
  have k11 := hts (.fieldLink RX1 11 "LentRights$History" "states" "[LLentRights$House;") (by decide +kernel)
  have k18 := hts (.fieldLink RX1 18 "LentRights$History" "count" "I") (by decide +kernel)
  refine lv_aload_n hx hb dX1_keep_0 rfl (lv_at hl 0 rfl) ?_
  refine va_get (D := X.1) (ci := 1) (v := .int (2 : Int32)) (C := RX1) (T := TX1) (N := 2) hx hb hts hiX1 hown hK.1 hP 0 rfl rfl 1 (by decide) k18 (fun _ h9 => h9) rfl dX1_keep_1 ?_
  refine lv_aload_n hx hb dX1_keep_4 rfl (lv_at hl 0 rfl) ?_
  refine va_get (D := X.1) (ci := 1) (v := .ref (y 1)) (C := RX1) (T := TX1) (N := 2) hx hb hts hiX1 hown hK.1 hP 0 rfl rfl 0 (by decide) k11 (fun _ h9 => h9) rfl dX1_keep_5 ?_
  refine va_alen (v := (4 : Int32)) hx hb hK.1 hP 1 2 rfl rfl rfl dX1_keep_8 ?_
  refine lv_icmp_lt (tgt := 16) hx hb dX1_keep_9 (by decide) (fun _ => ?_) (fun c9 => absurd c9 (by decide))
  refine lv_aload_n hx hb dX1_keep_16 rfl (lv_at hl 0 rfl) ?_
  refine va_get (D := X.1) (ci := 1) (v := .int (2 : Int32)) (C := RX1) (T := TX1) (N := 2) hx hb hts hiX1 hown hK.1 hP 0 rfl rfl 1 (by decide) k18 (fun _ h9 => h9) rfl dX1_keep_17 ?_
  refine lv_if_lt (tgt := 70) hx hb dX1_keep_20 (by decide) (fun c9 => absurd c9 (by decide)) (fun _ => ?_)
  refine lv_aload_n hx hb dX1_keep_23 rfl (lv_at hl 0 rfl) ?_
  refine va_get (D := X.1) (ci := 1) (v := .int (2 : Int32)) (C := RX1) (T := TX1) (N := 2) hx hb hts hiX1 hown hK.1 hP 0 rfl rfl 1 (by decide) k18 (fun _ h9 => h9) rfl dX1_keep_24 ?_
  refine lv_aload_n hx hb dX1_keep_27 rfl (lv_at hl 0 rfl) ?_
  refine va_get (D := X.1) (ci := 1) (v := .ref (y 1)) (C := RX1) (T := TX1) (N := 2) hx hb hts hiX1 hown hK.1 hP 0 rfl rfl 0 (by decide) k11 (fun _ h9 => h9) rfl dX1_keep_28 ?_
  refine va_alen (v := (4 : Int32)) hx hb hK.1 hP 1 2 rfl rfl rfl dX1_keep_31 ?_
  refine lv_icmp_ge (tgt := 70) hx hb dX1_keep_32 (by decide) (fun c9 => absurd c9 (by decide)) (fun _ => ?_)
  refine lv_aload_n hx hb dX1_keep_35 rfl (lv_at hl 0 rfl) ?_
  refine va_get (D := X.1) (ci := 1) (v := .ref (y 1)) (C := RX1) (T := TX1) (N := 2) hx hb hts hiX1 hown hK.1 hP 0 rfl rfl 0 (by decide) k11 (fun _ h9 => h9) rfl dX1_keep_36 ?_
  refine lv_aload_n hx hb dX1_keep_39 rfl (lv_at hl 0 rfl) ?_
  refine va_get (D := X.1) (ci := 1) (v := .int (2 : Int32)) (C := RX1) (T := TX1) (N := 2) hx hb hts hiX1 hown hK.1 hP 0 rfl rfl 1 (by decide) k18 (fun _ h9 => h9) rfl dX1_keep_40 ?_
  refine hi_ald (b := hy 2 0) hx hb hK.1 hP 1 2 rfl rfl (by unfold vp_in; decide) rfl dX1_keep_43 ?_
  refine lv_ifnull hx hb dX1_keep_44 ?_
  refine lv_aload_n hx hb dX1_keep_47 rfl (lv_at hl 0 rfl) ?_
  refine va_get (D := X.1) (ci := 1) (v := .ref (y 1)) (C := RX1) (T := TX1) (N := 2) hx hb hts hiX1 hown hK.1 hP 0 rfl rfl 0 (by decide) k11 (fun _ h9 => h9) rfl dX1_keep_48 ?_
  refine lv_aload_n hx hb dX1_keep_51 rfl (lv_at hl 0 rfl) ?_
  refine va_get (D := X.1) (ci := 1) (v := .int (2 : Int32)) (C := RX1) (T := TX1) (N := 2) hx hb hts hiX1 hown hK.1 hP 0 rfl rfl 1 (by decide) k18 (fun _ h9 => h9) rfl dX1_keep_52 ?_
  refine hi_ald (b := hy 2 0) hx hb hK.1 hP 1 2 rfl rfl (by unfold vp_in; decide) rfl dX1_keep_55 ?_
  refine lv_aload_n hx hb dX1_keep_56 rfl (lv_at hl 1 rfl) ?_
  refine fn_VJ (v := none) (As := [.ref (h2 0)]) (rest := []) (st1 := []) (ws' := ((wHg X y hy (2 : Int32) (hk_g hy 0) q0 q1 (b0, b1, b2, b3, b4, b5, b6, b7, b8, b9, b10, b11, b12, b13) q3) ++ (wHo X h2 rP2 fP2 rT2 fT2 rG2 fG2 rL2 fL2 rH2 fH2 gi2 di2 re2 ti2))) (nL := 2) ⟨hx, hb, hml, hown, hts⟩ (c_X2_takeOver l X (hy 2) h2 q2.1 q2.2.1 q2.2.2.1 q2.2.2.2.1 q2.2.2.2.2.1 q2.2.2.2.2.2.1 q2.2.2.2.2.2.2.1 q2.2.2.2.2.2.2.2.1 q2.2.2.2.2.2.2.2.2.1 q2.2.2.2.2.2.2.2.2.2.1 q2.2.2.2.2.2.2.2.2.2.2.1 q2.2.2.2.2.2.2.2.2.2.2.2.1 q2.2.2.2.2.2.2.2.2.2.2.2.2.1 q2.2.2.2.2.2.2.2.2.2.2.2.2.2 rP2 fP2 rT2 fT2 rG2 fG2 rL2 fL2 rH2 fH2 gi2 di2 re2 ti2 b0 b1 b2 b3 b4 b5 b6 b7 b8 b9 b10 b11 b12 b13 hf) (cwV 1 hts gX1_keep_X2_takeOver rfl rfl rfl (by decide +kernel) ⟨Nat.le_of_ble_eq_true rfl, Nat.le_of_ble_eq_true rfl⟩) 2 rfl rfl rfl rfl hl.1 rfl (Nat.le_of_ble_eq_true rfl) dX1_keep_57 hK hP (hD0.addr (wK_fst.trans wK_fst.symm)) hS hA [24, 25, 26, 27, 28, 29, 30, 31, 32, 33, 34, 46, 47, 48, 49, 50, 51, 52, 53, 54, 55, 56] (by decide +kernel) kC_2 (kJ_2 (q' := (b0, b1, b2, b3, b4, b5, b6, b7, b8, b9, b10, b11, b12, b13))) (wK_fst.trans wK_fst.symm) rfl ⟨Nat.zero_le _, Nat.zero_le _⟩ (fun H locs hP hD hS => ?_)
  refine lv_aload_n hx hb dX1_keep_60 rfl (lv_at hl 0 rfl) ?_
  refine lv_dup hx hb dX1_keep_61 rfl ?_
  refine va_get (D := X.1) (ci := 1) (v := .int (2 : Int32)) (C := RX1) (T := TX1) (N := 2) hx hb hts hiX1 hown hK.1 hP 0 rfl rfl 1 (by decide) k18 (fun _ h9 => h9) rfl dX1_keep_62 ?_
  refine lv_iconst (v := 1) hx hb dX1_keep_65 (by decide) ?_
  refine lv_iadd hx hb dX1_keep_66 ?_
  refine lv_topi (fun v_19 ev_19 => ?_)
  obtain rfl : v_19 = (3 : Int32) := ev_19.trans (by decide)
  refine va_put (D := X.1) (ci := 1) (v := .int (3 : Int32)) (ty := .int) (C := RX1) (T := TX1) (N := 2) hx hb hts hiX1 tyX1 tyX1_ok nmX1 hown hK.1 hP (hD0.addr (wK_fst.trans wK_fst.symm)) hS 0 rfl rfl 1 (by decide) k18 (fun _ h9 => h9) rfl (by decide +kernel) rfl rfl (Nat.le_of_ble_eq_true rfl) dX1_keep_67 (fun H locs hP hD hS => ?_)
  have hP : va_P X.1 vwCl ((wHg X y hy (3 : Int32) (hk_g hy 0) q0 q1 (b0, b1, b2, b3, b4, b5, b6, b7, b8, b9, b10, b11, b12, b13) q3) ++ (wHo X h2 rP2 fP2 rT2 fT2 rG2 fG2 rL2 fL2 rH2 fH2 gi2 di2 re2 ti2)) H := hP
  exact fn_vret hx hb hr hlocks hP hS dX1_keep_70

set_option maxHeartbeats 4000000 in
set_option maxRecDepth 100000 in
theorem hk_keep_3_0 (l : Launch) (X : cx_G) (y : Nat → Nat) (hy : Nat → Nat → Nat) (q0 q1 q2 q3 : HS) (h2 : Nat → Nat) (rP2 : Int32) (fP2 : (Nat → Int32)) (rT2 : Int32) (fT2 : (Nat → Int32)) (rG2 : Int32) (fG2 : (Nat → Int32)) (rL2 : Int32) (fL2 : (Nat → Int32)) (rH2 : Int32) (fH2 : (Nat → Int32)) (gi2 : Int32) (di2 : Int32) (re2 : Int32) (ti2 : Int32) (b0 : Int32) (b1 : (Nat → Int32)) (b2 : Int32) (b3 : (Nat → Int32)) (b4 : Int32) (b5 : (Nat → Int32)) (b6 : Int32) (b7 : (Nat → Int32)) (b8 : Int32) (b9 : (Nat → Int32)) (b10 : Int32) (b11 : Int32) (b12 : Int32) (b13 : Int32) (hf : f_X2_takeOver q3.1 q3.2.1 q3.2.2.1 q3.2.2.2.1 q3.2.2.2.2.1 q3.2.2.2.2.2.1 q3.2.2.2.2.2.2.1 q3.2.2.2.2.2.2.2.1 q3.2.2.2.2.2.2.2.2.1 q3.2.2.2.2.2.2.2.2.2.1 q3.2.2.2.2.2.2.2.2.2.2.1 q3.2.2.2.2.2.2.2.2.2.2.2.1 q3.2.2.2.2.2.2.2.2.2.2.2.2.1 q3.2.2.2.2.2.2.2.2.2.2.2.2.2 rP2 fP2 rT2 fT2 rG2 fG2 rL2 fL2 rH2 fH2 gi2 di2 re2 ti2 = some (b0, b1, b2, b3, b4, b5, b6, b7, b8, b9, b10, b11, b12, b13)) : Fn l yX1_keep wsX1_keep ({ frames := 2, cells := 0, slots := 0, locals := 44 } : Room) X [.ref (y 0), .ref (h2 0)] ((wHg X y hy (3 : Int32) (hk_g hy 0) q0 q1 q2 q3) ++ (wHo X h2 rP2 fP2 rT2 fT2 rG2 fG2 rL2 fL2 rH2 fH2 gi2 di2 re2 ti2)) none ((wHg X y hy (4 : Int32) (hk_g hy 0) q0 q1 q2 (b0, b1, b2, b3, b4, b5, b6, b7, b8, b9, b10, b11, b12, b13)) ++ (wHo X h2 rP2 fP2 rT2 fT2 rG2 fG2 rL2 fL2 rH2 fH2 gi2 di2 re2 ti2)) := by
  refine fn_intro (cc := cX1_keep) (maxL := 2) (ret := none) (by decide) rfl (wK_fst.trans wK_fst.symm) (Nat.le_of_ble_eq_true rfl) ?_
  intro p e s m args below meth c A ls hx hb hml hr hts hown hlocks hK hP hD0 hS hA hl
  have hown : s.vm.findClass RX1 = some m.cls := hown
  have hl : lv_has ls 2 [(0, .ref (y 0)), (1, .ref (h2 0))] := hl
  have hiX1 : ∀ w ∈ u_ws RX1 TX1 2, w ∈ wsX1_keep := by decide +kernel
  have k11 := hts (.fieldLink RX1 11 "LentRights$History" "states" "[LLentRights$House;") (by decide +kernel)
  have k18 := hts (.fieldLink RX1 18 "LentRights$History" "count" "I") (by decide +kernel)
  refine lv_aload_n hx hb dX1_keep_0 rfl (lv_at hl 0 rfl) ?_
  refine va_get (D := X.1) (ci := 1) (v := .int (3 : Int32)) (C := RX1) (T := TX1) (N := 2) hx hb hts hiX1 hown hK.1 hP 0 rfl rfl 1 (by decide) k18 (fun _ h9 => h9) rfl dX1_keep_1 ?_
  refine lv_aload_n hx hb dX1_keep_4 rfl (lv_at hl 0 rfl) ?_
  refine va_get (D := X.1) (ci := 1) (v := .ref (y 1)) (C := RX1) (T := TX1) (N := 2) hx hb hts hiX1 hown hK.1 hP 0 rfl rfl 0 (by decide) k11 (fun _ h9 => h9) rfl dX1_keep_5 ?_
  refine va_alen (v := (4 : Int32)) hx hb hK.1 hP 1 2 rfl rfl rfl dX1_keep_8 ?_
  refine lv_icmp_lt (tgt := 16) hx hb dX1_keep_9 (by decide) (fun _ => ?_) (fun c9 => absurd c9 (by decide))
  refine lv_aload_n hx hb dX1_keep_16 rfl (lv_at hl 0 rfl) ?_
  refine va_get (D := X.1) (ci := 1) (v := .int (3 : Int32)) (C := RX1) (T := TX1) (N := 2) hx hb hts hiX1 hown hK.1 hP 0 rfl rfl 1 (by decide) k18 (fun _ h9 => h9) rfl dX1_keep_17 ?_
  refine lv_if_lt (tgt := 70) hx hb dX1_keep_20 (by decide) (fun c9 => absurd c9 (by decide)) (fun _ => ?_)
  refine lv_aload_n hx hb dX1_keep_23 rfl (lv_at hl 0 rfl) ?_
  refine va_get (D := X.1) (ci := 1) (v := .int (3 : Int32)) (C := RX1) (T := TX1) (N := 2) hx hb hts hiX1 hown hK.1 hP 0 rfl rfl 1 (by decide) k18 (fun _ h9 => h9) rfl dX1_keep_24 ?_
  refine lv_aload_n hx hb dX1_keep_27 rfl (lv_at hl 0 rfl) ?_
  refine va_get (D := X.1) (ci := 1) (v := .ref (y 1)) (C := RX1) (T := TX1) (N := 2) hx hb hts hiX1 hown hK.1 hP 0 rfl rfl 0 (by decide) k11 (fun _ h9 => h9) rfl dX1_keep_28 ?_
  refine va_alen (v := (4 : Int32)) hx hb hK.1 hP 1 2 rfl rfl rfl dX1_keep_31 ?_
  refine lv_icmp_ge (tgt := 70) hx hb dX1_keep_32 (by decide) (fun c9 => absurd c9 (by decide)) (fun _ => ?_)
  refine lv_aload_n hx hb dX1_keep_35 rfl (lv_at hl 0 rfl) ?_
  refine va_get (D := X.1) (ci := 1) (v := .ref (y 1)) (C := RX1) (T := TX1) (N := 2) hx hb hts hiX1 hown hK.1 hP 0 rfl rfl 0 (by decide) k11 (fun _ h9 => h9) rfl dX1_keep_36 ?_
  refine lv_aload_n hx hb dX1_keep_39 rfl (lv_at hl 0 rfl) ?_
  refine va_get (D := X.1) (ci := 1) (v := .int (3 : Int32)) (C := RX1) (T := TX1) (N := 2) hx hb hts hiX1 hown hK.1 hP 0 rfl rfl 1 (by decide) k18 (fun _ h9 => h9) rfl dX1_keep_40 ?_
  refine hi_ald (b := hy 3 0) hx hb hK.1 hP 1 2 rfl rfl (by unfold vp_in; decide) rfl dX1_keep_43 ?_
  refine lv_ifnull hx hb dX1_keep_44 ?_
  refine lv_aload_n hx hb dX1_keep_47 rfl (lv_at hl 0 rfl) ?_
  refine va_get (D := X.1) (ci := 1) (v := .ref (y 1)) (C := RX1) (T := TX1) (N := 2) hx hb hts hiX1 hown hK.1 hP 0 rfl rfl 0 (by decide) k11 (fun _ h9 => h9) rfl dX1_keep_48 ?_
  refine lv_aload_n hx hb dX1_keep_51 rfl (lv_at hl 0 rfl) ?_
  refine va_get (D := X.1) (ci := 1) (v := .int (3 : Int32)) (C := RX1) (T := TX1) (N := 2) hx hb hts hiX1 hown hK.1 hP 0 rfl rfl 1 (by decide) k18 (fun _ h9 => h9) rfl dX1_keep_52 ?_
  refine hi_ald (b := hy 3 0) hx hb hK.1 hP 1 2 rfl rfl (by unfold vp_in; decide) rfl dX1_keep_55 ?_
  refine lv_aload_n hx hb dX1_keep_56 rfl (lv_at hl 1 rfl) ?_
  refine fn_VJ (v := none) (As := [.ref (h2 0)]) (rest := []) (st1 := []) (ws' := ((wHg X y hy (3 : Int32) (hk_g hy 0) q0 q1 q2 (b0, b1, b2, b3, b4, b5, b6, b7, b8, b9, b10, b11, b12, b13)) ++ (wHo X h2 rP2 fP2 rT2 fT2 rG2 fG2 rL2 fL2 rH2 fH2 gi2 di2 re2 ti2))) (nL := 2) ⟨hx, hb, hml, hown, hts⟩ (c_X2_takeOver l X (hy 3) h2 q3.1 q3.2.1 q3.2.2.1 q3.2.2.2.1 q3.2.2.2.2.1 q3.2.2.2.2.2.1 q3.2.2.2.2.2.2.1 q3.2.2.2.2.2.2.2.1 q3.2.2.2.2.2.2.2.2.1 q3.2.2.2.2.2.2.2.2.2.1 q3.2.2.2.2.2.2.2.2.2.2.1 q3.2.2.2.2.2.2.2.2.2.2.2.1 q3.2.2.2.2.2.2.2.2.2.2.2.2.1 q3.2.2.2.2.2.2.2.2.2.2.2.2.2 rP2 fP2 rT2 fT2 rG2 fG2 rL2 fL2 rH2 fH2 gi2 di2 re2 ti2 b0 b1 b2 b3 b4 b5 b6 b7 b8 b9 b10 b11 b12 b13 hf) (cwV 1 hts gX1_keep_X2_takeOver rfl rfl rfl (by decide +kernel) ⟨Nat.le_of_ble_eq_true rfl, Nat.le_of_ble_eq_true rfl⟩) 2 rfl rfl rfl rfl hl.1 rfl (Nat.le_of_ble_eq_true rfl) dX1_keep_57 hK hP (hD0.addr (wK_fst.trans wK_fst.symm)) hS hA [35, 36, 37, 38, 39, 40, 41, 42, 43, 44, 45, 46, 47, 48, 49, 50, 51, 52, 53, 54, 55, 56] (by decide +kernel) kC_3 (kJ_3 (q' := (b0, b1, b2, b3, b4, b5, b6, b7, b8, b9, b10, b11, b12, b13))) (wK_fst.trans wK_fst.symm) rfl ⟨Nat.zero_le _, Nat.zero_le _⟩ (fun H locs hP hD hS => ?_)
  refine lv_aload_n hx hb dX1_keep_60 rfl (lv_at hl 0 rfl) ?_
  refine lv_dup hx hb dX1_keep_61 rfl ?_
  refine va_get (D := X.1) (ci := 1) (v := .int (3 : Int32)) (C := RX1) (T := TX1) (N := 2) hx hb hts hiX1 hown hK.1 hP 0 rfl rfl 1 (by decide) k18 (fun _ h9 => h9) rfl dX1_keep_62 ?_
  refine lv_iconst (v := 1) hx hb dX1_keep_65 (by decide) ?_
  refine lv_iadd hx hb dX1_keep_66 ?_
  refine lv_topi (fun v_19 ev_19 => ?_)
  obtain rfl : v_19 = (4 : Int32) := ev_19.trans (by decide)
  refine va_put (D := X.1) (ci := 1) (v := .int (4 : Int32)) (ty := .int) (C := RX1) (T := TX1) (N := 2) hx hb hts hiX1 tyX1 tyX1_ok nmX1 hown hK.1 hP (hD0.addr (wK_fst.trans wK_fst.symm)) hS 0 rfl rfl 1 (by decide) k18 (fun _ h9 => h9) rfl (by decide +kernel) rfl rfl (Nat.le_of_ble_eq_true rfl) dX1_keep_67 (fun H locs hP hD hS => ?_)
  have hP : va_P X.1 vwCl ((wHg X y hy (4 : Int32) (hk_g hy 0) q0 q1 q2 (b0, b1, b2, b3, b4, b5, b6, b7, b8, b9, b10, b11, b12, b13)) ++ (wHo X h2 rP2 fP2 rT2 fT2 rG2 fG2 rL2 fL2 rH2 fH2 gi2 di2 re2 ti2)) H := hP
  exact fn_vret hx hb hr hlocks hP hS dX1_keep_70

set_option maxHeartbeats 4000000 in
set_option maxRecDepth 100000 in
theorem hk_keep_4_0 (l : Launch) (X : cx_G) (y : Nat → Nat) (hy : Nat → Nat → Nat) (q0 q1 q2 q3 : HS) (h2 : Nat → Nat) (rP2 : Int32) (fP2 : (Nat → Int32)) (rT2 : Int32) (fT2 : (Nat → Int32)) (rG2 : Int32) (fG2 : (Nat → Int32)) (rL2 : Int32) (fL2 : (Nat → Int32)) (rH2 : Int32) (fH2 : (Nat → Int32)) (gi2 : Int32) (di2 : Int32) (re2 : Int32) (ti2 : Int32) (b0 : Int32) (b1 : (Nat → Int32)) (b2 : Int32) (b3 : (Nat → Int32)) (b4 : Int32) (b5 : (Nat → Int32)) (b6 : Int32) (b7 : (Nat → Int32)) (b8 : Int32) (b9 : (Nat → Int32)) (b10 : Int32) (b11 : Int32) (b12 : Int32) (b13 : Int32) (hf : f_X2_takeOver q0.1 q0.2.1 q0.2.2.1 q0.2.2.2.1 q0.2.2.2.2.1 q0.2.2.2.2.2.1 q0.2.2.2.2.2.2.1 q0.2.2.2.2.2.2.2.1 q0.2.2.2.2.2.2.2.2.1 q0.2.2.2.2.2.2.2.2.2.1 q0.2.2.2.2.2.2.2.2.2.2.1 q0.2.2.2.2.2.2.2.2.2.2.2.1 q0.2.2.2.2.2.2.2.2.2.2.2.2.1 q0.2.2.2.2.2.2.2.2.2.2.2.2.2 rP2 fP2 rT2 fT2 rG2 fG2 rL2 fL2 rH2 fH2 gi2 di2 re2 ti2 = some (b0, b1, b2, b3, b4, b5, b6, b7, b8, b9, b10, b11, b12, b13)) : Fn l yX1_keep wsX1_keep ({ frames := 2, cells := 0, slots := 0, locals := 44 } : Room) X [.ref (y 0), .ref (h2 0)] ((wHg X y hy (4 : Int32) (hk_g hy 0) q0 q1 q2 q3) ++ (wHo X h2 rP2 fP2 rT2 fT2 rG2 fG2 rL2 fL2 rH2 fH2 gi2 di2 re2 ti2)) none ((wHg X y hy (4 : Int32) (hk_g hy 1) (b0, b1, b2, b3, b4, b5, b6, b7, b8, b9, b10, b11, b12, b13) q1 q2 q3) ++ (wHo X h2 rP2 fP2 rT2 fT2 rG2 fG2 rL2 fL2 rH2 fH2 gi2 di2 re2 ti2)) := by
  refine fn_intro (cc := cX1_keep) (maxL := 2) (ret := none) (by decide) rfl (wK_fst.trans wK_fst.symm) (Nat.le_of_ble_eq_true rfl) ?_
  intro p e s m args below meth c A ls hx hb hml hr hts hown hlocks hK hP hD0 hS hA hl
  have hown : s.vm.findClass RX1 = some m.cls := hown
  have hl : lv_has ls 2 [(0, .ref (y 0)), (1, .ref (h2 0))] := hl
  have hiX1 : ∀ w ∈ u_ws RX1 TX1 2, w ∈ wsX1_keep := by decide +kernel
  have k11 := hts (.fieldLink RX1 11 "LentRights$History" "states" "[LLentRights$House;") (by decide +kernel)
  have k18 := hts (.fieldLink RX1 18 "LentRights$History" "count" "I") (by decide +kernel)
  refine lv_aload_n hx hb dX1_keep_0 rfl (lv_at hl 0 rfl) ?_
  refine va_get (D := X.1) (ci := 1) (v := .int (4 : Int32)) (C := RX1) (T := TX1) (N := 2) hx hb hts hiX1 hown hK.1 hP 0 rfl rfl 1 (by decide) k18 (fun _ h9 => h9) rfl dX1_keep_1 ?_
  refine lv_aload_n hx hb dX1_keep_4 rfl (lv_at hl 0 rfl) ?_
  refine va_get (D := X.1) (ci := 1) (v := .ref (y 1)) (C := RX1) (T := TX1) (N := 2) hx hb hts hiX1 hown hK.1 hP 0 rfl rfl 0 (by decide) k11 (fun _ h9 => h9) rfl dX1_keep_5 ?_
  refine va_alen (v := (4 : Int32)) hx hb hK.1 hP 1 2 rfl rfl rfl dX1_keep_8 ?_
  refine lv_icmp_lt (tgt := 16) hx hb dX1_keep_9 (by decide) (fun c9 => absurd c9 (by decide)) (fun _ => ?_)
  refine lv_aload_n hx hb dX1_keep_12 rfl (lv_at hl 0 rfl) ?_
  refine fn_VJ (v := none) (As := []) (rest := []) (st1 := []) (ws' := ((wHg X y hy (3 : Int32) (hk_g hy 1) q0 q1 q2 q3) ++ (wHo X h2 rP2 fP2 rT2 fT2 rG2 fG2 rL2 fL2 rH2 fH2 gi2 di2 re2 ti2))) (nL := 2) ⟨hx, hb, hml, hown, hts⟩ (hk_makeRoom_0 l X y hy q0 q1 q2 q3) (cwV 0 hts gX1_keep_X1_makeRoom rfl rfl rfl (by decide +kernel) ⟨Nat.le_of_ble_eq_true rfl, Nat.le_of_ble_eq_true rfl⟩) 1 rfl rfl rfl rfl hl.1 rfl (Nat.le_of_ble_eq_true rfl) dX1_keep_13 hK hP (hD0.addr (wK_fst.trans wK_fst.symm)) hS hA [0, 1, 2, 3, 4, 5, 6, 7, 8, 9, 10, 11, 12, 13, 14, 15, 16, 17, 18, 19, 20, 21, 22, 23, 24, 25, 26, 27, 28, 29, 30, 31, 32, 33, 34, 35, 36, 37, 38, 39, 40, 41, 42, 43, 44, 45] (by decide +kernel) mC mJ (wK_fst.trans wK_fst.symm) rfl ⟨Nat.zero_le _, Nat.zero_le _⟩ (fun H locs hP hD hS => ?_)
  refine lv_aload_n hx hb dX1_keep_16 rfl (lv_at hl 0 rfl) ?_
  refine va_get (D := X.1) (ci := 1) (v := .int (3 : Int32)) (C := RX1) (T := TX1) (N := 2) hx hb hts hiX1 hown hK.1 hP 0 rfl rfl 1 (by decide) k18 (fun _ h9 => h9) rfl dX1_keep_17 ?_
  refine lv_if_lt (tgt := 70) hx hb dX1_keep_20 (by decide) (fun c9 => absurd c9 (by decide)) (fun _ => ?_)
  refine lv_aload_n hx hb dX1_keep_23 rfl (lv_at hl 0 rfl) ?_
  refine va_get (D := X.1) (ci := 1) (v := .int (3 : Int32)) (C := RX1) (T := TX1) (N := 2) hx hb hts hiX1 hown hK.1 hP 0 rfl rfl 1 (by decide) k18 (fun _ h9 => h9) rfl dX1_keep_24 ?_
  refine lv_aload_n hx hb dX1_keep_27 rfl (lv_at hl 0 rfl) ?_
  refine va_get (D := X.1) (ci := 1) (v := .ref (y 1)) (C := RX1) (T := TX1) (N := 2) hx hb hts hiX1 hown hK.1 hP 0 rfl rfl 0 (by decide) k11 (fun _ h9 => h9) rfl dX1_keep_28 ?_
  refine va_alen (v := (4 : Int32)) hx hb hK.1 hP 1 2 rfl rfl rfl dX1_keep_31 ?_
  refine lv_icmp_ge (tgt := 70) hx hb dX1_keep_32 (by decide) (fun c9 => absurd c9 (by decide)) (fun _ => ?_)
  refine lv_aload_n hx hb dX1_keep_35 rfl (lv_at hl 0 rfl) ?_
  refine va_get (D := X.1) (ci := 1) (v := .ref (y 1)) (C := RX1) (T := TX1) (N := 2) hx hb hts hiX1 hown hK.1 hP 0 rfl rfl 0 (by decide) k11 (fun _ h9 => h9) rfl dX1_keep_36 ?_
  refine lv_aload_n hx hb dX1_keep_39 rfl (lv_at hl 0 rfl) ?_
  refine va_get (D := X.1) (ci := 1) (v := .int (3 : Int32)) (C := RX1) (T := TX1) (N := 2) hx hb hts hiX1 hown hK.1 hP 0 rfl rfl 1 (by decide) k18 (fun _ h9 => h9) rfl dX1_keep_40 ?_
  refine hi_ald (b := hy 0 0) hx hb hK.1 hP 1 2 rfl rfl (by unfold vp_in; decide) rfl dX1_keep_43 ?_
  refine lv_ifnull hx hb dX1_keep_44 ?_
  refine lv_aload_n hx hb dX1_keep_47 rfl (lv_at hl 0 rfl) ?_
  refine va_get (D := X.1) (ci := 1) (v := .ref (y 1)) (C := RX1) (T := TX1) (N := 2) hx hb hts hiX1 hown hK.1 hP 0 rfl rfl 0 (by decide) k11 (fun _ h9 => h9) rfl dX1_keep_48 ?_
  refine lv_aload_n hx hb dX1_keep_51 rfl (lv_at hl 0 rfl) ?_
  refine va_get (D := X.1) (ci := 1) (v := .int (3 : Int32)) (C := RX1) (T := TX1) (N := 2) hx hb hts hiX1 hown hK.1 hP 0 rfl rfl 1 (by decide) k18 (fun _ h9 => h9) rfl dX1_keep_52 ?_
  refine hi_ald (b := hy 0 0) hx hb hK.1 hP 1 2 rfl rfl (by unfold vp_in; decide) rfl dX1_keep_55 ?_
  refine lv_aload_n hx hb dX1_keep_56 rfl (lv_at hl 1 rfl) ?_
  refine fn_VJ (v := none) (As := [.ref (h2 0)]) (rest := []) (st1 := []) (ws' := ((wHg X y hy (3 : Int32) (hk_g hy 1) (b0, b1, b2, b3, b4, b5, b6, b7, b8, b9, b10, b11, b12, b13) q1 q2 q3) ++ (wHo X h2 rP2 fP2 rT2 fT2 rG2 fG2 rL2 fL2 rH2 fH2 gi2 di2 re2 ti2))) (nL := 2) ⟨hx, hb, hml, hown, hts⟩ (c_X2_takeOver l X (hy 0) h2 q0.1 q0.2.1 q0.2.2.1 q0.2.2.2.1 q0.2.2.2.2.1 q0.2.2.2.2.2.1 q0.2.2.2.2.2.2.1 q0.2.2.2.2.2.2.2.1 q0.2.2.2.2.2.2.2.2.1 q0.2.2.2.2.2.2.2.2.2.1 q0.2.2.2.2.2.2.2.2.2.2.1 q0.2.2.2.2.2.2.2.2.2.2.2.1 q0.2.2.2.2.2.2.2.2.2.2.2.2.1 q0.2.2.2.2.2.2.2.2.2.2.2.2.2 rP2 fP2 rT2 fT2 rG2 fG2 rL2 fL2 rH2 fH2 gi2 di2 re2 ti2 b0 b1 b2 b3 b4 b5 b6 b7 b8 b9 b10 b11 b12 b13 hf) (cwV 1 hts gX1_keep_X2_takeOver rfl rfl rfl (by decide +kernel) ⟨Nat.le_of_ble_eq_true rfl, Nat.le_of_ble_eq_true rfl⟩) 2 rfl rfl rfl rfl hl.1 rfl (Nat.le_of_ble_eq_true rfl) dX1_keep_57 hK hP (hD0.addr (wK_fst.trans wK_fst.symm)) hS hA [2, 3, 4, 5, 6, 7, 8, 9, 10, 11, 12, 46, 47, 48, 49, 50, 51, 52, 53, 54, 55, 56] (by decide +kernel) kC_0 (kJ_0 (q' := (b0, b1, b2, b3, b4, b5, b6, b7, b8, b9, b10, b11, b12, b13))) (wK_fst.trans wK_fst.symm) rfl ⟨Nat.zero_le _, Nat.zero_le _⟩ (fun H locs hP hD hS => ?_)
  refine lv_aload_n hx hb dX1_keep_60 rfl (lv_at hl 0 rfl) ?_
  refine lv_dup hx hb dX1_keep_61 rfl ?_
  refine va_get (D := X.1) (ci := 1) (v := .int (3 : Int32)) (C := RX1) (T := TX1) (N := 2) hx hb hts hiX1 hown hK.1 hP 0 rfl rfl 1 (by decide) k18 (fun _ h9 => h9) rfl dX1_keep_62 ?_
  refine lv_iconst (v := 1) hx hb dX1_keep_65 (by decide) ?_
  refine lv_iadd hx hb dX1_keep_66 ?_
  refine lv_topi (fun v_20 ev_20 => ?_)
  obtain rfl : v_20 = (4 : Int32) := ev_20.trans (by decide)
  refine va_put (D := X.1) (ci := 1) (v := .int (4 : Int32)) (ty := .int) (C := RX1) (T := TX1) (N := 2) hx hb hts hiX1 tyX1 tyX1_ok nmX1 hown hK.1 hP (hD0.addr (wK_fst.trans wK_fst.symm)) hS 0 rfl rfl 1 (by decide) k18 (fun _ h9 => h9) rfl (by decide +kernel) rfl rfl (Nat.le_of_ble_eq_true rfl) dX1_keep_67 (fun H locs hP hD hS => ?_)
  have hP : va_P X.1 vwCl ((wHg X y hy (4 : Int32) (hk_g hy 1) (b0, b1, b2, b3, b4, b5, b6, b7, b8, b9, b10, b11, b12, b13) q1 q2 q3) ++ (wHo X h2 rP2 fP2 rT2 fT2 rG2 fG2 rL2 fL2 rH2 fH2 gi2 di2 re2 ti2)) H := hP
  exact fn_vret hx hb hr hlocks hP hS dX1_keep_70

set_option maxHeartbeats 4000000 in
set_option maxRecDepth 100000 in
theorem hk_keep_0_1 (l : Launch) (X : cx_G) (y : Nat → Nat) (hy : Nat → Nat → Nat) (q0 q1 q2 q3 : HS) (h2 : Nat → Nat) (rP2 : Int32) (fP2 : (Nat → Int32)) (rT2 : Int32) (fT2 : (Nat → Int32)) (rG2 : Int32) (fG2 : (Nat → Int32)) (rL2 : Int32) (fL2 : (Nat → Int32)) (rH2 : Int32) (fH2 : (Nat → Int32)) (gi2 : Int32) (di2 : Int32) (re2 : Int32) (ti2 : Int32) (b0 : Int32) (b1 : (Nat → Int32)) (b2 : Int32) (b3 : (Nat → Int32)) (b4 : Int32) (b5 : (Nat → Int32)) (b6 : Int32) (b7 : (Nat → Int32)) (b8 : Int32) (b9 : (Nat → Int32)) (b10 : Int32) (b11 : Int32) (b12 : Int32) (b13 : Int32) (hf : f_X2_takeOver q1.1 q1.2.1 q1.2.2.1 q1.2.2.2.1 q1.2.2.2.2.1 q1.2.2.2.2.2.1 q1.2.2.2.2.2.2.1 q1.2.2.2.2.2.2.2.1 q1.2.2.2.2.2.2.2.2.1 q1.2.2.2.2.2.2.2.2.2.1 q1.2.2.2.2.2.2.2.2.2.2.1 q1.2.2.2.2.2.2.2.2.2.2.2.1 q1.2.2.2.2.2.2.2.2.2.2.2.2.1 q1.2.2.2.2.2.2.2.2.2.2.2.2.2 rP2 fP2 rT2 fT2 rG2 fG2 rL2 fL2 rH2 fH2 gi2 di2 re2 ti2 = some (b0, b1, b2, b3, b4, b5, b6, b7, b8, b9, b10, b11, b12, b13)) : Fn l yX1_keep wsX1_keep ({ frames := 2, cells := 0, slots := 0, locals := 44 } : Room) X [.ref (y 0), .ref (h2 0)] ((wHg X y hy (0 : Int32) (hk_g hy 1) q0 q1 q2 q3) ++ (wHo X h2 rP2 fP2 rT2 fT2 rG2 fG2 rL2 fL2 rH2 fH2 gi2 di2 re2 ti2)) none ((wHg X y hy (1 : Int32) (hk_g hy 1) q0 (b0, b1, b2, b3, b4, b5, b6, b7, b8, b9, b10, b11, b12, b13) q2 q3) ++ (wHo X h2 rP2 fP2 rT2 fT2 rG2 fG2 rL2 fL2 rH2 fH2 gi2 di2 re2 ti2)) := by
  refine fn_intro (cc := cX1_keep) (maxL := 2) (ret := none) (by decide) rfl (wK_fst.trans wK_fst.symm) (Nat.le_of_ble_eq_true rfl) ?_
  intro p e s m args below meth c A ls hx hb hml hr hts hown hlocks hK hP hD0 hS hA hl
  have hown : s.vm.findClass RX1 = some m.cls := hown
  have hl : lv_has ls 2 [(0, .ref (y 0)), (1, .ref (h2 0))] := hl
  have hiX1 : ∀ w ∈ u_ws RX1 TX1 2, w ∈ wsX1_keep := by decide +kernel
  have k11 := hts (.fieldLink RX1 11 "LentRights$History" "states" "[LLentRights$House;") (by decide +kernel)
  have k18 := hts (.fieldLink RX1 18 "LentRights$History" "count" "I") (by decide +kernel)
  refine lv_aload_n hx hb dX1_keep_0 rfl (lv_at hl 0 rfl) ?_
  refine va_get (D := X.1) (ci := 1) (v := .int (0 : Int32)) (C := RX1) (T := TX1) (N := 2) hx hb hts hiX1 hown hK.1 hP 0 rfl rfl 1 (by decide) k18 (fun _ h9 => h9) rfl dX1_keep_1 ?_
  refine lv_aload_n hx hb dX1_keep_4 rfl (lv_at hl 0 rfl) ?_
  refine va_get (D := X.1) (ci := 1) (v := .ref (y 1)) (C := RX1) (T := TX1) (N := 2) hx hb hts hiX1 hown hK.1 hP 0 rfl rfl 0 (by decide) k11 (fun _ h9 => h9) rfl dX1_keep_5 ?_
  refine va_alen (v := (4 : Int32)) hx hb hK.1 hP 1 2 rfl rfl rfl dX1_keep_8 ?_
  refine lv_icmp_lt (tgt := 16) hx hb dX1_keep_9 (by decide) (fun _ => ?_) (fun c9 => absurd c9 (by decide))
  refine lv_aload_n hx hb dX1_keep_16 rfl (lv_at hl 0 rfl) ?_
  refine va_get (D := X.1) (ci := 1) (v := .int (0 : Int32)) (C := RX1) (T := TX1) (N := 2) hx hb hts hiX1 hown hK.1 hP 0 rfl rfl 1 (by decide) k18 (fun _ h9 => h9) rfl dX1_keep_17 ?_
  refine lv_if_lt (tgt := 70) hx hb dX1_keep_20 (by decide) (fun c9 => absurd c9 (by decide)) (fun _ => ?_)
  refine lv_aload_n hx hb dX1_keep_23 rfl (lv_at hl 0 rfl) ?_
  refine va_get (D := X.1) (ci := 1) (v := .int (0 : Int32)) (C := RX1) (T := TX1) (N := 2) hx hb hts hiX1 hown hK.1 hP 0 rfl rfl 1 (by decide) k18 (fun _ h9 => h9) rfl dX1_keep_24 ?_
  refine lv_aload_n hx hb dX1_keep_27 rfl (lv_at hl 0 rfl) ?_
  refine va_get (D := X.1) (ci := 1) (v := .ref (y 1)) (C := RX1) (T := TX1) (N := 2) hx hb hts hiX1 hown hK.1 hP 0 rfl rfl 0 (by decide) k11 (fun _ h9 => h9) rfl dX1_keep_28 ?_
  refine va_alen (v := (4 : Int32)) hx hb hK.1 hP 1 2 rfl rfl rfl dX1_keep_31 ?_
  refine lv_icmp_ge (tgt := 70) hx hb dX1_keep_32 (by decide) (fun c9 => absurd c9 (by decide)) (fun _ => ?_)
  refine lv_aload_n hx hb dX1_keep_35 rfl (lv_at hl 0 rfl) ?_
  refine va_get (D := X.1) (ci := 1) (v := .ref (y 1)) (C := RX1) (T := TX1) (N := 2) hx hb hts hiX1 hown hK.1 hP 0 rfl rfl 0 (by decide) k11 (fun _ h9 => h9) rfl dX1_keep_36 ?_
  refine lv_aload_n hx hb dX1_keep_39 rfl (lv_at hl 0 rfl) ?_
  refine va_get (D := X.1) (ci := 1) (v := .int (0 : Int32)) (C := RX1) (T := TX1) (N := 2) hx hb hts hiX1 hown hK.1 hP 0 rfl rfl 1 (by decide) k18 (fun _ h9 => h9) rfl dX1_keep_40 ?_
  refine hi_ald (b := hy 1 0) hx hb hK.1 hP 1 2 rfl rfl (by unfold vp_in; decide) rfl dX1_keep_43 ?_
  refine lv_ifnull hx hb dX1_keep_44 ?_
  refine lv_aload_n hx hb dX1_keep_47 rfl (lv_at hl 0 rfl) ?_
  refine va_get (D := X.1) (ci := 1) (v := .ref (y 1)) (C := RX1) (T := TX1) (N := 2) hx hb hts hiX1 hown hK.1 hP 0 rfl rfl 0 (by decide) k11 (fun _ h9 => h9) rfl dX1_keep_48 ?_
  refine lv_aload_n hx hb dX1_keep_51 rfl (lv_at hl 0 rfl) ?_
  refine va_get (D := X.1) (ci := 1) (v := .int (0 : Int32)) (C := RX1) (T := TX1) (N := 2) hx hb hts hiX1 hown hK.1 hP 0 rfl rfl 1 (by decide) k18 (fun _ h9 => h9) rfl dX1_keep_52 ?_
  refine hi_ald (b := hy 1 0) hx hb hK.1 hP 1 2 rfl rfl (by unfold vp_in; decide) rfl dX1_keep_55 ?_
  refine lv_aload_n hx hb dX1_keep_56 rfl (lv_at hl 1 rfl) ?_
  refine fn_VJ (v := none) (As := [.ref (h2 0)]) (rest := []) (st1 := []) (ws' := ((wHg X y hy (0 : Int32) (hk_g hy 1) q0 (b0, b1, b2, b3, b4, b5, b6, b7, b8, b9, b10, b11, b12, b13) q2 q3) ++ (wHo X h2 rP2 fP2 rT2 fT2 rG2 fG2 rL2 fL2 rH2 fH2 gi2 di2 re2 ti2))) (nL := 2) ⟨hx, hb, hml, hown, hts⟩ (c_X2_takeOver l X (hy 1) h2 q1.1 q1.2.1 q1.2.2.1 q1.2.2.2.1 q1.2.2.2.2.1 q1.2.2.2.2.2.1 q1.2.2.2.2.2.2.1 q1.2.2.2.2.2.2.2.1 q1.2.2.2.2.2.2.2.2.1 q1.2.2.2.2.2.2.2.2.2.1 q1.2.2.2.2.2.2.2.2.2.2.1 q1.2.2.2.2.2.2.2.2.2.2.2.1 q1.2.2.2.2.2.2.2.2.2.2.2.2.1 q1.2.2.2.2.2.2.2.2.2.2.2.2.2 rP2 fP2 rT2 fT2 rG2 fG2 rL2 fL2 rH2 fH2 gi2 di2 re2 ti2 b0 b1 b2 b3 b4 b5 b6 b7 b8 b9 b10 b11 b12 b13 hf) (cwV 1 hts gX1_keep_X2_takeOver rfl rfl rfl (by decide +kernel) ⟨Nat.le_of_ble_eq_true rfl, Nat.le_of_ble_eq_true rfl⟩) 2 rfl rfl rfl rfl hl.1 rfl (Nat.le_of_ble_eq_true rfl) dX1_keep_57 hK hP (hD0.addr (wK_fst.trans wK_fst.symm)) hS hA [13, 14, 15, 16, 17, 18, 19, 20, 21, 22, 23, 46, 47, 48, 49, 50, 51, 52, 53, 54, 55, 56] (by decide +kernel) kC_1 (kJ_1 (q' := (b0, b1, b2, b3, b4, b5, b6, b7, b8, b9, b10, b11, b12, b13))) (wK_fst.trans wK_fst.symm) rfl ⟨Nat.zero_le _, Nat.zero_le _⟩ (fun H locs hP hD hS => ?_)
  refine lv_aload_n hx hb dX1_keep_60 rfl (lv_at hl 0 rfl) ?_
  refine lv_dup hx hb dX1_keep_61 rfl ?_
  refine va_get (D := X.1) (ci := 1) (v := .int (0 : Int32)) (C := RX1) (T := TX1) (N := 2) hx hb hts hiX1 hown hK.1 hP 0 rfl rfl 1 (by decide) k18 (fun _ h9 => h9) rfl dX1_keep_62 ?_
  refine lv_iconst (v := 1) hx hb dX1_keep_65 (by decide) ?_
  refine lv_iadd hx hb dX1_keep_66 ?_
  refine lv_topi (fun v_19 ev_19 => ?_)
  obtain rfl : v_19 = (1 : Int32) := ev_19.trans (by decide)
  refine va_put (D := X.1) (ci := 1) (v := .int (1 : Int32)) (ty := .int) (C := RX1) (T := TX1) (N := 2) hx hb hts hiX1 tyX1 tyX1_ok nmX1 hown hK.1 hP (hD0.addr (wK_fst.trans wK_fst.symm)) hS 0 rfl rfl 1 (by decide) k18 (fun _ h9 => h9) rfl (by decide +kernel) rfl rfl (Nat.le_of_ble_eq_true rfl) dX1_keep_67 (fun H locs hP hD hS => ?_)
  have hP : va_P X.1 vwCl ((wHg X y hy (1 : Int32) (hk_g hy 1) q0 (b0, b1, b2, b3, b4, b5, b6, b7, b8, b9, b10, b11, b12, b13) q2 q3) ++ (wHo X h2 rP2 fP2 rT2 fT2 rG2 fG2 rL2 fL2 rH2 fH2 gi2 di2 re2 ti2)) H := hP
  exact fn_vret hx hb hr hlocks hP hS dX1_keep_70

set_option maxHeartbeats 4000000 in
set_option maxRecDepth 100000 in
theorem hk_keep_1_1 (l : Launch) (X : cx_G) (y : Nat → Nat) (hy : Nat → Nat → Nat) (q0 q1 q2 q3 : HS) (h2 : Nat → Nat) (rP2 : Int32) (fP2 : (Nat → Int32)) (rT2 : Int32) (fT2 : (Nat → Int32)) (rG2 : Int32) (fG2 : (Nat → Int32)) (rL2 : Int32) (fL2 : (Nat → Int32)) (rH2 : Int32) (fH2 : (Nat → Int32)) (gi2 : Int32) (di2 : Int32) (re2 : Int32) (ti2 : Int32) (b0 : Int32) (b1 : (Nat → Int32)) (b2 : Int32) (b3 : (Nat → Int32)) (b4 : Int32) (b5 : (Nat → Int32)) (b6 : Int32) (b7 : (Nat → Int32)) (b8 : Int32) (b9 : (Nat → Int32)) (b10 : Int32) (b11 : Int32) (b12 : Int32) (b13 : Int32) (hf : f_X2_takeOver q2.1 q2.2.1 q2.2.2.1 q2.2.2.2.1 q2.2.2.2.2.1 q2.2.2.2.2.2.1 q2.2.2.2.2.2.2.1 q2.2.2.2.2.2.2.2.1 q2.2.2.2.2.2.2.2.2.1 q2.2.2.2.2.2.2.2.2.2.1 q2.2.2.2.2.2.2.2.2.2.2.1 q2.2.2.2.2.2.2.2.2.2.2.2.1 q2.2.2.2.2.2.2.2.2.2.2.2.2.1 q2.2.2.2.2.2.2.2.2.2.2.2.2.2 rP2 fP2 rT2 fT2 rG2 fG2 rL2 fL2 rH2 fH2 gi2 di2 re2 ti2 = some (b0, b1, b2, b3, b4, b5, b6, b7, b8, b9, b10, b11, b12, b13)) : Fn l yX1_keep wsX1_keep ({ frames := 2, cells := 0, slots := 0, locals := 44 } : Room) X [.ref (y 0), .ref (h2 0)] ((wHg X y hy (1 : Int32) (hk_g hy 1) q0 q1 q2 q3) ++ (wHo X h2 rP2 fP2 rT2 fT2 rG2 fG2 rL2 fL2 rH2 fH2 gi2 di2 re2 ti2)) none ((wHg X y hy (2 : Int32) (hk_g hy 1) q0 q1 (b0, b1, b2, b3, b4, b5, b6, b7, b8, b9, b10, b11, b12, b13) q3) ++ (wHo X h2 rP2 fP2 rT2 fT2 rG2 fG2 rL2 fL2 rH2 fH2 gi2 di2 re2 ti2)) := by
  refine fn_intro (cc := cX1_keep) (maxL := 2) (ret := none) (by decide) rfl (wK_fst.trans wK_fst.symm) (Nat.le_of_ble_eq_true rfl) ?_
  intro p e s m args below meth c A ls hx hb hml hr hts hown hlocks hK hP hD0 hS hA hl
  have hown : s.vm.findClass RX1 = some m.cls := hown
  have hl : lv_has ls 2 [(0, .ref (y 0)), (1, .ref (h2 0))] := hl
  have hiX1 : ∀ w ∈ u_ws RX1 TX1 2, w ∈ wsX1_keep := by decide +kernel
  have k11 := hts (.fieldLink RX1 11 "LentRights$History" "states" "[LLentRights$House;") (by decide +kernel)
  have k18 := hts (.fieldLink RX1 18 "LentRights$History" "count" "I") (by decide +kernel)
  refine lv_aload_n hx hb dX1_keep_0 rfl (lv_at hl 0 rfl) ?_
  refine va_get (D := X.1) (ci := 1) (v := .int (1 : Int32)) (C := RX1) (T := TX1) (N := 2) hx hb hts hiX1 hown hK.1 hP 0 rfl rfl 1 (by decide) k18 (fun _ h9 => h9) rfl dX1_keep_1 ?_
  refine lv_aload_n hx hb dX1_keep_4 rfl (lv_at hl 0 rfl) ?_
  refine va_get (D := X.1) (ci := 1) (v := .ref (y 1)) (C := RX1) (T := TX1) (N := 2) hx hb hts hiX1 hown hK.1 hP 0 rfl rfl 0 (by decide) k11 (fun _ h9 => h9) rfl dX1_keep_5 ?_
  refine va_alen (v := (4 : Int32)) hx hb hK.1 hP 1 2 rfl rfl rfl dX1_keep_8 ?_
  refine lv_icmp_lt (tgt := 16) hx hb dX1_keep_9 (by decide) (fun _ => ?_) (fun c9 => absurd c9 (by decide))
  refine lv_aload_n hx hb dX1_keep_16 rfl (lv_at hl 0 rfl) ?_
  refine va_get (D := X.1) (ci := 1) (v := .int (1 : Int32)) (C := RX1) (T := TX1) (N := 2) hx hb hts hiX1 hown hK.1 hP 0 rfl rfl 1 (by decide) k18 (fun _ h9 => h9) rfl dX1_keep_17 ?_
  refine lv_if_lt (tgt := 70) hx hb dX1_keep_20 (by decide) (fun c9 => absurd c9 (by decide)) (fun _ => ?_)
  refine lv_aload_n hx hb dX1_keep_23 rfl (lv_at hl 0 rfl) ?_
  refine va_get (D := X.1) (ci := 1) (v := .int (1 : Int32)) (C := RX1) (T := TX1) (N := 2) hx hb hts hiX1 hown hK.1 hP 0 rfl rfl 1 (by decide) k18 (fun _ h9 => h9) rfl dX1_keep_24 ?_
  refine lv_aload_n hx hb dX1_keep_27 rfl (lv_at hl 0 rfl) ?_
  refine va_get (D := X.1) (ci := 1) (v := .ref (y 1)) (C := RX1) (T := TX1) (N := 2) hx hb hts hiX1 hown hK.1 hP 0 rfl rfl 0 (by decide) k11 (fun _ h9 => h9) rfl dX1_keep_28 ?_
  refine va_alen (v := (4 : Int32)) hx hb hK.1 hP 1 2 rfl rfl rfl dX1_keep_31 ?_
  refine lv_icmp_ge (tgt := 70) hx hb dX1_keep_32 (by decide) (fun c9 => absurd c9 (by decide)) (fun _ => ?_)
  refine lv_aload_n hx hb dX1_keep_35 rfl (lv_at hl 0 rfl) ?_
  refine va_get (D := X.1) (ci := 1) (v := .ref (y 1)) (C := RX1) (T := TX1) (N := 2) hx hb hts hiX1 hown hK.1 hP 0 rfl rfl 0 (by decide) k11 (fun _ h9 => h9) rfl dX1_keep_36 ?_
  refine lv_aload_n hx hb dX1_keep_39 rfl (lv_at hl 0 rfl) ?_
  refine va_get (D := X.1) (ci := 1) (v := .int (1 : Int32)) (C := RX1) (T := TX1) (N := 2) hx hb hts hiX1 hown hK.1 hP 0 rfl rfl 1 (by decide) k18 (fun _ h9 => h9) rfl dX1_keep_40 ?_
  refine hi_ald (b := hy 2 0) hx hb hK.1 hP 1 2 rfl rfl (by unfold vp_in; decide) rfl dX1_keep_43 ?_
  refine lv_ifnull hx hb dX1_keep_44 ?_
  refine lv_aload_n hx hb dX1_keep_47 rfl (lv_at hl 0 rfl) ?_
  refine va_get (D := X.1) (ci := 1) (v := .ref (y 1)) (C := RX1) (T := TX1) (N := 2) hx hb hts hiX1 hown hK.1 hP 0 rfl rfl 0 (by decide) k11 (fun _ h9 => h9) rfl dX1_keep_48 ?_
  refine lv_aload_n hx hb dX1_keep_51 rfl (lv_at hl 0 rfl) ?_
  refine va_get (D := X.1) (ci := 1) (v := .int (1 : Int32)) (C := RX1) (T := TX1) (N := 2) hx hb hts hiX1 hown hK.1 hP 0 rfl rfl 1 (by decide) k18 (fun _ h9 => h9) rfl dX1_keep_52 ?_
  refine hi_ald (b := hy 2 0) hx hb hK.1 hP 1 2 rfl rfl (by unfold vp_in; decide) rfl dX1_keep_55 ?_
  refine lv_aload_n hx hb dX1_keep_56 rfl (lv_at hl 1 rfl) ?_
  refine fn_VJ (v := none) (As := [.ref (h2 0)]) (rest := []) (st1 := []) (ws' := ((wHg X y hy (1 : Int32) (hk_g hy 1) q0 q1 (b0, b1, b2, b3, b4, b5, b6, b7, b8, b9, b10, b11, b12, b13) q3) ++ (wHo X h2 rP2 fP2 rT2 fT2 rG2 fG2 rL2 fL2 rH2 fH2 gi2 di2 re2 ti2))) (nL := 2) ⟨hx, hb, hml, hown, hts⟩ (c_X2_takeOver l X (hy 2) h2 q2.1 q2.2.1 q2.2.2.1 q2.2.2.2.1 q2.2.2.2.2.1 q2.2.2.2.2.2.1 q2.2.2.2.2.2.2.1 q2.2.2.2.2.2.2.2.1 q2.2.2.2.2.2.2.2.2.1 q2.2.2.2.2.2.2.2.2.2.1 q2.2.2.2.2.2.2.2.2.2.2.1 q2.2.2.2.2.2.2.2.2.2.2.2.1 q2.2.2.2.2.2.2.2.2.2.2.2.2.1 q2.2.2.2.2.2.2.2.2.2.2.2.2.2 rP2 fP2 rT2 fT2 rG2 fG2 rL2 fL2 rH2 fH2 gi2 di2 re2 ti2 b0 b1 b2 b3 b4 b5 b6 b7 b8 b9 b10 b11 b12 b13 hf) (cwV 1 hts gX1_keep_X2_takeOver rfl rfl rfl (by decide +kernel) ⟨Nat.le_of_ble_eq_true rfl, Nat.le_of_ble_eq_true rfl⟩) 2 rfl rfl rfl rfl hl.1 rfl (Nat.le_of_ble_eq_true rfl) dX1_keep_57 hK hP (hD0.addr (wK_fst.trans wK_fst.symm)) hS hA [24, 25, 26, 27, 28, 29, 30, 31, 32, 33, 34, 46, 47, 48, 49, 50, 51, 52, 53, 54, 55, 56] (by decide +kernel) kC_2 (kJ_2 (q' := (b0, b1, b2, b3, b4, b5, b6, b7, b8, b9, b10, b11, b12, b13))) (wK_fst.trans wK_fst.symm) rfl ⟨Nat.zero_le _, Nat.zero_le _⟩ (fun H locs hP hD hS => ?_)
  refine lv_aload_n hx hb dX1_keep_60 rfl (lv_at hl 0 rfl) ?_
  refine lv_dup hx hb dX1_keep_61 rfl ?_
  refine va_get (D := X.1) (ci := 1) (v := .int (1 : Int32)) (C := RX1) (T := TX1) (N := 2) hx hb hts hiX1 hown hK.1 hP 0 rfl rfl 1 (by decide) k18 (fun _ h9 => h9) rfl dX1_keep_62 ?_
  refine lv_iconst (v := 1) hx hb dX1_keep_65 (by decide) ?_
  refine lv_iadd hx hb dX1_keep_66 ?_
  refine lv_topi (fun v_19 ev_19 => ?_)
  obtain rfl : v_19 = (2 : Int32) := ev_19.trans (by decide)
  refine va_put (D := X.1) (ci := 1) (v := .int (2 : Int32)) (ty := .int) (C := RX1) (T := TX1) (N := 2) hx hb hts hiX1 tyX1 tyX1_ok nmX1 hown hK.1 hP (hD0.addr (wK_fst.trans wK_fst.symm)) hS 0 rfl rfl 1 (by decide) k18 (fun _ h9 => h9) rfl (by decide +kernel) rfl rfl (Nat.le_of_ble_eq_true rfl) dX1_keep_67 (fun H locs hP hD hS => ?_)
  have hP : va_P X.1 vwCl ((wHg X y hy (2 : Int32) (hk_g hy 1) q0 q1 (b0, b1, b2, b3, b4, b5, b6, b7, b8, b9, b10, b11, b12, b13) q3) ++ (wHo X h2 rP2 fP2 rT2 fT2 rG2 fG2 rL2 fL2 rH2 fH2 gi2 di2 re2 ti2)) H := hP
  exact fn_vret hx hb hr hlocks hP hS dX1_keep_70

set_option maxHeartbeats 4000000 in
set_option maxRecDepth 100000 in
theorem hk_keep_2_1 (l : Launch) (X : cx_G) (y : Nat → Nat) (hy : Nat → Nat → Nat) (q0 q1 q2 q3 : HS) (h2 : Nat → Nat) (rP2 : Int32) (fP2 : (Nat → Int32)) (rT2 : Int32) (fT2 : (Nat → Int32)) (rG2 : Int32) (fG2 : (Nat → Int32)) (rL2 : Int32) (fL2 : (Nat → Int32)) (rH2 : Int32) (fH2 : (Nat → Int32)) (gi2 : Int32) (di2 : Int32) (re2 : Int32) (ti2 : Int32) (b0 : Int32) (b1 : (Nat → Int32)) (b2 : Int32) (b3 : (Nat → Int32)) (b4 : Int32) (b5 : (Nat → Int32)) (b6 : Int32) (b7 : (Nat → Int32)) (b8 : Int32) (b9 : (Nat → Int32)) (b10 : Int32) (b11 : Int32) (b12 : Int32) (b13 : Int32) (hf : f_X2_takeOver q3.1 q3.2.1 q3.2.2.1 q3.2.2.2.1 q3.2.2.2.2.1 q3.2.2.2.2.2.1 q3.2.2.2.2.2.2.1 q3.2.2.2.2.2.2.2.1 q3.2.2.2.2.2.2.2.2.1 q3.2.2.2.2.2.2.2.2.2.1 q3.2.2.2.2.2.2.2.2.2.2.1 q3.2.2.2.2.2.2.2.2.2.2.2.1 q3.2.2.2.2.2.2.2.2.2.2.2.2.1 q3.2.2.2.2.2.2.2.2.2.2.2.2.2 rP2 fP2 rT2 fT2 rG2 fG2 rL2 fL2 rH2 fH2 gi2 di2 re2 ti2 = some (b0, b1, b2, b3, b4, b5, b6, b7, b8, b9, b10, b11, b12, b13)) : Fn l yX1_keep wsX1_keep ({ frames := 2, cells := 0, slots := 0, locals := 44 } : Room) X [.ref (y 0), .ref (h2 0)] ((wHg X y hy (2 : Int32) (hk_g hy 1) q0 q1 q2 q3) ++ (wHo X h2 rP2 fP2 rT2 fT2 rG2 fG2 rL2 fL2 rH2 fH2 gi2 di2 re2 ti2)) none ((wHg X y hy (3 : Int32) (hk_g hy 1) q0 q1 q2 (b0, b1, b2, b3, b4, b5, b6, b7, b8, b9, b10, b11, b12, b13)) ++ (wHo X h2 rP2 fP2 rT2 fT2 rG2 fG2 rL2 fL2 rH2 fH2 gi2 di2 re2 ti2)) := by
  refine fn_intro (cc := cX1_keep) (maxL := 2) (ret := none) (by decide) rfl (wK_fst.trans wK_fst.symm) (Nat.le_of_ble_eq_true rfl) ?_
  intro p e s m args below meth c A ls hx hb hml hr hts hown hlocks hK hP hD0 hS hA hl
  have hown : s.vm.findClass RX1 = some m.cls := hown
  have hl : lv_has ls 2 [(0, .ref (y 0)), (1, .ref (h2 0))] := hl
  have hiX1 : ∀ w ∈ u_ws RX1 TX1 2, w ∈ wsX1_keep := by decide +kernel
  have k11 := hts (.fieldLink RX1 11 "LentRights$History" "states" "[LLentRights$House;") (by decide +kernel)
  have k18 := hts (.fieldLink RX1 18 "LentRights$History" "count" "I") (by decide +kernel)
  refine lv_aload_n hx hb dX1_keep_0 rfl (lv_at hl 0 rfl) ?_
  refine va_get (D := X.1) (ci := 1) (v := .int (2 : Int32)) (C := RX1) (T := TX1) (N := 2) hx hb hts hiX1 hown hK.1 hP 0 rfl rfl 1 (by decide) k18 (fun _ h9 => h9) rfl dX1_keep_1 ?_
  refine lv_aload_n hx hb dX1_keep_4 rfl (lv_at hl 0 rfl) ?_
  refine va_get (D := X.1) (ci := 1) (v := .ref (y 1)) (C := RX1) (T := TX1) (N := 2) hx hb hts hiX1 hown hK.1 hP 0 rfl rfl 0 (by decide) k11 (fun _ h9 => h9) rfl dX1_keep_5 ?_
  refine va_alen (v := (4 : Int32)) hx hb hK.1 hP 1 2 rfl rfl rfl dX1_keep_8 ?_
  refine lv_icmp_lt (tgt := 16) hx hb dX1_keep_9 (by decide) (fun _ => ?_) (fun c9 => absurd c9 (by decide))
  refine lv_aload_n hx hb dX1_keep_16 rfl (lv_at hl 0 rfl) ?_
  refine va_get (D := X.1) (ci := 1) (v := .int (2 : Int32)) (C := RX1) (T := TX1) (N := 2) hx hb hts hiX1 hown hK.1 hP 0 rfl rfl 1 (by decide) k18 (fun _ h9 => h9) rfl dX1_keep_17 ?_
  refine lv_if_lt (tgt := 70) hx hb dX1_keep_20 (by decide) (fun c9 => absurd c9 (by decide)) (fun _ => ?_)
  refine lv_aload_n hx hb dX1_keep_23 rfl (lv_at hl 0 rfl) ?_
  refine va_get (D := X.1) (ci := 1) (v := .int (2 : Int32)) (C := RX1) (T := TX1) (N := 2) hx hb hts hiX1 hown hK.1 hP 0 rfl rfl 1 (by decide) k18 (fun _ h9 => h9) rfl dX1_keep_24 ?_
  refine lv_aload_n hx hb dX1_keep_27 rfl (lv_at hl 0 rfl) ?_
  refine va_get (D := X.1) (ci := 1) (v := .ref (y 1)) (C := RX1) (T := TX1) (N := 2) hx hb hts hiX1 hown hK.1 hP 0 rfl rfl 0 (by decide) k11 (fun _ h9 => h9) rfl dX1_keep_28 ?_
  refine va_alen (v := (4 : Int32)) hx hb hK.1 hP 1 2 rfl rfl rfl dX1_keep_31 ?_
  refine lv_icmp_ge (tgt := 70) hx hb dX1_keep_32 (by decide) (fun c9 => absurd c9 (by decide)) (fun _ => ?_)
  refine lv_aload_n hx hb dX1_keep_35 rfl (lv_at hl 0 rfl) ?_
  refine va_get (D := X.1) (ci := 1) (v := .ref (y 1)) (C := RX1) (T := TX1) (N := 2) hx hb hts hiX1 hown hK.1 hP 0 rfl rfl 0 (by decide) k11 (fun _ h9 => h9) rfl dX1_keep_36 ?_
  refine lv_aload_n hx hb dX1_keep_39 rfl (lv_at hl 0 rfl) ?_
  refine va_get (D := X.1) (ci := 1) (v := .int (2 : Int32)) (C := RX1) (T := TX1) (N := 2) hx hb hts hiX1 hown hK.1 hP 0 rfl rfl 1 (by decide) k18 (fun _ h9 => h9) rfl dX1_keep_40 ?_
  refine hi_ald (b := hy 3 0) hx hb hK.1 hP 1 2 rfl rfl (by unfold vp_in; decide) rfl dX1_keep_43 ?_
  refine lv_ifnull hx hb dX1_keep_44 ?_
  refine lv_aload_n hx hb dX1_keep_47 rfl (lv_at hl 0 rfl) ?_
  refine va_get (D := X.1) (ci := 1) (v := .ref (y 1)) (C := RX1) (T := TX1) (N := 2) hx hb hts hiX1 hown hK.1 hP 0 rfl rfl 0 (by decide) k11 (fun _ h9 => h9) rfl dX1_keep_48 ?_
  refine lv_aload_n hx hb dX1_keep_51 rfl (lv_at hl 0 rfl) ?_
  refine va_get (D := X.1) (ci := 1) (v := .int (2 : Int32)) (C := RX1) (T := TX1) (N := 2) hx hb hts hiX1 hown hK.1 hP 0 rfl rfl 1 (by decide) k18 (fun _ h9 => h9) rfl dX1_keep_52 ?_
  refine hi_ald (b := hy 3 0) hx hb hK.1 hP 1 2 rfl rfl (by unfold vp_in; decide) rfl dX1_keep_55 ?_
  refine lv_aload_n hx hb dX1_keep_56 rfl (lv_at hl 1 rfl) ?_
  refine fn_VJ (v := none) (As := [.ref (h2 0)]) (rest := []) (st1 := []) (ws' := ((wHg X y hy (2 : Int32) (hk_g hy 1) q0 q1 q2 (b0, b1, b2, b3, b4, b5, b6, b7, b8, b9, b10, b11, b12, b13)) ++ (wHo X h2 rP2 fP2 rT2 fT2 rG2 fG2 rL2 fL2 rH2 fH2 gi2 di2 re2 ti2))) (nL := 2) ⟨hx, hb, hml, hown, hts⟩ (c_X2_takeOver l X (hy 3) h2 q3.1 q3.2.1 q3.2.2.1 q3.2.2.2.1 q3.2.2.2.2.1 q3.2.2.2.2.2.1 q3.2.2.2.2.2.2.1 q3.2.2.2.2.2.2.2.1 q3.2.2.2.2.2.2.2.2.1 q3.2.2.2.2.2.2.2.2.2.1 q3.2.2.2.2.2.2.2.2.2.2.1 q3.2.2.2.2.2.2.2.2.2.2.2.1 q3.2.2.2.2.2.2.2.2.2.2.2.2.1 q3.2.2.2.2.2.2.2.2.2.2.2.2.2 rP2 fP2 rT2 fT2 rG2 fG2 rL2 fL2 rH2 fH2 gi2 di2 re2 ti2 b0 b1 b2 b3 b4 b5 b6 b7 b8 b9 b10 b11 b12 b13 hf) (cwV 1 hts gX1_keep_X2_takeOver rfl rfl rfl (by decide +kernel) ⟨Nat.le_of_ble_eq_true rfl, Nat.le_of_ble_eq_true rfl⟩) 2 rfl rfl rfl rfl hl.1 rfl (Nat.le_of_ble_eq_true rfl) dX1_keep_57 hK hP (hD0.addr (wK_fst.trans wK_fst.symm)) hS hA [35, 36, 37, 38, 39, 40, 41, 42, 43, 44, 45, 46, 47, 48, 49, 50, 51, 52, 53, 54, 55, 56] (by decide +kernel) kC_3 (kJ_3 (q' := (b0, b1, b2, b3, b4, b5, b6, b7, b8, b9, b10, b11, b12, b13))) (wK_fst.trans wK_fst.symm) rfl ⟨Nat.zero_le _, Nat.zero_le _⟩ (fun H locs hP hD hS => ?_)
  refine lv_aload_n hx hb dX1_keep_60 rfl (lv_at hl 0 rfl) ?_
  refine lv_dup hx hb dX1_keep_61 rfl ?_
  refine va_get (D := X.1) (ci := 1) (v := .int (2 : Int32)) (C := RX1) (T := TX1) (N := 2) hx hb hts hiX1 hown hK.1 hP 0 rfl rfl 1 (by decide) k18 (fun _ h9 => h9) rfl dX1_keep_62 ?_
  refine lv_iconst (v := 1) hx hb dX1_keep_65 (by decide) ?_
  refine lv_iadd hx hb dX1_keep_66 ?_
  refine lv_topi (fun v_19 ev_19 => ?_)
  obtain rfl : v_19 = (3 : Int32) := ev_19.trans (by decide)
  refine va_put (D := X.1) (ci := 1) (v := .int (3 : Int32)) (ty := .int) (C := RX1) (T := TX1) (N := 2) hx hb hts hiX1 tyX1 tyX1_ok nmX1 hown hK.1 hP (hD0.addr (wK_fst.trans wK_fst.symm)) hS 0 rfl rfl 1 (by decide) k18 (fun _ h9 => h9) rfl (by decide +kernel) rfl rfl (Nat.le_of_ble_eq_true rfl) dX1_keep_67 (fun H locs hP hD hS => ?_)
  have hP : va_P X.1 vwCl ((wHg X y hy (3 : Int32) (hk_g hy 1) q0 q1 q2 (b0, b1, b2, b3, b4, b5, b6, b7, b8, b9, b10, b11, b12, b13)) ++ (wHo X h2 rP2 fP2 rT2 fT2 rG2 fG2 rL2 fL2 rH2 fH2 gi2 di2 re2 ti2)) H := hP
  exact fn_vret hx hb hr hlocks hP hS dX1_keep_70

set_option maxHeartbeats 4000000 in
set_option maxRecDepth 100000 in
theorem hk_keep_3_1 (l : Launch) (X : cx_G) (y : Nat → Nat) (hy : Nat → Nat → Nat) (q0 q1 q2 q3 : HS) (h2 : Nat → Nat) (rP2 : Int32) (fP2 : (Nat → Int32)) (rT2 : Int32) (fT2 : (Nat → Int32)) (rG2 : Int32) (fG2 : (Nat → Int32)) (rL2 : Int32) (fL2 : (Nat → Int32)) (rH2 : Int32) (fH2 : (Nat → Int32)) (gi2 : Int32) (di2 : Int32) (re2 : Int32) (ti2 : Int32) (b0 : Int32) (b1 : (Nat → Int32)) (b2 : Int32) (b3 : (Nat → Int32)) (b4 : Int32) (b5 : (Nat → Int32)) (b6 : Int32) (b7 : (Nat → Int32)) (b8 : Int32) (b9 : (Nat → Int32)) (b10 : Int32) (b11 : Int32) (b12 : Int32) (b13 : Int32) (hf : f_X2_takeOver q0.1 q0.2.1 q0.2.2.1 q0.2.2.2.1 q0.2.2.2.2.1 q0.2.2.2.2.2.1 q0.2.2.2.2.2.2.1 q0.2.2.2.2.2.2.2.1 q0.2.2.2.2.2.2.2.2.1 q0.2.2.2.2.2.2.2.2.2.1 q0.2.2.2.2.2.2.2.2.2.2.1 q0.2.2.2.2.2.2.2.2.2.2.2.1 q0.2.2.2.2.2.2.2.2.2.2.2.2.1 q0.2.2.2.2.2.2.2.2.2.2.2.2.2 rP2 fP2 rT2 fT2 rG2 fG2 rL2 fL2 rH2 fH2 gi2 di2 re2 ti2 = some (b0, b1, b2, b3, b4, b5, b6, b7, b8, b9, b10, b11, b12, b13)) : Fn l yX1_keep wsX1_keep ({ frames := 2, cells := 0, slots := 0, locals := 44 } : Room) X [.ref (y 0), .ref (h2 0)] ((wHg X y hy (3 : Int32) (hk_g hy 1) q0 q1 q2 q3) ++ (wHo X h2 rP2 fP2 rT2 fT2 rG2 fG2 rL2 fL2 rH2 fH2 gi2 di2 re2 ti2)) none ((wHg X y hy (4 : Int32) (hk_g hy 1) (b0, b1, b2, b3, b4, b5, b6, b7, b8, b9, b10, b11, b12, b13) q1 q2 q3) ++ (wHo X h2 rP2 fP2 rT2 fT2 rG2 fG2 rL2 fL2 rH2 fH2 gi2 di2 re2 ti2)) := by
  refine fn_intro (cc := cX1_keep) (maxL := 2) (ret := none) (by decide) rfl (wK_fst.trans wK_fst.symm) (Nat.le_of_ble_eq_true rfl) ?_
  intro p e s m args below meth c A ls hx hb hml hr hts hown hlocks hK hP hD0 hS hA hl
  have hown : s.vm.findClass RX1 = some m.cls := hown
  have hl : lv_has ls 2 [(0, .ref (y 0)), (1, .ref (h2 0))] := hl
  have hiX1 : ∀ w ∈ u_ws RX1 TX1 2, w ∈ wsX1_keep := by decide +kernel
  have k11 := hts (.fieldLink RX1 11 "LentRights$History" "states" "[LLentRights$House;") (by decide +kernel)
  have k18 := hts (.fieldLink RX1 18 "LentRights$History" "count" "I") (by decide +kernel)
  refine lv_aload_n hx hb dX1_keep_0 rfl (lv_at hl 0 rfl) ?_
  refine va_get (D := X.1) (ci := 1) (v := .int (3 : Int32)) (C := RX1) (T := TX1) (N := 2) hx hb hts hiX1 hown hK.1 hP 0 rfl rfl 1 (by decide) k18 (fun _ h9 => h9) rfl dX1_keep_1 ?_
  refine lv_aload_n hx hb dX1_keep_4 rfl (lv_at hl 0 rfl) ?_
  refine va_get (D := X.1) (ci := 1) (v := .ref (y 1)) (C := RX1) (T := TX1) (N := 2) hx hb hts hiX1 hown hK.1 hP 0 rfl rfl 0 (by decide) k11 (fun _ h9 => h9) rfl dX1_keep_5 ?_
  refine va_alen (v := (4 : Int32)) hx hb hK.1 hP 1 2 rfl rfl rfl dX1_keep_8 ?_
  refine lv_icmp_lt (tgt := 16) hx hb dX1_keep_9 (by decide) (fun _ => ?_) (fun c9 => absurd c9 (by decide))
  refine lv_aload_n hx hb dX1_keep_16 rfl (lv_at hl 0 rfl) ?_
  refine va_get (D := X.1) (ci := 1) (v := .int (3 : Int32)) (C := RX1) (T := TX1) (N := 2) hx hb hts hiX1 hown hK.1 hP 0 rfl rfl 1 (by decide) k18 (fun _ h9 => h9) rfl dX1_keep_17 ?_
  refine lv_if_lt (tgt := 70) hx hb dX1_keep_20 (by decide) (fun c9 => absurd c9 (by decide)) (fun _ => ?_)
  refine lv_aload_n hx hb dX1_keep_23 rfl (lv_at hl 0 rfl) ?_
  refine va_get (D := X.1) (ci := 1) (v := .int (3 : Int32)) (C := RX1) (T := TX1) (N := 2) hx hb hts hiX1 hown hK.1 hP 0 rfl rfl 1 (by decide) k18 (fun _ h9 => h9) rfl dX1_keep_24 ?_
  refine lv_aload_n hx hb dX1_keep_27 rfl (lv_at hl 0 rfl) ?_
  refine va_get (D := X.1) (ci := 1) (v := .ref (y 1)) (C := RX1) (T := TX1) (N := 2) hx hb hts hiX1 hown hK.1 hP 0 rfl rfl 0 (by decide) k11 (fun _ h9 => h9) rfl dX1_keep_28 ?_
  refine va_alen (v := (4 : Int32)) hx hb hK.1 hP 1 2 rfl rfl rfl dX1_keep_31 ?_
  refine lv_icmp_ge (tgt := 70) hx hb dX1_keep_32 (by decide) (fun c9 => absurd c9 (by decide)) (fun _ => ?_)
  refine lv_aload_n hx hb dX1_keep_35 rfl (lv_at hl 0 rfl) ?_
  refine va_get (D := X.1) (ci := 1) (v := .ref (y 1)) (C := RX1) (T := TX1) (N := 2) hx hb hts hiX1 hown hK.1 hP 0 rfl rfl 0 (by decide) k11 (fun _ h9 => h9) rfl dX1_keep_36 ?_
  refine lv_aload_n hx hb dX1_keep_39 rfl (lv_at hl 0 rfl) ?_
  refine va_get (D := X.1) (ci := 1) (v := .int (3 : Int32)) (C := RX1) (T := TX1) (N := 2) hx hb hts hiX1 hown hK.1 hP 0 rfl rfl 1 (by decide) k18 (fun _ h9 => h9) rfl dX1_keep_40 ?_
  refine hi_ald (b := hy 0 0) hx hb hK.1 hP 1 2 rfl rfl (by unfold vp_in; decide) rfl dX1_keep_43 ?_
  refine lv_ifnull hx hb dX1_keep_44 ?_
  refine lv_aload_n hx hb dX1_keep_47 rfl (lv_at hl 0 rfl) ?_
  refine va_get (D := X.1) (ci := 1) (v := .ref (y 1)) (C := RX1) (T := TX1) (N := 2) hx hb hts hiX1 hown hK.1 hP 0 rfl rfl 0 (by decide) k11 (fun _ h9 => h9) rfl dX1_keep_48 ?_
  refine lv_aload_n hx hb dX1_keep_51 rfl (lv_at hl 0 rfl) ?_
  refine va_get (D := X.1) (ci := 1) (v := .int (3 : Int32)) (C := RX1) (T := TX1) (N := 2) hx hb hts hiX1 hown hK.1 hP 0 rfl rfl 1 (by decide) k18 (fun _ h9 => h9) rfl dX1_keep_52 ?_
  refine hi_ald (b := hy 0 0) hx hb hK.1 hP 1 2 rfl rfl (by unfold vp_in; decide) rfl dX1_keep_55 ?_
  refine lv_aload_n hx hb dX1_keep_56 rfl (lv_at hl 1 rfl) ?_
  refine fn_VJ (v := none) (As := [.ref (h2 0)]) (rest := []) (st1 := []) (ws' := ((wHg X y hy (3 : Int32) (hk_g hy 1) (b0, b1, b2, b3, b4, b5, b6, b7, b8, b9, b10, b11, b12, b13) q1 q2 q3) ++ (wHo X h2 rP2 fP2 rT2 fT2 rG2 fG2 rL2 fL2 rH2 fH2 gi2 di2 re2 ti2))) (nL := 2) ⟨hx, hb, hml, hown, hts⟩ (c_X2_takeOver l X (hy 0) h2 q0.1 q0.2.1 q0.2.2.1 q0.2.2.2.1 q0.2.2.2.2.1 q0.2.2.2.2.2.1 q0.2.2.2.2.2.2.1 q0.2.2.2.2.2.2.2.1 q0.2.2.2.2.2.2.2.2.1 q0.2.2.2.2.2.2.2.2.2.1 q0.2.2.2.2.2.2.2.2.2.2.1 q0.2.2.2.2.2.2.2.2.2.2.2.1 q0.2.2.2.2.2.2.2.2.2.2.2.2.1 q0.2.2.2.2.2.2.2.2.2.2.2.2.2 rP2 fP2 rT2 fT2 rG2 fG2 rL2 fL2 rH2 fH2 gi2 di2 re2 ti2 b0 b1 b2 b3 b4 b5 b6 b7 b8 b9 b10 b11 b12 b13 hf) (cwV 1 hts gX1_keep_X2_takeOver rfl rfl rfl (by decide +kernel) ⟨Nat.le_of_ble_eq_true rfl, Nat.le_of_ble_eq_true rfl⟩) 2 rfl rfl rfl rfl hl.1 rfl (Nat.le_of_ble_eq_true rfl) dX1_keep_57 hK hP (hD0.addr (wK_fst.trans wK_fst.symm)) hS hA [2, 3, 4, 5, 6, 7, 8, 9, 10, 11, 12, 46, 47, 48, 49, 50, 51, 52, 53, 54, 55, 56] (by decide +kernel) kC_0 (kJ_0 (q' := (b0, b1, b2, b3, b4, b5, b6, b7, b8, b9, b10, b11, b12, b13))) (wK_fst.trans wK_fst.symm) rfl ⟨Nat.zero_le _, Nat.zero_le _⟩ (fun H locs hP hD hS => ?_)
  refine lv_aload_n hx hb dX1_keep_60 rfl (lv_at hl 0 rfl) ?_
  refine lv_dup hx hb dX1_keep_61 rfl ?_
  refine va_get (D := X.1) (ci := 1) (v := .int (3 : Int32)) (C := RX1) (T := TX1) (N := 2) hx hb hts hiX1 hown hK.1 hP 0 rfl rfl 1 (by decide) k18 (fun _ h9 => h9) rfl dX1_keep_62 ?_
  refine lv_iconst (v := 1) hx hb dX1_keep_65 (by decide) ?_
  refine lv_iadd hx hb dX1_keep_66 ?_
  refine lv_topi (fun v_19 ev_19 => ?_)
  obtain rfl : v_19 = (4 : Int32) := ev_19.trans (by decide)
  refine va_put (D := X.1) (ci := 1) (v := .int (4 : Int32)) (ty := .int) (C := RX1) (T := TX1) (N := 2) hx hb hts hiX1 tyX1 tyX1_ok nmX1 hown hK.1 hP (hD0.addr (wK_fst.trans wK_fst.symm)) hS 0 rfl rfl 1 (by decide) k18 (fun _ h9 => h9) rfl (by decide +kernel) rfl rfl (Nat.le_of_ble_eq_true rfl) dX1_keep_67 (fun H locs hP hD hS => ?_)
  have hP : va_P X.1 vwCl ((wHg X y hy (4 : Int32) (hk_g hy 1) (b0, b1, b2, b3, b4, b5, b6, b7, b8, b9, b10, b11, b12, b13) q1 q2 q3) ++ (wHo X h2 rP2 fP2 rT2 fT2 rG2 fG2 rL2 fL2 rH2 fH2 gi2 di2 re2 ti2)) H := hP
  exact fn_vret hx hb hr hlocks hP hS dX1_keep_70

set_option maxHeartbeats 4000000 in
set_option maxRecDepth 100000 in
theorem hk_keep_4_1 (l : Launch) (X : cx_G) (y : Nat → Nat) (hy : Nat → Nat → Nat) (q0 q1 q2 q3 : HS) (h2 : Nat → Nat) (rP2 : Int32) (fP2 : (Nat → Int32)) (rT2 : Int32) (fT2 : (Nat → Int32)) (rG2 : Int32) (fG2 : (Nat → Int32)) (rL2 : Int32) (fL2 : (Nat → Int32)) (rH2 : Int32) (fH2 : (Nat → Int32)) (gi2 : Int32) (di2 : Int32) (re2 : Int32) (ti2 : Int32) (b0 : Int32) (b1 : (Nat → Int32)) (b2 : Int32) (b3 : (Nat → Int32)) (b4 : Int32) (b5 : (Nat → Int32)) (b6 : Int32) (b7 : (Nat → Int32)) (b8 : Int32) (b9 : (Nat → Int32)) (b10 : Int32) (b11 : Int32) (b12 : Int32) (b13 : Int32) (hf : f_X2_takeOver q1.1 q1.2.1 q1.2.2.1 q1.2.2.2.1 q1.2.2.2.2.1 q1.2.2.2.2.2.1 q1.2.2.2.2.2.2.1 q1.2.2.2.2.2.2.2.1 q1.2.2.2.2.2.2.2.2.1 q1.2.2.2.2.2.2.2.2.2.1 q1.2.2.2.2.2.2.2.2.2.2.1 q1.2.2.2.2.2.2.2.2.2.2.2.1 q1.2.2.2.2.2.2.2.2.2.2.2.2.1 q1.2.2.2.2.2.2.2.2.2.2.2.2.2 rP2 fP2 rT2 fT2 rG2 fG2 rL2 fL2 rH2 fH2 gi2 di2 re2 ti2 = some (b0, b1, b2, b3, b4, b5, b6, b7, b8, b9, b10, b11, b12, b13)) : Fn l yX1_keep wsX1_keep ({ frames := 2, cells := 0, slots := 0, locals := 44 } : Room) X [.ref (y 0), .ref (h2 0)] ((wHg X y hy (4 : Int32) (hk_g hy 1) q0 q1 q2 q3) ++ (wHo X h2 rP2 fP2 rT2 fT2 rG2 fG2 rL2 fL2 rH2 fH2 gi2 di2 re2 ti2)) none ((wHg X y hy (4 : Int32) (hk_g hy 2) q0 (b0, b1, b2, b3, b4, b5, b6, b7, b8, b9, b10, b11, b12, b13) q2 q3) ++ (wHo X h2 rP2 fP2 rT2 fT2 rG2 fG2 rL2 fL2 rH2 fH2 gi2 di2 re2 ti2)) := by
  refine fn_intro (cc := cX1_keep) (maxL := 2) (ret := none) (by decide) rfl (wK_fst.trans wK_fst.symm) (Nat.le_of_ble_eq_true rfl) ?_
  intro p e s m args below meth c A ls hx hb hml hr hts hown hlocks hK hP hD0 hS hA hl
  have hown : s.vm.findClass RX1 = some m.cls := hown
  have hl : lv_has ls 2 [(0, .ref (y 0)), (1, .ref (h2 0))] := hl
  have hiX1 : ∀ w ∈ u_ws RX1 TX1 2, w ∈ wsX1_keep := by decide +kernel
  have k11 := hts (.fieldLink RX1 11 "LentRights$History" "states" "[LLentRights$House;") (by decide +kernel)
  have k18 := hts (.fieldLink RX1 18 "LentRights$History" "count" "I") (by decide +kernel)
  refine lv_aload_n hx hb dX1_keep_0 rfl (lv_at hl 0 rfl) ?_
  refine va_get (D := X.1) (ci := 1) (v := .int (4 : Int32)) (C := RX1) (T := TX1) (N := 2) hx hb hts hiX1 hown hK.1 hP 0 rfl rfl 1 (by decide) k18 (fun _ h9 => h9) rfl dX1_keep_1 ?_
  refine lv_aload_n hx hb dX1_keep_4 rfl (lv_at hl 0 rfl) ?_
  refine va_get (D := X.1) (ci := 1) (v := .ref (y 1)) (C := RX1) (T := TX1) (N := 2) hx hb hts hiX1 hown hK.1 hP 0 rfl rfl 0 (by decide) k11 (fun _ h9 => h9) rfl dX1_keep_5 ?_
  refine va_alen (v := (4 : Int32)) hx hb hK.1 hP 1 2 rfl rfl rfl dX1_keep_8 ?_
  refine lv_icmp_lt (tgt := 16) hx hb dX1_keep_9 (by decide) (fun c9 => absurd c9 (by decide)) (fun _ => ?_)
  refine lv_aload_n hx hb dX1_keep_12 rfl (lv_at hl 0 rfl) ?_
  refine fn_VJ (v := none) (As := []) (rest := []) (st1 := []) (ws' := ((wHg X y hy (3 : Int32) (hk_g hy 2) q0 q1 q2 q3) ++ (wHo X h2 rP2 fP2 rT2 fT2 rG2 fG2 rL2 fL2 rH2 fH2 gi2 di2 re2 ti2))) (nL := 2) ⟨hx, hb, hml, hown, hts⟩ (hk_makeRoom_1 l X y hy q0 q1 q2 q3) (cwV 0 hts gX1_keep_X1_makeRoom rfl rfl rfl (by decide +kernel) ⟨Nat.le_of_ble_eq_true rfl, Nat.le_of_ble_eq_true rfl⟩) 1 rfl rfl rfl rfl hl.1 rfl (Nat.le_of_ble_eq_true rfl) dX1_keep_13 hK hP (hD0.addr (wK_fst.trans wK_fst.symm)) hS hA [0, 1, 2, 3, 4, 5, 6, 7, 8, 9, 10, 11, 12, 13, 14, 15, 16, 17, 18, 19, 20, 21, 22, 23, 24, 25, 26, 27, 28, 29, 30, 31, 32, 33, 34, 35, 36, 37, 38, 39, 40, 41, 42, 43, 44, 45] (by decide +kernel) mC mJ (wK_fst.trans wK_fst.symm) rfl ⟨Nat.zero_le _, Nat.zero_le _⟩ (fun H locs hP hD hS => ?_)
  refine lv_aload_n hx hb dX1_keep_16 rfl (lv_at hl 0 rfl) ?_
  refine va_get (D := X.1) (ci := 1) (v := .int (3 : Int32)) (C := RX1) (T := TX1) (N := 2) hx hb hts hiX1 hown hK.1 hP 0 rfl rfl 1 (by decide) k18 (fun _ h9 => h9) rfl dX1_keep_17 ?_
  refine lv_if_lt (tgt := 70) hx hb dX1_keep_20 (by decide) (fun c9 => absurd c9 (by decide)) (fun _ => ?_)
  refine lv_aload_n hx hb dX1_keep_23 rfl (lv_at hl 0 rfl) ?_
  refine va_get (D := X.1) (ci := 1) (v := .int (3 : Int32)) (C := RX1) (T := TX1) (N := 2) hx hb hts hiX1 hown hK.1 hP 0 rfl rfl 1 (by decide) k18 (fun _ h9 => h9) rfl dX1_keep_24 ?_
  refine lv_aload_n hx hb dX1_keep_27 rfl (lv_at hl 0 rfl) ?_
  refine va_get (D := X.1) (ci := 1) (v := .ref (y 1)) (C := RX1) (T := TX1) (N := 2) hx hb hts hiX1 hown hK.1 hP 0 rfl rfl 0 (by decide) k11 (fun _ h9 => h9) rfl dX1_keep_28 ?_
  refine va_alen (v := (4 : Int32)) hx hb hK.1 hP 1 2 rfl rfl rfl dX1_keep_31 ?_
  refine lv_icmp_ge (tgt := 70) hx hb dX1_keep_32 (by decide) (fun c9 => absurd c9 (by decide)) (fun _ => ?_)
  refine lv_aload_n hx hb dX1_keep_35 rfl (lv_at hl 0 rfl) ?_
  refine va_get (D := X.1) (ci := 1) (v := .ref (y 1)) (C := RX1) (T := TX1) (N := 2) hx hb hts hiX1 hown hK.1 hP 0 rfl rfl 0 (by decide) k11 (fun _ h9 => h9) rfl dX1_keep_36 ?_
  refine lv_aload_n hx hb dX1_keep_39 rfl (lv_at hl 0 rfl) ?_
  refine va_get (D := X.1) (ci := 1) (v := .int (3 : Int32)) (C := RX1) (T := TX1) (N := 2) hx hb hts hiX1 hown hK.1 hP 0 rfl rfl 1 (by decide) k18 (fun _ h9 => h9) rfl dX1_keep_40 ?_
  refine hi_ald (b := hy 1 0) hx hb hK.1 hP 1 2 rfl rfl (by unfold vp_in; decide) rfl dX1_keep_43 ?_
  refine lv_ifnull hx hb dX1_keep_44 ?_
  refine lv_aload_n hx hb dX1_keep_47 rfl (lv_at hl 0 rfl) ?_
  refine va_get (D := X.1) (ci := 1) (v := .ref (y 1)) (C := RX1) (T := TX1) (N := 2) hx hb hts hiX1 hown hK.1 hP 0 rfl rfl 0 (by decide) k11 (fun _ h9 => h9) rfl dX1_keep_48 ?_
  refine lv_aload_n hx hb dX1_keep_51 rfl (lv_at hl 0 rfl) ?_
  refine va_get (D := X.1) (ci := 1) (v := .int (3 : Int32)) (C := RX1) (T := TX1) (N := 2) hx hb hts hiX1 hown hK.1 hP 0 rfl rfl 1 (by decide) k18 (fun _ h9 => h9) rfl dX1_keep_52 ?_
  refine hi_ald (b := hy 1 0) hx hb hK.1 hP 1 2 rfl rfl (by unfold vp_in; decide) rfl dX1_keep_55 ?_
  refine lv_aload_n hx hb dX1_keep_56 rfl (lv_at hl 1 rfl) ?_
  refine fn_VJ (v := none) (As := [.ref (h2 0)]) (rest := []) (st1 := []) (ws' := ((wHg X y hy (3 : Int32) (hk_g hy 2) q0 (b0, b1, b2, b3, b4, b5, b6, b7, b8, b9, b10, b11, b12, b13) q2 q3) ++ (wHo X h2 rP2 fP2 rT2 fT2 rG2 fG2 rL2 fL2 rH2 fH2 gi2 di2 re2 ti2))) (nL := 2) ⟨hx, hb, hml, hown, hts⟩ (c_X2_takeOver l X (hy 1) h2 q1.1 q1.2.1 q1.2.2.1 q1.2.2.2.1 q1.2.2.2.2.1 q1.2.2.2.2.2.1 q1.2.2.2.2.2.2.1 q1.2.2.2.2.2.2.2.1 q1.2.2.2.2.2.2.2.2.1 q1.2.2.2.2.2.2.2.2.2.1 q1.2.2.2.2.2.2.2.2.2.2.1 q1.2.2.2.2.2.2.2.2.2.2.2.1 q1.2.2.2.2.2.2.2.2.2.2.2.2.1 q1.2.2.2.2.2.2.2.2.2.2.2.2.2 rP2 fP2 rT2 fT2 rG2 fG2 rL2 fL2 rH2 fH2 gi2 di2 re2 ti2 b0 b1 b2 b3 b4 b5 b6 b7 b8 b9 b10 b11 b12 b13 hf) (cwV 1 hts gX1_keep_X2_takeOver rfl rfl rfl (by decide +kernel) ⟨Nat.le_of_ble_eq_true rfl, Nat.le_of_ble_eq_true rfl⟩) 2 rfl rfl rfl rfl hl.1 rfl (Nat.le_of_ble_eq_true rfl) dX1_keep_57 hK hP (hD0.addr (wK_fst.trans wK_fst.symm)) hS hA [13, 14, 15, 16, 17, 18, 19, 20, 21, 22, 23, 46, 47, 48, 49, 50, 51, 52, 53, 54, 55, 56] (by decide +kernel) kC_1 (kJ_1 (q' := (b0, b1, b2, b3, b4, b5, b6, b7, b8, b9, b10, b11, b12, b13))) (wK_fst.trans wK_fst.symm) rfl ⟨Nat.zero_le _, Nat.zero_le _⟩ (fun H locs hP hD hS => ?_)
  refine lv_aload_n hx hb dX1_keep_60 rfl (lv_at hl 0 rfl) ?_
  refine lv_dup hx hb dX1_keep_61 rfl ?_
  refine va_get (D := X.1) (ci := 1) (v := .int (3 : Int32)) (C := RX1) (T := TX1) (N := 2) hx hb hts hiX1 hown hK.1 hP 0 rfl rfl 1 (by decide) k18 (fun _ h9 => h9) rfl dX1_keep_62 ?_
  refine lv_iconst (v := 1) hx hb dX1_keep_65 (by decide) ?_
  refine lv_iadd hx hb dX1_keep_66 ?_
  refine lv_topi (fun v_20 ev_20 => ?_)
  obtain rfl : v_20 = (4 : Int32) := ev_20.trans (by decide)
  refine va_put (D := X.1) (ci := 1) (v := .int (4 : Int32)) (ty := .int) (C := RX1) (T := TX1) (N := 2) hx hb hts hiX1 tyX1 tyX1_ok nmX1 hown hK.1 hP (hD0.addr (wK_fst.trans wK_fst.symm)) hS 0 rfl rfl 1 (by decide) k18 (fun _ h9 => h9) rfl (by decide +kernel) rfl rfl (Nat.le_of_ble_eq_true rfl) dX1_keep_67 (fun H locs hP hD hS => ?_)
  have hP : va_P X.1 vwCl ((wHg X y hy (4 : Int32) (hk_g hy 2) q0 (b0, b1, b2, b3, b4, b5, b6, b7, b8, b9, b10, b11, b12, b13) q2 q3) ++ (wHo X h2 rP2 fP2 rT2 fT2 rG2 fG2 rL2 fL2 rH2 fH2 gi2 di2 re2 ti2)) H := hP
  exact fn_vret hx hb hr hlocks hP hS dX1_keep_70

set_option maxHeartbeats 4000000 in
set_option maxRecDepth 100000 in
theorem hk_keep_0_2 (l : Launch) (X : cx_G) (y : Nat → Nat) (hy : Nat → Nat → Nat) (q0 q1 q2 q3 : HS) (h2 : Nat → Nat) (rP2 : Int32) (fP2 : (Nat → Int32)) (rT2 : Int32) (fT2 : (Nat → Int32)) (rG2 : Int32) (fG2 : (Nat → Int32)) (rL2 : Int32) (fL2 : (Nat → Int32)) (rH2 : Int32) (fH2 : (Nat → Int32)) (gi2 : Int32) (di2 : Int32) (re2 : Int32) (ti2 : Int32) (b0 : Int32) (b1 : (Nat → Int32)) (b2 : Int32) (b3 : (Nat → Int32)) (b4 : Int32) (b5 : (Nat → Int32)) (b6 : Int32) (b7 : (Nat → Int32)) (b8 : Int32) (b9 : (Nat → Int32)) (b10 : Int32) (b11 : Int32) (b12 : Int32) (b13 : Int32) (hf : f_X2_takeOver q2.1 q2.2.1 q2.2.2.1 q2.2.2.2.1 q2.2.2.2.2.1 q2.2.2.2.2.2.1 q2.2.2.2.2.2.2.1 q2.2.2.2.2.2.2.2.1 q2.2.2.2.2.2.2.2.2.1 q2.2.2.2.2.2.2.2.2.2.1 q2.2.2.2.2.2.2.2.2.2.2.1 q2.2.2.2.2.2.2.2.2.2.2.2.1 q2.2.2.2.2.2.2.2.2.2.2.2.2.1 q2.2.2.2.2.2.2.2.2.2.2.2.2.2 rP2 fP2 rT2 fT2 rG2 fG2 rL2 fL2 rH2 fH2 gi2 di2 re2 ti2 = some (b0, b1, b2, b3, b4, b5, b6, b7, b8, b9, b10, b11, b12, b13)) : Fn l yX1_keep wsX1_keep ({ frames := 2, cells := 0, slots := 0, locals := 44 } : Room) X [.ref (y 0), .ref (h2 0)] ((wHg X y hy (0 : Int32) (hk_g hy 2) q0 q1 q2 q3) ++ (wHo X h2 rP2 fP2 rT2 fT2 rG2 fG2 rL2 fL2 rH2 fH2 gi2 di2 re2 ti2)) none ((wHg X y hy (1 : Int32) (hk_g hy 2) q0 q1 (b0, b1, b2, b3, b4, b5, b6, b7, b8, b9, b10, b11, b12, b13) q3) ++ (wHo X h2 rP2 fP2 rT2 fT2 rG2 fG2 rL2 fL2 rH2 fH2 gi2 di2 re2 ti2)) := by
  refine fn_intro (cc := cX1_keep) (maxL := 2) (ret := none) (by decide) rfl (wK_fst.trans wK_fst.symm) (Nat.le_of_ble_eq_true rfl) ?_
  intro p e s m args below meth c A ls hx hb hml hr hts hown hlocks hK hP hD0 hS hA hl
  have hown : s.vm.findClass RX1 = some m.cls := hown
  have hl : lv_has ls 2 [(0, .ref (y 0)), (1, .ref (h2 0))] := hl
  have hiX1 : ∀ w ∈ u_ws RX1 TX1 2, w ∈ wsX1_keep := by decide +kernel
  have k11 := hts (.fieldLink RX1 11 "LentRights$History" "states" "[LLentRights$House;") (by decide +kernel)
  have k18 := hts (.fieldLink RX1 18 "LentRights$History" "count" "I") (by decide +kernel)
  refine lv_aload_n hx hb dX1_keep_0 rfl (lv_at hl 0 rfl) ?_
  refine va_get (D := X.1) (ci := 1) (v := .int (0 : Int32)) (C := RX1) (T := TX1) (N := 2) hx hb hts hiX1 hown hK.1 hP 0 rfl rfl 1 (by decide) k18 (fun _ h9 => h9) rfl dX1_keep_1 ?_
  refine lv_aload_n hx hb dX1_keep_4 rfl (lv_at hl 0 rfl) ?_
  refine va_get (D := X.1) (ci := 1) (v := .ref (y 1)) (C := RX1) (T := TX1) (N := 2) hx hb hts hiX1 hown hK.1 hP 0 rfl rfl 0 (by decide) k11 (fun _ h9 => h9) rfl dX1_keep_5 ?_
  refine va_alen (v := (4 : Int32)) hx hb hK.1 hP 1 2 rfl rfl rfl dX1_keep_8 ?_
  refine lv_icmp_lt (tgt := 16) hx hb dX1_keep_9 (by decide) (fun _ => ?_) (fun c9 => absurd c9 (by decide))
  refine lv_aload_n hx hb dX1_keep_16 rfl (lv_at hl 0 rfl) ?_
  refine va_get (D := X.1) (ci := 1) (v := .int (0 : Int32)) (C := RX1) (T := TX1) (N := 2) hx hb hts hiX1 hown hK.1 hP 0 rfl rfl 1 (by decide) k18 (fun _ h9 => h9) rfl dX1_keep_17 ?_
  refine lv_if_lt (tgt := 70) hx hb dX1_keep_20 (by decide) (fun c9 => absurd c9 (by decide)) (fun _ => ?_)
  refine lv_aload_n hx hb dX1_keep_23 rfl (lv_at hl 0 rfl) ?_
  refine va_get (D := X.1) (ci := 1) (v := .int (0 : Int32)) (C := RX1) (T := TX1) (N := 2) hx hb hts hiX1 hown hK.1 hP 0 rfl rfl 1 (by decide) k18 (fun _ h9 => h9) rfl dX1_keep_24 ?_
  refine lv_aload_n hx hb dX1_keep_27 rfl (lv_at hl 0 rfl) ?_
  refine va_get (D := X.1) (ci := 1) (v := .ref (y 1)) (C := RX1) (T := TX1) (N := 2) hx hb hts hiX1 hown hK.1 hP 0 rfl rfl 0 (by decide) k11 (fun _ h9 => h9) rfl dX1_keep_28 ?_
  refine va_alen (v := (4 : Int32)) hx hb hK.1 hP 1 2 rfl rfl rfl dX1_keep_31 ?_
  refine lv_icmp_ge (tgt := 70) hx hb dX1_keep_32 (by decide) (fun c9 => absurd c9 (by decide)) (fun _ => ?_)
  refine lv_aload_n hx hb dX1_keep_35 rfl (lv_at hl 0 rfl) ?_
  refine va_get (D := X.1) (ci := 1) (v := .ref (y 1)) (C := RX1) (T := TX1) (N := 2) hx hb hts hiX1 hown hK.1 hP 0 rfl rfl 0 (by decide) k11 (fun _ h9 => h9) rfl dX1_keep_36 ?_
  refine lv_aload_n hx hb dX1_keep_39 rfl (lv_at hl 0 rfl) ?_
  refine va_get (D := X.1) (ci := 1) (v := .int (0 : Int32)) (C := RX1) (T := TX1) (N := 2) hx hb hts hiX1 hown hK.1 hP 0 rfl rfl 1 (by decide) k18 (fun _ h9 => h9) rfl dX1_keep_40 ?_
  refine hi_ald (b := hy 2 0) hx hb hK.1 hP 1 2 rfl rfl (by unfold vp_in; decide) rfl dX1_keep_43 ?_
  refine lv_ifnull hx hb dX1_keep_44 ?_
  refine lv_aload_n hx hb dX1_keep_47 rfl (lv_at hl 0 rfl) ?_
  refine va_get (D := X.1) (ci := 1) (v := .ref (y 1)) (C := RX1) (T := TX1) (N := 2) hx hb hts hiX1 hown hK.1 hP 0 rfl rfl 0 (by decide) k11 (fun _ h9 => h9) rfl dX1_keep_48 ?_
  refine lv_aload_n hx hb dX1_keep_51 rfl (lv_at hl 0 rfl) ?_
  refine va_get (D := X.1) (ci := 1) (v := .int (0 : Int32)) (C := RX1) (T := TX1) (N := 2) hx hb hts hiX1 hown hK.1 hP 0 rfl rfl 1 (by decide) k18 (fun _ h9 => h9) rfl dX1_keep_52 ?_
  refine hi_ald (b := hy 2 0) hx hb hK.1 hP 1 2 rfl rfl (by unfold vp_in; decide) rfl dX1_keep_55 ?_
  refine lv_aload_n hx hb dX1_keep_56 rfl (lv_at hl 1 rfl) ?_
  refine fn_VJ (v := none) (As := [.ref (h2 0)]) (rest := []) (st1 := []) (ws' := ((wHg X y hy (0 : Int32) (hk_g hy 2) q0 q1 (b0, b1, b2, b3, b4, b5, b6, b7, b8, b9, b10, b11, b12, b13) q3) ++ (wHo X h2 rP2 fP2 rT2 fT2 rG2 fG2 rL2 fL2 rH2 fH2 gi2 di2 re2 ti2))) (nL := 2) ⟨hx, hb, hml, hown, hts⟩ (c_X2_takeOver l X (hy 2) h2 q2.1 q2.2.1 q2.2.2.1 q2.2.2.2.1 q2.2.2.2.2.1 q2.2.2.2.2.2.1 q2.2.2.2.2.2.2.1 q2.2.2.2.2.2.2.2.1 q2.2.2.2.2.2.2.2.2.1 q2.2.2.2.2.2.2.2.2.2.1 q2.2.2.2.2.2.2.2.2.2.2.1 q2.2.2.2.2.2.2.2.2.2.2.2.1 q2.2.2.2.2.2.2.2.2.2.2.2.2.1 q2.2.2.2.2.2.2.2.2.2.2.2.2.2 rP2 fP2 rT2 fT2 rG2 fG2 rL2 fL2 rH2 fH2 gi2 di2 re2 ti2 b0 b1 b2 b3 b4 b5 b6 b7 b8 b9 b10 b11 b12 b13 hf) (cwV 1 hts gX1_keep_X2_takeOver rfl rfl rfl (by decide +kernel) ⟨Nat.le_of_ble_eq_true rfl, Nat.le_of_ble_eq_true rfl⟩) 2 rfl rfl rfl rfl hl.1 rfl (Nat.le_of_ble_eq_true rfl) dX1_keep_57 hK hP (hD0.addr (wK_fst.trans wK_fst.symm)) hS hA [24, 25, 26, 27, 28, 29, 30, 31, 32, 33, 34, 46, 47, 48, 49, 50, 51, 52, 53, 54, 55, 56] (by decide +kernel) kC_2 (kJ_2 (q' := (b0, b1, b2, b3, b4, b5, b6, b7, b8, b9, b10, b11, b12, b13))) (wK_fst.trans wK_fst.symm) rfl ⟨Nat.zero_le _, Nat.zero_le _⟩ (fun H locs hP hD hS => ?_)
  refine lv_aload_n hx hb dX1_keep_60 rfl (lv_at hl 0 rfl) ?_
  refine lv_dup hx hb dX1_keep_61 rfl ?_
  refine va_get (D := X.1) (ci := 1) (v := .int (0 : Int32)) (C := RX1) (T := TX1) (N := 2) hx hb hts hiX1 hown hK.1 hP 0 rfl rfl 1 (by decide) k18 (fun _ h9 => h9) rfl dX1_keep_62 ?_
  refine lv_iconst (v := 1) hx hb dX1_keep_65 (by decide) ?_
  refine lv_iadd hx hb dX1_keep_66 ?_
  refine lv_topi (fun v_19 ev_19 => ?_)
  obtain rfl : v_19 = (1 : Int32) := ev_19.trans (by decide)
  refine va_put (D := X.1) (ci := 1) (v := .int (1 : Int32)) (ty := .int) (C := RX1) (T := TX1) (N := 2) hx hb hts hiX1 tyX1 tyX1_ok nmX1 hown hK.1 hP (hD0.addr (wK_fst.trans wK_fst.symm)) hS 0 rfl rfl 1 (by decide) k18 (fun _ h9 => h9) rfl (by decide +kernel) rfl rfl (Nat.le_of_ble_eq_true rfl) dX1_keep_67 (fun H locs hP hD hS => ?_)
  have hP : va_P X.1 vwCl ((wHg X y hy (1 : Int32) (hk_g hy 2) q0 q1 (b0, b1, b2, b3, b4, b5, b6, b7, b8, b9, b10, b11, b12, b13) q3) ++ (wHo X h2 rP2 fP2 rT2 fT2 rG2 fG2 rL2 fL2 rH2 fH2 gi2 di2 re2 ti2)) H := hP
  exact fn_vret hx hb hr hlocks hP hS dX1_keep_70

set_option maxHeartbeats 4000000 in
set_option maxRecDepth 100000 in
theorem hk_keep_1_2 (l : Launch) (X : cx_G) (y : Nat → Nat) (hy : Nat → Nat → Nat) (q0 q1 q2 q3 : HS) (h2 : Nat → Nat) (rP2 : Int32) (fP2 : (Nat → Int32)) (rT2 : Int32) (fT2 : (Nat → Int32)) (rG2 : Int32) (fG2 : (Nat → Int32)) (rL2 : Int32) (fL2 : (Nat → Int32)) (rH2 : Int32) (fH2 : (Nat → Int32)) (gi2 : Int32) (di2 : Int32) (re2 : Int32) (ti2 : Int32) (b0 : Int32) (b1 : (Nat → Int32)) (b2 : Int32) (b3 : (Nat → Int32)) (b4 : Int32) (b5 : (Nat → Int32)) (b6 : Int32) (b7 : (Nat → Int32)) (b8 : Int32) (b9 : (Nat → Int32)) (b10 : Int32) (b11 : Int32) (b12 : Int32) (b13 : Int32) (hf : f_X2_takeOver q3.1 q3.2.1 q3.2.2.1 q3.2.2.2.1 q3.2.2.2.2.1 q3.2.2.2.2.2.1 q3.2.2.2.2.2.2.1 q3.2.2.2.2.2.2.2.1 q3.2.2.2.2.2.2.2.2.1 q3.2.2.2.2.2.2.2.2.2.1 q3.2.2.2.2.2.2.2.2.2.2.1 q3.2.2.2.2.2.2.2.2.2.2.2.1 q3.2.2.2.2.2.2.2.2.2.2.2.2.1 q3.2.2.2.2.2.2.2.2.2.2.2.2.2 rP2 fP2 rT2 fT2 rG2 fG2 rL2 fL2 rH2 fH2 gi2 di2 re2 ti2 = some (b0, b1, b2, b3, b4, b5, b6, b7, b8, b9, b10, b11, b12, b13)) : Fn l yX1_keep wsX1_keep ({ frames := 2, cells := 0, slots := 0, locals := 44 } : Room) X [.ref (y 0), .ref (h2 0)] ((wHg X y hy (1 : Int32) (hk_g hy 2) q0 q1 q2 q3) ++ (wHo X h2 rP2 fP2 rT2 fT2 rG2 fG2 rL2 fL2 rH2 fH2 gi2 di2 re2 ti2)) none ((wHg X y hy (2 : Int32) (hk_g hy 2) q0 q1 q2 (b0, b1, b2, b3, b4, b5, b6, b7, b8, b9, b10, b11, b12, b13)) ++ (wHo X h2 rP2 fP2 rT2 fT2 rG2 fG2 rL2 fL2 rH2 fH2 gi2 di2 re2 ti2)) := by
  refine fn_intro (cc := cX1_keep) (maxL := 2) (ret := none) (by decide) rfl (wK_fst.trans wK_fst.symm) (Nat.le_of_ble_eq_true rfl) ?_
  intro p e s m args below meth c A ls hx hb hml hr hts hown hlocks hK hP hD0 hS hA hl
  have hown : s.vm.findClass RX1 = some m.cls := hown
  have hl : lv_has ls 2 [(0, .ref (y 0)), (1, .ref (h2 0))] := hl
  have hiX1 : ∀ w ∈ u_ws RX1 TX1 2, w ∈ wsX1_keep := by decide +kernel
  have k11 := hts (.fieldLink RX1 11 "LentRights$History" "states" "[LLentRights$House;") (by decide +kernel)
  have k18 := hts (.fieldLink RX1 18 "LentRights$History" "count" "I") (by decide +kernel)
  refine lv_aload_n hx hb dX1_keep_0 rfl (lv_at hl 0 rfl) ?_
  refine va_get (D := X.1) (ci := 1) (v := .int (1 : Int32)) (C := RX1) (T := TX1) (N := 2) hx hb hts hiX1 hown hK.1 hP 0 rfl rfl 1 (by decide) k18 (fun _ h9 => h9) rfl dX1_keep_1 ?_
  refine lv_aload_n hx hb dX1_keep_4 rfl (lv_at hl 0 rfl) ?_
  refine va_get (D := X.1) (ci := 1) (v := .ref (y 1)) (C := RX1) (T := TX1) (N := 2) hx hb hts hiX1 hown hK.1 hP 0 rfl rfl 0 (by decide) k11 (fun _ h9 => h9) rfl dX1_keep_5 ?_
  refine va_alen (v := (4 : Int32)) hx hb hK.1 hP 1 2 rfl rfl rfl dX1_keep_8 ?_
  refine lv_icmp_lt (tgt := 16) hx hb dX1_keep_9 (by decide) (fun _ => ?_) (fun c9 => absurd c9 (by decide))
  refine lv_aload_n hx hb dX1_keep_16 rfl (lv_at hl 0 rfl) ?_
  refine va_get (D := X.1) (ci := 1) (v := .int (1 : Int32)) (C := RX1) (T := TX1) (N := 2) hx hb hts hiX1 hown hK.1 hP 0 rfl rfl 1 (by decide) k18 (fun _ h9 => h9) rfl dX1_keep_17 ?_
  refine lv_if_lt (tgt := 70) hx hb dX1_keep_20 (by decide) (fun c9 => absurd c9 (by decide)) (fun _ => ?_)
  refine lv_aload_n hx hb dX1_keep_23 rfl (lv_at hl 0 rfl) ?_
  refine va_get (D := X.1) (ci := 1) (v := .int (1 : Int32)) (C := RX1) (T := TX1) (N := 2) hx hb hts hiX1 hown hK.1 hP 0 rfl rfl 1 (by decide) k18 (fun _ h9 => h9) rfl dX1_keep_24 ?_
  refine lv_aload_n hx hb dX1_keep_27 rfl (lv_at hl 0 rfl) ?_
  refine va_get (D := X.1) (ci := 1) (v := .ref (y 1)) (C := RX1) (T := TX1) (N := 2) hx hb hts hiX1 hown hK.1 hP 0 rfl rfl 0 (by decide) k11 (fun _ h9 => h9) rfl dX1_keep_28 ?_
  refine va_alen (v := (4 : Int32)) hx hb hK.1 hP 1 2 rfl rfl rfl dX1_keep_31 ?_
  refine lv_icmp_ge (tgt := 70) hx hb dX1_keep_32 (by decide) (fun c9 => absurd c9 (by decide)) (fun _ => ?_)
  refine lv_aload_n hx hb dX1_keep_35 rfl (lv_at hl 0 rfl) ?_
  refine va_get (D := X.1) (ci := 1) (v := .ref (y 1)) (C := RX1) (T := TX1) (N := 2) hx hb hts hiX1 hown hK.1 hP 0 rfl rfl 0 (by decide) k11 (fun _ h9 => h9) rfl dX1_keep_36 ?_
  refine lv_aload_n hx hb dX1_keep_39 rfl (lv_at hl 0 rfl) ?_
  refine va_get (D := X.1) (ci := 1) (v := .int (1 : Int32)) (C := RX1) (T := TX1) (N := 2) hx hb hts hiX1 hown hK.1 hP 0 rfl rfl 1 (by decide) k18 (fun _ h9 => h9) rfl dX1_keep_40 ?_
  refine hi_ald (b := hy 3 0) hx hb hK.1 hP 1 2 rfl rfl (by unfold vp_in; decide) rfl dX1_keep_43 ?_
  refine lv_ifnull hx hb dX1_keep_44 ?_
  refine lv_aload_n hx hb dX1_keep_47 rfl (lv_at hl 0 rfl) ?_
  refine va_get (D := X.1) (ci := 1) (v := .ref (y 1)) (C := RX1) (T := TX1) (N := 2) hx hb hts hiX1 hown hK.1 hP 0 rfl rfl 0 (by decide) k11 (fun _ h9 => h9) rfl dX1_keep_48 ?_
  refine lv_aload_n hx hb dX1_keep_51 rfl (lv_at hl 0 rfl) ?_
  refine va_get (D := X.1) (ci := 1) (v := .int (1 : Int32)) (C := RX1) (T := TX1) (N := 2) hx hb hts hiX1 hown hK.1 hP 0 rfl rfl 1 (by decide) k18 (fun _ h9 => h9) rfl dX1_keep_52 ?_
  refine hi_ald (b := hy 3 0) hx hb hK.1 hP 1 2 rfl rfl (by unfold vp_in; decide) rfl dX1_keep_55 ?_
  refine lv_aload_n hx hb dX1_keep_56 rfl (lv_at hl 1 rfl) ?_
  refine fn_VJ (v := none) (As := [.ref (h2 0)]) (rest := []) (st1 := []) (ws' := ((wHg X y hy (1 : Int32) (hk_g hy 2) q0 q1 q2 (b0, b1, b2, b3, b4, b5, b6, b7, b8, b9, b10, b11, b12, b13)) ++ (wHo X h2 rP2 fP2 rT2 fT2 rG2 fG2 rL2 fL2 rH2 fH2 gi2 di2 re2 ti2))) (nL := 2) ⟨hx, hb, hml, hown, hts⟩ (c_X2_takeOver l X (hy 3) h2 q3.1 q3.2.1 q3.2.2.1 q3.2.2.2.1 q3.2.2.2.2.1 q3.2.2.2.2.2.1 q3.2.2.2.2.2.2.1 q3.2.2.2.2.2.2.2.1 q3.2.2.2.2.2.2.2.2.1 q3.2.2.2.2.2.2.2.2.2.1 q3.2.2.2.2.2.2.2.2.2.2.1 q3.2.2.2.2.2.2.2.2.2.2.2.1 q3.2.2.2.2.2.2.2.2.2.2.2.2.1 q3.2.2.2.2.2.2.2.2.2.2.2.2.2 rP2 fP2 rT2 fT2 rG2 fG2 rL2 fL2 rH2 fH2 gi2 di2 re2 ti2 b0 b1 b2 b3 b4 b5 b6 b7 b8 b9 b10 b11 b12 b13 hf) (cwV 1 hts gX1_keep_X2_takeOver rfl rfl rfl (by decide +kernel) ⟨Nat.le_of_ble_eq_true rfl, Nat.le_of_ble_eq_true rfl⟩) 2 rfl rfl rfl rfl hl.1 rfl (Nat.le_of_ble_eq_true rfl) dX1_keep_57 hK hP (hD0.addr (wK_fst.trans wK_fst.symm)) hS hA [35, 36, 37, 38, 39, 40, 41, 42, 43, 44, 45, 46, 47, 48, 49, 50, 51, 52, 53, 54, 55, 56] (by decide +kernel) kC_3 (kJ_3 (q' := (b0, b1, b2, b3, b4, b5, b6, b7, b8, b9, b10, b11, b12, b13))) (wK_fst.trans wK_fst.symm) rfl ⟨Nat.zero_le _, Nat.zero_le _⟩ (fun H locs hP hD hS => ?_)
  refine lv_aload_n hx hb dX1_keep_60 rfl (lv_at hl 0 rfl) ?_
  refine lv_dup hx hb dX1_keep_61 rfl ?_
  refine va_get (D := X.1) (ci := 1) (v := .int (1 : Int32)) (C := RX1) (T := TX1) (N := 2) hx hb hts hiX1 hown hK.1 hP 0 rfl rfl 1 (by decide) k18 (fun _ h9 => h9) rfl dX1_keep_62 ?_
  refine lv_iconst (v := 1) hx hb dX1_keep_65 (by decide) ?_
  refine lv_iadd hx hb dX1_keep_66 ?_
  refine lv_topi (fun v_19 ev_19 => ?_)
  obtain rfl : v_19 = (2 : Int32) := ev_19.trans (by decide)
  refine va_put (D := X.1) (ci := 1) (v := .int (2 : Int32)) (ty := .int) (C := RX1) (T := TX1) (N := 2) hx hb hts hiX1 tyX1 tyX1_ok nmX1 hown hK.1 hP (hD0.addr (wK_fst.trans wK_fst.symm)) hS 0 rfl rfl 1 (by decide) k18 (fun _ h9 => h9) rfl (by decide +kernel) rfl rfl (Nat.le_of_ble_eq_true rfl) dX1_keep_67 (fun H locs hP hD hS => ?_)
  have hP : va_P X.1 vwCl ((wHg X y hy (2 : Int32) (hk_g hy 2) q0 q1 q2 (b0, b1, b2, b3, b4, b5, b6, b7, b8, b9, b10, b11, b12, b13)) ++ (wHo X h2 rP2 fP2 rT2 fT2 rG2 fG2 rL2 fL2 rH2 fH2 gi2 di2 re2 ti2)) H := hP
  exact fn_vret hx hb hr hlocks hP hS dX1_keep_70

set_option maxHeartbeats 4000000 in
set_option maxRecDepth 100000 in
theorem hk_keep_2_2 (l : Launch) (X : cx_G) (y : Nat → Nat) (hy : Nat → Nat → Nat) (q0 q1 q2 q3 : HS) (h2 : Nat → Nat) (rP2 : Int32) (fP2 : (Nat → Int32)) (rT2 : Int32) (fT2 : (Nat → Int32)) (rG2 : Int32) (fG2 : (Nat → Int32)) (rL2 : Int32) (fL2 : (Nat → Int32)) (rH2 : Int32) (fH2 : (Nat → Int32)) (gi2 : Int32) (di2 : Int32) (re2 : Int32) (ti2 : Int32) (b0 : Int32) (b1 : (Nat → Int32)) (b2 : Int32) (b3 : (Nat → Int32)) (b4 : Int32) (b5 : (Nat → Int32)) (b6 : Int32) (b7 : (Nat → Int32)) (b8 : Int32) (b9 : (Nat → Int32)) (b10 : Int32) (b11 : Int32) (b12 : Int32) (b13 : Int32) (hf : f_X2_takeOver q0.1 q0.2.1 q0.2.2.1 q0.2.2.2.1 q0.2.2.2.2.1 q0.2.2.2.2.2.1 q0.2.2.2.2.2.2.1 q0.2.2.2.2.2.2.2.1 q0.2.2.2.2.2.2.2.2.1 q0.2.2.2.2.2.2.2.2.2.1 q0.2.2.2.2.2.2.2.2.2.2.1 q0.2.2.2.2.2.2.2.2.2.2.2.1 q0.2.2.2.2.2.2.2.2.2.2.2.2.1 q0.2.2.2.2.2.2.2.2.2.2.2.2.2 rP2 fP2 rT2 fT2 rG2 fG2 rL2 fL2 rH2 fH2 gi2 di2 re2 ti2 = some (b0, b1, b2, b3, b4, b5, b6, b7, b8, b9, b10, b11, b12, b13)) : Fn l yX1_keep wsX1_keep ({ frames := 2, cells := 0, slots := 0, locals := 44 } : Room) X [.ref (y 0), .ref (h2 0)] ((wHg X y hy (2 : Int32) (hk_g hy 2) q0 q1 q2 q3) ++ (wHo X h2 rP2 fP2 rT2 fT2 rG2 fG2 rL2 fL2 rH2 fH2 gi2 di2 re2 ti2)) none ((wHg X y hy (3 : Int32) (hk_g hy 2) (b0, b1, b2, b3, b4, b5, b6, b7, b8, b9, b10, b11, b12, b13) q1 q2 q3) ++ (wHo X h2 rP2 fP2 rT2 fT2 rG2 fG2 rL2 fL2 rH2 fH2 gi2 di2 re2 ti2)) := by
  refine fn_intro (cc := cX1_keep) (maxL := 2) (ret := none) (by decide) rfl (wK_fst.trans wK_fst.symm) (Nat.le_of_ble_eq_true rfl) ?_
  intro p e s m args below meth c A ls hx hb hml hr hts hown hlocks hK hP hD0 hS hA hl
  have hown : s.vm.findClass RX1 = some m.cls := hown
  have hl : lv_has ls 2 [(0, .ref (y 0)), (1, .ref (h2 0))] := hl
  have hiX1 : ∀ w ∈ u_ws RX1 TX1 2, w ∈ wsX1_keep := by decide +kernel
  have k11 := hts (.fieldLink RX1 11 "LentRights$History" "states" "[LLentRights$House;") (by decide +kernel)
  have k18 := hts (.fieldLink RX1 18 "LentRights$History" "count" "I") (by decide +kernel)
  refine lv_aload_n hx hb dX1_keep_0 rfl (lv_at hl 0 rfl) ?_
  refine va_get (D := X.1) (ci := 1) (v := .int (2 : Int32)) (C := RX1) (T := TX1) (N := 2) hx hb hts hiX1 hown hK.1 hP 0 rfl rfl 1 (by decide) k18 (fun _ h9 => h9) rfl dX1_keep_1 ?_
  refine lv_aload_n hx hb dX1_keep_4 rfl (lv_at hl 0 rfl) ?_
  refine va_get (D := X.1) (ci := 1) (v := .ref (y 1)) (C := RX1) (T := TX1) (N := 2) hx hb hts hiX1 hown hK.1 hP 0 rfl rfl 0 (by decide) k11 (fun _ h9 => h9) rfl dX1_keep_5 ?_
  refine va_alen (v := (4 : Int32)) hx hb hK.1 hP 1 2 rfl rfl rfl dX1_keep_8 ?_
  refine lv_icmp_lt (tgt := 16) hx hb dX1_keep_9 (by decide) (fun _ => ?_) (fun c9 => absurd c9 (by decide))
  refine lv_aload_n hx hb dX1_keep_16 rfl (lv_at hl 0 rfl) ?_
  refine va_get (D := X.1) (ci := 1) (v := .int (2 : Int32)) (C := RX1) (T := TX1) (N := 2) hx hb hts hiX1 hown hK.1 hP 0 rfl rfl 1 (by decide) k18 (fun _ h9 => h9) rfl dX1_keep_17 ?_
  refine lv_if_lt (tgt := 70) hx hb dX1_keep_20 (by decide) (fun c9 => absurd c9 (by decide)) (fun _ => ?_)
  refine lv_aload_n hx hb dX1_keep_23 rfl (lv_at hl 0 rfl) ?_
  refine va_get (D := X.1) (ci := 1) (v := .int (2 : Int32)) (C := RX1) (T := TX1) (N := 2) hx hb hts hiX1 hown hK.1 hP 0 rfl rfl 1 (by decide) k18 (fun _ h9 => h9) rfl dX1_keep_24 ?_
  refine lv_aload_n hx hb dX1_keep_27 rfl (lv_at hl 0 rfl) ?_
  refine va_get (D := X.1) (ci := 1) (v := .ref (y 1)) (C := RX1) (T := TX1) (N := 2) hx hb hts hiX1 hown hK.1 hP 0 rfl rfl 0 (by decide) k11 (fun _ h9 => h9) rfl dX1_keep_28 ?_
  refine va_alen (v := (4 : Int32)) hx hb hK.1 hP 1 2 rfl rfl rfl dX1_keep_31 ?_
  refine lv_icmp_ge (tgt := 70) hx hb dX1_keep_32 (by decide) (fun c9 => absurd c9 (by decide)) (fun _ => ?_)
  refine lv_aload_n hx hb dX1_keep_35 rfl (lv_at hl 0 rfl) ?_
  refine va_get (D := X.1) (ci := 1) (v := .ref (y 1)) (C := RX1) (T := TX1) (N := 2) hx hb hts hiX1 hown hK.1 hP 0 rfl rfl 0 (by decide) k11 (fun _ h9 => h9) rfl dX1_keep_36 ?_
  refine lv_aload_n hx hb dX1_keep_39 rfl (lv_at hl 0 rfl) ?_
  refine va_get (D := X.1) (ci := 1) (v := .int (2 : Int32)) (C := RX1) (T := TX1) (N := 2) hx hb hts hiX1 hown hK.1 hP 0 rfl rfl 1 (by decide) k18 (fun _ h9 => h9) rfl dX1_keep_40 ?_
  refine hi_ald (b := hy 0 0) hx hb hK.1 hP 1 2 rfl rfl (by unfold vp_in; decide) rfl dX1_keep_43 ?_
  refine lv_ifnull hx hb dX1_keep_44 ?_
  refine lv_aload_n hx hb dX1_keep_47 rfl (lv_at hl 0 rfl) ?_
  refine va_get (D := X.1) (ci := 1) (v := .ref (y 1)) (C := RX1) (T := TX1) (N := 2) hx hb hts hiX1 hown hK.1 hP 0 rfl rfl 0 (by decide) k11 (fun _ h9 => h9) rfl dX1_keep_48 ?_
  refine lv_aload_n hx hb dX1_keep_51 rfl (lv_at hl 0 rfl) ?_
  refine va_get (D := X.1) (ci := 1) (v := .int (2 : Int32)) (C := RX1) (T := TX1) (N := 2) hx hb hts hiX1 hown hK.1 hP 0 rfl rfl 1 (by decide) k18 (fun _ h9 => h9) rfl dX1_keep_52 ?_
  refine hi_ald (b := hy 0 0) hx hb hK.1 hP 1 2 rfl rfl (by unfold vp_in; decide) rfl dX1_keep_55 ?_
  refine lv_aload_n hx hb dX1_keep_56 rfl (lv_at hl 1 rfl) ?_
  refine fn_VJ (v := none) (As := [.ref (h2 0)]) (rest := []) (st1 := []) (ws' := ((wHg X y hy (2 : Int32) (hk_g hy 2) (b0, b1, b2, b3, b4, b5, b6, b7, b8, b9, b10, b11, b12, b13) q1 q2 q3) ++ (wHo X h2 rP2 fP2 rT2 fT2 rG2 fG2 rL2 fL2 rH2 fH2 gi2 di2 re2 ti2))) (nL := 2) ⟨hx, hb, hml, hown, hts⟩ (c_X2_takeOver l X (hy 0) h2 q0.1 q0.2.1 q0.2.2.1 q0.2.2.2.1 q0.2.2.2.2.1 q0.2.2.2.2.2.1 q0.2.2.2.2.2.2.1 q0.2.2.2.2.2.2.2.1 q0.2.2.2.2.2.2.2.2.1 q0.2.2.2.2.2.2.2.2.2.1 q0.2.2.2.2.2.2.2.2.2.2.1 q0.2.2.2.2.2.2.2.2.2.2.2.1 q0.2.2.2.2.2.2.2.2.2.2.2.2.1 q0.2.2.2.2.2.2.2.2.2.2.2.2.2 rP2 fP2 rT2 fT2 rG2 fG2 rL2 fL2 rH2 fH2 gi2 di2 re2 ti2 b0 b1 b2 b3 b4 b5 b6 b7 b8 b9 b10 b11 b12 b13 hf) (cwV 1 hts gX1_keep_X2_takeOver rfl rfl rfl (by decide +kernel) ⟨Nat.le_of_ble_eq_true rfl, Nat.le_of_ble_eq_true rfl⟩) 2 rfl rfl rfl rfl hl.1 rfl (Nat.le_of_ble_eq_true rfl) dX1_keep_57 hK hP (hD0.addr (wK_fst.trans wK_fst.symm)) hS hA [2, 3, 4, 5, 6, 7, 8, 9, 10, 11, 12, 46, 47, 48, 49, 50, 51, 52, 53, 54, 55, 56] (by decide +kernel) kC_0 (kJ_0 (q' := (b0, b1, b2, b3, b4, b5, b6, b7, b8, b9, b10, b11, b12, b13))) (wK_fst.trans wK_fst.symm) rfl ⟨Nat.zero_le _, Nat.zero_le _⟩ (fun H locs hP hD hS => ?_)
  refine lv_aload_n hx hb dX1_keep_60 rfl (lv_at hl 0 rfl) ?_
  refine lv_dup hx hb dX1_keep_61 rfl ?_
  refine va_get (D := X.1) (ci := 1) (v := .int (2 : Int32)) (C := RX1) (T := TX1) (N := 2) hx hb hts hiX1 hown hK.1 hP 0 rfl rfl 1 (by decide) k18 (fun _ h9 => h9) rfl dX1_keep_62 ?_
  refine lv_iconst (v := 1) hx hb dX1_keep_65 (by decide) ?_
  refine lv_iadd hx hb dX1_keep_66 ?_
  refine lv_topi (fun v_19 ev_19 => ?_)
  obtain rfl : v_19 = (3 : Int32) := ev_19.trans (by decide)
  refine va_put (D := X.1) (ci := 1) (v := .int (3 : Int32)) (ty := .int) (C := RX1) (T := TX1) (N := 2) hx hb hts hiX1 tyX1 tyX1_ok nmX1 hown hK.1 hP (hD0.addr (wK_fst.trans wK_fst.symm)) hS 0 rfl rfl 1 (by decide) k18 (fun _ h9 => h9) rfl (by decide +kernel) rfl rfl (Nat.le_of_ble_eq_true rfl) dX1_keep_67 (fun H locs hP hD hS => ?_)
  have hP : va_P X.1 vwCl ((wHg X y hy (3 : Int32) (hk_g hy 2) (b0, b1, b2, b3, b4, b5, b6, b7, b8, b9, b10, b11, b12, b13) q1 q2 q3) ++ (wHo X h2 rP2 fP2 rT2 fT2 rG2 fG2 rL2 fL2 rH2 fH2 gi2 di2 re2 ti2)) H := hP
  exact fn_vret hx hb hr hlocks hP hS dX1_keep_70

set_option maxHeartbeats 4000000 in
set_option maxRecDepth 100000 in
theorem hk_keep_3_2 (l : Launch) (X : cx_G) (y : Nat → Nat) (hy : Nat → Nat → Nat) (q0 q1 q2 q3 : HS) (h2 : Nat → Nat) (rP2 : Int32) (fP2 : (Nat → Int32)) (rT2 : Int32) (fT2 : (Nat → Int32)) (rG2 : Int32) (fG2 : (Nat → Int32)) (rL2 : Int32) (fL2 : (Nat → Int32)) (rH2 : Int32) (fH2 : (Nat → Int32)) (gi2 : Int32) (di2 : Int32) (re2 : Int32) (ti2 : Int32) (b0 : Int32) (b1 : (Nat → Int32)) (b2 : Int32) (b3 : (Nat → Int32)) (b4 : Int32) (b5 : (Nat → Int32)) (b6 : Int32) (b7 : (Nat → Int32)) (b8 : Int32) (b9 : (Nat → Int32)) (b10 : Int32) (b11 : Int32) (b12 : Int32) (b13 : Int32) (hf : f_X2_takeOver q1.1 q1.2.1 q1.2.2.1 q1.2.2.2.1 q1.2.2.2.2.1 q1.2.2.2.2.2.1 q1.2.2.2.2.2.2.1 q1.2.2.2.2.2.2.2.1 q1.2.2.2.2.2.2.2.2.1 q1.2.2.2.2.2.2.2.2.2.1 q1.2.2.2.2.2.2.2.2.2.2.1 q1.2.2.2.2.2.2.2.2.2.2.2.1 q1.2.2.2.2.2.2.2.2.2.2.2.2.1 q1.2.2.2.2.2.2.2.2.2.2.2.2.2 rP2 fP2 rT2 fT2 rG2 fG2 rL2 fL2 rH2 fH2 gi2 di2 re2 ti2 = some (b0, b1, b2, b3, b4, b5, b6, b7, b8, b9, b10, b11, b12, b13)) : Fn l yX1_keep wsX1_keep ({ frames := 2, cells := 0, slots := 0, locals := 44 } : Room) X [.ref (y 0), .ref (h2 0)] ((wHg X y hy (3 : Int32) (hk_g hy 2) q0 q1 q2 q3) ++ (wHo X h2 rP2 fP2 rT2 fT2 rG2 fG2 rL2 fL2 rH2 fH2 gi2 di2 re2 ti2)) none ((wHg X y hy (4 : Int32) (hk_g hy 2) q0 (b0, b1, b2, b3, b4, b5, b6, b7, b8, b9, b10, b11, b12, b13) q2 q3) ++ (wHo X h2 rP2 fP2 rT2 fT2 rG2 fG2 rL2 fL2 rH2 fH2 gi2 di2 re2 ti2)) := by
  refine fn_intro (cc := cX1_keep) (maxL := 2) (ret := none) (by decide) rfl (wK_fst.trans wK_fst.symm) (Nat.le_of_ble_eq_true rfl) ?_
  intro p e s m args below meth c A ls hx hb hml hr hts hown hlocks hK hP hD0 hS hA hl
  have hown : s.vm.findClass RX1 = some m.cls := hown
  have hl : lv_has ls 2 [(0, .ref (y 0)), (1, .ref (h2 0))] := hl
  have hiX1 : ∀ w ∈ u_ws RX1 TX1 2, w ∈ wsX1_keep := by decide +kernel
  have k11 := hts (.fieldLink RX1 11 "LentRights$History" "states" "[LLentRights$House;") (by decide +kernel)
  have k18 := hts (.fieldLink RX1 18 "LentRights$History" "count" "I") (by decide +kernel)
  refine lv_aload_n hx hb dX1_keep_0 rfl (lv_at hl 0 rfl) ?_
  refine va_get (D := X.1) (ci := 1) (v := .int (3 : Int32)) (C := RX1) (T := TX1) (N := 2) hx hb hts hiX1 hown hK.1 hP 0 rfl rfl 1 (by decide) k18 (fun _ h9 => h9) rfl dX1_keep_1 ?_
  refine lv_aload_n hx hb dX1_keep_4 rfl (lv_at hl 0 rfl) ?_
  refine va_get (D := X.1) (ci := 1) (v := .ref (y 1)) (C := RX1) (T := TX1) (N := 2) hx hb hts hiX1 hown hK.1 hP 0 rfl rfl 0 (by decide) k11 (fun _ h9 => h9) rfl dX1_keep_5 ?_
  refine va_alen (v := (4 : Int32)) hx hb hK.1 hP 1 2 rfl rfl rfl dX1_keep_8 ?_
  refine lv_icmp_lt (tgt := 16) hx hb dX1_keep_9 (by decide) (fun _ => ?_) (fun c9 => absurd c9 (by decide))
  refine lv_aload_n hx hb dX1_keep_16 rfl (lv_at hl 0 rfl) ?_
  refine va_get (D := X.1) (ci := 1) (v := .int (3 : Int32)) (C := RX1) (T := TX1) (N := 2) hx hb hts hiX1 hown hK.1 hP 0 rfl rfl 1 (by decide) k18 (fun _ h9 => h9) rfl dX1_keep_17 ?_
  refine lv_if_lt (tgt := 70) hx hb dX1_keep_20 (by decide) (fun c9 => absurd c9 (by decide)) (fun _ => ?_)
  refine lv_aload_n hx hb dX1_keep_23 rfl (lv_at hl 0 rfl) ?_
  refine va_get (D := X.1) (ci := 1) (v := .int (3 : Int32)) (C := RX1) (T := TX1) (N := 2) hx hb hts hiX1 hown hK.1 hP 0 rfl rfl 1 (by decide) k18 (fun _ h9 => h9) rfl dX1_keep_24 ?_
  refine lv_aload_n hx hb dX1_keep_27 rfl (lv_at hl 0 rfl) ?_
  refine va_get (D := X.1) (ci := 1) (v := .ref (y 1)) (C := RX1) (T := TX1) (N := 2) hx hb hts hiX1 hown hK.1 hP 0 rfl rfl 0 (by decide) k11 (fun _ h9 => h9) rfl dX1_keep_28 ?_
  refine va_alen (v := (4 : Int32)) hx hb hK.1 hP 1 2 rfl rfl rfl dX1_keep_31 ?_
  refine lv_icmp_ge (tgt := 70) hx hb dX1_keep_32 (by decide) (fun c9 => absurd c9 (by decide)) (fun _ => ?_)
  refine lv_aload_n hx hb dX1_keep_35 rfl (lv_at hl 0 rfl) ?_
  refine va_get (D := X.1) (ci := 1) (v := .ref (y 1)) (C := RX1) (T := TX1) (N := 2) hx hb hts hiX1 hown hK.1 hP 0 rfl rfl 0 (by decide) k11 (fun _ h9 => h9) rfl dX1_keep_36 ?_
  refine lv_aload_n hx hb dX1_keep_39 rfl (lv_at hl 0 rfl) ?_
  refine va_get (D := X.1) (ci := 1) (v := .int (3 : Int32)) (C := RX1) (T := TX1) (N := 2) hx hb hts hiX1 hown hK.1 hP 0 rfl rfl 1 (by decide) k18 (fun _ h9 => h9) rfl dX1_keep_40 ?_
  refine hi_ald (b := hy 1 0) hx hb hK.1 hP 1 2 rfl rfl (by unfold vp_in; decide) rfl dX1_keep_43 ?_
  refine lv_ifnull hx hb dX1_keep_44 ?_
  refine lv_aload_n hx hb dX1_keep_47 rfl (lv_at hl 0 rfl) ?_
  refine va_get (D := X.1) (ci := 1) (v := .ref (y 1)) (C := RX1) (T := TX1) (N := 2) hx hb hts hiX1 hown hK.1 hP 0 rfl rfl 0 (by decide) k11 (fun _ h9 => h9) rfl dX1_keep_48 ?_
  refine lv_aload_n hx hb dX1_keep_51 rfl (lv_at hl 0 rfl) ?_
  refine va_get (D := X.1) (ci := 1) (v := .int (3 : Int32)) (C := RX1) (T := TX1) (N := 2) hx hb hts hiX1 hown hK.1 hP 0 rfl rfl 1 (by decide) k18 (fun _ h9 => h9) rfl dX1_keep_52 ?_
  refine hi_ald (b := hy 1 0) hx hb hK.1 hP 1 2 rfl rfl (by unfold vp_in; decide) rfl dX1_keep_55 ?_
  refine lv_aload_n hx hb dX1_keep_56 rfl (lv_at hl 1 rfl) ?_
  refine fn_VJ (v := none) (As := [.ref (h2 0)]) (rest := []) (st1 := []) (ws' := ((wHg X y hy (3 : Int32) (hk_g hy 2) q0 (b0, b1, b2, b3, b4, b5, b6, b7, b8, b9, b10, b11, b12, b13) q2 q3) ++ (wHo X h2 rP2 fP2 rT2 fT2 rG2 fG2 rL2 fL2 rH2 fH2 gi2 di2 re2 ti2))) (nL := 2) ⟨hx, hb, hml, hown, hts⟩ (c_X2_takeOver l X (hy 1) h2 q1.1 q1.2.1 q1.2.2.1 q1.2.2.2.1 q1.2.2.2.2.1 q1.2.2.2.2.2.1 q1.2.2.2.2.2.2.1 q1.2.2.2.2.2.2.2.1 q1.2.2.2.2.2.2.2.2.1 q1.2.2.2.2.2.2.2.2.2.1 q1.2.2.2.2.2.2.2.2.2.2.1 q1.2.2.2.2.2.2.2.2.2.2.2.1 q1.2.2.2.2.2.2.2.2.2.2.2.2.1 q1.2.2.2.2.2.2.2.2.2.2.2.2.2 rP2 fP2 rT2 fT2 rG2 fG2 rL2 fL2 rH2 fH2 gi2 di2 re2 ti2 b0 b1 b2 b3 b4 b5 b6 b7 b8 b9 b10 b11 b12 b13 hf) (cwV 1 hts gX1_keep_X2_takeOver rfl rfl rfl (by decide +kernel) ⟨Nat.le_of_ble_eq_true rfl, Nat.le_of_ble_eq_true rfl⟩) 2 rfl rfl rfl rfl hl.1 rfl (Nat.le_of_ble_eq_true rfl) dX1_keep_57 hK hP (hD0.addr (wK_fst.trans wK_fst.symm)) hS hA [13, 14, 15, 16, 17, 18, 19, 20, 21, 22, 23, 46, 47, 48, 49, 50, 51, 52, 53, 54, 55, 56] (by decide +kernel) kC_1 (kJ_1 (q' := (b0, b1, b2, b3, b4, b5, b6, b7, b8, b9, b10, b11, b12, b13))) (wK_fst.trans wK_fst.symm) rfl ⟨Nat.zero_le _, Nat.zero_le _⟩ (fun H locs hP hD hS => ?_)
  refine lv_aload_n hx hb dX1_keep_60 rfl (lv_at hl 0 rfl) ?_
  refine lv_dup hx hb dX1_keep_61 rfl ?_
  refine va_get (D := X.1) (ci := 1) (v := .int (3 : Int32)) (C := RX1) (T := TX1) (N := 2) hx hb hts hiX1 hown hK.1 hP 0 rfl rfl 1 (by decide) k18 (fun _ h9 => h9) rfl dX1_keep_62 ?_
  refine lv_iconst (v := 1) hx hb dX1_keep_65 (by decide) ?_
  refine lv_iadd hx hb dX1_keep_66 ?_
  refine lv_topi (fun v_19 ev_19 => ?_)
  obtain rfl : v_19 = (4 : Int32) := ev_19.trans (by decide)
  refine va_put (D := X.1) (ci := 1) (v := .int (4 : Int32)) (ty := .int) (C := RX1) (T := TX1) (N := 2) hx hb hts hiX1 tyX1 tyX1_ok nmX1 hown hK.1 hP (hD0.addr (wK_fst.trans wK_fst.symm)) hS 0 rfl rfl 1 (by decide) k18 (fun _ h9 => h9) rfl (by decide +kernel) rfl rfl (Nat.le_of_ble_eq_true rfl) dX1_keep_67 (fun H locs hP hD hS => ?_)
  have hP : va_P X.1 vwCl ((wHg X y hy (4 : Int32) (hk_g hy 2) q0 (b0, b1, b2, b3, b4, b5, b6, b7, b8, b9, b10, b11, b12, b13) q2 q3) ++ (wHo X h2 rP2 fP2 rT2 fT2 rG2 fG2 rL2 fL2 rH2 fH2 gi2 di2 re2 ti2)) H := hP
  exact fn_vret hx hb hr hlocks hP hS dX1_keep_70

set_option maxHeartbeats 4000000 in
set_option maxRecDepth 100000 in
theorem hk_keep_4_2 (l : Launch) (X : cx_G) (y : Nat → Nat) (hy : Nat → Nat → Nat) (q0 q1 q2 q3 : HS) (h2 : Nat → Nat) (rP2 : Int32) (fP2 : (Nat → Int32)) (rT2 : Int32) (fT2 : (Nat → Int32)) (rG2 : Int32) (fG2 : (Nat → Int32)) (rL2 : Int32) (fL2 : (Nat → Int32)) (rH2 : Int32) (fH2 : (Nat → Int32)) (gi2 : Int32) (di2 : Int32) (re2 : Int32) (ti2 : Int32) (b0 : Int32) (b1 : (Nat → Int32)) (b2 : Int32) (b3 : (Nat → Int32)) (b4 : Int32) (b5 : (Nat → Int32)) (b6 : Int32) (b7 : (Nat → Int32)) (b8 : Int32) (b9 : (Nat → Int32)) (b10 : Int32) (b11 : Int32) (b12 : Int32) (b13 : Int32) (hf : f_X2_takeOver q2.1 q2.2.1 q2.2.2.1 q2.2.2.2.1 q2.2.2.2.2.1 q2.2.2.2.2.2.1 q2.2.2.2.2.2.2.1 q2.2.2.2.2.2.2.2.1 q2.2.2.2.2.2.2.2.2.1 q2.2.2.2.2.2.2.2.2.2.1 q2.2.2.2.2.2.2.2.2.2.2.1 q2.2.2.2.2.2.2.2.2.2.2.2.1 q2.2.2.2.2.2.2.2.2.2.2.2.2.1 q2.2.2.2.2.2.2.2.2.2.2.2.2.2 rP2 fP2 rT2 fT2 rG2 fG2 rL2 fL2 rH2 fH2 gi2 di2 re2 ti2 = some (b0, b1, b2, b3, b4, b5, b6, b7, b8, b9, b10, b11, b12, b13)) : Fn l yX1_keep wsX1_keep ({ frames := 2, cells := 0, slots := 0, locals := 44 } : Room) X [.ref (y 0), .ref (h2 0)] ((wHg X y hy (4 : Int32) (hk_g hy 2) q0 q1 q2 q3) ++ (wHo X h2 rP2 fP2 rT2 fT2 rG2 fG2 rL2 fL2 rH2 fH2 gi2 di2 re2 ti2)) none ((wHg X y hy (4 : Int32) (hk_g hy 3) q0 q1 (b0, b1, b2, b3, b4, b5, b6, b7, b8, b9, b10, b11, b12, b13) q3) ++ (wHo X h2 rP2 fP2 rT2 fT2 rG2 fG2 rL2 fL2 rH2 fH2 gi2 di2 re2 ti2)) := by
  refine fn_intro (cc := cX1_keep) (maxL := 2) (ret := none) (by decide) rfl (wK_fst.trans wK_fst.symm) (Nat.le_of_ble_eq_true rfl) ?_
  intro p e s m args below meth c A ls hx hb hml hr hts hown hlocks hK hP hD0 hS hA hl
  have hown : s.vm.findClass RX1 = some m.cls := hown
  have hl : lv_has ls 2 [(0, .ref (y 0)), (1, .ref (h2 0))] := hl
  have hiX1 : ∀ w ∈ u_ws RX1 TX1 2, w ∈ wsX1_keep := by decide +kernel
  have k11 := hts (.fieldLink RX1 11 "LentRights$History" "states" "[LLentRights$House;") (by decide +kernel)
  have k18 := hts (.fieldLink RX1 18 "LentRights$History" "count" "I") (by decide +kernel)
  refine lv_aload_n hx hb dX1_keep_0 rfl (lv_at hl 0 rfl) ?_
  refine va_get (D := X.1) (ci := 1) (v := .int (4 : Int32)) (C := RX1) (T := TX1) (N := 2) hx hb hts hiX1 hown hK.1 hP 0 rfl rfl 1 (by decide) k18 (fun _ h9 => h9) rfl dX1_keep_1 ?_
  refine lv_aload_n hx hb dX1_keep_4 rfl (lv_at hl 0 rfl) ?_
  refine va_get (D := X.1) (ci := 1) (v := .ref (y 1)) (C := RX1) (T := TX1) (N := 2) hx hb hts hiX1 hown hK.1 hP 0 rfl rfl 0 (by decide) k11 (fun _ h9 => h9) rfl dX1_keep_5 ?_
  refine va_alen (v := (4 : Int32)) hx hb hK.1 hP 1 2 rfl rfl rfl dX1_keep_8 ?_
  refine lv_icmp_lt (tgt := 16) hx hb dX1_keep_9 (by decide) (fun c9 => absurd c9 (by decide)) (fun _ => ?_)
  refine lv_aload_n hx hb dX1_keep_12 rfl (lv_at hl 0 rfl) ?_
  refine fn_VJ (v := none) (As := []) (rest := []) (st1 := []) (ws' := ((wHg X y hy (3 : Int32) (hk_g hy 3) q0 q1 q2 q3) ++ (wHo X h2 rP2 fP2 rT2 fT2 rG2 fG2 rL2 fL2 rH2 fH2 gi2 di2 re2 ti2))) (nL := 2) ⟨hx, hb, hml, hown, hts⟩ (hk_makeRoom_2 l X y hy q0 q1 q2 q3) (cwV 0 hts gX1_keep_X1_makeRoom rfl rfl rfl (by decide +kernel) ⟨Nat.le_of_ble_eq_true rfl, Nat.le_of_ble_eq_true rfl⟩) 1 rfl rfl rfl rfl hl.1 rfl (Nat.le_of_ble_eq_true rfl) dX1_keep_13 hK hP (hD0.addr (wK_fst.trans wK_fst.symm)) hS hA [0, 1, 2, 3, 4, 5, 6, 7, 8, 9, 10, 11, 12, 13, 14, 15, 16, 17, 18, 19, 20, 21, 22, 23, 24, 25, 26, 27, 28, 29, 30, 31, 32, 33, 34, 35, 36, 37, 38, 39, 40, 41, 42, 43, 44, 45] (by decide +kernel) mC mJ (wK_fst.trans wK_fst.symm) rfl ⟨Nat.zero_le _, Nat.zero_le _⟩ (fun H locs hP hD hS => ?_)
  refine lv_aload_n hx hb dX1_keep_16 rfl (lv_at hl 0 rfl) ?_
  refine va_get (D := X.1) (ci := 1) (v := .int (3 : Int32)) (C := RX1) (T := TX1) (N := 2) hx hb hts hiX1 hown hK.1 hP 0 rfl rfl 1 (by decide) k18 (fun _ h9 => h9) rfl dX1_keep_17 ?_
  refine lv_if_lt (tgt := 70) hx hb dX1_keep_20 (by decide) (fun c9 => absurd c9 (by decide)) (fun _ => ?_)
  refine lv_aload_n hx hb dX1_keep_23 rfl (lv_at hl 0 rfl) ?_
  refine va_get (D := X.1) (ci := 1) (v := .int (3 : Int32)) (C := RX1) (T := TX1) (N := 2) hx hb hts hiX1 hown hK.1 hP 0 rfl rfl 1 (by decide) k18 (fun _ h9 => h9) rfl dX1_keep_24 ?_
  refine lv_aload_n hx hb dX1_keep_27 rfl (lv_at hl 0 rfl) ?_
  refine va_get (D := X.1) (ci := 1) (v := .ref (y 1)) (C := RX1) (T := TX1) (N := 2) hx hb hts hiX1 hown hK.1 hP 0 rfl rfl 0 (by decide) k11 (fun _ h9 => h9) rfl dX1_keep_28 ?_
  refine va_alen (v := (4 : Int32)) hx hb hK.1 hP 1 2 rfl rfl rfl dX1_keep_31 ?_
  refine lv_icmp_ge (tgt := 70) hx hb dX1_keep_32 (by decide) (fun c9 => absurd c9 (by decide)) (fun _ => ?_)
  refine lv_aload_n hx hb dX1_keep_35 rfl (lv_at hl 0 rfl) ?_
  refine va_get (D := X.1) (ci := 1) (v := .ref (y 1)) (C := RX1) (T := TX1) (N := 2) hx hb hts hiX1 hown hK.1 hP 0 rfl rfl 0 (by decide) k11 (fun _ h9 => h9) rfl dX1_keep_36 ?_
  refine lv_aload_n hx hb dX1_keep_39 rfl (lv_at hl 0 rfl) ?_
  refine va_get (D := X.1) (ci := 1) (v := .int (3 : Int32)) (C := RX1) (T := TX1) (N := 2) hx hb hts hiX1 hown hK.1 hP 0 rfl rfl 1 (by decide) k18 (fun _ h9 => h9) rfl dX1_keep_40 ?_
  refine hi_ald (b := hy 2 0) hx hb hK.1 hP 1 2 rfl rfl (by unfold vp_in; decide) rfl dX1_keep_43 ?_
  refine lv_ifnull hx hb dX1_keep_44 ?_
  refine lv_aload_n hx hb dX1_keep_47 rfl (lv_at hl 0 rfl) ?_
  refine va_get (D := X.1) (ci := 1) (v := .ref (y 1)) (C := RX1) (T := TX1) (N := 2) hx hb hts hiX1 hown hK.1 hP 0 rfl rfl 0 (by decide) k11 (fun _ h9 => h9) rfl dX1_keep_48 ?_
  refine lv_aload_n hx hb dX1_keep_51 rfl (lv_at hl 0 rfl) ?_
  refine va_get (D := X.1) (ci := 1) (v := .int (3 : Int32)) (C := RX1) (T := TX1) (N := 2) hx hb hts hiX1 hown hK.1 hP 0 rfl rfl 1 (by decide) k18 (fun _ h9 => h9) rfl dX1_keep_52 ?_
  refine hi_ald (b := hy 2 0) hx hb hK.1 hP 1 2 rfl rfl (by unfold vp_in; decide) rfl dX1_keep_55 ?_
  refine lv_aload_n hx hb dX1_keep_56 rfl (lv_at hl 1 rfl) ?_
  refine fn_VJ (v := none) (As := [.ref (h2 0)]) (rest := []) (st1 := []) (ws' := ((wHg X y hy (3 : Int32) (hk_g hy 3) q0 q1 (b0, b1, b2, b3, b4, b5, b6, b7, b8, b9, b10, b11, b12, b13) q3) ++ (wHo X h2 rP2 fP2 rT2 fT2 rG2 fG2 rL2 fL2 rH2 fH2 gi2 di2 re2 ti2))) (nL := 2) ⟨hx, hb, hml, hown, hts⟩ (c_X2_takeOver l X (hy 2) h2 q2.1 q2.2.1 q2.2.2.1 q2.2.2.2.1 q2.2.2.2.2.1 q2.2.2.2.2.2.1 q2.2.2.2.2.2.2.1 q2.2.2.2.2.2.2.2.1 q2.2.2.2.2.2.2.2.2.1 q2.2.2.2.2.2.2.2.2.2.1 q2.2.2.2.2.2.2.2.2.2.2.1 q2.2.2.2.2.2.2.2.2.2.2.2.1 q2.2.2.2.2.2.2.2.2.2.2.2.2.1 q2.2.2.2.2.2.2.2.2.2.2.2.2.2 rP2 fP2 rT2 fT2 rG2 fG2 rL2 fL2 rH2 fH2 gi2 di2 re2 ti2 b0 b1 b2 b3 b4 b5 b6 b7 b8 b9 b10 b11 b12 b13 hf) (cwV 1 hts gX1_keep_X2_takeOver rfl rfl rfl (by decide +kernel) ⟨Nat.le_of_ble_eq_true rfl, Nat.le_of_ble_eq_true rfl⟩) 2 rfl rfl rfl rfl hl.1 rfl (Nat.le_of_ble_eq_true rfl) dX1_keep_57 hK hP (hD0.addr (wK_fst.trans wK_fst.symm)) hS hA [24, 25, 26, 27, 28, 29, 30, 31, 32, 33, 34, 46, 47, 48, 49, 50, 51, 52, 53, 54, 55, 56] (by decide +kernel) kC_2 (kJ_2 (q' := (b0, b1, b2, b3, b4, b5, b6, b7, b8, b9, b10, b11, b12, b13))) (wK_fst.trans wK_fst.symm) rfl ⟨Nat.zero_le _, Nat.zero_le _⟩ (fun H locs hP hD hS => ?_)
  refine lv_aload_n hx hb dX1_keep_60 rfl (lv_at hl 0 rfl) ?_
  refine lv_dup hx hb dX1_keep_61 rfl ?_
  refine va_get (D := X.1) (ci := 1) (v := .int (3 : Int32)) (C := RX1) (T := TX1) (N := 2) hx hb hts hiX1 hown hK.1 hP 0 rfl rfl 1 (by decide) k18 (fun _ h9 => h9) rfl dX1_keep_62 ?_
  refine lv_iconst (v := 1) hx hb dX1_keep_65 (by decide) ?_
  refine lv_iadd hx hb dX1_keep_66 ?_
  refine lv_topi (fun v_20 ev_20 => ?_)
  obtain rfl : v_20 = (4 : Int32) := ev_20.trans (by decide)
  refine va_put (D := X.1) (ci := 1) (v := .int (4 : Int32)) (ty := .int) (C := RX1) (T := TX1) (N := 2) hx hb hts hiX1 tyX1 tyX1_ok nmX1 hown hK.1 hP (hD0.addr (wK_fst.trans wK_fst.symm)) hS 0 rfl rfl 1 (by decide) k18 (fun _ h9 => h9) rfl (by decide +kernel) rfl rfl (Nat.le_of_ble_eq_true rfl) dX1_keep_67 (fun H locs hP hD hS => ?_)
  have hP : va_P X.1 vwCl ((wHg X y hy (4 : Int32) (hk_g hy 3) q0 q1 (b0, b1, b2, b3, b4, b5, b6, b7, b8, b9, b10, b11, b12, b13) q3) ++ (wHo X h2 rP2 fP2 rT2 fT2 rG2 fG2 rL2 fL2 rH2 fH2 gi2 di2 re2 ti2)) H := hP
  exact fn_vret hx hb hr hlocks hP hS dX1_keep_70

set_option maxHeartbeats 4000000 in
set_option maxRecDepth 100000 in
theorem hk_keep_0_3 (l : Launch) (X : cx_G) (y : Nat → Nat) (hy : Nat → Nat → Nat) (q0 q1 q2 q3 : HS) (h2 : Nat → Nat) (rP2 : Int32) (fP2 : (Nat → Int32)) (rT2 : Int32) (fT2 : (Nat → Int32)) (rG2 : Int32) (fG2 : (Nat → Int32)) (rL2 : Int32) (fL2 : (Nat → Int32)) (rH2 : Int32) (fH2 : (Nat → Int32)) (gi2 : Int32) (di2 : Int32) (re2 : Int32) (ti2 : Int32) (b0 : Int32) (b1 : (Nat → Int32)) (b2 : Int32) (b3 : (Nat → Int32)) (b4 : Int32) (b5 : (Nat → Int32)) (b6 : Int32) (b7 : (Nat → Int32)) (b8 : Int32) (b9 : (Nat → Int32)) (b10 : Int32) (b11 : Int32) (b12 : Int32) (b13 : Int32) (hf : f_X2_takeOver q3.1 q3.2.1 q3.2.2.1 q3.2.2.2.1 q3.2.2.2.2.1 q3.2.2.2.2.2.1 q3.2.2.2.2.2.2.1 q3.2.2.2.2.2.2.2.1 q3.2.2.2.2.2.2.2.2.1 q3.2.2.2.2.2.2.2.2.2.1 q3.2.2.2.2.2.2.2.2.2.2.1 q3.2.2.2.2.2.2.2.2.2.2.2.1 q3.2.2.2.2.2.2.2.2.2.2.2.2.1 q3.2.2.2.2.2.2.2.2.2.2.2.2.2 rP2 fP2 rT2 fT2 rG2 fG2 rL2 fL2 rH2 fH2 gi2 di2 re2 ti2 = some (b0, b1, b2, b3, b4, b5, b6, b7, b8, b9, b10, b11, b12, b13)) : Fn l yX1_keep wsX1_keep ({ frames := 2, cells := 0, slots := 0, locals := 44 } : Room) X [.ref (y 0), .ref (h2 0)] ((wHg X y hy (0 : Int32) (hk_g hy 3) q0 q1 q2 q3) ++ (wHo X h2 rP2 fP2 rT2 fT2 rG2 fG2 rL2 fL2 rH2 fH2 gi2 di2 re2 ti2)) none ((wHg X y hy (1 : Int32) (hk_g hy 3) q0 q1 q2 (b0, b1, b2, b3, b4, b5, b6, b7, b8, b9, b10, b11, b12, b13)) ++ (wHo X h2 rP2 fP2 rT2 fT2 rG2 fG2 rL2 fL2 rH2 fH2 gi2 di2 re2 ti2)) := by
  refine fn_intro (cc := cX1_keep) (maxL := 2) (ret := none) (by decide) rfl (wK_fst.trans wK_fst.symm) (Nat.le_of_ble_eq_true rfl) ?_
  intro p e s m args below meth c A ls hx hb hml hr hts hown hlocks hK hP hD0 hS hA hl
  have hown : s.vm.findClass RX1 = some m.cls := hown
  have hl : lv_has ls 2 [(0, .ref (y 0)), (1, .ref (h2 0))] := hl
  have hiX1 : ∀ w ∈ u_ws RX1 TX1 2, w ∈ wsX1_keep := by decide +kernel
  have k11 := hts (.fieldLink RX1 11 "LentRights$History" "states" "[LLentRights$House;") (by decide +kernel)
  have k18 := hts (.fieldLink RX1 18 "LentRights$History" "count" "I") (by decide +kernel)
  refine lv_aload_n hx hb dX1_keep_0 rfl (lv_at hl 0 rfl) ?_
  refine va_get (D := X.1) (ci := 1) (v := .int (0 : Int32)) (C := RX1) (T := TX1) (N := 2) hx hb hts hiX1 hown hK.1 hP 0 rfl rfl 1 (by decide) k18 (fun _ h9 => h9) rfl dX1_keep_1 ?_
  refine lv_aload_n hx hb dX1_keep_4 rfl (lv_at hl 0 rfl) ?_
  refine va_get (D := X.1) (ci := 1) (v := .ref (y 1)) (C := RX1) (T := TX1) (N := 2) hx hb hts hiX1 hown hK.1 hP 0 rfl rfl 0 (by decide) k11 (fun _ h9 => h9) rfl dX1_keep_5 ?_
  refine va_alen (v := (4 : Int32)) hx hb hK.1 hP 1 2 rfl rfl rfl dX1_keep_8 ?_
  refine lv_icmp_lt (tgt := 16) hx hb dX1_keep_9 (by decide) (fun _ => ?_) (fun c9 => absurd c9 (by decide))
  refine lv_aload_n hx hb dX1_keep_16 rfl (lv_at hl 0 rfl) ?_
  refine va_get (D := X.1) (ci := 1) (v := .int (0 : Int32)) (C := RX1) (T := TX1) (N := 2) hx hb hts hiX1 hown hK.1 hP 0 rfl rfl 1 (by decide) k18 (fun _ h9 => h9) rfl dX1_keep_17 ?_
  refine lv_if_lt (tgt := 70) hx hb dX1_keep_20 (by decide) (fun c9 => absurd c9 (by decide)) (fun _ => ?_)
  refine lv_aload_n hx hb dX1_keep_23 rfl (lv_at hl 0 rfl) ?_
  refine va_get (D := X.1) (ci := 1) (v := .int (0 : Int32)) (C := RX1) (T := TX1) (N := 2) hx hb hts hiX1 hown hK.1 hP 0 rfl rfl 1 (by decide) k18 (fun _ h9 => h9) rfl dX1_keep_24 ?_
  refine lv_aload_n hx hb dX1_keep_27 rfl (lv_at hl 0 rfl) ?_
  refine va_get (D := X.1) (ci := 1) (v := .ref (y 1)) (C := RX1) (T := TX1) (N := 2) hx hb hts hiX1 hown hK.1 hP 0 rfl rfl 0 (by decide) k11 (fun _ h9 => h9) rfl dX1_keep_28 ?_
  refine va_alen (v := (4 : Int32)) hx hb hK.1 hP 1 2 rfl rfl rfl dX1_keep_31 ?_
  refine lv_icmp_ge (tgt := 70) hx hb dX1_keep_32 (by decide) (fun c9 => absurd c9 (by decide)) (fun _ => ?_)
  refine lv_aload_n hx hb dX1_keep_35 rfl (lv_at hl 0 rfl) ?_
  refine va_get (D := X.1) (ci := 1) (v := .ref (y 1)) (C := RX1) (T := TX1) (N := 2) hx hb hts hiX1 hown hK.1 hP 0 rfl rfl 0 (by decide) k11 (fun _ h9 => h9) rfl dX1_keep_36 ?_
  refine lv_aload_n hx hb dX1_keep_39 rfl (lv_at hl 0 rfl) ?_
  refine va_get (D := X.1) (ci := 1) (v := .int (0 : Int32)) (C := RX1) (T := TX1) (N := 2) hx hb hts hiX1 hown hK.1 hP 0 rfl rfl 1 (by decide) k18 (fun _ h9 => h9) rfl dX1_keep_40 ?_
  refine hi_ald (b := hy 3 0) hx hb hK.1 hP 1 2 rfl rfl (by unfold vp_in; decide) rfl dX1_keep_43 ?_
  refine lv_ifnull hx hb dX1_keep_44 ?_
  refine lv_aload_n hx hb dX1_keep_47 rfl (lv_at hl 0 rfl) ?_
  refine va_get (D := X.1) (ci := 1) (v := .ref (y 1)) (C := RX1) (T := TX1) (N := 2) hx hb hts hiX1 hown hK.1 hP 0 rfl rfl 0 (by decide) k11 (fun _ h9 => h9) rfl dX1_keep_48 ?_
  refine lv_aload_n hx hb dX1_keep_51 rfl (lv_at hl 0 rfl) ?_
  refine va_get (D := X.1) (ci := 1) (v := .int (0 : Int32)) (C := RX1) (T := TX1) (N := 2) hx hb hts hiX1 hown hK.1 hP 0 rfl rfl 1 (by decide) k18 (fun _ h9 => h9) rfl dX1_keep_52 ?_
  refine hi_ald (b := hy 3 0) hx hb hK.1 hP 1 2 rfl rfl (by unfold vp_in; decide) rfl dX1_keep_55 ?_
  refine lv_aload_n hx hb dX1_keep_56 rfl (lv_at hl 1 rfl) ?_
  refine fn_VJ (v := none) (As := [.ref (h2 0)]) (rest := []) (st1 := []) (ws' := ((wHg X y hy (0 : Int32) (hk_g hy 3) q0 q1 q2 (b0, b1, b2, b3, b4, b5, b6, b7, b8, b9, b10, b11, b12, b13)) ++ (wHo X h2 rP2 fP2 rT2 fT2 rG2 fG2 rL2 fL2 rH2 fH2 gi2 di2 re2 ti2))) (nL := 2) ⟨hx, hb, hml, hown, hts⟩ (c_X2_takeOver l X (hy 3) h2 q3.1 q3.2.1 q3.2.2.1 q3.2.2.2.1 q3.2.2.2.2.1 q3.2.2.2.2.2.1 q3.2.2.2.2.2.2.1 q3.2.2.2.2.2.2.2.1 q3.2.2.2.2.2.2.2.2.1 q3.2.2.2.2.2.2.2.2.2.1 q3.2.2.2.2.2.2.2.2.2.2.1 q3.2.2.2.2.2.2.2.2.2.2.2.1 q3.2.2.2.2.2.2.2.2.2.2.2.2.1 q3.2.2.2.2.2.2.2.2.2.2.2.2.2 rP2 fP2 rT2 fT2 rG2 fG2 rL2 fL2 rH2 fH2 gi2 di2 re2 ti2 b0 b1 b2 b3 b4 b5 b6 b7 b8 b9 b10 b11 b12 b13 hf) (cwV 1 hts gX1_keep_X2_takeOver rfl rfl rfl (by decide +kernel) ⟨Nat.le_of_ble_eq_true rfl, Nat.le_of_ble_eq_true rfl⟩) 2 rfl rfl rfl rfl hl.1 rfl (Nat.le_of_ble_eq_true rfl) dX1_keep_57 hK hP (hD0.addr (wK_fst.trans wK_fst.symm)) hS hA [35, 36, 37, 38, 39, 40, 41, 42, 43, 44, 45, 46, 47, 48, 49, 50, 51, 52, 53, 54, 55, 56] (by decide +kernel) kC_3 (kJ_3 (q' := (b0, b1, b2, b3, b4, b5, b6, b7, b8, b9, b10, b11, b12, b13))) (wK_fst.trans wK_fst.symm) rfl ⟨Nat.zero_le _, Nat.zero_le _⟩ (fun H locs hP hD hS => ?_)
  refine lv_aload_n hx hb dX1_keep_60 rfl (lv_at hl 0 rfl) ?_
  refine lv_dup hx hb dX1_keep_61 rfl ?_
  refine va_get (D := X.1) (ci := 1) (v := .int (0 : Int32)) (C := RX1) (T := TX1) (N := 2) hx hb hts hiX1 hown hK.1 hP 0 rfl rfl 1 (by decide) k18 (fun _ h9 => h9) rfl dX1_keep_62 ?_
  refine lv_iconst (v := 1) hx hb dX1_keep_65 (by decide) ?_
  refine lv_iadd hx hb dX1_keep_66 ?_
  refine lv_topi (fun v_19 ev_19 => ?_)
  obtain rfl : v_19 = (1 : Int32) := ev_19.trans (by decide)
  refine va_put (D := X.1) (ci := 1) (v := .int (1 : Int32)) (ty := .int) (C := RX1) (T := TX1) (N := 2) hx hb hts hiX1 tyX1 tyX1_ok nmX1 hown hK.1 hP (hD0.addr (wK_fst.trans wK_fst.symm)) hS 0 rfl rfl 1 (by decide) k18 (fun _ h9 => h9) rfl (by decide +kernel) rfl rfl (Nat.le_of_ble_eq_true rfl) dX1_keep_67 (fun H locs hP hD hS => ?_)
  have hP : va_P X.1 vwCl ((wHg X y hy (1 : Int32) (hk_g hy 3) q0 q1 q2 (b0, b1, b2, b3, b4, b5, b6, b7, b8, b9, b10, b11, b12, b13)) ++ (wHo X h2 rP2 fP2 rT2 fT2 rG2 fG2 rL2 fL2 rH2 fH2 gi2 di2 re2 ti2)) H := hP
  exact fn_vret hx hb hr hlocks hP hS dX1_keep_70

set_option maxHeartbeats 4000000 in
set_option maxRecDepth 100000 in
theorem hk_keep_1_3 (l : Launch) (X : cx_G) (y : Nat → Nat) (hy : Nat → Nat → Nat) (q0 q1 q2 q3 : HS) (h2 : Nat → Nat) (rP2 : Int32) (fP2 : (Nat → Int32)) (rT2 : Int32) (fT2 : (Nat → Int32)) (rG2 : Int32) (fG2 : (Nat → Int32)) (rL2 : Int32) (fL2 : (Nat → Int32)) (rH2 : Int32) (fH2 : (Nat → Int32)) (gi2 : Int32) (di2 : Int32) (re2 : Int32) (ti2 : Int32) (b0 : Int32) (b1 : (Nat → Int32)) (b2 : Int32) (b3 : (Nat → Int32)) (b4 : Int32) (b5 : (Nat → Int32)) (b6 : Int32) (b7 : (Nat → Int32)) (b8 : Int32) (b9 : (Nat → Int32)) (b10 : Int32) (b11 : Int32) (b12 : Int32) (b13 : Int32) (hf : f_X2_takeOver q0.1 q0.2.1 q0.2.2.1 q0.2.2.2.1 q0.2.2.2.2.1 q0.2.2.2.2.2.1 q0.2.2.2.2.2.2.1 q0.2.2.2.2.2.2.2.1 q0.2.2.2.2.2.2.2.2.1 q0.2.2.2.2.2.2.2.2.2.1 q0.2.2.2.2.2.2.2.2.2.2.1 q0.2.2.2.2.2.2.2.2.2.2.2.1 q0.2.2.2.2.2.2.2.2.2.2.2.2.1 q0.2.2.2.2.2.2.2.2.2.2.2.2.2 rP2 fP2 rT2 fT2 rG2 fG2 rL2 fL2 rH2 fH2 gi2 di2 re2 ti2 = some (b0, b1, b2, b3, b4, b5, b6, b7, b8, b9, b10, b11, b12, b13)) : Fn l yX1_keep wsX1_keep ({ frames := 2, cells := 0, slots := 0, locals := 44 } : Room) X [.ref (y 0), .ref (h2 0)] ((wHg X y hy (1 : Int32) (hk_g hy 3) q0 q1 q2 q3) ++ (wHo X h2 rP2 fP2 rT2 fT2 rG2 fG2 rL2 fL2 rH2 fH2 gi2 di2 re2 ti2)) none ((wHg X y hy (2 : Int32) (hk_g hy 3) (b0, b1, b2, b3, b4, b5, b6, b7, b8, b9, b10, b11, b12, b13) q1 q2 q3) ++ (wHo X h2 rP2 fP2 rT2 fT2 rG2 fG2 rL2 fL2 rH2 fH2 gi2 di2 re2 ti2)) := by
  refine fn_intro (cc := cX1_keep) (maxL := 2) (ret := none) (by decide) rfl (wK_fst.trans wK_fst.symm) (Nat.le_of_ble_eq_true rfl) ?_
  intro p e s m args below meth c A ls hx hb hml hr hts hown hlocks hK hP hD0 hS hA hl
  have hown : s.vm.findClass RX1 = some m.cls := hown
  have hl : lv_has ls 2 [(0, .ref (y 0)), (1, .ref (h2 0))] := hl
  have hiX1 : ∀ w ∈ u_ws RX1 TX1 2, w ∈ wsX1_keep := by decide +kernel
  have k11 := hts (.fieldLink RX1 11 "LentRights$History" "states" "[LLentRights$House;") (by decide +kernel)
  have k18 := hts (.fieldLink RX1 18 "LentRights$History" "count" "I") (by decide +kernel)
  refine lv_aload_n hx hb dX1_keep_0 rfl (lv_at hl 0 rfl) ?_
  refine va_get (D := X.1) (ci := 1) (v := .int (1 : Int32)) (C := RX1) (T := TX1) (N := 2) hx hb hts hiX1 hown hK.1 hP 0 rfl rfl 1 (by decide) k18 (fun _ h9 => h9) rfl dX1_keep_1 ?_
  refine lv_aload_n hx hb dX1_keep_4 rfl (lv_at hl 0 rfl) ?_
  refine va_get (D := X.1) (ci := 1) (v := .ref (y 1)) (C := RX1) (T := TX1) (N := 2) hx hb hts hiX1 hown hK.1 hP 0 rfl rfl 0 (by decide) k11 (fun _ h9 => h9) rfl dX1_keep_5 ?_
  refine va_alen (v := (4 : Int32)) hx hb hK.1 hP 1 2 rfl rfl rfl dX1_keep_8 ?_
  refine lv_icmp_lt (tgt := 16) hx hb dX1_keep_9 (by decide) (fun _ => ?_) (fun c9 => absurd c9 (by decide))
  refine lv_aload_n hx hb dX1_keep_16 rfl (lv_at hl 0 rfl) ?_
  refine va_get (D := X.1) (ci := 1) (v := .int (1 : Int32)) (C := RX1) (T := TX1) (N := 2) hx hb hts hiX1 hown hK.1 hP 0 rfl rfl 1 (by decide) k18 (fun _ h9 => h9) rfl dX1_keep_17 ?_
  refine lv_if_lt (tgt := 70) hx hb dX1_keep_20 (by decide) (fun c9 => absurd c9 (by decide)) (fun _ => ?_)
  refine lv_aload_n hx hb dX1_keep_23 rfl (lv_at hl 0 rfl) ?_
  refine va_get (D := X.1) (ci := 1) (v := .int (1 : Int32)) (C := RX1) (T := TX1) (N := 2) hx hb hts hiX1 hown hK.1 hP 0 rfl rfl 1 (by decide) k18 (fun _ h9 => h9) rfl dX1_keep_24 ?_
  refine lv_aload_n hx hb dX1_keep_27 rfl (lv_at hl 0 rfl) ?_
  refine va_get (D := X.1) (ci := 1) (v := .ref (y 1)) (C := RX1) (T := TX1) (N := 2) hx hb hts hiX1 hown hK.1 hP 0 rfl rfl 0 (by decide) k11 (fun _ h9 => h9) rfl dX1_keep_28 ?_
  refine va_alen (v := (4 : Int32)) hx hb hK.1 hP 1 2 rfl rfl rfl dX1_keep_31 ?_
  refine lv_icmp_ge (tgt := 70) hx hb dX1_keep_32 (by decide) (fun c9 => absurd c9 (by decide)) (fun _ => ?_)
  refine lv_aload_n hx hb dX1_keep_35 rfl (lv_at hl 0 rfl) ?_
  refine va_get (D := X.1) (ci := 1) (v := .ref (y 1)) (C := RX1) (T := TX1) (N := 2) hx hb hts hiX1 hown hK.1 hP 0 rfl rfl 0 (by decide) k11 (fun _ h9 => h9) rfl dX1_keep_36 ?_
  refine lv_aload_n hx hb dX1_keep_39 rfl (lv_at hl 0 rfl) ?_
  refine va_get (D := X.1) (ci := 1) (v := .int (1 : Int32)) (C := RX1) (T := TX1) (N := 2) hx hb hts hiX1 hown hK.1 hP 0 rfl rfl 1 (by decide) k18 (fun _ h9 => h9) rfl dX1_keep_40 ?_
  refine hi_ald (b := hy 0 0) hx hb hK.1 hP 1 2 rfl rfl (by unfold vp_in; decide) rfl dX1_keep_43 ?_
  refine lv_ifnull hx hb dX1_keep_44 ?_
  refine lv_aload_n hx hb dX1_keep_47 rfl (lv_at hl 0 rfl) ?_
  refine va_get (D := X.1) (ci := 1) (v := .ref (y 1)) (C := RX1) (T := TX1) (N := 2) hx hb hts hiX1 hown hK.1 hP 0 rfl rfl 0 (by decide) k11 (fun _ h9 => h9) rfl dX1_keep_48 ?_
  refine lv_aload_n hx hb dX1_keep_51 rfl (lv_at hl 0 rfl) ?_
  refine va_get (D := X.1) (ci := 1) (v := .int (1 : Int32)) (C := RX1) (T := TX1) (N := 2) hx hb hts hiX1 hown hK.1 hP 0 rfl rfl 1 (by decide) k18 (fun _ h9 => h9) rfl dX1_keep_52 ?_
  refine hi_ald (b := hy 0 0) hx hb hK.1 hP 1 2 rfl rfl (by unfold vp_in; decide) rfl dX1_keep_55 ?_
  refine lv_aload_n hx hb dX1_keep_56 rfl (lv_at hl 1 rfl) ?_
  refine fn_VJ (v := none) (As := [.ref (h2 0)]) (rest := []) (st1 := []) (ws' := ((wHg X y hy (1 : Int32) (hk_g hy 3) (b0, b1, b2, b3, b4, b5, b6, b7, b8, b9, b10, b11, b12, b13) q1 q2 q3) ++ (wHo X h2 rP2 fP2 rT2 fT2 rG2 fG2 rL2 fL2 rH2 fH2 gi2 di2 re2 ti2))) (nL := 2) ⟨hx, hb, hml, hown, hts⟩ (c_X2_takeOver l X (hy 0) h2 q0.1 q0.2.1 q0.2.2.1 q0.2.2.2.1 q0.2.2.2.2.1 q0.2.2.2.2.2.1 q0.2.2.2.2.2.2.1 q0.2.2.2.2.2.2.2.1 q0.2.2.2.2.2.2.2.2.1 q0.2.2.2.2.2.2.2.2.2.1 q0.2.2.2.2.2.2.2.2.2.2.1 q0.2.2.2.2.2.2.2.2.2.2.2.1 q0.2.2.2.2.2.2.2.2.2.2.2.2.1 q0.2.2.2.2.2.2.2.2.2.2.2.2.2 rP2 fP2 rT2 fT2 rG2 fG2 rL2 fL2 rH2 fH2 gi2 di2 re2 ti2 b0 b1 b2 b3 b4 b5 b6 b7 b8 b9 b10 b11 b12 b13 hf) (cwV 1 hts gX1_keep_X2_takeOver rfl rfl rfl (by decide +kernel) ⟨Nat.le_of_ble_eq_true rfl, Nat.le_of_ble_eq_true rfl⟩) 2 rfl rfl rfl rfl hl.1 rfl (Nat.le_of_ble_eq_true rfl) dX1_keep_57 hK hP (hD0.addr (wK_fst.trans wK_fst.symm)) hS hA [2, 3, 4, 5, 6, 7, 8, 9, 10, 11, 12, 46, 47, 48, 49, 50, 51, 52, 53, 54, 55, 56] (by decide +kernel) kC_0 (kJ_0 (q' := (b0, b1, b2, b3, b4, b5, b6, b7, b8, b9, b10, b11, b12, b13))) (wK_fst.trans wK_fst.symm) rfl ⟨Nat.zero_le _, Nat.zero_le _⟩ (fun H locs hP hD hS => ?_)
  refine lv_aload_n hx hb dX1_keep_60 rfl (lv_at hl 0 rfl) ?_
  refine lv_dup hx hb dX1_keep_61 rfl ?_
  refine va_get (D := X.1) (ci := 1) (v := .int (1 : Int32)) (C := RX1) (T := TX1) (N := 2) hx hb hts hiX1 hown hK.1 hP 0 rfl rfl 1 (by decide) k18 (fun _ h9 => h9) rfl dX1_keep_62 ?_
  refine lv_iconst (v := 1) hx hb dX1_keep_65 (by decide) ?_
  refine lv_iadd hx hb dX1_keep_66 ?_
  refine lv_topi (fun v_19 ev_19 => ?_)
  obtain rfl : v_19 = (2 : Int32) := ev_19.trans (by decide)
  refine va_put (D := X.1) (ci := 1) (v := .int (2 : Int32)) (ty := .int) (C := RX1) (T := TX1) (N := 2) hx hb hts hiX1 tyX1 tyX1_ok nmX1 hown hK.1 hP (hD0.addr (wK_fst.trans wK_fst.symm)) hS 0 rfl rfl 1 (by decide) k18 (fun _ h9 => h9) rfl (by decide +kernel) rfl rfl (Nat.le_of_ble_eq_true rfl) dX1_keep_67 (fun H locs hP hD hS => ?_)
  have hP : va_P X.1 vwCl ((wHg X y hy (2 : Int32) (hk_g hy 3) (b0, b1, b2, b3, b4, b5, b6, b7, b8, b9, b10, b11, b12, b13) q1 q2 q3) ++ (wHo X h2 rP2 fP2 rT2 fT2 rG2 fG2 rL2 fL2 rH2 fH2 gi2 di2 re2 ti2)) H := hP
  exact fn_vret hx hb hr hlocks hP hS dX1_keep_70

set_option maxHeartbeats 4000000 in
set_option maxRecDepth 100000 in
theorem hk_keep_2_3 (l : Launch) (X : cx_G) (y : Nat → Nat) (hy : Nat → Nat → Nat) (q0 q1 q2 q3 : HS) (h2 : Nat → Nat) (rP2 : Int32) (fP2 : (Nat → Int32)) (rT2 : Int32) (fT2 : (Nat → Int32)) (rG2 : Int32) (fG2 : (Nat → Int32)) (rL2 : Int32) (fL2 : (Nat → Int32)) (rH2 : Int32) (fH2 : (Nat → Int32)) (gi2 : Int32) (di2 : Int32) (re2 : Int32) (ti2 : Int32) (b0 : Int32) (b1 : (Nat → Int32)) (b2 : Int32) (b3 : (Nat → Int32)) (b4 : Int32) (b5 : (Nat → Int32)) (b6 : Int32) (b7 : (Nat → Int32)) (b8 : Int32) (b9 : (Nat → Int32)) (b10 : Int32) (b11 : Int32) (b12 : Int32) (b13 : Int32) (hf : f_X2_takeOver q1.1 q1.2.1 q1.2.2.1 q1.2.2.2.1 q1.2.2.2.2.1 q1.2.2.2.2.2.1 q1.2.2.2.2.2.2.1 q1.2.2.2.2.2.2.2.1 q1.2.2.2.2.2.2.2.2.1 q1.2.2.2.2.2.2.2.2.2.1 q1.2.2.2.2.2.2.2.2.2.2.1 q1.2.2.2.2.2.2.2.2.2.2.2.1 q1.2.2.2.2.2.2.2.2.2.2.2.2.1 q1.2.2.2.2.2.2.2.2.2.2.2.2.2 rP2 fP2 rT2 fT2 rG2 fG2 rL2 fL2 rH2 fH2 gi2 di2 re2 ti2 = some (b0, b1, b2, b3, b4, b5, b6, b7, b8, b9, b10, b11, b12, b13)) : Fn l yX1_keep wsX1_keep ({ frames := 2, cells := 0, slots := 0, locals := 44 } : Room) X [.ref (y 0), .ref (h2 0)] ((wHg X y hy (2 : Int32) (hk_g hy 3) q0 q1 q2 q3) ++ (wHo X h2 rP2 fP2 rT2 fT2 rG2 fG2 rL2 fL2 rH2 fH2 gi2 di2 re2 ti2)) none ((wHg X y hy (3 : Int32) (hk_g hy 3) q0 (b0, b1, b2, b3, b4, b5, b6, b7, b8, b9, b10, b11, b12, b13) q2 q3) ++ (wHo X h2 rP2 fP2 rT2 fT2 rG2 fG2 rL2 fL2 rH2 fH2 gi2 di2 re2 ti2)) := by
  refine fn_intro (cc := cX1_keep) (maxL := 2) (ret := none) (by decide) rfl (wK_fst.trans wK_fst.symm) (Nat.le_of_ble_eq_true rfl) ?_
  intro p e s m args below meth c A ls hx hb hml hr hts hown hlocks hK hP hD0 hS hA hl
  have hown : s.vm.findClass RX1 = some m.cls := hown
  have hl : lv_has ls 2 [(0, .ref (y 0)), (1, .ref (h2 0))] := hl
  have hiX1 : ∀ w ∈ u_ws RX1 TX1 2, w ∈ wsX1_keep := by decide +kernel
  have k11 := hts (.fieldLink RX1 11 "LentRights$History" "states" "[LLentRights$House;") (by decide +kernel)
  have k18 := hts (.fieldLink RX1 18 "LentRights$History" "count" "I") (by decide +kernel)
  refine lv_aload_n hx hb dX1_keep_0 rfl (lv_at hl 0 rfl) ?_
  refine va_get (D := X.1) (ci := 1) (v := .int (2 : Int32)) (C := RX1) (T := TX1) (N := 2) hx hb hts hiX1 hown hK.1 hP 0 rfl rfl 1 (by decide) k18 (fun _ h9 => h9) rfl dX1_keep_1 ?_
  refine lv_aload_n hx hb dX1_keep_4 rfl (lv_at hl 0 rfl) ?_
  refine va_get (D := X.1) (ci := 1) (v := .ref (y 1)) (C := RX1) (T := TX1) (N := 2) hx hb hts hiX1 hown hK.1 hP 0 rfl rfl 0 (by decide) k11 (fun _ h9 => h9) rfl dX1_keep_5 ?_
  refine va_alen (v := (4 : Int32)) hx hb hK.1 hP 1 2 rfl rfl rfl dX1_keep_8 ?_
  refine lv_icmp_lt (tgt := 16) hx hb dX1_keep_9 (by decide) (fun _ => ?_) (fun c9 => absurd c9 (by decide))
  refine lv_aload_n hx hb dX1_keep_16 rfl (lv_at hl 0 rfl) ?_
  refine va_get (D := X.1) (ci := 1) (v := .int (2 : Int32)) (C := RX1) (T := TX1) (N := 2) hx hb hts hiX1 hown hK.1 hP 0 rfl rfl 1 (by decide) k18 (fun _ h9 => h9) rfl dX1_keep_17 ?_
  refine lv_if_lt (tgt := 70) hx hb dX1_keep_20 (by decide) (fun c9 => absurd c9 (by decide)) (fun _ => ?_)
  refine lv_aload_n hx hb dX1_keep_23 rfl (lv_at hl 0 rfl) ?_
  refine va_get (D := X.1) (ci := 1) (v := .int (2 : Int32)) (C := RX1) (T := TX1) (N := 2) hx hb hts hiX1 hown hK.1 hP 0 rfl rfl 1 (by decide) k18 (fun _ h9 => h9) rfl dX1_keep_24 ?_
  refine lv_aload_n hx hb dX1_keep_27 rfl (lv_at hl 0 rfl) ?_
  refine va_get (D := X.1) (ci := 1) (v := .ref (y 1)) (C := RX1) (T := TX1) (N := 2) hx hb hts hiX1 hown hK.1 hP 0 rfl rfl 0 (by decide) k11 (fun _ h9 => h9) rfl dX1_keep_28 ?_
  refine va_alen (v := (4 : Int32)) hx hb hK.1 hP 1 2 rfl rfl rfl dX1_keep_31 ?_
  refine lv_icmp_ge (tgt := 70) hx hb dX1_keep_32 (by decide) (fun c9 => absurd c9 (by decide)) (fun _ => ?_)
  refine lv_aload_n hx hb dX1_keep_35 rfl (lv_at hl 0 rfl) ?_
  refine va_get (D := X.1) (ci := 1) (v := .ref (y 1)) (C := RX1) (T := TX1) (N := 2) hx hb hts hiX1 hown hK.1 hP 0 rfl rfl 0 (by decide) k11 (fun _ h9 => h9) rfl dX1_keep_36 ?_
  refine lv_aload_n hx hb dX1_keep_39 rfl (lv_at hl 0 rfl) ?_
  refine va_get (D := X.1) (ci := 1) (v := .int (2 : Int32)) (C := RX1) (T := TX1) (N := 2) hx hb hts hiX1 hown hK.1 hP 0 rfl rfl 1 (by decide) k18 (fun _ h9 => h9) rfl dX1_keep_40 ?_
  refine hi_ald (b := hy 1 0) hx hb hK.1 hP 1 2 rfl rfl (by unfold vp_in; decide) rfl dX1_keep_43 ?_
  refine lv_ifnull hx hb dX1_keep_44 ?_
  refine lv_aload_n hx hb dX1_keep_47 rfl (lv_at hl 0 rfl) ?_
  refine va_get (D := X.1) (ci := 1) (v := .ref (y 1)) (C := RX1) (T := TX1) (N := 2) hx hb hts hiX1 hown hK.1 hP 0 rfl rfl 0 (by decide) k11 (fun _ h9 => h9) rfl dX1_keep_48 ?_
  refine lv_aload_n hx hb dX1_keep_51 rfl (lv_at hl 0 rfl) ?_
  refine va_get (D := X.1) (ci := 1) (v := .int (2 : Int32)) (C := RX1) (T := TX1) (N := 2) hx hb hts hiX1 hown hK.1 hP 0 rfl rfl 1 (by decide) k18 (fun _ h9 => h9) rfl dX1_keep_52 ?_
  refine hi_ald (b := hy 1 0) hx hb hK.1 hP 1 2 rfl rfl (by unfold vp_in; decide) rfl dX1_keep_55 ?_
  refine lv_aload_n hx hb dX1_keep_56 rfl (lv_at hl 1 rfl) ?_
  refine fn_VJ (v := none) (As := [.ref (h2 0)]) (rest := []) (st1 := []) (ws' := ((wHg X y hy (2 : Int32) (hk_g hy 3) q0 (b0, b1, b2, b3, b4, b5, b6, b7, b8, b9, b10, b11, b12, b13) q2 q3) ++ (wHo X h2 rP2 fP2 rT2 fT2 rG2 fG2 rL2 fL2 rH2 fH2 gi2 di2 re2 ti2))) (nL := 2) ⟨hx, hb, hml, hown, hts⟩ (c_X2_takeOver l X (hy 1) h2 q1.1 q1.2.1 q1.2.2.1 q1.2.2.2.1 q1.2.2.2.2.1 q1.2.2.2.2.2.1 q1.2.2.2.2.2.2.1 q1.2.2.2.2.2.2.2.1 q1.2.2.2.2.2.2.2.2.1 q1.2.2.2.2.2.2.2.2.2.1 q1.2.2.2.2.2.2.2.2.2.2.1 q1.2.2.2.2.2.2.2.2.2.2.2.1 q1.2.2.2.2.2.2.2.2.2.2.2.2.1 q1.2.2.2.2.2.2.2.2.2.2.2.2.2 rP2 fP2 rT2 fT2 rG2 fG2 rL2 fL2 rH2 fH2 gi2 di2 re2 ti2 b0 b1 b2 b3 b4 b5 b6 b7 b8 b9 b10 b11 b12 b13 hf) (cwV 1 hts gX1_keep_X2_takeOver rfl rfl rfl (by decide +kernel) ⟨Nat.le_of_ble_eq_true rfl, Nat.le_of_ble_eq_true rfl⟩) 2 rfl rfl rfl rfl hl.1 rfl (Nat.le_of_ble_eq_true rfl) dX1_keep_57 hK hP (hD0.addr (wK_fst.trans wK_fst.symm)) hS hA [13, 14, 15, 16, 17, 18, 19, 20, 21, 22, 23, 46, 47, 48, 49, 50, 51, 52, 53, 54, 55, 56] (by decide +kernel) kC_1 (kJ_1 (q' := (b0, b1, b2, b3, b4, b5, b6, b7, b8, b9, b10, b11, b12, b13))) (wK_fst.trans wK_fst.symm) rfl ⟨Nat.zero_le _, Nat.zero_le _⟩ (fun H locs hP hD hS => ?_)
  refine lv_aload_n hx hb dX1_keep_60 rfl (lv_at hl 0 rfl) ?_
  refine lv_dup hx hb dX1_keep_61 rfl ?_
  refine va_get (D := X.1) (ci := 1) (v := .int (2 : Int32)) (C := RX1) (T := TX1) (N := 2) hx hb hts hiX1 hown hK.1 hP 0 rfl rfl 1 (by decide) k18 (fun _ h9 => h9) rfl dX1_keep_62 ?_
  refine lv_iconst (v := 1) hx hb dX1_keep_65 (by decide) ?_
  refine lv_iadd hx hb dX1_keep_66 ?_
  refine lv_topi (fun v_19 ev_19 => ?_)
  obtain rfl : v_19 = (3 : Int32) := ev_19.trans (by decide)
  refine va_put (D := X.1) (ci := 1) (v := .int (3 : Int32)) (ty := .int) (C := RX1) (T := TX1) (N := 2) hx hb hts hiX1 tyX1 tyX1_ok nmX1 hown hK.1 hP (hD0.addr (wK_fst.trans wK_fst.symm)) hS 0 rfl rfl 1 (by decide) k18 (fun _ h9 => h9) rfl (by decide +kernel) rfl rfl (Nat.le_of_ble_eq_true rfl) dX1_keep_67 (fun H locs hP hD hS => ?_)
  have hP : va_P X.1 vwCl ((wHg X y hy (3 : Int32) (hk_g hy 3) q0 (b0, b1, b2, b3, b4, b5, b6, b7, b8, b9, b10, b11, b12, b13) q2 q3) ++ (wHo X h2 rP2 fP2 rT2 fT2 rG2 fG2 rL2 fL2 rH2 fH2 gi2 di2 re2 ti2)) H := hP
  exact fn_vret hx hb hr hlocks hP hS dX1_keep_70

set_option maxHeartbeats 4000000 in
set_option maxRecDepth 100000 in
theorem hk_keep_3_3 (l : Launch) (X : cx_G) (y : Nat → Nat) (hy : Nat → Nat → Nat) (q0 q1 q2 q3 : HS) (h2 : Nat → Nat) (rP2 : Int32) (fP2 : (Nat → Int32)) (rT2 : Int32) (fT2 : (Nat → Int32)) (rG2 : Int32) (fG2 : (Nat → Int32)) (rL2 : Int32) (fL2 : (Nat → Int32)) (rH2 : Int32) (fH2 : (Nat → Int32)) (gi2 : Int32) (di2 : Int32) (re2 : Int32) (ti2 : Int32) (b0 : Int32) (b1 : (Nat → Int32)) (b2 : Int32) (b3 : (Nat → Int32)) (b4 : Int32) (b5 : (Nat → Int32)) (b6 : Int32) (b7 : (Nat → Int32)) (b8 : Int32) (b9 : (Nat → Int32)) (b10 : Int32) (b11 : Int32) (b12 : Int32) (b13 : Int32) (hf : f_X2_takeOver q2.1 q2.2.1 q2.2.2.1 q2.2.2.2.1 q2.2.2.2.2.1 q2.2.2.2.2.2.1 q2.2.2.2.2.2.2.1 q2.2.2.2.2.2.2.2.1 q2.2.2.2.2.2.2.2.2.1 q2.2.2.2.2.2.2.2.2.2.1 q2.2.2.2.2.2.2.2.2.2.2.1 q2.2.2.2.2.2.2.2.2.2.2.2.1 q2.2.2.2.2.2.2.2.2.2.2.2.2.1 q2.2.2.2.2.2.2.2.2.2.2.2.2.2 rP2 fP2 rT2 fT2 rG2 fG2 rL2 fL2 rH2 fH2 gi2 di2 re2 ti2 = some (b0, b1, b2, b3, b4, b5, b6, b7, b8, b9, b10, b11, b12, b13)) : Fn l yX1_keep wsX1_keep ({ frames := 2, cells := 0, slots := 0, locals := 44 } : Room) X [.ref (y 0), .ref (h2 0)] ((wHg X y hy (3 : Int32) (hk_g hy 3) q0 q1 q2 q3) ++ (wHo X h2 rP2 fP2 rT2 fT2 rG2 fG2 rL2 fL2 rH2 fH2 gi2 di2 re2 ti2)) none ((wHg X y hy (4 : Int32) (hk_g hy 3) q0 q1 (b0, b1, b2, b3, b4, b5, b6, b7, b8, b9, b10, b11, b12, b13) q3) ++ (wHo X h2 rP2 fP2 rT2 fT2 rG2 fG2 rL2 fL2 rH2 fH2 gi2 di2 re2 ti2)) := by
  refine fn_intro (cc := cX1_keep) (maxL := 2) (ret := none) (by decide) rfl (wK_fst.trans wK_fst.symm) (Nat.le_of_ble_eq_true rfl) ?_
  intro p e s m args below meth c A ls hx hb hml hr hts hown hlocks hK hP hD0 hS hA hl
  have hown : s.vm.findClass RX1 = some m.cls := hown
  have hl : lv_has ls 2 [(0, .ref (y 0)), (1, .ref (h2 0))] := hl
  have hiX1 : ∀ w ∈ u_ws RX1 TX1 2, w ∈ wsX1_keep := by decide +kernel
  have k11 := hts (.fieldLink RX1 11 "LentRights$History" "states" "[LLentRights$House;") (by decide +kernel)
  have k18 := hts (.fieldLink RX1 18 "LentRights$History" "count" "I") (by decide +kernel)
  refine lv_aload_n hx hb dX1_keep_0 rfl (lv_at hl 0 rfl) ?_
  refine va_get (D := X.1) (ci := 1) (v := .int (3 : Int32)) (C := RX1) (T := TX1) (N := 2) hx hb hts hiX1 hown hK.1 hP 0 rfl rfl 1 (by decide) k18 (fun _ h9 => h9) rfl dX1_keep_1 ?_
  refine lv_aload_n hx hb dX1_keep_4 rfl (lv_at hl 0 rfl) ?_
  refine va_get (D := X.1) (ci := 1) (v := .ref (y 1)) (C := RX1) (T := TX1) (N := 2) hx hb hts hiX1 hown hK.1 hP 0 rfl rfl 0 (by decide) k11 (fun _ h9 => h9) rfl dX1_keep_5 ?_
  refine va_alen (v := (4 : Int32)) hx hb hK.1 hP 1 2 rfl rfl rfl dX1_keep_8 ?_
  refine lv_icmp_lt (tgt := 16) hx hb dX1_keep_9 (by decide) (fun _ => ?_) (fun c9 => absurd c9 (by decide))
  refine lv_aload_n hx hb dX1_keep_16 rfl (lv_at hl 0 rfl) ?_
  refine va_get (D := X.1) (ci := 1) (v := .int (3 : Int32)) (C := RX1) (T := TX1) (N := 2) hx hb hts hiX1 hown hK.1 hP 0 rfl rfl 1 (by decide) k18 (fun _ h9 => h9) rfl dX1_keep_17 ?_
  refine lv_if_lt (tgt := 70) hx hb dX1_keep_20 (by decide) (fun c9 => absurd c9 (by decide)) (fun _ => ?_)
  refine lv_aload_n hx hb dX1_keep_23 rfl (lv_at hl 0 rfl) ?_
  refine va_get (D := X.1) (ci := 1) (v := .int (3 : Int32)) (C := RX1) (T := TX1) (N := 2) hx hb hts hiX1 hown hK.1 hP 0 rfl rfl 1 (by decide) k18 (fun _ h9 => h9) rfl dX1_keep_24 ?_
  refine lv_aload_n hx hb dX1_keep_27 rfl (lv_at hl 0 rfl) ?_
  refine va_get (D := X.1) (ci := 1) (v := .ref (y 1)) (C := RX1) (T := TX1) (N := 2) hx hb hts hiX1 hown hK.1 hP 0 rfl rfl 0 (by decide) k11 (fun _ h9 => h9) rfl dX1_keep_28 ?_
  refine va_alen (v := (4 : Int32)) hx hb hK.1 hP 1 2 rfl rfl rfl dX1_keep_31 ?_
  refine lv_icmp_ge (tgt := 70) hx hb dX1_keep_32 (by decide) (fun c9 => absurd c9 (by decide)) (fun _ => ?_)
  refine lv_aload_n hx hb dX1_keep_35 rfl (lv_at hl 0 rfl) ?_
  refine va_get (D := X.1) (ci := 1) (v := .ref (y 1)) (C := RX1) (T := TX1) (N := 2) hx hb hts hiX1 hown hK.1 hP 0 rfl rfl 0 (by decide) k11 (fun _ h9 => h9) rfl dX1_keep_36 ?_
  refine lv_aload_n hx hb dX1_keep_39 rfl (lv_at hl 0 rfl) ?_
  refine va_get (D := X.1) (ci := 1) (v := .int (3 : Int32)) (C := RX1) (T := TX1) (N := 2) hx hb hts hiX1 hown hK.1 hP 0 rfl rfl 1 (by decide) k18 (fun _ h9 => h9) rfl dX1_keep_40 ?_
  refine hi_ald (b := hy 2 0) hx hb hK.1 hP 1 2 rfl rfl (by unfold vp_in; decide) rfl dX1_keep_43 ?_
  refine lv_ifnull hx hb dX1_keep_44 ?_
  refine lv_aload_n hx hb dX1_keep_47 rfl (lv_at hl 0 rfl) ?_
  refine va_get (D := X.1) (ci := 1) (v := .ref (y 1)) (C := RX1) (T := TX1) (N := 2) hx hb hts hiX1 hown hK.1 hP 0 rfl rfl 0 (by decide) k11 (fun _ h9 => h9) rfl dX1_keep_48 ?_
  refine lv_aload_n hx hb dX1_keep_51 rfl (lv_at hl 0 rfl) ?_
  refine va_get (D := X.1) (ci := 1) (v := .int (3 : Int32)) (C := RX1) (T := TX1) (N := 2) hx hb hts hiX1 hown hK.1 hP 0 rfl rfl 1 (by decide) k18 (fun _ h9 => h9) rfl dX1_keep_52 ?_
  refine hi_ald (b := hy 2 0) hx hb hK.1 hP 1 2 rfl rfl (by unfold vp_in; decide) rfl dX1_keep_55 ?_
  refine lv_aload_n hx hb dX1_keep_56 rfl (lv_at hl 1 rfl) ?_
  refine fn_VJ (v := none) (As := [.ref (h2 0)]) (rest := []) (st1 := []) (ws' := ((wHg X y hy (3 : Int32) (hk_g hy 3) q0 q1 (b0, b1, b2, b3, b4, b5, b6, b7, b8, b9, b10, b11, b12, b13) q3) ++ (wHo X h2 rP2 fP2 rT2 fT2 rG2 fG2 rL2 fL2 rH2 fH2 gi2 di2 re2 ti2))) (nL := 2) ⟨hx, hb, hml, hown, hts⟩ (c_X2_takeOver l X (hy 2) h2 q2.1 q2.2.1 q2.2.2.1 q2.2.2.2.1 q2.2.2.2.2.1 q2.2.2.2.2.2.1 q2.2.2.2.2.2.2.1 q2.2.2.2.2.2.2.2.1 q2.2.2.2.2.2.2.2.2.1 q2.2.2.2.2.2.2.2.2.2.1 q2.2.2.2.2.2.2.2.2.2.2.1 q2.2.2.2.2.2.2.2.2.2.2.2.1 q2.2.2.2.2.2.2.2.2.2.2.2.2.1 q2.2.2.2.2.2.2.2.2.2.2.2.2.2 rP2 fP2 rT2 fT2 rG2 fG2 rL2 fL2 rH2 fH2 gi2 di2 re2 ti2 b0 b1 b2 b3 b4 b5 b6 b7 b8 b9 b10 b11 b12 b13 hf) (cwV 1 hts gX1_keep_X2_takeOver rfl rfl rfl (by decide +kernel) ⟨Nat.le_of_ble_eq_true rfl, Nat.le_of_ble_eq_true rfl⟩) 2 rfl rfl rfl rfl hl.1 rfl (Nat.le_of_ble_eq_true rfl) dX1_keep_57 hK hP (hD0.addr (wK_fst.trans wK_fst.symm)) hS hA [24, 25, 26, 27, 28, 29, 30, 31, 32, 33, 34, 46, 47, 48, 49, 50, 51, 52, 53, 54, 55, 56] (by decide +kernel) kC_2 (kJ_2 (q' := (b0, b1, b2, b3, b4, b5, b6, b7, b8, b9, b10, b11, b12, b13))) (wK_fst.trans wK_fst.symm) rfl ⟨Nat.zero_le _, Nat.zero_le _⟩ (fun H locs hP hD hS => ?_)
  refine lv_aload_n hx hb dX1_keep_60 rfl (lv_at hl 0 rfl) ?_
  refine lv_dup hx hb dX1_keep_61 rfl ?_
  refine va_get (D := X.1) (ci := 1) (v := .int (3 : Int32)) (C := RX1) (T := TX1) (N := 2) hx hb hts hiX1 hown hK.1 hP 0 rfl rfl 1 (by decide) k18 (fun _ h9 => h9) rfl dX1_keep_62 ?_
  refine lv_iconst (v := 1) hx hb dX1_keep_65 (by decide) ?_
  refine lv_iadd hx hb dX1_keep_66 ?_
  refine lv_topi (fun v_19 ev_19 => ?_)
  obtain rfl : v_19 = (4 : Int32) := ev_19.trans (by decide)
  refine va_put (D := X.1) (ci := 1) (v := .int (4 : Int32)) (ty := .int) (C := RX1) (T := TX1) (N := 2) hx hb hts hiX1 tyX1 tyX1_ok nmX1 hown hK.1 hP (hD0.addr (wK_fst.trans wK_fst.symm)) hS 0 rfl rfl 1 (by decide) k18 (fun _ h9 => h9) rfl (by decide +kernel) rfl rfl (Nat.le_of_ble_eq_true rfl) dX1_keep_67 (fun H locs hP hD hS => ?_)
  have hP : va_P X.1 vwCl ((wHg X y hy (4 : Int32) (hk_g hy 3) q0 q1 (b0, b1, b2, b3, b4, b5, b6, b7, b8, b9, b10, b11, b12, b13) q3) ++ (wHo X h2 rP2 fP2 rT2 fT2 rG2 fG2 rL2 fL2 rH2 fH2 gi2 di2 re2 ti2)) H := hP
  exact fn_vret hx hb hr hlocks hP hS dX1_keep_70

set_option maxHeartbeats 4000000 in
set_option maxRecDepth 100000 in
theorem hk_keep_4_3 (l : Launch) (X : cx_G) (y : Nat → Nat) (hy : Nat → Nat → Nat) (q0 q1 q2 q3 : HS) (h2 : Nat → Nat) (rP2 : Int32) (fP2 : (Nat → Int32)) (rT2 : Int32) (fT2 : (Nat → Int32)) (rG2 : Int32) (fG2 : (Nat → Int32)) (rL2 : Int32) (fL2 : (Nat → Int32)) (rH2 : Int32) (fH2 : (Nat → Int32)) (gi2 : Int32) (di2 : Int32) (re2 : Int32) (ti2 : Int32) (b0 : Int32) (b1 : (Nat → Int32)) (b2 : Int32) (b3 : (Nat → Int32)) (b4 : Int32) (b5 : (Nat → Int32)) (b6 : Int32) (b7 : (Nat → Int32)) (b8 : Int32) (b9 : (Nat → Int32)) (b10 : Int32) (b11 : Int32) (b12 : Int32) (b13 : Int32) (hf : f_X2_takeOver q3.1 q3.2.1 q3.2.2.1 q3.2.2.2.1 q3.2.2.2.2.1 q3.2.2.2.2.2.1 q3.2.2.2.2.2.2.1 q3.2.2.2.2.2.2.2.1 q3.2.2.2.2.2.2.2.2.1 q3.2.2.2.2.2.2.2.2.2.1 q3.2.2.2.2.2.2.2.2.2.2.1 q3.2.2.2.2.2.2.2.2.2.2.2.1 q3.2.2.2.2.2.2.2.2.2.2.2.2.1 q3.2.2.2.2.2.2.2.2.2.2.2.2.2 rP2 fP2 rT2 fT2 rG2 fG2 rL2 fL2 rH2 fH2 gi2 di2 re2 ti2 = some (b0, b1, b2, b3, b4, b5, b6, b7, b8, b9, b10, b11, b12, b13)) : Fn l yX1_keep wsX1_keep ({ frames := 2, cells := 0, slots := 0, locals := 44 } : Room) X [.ref (y 0), .ref (h2 0)] ((wHg X y hy (4 : Int32) (hk_g hy 3) q0 q1 q2 q3) ++ (wHo X h2 rP2 fP2 rT2 fT2 rG2 fG2 rL2 fL2 rH2 fH2 gi2 di2 re2 ti2)) none ((wHg X y hy (4 : Int32) (hk_g hy 0) q0 q1 q2 (b0, b1, b2, b3, b4, b5, b6, b7, b8, b9, b10, b11, b12, b13)) ++ (wHo X h2 rP2 fP2 rT2 fT2 rG2 fG2 rL2 fL2 rH2 fH2 gi2 di2 re2 ti2)) := by
  refine fn_intro (cc := cX1_keep) (maxL := 2) (ret := none) (by decide) rfl (wK_fst.trans wK_fst.symm) (Nat.le_of_ble_eq_true rfl) ?_
  intro p e s m args below meth c A ls hx hb hml hr hts hown hlocks hK hP hD0 hS hA hl
  have hown : s.vm.findClass RX1 = some m.cls := hown
  have hl : lv_has ls 2 [(0, .ref (y 0)), (1, .ref (h2 0))] := hl
  have hiX1 : ∀ w ∈ u_ws RX1 TX1 2, w ∈ wsX1_keep := by decide +kernel
  have k11 := hts (.fieldLink RX1 11 "LentRights$History" "states" "[LLentRights$House;") (by decide +kernel)
  have k18 := hts (.fieldLink RX1 18 "LentRights$History" "count" "I") (by decide +kernel)
  refine lv_aload_n hx hb dX1_keep_0 rfl (lv_at hl 0 rfl) ?_
  refine va_get (D := X.1) (ci := 1) (v := .int (4 : Int32)) (C := RX1) (T := TX1) (N := 2) hx hb hts hiX1 hown hK.1 hP 0 rfl rfl 1 (by decide) k18 (fun _ h9 => h9) rfl dX1_keep_1 ?_
  refine lv_aload_n hx hb dX1_keep_4 rfl (lv_at hl 0 rfl) ?_
  refine va_get (D := X.1) (ci := 1) (v := .ref (y 1)) (C := RX1) (T := TX1) (N := 2) hx hb hts hiX1 hown hK.1 hP 0 rfl rfl 0 (by decide) k11 (fun _ h9 => h9) rfl dX1_keep_5 ?_
  refine va_alen (v := (4 : Int32)) hx hb hK.1 hP 1 2 rfl rfl rfl dX1_keep_8 ?_
  refine lv_icmp_lt (tgt := 16) hx hb dX1_keep_9 (by decide) (fun c9 => absurd c9 (by decide)) (fun _ => ?_)
  refine lv_aload_n hx hb dX1_keep_12 rfl (lv_at hl 0 rfl) ?_
  refine fn_VJ (v := none) (As := []) (rest := []) (st1 := []) (ws' := ((wHg X y hy (3 : Int32) (hk_g hy 0) q0 q1 q2 q3) ++ (wHo X h2 rP2 fP2 rT2 fT2 rG2 fG2 rL2 fL2 rH2 fH2 gi2 di2 re2 ti2))) (nL := 2) ⟨hx, hb, hml, hown, hts⟩ (hk_makeRoom_3 l X y hy q0 q1 q2 q3) (cwV 0 hts gX1_keep_X1_makeRoom rfl rfl rfl (by decide +kernel) ⟨Nat.le_of_ble_eq_true rfl, Nat.le_of_ble_eq_true rfl⟩) 1 rfl rfl rfl rfl hl.1 rfl (Nat.le_of_ble_eq_true rfl) dX1_keep_13 hK hP (hD0.addr (wK_fst.trans wK_fst.symm)) hS hA [0, 1, 2, 3, 4, 5, 6, 7, 8, 9, 10, 11, 12, 13, 14, 15, 16, 17, 18, 19, 20, 21, 22, 23, 24, 25, 26, 27, 28, 29, 30, 31, 32, 33, 34, 35, 36, 37, 38, 39, 40, 41, 42, 43, 44, 45] (by decide +kernel) mC mJ (wK_fst.trans wK_fst.symm) rfl ⟨Nat.zero_le _, Nat.zero_le _⟩ (fun H locs hP hD hS => ?_)
  refine lv_aload_n hx hb dX1_keep_16 rfl (lv_at hl 0 rfl) ?_
  refine va_get (D := X.1) (ci := 1) (v := .int (3 : Int32)) (C := RX1) (T := TX1) (N := 2) hx hb hts hiX1 hown hK.1 hP 0 rfl rfl 1 (by decide) k18 (fun _ h9 => h9) rfl dX1_keep_17 ?_
  refine lv_if_lt (tgt := 70) hx hb dX1_keep_20 (by decide) (fun c9 => absurd c9 (by decide)) (fun _ => ?_)
  refine lv_aload_n hx hb dX1_keep_23 rfl (lv_at hl 0 rfl) ?_
  refine va_get (D := X.1) (ci := 1) (v := .int (3 : Int32)) (C := RX1) (T := TX1) (N := 2) hx hb hts hiX1 hown hK.1 hP 0 rfl rfl 1 (by decide) k18 (fun _ h9 => h9) rfl dX1_keep_24 ?_
  refine lv_aload_n hx hb dX1_keep_27 rfl (lv_at hl 0 rfl) ?_
  refine va_get (D := X.1) (ci := 1) (v := .ref (y 1)) (C := RX1) (T := TX1) (N := 2) hx hb hts hiX1 hown hK.1 hP 0 rfl rfl 0 (by decide) k11 (fun _ h9 => h9) rfl dX1_keep_28 ?_
  refine va_alen (v := (4 : Int32)) hx hb hK.1 hP 1 2 rfl rfl rfl dX1_keep_31 ?_
  refine lv_icmp_ge (tgt := 70) hx hb dX1_keep_32 (by decide) (fun c9 => absurd c9 (by decide)) (fun _ => ?_)
  refine lv_aload_n hx hb dX1_keep_35 rfl (lv_at hl 0 rfl) ?_
  refine va_get (D := X.1) (ci := 1) (v := .ref (y 1)) (C := RX1) (T := TX1) (N := 2) hx hb hts hiX1 hown hK.1 hP 0 rfl rfl 0 (by decide) k11 (fun _ h9 => h9) rfl dX1_keep_36 ?_
  refine lv_aload_n hx hb dX1_keep_39 rfl (lv_at hl 0 rfl) ?_
  refine va_get (D := X.1) (ci := 1) (v := .int (3 : Int32)) (C := RX1) (T := TX1) (N := 2) hx hb hts hiX1 hown hK.1 hP 0 rfl rfl 1 (by decide) k18 (fun _ h9 => h9) rfl dX1_keep_40 ?_
  refine hi_ald (b := hy 3 0) hx hb hK.1 hP 1 2 rfl rfl (by unfold vp_in; decide) rfl dX1_keep_43 ?_
  refine lv_ifnull hx hb dX1_keep_44 ?_
  refine lv_aload_n hx hb dX1_keep_47 rfl (lv_at hl 0 rfl) ?_
  refine va_get (D := X.1) (ci := 1) (v := .ref (y 1)) (C := RX1) (T := TX1) (N := 2) hx hb hts hiX1 hown hK.1 hP 0 rfl rfl 0 (by decide) k11 (fun _ h9 => h9) rfl dX1_keep_48 ?_
  refine lv_aload_n hx hb dX1_keep_51 rfl (lv_at hl 0 rfl) ?_
  refine va_get (D := X.1) (ci := 1) (v := .int (3 : Int32)) (C := RX1) (T := TX1) (N := 2) hx hb hts hiX1 hown hK.1 hP 0 rfl rfl 1 (by decide) k18 (fun _ h9 => h9) rfl dX1_keep_52 ?_
  refine hi_ald (b := hy 3 0) hx hb hK.1 hP 1 2 rfl rfl (by unfold vp_in; decide) rfl dX1_keep_55 ?_
  refine lv_aload_n hx hb dX1_keep_56 rfl (lv_at hl 1 rfl) ?_
  refine fn_VJ (v := none) (As := [.ref (h2 0)]) (rest := []) (st1 := []) (ws' := ((wHg X y hy (3 : Int32) (hk_g hy 0) q0 q1 q2 (b0, b1, b2, b3, b4, b5, b6, b7, b8, b9, b10, b11, b12, b13)) ++ (wHo X h2 rP2 fP2 rT2 fT2 rG2 fG2 rL2 fL2 rH2 fH2 gi2 di2 re2 ti2))) (nL := 2) ⟨hx, hb, hml, hown, hts⟩ (c_X2_takeOver l X (hy 3) h2 q3.1 q3.2.1 q3.2.2.1 q3.2.2.2.1 q3.2.2.2.2.1 q3.2.2.2.2.2.1 q3.2.2.2.2.2.2.1 q3.2.2.2.2.2.2.2.1 q3.2.2.2.2.2.2.2.2.1 q3.2.2.2.2.2.2.2.2.2.1 q3.2.2.2.2.2.2.2.2.2.2.1 q3.2.2.2.2.2.2.2.2.2.2.2.1 q3.2.2.2.2.2.2.2.2.2.2.2.2.1 q3.2.2.2.2.2.2.2.2.2.2.2.2.2 rP2 fP2 rT2 fT2 rG2 fG2 rL2 fL2 rH2 fH2 gi2 di2 re2 ti2 b0 b1 b2 b3 b4 b5 b6 b7 b8 b9 b10 b11 b12 b13 hf) (cwV 1 hts gX1_keep_X2_takeOver rfl rfl rfl (by decide +kernel) ⟨Nat.le_of_ble_eq_true rfl, Nat.le_of_ble_eq_true rfl⟩) 2 rfl rfl rfl rfl hl.1 rfl (Nat.le_of_ble_eq_true rfl) dX1_keep_57 hK hP (hD0.addr (wK_fst.trans wK_fst.symm)) hS hA [35, 36, 37, 38, 39, 40, 41, 42, 43, 44, 45, 46, 47, 48, 49, 50, 51, 52, 53, 54, 55, 56] (by decide +kernel) kC_3 (kJ_3 (q' := (b0, b1, b2, b3, b4, b5, b6, b7, b8, b9, b10, b11, b12, b13))) (wK_fst.trans wK_fst.symm) rfl ⟨Nat.zero_le _, Nat.zero_le _⟩ (fun H locs hP hD hS => ?_)
  refine lv_aload_n hx hb dX1_keep_60 rfl (lv_at hl 0 rfl) ?_
  refine lv_dup hx hb dX1_keep_61 rfl ?_
  refine va_get (D := X.1) (ci := 1) (v := .int (3 : Int32)) (C := RX1) (T := TX1) (N := 2) hx hb hts hiX1 hown hK.1 hP 0 rfl rfl 1 (by decide) k18 (fun _ h9 => h9) rfl dX1_keep_62 ?_
  refine lv_iconst (v := 1) hx hb dX1_keep_65 (by decide) ?_
  refine lv_iadd hx hb dX1_keep_66 ?_
  refine lv_topi (fun v_20 ev_20 => ?_)
  obtain rfl : v_20 = (4 : Int32) := ev_20.trans (by decide)
  refine va_put (D := X.1) (ci := 1) (v := .int (4 : Int32)) (ty := .int) (C := RX1) (T := TX1) (N := 2) hx hb hts hiX1 tyX1 tyX1_ok nmX1 hown hK.1 hP (hD0.addr (wK_fst.trans wK_fst.symm)) hS 0 rfl rfl 1 (by decide) k18 (fun _ h9 => h9) rfl (by decide +kernel) rfl rfl (Nat.le_of_ble_eq_true rfl) dX1_keep_67 (fun H locs hP hD hS => ?_)
  have hP : va_P X.1 vwCl ((wHg X y hy (4 : Int32) (hk_g hy 0) q0 q1 q2 (b0, b1, b2, b3, b4, b5, b6, b7, b8, b9, b10, b11, b12, b13)) ++ (wHo X h2 rP2 fP2 rT2 fT2 rG2 fG2 rL2 fL2 rH2 fH2 gi2 di2 re2 ti2)) H := hP
  exact fn_vret hx hb hr hlocks hP hS dX1_keep_70
