def f_X6_thrown (th : Int32) : Option (Int32) :=
  some th
set_option maxHeartbeats 4000000 in
set_option maxRecDepth 100000 in
theorem c_X6_thrown (l : Launch) (X : cx_G) (mo : (Nat → Nat)) (al : (Nat → Int32)) (sv : (Nat → Int32)) (sm : Int32) (asd : (Nat → Int32)) (th : Int32) (ho : (Nat → Int32)) (fr : (Nat → Int32)) (txt : (Nat → Int32)) (tl : Int32) (pos : Int32) (od : Int32) (nu : (Nat → Int32)) (su : Int64) (r : Int32) (hf : f_X6_thrown th = some r) : Fn l yX6_thrown wsX6_thrown ({ frames := 0, cells := 0, slots := 0, locals := 0 } : Room) X [.ref (mo 0)] (wMo X mo al sv sm asd th ho fr txt tl pos od nu su) (some (.int r)) (wMo X mo al sv sm asd th ho fr txt tl pos od nu su) := by
  refine fn_intro (cc := cX6_thrown) (maxL := 1) (ret := (some .int)) (by decide) rfl rfl (Nat.le_of_ble_eq_true rfl) ?_
  intro p e s m args below meth c A ls hx hb hml hr hts hown hlocks hK hP hD0 hS hA hl
  have hown : s.vm.findClass RX6 = some m.cls := hown
  have hl : lv_has ls 1 [(0, .ref (mo 0))] := hl
  have hiX6 : ∀ w ∈ u_ws RX6 TX6 13, w ∈ wsX6_thrown := by decide +kernel
  have k31 := hts (.fieldLink RX6 31 "LentRightsModel" "thrown" "I") (by decide +kernel)
  unfold f_X6_thrown at hf
  refine lv_aload_n hx hb dX6_thrown_0 rfl (lv_at hl 0 rfl) ?_
  refine va_get (D := X.1) (ci := 6) (v := .int th) (C := RX6) (T := TX6) (N := 13) hx hb hts hiX6 hown hK.1 hP 0 rfl rfl 4 (by decide) k31 (fun _ h9 => h9) rfl dX6_thrown_1 ?_
  cases hf
  exact fn_iret hx hb hr hlocks hP hS dX6_thrown_4

def f_X6_in (x0 : Int64) (x2 : Int64) (x4 : Int64) : Option (Int32) :=
  if lg_cmp x0 x2 < (0 : Int32) then
  (some (0 : Int32))
  else
  (if (0 : Int32) < lg_cmp x0 x4 then
  (some (0 : Int32))
  else
  (some (1 : Int32)))
theorem z_X6_in {x0 : Int64} {x2 : Int64} {x4 : Int64} {r : Int32} (hf : f_X6_in x0 x2 x4 = some r) : r = 0 ∨ r = 1 := by
  unfold f_X6_in at hf
  by_cases c_1 : lg_cmp x0 x2 < (0 : Int32)
  · replace hf := fp_t c_1 hf
    cases hf
    exact Or.inl rfl
  · replace hf := fp_f c_1 hf
    by_cases c_2 : (0 : Int32) < lg_cmp x0 x4
    · replace hf := fp_t c_2 hf
      cases hf
      exact Or.inl rfl
    · replace hf := fp_f c_2 hf
      cases hf
      exact Or.inr rfl
set_option maxHeartbeats 4000000 in
set_option maxRecDepth 100000 in
theorem c_X6_in (l : Launch) (X : cx_G) (x0 : Int64) (x2 : Int64) (x4 : Int64) (r : Int32) (hf : f_X6_in x0 x2 x4 = some r) : Fn l yX6_in wsX6_in ({ frames := 0, cells := 0, slots := 0, locals := 0 } : Room) X [.long x0, .long x2, .long x4] ([] : va_W) (some (.int r)) ([] : va_W) := by
  refine fn_intro (cc := cX6_in) (maxL := 6) (ret := (some .boolean)) (by decide) rfl rfl (Nat.le_of_ble_eq_true rfl) ?_
  intro p e s m args below meth c A ls hx hb hml hr hts hown hlocks hK hP hD0 hS hA hl
  have hown : s.vm.findClass RX6 = some m.cls := hown
  have hl : lv_has ls 6 [(0, .long x0), (2, .long x2), (4, .long x4)] := hl
  unfold f_X6_in at hf
  refine lv_lload_n hx hb dX6_in_0 rfl (lv_at hl 0 rfl) ?_
  refine lv_lload_n hx hb dX6_in_1 rfl (lv_at hl 1 rfl) ?_
  refine W.lcmp hx hb dX6_in_2 ?_
  refine lv_if_lt (tgt := 17) hx hb dX6_in_3 (by decide) (fun c_1 => ?_) (fun c_1 => ?_)
  · replace hf := fp_t c_1 hf
    refine lv_iconst (v := 0) hx hb dX6_in_17 (by decide) ?_
    cases hf
    exact fn_zret hx hb hr rfl hlocks hP hS dX6_in_18
  · replace hf := fp_f c_1 hf
    refine lv_lload_n hx hb dX6_in_6 rfl (lv_at hl 0 rfl) ?_
    refine lv_lload hx hb dX6_in_7 (lv_at hl 2 rfl) ?_
    refine W.lcmp hx hb dX6_in_9 ?_
    refine lv_if_gt (tgt := 17) hx hb dX6_in_10 (by decide) (fun c_2 => ?_) (fun c_2 => ?_)
    · replace hf := fp_t c_2 hf
      refine lv_iconst (v := 0) hx hb dX6_in_17 (by decide) ?_
      cases hf
      exact fn_zret hx hb hr rfl hlocks hP hS dX6_in_18
    · replace hf := fp_f c_2 hf
      refine lv_iconst (v := 1) hx hb dX6_in_13 (by decide) ?_
      refine lv_goto (tgt := 18) hx hb dX6_in_14 (by decide) ?_
      cases hf
      exact fn_zret hx hb hr rfl hlocks hP hS dX6_in_18

def f_X6_goes (x1 : Int32) (x2 : Int32) (x3 : Int32) (th : Int32) : Option (Int32 × Int32) :=
  if x1 = (0 : Int32) then
  (some ((0 : Int32), (1 : Int32)))
  else
  (if x2 = (0 : Int32) then
  (some ((0 : Int32), (2 : Int32)))
  else
  (if x3 = (0 : Int32) then
  (some ((0 : Int32), (3 : Int32)))
  else
  (some ((1 : Int32), (0 : Int32)))))
theorem z_X6_goes {x1 : Int32} {x2 : Int32} {x3 : Int32} {th : Int32} {r : Int32} {th' : Int32} (hf : f_X6_goes x1 x2 x3 th = some (r, th')) : r = 0 ∨ r = 1 := by
  unfold f_X6_goes at hf
  by_cases c_1 : x1 = (0 : Int32)
  · replace hf := fp_t c_1 hf
    cases hf
    exact Or.inl rfl
  · replace hf := fp_f c_1 hf
    by_cases c_2 : x2 = (0 : Int32)
    · replace hf := fp_t c_2 hf
      cases hf
      exact Or.inl rfl
    · replace hf := fp_f c_2 hf
      by_cases c_3 : x3 = (0 : Int32)
      · replace hf := fp_t c_3 hf
        cases hf
        exact Or.inl rfl
      · replace hf := fp_f c_3 hf
        cases hf
        exact Or.inr rfl
set_option maxHeartbeats 4000000 in
set_option maxRecDepth 100000 in
theorem c_X6_goes (l : Launch) (X : cx_G) (mo : (Nat → Nat)) (al : (Nat → Int32)) (sv : (Nat → Int32)) (sm : Int32) (asd : (Nat → Int32)) (th : Int32) (ho : (Nat → Int32)) (fr : (Nat → Int32)) (txt : (Nat → Int32)) (tl : Int32) (pos : Int32) (od : Int32) (nu : (Nat → Int32)) (su : Int64) (x1 : Int32) (x2 : Int32) (x3 : Int32) (r : Int32) (th' : Int32) (hf : f_X6_goes x1 x2 x3 th = some (r, th')) : Fn l yX6_goes wsX6_goes ({ frames := 0, cells := 0, slots := 0, locals := 0 } : Room) X [.ref (mo 0), .int x1, .int x2, .int x3] (wMo X mo al sv sm asd th ho fr txt tl pos od nu su) (some (.int r)) (wMo X mo al sv sm asd th' ho fr txt tl pos od nu su) := by
  refine fn_intro (cc := cX6_goes) (maxL := 4) (ret := (some .boolean)) (by decide) rfl rfl (Nat.le_of_ble_eq_true rfl) ?_
  intro p e s m args below meth c A ls hx hb hml hr hts hown hlocks hK hP hD0 hS hA hl
  have hown : s.vm.findClass RX6 = some m.cls := hown
  have hl : lv_has ls 4 [(0, .ref (mo 0)), (1, .int x1), (2, .int x2), (3, .int x3)] := hl
  have hiX6 : ∀ w ∈ u_ws RX6 TX6 13, w ∈ wsX6_goes := by decide +kernel
  have k31 := hts (.fieldLink RX6 31 "LentRightsModel" "thrown" "I") (by decide +kernel)
  unfold f_X6_goes at hf
  refine lv_aload_n hx hb dX6_goes_0 rfl (lv_at hl 0 rfl) ?_
  refine lv_iload_n hx hb dX6_goes_1 rfl (lv_at hl 1 rfl) ?_
  refine lv_if_ne (tgt := 9) hx hb dX6_goes_2 (by decide) (fun c_1 => ?_) (fun c_1 => ?_)
  · replace hf := fp_f c_1 hf
    refine lv_iload_n hx hb dX6_goes_9 rfl (lv_at hl 2 rfl) ?_
    refine lv_if_ne (tgt := 17) hx hb dX6_goes_10 (by decide) (fun c_2 => ?_) (fun c_2 => ?_)
    · replace hf := fp_f c_2 hf
      refine lv_iload_n hx hb dX6_goes_17 rfl (lv_at hl 3 rfl) ?_
      refine lv_if_ne (tgt := 25) hx hb dX6_goes_18 (by decide) (fun c_3 => ?_) (fun c_3 => ?_)
      · replace hf := fp_f c_3 hf
        refine lv_iconst (v := 0) hx hb dX6_goes_25 (by decide) ?_
        refine va_put (D := X.1) (ci := 6) (v := .int (0 : Int32)) (ty := .int) (C := RX6) (T := TX6) (N := 13) hx hb hts hiX6 tyX6 tyX6_ok nmX6 hown hK.1 hP (hD0.addr rfl) hS 0 rfl rfl 4 (by decide) k31 (fun _ h9 => h9) rfl (by decide +kernel) rfl rfl (Nat.le_of_ble_eq_true rfl) dX6_goes_26 (fun H locs hP hD hS => ?_)
        have hP : va_P X.1 vwCl (wMo X mo al sv sm asd (0 : Int32) ho fr txt tl pos od nu su) H := hP
        refine lv_aload_n hx hb dX6_goes_29 rfl (lv_at hl 0 rfl) ?_
        refine va_get (D := X.1) (ci := 6) (v := .int (0 : Int32)) (C := RX6) (T := TX6) (N := 13) hx hb hts hiX6 hown hK.1 hP 0 rfl rfl 4 (by decide) k31 (fun _ h9 => h9) rfl dX6_goes_30 ?_
        refine lv_if_ne (tgt := 40) hx hb dX6_goes_33 (by decide) (fun c9 => absurd c9 (by decide)) (fun _ => ?_)
        refine lv_iconst (v := 1) hx hb dX6_goes_36 (by decide) ?_
        refine lv_goto (tgt := 41) hx hb dX6_goes_37 (by decide) ?_
        cases hf
        exact fn_zret hx hb hr rfl hlocks hP hS dX6_goes_41
      · replace hf := fp_t c_3 hf
        refine lv_iconst (v := 3) hx hb dX6_goes_21 (by decide) ?_
        refine lv_goto (tgt := 26) hx hb dX6_goes_22 (by decide) ?_
        refine va_put (D := X.1) (ci := 6) (v := .int (3 : Int32)) (ty := .int) (C := RX6) (T := TX6) (N := 13) hx hb hts hiX6 tyX6 tyX6_ok nmX6 hown hK.1 hP (hD0.addr rfl) hS 0 rfl rfl 4 (by decide) k31 (fun _ h9 => h9) rfl (by decide +kernel) rfl rfl (Nat.le_of_ble_eq_true rfl) dX6_goes_26 (fun H locs hP hD hS => ?_)
        have hP : va_P X.1 vwCl (wMo X mo al sv sm asd (3 : Int32) ho fr txt tl pos od nu su) H := hP
        refine lv_aload_n hx hb dX6_goes_29 rfl (lv_at hl 0 rfl) ?_
        refine va_get (D := X.1) (ci := 6) (v := .int (3 : Int32)) (C := RX6) (T := TX6) (N := 13) hx hb hts hiX6 hown hK.1 hP 0 rfl rfl 4 (by decide) k31 (fun _ h9 => h9) rfl dX6_goes_30 ?_
        refine lv_if_ne (tgt := 40) hx hb dX6_goes_33 (by decide) (fun _ => ?_) (fun c9 => absurd c9 (by decide))
        refine lv_iconst (v := 0) hx hb dX6_goes_40 (by decide) ?_
        cases hf
        exact fn_zret hx hb hr rfl hlocks hP hS dX6_goes_41
    · replace hf := fp_t c_2 hf
      refine lv_iconst (v := 2) hx hb dX6_goes_13 (by decide) ?_
      refine lv_goto (tgt := 26) hx hb dX6_goes_14 (by decide) ?_
      refine va_put (D := X.1) (ci := 6) (v := .int (2 : Int32)) (ty := .int) (C := RX6) (T := TX6) (N := 13) hx hb hts hiX6 tyX6 tyX6_ok nmX6 hown hK.1 hP (hD0.addr rfl) hS 0 rfl rfl 4 (by decide) k31 (fun _ h9 => h9) rfl (by decide +kernel) rfl rfl (Nat.le_of_ble_eq_true rfl) dX6_goes_26 (fun H locs hP hD hS => ?_)
      have hP : va_P X.1 vwCl (wMo X mo al sv sm asd (2 : Int32) ho fr txt tl pos od nu su) H := hP
      refine lv_aload_n hx hb dX6_goes_29 rfl (lv_at hl 0 rfl) ?_
      refine va_get (D := X.1) (ci := 6) (v := .int (2 : Int32)) (C := RX6) (T := TX6) (N := 13) hx hb hts hiX6 hown hK.1 hP 0 rfl rfl 4 (by decide) k31 (fun _ h9 => h9) rfl dX6_goes_30 ?_
      refine lv_if_ne (tgt := 40) hx hb dX6_goes_33 (by decide) (fun _ => ?_) (fun c9 => absurd c9 (by decide))
      refine lv_iconst (v := 0) hx hb dX6_goes_40 (by decide) ?_
      cases hf
      exact fn_zret hx hb hr rfl hlocks hP hS dX6_goes_41
  · replace hf := fp_t c_1 hf
    refine lv_iconst (v := 1) hx hb dX6_goes_5 (by decide) ?_
    refine lv_goto (tgt := 26) hx hb dX6_goes_6 (by decide) ?_
    refine va_put (D := X.1) (ci := 6) (v := .int (1 : Int32)) (ty := .int) (C := RX6) (T := TX6) (N := 13) hx hb hts hiX6 tyX6 tyX6_ok nmX6 hown hK.1 hP (hD0.addr rfl) hS 0 rfl rfl 4 (by decide) k31 (fun _ h9 => h9) rfl (by decide +kernel) rfl rfl (Nat.le_of_ble_eq_true rfl) dX6_goes_26 (fun H locs hP hD hS => ?_)
    have hP : va_P X.1 vwCl (wMo X mo al sv sm asd (1 : Int32) ho fr txt tl pos od nu su) H := hP
    refine lv_aload_n hx hb dX6_goes_29 rfl (lv_at hl 0 rfl) ?_
    refine va_get (D := X.1) (ci := 6) (v := .int (1 : Int32)) (C := RX6) (T := TX6) (N := 13) hx hb hts hiX6 hown hK.1 hP 0 rfl rfl 4 (by decide) k31 (fun _ h9 => h9) rfl dX6_goes_30 ?_
    refine lv_if_ne (tgt := 40) hx hb dX6_goes_33 (by decide) (fun _ => ?_) (fun c9 => absurd c9 (by decide))
    refine lv_iconst (v := 0) hx hb dX6_goes_40 (by decide) ?_
    cases hf
    exact fn_zret hx hb hr rfl hlocks hP hS dX6_goes_41

def f_X6_save_L51 (al : (Nat → Int32)) (sm : Int32) : Nat → Int32 → (Nat → Int32) →  Option ((Nat → Int32))
  | 0, _, _ => none
  | k_ + 1, x1, sv =>
    if (320 : Int32) ≤ x1 then
    (some sv)
    else
    (ix x1 320 (
    nm (al x1.toNatClampNeg) (fun v_3 =>
    ix (((320 : Int32) * sm) + x1) 1280 (
    nm (upd sv (((320 : Int32) * sm) + x1).toNatClampNeg v_3) (fun sv_5 =>
    nm (x1 + (1 : Int32)) (fun v_6 =>
    f_X6_save_L51 al sm k_ v_6 sv_5))))))
def f_X6_save_L10  : Nat → Int32 → (Nat → Int32) →  Option ((Nat → Int32))
  | 0, _, _ => none
  | k_ + 1, x1, sv =>
    if (960 : Int32) ≤ x1 then
    (some sv)
    else
    (ix (x1 + (320 : Int32)) 1280 (
    nm (sv (x1 + (320 : Int32)).toNatClampNeg) (fun v_9 =>
    ix x1 1280 (
    nm (upd sv x1.toNatClampNeg v_9) (fun sv_11 =>
    nm (x1 + (1 : Int32)) (fun v_12 =>
    f_X6_save_L10 k_ v_12 sv_11))))))
def f_X6_save (al : (Nat → Int32)) (sv : (Nat → Int32)) (sm : Int32) : Option ((Nat → Int32) × Int32) :=
  if sm = (4 : Int32) then
  (bd (f_X6_save_L10 FU (0 : Int32) sv) (fun sv_17 =>
  nm (sm - (1 : Int32)) (fun v_19 =>
  bd (f_X6_save_L51 al v_19 FU (0 : Int32) sv_17) (fun sv_20 =>
  nm (v_19 + (1 : Int32)) (fun v_22 =>
  some (sv_20, v_22))))))
  else
  (bd (f_X6_save_L51 al sm FU (0 : Int32) sv) (fun sv_14 =>
  nm (sm + (1 : Int32)) (fun v_16 =>
  some (sv_14, v_16))))
set_option maxHeartbeats 4000000 in
set_option maxRecDepth 100000 in
theorem c_X6_save (l : Launch) (X : cx_G) (mo : (Nat → Nat)) (al : (Nat → Int32)) (sv : (Nat → Int32)) (sm : Int32) (asd : (Nat → Int32)) (th : Int32) (ho : (Nat → Int32)) (fr : (Nat → Int32)) (txt : (Nat → Int32)) (tl : Int32) (pos : Int32) (od : Int32) (nu : (Nat → Int32)) (su : Int64) (sv' : (Nat → Int32)) (sm' : Int32) (hf : f_X6_save al sv sm = some (sv', sm')) : Fn l yX6_save wsX6_save ({ frames := 0, cells := 0, slots := 0, locals := 0 } : Room) X [.ref (mo 0)] (wMo X mo al sv sm asd th ho fr txt tl pos od nu su) none (wMo X mo al sv' sm' asd th ho fr txt tl pos od nu su) := by
  refine fn_intro (cc := cX6_save) (maxL := 2) (ret := none) (by decide) rfl rfl (Nat.le_of_ble_eq_true rfl) ?_
  intro p e s m args below meth c A ls hx hb hml hr hts hown hlocks hK hP hD0 hS hA hl
  have hown : s.vm.findClass RX6 = some m.cls := hown
  have hl : lv_has ls 2 [(0, .ref (mo 0))] := hl
  have hiX6 : ∀ w ∈ u_ws RX6 TX6 13, w ∈ wsX6_save := by decide +kernel
  have k7 := hts (.fieldLink RX6 7 "LentRightsModel" "all" "[I") (by decide +kernel)
  have k13 := hts (.fieldLink RX6 13 "LentRightsModel" "saved" "[I") (by decide +kernel)
  have k35 := hts (.fieldLink RX6 35 "LentRightsModel" "savedMany" "I") (by decide +kernel)
  have loop_51 : ∀ (Q : State → Prop) (sm : Int32) (svo : (Nat → Int32)), (∀ (H : Heap) (locs : List Loc) (ls : Array Slot), va_P X.1 vwCl (wMo X mo al svo sm asd th ho fr txt tl pos od nu su) H → va_S A s.heap H locs → lv_has ls 2 [(0, .ref (mo 0))] → W p l e ({ frames := 0, cells := 0, slots := 0, locals := 0 } : Room) s m args below meth c H locs 0 0 Q (F0 m 85 ls [])) → ∀ (k_ : Nat) (x1 : Int32) (sv : (Nat → Int32)) (H : Heap) (locs : List Loc) (ls : Array Slot), f_X6_save_L51 al sm k_ x1 sv = some svo → va_P X.1 vwCl (wMo X mo al sv sm asd th ho fr txt tl pos od nu su) H → va_S A s.heap H locs → lv_has ls 2 [(0, .ref (mo 0)), (1, .int x1)] → W p l e ({ frames := 0, cells := 0, slots := 0, locals := 0 } : Room) s m args below meth c H locs 0 0 Q (F0 m 51 ls []) := by
    intro Q sm svo kx k_
    induction k_ with
    | zero => intro x1 sv H locs ls hf; exact nomatch (show (none : Option ((Nat → Int32))) = some _ from hf)
    | succ k_ ih =>
      intro x1 sv H locs ls hf hP hS hl
      unfold f_X6_save_L51 at hf
      refine lv_iload_n hx hb dX6_save_51 rfl (lv_at hl 1 rfl) ?_
      refine lv_sipush (v := 320) hx hb dX6_save_52 (by decide) ?_
      refine lv_icmp_ge (tgt := 85) hx hb dX6_save_55 (by decide) (fun c_1 => ?_) (fun c_1 => ?_)
      · replace hf := fp_t c_1 hf
        cases hf
        exact kx _ _ _ hP hS (lv_sub hl [0] rfl)
      · replace hf := fp_f c_1 hf
        refine lv_aload_n hx hb dX6_save_58 rfl (lv_at hl 0 rfl) ?_
        refine va_get (D := X.1) (ci := 6) (v := .ref (mo 2)) (C := RX6) (T := TX6) (N := 13) hx hb hts hiX6 hown hK.1 hP 0 rfl rfl 1 (by decide) k13 (fun _ h9 => h9) rfl dX6_save_59 ?_
        refine lv_sipush (v := 320) hx hb dX6_save_62 (by decide) ?_
        refine lv_aload_n hx hb dX6_save_65 rfl (lv_at hl 0 rfl) ?_
        refine va_get (D := X.1) (ci := 6) (v := .int sm) (C := RX6) (T := TX6) (N := 13) hx hb hts hiX6 hown hK.1 hP 0 rfl rfl 2 (by decide) k35 (fun _ h9 => h9) rfl dX6_save_66 ?_
        refine lv_imul hx hb dX6_save_69 ?_
        refine lv_iload_n hx hb dX6_save_70 rfl (lv_at hl 1 rfl) ?_
        refine lv_iadd hx hb dX6_save_71 ?_
        refine lv_aload_n hx hb dX6_save_72 rfl (lv_at hl 0 rfl) ?_
        refine va_get (D := X.1) (ci := 6) (v := .ref (mo 1)) (C := RX6) (T := TX6) (N := 13) hx hb hts hiX6 hown hK.1 hP 0 rfl rfl 0 (by decide) k7 (fun _ h9 => h9) rfl dX6_save_73 ?_
        refine lv_iload_n hx hb dX6_save_76 rfl (lv_at hl 1 rfl) ?_
        obtain ⟨hi_2, hf⟩ := ix_of hf
        refine va_iald hx hb hK.1 hP 1 0 rfl rfl hi_2 dX6_save_77 ?_
        refine lv_topi (fun v_3 ev_3 => ?_)
        replace hf := nm_of ev_3 hf
        obtain ⟨hi_4, hf⟩ := ix_of hf
        refine va_iast hx hb hK.1 hP (hD0.addr rfl) hS 2 0 rfl rfl hi_4 dX6_save_78 (fun H locs hP hD hS => ?_)
        obtain ⟨sv_5, esv_5⟩ : ∃ g : Nat → Int32, g = upd sv (((320 : Int32) * sm) + x1).toNatClampNeg v_3 := ⟨_, rfl⟩
        replace hf := nm_of esv_5 hf
        have hP : va_P X.1 vwCl (wMo X mo al sv_5 sm asd th ho fr txt tl pos od nu su) H := by rw [esv_5]; exact hP
        obtain ⟨v_6, ev_6⟩ : ∃ y : Int32, y = x1 + (1 : Int32) := ⟨_, rfl⟩
        replace hf := nm_of ev_6 hf
        refine lv_iinc (v := v_6) (lv' := [(1, .int v_6), (0, .ref (mo 0))]) hx hb dX6_save_79 hl (k := 1) rfl (by rw [ev_6]; rfl) (by decide) rfl (fun ls hl => ?_)
        refine lv_goto (tgt := 51) hx hb dX6_save_82 (by decide) ?_
        exact ih v_6 sv_5 _ _ _ hf hP hS (lv_sub hl [1, 0] rfl)
  have loop_10 : ∀ (Q : State → Prop) (sm : Int32) (svo : (Nat → Int32)), (∀ (H : Heap) (locs : List Loc) (ls : Array Slot), va_P X.1 vwCl (wMo X mo al svo sm asd th ho fr txt tl pos od nu su) H → va_S A s.heap H locs → lv_has ls 2 [(0, .ref (mo 0))] → W p l e ({ frames := 0, cells := 0, slots := 0, locals := 0 } : Room) s m args below meth c H locs 0 0 Q (F0 m 39 ls [])) → ∀ (k_ : Nat) (x1 : Int32) (sv : (Nat → Int32)) (H : Heap) (locs : List Loc) (ls : Array Slot), f_X6_save_L10 k_ x1 sv = some svo → va_P X.1 vwCl (wMo X mo al sv sm asd th ho fr txt tl pos od nu su) H → va_S A s.heap H locs → lv_has ls 2 [(0, .ref (mo 0)), (1, .int x1)] → W p l e ({ frames := 0, cells := 0, slots := 0, locals := 0 } : Room) s m args below meth c H locs 0 0 Q (F0 m 10 ls []) := by
    intro Q sm svo kx k_
    induction k_ with
    | zero => intro x1 sv H locs ls hf; exact nomatch (show (none : Option ((Nat → Int32))) = some _ from hf)
    | succ k_ ih =>
      intro x1 sv H locs ls hf hP hS hl
      unfold f_X6_save_L10 at hf
      refine lv_iload_n hx hb dX6_save_10 rfl (lv_at hl 1 rfl) ?_
      refine lv_sipush (v := 960) hx hb dX6_save_11 (by decide) ?_
      refine lv_icmp_ge (tgt := 39) hx hb dX6_save_14 (by decide) (fun c_7 => ?_) (fun c_7 => ?_)
      · replace hf := fp_t c_7 hf
        cases hf
        exact kx _ _ _ hP hS (lv_sub hl [0] rfl)
      · replace hf := fp_f c_7 hf
        refine lv_aload_n hx hb dX6_save_17 rfl (lv_at hl 0 rfl) ?_
        refine va_get (D := X.1) (ci := 6) (v := .ref (mo 2)) (C := RX6) (T := TX6) (N := 13) hx hb hts hiX6 hown hK.1 hP 0 rfl rfl 1 (by decide) k13 (fun _ h9 => h9) rfl dX6_save_18 ?_
        refine lv_iload_n hx hb dX6_save_21 rfl (lv_at hl 1 rfl) ?_
        refine lv_aload_n hx hb dX6_save_22 rfl (lv_at hl 0 rfl) ?_
        refine va_get (D := X.1) (ci := 6) (v := .ref (mo 2)) (C := RX6) (T := TX6) (N := 13) hx hb hts hiX6 hown hK.1 hP 0 rfl rfl 1 (by decide) k13 (fun _ h9 => h9) rfl dX6_save_23 ?_
        refine lv_iload_n hx hb dX6_save_26 rfl (lv_at hl 1 rfl) ?_
        refine lv_sipush (v := 320) hx hb dX6_save_27 (by decide) ?_
        refine lv_iadd hx hb dX6_save_30 ?_
        obtain ⟨hi_8, hf⟩ := ix_of hf
        refine va_iald hx hb hK.1 hP 2 0 rfl rfl hi_8 dX6_save_31 ?_
        refine lv_topi (fun v_9 ev_9 => ?_)
        replace hf := nm_of ev_9 hf
        obtain ⟨hi_10, hf⟩ := ix_of hf
        refine va_iast hx hb hK.1 hP (hD0.addr rfl) hS 2 0 rfl rfl hi_10 dX6_save_32 (fun H locs hP hD hS => ?_)
        obtain ⟨sv_11, esv_11⟩ : ∃ g : Nat → Int32, g = upd sv x1.toNatClampNeg v_9 := ⟨_, rfl⟩
        replace hf := nm_of esv_11 hf
        have hP : va_P X.1 vwCl (wMo X mo al sv_11 sm asd th ho fr txt tl pos od nu su) H := by rw [esv_11]; exact hP
        obtain ⟨v_12, ev_12⟩ : ∃ y : Int32, y = x1 + (1 : Int32) := ⟨_, rfl⟩
        replace hf := nm_of ev_12 hf
        refine lv_iinc (v := v_12) (lv' := [(1, .int v_12), (0, .ref (mo 0))]) hx hb dX6_save_33 hl (k := 1) rfl (by rw [ev_12]; rfl) (by decide) rfl (fun ls hl => ?_)
        refine lv_goto (tgt := 10) hx hb dX6_save_36 (by decide) ?_
        exact ih v_12 sv_11 _ _ _ hf hP hS (lv_sub hl [1, 0] rfl)
  unfold f_X6_save at hf
  refine lv_aload_n hx hb dX6_save_0 rfl (lv_at hl 0 rfl) ?_
  refine va_get (D := X.1) (ci := 6) (v := .int sm) (C := RX6) (T := TX6) (N := 13) hx hb hts hiX6 hown hK.1 hP 0 rfl rfl 2 (by decide) k35 (fun _ h9 => h9) rfl dX6_save_1 ?_
  refine lv_iconst (v := 4) hx hb dX6_save_4 (by decide) ?_
  refine lv_icmp_ne (tgt := 49) hx hb dX6_save_5 (by decide) (fun c_13 => ?_) (fun c_13 => ?_)
  · replace hf := fp_f c_13 hf
    refine lv_iconst (v := 0) hx hb dX6_save_49 (by decide) ?_
    refine lv_istore_n (lv' := [(1, .int (0 : Int32)), (0, .ref (mo 0))]) hx hb dX6_save_50 rfl hl (by decide) rfl (fun ls hl => ?_)
    obtain ⟨sv_14, hL_15, hf⟩ := bd_of hf
    refine loop_51 _ sm sv_14 (fun H locs ls hP hS hl => ?_) FU (0 : Int32) sv _ _ _ hL_15 hP hS (lv_sub hl [1, 0] rfl)
    refine lv_aload_n hx hb dX6_save_85 rfl (lv_at hl 0 rfl) ?_
    refine lv_dup hx hb dX6_save_86 rfl ?_
    refine va_get (D := X.1) (ci := 6) (v := .int sm) (C := RX6) (T := TX6) (N := 13) hx hb hts hiX6 hown hK.1 hP 0 rfl rfl 2 (by decide) k35 (fun _ h9 => h9) rfl dX6_save_87 ?_
    refine lv_iconst (v := 1) hx hb dX6_save_90 (by decide) ?_
    refine lv_iadd hx hb dX6_save_91 ?_
    refine lv_topi (fun v_16 ev_16 => ?_)
    replace hf := nm_of ev_16 hf
    refine va_put (D := X.1) (ci := 6) (v := .int v_16) (ty := .int) (C := RX6) (T := TX6) (N := 13) hx hb hts hiX6 tyX6 tyX6_ok nmX6 hown hK.1 hP (hD0.addr rfl) hS 0 rfl rfl 2 (by decide) k35 (fun _ h9 => h9) rfl (by decide +kernel) rfl rfl (Nat.le_of_ble_eq_true rfl) dX6_save_92 (fun H locs hP hD hS => ?_)
    have hP : va_P X.1 vwCl (wMo X mo al sv_14 v_16 asd th ho fr txt tl pos od nu su) H := hP
    cases hf
    exact fn_vret hx hb hr hlocks hP hS dX6_save_95
  · replace hf := fp_t c_13 hf
    refine lv_iconst (v := 0) hx hb dX6_save_8 (by decide) ?_
    refine lv_istore_n (lv' := [(1, .int (0 : Int32)), (0, .ref (mo 0))]) hx hb dX6_save_9 rfl hl (by decide) rfl (fun ls hl => ?_)
    obtain ⟨sv_17, hL_18, hf⟩ := bd_of hf
    refine loop_10 _ sm sv_17 (fun H locs ls hP hS hl => ?_) FU (0 : Int32) sv _ _ _ hL_18 hP hS (lv_sub hl [1, 0] rfl)
    refine lv_aload_n hx hb dX6_save_39 rfl (lv_at hl 0 rfl) ?_
    refine lv_dup hx hb dX6_save_40 rfl ?_
    refine va_get (D := X.1) (ci := 6) (v := .int sm) (C := RX6) (T := TX6) (N := 13) hx hb hts hiX6 hown hK.1 hP 0 rfl rfl 2 (by decide) k35 (fun _ h9 => h9) rfl dX6_save_41 ?_
    refine lv_iconst (v := 1) hx hb dX6_save_44 (by decide) ?_
    refine lv_isub hx hb dX6_save_45 ?_
    refine lv_topi (fun v_19 ev_19 => ?_)
    replace hf := nm_of ev_19 hf
    refine va_put (D := X.1) (ci := 6) (v := .int v_19) (ty := .int) (C := RX6) (T := TX6) (N := 13) hx hb hts hiX6 tyX6 tyX6_ok nmX6 hown hK.1 hP (hD0.addr rfl) hS 0 rfl rfl 2 (by decide) k35 (fun _ h9 => h9) rfl (by decide +kernel) rfl rfl (Nat.le_of_ble_eq_true rfl) dX6_save_46 (fun H locs hP hD hS => ?_)
    have hP : va_P X.1 vwCl (wMo X mo al sv_17 v_19 asd th ho fr txt tl pos od nu su) H := hP
    refine lv_iconst (v := 0) hx hb dX6_save_49 (by decide) ?_
    refine lv_istore_n (lv' := [(1, .int (0 : Int32)), (0, .ref (mo 0))]) hx hb dX6_save_50 rfl hl (by decide) rfl (fun ls hl => ?_)
    obtain ⟨sv_20, hL_21, hf⟩ := bd_of hf
    refine loop_51 _ v_19 sv_20 (fun H locs ls hP hS hl => ?_) FU (0 : Int32) sv_17 _ _ _ hL_21 hP hS (lv_sub hl [1, 0] rfl)
    refine lv_aload_n hx hb dX6_save_85 rfl (lv_at hl 0 rfl) ?_
    refine lv_dup hx hb dX6_save_86 rfl ?_
    refine va_get (D := X.1) (ci := 6) (v := .int v_19) (C := RX6) (T := TX6) (N := 13) hx hb hts hiX6 hown hK.1 hP 0 rfl rfl 2 (by decide) k35 (fun _ h9 => h9) rfl dX6_save_87 ?_
    refine lv_iconst (v := 1) hx hb dX6_save_90 (by decide) ?_
    refine lv_iadd hx hb dX6_save_91 ?_
    refine lv_topi (fun v_22 ev_22 => ?_)
    replace hf := nm_of ev_22 hf
    refine va_put (D := X.1) (ci := 6) (v := .int v_22) (ty := .int) (C := RX6) (T := TX6) (N := 13) hx hb hts hiX6 tyX6 tyX6_ok nmX6 hown hK.1 hP (hD0.addr rfl) hS 0 rfl rfl 2 (by decide) k35 (fun _ h9 => h9) rfl (by decide +kernel) rfl rfl (Nat.le_of_ble_eq_true rfl) dX6_save_92 (fun H locs hP hD hS => ?_)
    have hP : va_P X.1 vwCl (wMo X mo al sv_20 v_22 asd th ho fr txt tl pos od nu su) H := hP
    cases hf
    exact fn_vret hx hb hr hlocks hP hS dX6_save_95

def f_X6_layAside_L2 (al : (Nat → Int32)) : Nat → Int32 → (Nat → Int32) →  Option ((Nat → Int32))
  | 0, _, _ => none
  | k_ + 1, x1, asd =>
    if (320 : Int32) ≤ x1 then
    (some asd)
    else
    (ix x1 320 (
    nm (al x1.toNatClampNeg) (fun v_3 =>
    ix x1 320 (
    nm (upd asd x1.toNatClampNeg v_3) (fun asd_5 =>
    nm (x1 + (1 : Int32)) (fun v_6 =>
    f_X6_layAside_L2 al k_ v_6 asd_5))))))
def f_X6_layAside (al : (Nat → Int32)) (asd : (Nat → Int32)) : Option ((Nat → Int32)) :=
  bd (f_X6_layAside_L2 al FU (0 : Int32) asd) (fun asd_7 =>
  some asd_7)
set_option maxHeartbeats 4000000 in
set_option maxRecDepth 100000 in
theorem c_X6_layAside (l : Launch) (X : cx_G) (mo : (Nat → Nat)) (al : (Nat → Int32)) (sv : (Nat → Int32)) (sm : Int32) (asd : (Nat → Int32)) (th : Int32) (ho : (Nat → Int32)) (fr : (Nat → Int32)) (txt : (Nat → Int32)) (tl : Int32) (pos : Int32) (od : Int32) (nu : (Nat → Int32)) (su : Int64) (asd' : (Nat → Int32)) (hf : f_X6_layAside al asd = some asd') : Fn l yX6_layAside wsX6_layAside ({ frames := 0, cells := 0, slots := 0, locals := 0 } : Room) X [.ref (mo 0)] (wMo X mo al sv sm asd th ho fr txt tl pos od nu su) none (wMo X mo al sv sm asd' th ho fr txt tl pos od nu su) := by
  refine fn_intro (cc := cX6_layAside) (maxL := 2) (ret := none) (by decide) rfl rfl (Nat.le_of_ble_eq_true rfl) ?_
  intro p e s m args below meth c A ls hx hb hml hr hts hown hlocks hK hP hD0 hS hA hl
  have hown : s.vm.findClass RX6 = some m.cls := hown
  have hl : lv_has ls 2 [(0, .ref (mo 0))] := hl
  have hiX6 : ∀ w ∈ u_ws RX6 TX6 13, w ∈ wsX6_layAside := by decide +kernel
  have k7 := hts (.fieldLink RX6 7 "LentRightsModel" "all" "[I") (by decide +kernel)
  have k16 := hts (.fieldLink RX6 16 "LentRightsModel" "aside" "[I") (by decide +kernel)
  have loop_2 : ∀ (Q : State → Prop) (asdo : (Nat → Int32)), (∀ (H : Heap) (locs : List Loc) (ls : Array Slot), va_P X.1 vwCl (wMo X mo al sv sm asdo th ho fr txt tl pos od nu su) H → va_S A s.heap H locs → lv_has ls 2 [] → W p l e ({ frames := 0, cells := 0, slots := 0, locals := 0 } : Room) s m args below meth c H locs 0 0 Q (F0 m 27 ls [])) → ∀ (k_ : Nat) (x1 : Int32) (asd : (Nat → Int32)) (H : Heap) (locs : List Loc) (ls : Array Slot), f_X6_layAside_L2 al k_ x1 asd = some asdo → va_P X.1 vwCl (wMo X mo al sv sm asd th ho fr txt tl pos od nu su) H → va_S A s.heap H locs → lv_has ls 2 [(0, .ref (mo 0)), (1, .int x1)] → W p l e ({ frames := 0, cells := 0, slots := 0, locals := 0 } : Room) s m args below meth c H locs 0 0 Q (F0 m 2 ls []) := by
    intro Q asdo kx k_
    induction k_ with
    | zero => intro x1 asd H locs ls hf; exact nomatch (show (none : Option ((Nat → Int32))) = some _ from hf)
    | succ k_ ih =>
      intro x1 asd H locs ls hf hP hS hl
      unfold f_X6_layAside_L2 at hf
      refine lv_iload_n hx hb dX6_layAside_2 rfl (lv_at hl 1 rfl) ?_
      refine lv_sipush (v := 320) hx hb dX6_layAside_3 (by decide) ?_
      refine lv_icmp_ge (tgt := 27) hx hb dX6_layAside_6 (by decide) (fun c_1 => ?_) (fun c_1 => ?_)
      · replace hf := fp_t c_1 hf
        cases hf
        exact kx _ _ _ hP hS (lv_sub hl [] rfl)
      · replace hf := fp_f c_1 hf
        refine lv_aload_n hx hb dX6_layAside_9 rfl (lv_at hl 0 rfl) ?_
        refine va_get (D := X.1) (ci := 6) (v := .ref (mo 3)) (C := RX6) (T := TX6) (N := 13) hx hb hts hiX6 hown hK.1 hP 0 rfl rfl 3 (by decide) k16 (fun _ h9 => h9) rfl dX6_layAside_10 ?_
        refine lv_iload_n hx hb dX6_layAside_13 rfl (lv_at hl 1 rfl) ?_
        refine lv_aload_n hx hb dX6_layAside_14 rfl (lv_at hl 0 rfl) ?_
        refine va_get (D := X.1) (ci := 6) (v := .ref (mo 1)) (C := RX6) (T := TX6) (N := 13) hx hb hts hiX6 hown hK.1 hP 0 rfl rfl 0 (by decide) k7 (fun _ h9 => h9) rfl dX6_layAside_15 ?_
        refine lv_iload_n hx hb dX6_layAside_18 rfl (lv_at hl 1 rfl) ?_
        obtain ⟨hi_2, hf⟩ := ix_of hf
        refine va_iald hx hb hK.1 hP 1 0 rfl rfl hi_2 dX6_layAside_19 ?_
        refine lv_topi (fun v_3 ev_3 => ?_)
        replace hf := nm_of ev_3 hf
        obtain ⟨hi_4, hf⟩ := ix_of hf
        refine va_iast hx hb hK.1 hP (hD0.addr rfl) hS 3 0 rfl rfl hi_4 dX6_layAside_20 (fun H locs hP hD hS => ?_)
        obtain ⟨asd_5, easd_5⟩ : ∃ g : Nat → Int32, g = upd asd x1.toNatClampNeg v_3 := ⟨_, rfl⟩
        replace hf := nm_of easd_5 hf
        have hP : va_P X.1 vwCl (wMo X mo al sv sm asd_5 th ho fr txt tl pos od nu su) H := by rw [easd_5]; exact hP
        obtain ⟨v_6, ev_6⟩ : ∃ y : Int32, y = x1 + (1 : Int32) := ⟨_, rfl⟩
        replace hf := nm_of ev_6 hf
        refine lv_iinc (v := v_6) (lv' := [(1, .int v_6), (0, .ref (mo 0))]) hx hb dX6_layAside_21 hl (k := 1) rfl (by rw [ev_6]; rfl) (by decide) rfl (fun ls hl => ?_)
        refine lv_goto (tgt := 2) hx hb dX6_layAside_24 (by decide) ?_
        exact ih v_6 asd_5 _ _ _ hf hP hS (lv_sub hl [1, 0] rfl)
  unfold f_X6_layAside at hf
  refine lv_iconst (v := 0) hx hb dX6_layAside_0 (by decide) ?_
  refine lv_istore_n (lv' := [(1, .int (0 : Int32)), (0, .ref (mo 0))]) hx hb dX6_layAside_1 rfl hl (by decide) rfl (fun ls hl => ?_)
  obtain ⟨asd_7, hL_8, hf⟩ := bd_of hf
  refine loop_2 _ asd_7 (fun H locs ls hP hS hl => ?_) FU (0 : Int32) asd _ _ _ hL_8 hP hS (lv_sub hl [1, 0] rfl)
  cases hf
  exact fn_vret hx hb hr hlocks hP hS dX6_layAside_27

def f_X6_takeBack_L2 (asd : (Nat → Int32)) : Nat → Int32 → (Nat → Int32) →  Option ((Nat → Int32))
  | 0, _, _ => none
  | k_ + 1, x1, al =>
    if (320 : Int32) ≤ x1 then
    (some al)
    else
    (ix x1 320 (
    nm (asd x1.toNatClampNeg) (fun v_3 =>
    ix x1 320 (
    nm (upd al x1.toNatClampNeg v_3) (fun al_5 =>
    nm (x1 + (1 : Int32)) (fun v_6 =>
    f_X6_takeBack_L2 asd k_ v_6 al_5))))))
def f_X6_takeBack (al : (Nat → Int32)) (asd : (Nat → Int32)) : Option ((Nat → Int32)) :=
  bd (f_X6_takeBack_L2 asd FU (0 : Int32) al) (fun al_7 =>
  some al_7)
set_option maxHeartbeats 4000000 in
set_option maxRecDepth 100000 in
theorem c_X6_takeBack (l : Launch) (X : cx_G) (mo : (Nat → Nat)) (al : (Nat → Int32)) (sv : (Nat → Int32)) (sm : Int32) (asd : (Nat → Int32)) (th : Int32) (ho : (Nat → Int32)) (fr : (Nat → Int32)) (txt : (Nat → Int32)) (tl : Int32) (pos : Int32) (od : Int32) (nu : (Nat → Int32)) (su : Int64) (al' : (Nat → Int32)) (hf : f_X6_takeBack al asd = some al') : Fn l yX6_takeBack wsX6_takeBack ({ frames := 0, cells := 0, slots := 0, locals := 0 } : Room) X [.ref (mo 0)] (wMo X mo al sv sm asd th ho fr txt tl pos od nu su) none (wMo X mo al' sv sm asd th ho fr txt tl pos od nu su) := by
  refine fn_intro (cc := cX6_takeBack) (maxL := 2) (ret := none) (by decide) rfl rfl (Nat.le_of_ble_eq_true rfl) ?_
  intro p e s m args below meth c A ls hx hb hml hr hts hown hlocks hK hP hD0 hS hA hl
  have hown : s.vm.findClass RX6 = some m.cls := hown
  have hl : lv_has ls 2 [(0, .ref (mo 0))] := hl
  have hiX6 : ∀ w ∈ u_ws RX6 TX6 13, w ∈ wsX6_takeBack := by decide +kernel
  have k7 := hts (.fieldLink RX6 7 "LentRightsModel" "all" "[I") (by decide +kernel)
  have k16 := hts (.fieldLink RX6 16 "LentRightsModel" "aside" "[I") (by decide +kernel)
  have loop_2 : ∀ (Q : State → Prop) (alo : (Nat → Int32)), (∀ (H : Heap) (locs : List Loc) (ls : Array Slot), va_P X.1 vwCl (wMo X mo alo sv sm asd th ho fr txt tl pos od nu su) H → va_S A s.heap H locs → lv_has ls 2 [] → W p l e ({ frames := 0, cells := 0, slots := 0, locals := 0 } : Room) s m args below meth c H locs 0 0 Q (F0 m 27 ls [])) → ∀ (k_ : Nat) (x1 : Int32) (al : (Nat → Int32)) (H : Heap) (locs : List Loc) (ls : Array Slot), f_X6_takeBack_L2 asd k_ x1 al = some alo → va_P X.1 vwCl (wMo X mo al sv sm asd th ho fr txt tl pos od nu su) H → va_S A s.heap H locs → lv_has ls 2 [(0, .ref (mo 0)), (1, .int x1)] → W p l e ({ frames := 0, cells := 0, slots := 0, locals := 0 } : Room) s m args below meth c H locs 0 0 Q (F0 m 2 ls []) := by
    intro Q alo kx k_
    induction k_ with
    | zero => intro x1 al H locs ls hf; exact nomatch (show (none : Option ((Nat → Int32))) = some _ from hf)
    | succ k_ ih =>
      intro x1 al H locs ls hf hP hS hl
      unfold f_X6_takeBack_L2 at hf
      refine lv_iload_n hx hb dX6_takeBack_2 rfl (lv_at hl 1 rfl) ?_
      refine lv_sipush (v := 320) hx hb dX6_takeBack_3 (by decide) ?_
      refine lv_icmp_ge (tgt := 27) hx hb dX6_takeBack_6 (by decide) (fun c_1 => ?_) (fun c_1 => ?_)
      · replace hf := fp_t c_1 hf
        cases hf
        exact kx _ _ _ hP hS (lv_sub hl [] rfl)
      · replace hf := fp_f c_1 hf
        refine lv_aload_n hx hb dX6_takeBack_9 rfl (lv_at hl 0 rfl) ?_
        refine va_get (D := X.1) (ci := 6) (v := .ref (mo 1)) (C := RX6) (T := TX6) (N := 13) hx hb hts hiX6 hown hK.1 hP 0 rfl rfl 0 (by decide) k7 (fun _ h9 => h9) rfl dX6_takeBack_10 ?_
        refine lv_iload_n hx hb dX6_takeBack_13 rfl (lv_at hl 1 rfl) ?_
        refine lv_aload_n hx hb dX6_takeBack_14 rfl (lv_at hl 0 rfl) ?_
        refine va_get (D := X.1) (ci := 6) (v := .ref (mo 3)) (C := RX6) (T := TX6) (N := 13) hx hb hts hiX6 hown hK.1 hP 0 rfl rfl 3 (by decide) k16 (fun _ h9 => h9) rfl dX6_takeBack_15 ?_
        refine lv_iload_n hx hb dX6_takeBack_18 rfl (lv_at hl 1 rfl) ?_
        obtain ⟨hi_2, hf⟩ := ix_of hf
        refine va_iald hx hb hK.1 hP 3 0 rfl rfl hi_2 dX6_takeBack_19 ?_
        refine lv_topi (fun v_3 ev_3 => ?_)
        replace hf := nm_of ev_3 hf
        obtain ⟨hi_4, hf⟩ := ix_of hf
        refine va_iast hx hb hK.1 hP (hD0.addr rfl) hS 1 0 rfl rfl hi_4 dX6_takeBack_20 (fun H locs hP hD hS => ?_)
        obtain ⟨al_5, eal_5⟩ : ∃ g : Nat → Int32, g = upd al x1.toNatClampNeg v_3 := ⟨_, rfl⟩
        replace hf := nm_of eal_5 hf
        have hP : va_P X.1 vwCl (wMo X mo al_5 sv sm asd th ho fr txt tl pos od nu su) H := by rw [eal_5]; exact hP
        obtain ⟨v_6, ev_6⟩ : ∃ y : Int32, y = x1 + (1 : Int32) := ⟨_, rfl⟩
        replace hf := nm_of ev_6 hf
        refine lv_iinc (v := v_6) (lv' := [(1, .int v_6), (0, .ref (mo 0))]) hx hb dX6_takeBack_21 hl (k := 1) rfl (by rw [ev_6]; rfl) (by decide) rfl (fun ls hl => ?_)
        refine lv_goto (tgt := 2) hx hb dX6_takeBack_24 (by decide) ?_
        exact ih v_6 al_5 _ _ _ hf hP hS (lv_sub hl [1, 0] rfl)
  unfold f_X6_takeBack at hf
  refine lv_iconst (v := 0) hx hb dX6_takeBack_0 (by decide) ?_
  refine lv_istore_n (lv' := [(1, .int (0 : Int32)), (0, .ref (mo 0))]) hx hb dX6_takeBack_1 rfl hl (by decide) rfl (fun ls hl => ?_)
  obtain ⟨al_7, hL_8, hf⟩ := bd_of hf
  refine loop_2 _ al_7 (fun H locs ls hP hS hl => ?_) FU (0 : Int32) al _ _ _ hL_8 hP hS (lv_sub hl [1, 0] rfl)
  cases hf
  exact fn_vret hx hb hr hlocks hP hS dX6_takeBack_27

def f_X6_isPerson (x0 : Int32) : Option (Int32) :=
  bd (f_X6_in x0.toInt64 (0 : Int64) (9 : Int64)) (fun r_1 =>
  some r_1)
theorem z_X6_isPerson {x0 : Int32} {r : Int32} (hf : f_X6_isPerson x0 = some r) : r = 0 ∨ r = 1 := by
  unfold f_X6_isPerson at hf
  obtain ⟨r_1, hc_2, hf⟩ := bd_of hf
  cases hf
  exact z_X6_in hc_2
set_option maxHeartbeats 4000000 in
set_option maxRecDepth 100000 in
theorem c_X6_isPerson (l : Launch) (X : cx_G) (x0 : Int32) (r : Int32) (hf : f_X6_isPerson x0 = some r) : Fn l yX6_isPerson wsX6_isPerson ({ frames := 1, cells := 0, slots := 0, locals := 25 } : Room) X [.int x0] ([] : va_W) (some (.int r)) ([] : va_W) := by
  refine fn_intro (cc := cX6_isPerson) (maxL := 1) (ret := (some .boolean)) (by decide) rfl rfl (Nat.le_of_ble_eq_true rfl) ?_
  intro p e s m args below meth c A ls hx hb hml hr hts hown hlocks hK hP hD0 hS hA hl
  have hown : s.vm.findClass RX6 = some m.cls := hown
  have hl : lv_has ls 1 [(0, .int x0)] := hl
  unfold f_X6_isPerson at hf
  refine lv_iload_n hx hb dX6_isPerson_0 rfl (lv_at hl 0 rfl) ?_
  refine lv_i2l (v := x0.toInt64) hx hb dX6_isPerson_1 rfl ?_
  refine lv_lconst (v := 0) hx hb dX6_isPerson_2 (by decide) ?_
  refine lv_ldc2 hx hb hown (hts (.constantLong RX6 38 (9)) (by decide +kernel)) dX6_isPerson_3 ?_
  obtain ⟨r_1, hc_2, hf⟩ := bd_of hf
  refine fn_Sx (v := some (.int r_1)) (As := [.long x0.toInt64, .long (0 : Int64), .long (9 : Int64)]) (rest := []) (st1 := [.int r_1]) (ws' := ([] : va_W)) (nL := 1) ⟨hx, hb, hml, hown, hts⟩ (c_X6_in l X x0.toInt64 (0 : Int64) (9 : Int64) r_1 hc_2) (va_cwS 3 hts gX6_isPerson_X6_in rfl rfl rfl (by decide +kernel) ⟨Nat.le_of_ble_eq_true rfl, Nat.le_of_ble_eq_true rfl⟩) rfl hl.1 rfl (Nat.le_of_ble_eq_true rfl) dX6_isPerson_6 hK hP (hD0.addr rfl) hS hA [] rfl rfl rfl rfl ⟨Nat.zero_le _, Nat.zero_le _⟩ (fun H locs hP hD hS => ?_)
  cases hf
  exact fn_zret hx hb hr (z_narrow (z_X6_in hc_2)) hlocks hP hS dX6_isPerson_9

def f_X6_isThing (x1 : Int32) (al : (Nat → Int32)) : Option (Int32) :=
  ix (4 : Int32) 320 (
  bd (f_X6_in x1.toInt64 (0 : Int64) (((al (4 : Int32).toNatClampNeg).toInt64) - (1 : Int64))) (fun r_2 =>
  some r_2))
theorem z_X6_isThing {x1 : Int32} {al : (Nat → Int32)} {r : Int32} (hf : f_X6_isThing x1 al = some r) : r = 0 ∨ r = 1 := by
  unfold f_X6_isThing at hf
  obtain ⟨hi_1, hf⟩ := ix_of hf
  obtain ⟨r_2, hc_3, hf⟩ := bd_of hf
  cases hf
  exact z_X6_in hc_3
set_option maxHeartbeats 4000000 in
set_option maxRecDepth 100000 in
theorem c_X6_isThing (l : Launch) (X : cx_G) (mo : (Nat → Nat)) (al : (Nat → Int32)) (sv : (Nat → Int32)) (sm : Int32) (asd : (Nat → Int32)) (th : Int32) (ho : (Nat → Int32)) (fr : (Nat → Int32)) (txt : (Nat → Int32)) (tl : Int32) (pos : Int32) (od : Int32) (nu : (Nat → Int32)) (su : Int64) (x1 : Int32) (r : Int32) (hf : f_X6_isThing x1 al = some r) : Fn l yX6_isThing wsX6_isThing ({ frames := 1, cells := 0, slots := 0, locals := 25 } : Room) X [.ref (mo 0), .int x1] (wMo X mo al sv sm asd th ho fr txt tl pos od nu su) (some (.int r)) (wMo X mo al sv sm asd th ho fr txt tl pos od nu su) := by
  refine fn_intro (cc := cX6_isThing) (maxL := 2) (ret := (some .boolean)) (by decide) rfl rfl (Nat.le_of_ble_eq_true rfl) ?_
  intro p e s m args below meth c A ls hx hb hml hr hts hown hlocks hK hP hD0 hS hA hl
  have hown : s.vm.findClass RX6 = some m.cls := hown
  have hl : lv_has ls 2 [(0, .ref (mo 0)), (1, .int x1)] := hl
  have hiX6 : ∀ w ∈ u_ws RX6 TX6 13, w ∈ wsX6_isThing := by decide +kernel
  have k7 := hts (.fieldLink RX6 7 "LentRightsModel" "all" "[I") (by decide +kernel)
  unfold f_X6_isThing at hf
  refine lv_iload_n hx hb dX6_isThing_0 rfl (lv_at hl 1 rfl) ?_
  refine lv_i2l (v := x1.toInt64) hx hb dX6_isThing_1 rfl ?_
  refine lv_lconst (v := 0) hx hb dX6_isThing_2 (by decide) ?_
  refine lv_aload_n hx hb dX6_isThing_3 rfl (lv_at hl 0 rfl) ?_
  refine va_get (D := X.1) (ci := 6) (v := .ref (mo 1)) (C := RX6) (T := TX6) (N := 13) hx hb hts hiX6 hown hK.1 hP 0 rfl rfl 0 (by decide) k7 (fun _ h9 => h9) rfl dX6_isThing_4 ?_
  refine lv_iconst (v := 4) hx hb dX6_isThing_7 (by decide) ?_
  obtain ⟨hi_1, hf⟩ := ix_of hf
  refine va_iald hx hb hK.1 hP 1 0 rfl rfl hi_1 dX6_isThing_8 ?_
  refine lv_i2l (v := (al (4 : Int32).toNatClampNeg).toInt64) hx hb dX6_isThing_9 rfl ?_
  refine lv_lconst (v := 1) hx hb dX6_isThing_10 (by decide) ?_
  refine lv_lsub hx hb dX6_isThing_11 ?_
  obtain ⟨r_2, hc_3, hf⟩ := bd_of hf
  refine fn_Sx (v := some (.int r_2)) (As := [.long x1.toInt64, .long (0 : Int64), .long (((al (4 : Int32).toNatClampNeg).toInt64) - (1 : Int64))]) (rest := []) (st1 := [.int r_2]) (ws' := (wMo X mo al sv sm asd th ho fr txt tl pos od nu su)) (nL := 2) ⟨hx, hb, hml, hown, hts⟩ (c_X6_in l X x1.toInt64 (0 : Int64) (((al (4 : Int32).toNatClampNeg).toInt64) - (1 : Int64)) r_2 hc_3) (va_cwS 3 hts gX6_isThing_X6_in rfl rfl rfl (by decide +kernel) ⟨Nat.le_of_ble_eq_true rfl, Nat.le_of_ble_eq_true rfl⟩) rfl hl.1 rfl (Nat.le_of_ble_eq_true rfl) dX6_isThing_12 hK hP (hD0.addr rfl) hS hA [] rfl rfl rfl rfl ⟨Nat.zero_le _, Nat.zero_le _⟩ (fun H locs hP hD hS => ?_)
  cases hf
  exact fn_zret hx hb hr (z_narrow (z_X6_in hc_3)) hlocks hP hS dX6_isThing_15

def f_X6_owner (x1 : Int32) (al : (Nat → Int32)) : Option (Int32) :=
  ix ((28 : Int32) + ((2 : Int32) * x1)) 320 (
  nm (al ((28 : Int32) + ((2 : Int32) * x1)).toNatClampNeg) (fun v_2 =>
  some v_2))
set_option maxHeartbeats 4000000 in
set_option maxRecDepth 100000 in
theorem c_X6_owner (l : Launch) (X : cx_G) (mo : (Nat → Nat)) (al : (Nat → Int32)) (sv : (Nat → Int32)) (sm : Int32) (asd : (Nat → Int32)) (th : Int32) (ho : (Nat → Int32)) (fr : (Nat → Int32)) (txt : (Nat → Int32)) (tl : Int32) (pos : Int32) (od : Int32) (nu : (Nat → Int32)) (su : Int64) (x1 : Int32) (r : Int32) (hf : f_X6_owner x1 al = some r) : Fn l yX6_owner wsX6_owner ({ frames := 0, cells := 0, slots := 0, locals := 0 } : Room) X [.ref (mo 0), .int x1] (wMo X mo al sv sm asd th ho fr txt tl pos od nu su) (some (.int r)) (wMo X mo al sv sm asd th ho fr txt tl pos od nu su) := by
  refine fn_intro (cc := cX6_owner) (maxL := 2) (ret := (some .int)) (by decide) rfl rfl (Nat.le_of_ble_eq_true rfl) ?_
  intro p e s m args below meth c A ls hx hb hml hr hts hown hlocks hK hP hD0 hS hA hl
  have hown : s.vm.findClass RX6 = some m.cls := hown
  have hl : lv_has ls 2 [(0, .ref (mo 0)), (1, .int x1)] := hl
  have hiX6 : ∀ w ∈ u_ws RX6 TX6 13, w ∈ wsX6_owner := by decide +kernel
  have k7 := hts (.fieldLink RX6 7 "LentRightsModel" "all" "[I") (by decide +kernel)
  unfold f_X6_owner at hf
  refine lv_aload_n hx hb dX6_owner_0 rfl (lv_at hl 0 rfl) ?_
  refine va_get (D := X.1) (ci := 6) (v := .ref (mo 1)) (C := RX6) (T := TX6) (N := 13) hx hb hts hiX6 hown hK.1 hP 0 rfl rfl 0 (by decide) k7 (fun _ h9 => h9) rfl dX6_owner_1 ?_
  refine lv_bipush (v := 28) hx hb dX6_owner_4 (by decide) ?_
  refine lv_iconst (v := 2) hx hb dX6_owner_6 (by decide) ?_
  refine lv_iload_n hx hb dX6_owner_7 rfl (lv_at hl 1 rfl) ?_
  refine lv_imul hx hb dX6_owner_8 ?_
  refine lv_iadd hx hb dX6_owner_9 ?_
  obtain ⟨hi_1, hf⟩ := ix_of hf
  refine va_iald hx hb hK.1 hP 1 0 rfl rfl hi_1 dX6_owner_10 ?_
  refine lv_topi (fun v_2 ev_2 => ?_)
  replace hf := nm_of ev_2 hf
  cases hf
  exact fn_iret hx hb hr hlocks hP hS dX6_owner_11

def f_X6_mask (x1 : Int32) (al : (Nat → Int32)) : Option (Int32) :=
  ix (((28 : Int32) + ((2 : Int32) * x1)) + (1 : Int32)) 320 (
  nm (al (((28 : Int32) + ((2 : Int32) * x1)) + (1 : Int32)).toNatClampNeg) (fun v_2 =>
  some v_2))
set_option maxHeartbeats 4000000 in
set_option maxRecDepth 100000 in
theorem c_X6_mask (l : Launch) (X : cx_G) (mo : (Nat → Nat)) (al : (Nat → Int32)) (sv : (Nat → Int32)) (sm : Int32) (asd : (Nat → Int32)) (th : Int32) (ho : (Nat → Int32)) (fr : (Nat → Int32)) (txt : (Nat → Int32)) (tl : Int32) (pos : Int32) (od : Int32) (nu : (Nat → Int32)) (su : Int64) (x1 : Int32) (r : Int32) (hf : f_X6_mask x1 al = some r) : Fn l yX6_mask wsX6_mask ({ frames := 0, cells := 0, slots := 0, locals := 0 } : Room) X [.ref (mo 0), .int x1] (wMo X mo al sv sm asd th ho fr txt tl pos od nu su) (some (.int r)) (wMo X mo al sv sm asd th ho fr txt tl pos od nu su) := by
  refine fn_intro (cc := cX6_mask) (maxL := 2) (ret := (some .int)) (by decide) rfl rfl (Nat.le_of_ble_eq_true rfl) ?_
  intro p e s m args below meth c A ls hx hb hml hr hts hown hlocks hK hP hD0 hS hA hl
  have hown : s.vm.findClass RX6 = some m.cls := hown
  have hl : lv_has ls 2 [(0, .ref (mo 0)), (1, .int x1)] := hl
  have hiX6 : ∀ w ∈ u_ws RX6 TX6 13, w ∈ wsX6_mask := by decide +kernel
  have k7 := hts (.fieldLink RX6 7 "LentRightsModel" "all" "[I") (by decide +kernel)
  unfold f_X6_mask at hf
  refine lv_aload_n hx hb dX6_mask_0 rfl (lv_at hl 0 rfl) ?_
  refine va_get (D := X.1) (ci := 6) (v := .ref (mo 1)) (C := RX6) (T := TX6) (N := 13) hx hb hts hiX6 hown hK.1 hP 0 rfl rfl 0 (by decide) k7 (fun _ h9 => h9) rfl dX6_mask_1 ?_
  refine lv_bipush (v := 28) hx hb dX6_mask_4 (by decide) ?_
  refine lv_iconst (v := 2) hx hb dX6_mask_6 (by decide) ?_
  refine lv_iload_n hx hb dX6_mask_7 rfl (lv_at hl 1 rfl) ?_
  refine lv_imul hx hb dX6_mask_8 ?_
  refine lv_iadd hx hb dX6_mask_9 ?_
  refine lv_iconst (v := 1) hx hb dX6_mask_10 (by decide) ?_
  refine lv_iadd hx hb dX6_mask_11 ?_
  obtain ⟨hi_1, hf⟩ := ix_of hf
  refine va_iald hx hb hK.1 hP 1 0 rfl rfl hi_1 dX6_mask_12 ?_
  refine lv_topi (fun v_2 ev_2 => ?_)
  replace hf := nm_of ev_2 hf
  cases hf
  exact fn_iret hx hb hr hlocks hP hS dX6_mask_13

def f_X6_of (x1 : Int32) (x2 : Int32) (al : (Nat → Int32)) : Option (Int32) :=
  ix (((44 : Int32) + ((6 : Int32) * x1)) + x2) 320 (
  nm (al (((44 : Int32) + ((6 : Int32) * x1)) + x2).toNatClampNeg) (fun v_2 =>
  some v_2))
set_option maxHeartbeats 4000000 in
set_option maxRecDepth 100000 in
theorem c_X6_of (l : Launch) (X : cx_G) (mo : (Nat → Nat)) (al : (Nat → Int32)) (sv : (Nat → Int32)) (sm : Int32) (asd : (Nat → Int32)) (th : Int32) (ho : (Nat → Int32)) (fr : (Nat → Int32)) (txt : (Nat → Int32)) (tl : Int32) (pos : Int32) (od : Int32) (nu : (Nat → Int32)) (su : Int64) (x1 : Int32) (x2 : Int32) (r : Int32) (hf : f_X6_of x1 x2 al = some r) : Fn l yX6_of wsX6_of ({ frames := 0, cells := 0, slots := 0, locals := 0 } : Room) X [.ref (mo 0), .int x1, .int x2] (wMo X mo al sv sm asd th ho fr txt tl pos od nu su) (some (.int r)) (wMo X mo al sv sm asd th ho fr txt tl pos od nu su) := by
  refine fn_intro (cc := cX6_of) (maxL := 3) (ret := (some .int)) (by decide) rfl rfl (Nat.le_of_ble_eq_true rfl) ?_
  intro p e s m args below meth c A ls hx hb hml hr hts hown hlocks hK hP hD0 hS hA hl
  have hown : s.vm.findClass RX6 = some m.cls := hown
  have hl : lv_has ls 3 [(0, .ref (mo 0)), (1, .int x1), (2, .int x2)] := hl
  have hiX6 : ∀ w ∈ u_ws RX6 TX6 13, w ∈ wsX6_of := by decide +kernel
  have k7 := hts (.fieldLink RX6 7 "LentRightsModel" "all" "[I") (by decide +kernel)
  unfold f_X6_of at hf
  refine lv_aload_n hx hb dX6_of_0 rfl (lv_at hl 0 rfl) ?_
  refine va_get (D := X.1) (ci := 6) (v := .ref (mo 1)) (C := RX6) (T := TX6) (N := 13) hx hb hts hiX6 hown hK.1 hP 0 rfl rfl 0 (by decide) k7 (fun _ h9 => h9) rfl dX6_of_1 ?_
  refine lv_bipush (v := 44) hx hb dX6_of_4 (by decide) ?_
  refine lv_bipush (v := 6) hx hb dX6_of_6 (by decide) ?_
  refine lv_iload_n hx hb dX6_of_8 rfl (lv_at hl 1 rfl) ?_
  refine lv_imul hx hb dX6_of_9 ?_
  refine lv_iadd hx hb dX6_of_10 ?_
  refine lv_iload_n hx hb dX6_of_11 rfl (lv_at hl 2 rfl) ?_
  refine lv_iadd hx hb dX6_of_12 ?_
  obtain ⟨hi_1, hf⟩ := ix_of hf
  refine va_iald hx hb hK.1 hP 1 0 rfl rfl hi_1 dX6_of_13 ?_
  refine lv_topi (fun v_2 ev_2 => ?_)
  replace hf := nm_of ev_2 hf
  cases hf
  exact fn_iret hx hb hr hlocks hP hS dX6_of_14

def f_X6_placeOf_L2 (x1 : Int32) (al : (Nat → Int32)) : Nat → Int32 →  Option (Int32)
  | 0, _ => none
  | k_ + 1, x2 =>
    ix (5 : Int32) 320 (
    if al (5 : Int32).toNatClampNeg ≤ x2 then
    (some (-1 : Int32))
    else
    (bd (f_X6_of x2 (0 : Int32) al) (fun r_3 =>
    if r_3 = x1 then
    (some x2)
    else
    (nm (x2 + (1 : Int32)) (fun v_6 =>
    f_X6_placeOf_L2 x1 al k_ v_6)))))
def f_X6_placeOf (x1 : Int32) (al : (Nat → Int32)) : Option (Int32) :=
  f_X6_placeOf_L2 x1 al FU (0 : Int32)
set_option maxHeartbeats 4000000 in
set_option maxRecDepth 100000 in
theorem c_X6_placeOf (l : Launch) (X : cx_G) (mo : (Nat → Nat)) (al : (Nat → Int32)) (sv : (Nat → Int32)) (sm : Int32) (asd : (Nat → Int32)) (th : Int32) (ho : (Nat → Int32)) (fr : (Nat → Int32)) (txt : (Nat → Int32)) (tl : Int32) (pos : Int32) (od : Int32) (nu : (Nat → Int32)) (su : Int64) (x1 : Int32) (r : Int32) (hf : f_X6_placeOf x1 al = some r) : Fn l yX6_placeOf wsX6_placeOf ({ frames := 1, cells := 0, slots := 0, locals := 22 } : Room) X [.ref (mo 0), .int x1] (wMo X mo al sv sm asd th ho fr txt tl pos od nu su) (some (.int r)) (wMo X mo al sv sm asd th ho fr txt tl pos od nu su) := by
  refine fn_intro (cc := cX6_placeOf) (maxL := 3) (ret := (some .int)) (by decide) rfl rfl (Nat.le_of_ble_eq_true rfl) ?_
  intro p e s m args below meth c A ls hx hb hml hr hts hown hlocks hK hP hD0 hS hA hl
  have hown : s.vm.findClass RX6 = some m.cls := hown
  have hl : lv_has ls 3 [(0, .ref (mo 0)), (1, .int x1)] := hl
  have hiX6 : ∀ w ∈ u_ws RX6 TX6 13, w ∈ wsX6_placeOf := by decide +kernel
  have k7 := hts (.fieldLink RX6 7 "LentRightsModel" "all" "[I") (by decide +kernel)
  have loop_2 : ∀  (k_ : Nat) (x2 : Int32) (H : Heap) (locs : List Loc) (ls : Array Slot), f_X6_placeOf_L2 x1 al k_ x2 = some r → va_P X.1 vwCl (wMo X mo al sv sm asd th ho fr txt tl pos od nu su) H → va_S A s.heap H locs → lv_has ls 3 [(0, .ref (mo 0)), (1, .int x1), (2, .int x2)] → W p l e ({ frames := 1, cells := 0, slots := 0, locals := 22 } : Room) s m args below meth c H locs 0 0 (fn_Z below X (some (.int r)) (wMo X mo al sv sm asd th ho fr txt tl pos od nu su) A args s) (F0 m 2 ls []) := by
    intro  k_
    induction k_ with
    | zero => intro x2 H locs ls hf; exact nomatch (show (none : Option (Int32)) = some _ from hf)
    | succ k_ ih =>
      intro x2 H locs ls hf hP hS hl
      unfold f_X6_placeOf_L2 at hf
      refine lv_iload_n hx hb dX6_placeOf_2 rfl (lv_at hl 2 rfl) ?_
      refine lv_aload_n hx hb dX6_placeOf_3 rfl (lv_at hl 0 rfl) ?_
      refine va_get (D := X.1) (ci := 6) (v := .ref (mo 1)) (C := RX6) (T := TX6) (N := 13) hx hb hts hiX6 hown hK.1 hP 0 rfl rfl 0 (by decide) k7 (fun _ h9 => h9) rfl dX6_placeOf_4 ?_
      refine lv_iconst (v := 5) hx hb dX6_placeOf_7 (by decide) ?_
      obtain ⟨hi_1, hf⟩ := ix_of hf
      refine va_iald hx hb hK.1 hP 1 0 rfl rfl hi_1 dX6_placeOf_8 ?_
      refine lv_icmp_ge (tgt := 30) hx hb dX6_placeOf_9 (by decide) (fun c_2 => ?_) (fun c_2 => ?_)
      · replace hf := fp_t c_2 hf
        refine lv_iconst (v := -1) hx hb dX6_placeOf_30 (by decide) ?_
        cases hf
        exact fn_iret hx hb hr hlocks hP hS dX6_placeOf_31
      · replace hf := fp_f c_2 hf
        refine lv_aload_n hx hb dX6_placeOf_12 rfl (lv_at hl 0 rfl) ?_
        refine lv_iload_n hx hb dX6_placeOf_13 rfl (lv_at hl 2 rfl) ?_
        refine lv_iconst (v := 0) hx hb dX6_placeOf_14 (by decide) ?_
        obtain ⟨r_3, hc_4, hf⟩ := bd_of hf
        refine fn_V (v := some (.int r_3)) (As := [.int x2, .int (0 : Int32)]) (rest := []) (st1 := [.int r_3]) (ws' := (wMo X mo al sv sm asd th ho fr txt tl pos od nu su)) (nL := 3) ⟨hx, hb, hml, hown, hts⟩ (c_X6_of l X mo al sv sm asd th ho fr txt tl pos od nu su x2 (0 : Int32) r_3 hc_4) (cwV 2 hts gX6_placeOf_X6_of rfl rfl rfl (by decide +kernel) ⟨Nat.le_of_ble_eq_true rfl, Nat.le_of_ble_eq_true rfl⟩) 6 rfl rfl rfl rfl hl.1 rfl (Nat.le_of_ble_eq_true rfl) dX6_placeOf_15 hK hP (hD0.addr rfl) hS hA [0, 1, 2, 3, 4, 5, 6, 7] rfl rfl rfl rfl ⟨Nat.zero_le _, Nat.zero_le _⟩ (fun H locs hP hD hS => ?_)
        refine lv_iload_n hx hb dX6_placeOf_18 rfl (lv_at hl 1 rfl) ?_
        refine lv_icmp_ne (tgt := 24) hx hb dX6_placeOf_19 (by decide) (fun c_5 => ?_) (fun c_5 => ?_)
        · replace hf := fp_f c_5 hf
          obtain ⟨v_6, ev_6⟩ : ∃ y : Int32, y = x2 + (1 : Int32) := ⟨_, rfl⟩
          replace hf := nm_of ev_6 hf
          refine lv_iinc (v := v_6) (lv' := [(2, .int v_6), (0, .ref (mo 0)), (1, .int x1)]) hx hb dX6_placeOf_24 hl (k := 2) rfl (by rw [ev_6]; rfl) (by decide) rfl (fun ls hl => ?_)
          refine lv_goto (tgt := 2) hx hb dX6_placeOf_27 (by decide) ?_
          exact ih v_6 _ _ _ hf hP hS (lv_sub hl [1, 2, 0] rfl)
        · replace hf := fp_t c_5 hf
          refine lv_iload_n hx hb dX6_placeOf_22 rfl (lv_at hl 2 rfl) ?_
          cases hf
          exact fn_iret hx hb hr hlocks hP hS dX6_placeOf_23
  unfold f_X6_placeOf at hf
  refine lv_iconst (v := 0) hx hb dX6_placeOf_0 (by decide) ?_
  refine lv_istore_n (lv' := [(2, .int (0 : Int32)), (0, .ref (mo 0)), (1, .int x1)]) hx hb dX6_placeOf_1 rfl hl (by decide) rfl (fun ls hl => ?_)
  exact loop_2 FU (0 : Int32) _ _ _ hf hP hS (lv_sub hl [1, 2, 0] rfl)

def f_X6_takeOut_L57  : Nat → Int32 → (Nat → Int32) →  Option ((Nat → Int32))
  | 0, _, _ => none
  | k_ + 1, x2, al =>
    if (6 : Int32) ≤ x2 then
    (some al)
    else
    (ix (5 : Int32) 320 (
    ix (((44 : Int32) + ((6 : Int32) * (al (5 : Int32).toNatClampNeg))) + x2) 320 (
    nm (upd al (((44 : Int32) + ((6 : Int32) * (al (5 : Int32).toNatClampNeg))) + x2).toNatClampNeg (0 : Int32)) (fun al_4 =>
    nm (x2 + (1 : Int32)) (fun v_5 =>
    f_X6_takeOut_L57 k_ v_5 al_4)))))
def f_X6_takeOut_L15  : Nat → Int32 → (Nat → Int32) →  Option ((Nat → Int32))
  | 0, _, _ => none
  | k_ + 1, x2, al =>
    ix (5 : Int32) 320 (
    if (6 : Int32) * (al (5 : Int32).toNatClampNeg) ≤ x2 then
    (some al)
    else
    (ix (((44 : Int32) + x2) + (6 : Int32)) 320 (
    nm (al (((44 : Int32) + x2) + (6 : Int32)).toNatClampNeg) (fun v_9 =>
    ix ((44 : Int32) + x2) 320 (
    nm (upd al ((44 : Int32) + x2).toNatClampNeg v_9) (fun al_11 =>
    nm (x2 + (1 : Int32)) (fun v_12 =>
    f_X6_takeOut_L15 k_ v_12 al_11)))))))
def f_X6_takeOut (x1 : Int32) (al : (Nat → Int32)) : Option ((Nat → Int32)) :=
  ix (5 : Int32) 320 (
  nm ((al (5 : Int32).toNatClampNeg) - (1 : Int32)) (fun v_14 =>
  ix (5 : Int32) 320 (
  nm (upd al (5 : Int32).toNatClampNeg v_14) (fun al_16 =>
  nm ((6 : Int32) * x1) (fun v_17 =>
  bd (f_X6_takeOut_L15 FU v_17 al_16) (fun al_18 =>
  bd (f_X6_takeOut_L57 FU (0 : Int32) al_18) (fun al_20 =>
  some al_20)))))))
set_option maxHeartbeats 4000000 in
set_option maxRecDepth 100000 in
theorem c_X6_takeOut (l : Launch) (X : cx_G) (mo : (Nat → Nat)) (al : (Nat → Int32)) (sv : (Nat → Int32)) (sm : Int32) (asd : (Nat → Int32)) (th : Int32) (ho : (Nat → Int32)) (fr : (Nat → Int32)) (txt : (Nat → Int32)) (tl : Int32) (pos : Int32) (od : Int32) (nu : (Nat → Int32)) (su : Int64) (x1 : Int32) (al' : (Nat → Int32)) (hf : f_X6_takeOut x1 al = some al') : Fn l yX6_takeOut wsX6_takeOut ({ frames := 0, cells := 0, slots := 0, locals := 0 } : Room) X [.ref (mo 0), .int x1] (wMo X mo al sv sm asd th ho fr txt tl pos od nu su) none (wMo X mo al' sv sm asd th ho fr txt tl pos od nu su) := by
  refine fn_intro (cc := cX6_takeOut) (maxL := 3) (ret := none) (by decide) rfl rfl (Nat.le_of_ble_eq_true rfl) ?_
  intro p e s m args below meth c A ls hx hb hml hr hts hown hlocks hK hP hD0 hS hA hl
  have hown : s.vm.findClass RX6 = some m.cls := hown
  have hl : lv_has ls 3 [(0, .ref (mo 0)), (1, .int x1)] := hl
  have hiX6 : ∀ w ∈ u_ws RX6 TX6 13, w ∈ wsX6_takeOut := by decide +kernel
  have k7 := hts (.fieldLink RX6 7 "LentRightsModel" "all" "[I") (by decide +kernel)
  have loop_57 : ∀ (Q : State → Prop) (alo : (Nat → Int32)), (∀ (H : Heap) (locs : List Loc) (ls : Array Slot), va_P X.1 vwCl (wMo X mo alo sv sm asd th ho fr txt tl pos od nu su) H → va_S A s.heap H locs → lv_has ls 3 [] → W p l e ({ frames := 0, cells := 0, slots := 0, locals := 0 } : Room) s m args below meth c H locs 0 0 Q (F0 m 89 ls [])) → ∀ (k_ : Nat) (x2 : Int32) (al : (Nat → Int32)) (H : Heap) (locs : List Loc) (ls : Array Slot), f_X6_takeOut_L57 k_ x2 al = some alo → va_P X.1 vwCl (wMo X mo al sv sm asd th ho fr txt tl pos od nu su) H → va_S A s.heap H locs → lv_has ls 3 [(0, .ref (mo 0)), (2, .int x2)] → W p l e ({ frames := 0, cells := 0, slots := 0, locals := 0 } : Room) s m args below meth c H locs 0 0 Q (F0 m 57 ls []) := by
    intro Q alo kx k_
    induction k_ with
    | zero => intro x2 al H locs ls hf; exact nomatch (show (none : Option ((Nat → Int32))) = some _ from hf)
    | succ k_ ih =>
      intro x2 al H locs ls hf hP hS hl
      unfold f_X6_takeOut_L57 at hf
      refine lv_iload_n hx hb dX6_takeOut_57 rfl (lv_at hl 1 rfl) ?_
      refine lv_bipush (v := 6) hx hb dX6_takeOut_58 (by decide) ?_
      refine lv_icmp_ge (tgt := 89) hx hb dX6_takeOut_60 (by decide) (fun c_1 => ?_) (fun c_1 => ?_)
      · replace hf := fp_t c_1 hf
        cases hf
        exact kx _ _ _ hP hS (lv_sub hl [] rfl)
      · replace hf := fp_f c_1 hf
        refine lv_aload_n hx hb dX6_takeOut_63 rfl (lv_at hl 0 rfl) ?_
        refine va_get (D := X.1) (ci := 6) (v := .ref (mo 1)) (C := RX6) (T := TX6) (N := 13) hx hb hts hiX6 hown hK.1 hP 0 rfl rfl 0 (by decide) k7 (fun _ h9 => h9) rfl dX6_takeOut_64 ?_
        refine lv_bipush (v := 44) hx hb dX6_takeOut_67 (by decide) ?_
        refine lv_bipush (v := 6) hx hb dX6_takeOut_69 (by decide) ?_
        refine lv_aload_n hx hb dX6_takeOut_71 rfl (lv_at hl 0 rfl) ?_
        refine va_get (D := X.1) (ci := 6) (v := .ref (mo 1)) (C := RX6) (T := TX6) (N := 13) hx hb hts hiX6 hown hK.1 hP 0 rfl rfl 0 (by decide) k7 (fun _ h9 => h9) rfl dX6_takeOut_72 ?_
        refine lv_iconst (v := 5) hx hb dX6_takeOut_75 (by decide) ?_
        obtain ⟨hi_2, hf⟩ := ix_of hf
        refine va_iald hx hb hK.1 hP 1 0 rfl rfl hi_2 dX6_takeOut_76 ?_
        refine lv_imul hx hb dX6_takeOut_77 ?_
        refine lv_iadd hx hb dX6_takeOut_78 ?_
        refine lv_iload_n hx hb dX6_takeOut_79 rfl (lv_at hl 1 rfl) ?_
        refine lv_iadd hx hb dX6_takeOut_80 ?_
        refine lv_iconst (v := 0) hx hb dX6_takeOut_81 (by decide) ?_
        obtain ⟨hi_3, hf⟩ := ix_of hf
        refine va_iast hx hb hK.1 hP (hD0.addr rfl) hS 1 0 rfl rfl hi_3 dX6_takeOut_82 (fun H locs hP hD hS => ?_)
        obtain ⟨al_4, eal_4⟩ : ∃ g : Nat → Int32, g = upd al (((44 : Int32) + ((6 : Int32) * (al (5 : Int32).toNatClampNeg))) + x2).toNatClampNeg (0 : Int32) := ⟨_, rfl⟩
        replace hf := nm_of eal_4 hf
        have hP : va_P X.1 vwCl (wMo X mo al_4 sv sm asd th ho fr txt tl pos od nu su) H := by rw [eal_4]; exact hP
        obtain ⟨v_5, ev_5⟩ : ∃ y : Int32, y = x2 + (1 : Int32) := ⟨_, rfl⟩
        replace hf := nm_of ev_5 hf
        refine lv_iinc (v := v_5) (lv' := [(2, .int v_5), (0, .ref (mo 0))]) hx hb dX6_takeOut_83 hl (k := 1) rfl (by rw [ev_5]; rfl) (by decide) rfl (fun ls hl => ?_)
        refine lv_goto (tgt := 57) hx hb dX6_takeOut_86 (by decide) ?_
        exact ih v_5 al_4 _ _ _ hf hP hS (lv_sub hl [1, 0] rfl)
  have loop_15 : ∀ (Q : State → Prop) (alo : (Nat → Int32)), (∀ (H : Heap) (locs : List Loc) (ls : Array Slot), va_P X.1 vwCl (wMo X mo alo sv sm asd th ho fr txt tl pos od nu su) H → va_S A s.heap H locs → lv_has ls 3 [(0, .ref (mo 0))] → W p l e ({ frames := 0, cells := 0, slots := 0, locals := 0 } : Room) s m args below meth c H locs 0 0 Q (F0 m 55 ls [])) → ∀ (k_ : Nat) (x2 : Int32) (al : (Nat → Int32)) (H : Heap) (locs : List Loc) (ls : Array Slot), f_X6_takeOut_L15 k_ x2 al = some alo → va_P X.1 vwCl (wMo X mo al sv sm asd th ho fr txt tl pos od nu su) H → va_S A s.heap H locs → lv_has ls 3 [(0, .ref (mo 0)), (2, .int x2)] → W p l e ({ frames := 0, cells := 0, slots := 0, locals := 0 } : Room) s m args below meth c H locs 0 0 Q (F0 m 15 ls []) := by
    intro Q alo kx k_
    induction k_ with
    | zero => intro x2 al H locs ls hf; exact nomatch (show (none : Option ((Nat → Int32))) = some _ from hf)
    | succ k_ ih =>
      intro x2 al H locs ls hf hP hS hl
      unfold f_X6_takeOut_L15 at hf
      refine lv_iload_n hx hb dX6_takeOut_15 rfl (lv_at hl 1 rfl) ?_
      refine lv_bipush (v := 6) hx hb dX6_takeOut_16 (by decide) ?_
      refine lv_aload_n hx hb dX6_takeOut_18 rfl (lv_at hl 0 rfl) ?_
      refine va_get (D := X.1) (ci := 6) (v := .ref (mo 1)) (C := RX6) (T := TX6) (N := 13) hx hb hts hiX6 hown hK.1 hP 0 rfl rfl 0 (by decide) k7 (fun _ h9 => h9) rfl dX6_takeOut_19 ?_
      refine lv_iconst (v := 5) hx hb dX6_takeOut_22 (by decide) ?_
      obtain ⟨hi_6, hf⟩ := ix_of hf
      refine va_iald hx hb hK.1 hP 1 0 rfl rfl hi_6 dX6_takeOut_23 ?_
      refine lv_imul hx hb dX6_takeOut_24 ?_
      refine lv_icmp_ge (tgt := 55) hx hb dX6_takeOut_25 (by decide) (fun c_7 => ?_) (fun c_7 => ?_)
      · replace hf := fp_t c_7 hf
        cases hf
        exact kx _ _ _ hP hS (lv_sub hl [0] rfl)
      · replace hf := fp_f c_7 hf
        refine lv_aload_n hx hb dX6_takeOut_28 rfl (lv_at hl 0 rfl) ?_
        refine va_get (D := X.1) (ci := 6) (v := .ref (mo 1)) (C := RX6) (T := TX6) (N := 13) hx hb hts hiX6 hown hK.1 hP 0 rfl rfl 0 (by decide) k7 (fun _ h9 => h9) rfl dX6_takeOut_29 ?_
        refine lv_bipush (v := 44) hx hb dX6_takeOut_32 (by decide) ?_
        refine lv_iload_n hx hb dX6_takeOut_34 rfl (lv_at hl 1 rfl) ?_
        refine lv_iadd hx hb dX6_takeOut_35 ?_
        refine lv_aload_n hx hb dX6_takeOut_36 rfl (lv_at hl 0 rfl) ?_
        refine va_get (D := X.1) (ci := 6) (v := .ref (mo 1)) (C := RX6) (T := TX6) (N := 13) hx hb hts hiX6 hown hK.1 hP 0 rfl rfl 0 (by decide) k7 (fun _ h9 => h9) rfl dX6_takeOut_37 ?_
        refine lv_bipush (v := 44) hx hb dX6_takeOut_40 (by decide) ?_
        refine lv_iload_n hx hb dX6_takeOut_42 rfl (lv_at hl 1 rfl) ?_
        refine lv_iadd hx hb dX6_takeOut_43 ?_
        refine lv_bipush (v := 6) hx hb dX6_takeOut_44 (by decide) ?_
        refine lv_iadd hx hb dX6_takeOut_46 ?_
        obtain ⟨hi_8, hf⟩ := ix_of hf
        refine va_iald hx hb hK.1 hP 1 0 rfl rfl hi_8 dX6_takeOut_47 ?_
        refine lv_topi (fun v_9 ev_9 => ?_)
        replace hf := nm_of ev_9 hf
        obtain ⟨hi_10, hf⟩ := ix_of hf
        refine va_iast hx hb hK.1 hP (hD0.addr rfl) hS 1 0 rfl rfl hi_10 dX6_takeOut_48 (fun H locs hP hD hS => ?_)
        obtain ⟨al_11, eal_11⟩ : ∃ g : Nat → Int32, g = upd al ((44 : Int32) + x2).toNatClampNeg v_9 := ⟨_, rfl⟩
        replace hf := nm_of eal_11 hf
        have hP : va_P X.1 vwCl (wMo X mo al_11 sv sm asd th ho fr txt tl pos od nu su) H := by rw [eal_11]; exact hP
        obtain ⟨v_12, ev_12⟩ : ∃ y : Int32, y = x2 + (1 : Int32) := ⟨_, rfl⟩
        replace hf := nm_of ev_12 hf
        refine lv_iinc (v := v_12) (lv' := [(2, .int v_12), (0, .ref (mo 0))]) hx hb dX6_takeOut_49 hl (k := 1) rfl (by rw [ev_12]; rfl) (by decide) rfl (fun ls hl => ?_)
        refine lv_goto (tgt := 15) hx hb dX6_takeOut_52 (by decide) ?_
        exact ih v_12 al_11 _ _ _ hf hP hS (lv_sub hl [1, 0] rfl)
  unfold f_X6_takeOut at hf
  refine lv_aload_n hx hb dX6_takeOut_0 rfl (lv_at hl 0 rfl) ?_
  refine va_get (D := X.1) (ci := 6) (v := .ref (mo 1)) (C := RX6) (T := TX6) (N := 13) hx hb hts hiX6 hown hK.1 hP 0 rfl rfl 0 (by decide) k7 (fun _ h9 => h9) rfl dX6_takeOut_1 ?_
  refine lv_iconst (v := 5) hx hb dX6_takeOut_4 (by decide) ?_
  refine lv_dup2_11 hx hb dX6_takeOut_5 rfl rfl ?_
  obtain ⟨hi_13, hf⟩ := ix_of hf
  refine va_iald hx hb hK.1 hP 1 0 rfl rfl hi_13 dX6_takeOut_6 ?_
  refine lv_iconst (v := 1) hx hb dX6_takeOut_7 (by decide) ?_
  refine lv_isub hx hb dX6_takeOut_8 ?_
  refine lv_topi (fun v_14 ev_14 => ?_)
  replace hf := nm_of ev_14 hf
  obtain ⟨hi_15, hf⟩ := ix_of hf
  refine va_iast hx hb hK.1 hP (hD0.addr rfl) hS 1 0 rfl rfl hi_15 dX6_takeOut_9 (fun H locs hP hD hS => ?_)
  obtain ⟨al_16, eal_16⟩ : ∃ g : Nat → Int32, g = upd al (5 : Int32).toNatClampNeg v_14 := ⟨_, rfl⟩
  replace hf := nm_of eal_16 hf
  have hP : va_P X.1 vwCl (wMo X mo al_16 sv sm asd th ho fr txt tl pos od nu su) H := by rw [eal_16]; exact hP
  refine lv_bipush (v := 6) hx hb dX6_takeOut_10 (by decide) ?_
  refine lv_iload_n hx hb dX6_takeOut_12 rfl (lv_at hl 1 rfl) ?_
  refine lv_imul hx hb dX6_takeOut_13 ?_
  refine lv_topi (fun v_17 ev_17 => ?_)
  replace hf := nm_of ev_17 hf
  refine lv_istore_n (lv' := [(2, .int v_17), (0, .ref (mo 0)), (1, .int x1)]) hx hb dX6_takeOut_14 rfl hl (by decide) rfl (fun ls hl => ?_)
  obtain ⟨al_18, hL_19, hf⟩ := bd_of hf
  refine loop_15 _ al_18 (fun H locs ls hP hS hl => ?_) FU v_17 al_16 _ _ _ hL_19 hP hS (lv_sub hl [1, 0] rfl)
  refine lv_iconst (v := 0) hx hb dX6_takeOut_55 (by decide) ?_
  refine lv_istore_n (lv' := [(2, .int (0 : Int32)), (0, .ref (mo 0))]) hx hb dX6_takeOut_56 rfl hl (by decide) rfl (fun ls hl => ?_)
  obtain ⟨al_20, hL_21, hf⟩ := bd_of hf
  refine loop_57 _ al_20 (fun H locs ls hP hS hl => ?_) FU (0 : Int32) al_18 _ _ _ hL_21 hP hS (lv_sub hl [1, 0] rfl)
  cases hf
  exact fn_vret hx hb hr hlocks hP hS dX6_takeOut_89

def f_X6_log_L3  : Nat → Int32 → (Nat → Int32) →  Option ((Nat → Int32))
  | 0, _, _ => none
  | k_ + 1, x2, al =>
    if x2 < (3 : Int32) then
    (some al)
    else
    (ix (((284 : Int32) + x2) - (3 : Int32)) 320 (
    nm (al (((284 : Int32) + x2) - (3 : Int32)).toNatClampNeg) (fun v_3 =>
    ix ((284 : Int32) + x2) 320 (
    nm (upd al ((284 : Int32) + x2).toNatClampNeg v_3) (fun al_5 =>
    nm (x2 + (-1 : Int32)) (fun v_6 =>
    f_X6_log_L3 k_ v_6 al_5))))))
def f_X6_log (x1 : Int32) (al : (Nat → Int32)) : Option ((Nat → Int32)) :=
  bd (f_X6_log_L3 FU (35 : Int32) al) (fun al_7 =>
  bd (f_X6_of x1 (0 : Int32) al_7) (fun r_9 =>
  ix (284 : Int32) 320 (
  nm (upd al_7 (284 : Int32).toNatClampNeg r_9) (fun al_12 =>
  ix (0 : Int32) 320 (
  nm (al_12 (0 : Int32).toNatClampNeg) (fun v_14 =>
  ix (285 : Int32) 320 (
  nm (upd al_12 (285 : Int32).toNatClampNeg v_14) (fun al_16 =>
  bd (f_X6_of x1 (1 : Int32) al_16) (fun r_17 =>
  ix (286 : Int32) 320 (
  nm (upd al_16 (286 : Int32).toNatClampNeg r_17) (fun al_20 =>
  ix (6 : Int32) 320 (
  ix (6 : Int32) 320 (
  if (12 : Int32) ≤ al_20 (6 : Int32).toNatClampNeg then
  (nm ((al_20 (6 : Int32).toNatClampNeg) + (0 : Int32)) (fun v_24 =>
  ix (6 : Int32) 320 (
  nm (upd al_20 (6 : Int32).toNatClampNeg v_24) (fun al_26 =>
  some al_26))))
  else
  (nm ((al_20 (6 : Int32).toNatClampNeg) + (1 : Int32)) (fun v_27 =>
  ix (6 : Int32) 320 (
  nm (upd al_20 (6 : Int32).toNatClampNeg v_27) (fun al_29 =>
  some al_29)))))))))))))))))
set_option maxHeartbeats 4000000 in
set_option maxRecDepth 100000 in
theorem c_X6_log (l : Launch) (X : cx_G) (mo : (Nat → Nat)) (al : (Nat → Int32)) (sv : (Nat → Int32)) (sm : Int32) (asd : (Nat → Int32)) (th : Int32) (ho : (Nat → Int32)) (fr : (Nat → Int32)) (txt : (Nat → Int32)) (tl : Int32) (pos : Int32) (od : Int32) (nu : (Nat → Int32)) (su : Int64) (x1 : Int32) (al' : (Nat → Int32)) (hf : f_X6_log x1 al = some al') : Fn l yX6_log wsX6_log ({ frames := 1, cells := 0, slots := 0, locals := 22 } : Room) X [.ref (mo 0), .int x1] (wMo X mo al sv sm asd th ho fr txt tl pos od nu su) none (wMo X mo al' sv sm asd th ho fr txt tl pos od nu su) := by
  refine fn_intro (cc := cX6_log) (maxL := 3) (ret := none) (by decide) rfl rfl (Nat.le_of_ble_eq_true rfl) ?_
  intro p e s m args below meth c A ls hx hb hml hr hts hown hlocks hK hP hD0 hS hA hl
  have hown : s.vm.findClass RX6 = some m.cls := hown
  have hl : lv_has ls 3 [(0, .ref (mo 0)), (1, .int x1)] := hl
  have hiX6 : ∀ w ∈ u_ws RX6 TX6 13, w ∈ wsX6_log := by decide +kernel
  have k7 := hts (.fieldLink RX6 7 "LentRightsModel" "all" "[I") (by decide +kernel)
  have loop_3 : ∀ (Q : State → Prop) (alo : (Nat → Int32)), (∀ (H : Heap) (locs : List Loc) (ls : Array Slot), va_P X.1 vwCl (wMo X mo alo sv sm asd th ho fr txt tl pos od nu su) H → va_S A s.heap H locs → lv_has ls 3 [(0, .ref (mo 0)), (1, .int x1)] → W p l e ({ frames := 1, cells := 0, slots := 0, locals := 22 } : Room) s m args below meth c H locs 0 0 Q (F0 m 36 ls [])) → ∀ (k_ : Nat) (x2 : Int32) (al : (Nat → Int32)) (H : Heap) (locs : List Loc) (ls : Array Slot), f_X6_log_L3 k_ x2 al = some alo → va_P X.1 vwCl (wMo X mo al sv sm asd th ho fr txt tl pos od nu su) H → va_S A s.heap H locs → lv_has ls 3 [(0, .ref (mo 0)), (1, .int x1), (2, .int x2)] → W p l e ({ frames := 1, cells := 0, slots := 0, locals := 22 } : Room) s m args below meth c H locs 0 0 Q (F0 m 3 ls []) := by
    intro Q alo kx k_
    induction k_ with
    | zero => intro x2 al H locs ls hf; exact nomatch (show (none : Option ((Nat → Int32))) = some _ from hf)
    | succ k_ ih =>
      intro x2 al H locs ls hf hP hS hl
      unfold f_X6_log_L3 at hf
      refine lv_iload_n hx hb dX6_log_3 rfl (lv_at hl 2 rfl) ?_
      refine lv_iconst (v := 3) hx hb dX6_log_4 (by decide) ?_
      refine lv_icmp_lt (tgt := 36) hx hb dX6_log_5 (by decide) (fun c_1 => ?_) (fun c_1 => ?_)
      · replace hf := fp_t c_1 hf
        cases hf
        exact kx _ _ _ hP hS (lv_sub hl [0, 1] rfl)
      · replace hf := fp_f c_1 hf
        refine lv_aload_n hx hb dX6_log_8 rfl (lv_at hl 0 rfl) ?_
        refine va_get (D := X.1) (ci := 6) (v := .ref (mo 1)) (C := RX6) (T := TX6) (N := 13) hx hb hts hiX6 hown hK.1 hP 0 rfl rfl 0 (by decide) k7 (fun _ h9 => h9) rfl dX6_log_9 ?_
        refine lv_sipush (v := 284) hx hb dX6_log_12 (by decide) ?_
        refine lv_iload_n hx hb dX6_log_15 rfl (lv_at hl 2 rfl) ?_
        refine lv_iadd hx hb dX6_log_16 ?_
        refine lv_aload_n hx hb dX6_log_17 rfl (lv_at hl 0 rfl) ?_
        refine va_get (D := X.1) (ci := 6) (v := .ref (mo 1)) (C := RX6) (T := TX6) (N := 13) hx hb hts hiX6 hown hK.1 hP 0 rfl rfl 0 (by decide) k7 (fun _ h9 => h9) rfl dX6_log_18 ?_
        refine lv_sipush (v := 284) hx hb dX6_log_21 (by decide) ?_
        refine lv_iload_n hx hb dX6_log_24 rfl (lv_at hl 2 rfl) ?_
        refine lv_iadd hx hb dX6_log_25 ?_
        refine lv_iconst (v := 3) hx hb dX6_log_26 (by decide) ?_
        refine lv_isub hx hb dX6_log_27 ?_
        obtain ⟨hi_2, hf⟩ := ix_of hf
        refine va_iald hx hb hK.1 hP 1 0 rfl rfl hi_2 dX6_log_28 ?_
        refine lv_topi (fun v_3 ev_3 => ?_)
        replace hf := nm_of ev_3 hf
        obtain ⟨hi_4, hf⟩ := ix_of hf
        refine va_iast hx hb hK.1 hP (hD0.addr rfl) hS 1 0 rfl rfl hi_4 dX6_log_29 (fun H locs hP hD hS => ?_)
        obtain ⟨al_5, eal_5⟩ : ∃ g : Nat → Int32, g = upd al ((284 : Int32) + x2).toNatClampNeg v_3 := ⟨_, rfl⟩
        replace hf := nm_of eal_5 hf
        have hP : va_P X.1 vwCl (wMo X mo al_5 sv sm asd th ho fr txt tl pos od nu su) H := by rw [eal_5]; exact hP
        obtain ⟨v_6, ev_6⟩ : ∃ y : Int32, y = x2 + (-1 : Int32) := ⟨_, rfl⟩
        replace hf := nm_of ev_6 hf
        refine lv_iinc (v := v_6) (lv' := [(2, .int v_6), (0, .ref (mo 0)), (1, .int x1)]) hx hb dX6_log_30 hl (k := 2) rfl (by rw [ev_6]; rfl) (by decide) rfl (fun ls hl => ?_)
        refine lv_goto (tgt := 3) hx hb dX6_log_33 (by decide) ?_
        exact ih v_6 al_5 _ _ _ hf hP hS (lv_sub hl [1, 2, 0] rfl)
  unfold f_X6_log at hf
  refine lv_bipush (v := 35) hx hb dX6_log_0 (by decide) ?_
  refine lv_istore_n (lv' := [(2, .int (35 : Int32)), (0, .ref (mo 0)), (1, .int x1)]) hx hb dX6_log_2 rfl hl (by decide) rfl (fun ls hl => ?_)
  obtain ⟨al_7, hL_8, hf⟩ := bd_of hf
  refine loop_3 _ al_7 (fun H locs ls hP hS hl => ?_) FU (35 : Int32) al _ _ _ hL_8 hP hS (lv_sub hl [1, 2, 0] rfl)
  refine lv_aload_n hx hb dX6_log_36 rfl (lv_at hl 0 rfl) ?_
  refine va_get (D := X.1) (ci := 6) (v := .ref (mo 1)) (C := RX6) (T := TX6) (N := 13) hx hb hts hiX6 hown hK.1 hP 0 rfl rfl 0 (by decide) k7 (fun _ h9 => h9) rfl dX6_log_37 ?_
  refine lv_sipush (v := 284) hx hb dX6_log_40 (by decide) ?_
  refine lv_aload_n hx hb dX6_log_43 rfl (lv_at hl 0 rfl) ?_
  refine lv_iload_n hx hb dX6_log_44 rfl (lv_at hl 1 rfl) ?_
  refine lv_iconst (v := 0) hx hb dX6_log_45 (by decide) ?_
  obtain ⟨r_9, hc_10, hf⟩ := bd_of hf
  refine fn_V (v := some (.int r_9)) (As := [.int x1, .int (0 : Int32)]) (rest := [.int (284 : Int32), .ref (mo 1)]) (st1 := [.int r_9, .int (284 : Int32), .ref (mo 1)]) (ws' := (wMo X mo al_7 sv sm asd th ho fr txt tl pos od nu su)) (nL := 3) ⟨hx, hb, hml, hown, hts⟩ (c_X6_of l X mo al_7 sv sm asd th ho fr txt tl pos od nu su x1 (0 : Int32) r_9 hc_10) (cwV 2 hts gX6_log_X6_of rfl rfl rfl (by decide +kernel) ⟨Nat.le_of_ble_eq_true rfl, Nat.le_of_ble_eq_true rfl⟩) 6 rfl rfl rfl rfl hl.1 rfl (Nat.le_of_ble_eq_true rfl) dX6_log_46 hK hP (hD0.addr rfl) hS hA [0, 1, 2, 3, 4, 5, 6, 7] rfl rfl rfl rfl ⟨Nat.zero_le _, Nat.zero_le _⟩ (fun H locs hP hD hS => ?_)
  obtain ⟨hi_11, hf⟩ := ix_of hf
  refine va_iast hx hb hK.1 hP (hD0.addr rfl) hS 1 0 rfl rfl hi_11 dX6_log_49 (fun H locs hP hD hS => ?_)
  obtain ⟨al_12, eal_12⟩ : ∃ g : Nat → Int32, g = upd al_7 (284 : Int32).toNatClampNeg r_9 := ⟨_, rfl⟩
  replace hf := nm_of eal_12 hf
  have hP : va_P X.1 vwCl (wMo X mo al_12 sv sm asd th ho fr txt tl pos od nu su) H := by rw [eal_12]; exact hP
  refine lv_aload_n hx hb dX6_log_50 rfl (lv_at hl 0 rfl) ?_
  refine va_get (D := X.1) (ci := 6) (v := .ref (mo 1)) (C := RX6) (T := TX6) (N := 13) hx hb hts hiX6 hown hK.1 hP 0 rfl rfl 0 (by decide) k7 (fun _ h9 => h9) rfl dX6_log_51 ?_
  refine lv_sipush (v := 285) hx hb dX6_log_54 (by decide) ?_
  refine lv_aload_n hx hb dX6_log_57 rfl (lv_at hl 0 rfl) ?_
  refine va_get (D := X.1) (ci := 6) (v := .ref (mo 1)) (C := RX6) (T := TX6) (N := 13) hx hb hts hiX6 hown hK.1 hP 0 rfl rfl 0 (by decide) k7 (fun _ h9 => h9) rfl dX6_log_58 ?_
  refine lv_iconst (v := 0) hx hb dX6_log_61 (by decide) ?_
  obtain ⟨hi_13, hf⟩ := ix_of hf
  refine va_iald hx hb hK.1 hP 1 0 rfl rfl hi_13 dX6_log_62 ?_
  refine lv_topi (fun v_14 ev_14 => ?_)
  replace hf := nm_of ev_14 hf
  obtain ⟨hi_15, hf⟩ := ix_of hf
  refine va_iast hx hb hK.1 hP (hD0.addr rfl) hS 1 0 rfl rfl hi_15 dX6_log_63 (fun H locs hP hD hS => ?_)
  obtain ⟨al_16, eal_16⟩ : ∃ g : Nat → Int32, g = upd al_12 (285 : Int32).toNatClampNeg v_14 := ⟨_, rfl⟩
  replace hf := nm_of eal_16 hf
  have hP : va_P X.1 vwCl (wMo X mo al_16 sv sm asd th ho fr txt tl pos od nu su) H := by rw [eal_16]; exact hP
  refine lv_aload_n hx hb dX6_log_64 rfl (lv_at hl 0 rfl) ?_
  refine va_get (D := X.1) (ci := 6) (v := .ref (mo 1)) (C := RX6) (T := TX6) (N := 13) hx hb hts hiX6 hown hK.1 hP 0 rfl rfl 0 (by decide) k7 (fun _ h9 => h9) rfl dX6_log_65 ?_
  refine lv_sipush (v := 286) hx hb dX6_log_68 (by decide) ?_
  refine lv_aload_n hx hb dX6_log_71 rfl (lv_at hl 0 rfl) ?_
  refine lv_iload_n hx hb dX6_log_72 rfl (lv_at hl 1 rfl) ?_
  refine lv_iconst (v := 1) hx hb dX6_log_73 (by decide) ?_
  obtain ⟨r_17, hc_18, hf⟩ := bd_of hf
  refine fn_V (v := some (.int r_17)) (As := [.int x1, .int (1 : Int32)]) (rest := [.int (286 : Int32), .ref (mo 1)]) (st1 := [.int r_17, .int (286 : Int32), .ref (mo 1)]) (ws' := (wMo X mo al_16 sv sm asd th ho fr txt tl pos od nu su)) (nL := 3) ⟨hx, hb, hml, hown, hts⟩ (c_X6_of l X mo al_16 sv sm asd th ho fr txt tl pos od nu su x1 (1 : Int32) r_17 hc_18) (cwV 2 hts gX6_log_X6_of rfl rfl rfl (by decide +kernel) ⟨Nat.le_of_ble_eq_true rfl, Nat.le_of_ble_eq_true rfl⟩) 6 rfl rfl rfl rfl hl.1 rfl (Nat.le_of_ble_eq_true rfl) dX6_log_74 hK hP (hD0.addr rfl) hS hA [0, 1, 2, 3, 4, 5, 6, 7] rfl rfl rfl rfl ⟨Nat.zero_le _, Nat.zero_le _⟩ (fun H locs hP hD hS => ?_)
  obtain ⟨hi_19, hf⟩ := ix_of hf
  refine va_iast hx hb hK.1 hP (hD0.addr rfl) hS 1 0 rfl rfl hi_19 dX6_log_77 (fun H locs hP hD hS => ?_)
  obtain ⟨al_20, eal_20⟩ : ∃ g : Nat → Int32, g = upd al_16 (286 : Int32).toNatClampNeg r_17 := ⟨_, rfl⟩
  replace hf := nm_of eal_20 hf
  have hP : va_P X.1 vwCl (wMo X mo al_20 sv sm asd th ho fr txt tl pos od nu su) H := by rw [eal_20]; exact hP
  refine lv_aload_n hx hb dX6_log_78 rfl (lv_at hl 0 rfl) ?_
  refine va_get (D := X.1) (ci := 6) (v := .ref (mo 1)) (C := RX6) (T := TX6) (N := 13) hx hb hts hiX6 hown hK.1 hP 0 rfl rfl 0 (by decide) k7 (fun _ h9 => h9) rfl dX6_log_79 ?_
  refine lv_bipush (v := 6) hx hb dX6_log_82 (by decide) ?_
  refine lv_dup2_11 hx hb dX6_log_84 rfl rfl ?_
  obtain ⟨hi_21, hf⟩ := ix_of hf
  refine va_iald hx hb hK.1 hP 1 0 rfl rfl hi_21 dX6_log_85 ?_
  refine lv_aload_n hx hb dX6_log_86 rfl (lv_at hl 0 rfl) ?_
  refine va_get (D := X.1) (ci := 6) (v := .ref (mo 1)) (C := RX6) (T := TX6) (N := 13) hx hb hts hiX6 hown hK.1 hP 0 rfl rfl 0 (by decide) k7 (fun _ h9 => h9) rfl dX6_log_87 ?_
  refine lv_bipush (v := 6) hx hb dX6_log_90 (by decide) ?_
  obtain ⟨hi_22, hf⟩ := ix_of hf
  refine va_iald hx hb hK.1 hP 1 0 rfl rfl hi_22 dX6_log_92 ?_
  refine lv_bipush (v := 12) hx hb dX6_log_93 (by decide) ?_
  refine lv_icmp_ge (tgt := 102) hx hb dX6_log_95 (by decide) (fun c_23 => ?_) (fun c_23 => ?_)
  · replace hf := fp_t c_23 hf
    refine lv_iconst (v := 0) hx hb dX6_log_102 (by decide) ?_
    refine lv_iadd hx hb dX6_log_103 ?_
    refine lv_topi (fun v_24 ev_24 => ?_)
    replace hf := nm_of ev_24 hf
    obtain ⟨hi_25, hf⟩ := ix_of hf
    refine va_iast hx hb hK.1 hP (hD0.addr rfl) hS 1 0 rfl rfl hi_25 dX6_log_104 (fun H locs hP hD hS => ?_)
    obtain ⟨al_26, eal_26⟩ : ∃ g : Nat → Int32, g = upd al_20 (6 : Int32).toNatClampNeg v_24 := ⟨_, rfl⟩
    replace hf := nm_of eal_26 hf
    have hP : va_P X.1 vwCl (wMo X mo al_26 sv sm asd th ho fr txt tl pos od nu su) H := by rw [eal_26]; exact hP
    cases hf
    exact fn_vret hx hb hr hlocks hP hS dX6_log_105
  · replace hf := fp_f c_23 hf
    refine lv_iconst (v := 1) hx hb dX6_log_98 (by decide) ?_
    refine lv_goto (tgt := 103) hx hb dX6_log_99 (by decide) ?_
    refine lv_iadd hx hb dX6_log_103 ?_
    refine lv_topi (fun v_27 ev_27 => ?_)
    replace hf := nm_of ev_27 hf
    obtain ⟨hi_28, hf⟩ := ix_of hf
    refine va_iast hx hb hK.1 hP (hD0.addr rfl) hS 1 0 rfl rfl hi_28 dX6_log_104 (fun H locs hP hD hS => ?_)
    obtain ⟨al_29, eal_29⟩ : ∃ g : Nat → Int32, g = upd al_20 (6 : Int32).toNatClampNeg v_27 := ⟨_, rfl⟩
    replace hf := nm_of eal_29 hf
    have hP : va_P X.1 vwCl (wMo X mo al_29 sv sm asd th ho fr txt tl pos od nu su) H := by rw [eal_29]; exact hP
    cases hf
    exact fn_vret hx hb hr hlocks hP hS dX6_log_105

def f_X6_die_L4  : Nat → Int32 → Int32 → (Nat → Int32) →  Option (Int32 × (Nat → Int32))
  | 0, _, _, _ => none
  | k_ + 1, x1, x2, al =>
    ix (5 : Int32) 320 (
    if al (5 : Int32).toNatClampNeg ≤ x2 then
    (some (x1, al))
    else
    (bd (f_X6_of x2 (1 : Int32) al) (fun r_3 =>
    ix ((8 : Int32) + r_3) 320 (
    bd (f_X6_of x2 (5 : Int32) al) (fun r_6 =>
    if r_6 ≤ al ((8 : Int32) + r_3).toNatClampNeg then
    (nm (x2 + (1 : Int32)) (fun v_9 =>
    f_X6_die_L4 k_ x1 v_9 al))
    else
    (bd (f_X6_log x2 al) (fun al_10 =>
    bd (f_X6_takeOut x2 al_10) (fun al_12 =>
    nm (x1 + (1 : Int32)) (fun v_14 =>
    f_X6_die_L4 k_ v_14 x2 al_12)))))))))
def f_X6_die (al : (Nat → Int32)) : Option (Int32 × (Nat → Int32)) :=
  bd2 (f_X6_die_L4 FU (0 : Int32) (0 : Int32) al) (fun y1_15 al_16 =>
  ix (2 : Int32) 320 (
  nm ((al_16 (2 : Int32).toNatClampNeg) + y1_15) (fun v_19 =>
  ix (2 : Int32) 320 (
  nm (upd al_16 (2 : Int32).toNatClampNeg v_19) (fun al_21 =>
  some (y1_15, al_21))))))
set_option maxHeartbeats 4000000 in
set_option maxRecDepth 100000 in
theorem c_X6_die (l : Launch) (X : cx_G) (mo : (Nat → Nat)) (al : (Nat → Int32)) (sv : (Nat → Int32)) (sm : Int32) (asd : (Nat → Int32)) (th : Int32) (ho : (Nat → Int32)) (fr : (Nat → Int32)) (txt : (Nat → Int32)) (tl : Int32) (pos : Int32) (od : Int32) (nu : (Nat → Int32)) (su : Int64) (r : Int32) (al' : (Nat → Int32)) (hf : f_X6_die al = some (r, al')) : Fn l yX6_die wsX6_die ({ frames := 2, cells := 0, slots := 0, locals := 44 } : Room) X [.ref (mo 0)] (wMo X mo al sv sm asd th ho fr txt tl pos od nu su) (some (.int r)) (wMo X mo al' sv sm asd th ho fr txt tl pos od nu su) := by
  refine fn_intro (cc := cX6_die) (maxL := 3) (ret := (some .int)) (by decide) rfl rfl (Nat.le_of_ble_eq_true rfl) ?_
  intro p e s m args below meth c A ls hx hb hml hr hts hown hlocks hK hP hD0 hS hA hl
  have hown : s.vm.findClass RX6 = some m.cls := hown
  have hl : lv_has ls 3 [(0, .ref (mo 0))] := hl
  have hiX6 : ∀ w ∈ u_ws RX6 TX6 13, w ∈ wsX6_die := by decide +kernel
  have k7 := hts (.fieldLink RX6 7 "LentRightsModel" "all" "[I") (by decide +kernel)
  have loop_4 : ∀ (Q : State → Prop) (y1 : Int32) (alo : (Nat → Int32)), (∀ (H : Heap) (locs : List Loc) (ls : Array Slot), va_P X.1 vwCl (wMo X mo alo sv sm asd th ho fr txt tl pos od nu su) H → va_S A s.heap H locs → lv_has ls 3 [(0, .ref (mo 0)), (1, .int y1)] → W p l e ({ frames := 2, cells := 0, slots := 0, locals := 44 } : Room) s m args below meth c H locs 0 0 Q (F0 m 59 ls [])) → ∀ (k_ : Nat) (x1 : Int32) (x2 : Int32) (al : (Nat → Int32)) (H : Heap) (locs : List Loc) (ls : Array Slot), f_X6_die_L4 k_ x1 x2 al = some (y1, alo) → va_P X.1 vwCl (wMo X mo al sv sm asd th ho fr txt tl pos od nu su) H → va_S A s.heap H locs → lv_has ls 3 [(0, .ref (mo 0)), (1, .int x1), (2, .int x2)] → W p l e ({ frames := 2, cells := 0, slots := 0, locals := 44 } : Room) s m args below meth c H locs 0 0 Q (F0 m 4 ls []) := by
    intro Q y1 alo kx k_
    induction k_ with
    | zero => intro x1 x2 al H locs ls hf; exact nomatch (show (none : Option (Int32 × (Nat → Int32))) = some _ from hf)
    | succ k_ ih =>
      intro x1 x2 al H locs ls hf hP hS hl
      unfold f_X6_die_L4 at hf
      refine lv_iload_n hx hb dX6_die_4 rfl (lv_at hl 2 rfl) ?_
      refine lv_aload_n hx hb dX6_die_5 rfl (lv_at hl 0 rfl) ?_
      refine va_get (D := X.1) (ci := 6) (v := .ref (mo 1)) (C := RX6) (T := TX6) (N := 13) hx hb hts hiX6 hown hK.1 hP 0 rfl rfl 0 (by decide) k7 (fun _ h9 => h9) rfl dX6_die_6 ?_
      refine lv_iconst (v := 5) hx hb dX6_die_9 (by decide) ?_
      obtain ⟨hi_1, hf⟩ := ix_of hf
      refine va_iald hx hb hK.1 hP 1 0 rfl rfl hi_1 dX6_die_10 ?_
      refine lv_icmp_ge (tgt := 59) hx hb dX6_die_11 (by decide) (fun c_2 => ?_) (fun c_2 => ?_)
      · replace hf := fp_t c_2 hf
        cases hf
        exact kx _ _ _ hP hS (lv_sub hl [0, 1] rfl)
      · replace hf := fp_f c_2 hf
        refine lv_aload_n hx hb dX6_die_14 rfl (lv_at hl 0 rfl) ?_
        refine va_get (D := X.1) (ci := 6) (v := .ref (mo 1)) (C := RX6) (T := TX6) (N := 13) hx hb hts hiX6 hown hK.1 hP 0 rfl rfl 0 (by decide) k7 (fun _ h9 => h9) rfl dX6_die_15 ?_
        refine lv_bipush (v := 8) hx hb dX6_die_18 (by decide) ?_
        refine lv_aload_n hx hb dX6_die_20 rfl (lv_at hl 0 rfl) ?_
        refine lv_iload_n hx hb dX6_die_21 rfl (lv_at hl 2 rfl) ?_
        refine lv_iconst (v := 1) hx hb dX6_die_22 (by decide) ?_
        obtain ⟨r_3, hc_4, hf⟩ := bd_of hf
        refine fn_V (v := some (.int r_3)) (As := [.int x2, .int (1 : Int32)]) (rest := [.int (8 : Int32), .ref (mo 1)]) (st1 := [.int r_3, .int (8 : Int32), .ref (mo 1)]) (ws' := (wMo X mo al sv sm asd th ho fr txt tl pos od nu su)) (nL := 3) ⟨hx, hb, hml, hown, hts⟩ (c_X6_of l X mo al sv sm asd th ho fr txt tl pos od nu su x2 (1 : Int32) r_3 hc_4) (cwV 2 hts gX6_die_X6_of rfl rfl rfl (by decide +kernel) ⟨Nat.le_of_ble_eq_true rfl, Nat.le_of_ble_eq_true rfl⟩) 6 rfl rfl rfl rfl hl.1 rfl (Nat.le_of_ble_eq_true rfl) dX6_die_23 hK hP (hD0.addr rfl) hS hA [0, 1, 2, 3, 4, 5, 6, 7] rfl rfl rfl rfl ⟨Nat.zero_le _, Nat.zero_le _⟩ (fun H locs hP hD hS => ?_)
        refine lv_iadd hx hb dX6_die_26 ?_
        obtain ⟨hi_5, hf⟩ := ix_of hf
        refine va_iald hx hb hK.1 hP 1 0 rfl rfl hi_5 dX6_die_27 ?_
        refine lv_aload_n hx hb dX6_die_28 rfl (lv_at hl 0 rfl) ?_
        refine lv_iload_n hx hb dX6_die_29 rfl (lv_at hl 2 rfl) ?_
        refine lv_iconst (v := 5) hx hb dX6_die_30 (by decide) ?_
        obtain ⟨r_6, hc_7, hf⟩ := bd_of hf
        refine fn_V (v := some (.int r_6)) (As := [.int x2, .int (5 : Int32)]) (rest := [.int (al ((8 : Int32) + r_3).toNatClampNeg)]) (st1 := [.int r_6, .int (al ((8 : Int32) + r_3).toNatClampNeg)]) (ws' := (wMo X mo al sv sm asd th ho fr txt tl pos od nu su)) (nL := 3) ⟨hx, hb, hml, hown, hts⟩ (c_X6_of l X mo al sv sm asd th ho fr txt tl pos od nu su x2 (5 : Int32) r_6 hc_7) (cwV 2 hts gX6_die_X6_of rfl rfl rfl (by decide +kernel) ⟨Nat.le_of_ble_eq_true rfl, Nat.le_of_ble_eq_true rfl⟩) 6 rfl rfl rfl rfl hl.1 rfl (Nat.le_of_ble_eq_true rfl) dX6_die_31 hK hP (hD0.addr rfl) hS hA [0, 1, 2, 3, 4, 5, 6, 7] rfl rfl rfl rfl ⟨Nat.zero_le _, Nat.zero_le _⟩ (fun H locs hP hD hS => ?_)
        refine lv_icmp_ge (tgt := 53) hx hb dX6_die_34 (by decide) (fun c_8 => ?_) (fun c_8 => ?_)
        · replace hf := fp_t c_8 hf
          obtain ⟨v_9, ev_9⟩ : ∃ y : Int32, y = x2 + (1 : Int32) := ⟨_, rfl⟩
          replace hf := nm_of ev_9 hf
          refine lv_iinc (v := v_9) (lv' := [(2, .int v_9), (0, .ref (mo 0)), (1, .int x1)]) hx hb dX6_die_53 hl (k := 2) rfl (by rw [ev_9]; rfl) (by decide) rfl (fun ls hl => ?_)
          refine lv_goto (tgt := 4) hx hb dX6_die_56 (by decide) ?_
          exact ih x1 v_9 al _ _ _ hf hP hS (lv_sub hl [1, 2, 0] rfl)
        · replace hf := fp_f c_8 hf
          refine lv_aload_n hx hb dX6_die_37 rfl (lv_at hl 0 rfl) ?_
          refine lv_iload_n hx hb dX6_die_38 rfl (lv_at hl 2 rfl) ?_
          obtain ⟨al_10, hc_11, hf⟩ := bd_of hf
          refine fn_V (v := none) (As := [.int x2]) (rest := []) (st1 := []) (ws' := (wMo X mo al_10 sv sm asd th ho fr txt tl pos od nu su)) (nL := 3) ⟨hx, hb, hml, hown, hts⟩ (c_X6_log l X mo al sv sm asd th ho fr txt tl pos od nu su x2 al_10 hc_11) (cwV 1 hts gX6_die_X6_log rfl rfl rfl (by decide +kernel) ⟨Nat.le_of_ble_eq_true rfl, Nat.le_of_ble_eq_true rfl⟩) 6 rfl rfl rfl rfl hl.1 rfl (Nat.le_of_ble_eq_true rfl) dX6_die_39 hK hP (hD0.addr rfl) hS hA [0, 1, 2, 3, 4, 5, 6, 7] rfl rfl rfl rfl ⟨Nat.zero_le _, Nat.zero_le _⟩ (fun H locs hP hD hS => ?_)
          refine lv_aload_n hx hb dX6_die_42 rfl (lv_at hl 0 rfl) ?_
          refine lv_iload_n hx hb dX6_die_43 rfl (lv_at hl 2 rfl) ?_
          obtain ⟨al_12, hc_13, hf⟩ := bd_of hf
          refine fn_V (v := none) (As := [.int x2]) (rest := []) (st1 := []) (ws' := (wMo X mo al_12 sv sm asd th ho fr txt tl pos od nu su)) (nL := 3) ⟨hx, hb, hml, hown, hts⟩ (c_X6_takeOut l X mo al_10 sv sm asd th ho fr txt tl pos od nu su x2 al_12 hc_13) (cwV 1 hts gX6_die_X6_takeOut rfl rfl rfl (by decide +kernel) ⟨Nat.le_of_ble_eq_true rfl, Nat.le_of_ble_eq_true rfl⟩) 6 rfl rfl rfl rfl hl.1 rfl (Nat.le_of_ble_eq_true rfl) dX6_die_44 hK hP (hD0.addr rfl) hS hA [0, 1, 2, 3, 4, 5, 6, 7] rfl rfl rfl rfl ⟨Nat.zero_le _, Nat.zero_le _⟩ (fun H locs hP hD hS => ?_)
          obtain ⟨v_14, ev_14⟩ : ∃ y : Int32, y = x1 + (1 : Int32) := ⟨_, rfl⟩
          replace hf := nm_of ev_14 hf
          refine lv_iinc (v := v_14) (lv' := [(1, .int v_14), (0, .ref (mo 0)), (2, .int x2)]) hx hb dX6_die_47 hl (k := 1) rfl (by rw [ev_14]; rfl) (by decide) rfl (fun ls hl => ?_)
          refine lv_goto (tgt := 4) hx hb dX6_die_50 (by decide) ?_
          exact ih v_14 x2 al_12 _ _ _ hf hP hS (lv_sub hl [1, 0, 2] rfl)
  unfold f_X6_die at hf
  refine lv_iconst (v := 0) hx hb dX6_die_0 (by decide) ?_
  refine lv_istore_n (lv' := [(1, .int (0 : Int32)), (0, .ref (mo 0))]) hx hb dX6_die_1 rfl hl (by decide) rfl (fun ls hl => ?_)
  refine lv_iconst (v := 0) hx hb dX6_die_2 (by decide) ?_
  refine lv_istore_n (lv' := [(2, .int (0 : Int32)), (1, .int (0 : Int32)), (0, .ref (mo 0))]) hx hb dX6_die_3 rfl hl (by decide) rfl (fun ls hl => ?_)
  obtain ⟨y1_15, al_16, hL_17, hf⟩ := bd2_of hf
  refine loop_4 _ y1_15 al_16 (fun H locs ls hP hS hl => ?_) FU (0 : Int32) (0 : Int32) al _ _ _ hL_17 hP hS (lv_sub hl [2, 1, 0] rfl)
  refine lv_aload_n hx hb dX6_die_59 rfl (lv_at hl 0 rfl) ?_
  refine va_get (D := X.1) (ci := 6) (v := .ref (mo 1)) (C := RX6) (T := TX6) (N := 13) hx hb hts hiX6 hown hK.1 hP 0 rfl rfl 0 (by decide) k7 (fun _ h9 => h9) rfl dX6_die_60 ?_
  refine lv_iconst (v := 2) hx hb dX6_die_63 (by decide) ?_
  refine lv_dup2_11 hx hb dX6_die_64 rfl rfl ?_
  obtain ⟨hi_18, hf⟩ := ix_of hf
  refine va_iald hx hb hK.1 hP 1 0 rfl rfl hi_18 dX6_die_65 ?_
  refine lv_iload_n hx hb dX6_die_66 rfl (lv_at hl 1 rfl) ?_
  refine lv_iadd hx hb dX6_die_67 ?_
  refine lv_topi (fun v_19 ev_19 => ?_)
  replace hf := nm_of ev_19 hf
  obtain ⟨hi_20, hf⟩ := ix_of hf
  refine va_iast hx hb hK.1 hP (hD0.addr rfl) hS 1 0 rfl rfl hi_20 dX6_die_68 (fun H locs hP hD hS => ?_)
  obtain ⟨al_21, eal_21⟩ : ∃ g : Nat → Int32, g = upd al_16 (2 : Int32).toNatClampNeg v_19 := ⟨_, rfl⟩
  replace hf := nm_of eal_21 hf
  have hP : va_P X.1 vwCl (wMo X mo al_21 sv sm asd th ho fr txt tl pos od nu su) H := by rw [eal_21]; exact hP
  refine lv_iload_n hx hb dX6_die_69 rfl (lv_at hl 1 rfl) ?_
  cases hf
  exact fn_iret hx hb hr hlocks hP hS dX6_die_70

def f_X6_holds (x1 : Int32) (x2 : Int32) (ho : (Nat → Int32)) : Option (Int32) :=
  ix (((10 : Int32) * x2) + x1) 80 (
  nm (ho (((10 : Int32) * x2) + x1).toNatClampNeg) (fun v_2 =>
  some v_2))
set_option maxHeartbeats 4000000 in
set_option maxRecDepth 100000 in
theorem c_X6_holds (l : Launch) (X : cx_G) (mo : (Nat → Nat)) (al : (Nat → Int32)) (sv : (Nat → Int32)) (sm : Int32) (asd : (Nat → Int32)) (th : Int32) (ho : (Nat → Int32)) (fr : (Nat → Int32)) (txt : (Nat → Int32)) (tl : Int32) (pos : Int32) (od : Int32) (nu : (Nat → Int32)) (su : Int64) (x1 : Int32) (x2 : Int32) (r : Int32) (hf : f_X6_holds x1 x2 ho = some r) : Fn l yX6_holds wsX6_holds ({ frames := 0, cells := 0, slots := 0, locals := 0 } : Room) X [.ref (mo 0), .int x1, .int x2] (wMo X mo al sv sm asd th ho fr txt tl pos od nu su) (some (.int r)) (wMo X mo al sv sm asd th ho fr txt tl pos od nu su) := by
  refine fn_intro (cc := cX6_holds) (maxL := 3) (ret := (some .int)) (by decide) rfl rfl (Nat.le_of_ble_eq_true rfl) ?_
  intro p e s m args below meth c A ls hx hb hml hr hts hown hlocks hK hP hD0 hS hA hl
  have hown : s.vm.findClass RX6 = some m.cls := hown
  have hl : lv_has ls 3 [(0, .ref (mo 0)), (1, .int x1), (2, .int x2)] := hl
  have hiX6 : ∀ w ∈ u_ws RX6 TX6 13, w ∈ wsX6_holds := by decide +kernel
  have k19 := hts (.fieldLink RX6 19 "LentRightsModel" "holds" "[I") (by decide +kernel)
  unfold f_X6_holds at hf
  refine lv_aload_n hx hb dX6_holds_0 rfl (lv_at hl 0 rfl) ?_
  refine va_get (D := X.1) (ci := 6) (v := .ref (mo 4)) (C := RX6) (T := TX6) (N := 13) hx hb hts hiX6 hown hK.1 hP 0 rfl rfl 5 (by decide) k19 (fun _ h9 => h9) rfl dX6_holds_1 ?_
  refine lv_bipush (v := 10) hx hb dX6_holds_4 (by decide) ?_
  refine lv_iload_n hx hb dX6_holds_6 rfl (lv_at hl 2 rfl) ?_
  refine lv_imul hx hb dX6_holds_7 ?_
  refine lv_iload_n hx hb dX6_holds_8 rfl (lv_at hl 1 rfl) ?_
  refine lv_iadd hx hb dX6_holds_9 ?_
  obtain ⟨hi_1, hf⟩ := ix_of hf
  refine va_iald hx hb hK.1 hP 4 0 rfl rfl hi_1 dX6_holds_10 ?_
  refine lv_topi (fun v_2 ev_2 => ?_)
  replace hf := nm_of ev_2 hf
  cases hf
  exact fn_iret hx hb hr hlocks hP hS dX6_holds_11

def f_X6_passes (x1 : Int32) (al : (Nat → Int32)) (ho : (Nat → Int32)) : Option (Int32) :=
  bd (f_X6_of x1 (1 : Int32) al) (fun r_1 =>
  bd (f_X6_of x1 (3 : Int32) al) (fun r_3 =>
  bd (f_X6_holds r_1 r_3 ho) (fun r_5 =>
  if r_5 &&& (4 : Int32) = (0 : Int32) then
  (some (0 : Int32))
  else
  (bd (f_X6_of x1 (4 : Int32) al) (fun r_8 =>
  bd (f_X6_of x1 (3 : Int32) al) (fun r_10 =>
  bd (f_X6_mask r_10 al) (fun r_12 =>
  nm ((r_8 &&& r_5) &&& r_12) (fun v_14 =>
  some v_14))))))))
set_option maxHeartbeats 4000000 in
set_option maxRecDepth 100000 in
theorem c_X6_passes (l : Launch) (X : cx_G) (mo : (Nat → Nat)) (al : (Nat → Int32)) (sv : (Nat → Int32)) (sm : Int32) (asd : (Nat → Int32)) (th : Int32) (ho : (Nat → Int32)) (fr : (Nat → Int32)) (txt : (Nat → Int32)) (tl : Int32) (pos : Int32) (od : Int32) (nu : (Nat → Int32)) (su : Int64) (x1 : Int32) (r : Int32) (hf : f_X6_passes x1 al ho = some r) : Fn l yX6_passes wsX6_passes ({ frames := 1, cells := 0, slots := 0, locals := 22 } : Room) X [.ref (mo 0), .int x1] (wMo X mo al sv sm asd th ho fr txt tl pos od nu su) (some (.int r)) (wMo X mo al sv sm asd th ho fr txt tl pos od nu su) := by
  refine fn_intro (cc := cX6_passes) (maxL := 3) (ret := (some .int)) (by decide) rfl rfl (Nat.le_of_ble_eq_true rfl) ?_
  intro p e s m args below meth c A ls hx hb hml hr hts hown hlocks hK hP hD0 hS hA hl
  have hown : s.vm.findClass RX6 = some m.cls := hown
  have hl : lv_has ls 3 [(0, .ref (mo 0)), (1, .int x1)] := hl
  unfold f_X6_passes at hf
  refine lv_aload_n hx hb dX6_passes_0 rfl (lv_at hl 0 rfl) ?_
  refine lv_aload_n hx hb dX6_passes_1 rfl (lv_at hl 0 rfl) ?_
  refine lv_iload_n hx hb dX6_passes_2 rfl (lv_at hl 1 rfl) ?_
  refine lv_iconst (v := 1) hx hb dX6_passes_3 (by decide) ?_
  obtain ⟨r_1, hc_2, hf⟩ := bd_of hf
  refine fn_V (v := some (.int r_1)) (As := [.int x1, .int (1 : Int32)]) (rest := [.ref (mo 0)]) (st1 := [.int r_1, .ref (mo 0)]) (ws' := (wMo X mo al sv sm asd th ho fr txt tl pos od nu su)) (nL := 3) ⟨hx, hb, hml, hown, hts⟩ (c_X6_of l X mo al sv sm asd th ho fr txt tl pos od nu su x1 (1 : Int32) r_1 hc_2) (cwV 2 hts gX6_passes_X6_of rfl rfl rfl (by decide +kernel) ⟨Nat.le_of_ble_eq_true rfl, Nat.le_of_ble_eq_true rfl⟩) 6 rfl rfl rfl rfl hl.1 rfl (Nat.le_of_ble_eq_true rfl) dX6_passes_4 hK hP (hD0.addr rfl) hS hA [0, 1, 2, 3, 4, 5, 6, 7] rfl rfl rfl rfl ⟨Nat.zero_le _, Nat.zero_le _⟩ (fun H locs hP hD hS => ?_)
  refine lv_aload_n hx hb dX6_passes_7 rfl (lv_at hl 0 rfl) ?_
  refine lv_iload_n hx hb dX6_passes_8 rfl (lv_at hl 1 rfl) ?_
  refine lv_iconst (v := 3) hx hb dX6_passes_9 (by decide) ?_
  obtain ⟨r_3, hc_4, hf⟩ := bd_of hf
  refine fn_V (v := some (.int r_3)) (As := [.int x1, .int (3 : Int32)]) (rest := [.int r_1, .ref (mo 0)]) (st1 := [.int r_3, .int r_1, .ref (mo 0)]) (ws' := (wMo X mo al sv sm asd th ho fr txt tl pos od nu su)) (nL := 3) ⟨hx, hb, hml, hown, hts⟩ (c_X6_of l X mo al sv sm asd th ho fr txt tl pos od nu su x1 (3 : Int32) r_3 hc_4) (cwV 2 hts gX6_passes_X6_of rfl rfl rfl (by decide +kernel) ⟨Nat.le_of_ble_eq_true rfl, Nat.le_of_ble_eq_true rfl⟩) 6 rfl rfl rfl rfl hl.1 rfl (Nat.le_of_ble_eq_true rfl) dX6_passes_10 hK hP (hD0.addr rfl) hS hA [0, 1, 2, 3, 4, 5, 6, 7] rfl rfl rfl rfl ⟨Nat.zero_le _, Nat.zero_le _⟩ (fun H locs hP hD hS => ?_)
  obtain ⟨r_5, hc_6, hf⟩ := bd_of hf
  refine fn_V (v := some (.int r_5)) (As := [.int r_1, .int r_3]) (rest := []) (st1 := [.int r_5]) (ws' := (wMo X mo al sv sm asd th ho fr txt tl pos od nu su)) (nL := 3) ⟨hx, hb, hml, hown, hts⟩ (c_X6_holds l X mo al sv sm asd th ho fr txt tl pos od nu su r_1 r_3 r_5 hc_6) (cwV 2 hts gX6_passes_X6_holds rfl rfl rfl (by decide +kernel) ⟨Nat.le_of_ble_eq_true rfl, Nat.le_of_ble_eq_true rfl⟩) 6 rfl rfl rfl rfl hl.1 rfl (Nat.le_of_ble_eq_true rfl) dX6_passes_13 hK hP (hD0.addr rfl) hS hA [0, 1, 2, 3, 4, 5, 6, 7] rfl rfl rfl rfl ⟨Nat.zero_le _, Nat.zero_le _⟩ (fun H locs hP hD hS => ?_)
  refine lv_istore_n (lv' := [(2, .int r_5), (0, .ref (mo 0)), (1, .int x1)]) hx hb dX6_passes_16 rfl hl (by decide) rfl (fun ls hl => ?_)
  refine lv_iload_n hx hb dX6_passes_17 rfl (lv_at hl 0 rfl) ?_
  refine lv_iconst (v := 4) hx hb dX6_passes_18 (by decide) ?_
  refine lv_iand hx hb dX6_passes_19 ?_
  refine lv_if_ne (tgt := 27) hx hb dX6_passes_20 (by decide) (fun c_7 => ?_) (fun c_7 => ?_)
  · replace hf := fp_f c_7 hf
    refine lv_aload_n hx hb dX6_passes_27 rfl (lv_at hl 1 rfl) ?_
    refine lv_iload_n hx hb dX6_passes_28 rfl (lv_at hl 2 rfl) ?_
    refine lv_iconst (v := 4) hx hb dX6_passes_29 (by decide) ?_
    obtain ⟨r_8, hc_9, hf⟩ := bd_of hf
    refine fn_V (v := some (.int r_8)) (As := [.int x1, .int (4 : Int32)]) (rest := []) (st1 := [.int r_8]) (ws' := (wMo X mo al sv sm asd th ho fr txt tl pos od nu su)) (nL := 3) ⟨hx, hb, hml, hown, hts⟩ (c_X6_of l X mo al sv sm asd th ho fr txt tl pos od nu su x1 (4 : Int32) r_8 hc_9) (cwV 2 hts gX6_passes_X6_of rfl rfl rfl (by decide +kernel) ⟨Nat.le_of_ble_eq_true rfl, Nat.le_of_ble_eq_true rfl⟩) 6 rfl rfl rfl rfl hl.1 rfl (Nat.le_of_ble_eq_true rfl) dX6_passes_30 hK hP (hD0.addr rfl) hS hA [0, 1, 2, 3, 4, 5, 6, 7] rfl rfl rfl rfl ⟨Nat.zero_le _, Nat.zero_le _⟩ (fun H locs hP hD hS => ?_)
    refine lv_iload_n hx hb dX6_passes_33 rfl (lv_at hl 0 rfl) ?_
    refine lv_iand hx hb dX6_passes_34 ?_
    refine lv_aload_n hx hb dX6_passes_35 rfl (lv_at hl 1 rfl) ?_
    refine lv_aload_n hx hb dX6_passes_36 rfl (lv_at hl 1 rfl) ?_
    refine lv_iload_n hx hb dX6_passes_37 rfl (lv_at hl 2 rfl) ?_
    refine lv_iconst (v := 3) hx hb dX6_passes_38 (by decide) ?_
    obtain ⟨r_10, hc_11, hf⟩ := bd_of hf
    refine fn_V (v := some (.int r_10)) (As := [.int x1, .int (3 : Int32)]) (rest := [.ref (mo 0), .int (r_8 &&& r_5)]) (st1 := [.int r_10, .ref (mo 0), .int (r_8 &&& r_5)]) (ws' := (wMo X mo al sv sm asd th ho fr txt tl pos od nu su)) (nL := 3) ⟨hx, hb, hml, hown, hts⟩ (c_X6_of l X mo al sv sm asd th ho fr txt tl pos od nu su x1 (3 : Int32) r_10 hc_11) (cwV 2 hts gX6_passes_X6_of rfl rfl rfl (by decide +kernel) ⟨Nat.le_of_ble_eq_true rfl, Nat.le_of_ble_eq_true rfl⟩) 6 rfl rfl rfl rfl hl.1 rfl (Nat.le_of_ble_eq_true rfl) dX6_passes_39 hK hP (hD0.addr rfl) hS hA [0, 1, 2, 3, 4, 5, 6, 7] rfl rfl rfl rfl ⟨Nat.zero_le _, Nat.zero_le _⟩ (fun H locs hP hD hS => ?_)
    obtain ⟨r_12, hc_13, hf⟩ := bd_of hf
    refine fn_V (v := some (.int r_12)) (As := [.int r_10]) (rest := [.int (r_8 &&& r_5)]) (st1 := [.int r_12, .int (r_8 &&& r_5)]) (ws' := (wMo X mo al sv sm asd th ho fr txt tl pos od nu su)) (nL := 3) ⟨hx, hb, hml, hown, hts⟩ (c_X6_mask l X mo al sv sm asd th ho fr txt tl pos od nu su r_10 r_12 hc_13) (cwV 1 hts gX6_passes_X6_mask rfl rfl rfl (by decide +kernel) ⟨Nat.le_of_ble_eq_true rfl, Nat.le_of_ble_eq_true rfl⟩) 6 rfl rfl rfl rfl hl.1 rfl (Nat.le_of_ble_eq_true rfl) dX6_passes_42 hK hP (hD0.addr rfl) hS hA [0, 1, 2, 3, 4, 5, 6, 7] rfl rfl rfl rfl ⟨Nat.zero_le _, Nat.zero_le _⟩ (fun H locs hP hD hS => ?_)
    refine lv_iand hx hb dX6_passes_45 ?_
    refine lv_topi (fun v_14 ev_14 => ?_)
    replace hf := nm_of ev_14 hf
    cases hf
    exact fn_iret hx hb hr hlocks hP hS dX6_passes_46
  · replace hf := fp_t c_7 hf
    refine lv_iconst (v := 0) hx hb dX6_passes_23 (by decide) ?_
    refine lv_goto (tgt := 46) hx hb dX6_passes_24 (by decide) ?_
    cases hf
    exact fn_iret hx hb hr hlocks hP hS dX6_passes_46

def f_X6_lay_L66 (al : (Nat → Int32)) : Nat → Int32 → Int32 → (Nat → Int32) →  Option (Int32 × (Nat → Int32))
  | 0, _, _, _ => none
  | k_ + 1, x1, x2, ho =>
    ix (5 : Int32) 320 (
    if al (5 : Int32).toNatClampNeg ≤ x2 then
    (some (x1, ho))
    else
    (bd (f_X6_of x2 (3 : Int32) al) (fun r_3 =>
    bd (f_X6_of x2 (2 : Int32) al) (fun r_5 =>
    nm (((10 : Int32) * r_3) + r_5) (fun v_7 =>
    ix v_7 80 (
    bd (f_X6_passes x2 al ho) (fun r_9 =>
    nm ((ho v_7.toNatClampNeg) ||| r_9) (fun v_11 =>
    if x1 = (0 : Int32) then
    (ix v_7 80 (
    if v_11 = ho v_7.toNatClampNeg then
    (ix v_7 80 (
    nm (upd ho v_7.toNatClampNeg v_11) (fun ho_19 =>
    nm (x2 + (1 : Int32)) (fun v_20 =>
    f_X6_lay_L66 al k_ (0 : Int32) v_20 ho_19))))
    else
    (ix v_7 80 (
    nm (upd ho v_7.toNatClampNeg v_11) (fun ho_22 =>
    nm (x2 + (1 : Int32)) (fun v_23 =>
    f_X6_lay_L66 al k_ (1 : Int32) v_23 ho_22))))))
    else
    (ix v_7 80 (
    nm (upd ho v_7.toNatClampNeg v_11) (fun ho_14 =>
    nm (x2 + (1 : Int32)) (fun v_15 =>
    f_X6_lay_L66 al k_ (1 : Int32) v_15 ho_14))))))))))))
def f_X6_lay_L58 (al : (Nat → Int32)) : Nat → Int32 → (Nat → Int32) →  Option ((Nat → Int32))
  | 0, _, _ => none
  | k_ + 1, x1, ho =>
    if x1 = (0 : Int32) then
    (some ho)
    else
    (bd2 (f_X6_lay_L66 al FU (0 : Int32) (0 : Int32) ho) (fun y1_25 ho_26 =>
    f_X6_lay_L58 al k_ y1_25 ho_26))
def f_X6_lay_L23 (al : (Nat → Int32)) : Nat → Int32 → (Nat → Int32) →  Option ((Nat → Int32))
  | 0, _, _ => none
  | k_ + 1, x1, ho =>
    ix (4 : Int32) 320 (
    if al (4 : Int32).toNatClampNeg ≤ x1 then
    (some ho)
    else
    (bd (f_X6_owner x1 al) (fun r_30 =>
    ix (((10 : Int32) * x1) + r_30) 80 (
    nm (upd ho (((10 : Int32) * x1) + r_30).toNatClampNeg (7 : Int32)) (fun ho_33 =>
    nm (x1 + (1 : Int32)) (fun v_34 =>
    f_X6_lay_L23 al k_ v_34 ho_33))))))
def f_X6_lay_L2  : Nat → Int32 → (Nat → Int32) →  Option ((Nat → Int32))
  | 0, _, _ => none
  | k_ + 1, x1, ho =>
    if (80 : Int32) ≤ x1 then
    (some ho)
    else
    (ix x1 80 (
    nm (upd ho x1.toNatClampNeg (0 : Int32)) (fun ho_37 =>
    nm (x1 + (1 : Int32)) (fun v_38 =>
    f_X6_lay_L2 k_ v_38 ho_37))))
def f_X6_lay (al : (Nat → Int32)) (ho : (Nat → Int32)) : Option ((Nat → Int32)) :=
  bd (f_X6_lay_L2 FU (0 : Int32) ho) (fun ho_39 =>
  bd (f_X6_lay_L23 al FU (0 : Int32) ho_39) (fun ho_41 =>
  bd (f_X6_lay_L58 al FU (1 : Int32) ho_41) (fun ho_43 =>
  some ho_43)))
set_option maxHeartbeats 4000000 in
set_option maxRecDepth 100000 in
theorem c_X6_lay (l : Launch) (X : cx_G) (mo : (Nat → Nat)) (al : (Nat → Int32)) (sv : (Nat → Int32)) (sm : Int32) (asd : (Nat → Int32)) (th : Int32) (ho : (Nat → Int32)) (fr : (Nat → Int32)) (txt : (Nat → Int32)) (tl : Int32) (pos : Int32) (od : Int32) (nu : (Nat → Int32)) (su : Int64) (ho' : (Nat → Int32)) (hf : f_X6_lay al ho = some ho') : Fn l yX6_lay wsX6_lay ({ frames := 2, cells := 0, slots := 0, locals := 44 } : Room) X [.ref (mo 0)] (wMo X mo al sv sm asd th ho fr txt tl pos od nu su) none (wMo X mo al sv sm asd th ho' fr txt tl pos od nu su) := by
  refine fn_intro (cc := cX6_lay) (maxL := 5) (ret := none) (by decide) rfl rfl (Nat.le_of_ble_eq_true rfl) ?_
  intro p e s m args below meth c A ls hx hb hml hr hts hown hlocks hK hP hD0 hS hA hl
  have hown : s.vm.findClass RX6 = some m.cls := hown
  have hl : lv_has ls 5 [(0, .ref (mo 0))] := hl
  have hiX6 : ∀ w ∈ u_ws RX6 TX6 13, w ∈ wsX6_lay := by decide +kernel
  have k7 := hts (.fieldLink RX6 7 "LentRightsModel" "all" "[I") (by decide +kernel)
  have k19 := hts (.fieldLink RX6 19 "LentRightsModel" "holds" "[I") (by decide +kernel)
  have loop_66 : ∀ (Q : State → Prop) (y1 : Int32) (hoo : (Nat → Int32)), (∀ (H : Heap) (locs : List Loc) (ls : Array Slot), va_P X.1 vwCl (wMo X mo al sv sm asd th hoo fr txt tl pos od nu su) H → va_S A s.heap H locs → lv_has ls 5 [(0, .ref (mo 0)), (1, .int y1)] → W p l e ({ frames := 2, cells := 0, slots := 0, locals := 44 } : Room) s m args below meth c H locs 0 0 Q (F0 m 142 ls [])) → ∀ (k_ : Nat) (x1 : Int32) (x2 : Int32) (ho : (Nat → Int32)) (H : Heap) (locs : List Loc) (ls : Array Slot), f_X6_lay_L66 al k_ x1 x2 ho = some (y1, hoo) → va_P X.1 vwCl (wMo X mo al sv sm asd th ho fr txt tl pos od nu su) H → va_S A s.heap H locs → lv_has ls 5 [(0, .ref (mo 0)), (1, .int x1), (2, .int x2)] → W p l e ({ frames := 2, cells := 0, slots := 0, locals := 44 } : Room) s m args below meth c H locs 0 0 Q (F0 m 66 ls []) := by
    intro Q y1 hoo kx k_
    induction k_ with
    | zero => intro x1 x2 ho H locs ls hf; exact nomatch (show (none : Option (Int32 × (Nat → Int32))) = some _ from hf)
    | succ k_ ih =>
      intro x1 x2 ho H locs ls hf hP hS hl
      unfold f_X6_lay_L66 at hf
      refine lv_iload_n hx hb dX6_lay_66 rfl (lv_at hl 2 rfl) ?_
      refine lv_aload_n hx hb dX6_lay_67 rfl (lv_at hl 0 rfl) ?_
      refine va_get (D := X.1) (ci := 6) (v := .ref (mo 1)) (C := RX6) (T := TX6) (N := 13) hx hb hts hiX6 hown hK.1 hP 0 rfl rfl 0 (by decide) k7 (fun _ h9 => h9) rfl dX6_lay_68 ?_
      refine lv_iconst (v := 5) hx hb dX6_lay_71 (by decide) ?_
      obtain ⟨hi_1, hf⟩ := ix_of hf
      refine va_iald hx hb hK.1 hP 1 0 rfl rfl hi_1 dX6_lay_72 ?_
      refine lv_icmp_ge (tgt := 142) hx hb dX6_lay_73 (by decide) (fun c_2 => ?_) (fun c_2 => ?_)
      · replace hf := fp_t c_2 hf
        cases hf
        exact kx _ _ _ hP hS (lv_sub hl [0, 1] rfl)
      · replace hf := fp_f c_2 hf
        refine lv_bipush (v := 10) hx hb dX6_lay_76 (by decide) ?_
        refine lv_aload_n hx hb dX6_lay_78 rfl (lv_at hl 0 rfl) ?_
        refine lv_iload_n hx hb dX6_lay_79 rfl (lv_at hl 2 rfl) ?_
        refine lv_iconst (v := 3) hx hb dX6_lay_80 (by decide) ?_
        obtain ⟨r_3, hc_4, hf⟩ := bd_of hf
        refine fn_V (v := some (.int r_3)) (As := [.int x2, .int (3 : Int32)]) (rest := [.int (10 : Int32)]) (st1 := [.int r_3, .int (10 : Int32)]) (ws' := (wMo X mo al sv sm asd th ho fr txt tl pos od nu su)) (nL := 5) ⟨hx, hb, hml, hown, hts⟩ (c_X6_of l X mo al sv sm asd th ho fr txt tl pos od nu su x2 (3 : Int32) r_3 hc_4) (cwV 2 hts gX6_lay_X6_of rfl rfl rfl (by decide +kernel) ⟨Nat.le_of_ble_eq_true rfl, Nat.le_of_ble_eq_true rfl⟩) 6 rfl rfl rfl rfl hl.1 rfl (Nat.le_of_ble_eq_true rfl) dX6_lay_81 hK hP (hD0.addr rfl) hS hA [0, 1, 2, 3, 4, 5, 6, 7] rfl rfl rfl rfl ⟨Nat.zero_le _, Nat.zero_le _⟩ (fun H locs hP hD hS => ?_)
        refine lv_imul hx hb dX6_lay_84 ?_
        refine lv_aload_n hx hb dX6_lay_85 rfl (lv_at hl 0 rfl) ?_
        refine lv_iload_n hx hb dX6_lay_86 rfl (lv_at hl 2 rfl) ?_
        refine lv_iconst (v := 2) hx hb dX6_lay_87 (by decide) ?_
        obtain ⟨r_5, hc_6, hf⟩ := bd_of hf
        refine fn_V (v := some (.int r_5)) (As := [.int x2, .int (2 : Int32)]) (rest := [.int ((10 : Int32) * r_3)]) (st1 := [.int r_5, .int ((10 : Int32) * r_3)]) (ws' := (wMo X mo al sv sm asd th ho fr txt tl pos od nu su)) (nL := 5) ⟨hx, hb, hml, hown, hts⟩ (c_X6_of l X mo al sv sm asd th ho fr txt tl pos od nu su x2 (2 : Int32) r_5 hc_6) (cwV 2 hts gX6_lay_X6_of rfl rfl rfl (by decide +kernel) ⟨Nat.le_of_ble_eq_true rfl, Nat.le_of_ble_eq_true rfl⟩) 6 rfl rfl rfl rfl hl.1 rfl (Nat.le_of_ble_eq_true rfl) dX6_lay_88 hK hP (hD0.addr rfl) hS hA [0, 1, 2, 3, 4, 5, 6, 7] rfl rfl rfl rfl ⟨Nat.zero_le _, Nat.zero_le _⟩ (fun H locs hP hD hS => ?_)
        refine lv_iadd hx hb dX6_lay_91 ?_
        refine lv_topi (fun v_7 ev_7 => ?_)
        replace hf := nm_of ev_7 hf
        refine lv_istore_n (lv' := [(3, .int v_7), (0, .ref (mo 0)), (1, .int x1), (2, .int x2)]) hx hb dX6_lay_92 rfl hl (by decide) rfl (fun ls hl => ?_)
        refine lv_aload_n hx hb dX6_lay_93 rfl (lv_at hl 1 rfl) ?_
        refine va_get (D := X.1) (ci := 6) (v := .ref (mo 4)) (C := RX6) (T := TX6) (N := 13) hx hb hts hiX6 hown hK.1 hP 0 rfl rfl 5 (by decide) k19 (fun _ h9 => h9) rfl dX6_lay_94 ?_
        refine lv_iload_n hx hb dX6_lay_97 rfl (lv_at hl 0 rfl) ?_
        obtain ⟨hi_8, hf⟩ := ix_of hf
        refine va_iald hx hb hK.1 hP 4 0 rfl rfl hi_8 dX6_lay_98 ?_
        refine lv_aload_n hx hb dX6_lay_99 rfl (lv_at hl 1 rfl) ?_
        refine lv_iload_n hx hb dX6_lay_100 rfl (lv_at hl 3 rfl) ?_
        obtain ⟨r_9, hc_10, hf⟩ := bd_of hf
        refine fn_V (v := some (.int r_9)) (As := [.int x2]) (rest := [.int (ho v_7.toNatClampNeg)]) (st1 := [.int r_9, .int (ho v_7.toNatClampNeg)]) (ws' := (wMo X mo al sv sm asd th ho fr txt tl pos od nu su)) (nL := 5) ⟨hx, hb, hml, hown, hts⟩ (c_X6_passes l X mo al sv sm asd th ho fr txt tl pos od nu su x2 r_9 hc_10) (cwV 1 hts gX6_lay_X6_passes rfl rfl rfl (by decide +kernel) ⟨Nat.le_of_ble_eq_true rfl, Nat.le_of_ble_eq_true rfl⟩) 6 rfl rfl rfl rfl hl.1 rfl (Nat.le_of_ble_eq_true rfl) dX6_lay_101 hK hP (hD0.addr rfl) hS hA [0, 1, 2, 3, 4, 5, 6, 7] rfl rfl rfl rfl ⟨Nat.zero_le _, Nat.zero_le _⟩ (fun H locs hP hD hS => ?_)
        refine lv_ior hx hb dX6_lay_104 ?_
        refine lv_topi (fun v_11 ev_11 => ?_)
        replace hf := nm_of ev_11 hf
        refine lv_istore (lv' := [(4, .int v_11), (3, .int v_7), (0, .ref (mo 0)), (1, .int x1), (2, .int x2)]) hx hb dX6_lay_105 hl (by decide) rfl (fun ls hl => ?_)
        refine lv_iload_n hx hb dX6_lay_107 rfl (lv_at hl 3 rfl) ?_
        refine lv_if_ne (tgt := 122) hx hb dX6_lay_108 (by decide) (fun c_12 => ?_) (fun c_12 => ?_)
        · replace hf := fp_f c_12 hf
          refine lv_iconst (v := 1) hx hb dX6_lay_122 (by decide) ?_
          refine lv_goto (tgt := 127) hx hb dX6_lay_123 (by decide) ?_
          refine lv_istore_n (lv' := [(1, .int (1 : Int32)), (4, .int v_11), (3, .int v_7), (0, .ref (mo 0)), (2, .int x2)]) hx hb dX6_lay_127 rfl hl (by decide) rfl (fun ls hl => ?_)
          refine lv_aload_n hx hb dX6_lay_128 rfl (lv_at hl 3 rfl) ?_
          refine va_get (D := X.1) (ci := 6) (v := .ref (mo 4)) (C := RX6) (T := TX6) (N := 13) hx hb hts hiX6 hown hK.1 hP 0 rfl rfl 5 (by decide) k19 (fun _ h9 => h9) rfl dX6_lay_129 ?_
          refine lv_iload_n hx hb dX6_lay_132 rfl (lv_at hl 2 rfl) ?_
          refine lv_iload hx hb dX6_lay_133 (lv_at hl 1 rfl) ?_
          obtain ⟨hi_13, hf⟩ := ix_of hf
          refine va_iast hx hb hK.1 hP (hD0.addr rfl) hS 4 0 rfl rfl hi_13 dX6_lay_135 (fun H locs hP hD hS => ?_)
          obtain ⟨ho_14, eho_14⟩ : ∃ g : Nat → Int32, g = upd ho v_7.toNatClampNeg v_11 := ⟨_, rfl⟩
          replace hf := nm_of eho_14 hf
          have hP : va_P X.1 vwCl (wMo X mo al sv sm asd th ho_14 fr txt tl pos od nu su) H := by rw [eho_14]; exact hP
          obtain ⟨v_15, ev_15⟩ : ∃ y : Int32, y = x2 + (1 : Int32) := ⟨_, rfl⟩
          replace hf := nm_of ev_15 hf
          refine lv_iinc (v := v_15) (lv' := [(2, .int v_15), (1, .int (1 : Int32)), (4, .int v_11), (3, .int v_7), (0, .ref (mo 0))]) hx hb dX6_lay_136 hl (k := 4) rfl (by rw [ev_15]; rfl) (by decide) rfl (fun ls hl => ?_)
          refine lv_goto (tgt := 66) hx hb dX6_lay_139 (by decide) ?_
          exact ih (1 : Int32) v_15 ho_14 _ _ _ hf hP hS (lv_sub hl [4, 1, 0] rfl)
        · replace hf := fp_t c_12 hf
          refine lv_iload hx hb dX6_lay_111 (lv_at hl 0 rfl) ?_
          refine lv_aload_n hx hb dX6_lay_113 rfl (lv_at hl 2 rfl) ?_
          refine va_get (D := X.1) (ci := 6) (v := .ref (mo 4)) (C := RX6) (T := TX6) (N := 13) hx hb hts hiX6 hown hK.1 hP 0 rfl rfl 5 (by decide) k19 (fun _ h9 => h9) rfl dX6_lay_114 ?_
          refine lv_iload_n hx hb dX6_lay_117 rfl (lv_at hl 1 rfl) ?_
          obtain ⟨hi_16, hf⟩ := ix_of hf
          refine va_iald hx hb hK.1 hP 4 0 rfl rfl hi_16 dX6_lay_118 ?_
          refine lv_icmp_eq (tgt := 126) hx hb dX6_lay_119 (by decide) (fun c_17 => ?_) (fun c_17 => ?_)
          · replace hf := fp_t c_17 hf
            refine lv_iconst (v := 0) hx hb dX6_lay_126 (by decide) ?_
            refine lv_istore_n (lv' := [(1, .int (0 : Int32)), (4, .int v_11), (3, .int v_7), (0, .ref (mo 0)), (2, .int x2)]) hx hb dX6_lay_127 rfl hl (by decide) rfl (fun ls hl => ?_)
            refine lv_aload_n hx hb dX6_lay_128 rfl (lv_at hl 3 rfl) ?_
            refine va_get (D := X.1) (ci := 6) (v := .ref (mo 4)) (C := RX6) (T := TX6) (N := 13) hx hb hts hiX6 hown hK.1 hP 0 rfl rfl 5 (by decide) k19 (fun _ h9 => h9) rfl dX6_lay_129 ?_
            refine lv_iload_n hx hb dX6_lay_132 rfl (lv_at hl 2 rfl) ?_
            refine lv_iload hx hb dX6_lay_133 (lv_at hl 1 rfl) ?_
            obtain ⟨hi_18, hf⟩ := ix_of hf
            refine va_iast hx hb hK.1 hP (hD0.addr rfl) hS 4 0 rfl rfl hi_18 dX6_lay_135 (fun H locs hP hD hS => ?_)
            obtain ⟨ho_19, eho_19⟩ : ∃ g : Nat → Int32, g = upd ho v_7.toNatClampNeg v_11 := ⟨_, rfl⟩
            replace hf := nm_of eho_19 hf
            have hP : va_P X.1 vwCl (wMo X mo al sv sm asd th ho_19 fr txt tl pos od nu su) H := by rw [eho_19]; exact hP
            obtain ⟨v_20, ev_20⟩ : ∃ y : Int32, y = x2 + (1 : Int32) := ⟨_, rfl⟩
            replace hf := nm_of ev_20 hf
            refine lv_iinc (v := v_20) (lv' := [(2, .int v_20), (1, .int (0 : Int32)), (4, .int v_11), (3, .int v_7), (0, .ref (mo 0))]) hx hb dX6_lay_136 hl (k := 4) rfl (by rw [ev_20]; rfl) (by decide) rfl (fun ls hl => ?_)
            refine lv_goto (tgt := 66) hx hb dX6_lay_139 (by decide) ?_
            exact ih (0 : Int32) v_20 ho_19 _ _ _ hf hP hS (lv_sub hl [4, 1, 0] rfl)
          · replace hf := fp_f c_17 hf
            refine lv_iconst (v := 1) hx hb dX6_lay_122 (by decide) ?_
            refine lv_goto (tgt := 127) hx hb dX6_lay_123 (by decide) ?_
            refine lv_istore_n (lv' := [(1, .int (1 : Int32)), (4, .int v_11), (3, .int v_7), (0, .ref (mo 0)), (2, .int x2)]) hx hb dX6_lay_127 rfl hl (by decide) rfl (fun ls hl => ?_)
            refine lv_aload_n hx hb dX6_lay_128 rfl (lv_at hl 3 rfl) ?_
            refine va_get (D := X.1) (ci := 6) (v := .ref (mo 4)) (C := RX6) (T := TX6) (N := 13) hx hb hts hiX6 hown hK.1 hP 0 rfl rfl 5 (by decide) k19 (fun _ h9 => h9) rfl dX6_lay_129 ?_
            refine lv_iload_n hx hb dX6_lay_132 rfl (lv_at hl 2 rfl) ?_
            refine lv_iload hx hb dX6_lay_133 (lv_at hl 1 rfl) ?_
            obtain ⟨hi_21, hf⟩ := ix_of hf
            refine va_iast hx hb hK.1 hP (hD0.addr rfl) hS 4 0 rfl rfl hi_21 dX6_lay_135 (fun H locs hP hD hS => ?_)
            obtain ⟨ho_22, eho_22⟩ : ∃ g : Nat → Int32, g = upd ho v_7.toNatClampNeg v_11 := ⟨_, rfl⟩
            replace hf := nm_of eho_22 hf
            have hP : va_P X.1 vwCl (wMo X mo al sv sm asd th ho_22 fr txt tl pos od nu su) H := by rw [eho_22]; exact hP
            obtain ⟨v_23, ev_23⟩ : ∃ y : Int32, y = x2 + (1 : Int32) := ⟨_, rfl⟩
            replace hf := nm_of ev_23 hf
            refine lv_iinc (v := v_23) (lv' := [(2, .int v_23), (1, .int (1 : Int32)), (4, .int v_11), (3, .int v_7), (0, .ref (mo 0))]) hx hb dX6_lay_136 hl (k := 4) rfl (by rw [ev_23]; rfl) (by decide) rfl (fun ls hl => ?_)
            refine lv_goto (tgt := 66) hx hb dX6_lay_139 (by decide) ?_
            exact ih (1 : Int32) v_23 ho_22 _ _ _ hf hP hS (lv_sub hl [4, 1, 0] rfl)
  have loop_58 : ∀ (Q : State → Prop) (hoo : (Nat → Int32)), (∀ (H : Heap) (locs : List Loc) (ls : Array Slot), va_P X.1 vwCl (wMo X mo al sv sm asd th hoo fr txt tl pos od nu su) H → va_S A s.heap H locs → lv_has ls 5 [] → W p l e ({ frames := 2, cells := 0, slots := 0, locals := 44 } : Room) s m args below meth c H locs 0 0 Q (F0 m 145 ls [])) → ∀ (k_ : Nat) (x1 : Int32) (ho : (Nat → Int32)) (H : Heap) (locs : List Loc) (ls : Array Slot), f_X6_lay_L58 al k_ x1 ho = some hoo → va_P X.1 vwCl (wMo X mo al sv sm asd th ho fr txt tl pos od nu su) H → va_S A s.heap H locs → lv_has ls 5 [(0, .ref (mo 0)), (1, .int x1)] → W p l e ({ frames := 2, cells := 0, slots := 0, locals := 44 } : Room) s m args below meth c H locs 0 0 Q (F0 m 58 ls []) := by
    intro Q hoo kx k_
    induction k_ with
    | zero => intro x1 ho H locs ls hf; exact nomatch (show (none : Option ((Nat → Int32))) = some _ from hf)
    | succ k_ ih =>
      intro x1 ho H locs ls hf hP hS hl
      unfold f_X6_lay_L58 at hf
      refine lv_iload_n hx hb dX6_lay_58 rfl (lv_at hl 1 rfl) ?_
      refine lv_if_eq (tgt := 145) hx hb dX6_lay_59 (by decide) (fun c_24 => ?_) (fun c_24 => ?_)
      · replace hf := fp_t c_24 hf
        cases hf
        exact kx _ _ _ hP hS (lv_sub hl [] rfl)
      · replace hf := fp_f c_24 hf
        refine lv_iconst (v := 0) hx hb dX6_lay_62 (by decide) ?_
        refine lv_istore_n (lv' := [(1, .int (0 : Int32)), (0, .ref (mo 0))]) hx hb dX6_lay_63 rfl hl (by decide) rfl (fun ls hl => ?_)
        refine lv_iconst (v := 0) hx hb dX6_lay_64 (by decide) ?_
        refine lv_istore_n (lv' := [(2, .int (0 : Int32)), (1, .int (0 : Int32)), (0, .ref (mo 0))]) hx hb dX6_lay_65 rfl hl (by decide) rfl (fun ls hl => ?_)
        obtain ⟨y1_25, ho_26, hL_27, hf⟩ := bd2_of hf
        refine loop_66 _ y1_25 ho_26 (fun H locs ls hP hS hl => ?_) FU (0 : Int32) (0 : Int32) ho _ _ _ hL_27 hP hS (lv_sub hl [2, 1, 0] rfl)
        refine lv_goto (tgt := 58) hx hb dX6_lay_142 (by decide) ?_
        exact ih y1_25 ho_26 _ _ _ hf hP hS (lv_sub hl [0, 1] rfl)
  have loop_23 : ∀ (Q : State → Prop) (hoo : (Nat → Int32)), (∀ (H : Heap) (locs : List Loc) (ls : Array Slot), va_P X.1 vwCl (wMo X mo al sv sm asd th hoo fr txt tl pos od nu su) H → va_S A s.heap H locs → lv_has ls 5 [(0, .ref (mo 0))] → W p l e ({ frames := 2, cells := 0, slots := 0, locals := 44 } : Room) s m args below meth c H locs 0 0 Q (F0 m 56 ls [])) → ∀ (k_ : Nat) (x1 : Int32) (ho : (Nat → Int32)) (H : Heap) (locs : List Loc) (ls : Array Slot), f_X6_lay_L23 al k_ x1 ho = some hoo → va_P X.1 vwCl (wMo X mo al sv sm asd th ho fr txt tl pos od nu su) H → va_S A s.heap H locs → lv_has ls 5 [(0, .ref (mo 0)), (1, .int x1)] → W p l e ({ frames := 2, cells := 0, slots := 0, locals := 44 } : Room) s m args below meth c H locs 0 0 Q (F0 m 23 ls []) := by
    intro Q hoo kx k_
    induction k_ with
    | zero => intro x1 ho H locs ls hf; exact nomatch (show (none : Option ((Nat → Int32))) = some _ from hf)
    | succ k_ ih =>
      intro x1 ho H locs ls hf hP hS hl
      unfold f_X6_lay_L23 at hf
      refine lv_iload_n hx hb dX6_lay_23 rfl (lv_at hl 1 rfl) ?_
      refine lv_aload_n hx hb dX6_lay_24 rfl (lv_at hl 0 rfl) ?_
      refine va_get (D := X.1) (ci := 6) (v := .ref (mo 1)) (C := RX6) (T := TX6) (N := 13) hx hb hts hiX6 hown hK.1 hP 0 rfl rfl 0 (by decide) k7 (fun _ h9 => h9) rfl dX6_lay_25 ?_
      refine lv_iconst (v := 4) hx hb dX6_lay_28 (by decide) ?_
      obtain ⟨hi_28, hf⟩ := ix_of hf
      refine va_iald hx hb hK.1 hP 1 0 rfl rfl hi_28 dX6_lay_29 ?_
      refine lv_icmp_ge (tgt := 56) hx hb dX6_lay_30 (by decide) (fun c_29 => ?_) (fun c_29 => ?_)
      · replace hf := fp_t c_29 hf
        cases hf
        exact kx _ _ _ hP hS (lv_sub hl [0] rfl)
      · replace hf := fp_f c_29 hf
        refine lv_aload_n hx hb dX6_lay_33 rfl (lv_at hl 0 rfl) ?_
        refine va_get (D := X.1) (ci := 6) (v := .ref (mo 4)) (C := RX6) (T := TX6) (N := 13) hx hb hts hiX6 hown hK.1 hP 0 rfl rfl 5 (by decide) k19 (fun _ h9 => h9) rfl dX6_lay_34 ?_
        refine lv_bipush (v := 10) hx hb dX6_lay_37 (by decide) ?_
        refine lv_iload_n hx hb dX6_lay_39 rfl (lv_at hl 1 rfl) ?_
        refine lv_imul hx hb dX6_lay_40 ?_
        refine lv_aload_n hx hb dX6_lay_41 rfl (lv_at hl 0 rfl) ?_
        refine lv_iload_n hx hb dX6_lay_42 rfl (lv_at hl 1 rfl) ?_
        obtain ⟨r_30, hc_31, hf⟩ := bd_of hf
        refine fn_V (v := some (.int r_30)) (As := [.int x1]) (rest := [.int ((10 : Int32) * x1), .ref (mo 4)]) (st1 := [.int r_30, .int ((10 : Int32) * x1), .ref (mo 4)]) (ws' := (wMo X mo al sv sm asd th ho fr txt tl pos od nu su)) (nL := 5) ⟨hx, hb, hml, hown, hts⟩ (c_X6_owner l X mo al sv sm asd th ho fr txt tl pos od nu su x1 r_30 hc_31) (cwV 1 hts gX6_lay_X6_owner rfl rfl rfl (by decide +kernel) ⟨Nat.le_of_ble_eq_true rfl, Nat.le_of_ble_eq_true rfl⟩) 6 rfl rfl rfl rfl hl.1 rfl (Nat.le_of_ble_eq_true rfl) dX6_lay_43 hK hP (hD0.addr rfl) hS hA [0, 1, 2, 3, 4, 5, 6, 7] rfl rfl rfl rfl ⟨Nat.zero_le _, Nat.zero_le _⟩ (fun H locs hP hD hS => ?_)
        refine lv_iadd hx hb dX6_lay_46 ?_
        refine lv_bipush (v := 7) hx hb dX6_lay_47 (by decide) ?_
        obtain ⟨hi_32, hf⟩ := ix_of hf
        refine va_iast hx hb hK.1 hP (hD0.addr rfl) hS 4 0 rfl rfl hi_32 dX6_lay_49 (fun H locs hP hD hS => ?_)
        obtain ⟨ho_33, eho_33⟩ : ∃ g : Nat → Int32, g = upd ho (((10 : Int32) * x1) + r_30).toNatClampNeg (7 : Int32) := ⟨_, rfl⟩
        replace hf := nm_of eho_33 hf
        have hP : va_P X.1 vwCl (wMo X mo al sv sm asd th ho_33 fr txt tl pos od nu su) H := by rw [eho_33]; exact hP
        obtain ⟨v_34, ev_34⟩ : ∃ y : Int32, y = x1 + (1 : Int32) := ⟨_, rfl⟩
        replace hf := nm_of ev_34 hf
        refine lv_iinc (v := v_34) (lv' := [(1, .int v_34), (0, .ref (mo 0))]) hx hb dX6_lay_50 hl (k := 1) rfl (by rw [ev_34]; rfl) (by decide) rfl (fun ls hl => ?_)
        refine lv_goto (tgt := 23) hx hb dX6_lay_53 (by decide) ?_
        exact ih v_34 ho_33 _ _ _ hf hP hS (lv_sub hl [1, 0] rfl)
  have loop_2 : ∀ (Q : State → Prop) (hoo : (Nat → Int32)), (∀ (H : Heap) (locs : List Loc) (ls : Array Slot), va_P X.1 vwCl (wMo X mo al sv sm asd th hoo fr txt tl pos od nu su) H → va_S A s.heap H locs → lv_has ls 5 [(0, .ref (mo 0))] → W p l e ({ frames := 2, cells := 0, slots := 0, locals := 44 } : Room) s m args below meth c H locs 0 0 Q (F0 m 21 ls [])) → ∀ (k_ : Nat) (x1 : Int32) (ho : (Nat → Int32)) (H : Heap) (locs : List Loc) (ls : Array Slot), f_X6_lay_L2 k_ x1 ho = some hoo → va_P X.1 vwCl (wMo X mo al sv sm asd th ho fr txt tl pos od nu su) H → va_S A s.heap H locs → lv_has ls 5 [(0, .ref (mo 0)), (1, .int x1)] → W p l e ({ frames := 2, cells := 0, slots := 0, locals := 44 } : Room) s m args below meth c H locs 0 0 Q (F0 m 2 ls []) := by
    intro Q hoo kx k_
    induction k_ with
    | zero => intro x1 ho H locs ls hf; exact nomatch (show (none : Option ((Nat → Int32))) = some _ from hf)
    | succ k_ ih =>
      intro x1 ho H locs ls hf hP hS hl
      unfold f_X6_lay_L2 at hf
      refine lv_iload_n hx hb dX6_lay_2 rfl (lv_at hl 1 rfl) ?_
      refine lv_bipush (v := 80) hx hb dX6_lay_3 (by decide) ?_
      refine lv_icmp_ge (tgt := 21) hx hb dX6_lay_5 (by decide) (fun c_35 => ?_) (fun c_35 => ?_)
      · replace hf := fp_t c_35 hf
        cases hf
        exact kx _ _ _ hP hS (lv_sub hl [0] rfl)
      · replace hf := fp_f c_35 hf
        refine lv_aload_n hx hb dX6_lay_8 rfl (lv_at hl 0 rfl) ?_
        refine va_get (D := X.1) (ci := 6) (v := .ref (mo 4)) (C := RX6) (T := TX6) (N := 13) hx hb hts hiX6 hown hK.1 hP 0 rfl rfl 5 (by decide) k19 (fun _ h9 => h9) rfl dX6_lay_9 ?_
        refine lv_iload_n hx hb dX6_lay_12 rfl (lv_at hl 1 rfl) ?_
        refine lv_iconst (v := 0) hx hb dX6_lay_13 (by decide) ?_
        obtain ⟨hi_36, hf⟩ := ix_of hf
        refine va_iast hx hb hK.1 hP (hD0.addr rfl) hS 4 0 rfl rfl hi_36 dX6_lay_14 (fun H locs hP hD hS => ?_)
        obtain ⟨ho_37, eho_37⟩ : ∃ g : Nat → Int32, g = upd ho x1.toNatClampNeg (0 : Int32) := ⟨_, rfl⟩
        replace hf := nm_of eho_37 hf
        have hP : va_P X.1 vwCl (wMo X mo al sv sm asd th ho_37 fr txt tl pos od nu su) H := by rw [eho_37]; exact hP
        obtain ⟨v_38, ev_38⟩ : ∃ y : Int32, y = x1 + (1 : Int32) := ⟨_, rfl⟩
        replace hf := nm_of ev_38 hf
        refine lv_iinc (v := v_38) (lv' := [(1, .int v_38), (0, .ref (mo 0))]) hx hb dX6_lay_15 hl (k := 1) rfl (by rw [ev_38]; rfl) (by decide) rfl (fun ls hl => ?_)
        refine lv_goto (tgt := 2) hx hb dX6_lay_18 (by decide) ?_
        exact ih v_38 ho_37 _ _ _ hf hP hS (lv_sub hl [1, 0] rfl)
  unfold f_X6_lay at hf
  refine lv_iconst (v := 0) hx hb dX6_lay_0 (by decide) ?_
  refine lv_istore_n (lv' := [(1, .int (0 : Int32)), (0, .ref (mo 0))]) hx hb dX6_lay_1 rfl hl (by decide) rfl (fun ls hl => ?_)
  obtain ⟨ho_39, hL_40, hf⟩ := bd_of hf
  refine loop_2 _ ho_39 (fun H locs ls hP hS hl => ?_) FU (0 : Int32) ho _ _ _ hL_40 hP hS (lv_sub hl [1, 0] rfl)
  refine lv_iconst (v := 0) hx hb dX6_lay_21 (by decide) ?_
  refine lv_istore_n (lv' := [(1, .int (0 : Int32)), (0, .ref (mo 0))]) hx hb dX6_lay_22 rfl hl (by decide) rfl (fun ls hl => ?_)
  obtain ⟨ho_41, hL_42, hf⟩ := bd_of hf
  refine loop_23 _ ho_41 (fun H locs ls hP hS hl => ?_) FU (0 : Int32) ho_39 _ _ _ hL_42 hP hS (lv_sub hl [1, 0] rfl)
  refine lv_iconst (v := 1) hx hb dX6_lay_56 (by decide) ?_
  refine lv_istore_n (lv' := [(1, .int (1 : Int32)), (0, .ref (mo 0))]) hx hb dX6_lay_57 rfl hl (by decide) rfl (fun ls hl => ?_)
  obtain ⟨ho_43, hL_44, hf⟩ := bd_of hf
  refine loop_58 _ ho_43 (fun H locs ls hP hS hl => ?_) FU (1 : Int32) ho_41 _ _ _ hL_44 hP hS (lv_sub hl [1, 0] rfl)
  cases hf
  exact fn_vret hx hb hr hlocks hP hS dX6_lay_145

def f_X6_whoHas_L5 (x1 : Int32) (x2 : Int32) (ho : (Nat → Int32)) : Nat → Int32 → Int32 →  Option (Int32)
  | 0, _, _ => none
  | k_ + 1, x3, x4 =>
    if (10 : Int32) ≤ x4 then
    (some x3)
    else
    (bd (f_X6_holds x4 x1 ho) (fun r_2 =>
    if r_2 &&& x2 = (0 : Int32) then
    (nm (x3 ||| (0 : Int32)) (fun v_5 =>
    nm (x4 + (1 : Int32)) (fun v_6 =>
    f_X6_whoHas_L5 x1 x2 ho k_ v_5 v_6)))
    else
    (nm (x3 ||| ((1 : Int32) <<< (x4 &&& 31))) (fun v_7 =>
    nm (x4 + (1 : Int32)) (fun v_8 =>
    f_X6_whoHas_L5 x1 x2 ho k_ v_7 v_8)))))
def f_X6_whoHas (x1 : Int32) (x2 : Int32) (ho : (Nat → Int32)) : Option (Int32) :=
  bd (f_X6_whoHas_L5 x1 x2 ho FU (0 : Int32) (0 : Int32)) (fun y3_9 =>
  some y3_9)
set_option maxHeartbeats 4000000 in
set_option maxRecDepth 100000 in
theorem c_X6_whoHas (l : Launch) (X : cx_G) (mo : (Nat → Nat)) (al : (Nat → Int32)) (sv : (Nat → Int32)) (sm : Int32) (asd : (Nat → Int32)) (th : Int32) (ho : (Nat → Int32)) (fr : (Nat → Int32)) (txt : (Nat → Int32)) (tl : Int32) (pos : Int32) (od : Int32) (nu : (Nat → Int32)) (su : Int64) (x1 : Int32) (x2 : Int32) (r : Int32) (hf : f_X6_whoHas x1 x2 ho = some r) : Fn l yX6_whoHas wsX6_whoHas ({ frames := 1, cells := 0, slots := 0, locals := 22 } : Room) X [.ref (mo 0), .int x1, .int x2] (wMo X mo al sv sm asd th ho fr txt tl pos od nu su) (some (.int r)) (wMo X mo al sv sm asd th ho fr txt tl pos od nu su) := by
  refine fn_intro (cc := cX6_whoHas) (maxL := 5) (ret := (some .int)) (by decide) rfl rfl (Nat.le_of_ble_eq_true rfl) ?_
  intro p e s m args below meth c A ls hx hb hml hr hts hown hlocks hK hP hD0 hS hA hl
  have hown : s.vm.findClass RX6 = some m.cls := hown
  have hl : lv_has ls 5 [(0, .ref (mo 0)), (1, .int x1), (2, .int x2)] := hl
  have loop_5 : ∀ (Q : State → Prop) (y3 : Int32), (∀ (H : Heap) (locs : List Loc) (ls : Array Slot), va_P X.1 vwCl (wMo X mo al sv sm asd th ho fr txt tl pos od nu su) H → va_S A s.heap H locs → lv_has ls 5 [(3, .int y3)] → W p l e ({ frames := 1, cells := 0, slots := 0, locals := 22 } : Room) s m args below meth c H locs 0 0 Q (F0 m 41 ls [])) → ∀ (k_ : Nat) (x3 : Int32) (x4 : Int32) (H : Heap) (locs : List Loc) (ls : Array Slot), f_X6_whoHas_L5 x1 x2 ho k_ x3 x4 = some y3 → va_P X.1 vwCl (wMo X mo al sv sm asd th ho fr txt tl pos od nu su) H → va_S A s.heap H locs → lv_has ls 5 [(0, .ref (mo 0)), (1, .int x1), (2, .int x2), (3, .int x3), (4, .int x4)] → W p l e ({ frames := 1, cells := 0, slots := 0, locals := 22 } : Room) s m args below meth c H locs 0 0 Q (F0 m 5 ls []) := by
    intro Q y3 kx k_
    induction k_ with
    | zero => intro x3 x4 H locs ls hf; exact nomatch (show (none : Option (Int32)) = some _ from hf)
    | succ k_ ih =>
      intro x3 x4 H locs ls hf hP hS hl
      unfold f_X6_whoHas_L5 at hf
      refine lv_iload hx hb dX6_whoHas_5 (lv_at hl 4 rfl) ?_
      refine lv_bipush (v := 10) hx hb dX6_whoHas_7 (by decide) ?_
      refine lv_icmp_ge (tgt := 41) hx hb dX6_whoHas_9 (by decide) (fun c_1 => ?_) (fun c_1 => ?_)
      · replace hf := fp_t c_1 hf
        cases hf
        exact kx _ _ _ hP hS (lv_sub hl [3] rfl)
      · replace hf := fp_f c_1 hf
        refine lv_iload_n hx hb dX6_whoHas_12 rfl (lv_at hl 3 rfl) ?_
        refine lv_aload_n hx hb dX6_whoHas_13 rfl (lv_at hl 0 rfl) ?_
        refine lv_iload hx hb dX6_whoHas_14 (lv_at hl 4 rfl) ?_
        refine lv_iload_n hx hb dX6_whoHas_16 rfl (lv_at hl 1 rfl) ?_
        obtain ⟨r_2, hc_3, hf⟩ := bd_of hf
        refine fn_V (v := some (.int r_2)) (As := [.int x4, .int x1]) (rest := [.int x3]) (st1 := [.int r_2, .int x3]) (ws' := (wMo X mo al sv sm asd th ho fr txt tl pos od nu su)) (nL := 5) ⟨hx, hb, hml, hown, hts⟩ (c_X6_holds l X mo al sv sm asd th ho fr txt tl pos od nu su x4 x1 r_2 hc_3) (cwV 2 hts gX6_whoHas_X6_holds rfl rfl rfl (by decide +kernel) ⟨Nat.le_of_ble_eq_true rfl, Nat.le_of_ble_eq_true rfl⟩) 6 rfl rfl rfl rfl hl.1 rfl (Nat.le_of_ble_eq_true rfl) dX6_whoHas_17 hK hP (hD0.addr rfl) hS hA [0, 1, 2, 3, 4, 5, 6, 7] rfl rfl rfl rfl ⟨Nat.zero_le _, Nat.zero_le _⟩ (fun H locs hP hD hS => ?_)
        refine lv_iload_n hx hb dX6_whoHas_20 rfl (lv_at hl 2 rfl) ?_
        refine lv_iand hx hb dX6_whoHas_21 ?_
        refine lv_if_eq (tgt := 32) hx hb dX6_whoHas_22 (by decide) (fun c_4 => ?_) (fun c_4 => ?_)
        · replace hf := fp_t c_4 hf
          refine lv_iconst (v := 0) hx hb dX6_whoHas_32 (by decide) ?_
          refine lv_ior hx hb dX6_whoHas_33 ?_
          refine lv_topi (fun v_5 ev_5 => ?_)
          replace hf := nm_of ev_5 hf
          refine lv_istore_n (lv' := [(3, .int v_5), (0, .ref (mo 0)), (1, .int x1), (2, .int x2), (4, .int x4)]) hx hb dX6_whoHas_34 rfl hl (by decide) rfl (fun ls hl => ?_)
          obtain ⟨v_6, ev_6⟩ : ∃ y : Int32, y = x4 + (1 : Int32) := ⟨_, rfl⟩
          replace hf := nm_of ev_6 hf
          refine lv_iinc (v := v_6) (lv' := [(4, .int v_6), (3, .int v_5), (0, .ref (mo 0)), (1, .int x1), (2, .int x2)]) hx hb dX6_whoHas_35 hl (k := 4) rfl (by rw [ev_6]; rfl) (by decide) rfl (fun ls hl => ?_)
          refine lv_goto (tgt := 5) hx hb dX6_whoHas_38 (by decide) ?_
          exact ih v_5 v_6 _ _ _ hf hP hS (lv_sub hl [2, 3, 4, 1, 0] rfl)
        · replace hf := fp_f c_4 hf
          refine lv_iconst (v := 1) hx hb dX6_whoHas_25 (by decide) ?_
          refine lv_iload hx hb dX6_whoHas_26 (lv_at hl 4 rfl) ?_
          refine lv_ishl hx hb dX6_whoHas_28 ?_
          refine lv_goto (tgt := 33) hx hb dX6_whoHas_29 (by decide) ?_
          refine lv_ior hx hb dX6_whoHas_33 ?_
          refine lv_topi (fun v_7 ev_7 => ?_)
          replace hf := nm_of ev_7 hf
          refine lv_istore_n (lv' := [(3, .int v_7), (0, .ref (mo 0)), (1, .int x1), (2, .int x2), (4, .int x4)]) hx hb dX6_whoHas_34 rfl hl (by decide) rfl (fun ls hl => ?_)
          obtain ⟨v_8, ev_8⟩ : ∃ y : Int32, y = x4 + (1 : Int32) := ⟨_, rfl⟩
          replace hf := nm_of ev_8 hf
          refine lv_iinc (v := v_8) (lv' := [(4, .int v_8), (3, .int v_7), (0, .ref (mo 0)), (1, .int x1), (2, .int x2)]) hx hb dX6_whoHas_35 hl (k := 4) rfl (by rw [ev_8]; rfl) (by decide) rfl (fun ls hl => ?_)
          refine lv_goto (tgt := 5) hx hb dX6_whoHas_38 (by decide) ?_
          exact ih v_7 v_8 _ _ _ hf hP hS (lv_sub hl [2, 3, 4, 1, 0] rfl)
  unfold f_X6_whoHas at hf
  refine lv_iconst (v := 0) hx hb dX6_whoHas_0 (by decide) ?_
  refine lv_istore_n (lv' := [(3, .int (0 : Int32)), (0, .ref (mo 0)), (1, .int x1), (2, .int x2)]) hx hb dX6_whoHas_1 rfl hl (by decide) rfl (fun ls hl => ?_)
  refine lv_iconst (v := 0) hx hb dX6_whoHas_2 (by decide) ?_
  refine lv_istore (lv' := [(4, .int (0 : Int32)), (3, .int (0 : Int32)), (0, .ref (mo 0)), (1, .int x1), (2, .int x2)]) hx hb dX6_whoHas_3 hl (by decide) rfl (fun ls hl => ?_)
  obtain ⟨y3_9, hL_10, hf⟩ := bd_of hf
  refine loop_5 _ y3_9 (fun H locs ls hP hS hl => ?_) FU (0 : Int32) (0 : Int32) _ _ _ hL_10 hP hS (lv_sub hl [2, 3, 4, 1, 0] rfl)
  refine lv_iload_n hx hb dX6_whoHas_41 rfl (lv_at hl 0 rfl) ?_
  cases hf
  exact fn_iret hx hb hr hlocks hP hS dX6_whoHas_42

def f_X6_bits_L4  : Nat → Int32 → Int32 →  Option (Int32)
  | 0, _, _ => none
  | k_ + 1, x1, x2 =>
    if x2 ≤ (0 : Int32) then
    (some x1)
    else
    (nm (x1 + (x2 &&& (1 : Int32))) (fun v_2 =>
    nm (x2 >>> ((1 : Int32) &&& 31)) (fun v_3 =>
    f_X6_bits_L4 k_ v_2 v_3)))
def f_X6_bits (x0 : Int32) : Option (Int32) :=
  bd (f_X6_bits_L4 FU (0 : Int32) x0) (fun y1_4 =>
  some y1_4)
set_option maxHeartbeats 4000000 in
set_option maxRecDepth 100000 in
theorem c_X6_bits (l : Launch) (X : cx_G) (x0 : Int32) (r : Int32) (hf : f_X6_bits x0 = some r) : Fn l yX6_bits wsX6_bits ({ frames := 0, cells := 0, slots := 0, locals := 0 } : Room) X [.int x0] ([] : va_W) (some (.int r)) ([] : va_W) := by
  refine fn_intro (cc := cX6_bits) (maxL := 3) (ret := (some .int)) (by decide) rfl rfl (Nat.le_of_ble_eq_true rfl) ?_
  intro p e s m args below meth c A ls hx hb hml hr hts hown hlocks hK hP hD0 hS hA hl
  have hown : s.vm.findClass RX6 = some m.cls := hown
  have hl : lv_has ls 3 [(0, .int x0)] := hl
  have loop_4 : ∀ (Q : State → Prop) (y1 : Int32), (∀ (H : Heap) (locs : List Loc) (ls : Array Slot), va_P X.1 vwCl ([] : va_W) H → va_S A s.heap H locs → lv_has ls 3 [(1, .int y1)] → W p l e ({ frames := 0, cells := 0, slots := 0, locals := 0 } : Room) s m args below meth c H locs 0 0 Q (F0 m 21 ls [])) → ∀ (k_ : Nat) (x1 : Int32) (x2 : Int32) (H : Heap) (locs : List Loc) (ls : Array Slot), f_X6_bits_L4 k_ x1 x2 = some y1 → va_P X.1 vwCl ([] : va_W) H → va_S A s.heap H locs → lv_has ls 3 [(1, .int x1), (2, .int x2)] → W p l e ({ frames := 0, cells := 0, slots := 0, locals := 0 } : Room) s m args below meth c H locs 0 0 Q (F0 m 4 ls []) := by
    intro Q y1 kx k_
    induction k_ with
    | zero => intro x1 x2 H locs ls hf; exact nomatch (show (none : Option (Int32)) = some _ from hf)
    | succ k_ ih =>
      intro x1 x2 H locs ls hf hP hS hl
      unfold f_X6_bits_L4 at hf
      refine lv_iload_n hx hb dX6_bits_4 rfl (lv_at hl 1 rfl) ?_
      refine lv_if_le (tgt := 21) hx hb dX6_bits_5 (by decide) (fun c_1 => ?_) (fun c_1 => ?_)
      · replace hf := fp_t c_1 hf
        cases hf
        exact kx _ _ _ hP hS (lv_sub hl [0] rfl)
      · replace hf := fp_f c_1 hf
        refine lv_iload_n hx hb dX6_bits_8 rfl (lv_at hl 0 rfl) ?_
        refine lv_iload_n hx hb dX6_bits_9 rfl (lv_at hl 1 rfl) ?_
        refine lv_iconst (v := 1) hx hb dX6_bits_10 (by decide) ?_
        refine lv_iand hx hb dX6_bits_11 ?_
        refine lv_iadd hx hb dX6_bits_12 ?_
        refine lv_topi (fun v_2 ev_2 => ?_)
        replace hf := nm_of ev_2 hf
        refine lv_istore_n (lv' := [(1, .int v_2), (2, .int x2)]) hx hb dX6_bits_13 rfl hl (by decide) rfl (fun ls hl => ?_)
        refine lv_iload_n hx hb dX6_bits_14 rfl (lv_at hl 1 rfl) ?_
        refine lv_iconst (v := 1) hx hb dX6_bits_15 (by decide) ?_
        refine lv_ishr hx hb dX6_bits_16 ?_
        refine lv_topi (fun v_3 ev_3 => ?_)
        replace hf := nm_of ev_3 hf
        refine lv_istore_n (lv' := [(2, .int v_3), (1, .int v_2)]) hx hb dX6_bits_17 rfl hl (by decide) rfl (fun ls hl => ?_)
        refine lv_goto (tgt := 4) hx hb dX6_bits_18 (by decide) ?_
        exact ih v_2 v_3 _ _ _ hf hP hS (lv_sub hl [1, 0] rfl)
  unfold f_X6_bits at hf
  refine lv_iconst (v := 0) hx hb dX6_bits_0 (by decide) ?_
  refine lv_istore_n (lv' := [(1, .int (0 : Int32)), (0, .int x0)]) hx hb dX6_bits_1 rfl hl (by decide) rfl (fun ls hl => ?_)
  refine lv_iload_n hx hb dX6_bits_2 rfl (lv_at hl 1 rfl) ?_
  refine lv_istore_n (lv' := [(2, .int x0), (1, .int (0 : Int32)), (0, .int x0)]) hx hb dX6_bits_3 rfl hl (by decide) rfl (fun ls hl => ?_)
  obtain ⟨y1_4, hL_5, hf⟩ := bd_of hf
  refine loop_4 _ y1_4 (fun H locs ls hP hS hl => ?_) FU (0 : Int32) x0 _ _ _ hL_5 hP hS (lv_sub hl [1, 0] rfl)
  refine lv_iload_n hx hb dX6_bits_21 rfl (lv_at hl 0 rfl) ?_
  cases hf
  exact fn_iret hx hb hr hlocks hP hS dX6_bits_22

def f_X6_pairs_L8 (al : (Nat → Int32)) (ho : (Nat → Int32)) : Nat → Int32 → Int32 →  Option (Int32)
  | 0, _, _ => none
  | k_ + 1, x1, x2 =>
    ix (4 : Int32) 320 (
    if al (4 : Int32).toNatClampNeg ≤ x2 then
    (some x1)
    else
    (bd (f_X6_whoHas x2 (1 : Int32) ho) (fun r_3 =>
    bd (f_X6_bits r_3) (fun r_5 =>
    nm (x1 + r_5) (fun v_7 =>
    nm (x2 + (1 : Int32)) (fun v_8 =>
    f_X6_pairs_L8 al ho k_ v_7 v_8))))))
def f_X6_pairs (al : (Nat → Int32)) (ho : (Nat → Int32)) : Option (Int32 × (Nat → Int32)) :=
  bd (f_X6_lay al ho) (fun ho_9 =>
  bd (f_X6_pairs_L8 al ho_9 FU (0 : Int32) (0 : Int32)) (fun y1_11 =>
  some (y1_11, ho_9)))
set_option maxHeartbeats 4000000 in
set_option maxRecDepth 100000 in
theorem c_X6_pairs (l : Launch) (X : cx_G) (mo : (Nat → Nat)) (al : (Nat → Int32)) (sv : (Nat → Int32)) (sm : Int32) (asd : (Nat → Int32)) (th : Int32) (ho : (Nat → Int32)) (fr : (Nat → Int32)) (txt : (Nat → Int32)) (tl : Int32) (pos : Int32) (od : Int32) (nu : (Nat → Int32)) (su : Int64) (r : Int32) (ho' : (Nat → Int32)) (hf : f_X6_pairs al ho = some (r, ho')) : Fn l yX6_pairs wsX6_pairs ({ frames := 3, cells := 0, slots := 0, locals := 68 } : Room) X [.ref (mo 0)] (wMo X mo al sv sm asd th ho fr txt tl pos od nu su) (some (.int r)) (wMo X mo al sv sm asd th ho' fr txt tl pos od nu su) := by
  refine fn_intro (cc := cX6_pairs) (maxL := 3) (ret := (some .int)) (by decide) rfl rfl (Nat.le_of_ble_eq_true rfl) ?_
  intro p e s m args below meth c A ls hx hb hml hr hts hown hlocks hK hP hD0 hS hA hl
  have hown : s.vm.findClass RX6 = some m.cls := hown
  have hl : lv_has ls 3 [(0, .ref (mo 0))] := hl
  have hiX6 : ∀ w ∈ u_ws RX6 TX6 13, w ∈ wsX6_pairs := by decide +kernel
  have k7 := hts (.fieldLink RX6 7 "LentRightsModel" "all" "[I") (by decide +kernel)
  have loop_8 : ∀ (Q : State → Prop) (ho : (Nat → Int32)) (y1 : Int32), (∀ (H : Heap) (locs : List Loc) (ls : Array Slot), va_P X.1 vwCl (wMo X mo al sv sm asd th ho fr txt tl pos od nu su) H → va_S A s.heap H locs → lv_has ls 3 [(1, .int y1)] → W p l e ({ frames := 3, cells := 0, slots := 0, locals := 68 } : Room) s m args below meth c H locs 0 0 Q (F0 m 36 ls [])) → ∀ (k_ : Nat) (x1 : Int32) (x2 : Int32) (H : Heap) (locs : List Loc) (ls : Array Slot), f_X6_pairs_L8 al ho k_ x1 x2 = some y1 → va_P X.1 vwCl (wMo X mo al sv sm asd th ho fr txt tl pos od nu su) H → va_S A s.heap H locs → lv_has ls 3 [(0, .ref (mo 0)), (1, .int x1), (2, .int x2)] → W p l e ({ frames := 3, cells := 0, slots := 0, locals := 68 } : Room) s m args below meth c H locs 0 0 Q (F0 m 8 ls []) := by
    intro Q ho y1 kx k_
    induction k_ with
    | zero => intro x1 x2 H locs ls hf; exact nomatch (show (none : Option (Int32)) = some _ from hf)
    | succ k_ ih =>
      intro x1 x2 H locs ls hf hP hS hl
      unfold f_X6_pairs_L8 at hf
      refine lv_iload_n hx hb dX6_pairs_8 rfl (lv_at hl 2 rfl) ?_
      refine lv_aload_n hx hb dX6_pairs_9 rfl (lv_at hl 0 rfl) ?_
      refine va_get (D := X.1) (ci := 6) (v := .ref (mo 1)) (C := RX6) (T := TX6) (N := 13) hx hb hts hiX6 hown hK.1 hP 0 rfl rfl 0 (by decide) k7 (fun _ h9 => h9) rfl dX6_pairs_10 ?_
      refine lv_iconst (v := 4) hx hb dX6_pairs_13 (by decide) ?_
      obtain ⟨hi_1, hf⟩ := ix_of hf
      refine va_iald hx hb hK.1 hP 1 0 rfl rfl hi_1 dX6_pairs_14 ?_
      refine lv_icmp_ge (tgt := 36) hx hb dX6_pairs_15 (by decide) (fun c_2 => ?_) (fun c_2 => ?_)
      · replace hf := fp_t c_2 hf
        cases hf
        exact kx _ _ _ hP hS (lv_sub hl [1] rfl)
      · replace hf := fp_f c_2 hf
        refine lv_iload_n hx hb dX6_pairs_18 rfl (lv_at hl 1 rfl) ?_
        refine lv_aload_n hx hb dX6_pairs_19 rfl (lv_at hl 0 rfl) ?_
        refine lv_iload_n hx hb dX6_pairs_20 rfl (lv_at hl 2 rfl) ?_
        refine lv_iconst (v := 1) hx hb dX6_pairs_21 (by decide) ?_
        obtain ⟨r_3, hc_4, hf⟩ := bd_of hf
        refine fn_V (v := some (.int r_3)) (As := [.int x2, .int (1 : Int32)]) (rest := [.int x1]) (st1 := [.int r_3, .int x1]) (ws' := (wMo X mo al sv sm asd th ho fr txt tl pos od nu su)) (nL := 3) ⟨hx, hb, hml, hown, hts⟩ (c_X6_whoHas l X mo al sv sm asd th ho fr txt tl pos od nu su x2 (1 : Int32) r_3 hc_4) (cwV 2 hts gX6_pairs_X6_whoHas rfl rfl rfl (by decide +kernel) ⟨Nat.le_of_ble_eq_true rfl, Nat.le_of_ble_eq_true rfl⟩) 6 rfl rfl rfl rfl hl.1 rfl (Nat.le_of_ble_eq_true rfl) dX6_pairs_22 hK hP (hD0.addr rfl) hS hA [0, 1, 2, 3, 4, 5, 6, 7] rfl rfl rfl rfl ⟨Nat.zero_le _, Nat.zero_le _⟩ (fun H locs hP hD hS => ?_)
        obtain ⟨r_5, hc_6, hf⟩ := bd_of hf
        refine fn_Sx (v := some (.int r_5)) (As := [.int r_3]) (rest := [.int x1]) (st1 := [.int r_5, .int x1]) (ws' := (wMo X mo al sv sm asd th ho fr txt tl pos od nu su)) (nL := 3) ⟨hx, hb, hml, hown, hts⟩ (c_X6_bits l X r_3 r_5 hc_6) (va_cwS 1 hts gX6_pairs_X6_bits rfl rfl rfl (by decide +kernel) ⟨Nat.le_of_ble_eq_true rfl, Nat.le_of_ble_eq_true rfl⟩) rfl hl.1 rfl (Nat.le_of_ble_eq_true rfl) dX6_pairs_25 hK hP (hD0.addr rfl) hS hA [] rfl rfl rfl rfl ⟨Nat.zero_le _, Nat.zero_le _⟩ (fun H locs hP hD hS => ?_)
        refine lv_iadd hx hb dX6_pairs_28 ?_
        refine lv_topi (fun v_7 ev_7 => ?_)
        replace hf := nm_of ev_7 hf
        refine lv_istore_n (lv' := [(1, .int v_7), (0, .ref (mo 0)), (2, .int x2)]) hx hb dX6_pairs_29 rfl hl (by decide) rfl (fun ls hl => ?_)
        obtain ⟨v_8, ev_8⟩ : ∃ y : Int32, y = x2 + (1 : Int32) := ⟨_, rfl⟩
        replace hf := nm_of ev_8 hf
        refine lv_iinc (v := v_8) (lv' := [(2, .int v_8), (1, .int v_7), (0, .ref (mo 0))]) hx hb dX6_pairs_30 hl (k := 2) rfl (by rw [ev_8]; rfl) (by decide) rfl (fun ls hl => ?_)
        refine lv_goto (tgt := 8) hx hb dX6_pairs_33 (by decide) ?_
        exact ih v_7 v_8 _ _ _ hf hP hS (lv_sub hl [2, 1, 0] rfl)
  unfold f_X6_pairs at hf
  refine lv_aload_n hx hb dX6_pairs_0 rfl (lv_at hl 0 rfl) ?_
  obtain ⟨ho_9, hc_10, hf⟩ := bd_of hf
  refine fn_V (v := none) (As := []) (rest := []) (st1 := []) (ws' := (wMo X mo al sv sm asd th ho_9 fr txt tl pos od nu su)) (nL := 3) ⟨hx, hb, hml, hown, hts⟩ (c_X6_lay l X mo al sv sm asd th ho fr txt tl pos od nu su ho_9 hc_10) (cwV 0 hts gX6_pairs_X6_lay rfl rfl rfl (by decide +kernel) ⟨Nat.le_of_ble_eq_true rfl, Nat.le_of_ble_eq_true rfl⟩) 6 rfl rfl rfl rfl hl.1 rfl (Nat.le_of_ble_eq_true rfl) dX6_pairs_1 hK hP (hD0.addr rfl) hS hA [0, 1, 2, 3, 4, 5, 6, 7] rfl rfl rfl rfl ⟨Nat.zero_le _, Nat.zero_le _⟩ (fun H locs hP hD hS => ?_)
  refine lv_iconst (v := 0) hx hb dX6_pairs_4 (by decide) ?_
  refine lv_istore_n (lv' := [(1, .int (0 : Int32)), (0, .ref (mo 0))]) hx hb dX6_pairs_5 rfl hl (by decide) rfl (fun ls hl => ?_)
  refine lv_iconst (v := 0) hx hb dX6_pairs_6 (by decide) ?_
  refine lv_istore_n (lv' := [(2, .int (0 : Int32)), (1, .int (0 : Int32)), (0, .ref (mo 0))]) hx hb dX6_pairs_7 rfl hl (by decide) rfl (fun ls hl => ?_)
  obtain ⟨y1_11, hL_12, hf⟩ := bd_of hf
  refine loop_8 _ ho_9 y1_11 (fun H locs ls hP hS hl => ?_) FU (0 : Int32) (0 : Int32) _ _ _ hL_12 hP hS (lv_sub hl [2, 1, 0] rfl)
  refine lv_iload_n hx hb dX6_pairs_36 rfl (lv_at hl 0 rfl) ?_
  cases hf
  exact fn_iret hx hb hr hlocks hP hS dX6_pairs_37

def f_X6_addThing (x1 : Int32) (x2 : Int32) (al : (Nat → Int32)) (sv : (Nat → Int32)) (sm : Int32) (th : Int32) : Option (Int32 × (Nat → Int32) × (Nat → Int32) × Int32 × Int32) :=
  bd (f_X6_isPerson x1) (fun r_1 =>
  bd (f_X6_in x2.toInt64 (0 : Int64) (7 : Int64)) (fun r_3 =>
  ix (4 : Int32) 320 (
  if (8 : Int32) ≤ al (4 : Int32).toNatClampNeg then
  (bd2 (f_X6_goes r_1 r_3 (0 : Int32) th) (fun r_7 th_8 =>
  if r_7 = (0 : Int32) then
  (some ((0 : Int32), al, sv, sm, th_8))
  else
  (bd2 (f_X6_save al sv sm) (fun sv_11 sm_12 =>
  ix (4 : Int32) 320 (
  nm (al (4 : Int32).toNatClampNeg) (fun v_15 =>
  ix ((28 : Int32) + ((2 : Int32) * v_15)) 320 (
  nm (upd al ((28 : Int32) + ((2 : Int32) * v_15)).toNatClampNeg x1) (fun al_17 =>
  ix (((28 : Int32) + ((2 : Int32) * v_15)) + (1 : Int32)) 320 (
  nm (upd al_17 (((28 : Int32) + ((2 : Int32) * v_15)) + (1 : Int32)).toNatClampNeg x2) (fun al_19 =>
  ix (4 : Int32) 320 (
  nm ((al_19 (4 : Int32).toNatClampNeg) + (1 : Int32)) (fun v_21 =>
  ix (4 : Int32) 320 (
  nm (upd al_19 (4 : Int32).toNatClampNeg v_21) (fun al_23 =>
  some (v_15, al_23, sv_11, sm_12, th_8)))))))))))))))
  else
  (bd2 (f_X6_goes r_1 r_3 (1 : Int32) th) (fun r_24 th_25 =>
  if r_24 = (0 : Int32) then
  (some ((0 : Int32), al, sv, sm, th_25))
  else
  (bd2 (f_X6_save al sv sm) (fun sv_28 sm_29 =>
  ix (4 : Int32) 320 (
  nm (al (4 : Int32).toNatClampNeg) (fun v_32 =>
  ix ((28 : Int32) + ((2 : Int32) * v_32)) 320 (
  nm (upd al ((28 : Int32) + ((2 : Int32) * v_32)).toNatClampNeg x1) (fun al_34 =>
  ix (((28 : Int32) + ((2 : Int32) * v_32)) + (1 : Int32)) 320 (
  nm (upd al_34 (((28 : Int32) + ((2 : Int32) * v_32)) + (1 : Int32)).toNatClampNeg x2) (fun al_36 =>
  ix (4 : Int32) 320 (
  nm ((al_36 (4 : Int32).toNatClampNeg) + (1 : Int32)) (fun v_38 =>
  ix (4 : Int32) 320 (
  nm (upd al_36 (4 : Int32).toNatClampNeg v_38) (fun al_40 =>
  some (v_32, al_40, sv_28, sm_29, th_25))))))))))))))))))
set_option maxHeartbeats 4000000 in
set_option maxRecDepth 100000 in
theorem c_X6_addThing (l : Launch) (X : cx_G) (mo : (Nat → Nat)) (al : (Nat → Int32)) (sv : (Nat → Int32)) (sm : Int32) (asd : (Nat → Int32)) (th : Int32) (ho : (Nat → Int32)) (fr : (Nat → Int32)) (txt : (Nat → Int32)) (tl : Int32) (pos : Int32) (od : Int32) (nu : (Nat → Int32)) (su : Int64) (x1 : Int32) (x2 : Int32) (r : Int32) (al' : (Nat → Int32)) (sv' : (Nat → Int32)) (sm' : Int32) (th' : Int32) (hf : f_X6_addThing x1 x2 al sv sm th = some (r, al', sv', sm', th')) : Fn l yX6_addThing wsX6_addThing ({ frames := 2, cells := 0, slots := 0, locals := 45 } : Room) X [.ref (mo 0), .int x1, .int x2] (wMo X mo al sv sm asd th ho fr txt tl pos od nu su) (some (.int r)) (wMo X mo al' sv' sm' asd th' ho fr txt tl pos od nu su) := by
  refine fn_intro (cc := cX6_addThing) (maxL := 4) (ret := (some .int)) (by decide) rfl rfl (Nat.le_of_ble_eq_true rfl) ?_
  intro p e s m args below meth c A ls hx hb hml hr hts hown hlocks hK hP hD0 hS hA hl
  have hown : s.vm.findClass RX6 = some m.cls := hown
  have hl : lv_has ls 4 [(0, .ref (mo 0)), (1, .int x1), (2, .int x2)] := hl
  have hiX6 : ∀ w ∈ u_ws RX6 TX6 13, w ∈ wsX6_addThing := by decide +kernel
  have k7 := hts (.fieldLink RX6 7 "LentRightsModel" "all" "[I") (by decide +kernel)
  unfold f_X6_addThing at hf
  refine lv_aload_n hx hb dX6_addThing_0 rfl (lv_at hl 0 rfl) ?_
  refine lv_iload_n hx hb dX6_addThing_1 rfl (lv_at hl 1 rfl) ?_
  obtain ⟨r_1, hc_2, hf⟩ := bd_of hf
  refine fn_Sx (v := some (.int r_1)) (As := [.int x1]) (rest := [.ref (mo 0)]) (st1 := [.int r_1, .ref (mo 0)]) (ws' := (wMo X mo al sv sm asd th ho fr txt tl pos od nu su)) (nL := 4) ⟨hx, hb, hml, hown, hts⟩ (c_X6_isPerson l X x1 r_1 hc_2) (va_cwS 1 hts gX6_addThing_X6_isPerson rfl rfl rfl (by decide +kernel) ⟨Nat.le_of_ble_eq_true rfl, Nat.le_of_ble_eq_true rfl⟩) rfl hl.1 rfl (Nat.le_of_ble_eq_true rfl) dX6_addThing_2 hK hP (hD0.addr rfl) hS hA [] rfl rfl rfl rfl ⟨Nat.zero_le _, Nat.zero_le _⟩ (fun H locs hP hD hS => ?_)
  refine lv_iload_n hx hb dX6_addThing_5 rfl (lv_at hl 2 rfl) ?_
  refine lv_i2l (v := x2.toInt64) hx hb dX6_addThing_6 rfl ?_
  refine lv_lconst (v := 0) hx hb dX6_addThing_7 (by decide) ?_
  refine lv_ldc2 hx hb hown (hts (.constantLong RX6 80 (7)) (by decide +kernel)) dX6_addThing_8 ?_
  obtain ⟨r_3, hc_4, hf⟩ := bd_of hf
  refine fn_Sx (v := some (.int r_3)) (As := [.long x2.toInt64, .long (0 : Int64), .long (7 : Int64)]) (rest := [.int r_1, .ref (mo 0)]) (st1 := [.int r_3, .int r_1, .ref (mo 0)]) (ws' := (wMo X mo al sv sm asd th ho fr txt tl pos od nu su)) (nL := 4) ⟨hx, hb, hml, hown, hts⟩ (c_X6_in l X x2.toInt64 (0 : Int64) (7 : Int64) r_3 hc_4) (va_cwS 3 hts gX6_addThing_X6_in rfl rfl rfl (by decide +kernel) ⟨Nat.le_of_ble_eq_true rfl, Nat.le_of_ble_eq_true rfl⟩) rfl hl.1 rfl (Nat.le_of_ble_eq_true rfl) dX6_addThing_11 hK hP (hD0.addr rfl) hS hA [] rfl rfl rfl rfl ⟨Nat.zero_le _, Nat.zero_le _⟩ (fun H locs hP hD hS => ?_)
  refine lv_aload_n hx hb dX6_addThing_14 rfl (lv_at hl 0 rfl) ?_
  refine va_get (D := X.1) (ci := 6) (v := .ref (mo 1)) (C := RX6) (T := TX6) (N := 13) hx hb hts hiX6 hown hK.1 hP 0 rfl rfl 0 (by decide) k7 (fun _ h9 => h9) rfl dX6_addThing_15 ?_
  refine lv_iconst (v := 4) hx hb dX6_addThing_18 (by decide) ?_
  obtain ⟨hi_5, hf⟩ := ix_of hf
  refine va_iald hx hb hK.1 hP 1 0 rfl rfl hi_5 dX6_addThing_19 ?_
  refine lv_bipush (v := 8) hx hb dX6_addThing_20 (by decide) ?_
  refine lv_icmp_ge (tgt := 29) hx hb dX6_addThing_22 (by decide) (fun c_6 => ?_) (fun c_6 => ?_)
  · replace hf := fp_t c_6 hf
    refine lv_iconst (v := 0) hx hb dX6_addThing_29 (by decide) ?_
    obtain ⟨r_7, th_8, hc_9, hf⟩ := bd2_of hf
    refine fn_V (v := some (.int r_7)) (As := [.int r_1, .int r_3, .int (0 : Int32)]) (rest := []) (st1 := [.int r_7]) (ws' := (wMo X mo al sv sm asd th_8 ho fr txt tl pos od nu su)) (nL := 4) ⟨hx, hb, hml, hown, hts⟩ (c_X6_goes l X mo al sv sm asd th ho fr txt tl pos od nu su r_1 r_3 (0 : Int32) r_7 th_8 hc_9) (cwV 3 hts gX6_addThing_X6_goes rfl rfl rfl (by decide +kernel) ⟨Nat.le_of_ble_eq_true rfl, Nat.le_of_ble_eq_true rfl⟩) 6 rfl rfl rfl rfl hl.1 rfl (Nat.le_of_ble_eq_true rfl) dX6_addThing_30 hK hP (hD0.addr rfl) hS hA [0, 1, 2, 3, 4, 5, 6, 7] rfl rfl rfl rfl ⟨Nat.zero_le _, Nat.zero_le _⟩ (fun H locs hP hD hS => ?_)
    refine lv_if_ne (tgt := 38) hx hb dX6_addThing_33 (by decide) (fun c_10 => ?_) (fun c_10 => ?_)
    · replace hf := fp_f c_10 hf
      refine lv_aload_n hx hb dX6_addThing_38 rfl (lv_at hl 0 rfl) ?_
      obtain ⟨sv_11, sm_12, hc_13, hf⟩ := bd2_of hf
      refine fn_V (v := none) (As := []) (rest := []) (st1 := []) (ws' := (wMo X mo al sv_11 sm_12 asd th_8 ho fr txt tl pos od nu su)) (nL := 4) ⟨hx, hb, hml, hown, hts⟩ (c_X6_save l X mo al sv sm asd th_8 ho fr txt tl pos od nu su sv_11 sm_12 hc_13) (cwV 0 hts gX6_addThing_X6_save rfl rfl rfl (by decide +kernel) ⟨Nat.le_of_ble_eq_true rfl, Nat.le_of_ble_eq_true rfl⟩) 6 rfl rfl rfl rfl hl.1 rfl (Nat.le_of_ble_eq_true rfl) dX6_addThing_39 hK hP (hD0.addr rfl) hS hA [0, 1, 2, 3, 4, 5, 6, 7] rfl rfl rfl rfl ⟨Nat.zero_le _, Nat.zero_le _⟩ (fun H locs hP hD hS => ?_)
      refine lv_aload_n hx hb dX6_addThing_42 rfl (lv_at hl 0 rfl) ?_
      refine va_get (D := X.1) (ci := 6) (v := .ref (mo 1)) (C := RX6) (T := TX6) (N := 13) hx hb hts hiX6 hown hK.1 hP 0 rfl rfl 0 (by decide) k7 (fun _ h9 => h9) rfl dX6_addThing_43 ?_
      refine lv_iconst (v := 4) hx hb dX6_addThing_46 (by decide) ?_
      obtain ⟨hi_14, hf⟩ := ix_of hf
      refine va_iald hx hb hK.1 hP 1 0 rfl rfl hi_14 dX6_addThing_47 ?_
      refine lv_topi (fun v_15 ev_15 => ?_)
      replace hf := nm_of ev_15 hf
      refine lv_istore_n (lv' := [(3, .int v_15), (0, .ref (mo 0)), (1, .int x1), (2, .int x2)]) hx hb dX6_addThing_48 rfl hl (by decide) rfl (fun ls hl => ?_)
      refine lv_aload_n hx hb dX6_addThing_49 rfl (lv_at hl 1 rfl) ?_
      refine va_get (D := X.1) (ci := 6) (v := .ref (mo 1)) (C := RX6) (T := TX6) (N := 13) hx hb hts hiX6 hown hK.1 hP 0 rfl rfl 0 (by decide) k7 (fun _ h9 => h9) rfl dX6_addThing_50 ?_
      refine lv_bipush (v := 28) hx hb dX6_addThing_53 (by decide) ?_
      refine lv_iconst (v := 2) hx hb dX6_addThing_55 (by decide) ?_
      refine lv_iload_n hx hb dX6_addThing_56 rfl (lv_at hl 0 rfl) ?_
      refine lv_imul hx hb dX6_addThing_57 ?_
      refine lv_iadd hx hb dX6_addThing_58 ?_
      refine lv_iload_n hx hb dX6_addThing_59 rfl (lv_at hl 2 rfl) ?_
      obtain ⟨hi_16, hf⟩ := ix_of hf
      refine va_iast hx hb hK.1 hP (hD0.addr rfl) hS 1 0 rfl rfl hi_16 dX6_addThing_60 (fun H locs hP hD hS => ?_)
      obtain ⟨al_17, eal_17⟩ : ∃ g : Nat → Int32, g = upd al ((28 : Int32) + ((2 : Int32) * v_15)).toNatClampNeg x1 := ⟨_, rfl⟩
      replace hf := nm_of eal_17 hf
      have hP : va_P X.1 vwCl (wMo X mo al_17 sv_11 sm_12 asd th_8 ho fr txt tl pos od nu su) H := by rw [eal_17]; exact hP
      refine lv_aload_n hx hb dX6_addThing_61 rfl (lv_at hl 1 rfl) ?_
      refine va_get (D := X.1) (ci := 6) (v := .ref (mo 1)) (C := RX6) (T := TX6) (N := 13) hx hb hts hiX6 hown hK.1 hP 0 rfl rfl 0 (by decide) k7 (fun _ h9 => h9) rfl dX6_addThing_62 ?_
      refine lv_bipush (v := 28) hx hb dX6_addThing_65 (by decide) ?_
      refine lv_iconst (v := 2) hx hb dX6_addThing_67 (by decide) ?_
      refine lv_iload_n hx hb dX6_addThing_68 rfl (lv_at hl 0 rfl) ?_
      refine lv_imul hx hb dX6_addThing_69 ?_
      refine lv_iadd hx hb dX6_addThing_70 ?_
      refine lv_iconst (v := 1) hx hb dX6_addThing_71 (by decide) ?_
      refine lv_iadd hx hb dX6_addThing_72 ?_
      refine lv_iload_n hx hb dX6_addThing_73 rfl (lv_at hl 3 rfl) ?_
      obtain ⟨hi_18, hf⟩ := ix_of hf
      refine va_iast hx hb hK.1 hP (hD0.addr rfl) hS 1 0 rfl rfl hi_18 dX6_addThing_74 (fun H locs hP hD hS => ?_)
      obtain ⟨al_19, eal_19⟩ : ∃ g : Nat → Int32, g = upd al_17 (((28 : Int32) + ((2 : Int32) * v_15)) + (1 : Int32)).toNatClampNeg x2 := ⟨_, rfl⟩
      replace hf := nm_of eal_19 hf
      have hP : va_P X.1 vwCl (wMo X mo al_19 sv_11 sm_12 asd th_8 ho fr txt tl pos od nu su) H := by rw [eal_19]; exact hP
      refine lv_aload_n hx hb dX6_addThing_75 rfl (lv_at hl 1 rfl) ?_
      refine va_get (D := X.1) (ci := 6) (v := .ref (mo 1)) (C := RX6) (T := TX6) (N := 13) hx hb hts hiX6 hown hK.1 hP 0 rfl rfl 0 (by decide) k7 (fun _ h9 => h9) rfl dX6_addThing_76 ?_
      refine lv_iconst (v := 4) hx hb dX6_addThing_79 (by decide) ?_
      refine lv_dup2_11 hx hb dX6_addThing_80 rfl rfl ?_
      obtain ⟨hi_20, hf⟩ := ix_of hf
      refine va_iald hx hb hK.1 hP 1 0 rfl rfl hi_20 dX6_addThing_81 ?_
      refine lv_iconst (v := 1) hx hb dX6_addThing_82 (by decide) ?_
      refine lv_iadd hx hb dX6_addThing_83 ?_
      refine lv_topi (fun v_21 ev_21 => ?_)
      replace hf := nm_of ev_21 hf
      obtain ⟨hi_22, hf⟩ := ix_of hf
      refine va_iast hx hb hK.1 hP (hD0.addr rfl) hS 1 0 rfl rfl hi_22 dX6_addThing_84 (fun H locs hP hD hS => ?_)
      obtain ⟨al_23, eal_23⟩ : ∃ g : Nat → Int32, g = upd al_19 (4 : Int32).toNatClampNeg v_21 := ⟨_, rfl⟩
      replace hf := nm_of eal_23 hf
      have hP : va_P X.1 vwCl (wMo X mo al_23 sv_11 sm_12 asd th_8 ho fr txt tl pos od nu su) H := by rw [eal_23]; exact hP
      refine lv_iload_n hx hb dX6_addThing_85 rfl (lv_at hl 0 rfl) ?_
      cases hf
      exact fn_iret hx hb hr hlocks hP hS dX6_addThing_86
    · replace hf := fp_t c_10 hf
      refine lv_iconst (v := 0) hx hb dX6_addThing_36 (by decide) ?_
      cases hf
      exact fn_iret hx hb hr hlocks hP hS dX6_addThing_37
  · replace hf := fp_f c_6 hf
    refine lv_iconst (v := 1) hx hb dX6_addThing_25 (by decide) ?_
    refine lv_goto (tgt := 30) hx hb dX6_addThing_26 (by decide) ?_
    obtain ⟨r_24, th_25, hc_26, hf⟩ := bd2_of hf
    refine fn_V (v := some (.int r_24)) (As := [.int r_1, .int r_3, .int (1 : Int32)]) (rest := []) (st1 := [.int r_24]) (ws' := (wMo X mo al sv sm asd th_25 ho fr txt tl pos od nu su)) (nL := 4) ⟨hx, hb, hml, hown, hts⟩ (c_X6_goes l X mo al sv sm asd th ho fr txt tl pos od nu su r_1 r_3 (1 : Int32) r_24 th_25 hc_26) (cwV 3 hts gX6_addThing_X6_goes rfl rfl rfl (by decide +kernel) ⟨Nat.le_of_ble_eq_true rfl, Nat.le_of_ble_eq_true rfl⟩) 6 rfl rfl rfl rfl hl.1 rfl (Nat.le_of_ble_eq_true rfl) dX6_addThing_30 hK hP (hD0.addr rfl) hS hA [0, 1, 2, 3, 4, 5, 6, 7] rfl rfl rfl rfl ⟨Nat.zero_le _, Nat.zero_le _⟩ (fun H locs hP hD hS => ?_)
    refine lv_if_ne (tgt := 38) hx hb dX6_addThing_33 (by decide) (fun c_27 => ?_) (fun c_27 => ?_)
    · replace hf := fp_f c_27 hf
      refine lv_aload_n hx hb dX6_addThing_38 rfl (lv_at hl 0 rfl) ?_
      obtain ⟨sv_28, sm_29, hc_30, hf⟩ := bd2_of hf
      refine fn_V (v := none) (As := []) (rest := []) (st1 := []) (ws' := (wMo X mo al sv_28 sm_29 asd th_25 ho fr txt tl pos od nu su)) (nL := 4) ⟨hx, hb, hml, hown, hts⟩ (c_X6_save l X mo al sv sm asd th_25 ho fr txt tl pos od nu su sv_28 sm_29 hc_30) (cwV 0 hts gX6_addThing_X6_save rfl rfl rfl (by decide +kernel) ⟨Nat.le_of_ble_eq_true rfl, Nat.le_of_ble_eq_true rfl⟩) 6 rfl rfl rfl rfl hl.1 rfl (Nat.le_of_ble_eq_true rfl) dX6_addThing_39 hK hP (hD0.addr rfl) hS hA [0, 1, 2, 3, 4, 5, 6, 7] rfl rfl rfl rfl ⟨Nat.zero_le _, Nat.zero_le _⟩ (fun H locs hP hD hS => ?_)
      refine lv_aload_n hx hb dX6_addThing_42 rfl (lv_at hl 0 rfl) ?_
      refine va_get (D := X.1) (ci := 6) (v := .ref (mo 1)) (C := RX6) (T := TX6) (N := 13) hx hb hts hiX6 hown hK.1 hP 0 rfl rfl 0 (by decide) k7 (fun _ h9 => h9) rfl dX6_addThing_43 ?_
      refine lv_iconst (v := 4) hx hb dX6_addThing_46 (by decide) ?_
      obtain ⟨hi_31, hf⟩ := ix_of hf
      refine va_iald hx hb hK.1 hP 1 0 rfl rfl hi_31 dX6_addThing_47 ?_
      refine lv_topi (fun v_32 ev_32 => ?_)
      replace hf := nm_of ev_32 hf
      refine lv_istore_n (lv' := [(3, .int v_32), (0, .ref (mo 0)), (1, .int x1), (2, .int x2)]) hx hb dX6_addThing_48 rfl hl (by decide) rfl (fun ls hl => ?_)
      refine lv_aload_n hx hb dX6_addThing_49 rfl (lv_at hl 1 rfl) ?_
      refine va_get (D := X.1) (ci := 6) (v := .ref (mo 1)) (C := RX6) (T := TX6) (N := 13) hx hb hts hiX6 hown hK.1 hP 0 rfl rfl 0 (by decide) k7 (fun _ h9 => h9) rfl dX6_addThing_50 ?_
      refine lv_bipush (v := 28) hx hb dX6_addThing_53 (by decide) ?_
      refine lv_iconst (v := 2) hx hb dX6_addThing_55 (by decide) ?_
      refine lv_iload_n hx hb dX6_addThing_56 rfl (lv_at hl 0 rfl) ?_
      refine lv_imul hx hb dX6_addThing_57 ?_
      refine lv_iadd hx hb dX6_addThing_58 ?_
      refine lv_iload_n hx hb dX6_addThing_59 rfl (lv_at hl 2 rfl) ?_
      obtain ⟨hi_33, hf⟩ := ix_of hf
      refine va_iast hx hb hK.1 hP (hD0.addr rfl) hS 1 0 rfl rfl hi_33 dX6_addThing_60 (fun H locs hP hD hS => ?_)
      obtain ⟨al_34, eal_34⟩ : ∃ g : Nat → Int32, g = upd al ((28 : Int32) + ((2 : Int32) * v_32)).toNatClampNeg x1 := ⟨_, rfl⟩
      replace hf := nm_of eal_34 hf
      have hP : va_P X.1 vwCl (wMo X mo al_34 sv_28 sm_29 asd th_25 ho fr txt tl pos od nu su) H := by rw [eal_34]; exact hP
      refine lv_aload_n hx hb dX6_addThing_61 rfl (lv_at hl 1 rfl) ?_
      refine va_get (D := X.1) (ci := 6) (v := .ref (mo 1)) (C := RX6) (T := TX6) (N := 13) hx hb hts hiX6 hown hK.1 hP 0 rfl rfl 0 (by decide) k7 (fun _ h9 => h9) rfl dX6_addThing_62 ?_
      refine lv_bipush (v := 28) hx hb dX6_addThing_65 (by decide) ?_
      refine lv_iconst (v := 2) hx hb dX6_addThing_67 (by decide) ?_
      refine lv_iload_n hx hb dX6_addThing_68 rfl (lv_at hl 0 rfl) ?_
      refine lv_imul hx hb dX6_addThing_69 ?_
      refine lv_iadd hx hb dX6_addThing_70 ?_
      refine lv_iconst (v := 1) hx hb dX6_addThing_71 (by decide) ?_
      refine lv_iadd hx hb dX6_addThing_72 ?_
      refine lv_iload_n hx hb dX6_addThing_73 rfl (lv_at hl 3 rfl) ?_
      obtain ⟨hi_35, hf⟩ := ix_of hf
      refine va_iast hx hb hK.1 hP (hD0.addr rfl) hS 1 0 rfl rfl hi_35 dX6_addThing_74 (fun H locs hP hD hS => ?_)
      obtain ⟨al_36, eal_36⟩ : ∃ g : Nat → Int32, g = upd al_34 (((28 : Int32) + ((2 : Int32) * v_32)) + (1 : Int32)).toNatClampNeg x2 := ⟨_, rfl⟩
      replace hf := nm_of eal_36 hf
      have hP : va_P X.1 vwCl (wMo X mo al_36 sv_28 sm_29 asd th_25 ho fr txt tl pos od nu su) H := by rw [eal_36]; exact hP
      refine lv_aload_n hx hb dX6_addThing_75 rfl (lv_at hl 1 rfl) ?_
      refine va_get (D := X.1) (ci := 6) (v := .ref (mo 1)) (C := RX6) (T := TX6) (N := 13) hx hb hts hiX6 hown hK.1 hP 0 rfl rfl 0 (by decide) k7 (fun _ h9 => h9) rfl dX6_addThing_76 ?_
      refine lv_iconst (v := 4) hx hb dX6_addThing_79 (by decide) ?_
      refine lv_dup2_11 hx hb dX6_addThing_80 rfl rfl ?_
      obtain ⟨hi_37, hf⟩ := ix_of hf
      refine va_iald hx hb hK.1 hP 1 0 rfl rfl hi_37 dX6_addThing_81 ?_
      refine lv_iconst (v := 1) hx hb dX6_addThing_82 (by decide) ?_
      refine lv_iadd hx hb dX6_addThing_83 ?_
      refine lv_topi (fun v_38 ev_38 => ?_)
      replace hf := nm_of ev_38 hf
      obtain ⟨hi_39, hf⟩ := ix_of hf
      refine va_iast hx hb hK.1 hP (hD0.addr rfl) hS 1 0 rfl rfl hi_39 dX6_addThing_84 (fun H locs hP hD hS => ?_)
      obtain ⟨al_40, eal_40⟩ : ∃ g : Nat → Int32, g = upd al_36 (4 : Int32).toNatClampNeg v_38 := ⟨_, rfl⟩
      replace hf := nm_of eal_40 hf
      have hP : va_P X.1 vwCl (wMo X mo al_40 sv_28 sm_29 asd th_25 ho fr txt tl pos od nu su) H := by rw [eal_40]; exact hP
      refine lv_iload_n hx hb dX6_addThing_85 rfl (lv_at hl 0 rfl) ?_
      cases hf
      exact fn_iret hx hb hr hlocks hP hS dX6_addThing_86
    · replace hf := fp_t c_27 hf
      refine lv_iconst (v := 0) hx hb dX6_addThing_36 (by decide) ?_
      cases hf
      exact fn_iret hx hb hr hlocks hP hS dX6_addThing_37

def f_X6_exchange (x1 : Int32) (x2 : Int32) (al : (Nat → Int32)) (sv : (Nat → Int32)) (sm : Int32) : Option (Int32 × (Nat → Int32) × (Nat → Int32) × Int32) :=
  bd2 (f_X6_save al sv sm) (fun sv_1 sm_2 =>
  ix x1 320 (
  nm (al x1.toNatClampNeg) (fun v_5 =>
  ix x1 320 (
  nm (upd al x1.toNatClampNeg x2) (fun al_7 =>
  some (v_5, al_7, sv_1, sm_2))))))
set_option maxHeartbeats 4000000 in
set_option maxRecDepth 100000 in
theorem c_X6_exchange (l : Launch) (X : cx_G) (mo : (Nat → Nat)) (al : (Nat → Int32)) (sv : (Nat → Int32)) (sm : Int32) (asd : (Nat → Int32)) (th : Int32) (ho : (Nat → Int32)) (fr : (Nat → Int32)) (txt : (Nat → Int32)) (tl : Int32) (pos : Int32) (od : Int32) (nu : (Nat → Int32)) (su : Int64) (x1 : Int32) (x2 : Int32) (r : Int32) (al' : (Nat → Int32)) (sv' : (Nat → Int32)) (sm' : Int32) (hf : f_X6_exchange x1 x2 al sv sm = some (r, al', sv', sm')) : Fn l yX6_exchange wsX6_exchange ({ frames := 1, cells := 0, slots := 0, locals := 21 } : Room) X [.ref (mo 0), .int x1, .int x2] (wMo X mo al sv sm asd th ho fr txt tl pos od nu su) (some (.int r)) (wMo X mo al' sv' sm' asd th ho fr txt tl pos od nu su) := by
  refine fn_intro (cc := cX6_exchange) (maxL := 4) (ret := (some .int)) (by decide) rfl rfl (Nat.le_of_ble_eq_true rfl) ?_
  intro p e s m args below meth c A ls hx hb hml hr hts hown hlocks hK hP hD0 hS hA hl
  have hown : s.vm.findClass RX6 = some m.cls := hown
  have hl : lv_has ls 4 [(0, .ref (mo 0)), (1, .int x1), (2, .int x2)] := hl
  have hiX6 : ∀ w ∈ u_ws RX6 TX6 13, w ∈ wsX6_exchange := by decide +kernel
  have k7 := hts (.fieldLink RX6 7 "LentRightsModel" "all" "[I") (by decide +kernel)
  unfold f_X6_exchange at hf
  refine lv_aload_n hx hb dX6_exchange_0 rfl (lv_at hl 0 rfl) ?_
  obtain ⟨sv_1, sm_2, hc_3, hf⟩ := bd2_of hf
  refine fn_V (v := none) (As := []) (rest := []) (st1 := []) (ws' := (wMo X mo al sv_1 sm_2 asd th ho fr txt tl pos od nu su)) (nL := 4) ⟨hx, hb, hml, hown, hts⟩ (c_X6_save l X mo al sv sm asd th ho fr txt tl pos od nu su sv_1 sm_2 hc_3) (cwV 0 hts gX6_exchange_X6_save rfl rfl rfl (by decide +kernel) ⟨Nat.le_of_ble_eq_true rfl, Nat.le_of_ble_eq_true rfl⟩) 6 rfl rfl rfl rfl hl.1 rfl (Nat.le_of_ble_eq_true rfl) dX6_exchange_1 hK hP (hD0.addr rfl) hS hA [0, 1, 2, 3, 4, 5, 6, 7] rfl rfl rfl rfl ⟨Nat.zero_le _, Nat.zero_le _⟩ (fun H locs hP hD hS => ?_)
  refine lv_aload_n hx hb dX6_exchange_4 rfl (lv_at hl 0 rfl) ?_
  refine va_get (D := X.1) (ci := 6) (v := .ref (mo 1)) (C := RX6) (T := TX6) (N := 13) hx hb hts hiX6 hown hK.1 hP 0 rfl rfl 0 (by decide) k7 (fun _ h9 => h9) rfl dX6_exchange_5 ?_
  refine lv_iload_n hx hb dX6_exchange_8 rfl (lv_at hl 1 rfl) ?_
  obtain ⟨hi_4, hf⟩ := ix_of hf
  refine va_iald hx hb hK.1 hP 1 0 rfl rfl hi_4 dX6_exchange_9 ?_
  refine lv_topi (fun v_5 ev_5 => ?_)
  replace hf := nm_of ev_5 hf
  refine lv_istore_n (lv' := [(3, .int v_5), (0, .ref (mo 0)), (1, .int x1), (2, .int x2)]) hx hb dX6_exchange_10 rfl hl (by decide) rfl (fun ls hl => ?_)
  refine lv_aload_n hx hb dX6_exchange_11 rfl (lv_at hl 1 rfl) ?_
  refine va_get (D := X.1) (ci := 6) (v := .ref (mo 1)) (C := RX6) (T := TX6) (N := 13) hx hb hts hiX6 hown hK.1 hP 0 rfl rfl 0 (by decide) k7 (fun _ h9 => h9) rfl dX6_exchange_12 ?_
  refine lv_iload_n hx hb dX6_exchange_15 rfl (lv_at hl 2 rfl) ?_
  refine lv_iload_n hx hb dX6_exchange_16 rfl (lv_at hl 3 rfl) ?_
  obtain ⟨hi_6, hf⟩ := ix_of hf
  refine va_iast hx hb hK.1 hP (hD0.addr rfl) hS 1 0 rfl rfl hi_6 dX6_exchange_17 (fun H locs hP hD hS => ?_)
  obtain ⟨al_7, eal_7⟩ : ∃ g : Nat → Int32, g = upd al x1.toNatClampNeg x2 := ⟨_, rfl⟩
  replace hf := nm_of eal_7 hf
  have hP : va_P X.1 vwCl (wMo X mo al_7 sv_1 sm_2 asd th ho fr txt tl pos od nu su) H := by rw [eal_7]; exact hP
  refine lv_iload_n hx hb dX6_exchange_18 rfl (lv_at hl 0 rfl) ?_
  cases hf
  exact fn_iret hx hb hr hlocks hP hS dX6_exchange_19

def f_X6_setMask (x1 : Int32) (x2 : Int32) (al : (Nat → Int32)) (sv : (Nat → Int32)) (sm : Int32) (th : Int32) : Option (Int32 × (Nat → Int32) × (Nat → Int32) × Int32 × Int32) :=
  bd (f_X6_isThing x1 al) (fun r_1 =>
  bd (f_X6_in x2.toInt64 (0 : Int64) (7 : Int64)) (fun r_3 =>
  bd2 (f_X6_goes r_1 r_3 (1 : Int32) th) (fun r_5 th_6 =>
  if r_5 = (0 : Int32) then
  (some ((0 : Int32), al, sv, sm, th_6))
  else
  (bd4 (f_X6_exchange (((28 : Int32) + ((2 : Int32) * x1)) + (1 : Int32)) x2 al sv sm) (fun r_9 al_10 sv_11 sm_12 =>
  some (r_9, al_10, sv_11, sm_12, th_6))))))
set_option maxHeartbeats 4000000 in
set_option maxRecDepth 100000 in
theorem c_X6_setMask (l : Launch) (X : cx_G) (mo : (Nat → Nat)) (al : (Nat → Int32)) (sv : (Nat → Int32)) (sm : Int32) (asd : (Nat → Int32)) (th : Int32) (ho : (Nat → Int32)) (fr : (Nat → Int32)) (txt : (Nat → Int32)) (tl : Int32) (pos : Int32) (od : Int32) (nu : (Nat → Int32)) (su : Int64) (x1 : Int32) (x2 : Int32) (r : Int32) (al' : (Nat → Int32)) (sv' : (Nat → Int32)) (sm' : Int32) (th' : Int32) (hf : f_X6_setMask x1 x2 al sv sm th = some (r, al', sv', sm', th')) : Fn l yX6_setMask wsX6_setMask ({ frames := 2, cells := 0, slots := 0, locals := 46 } : Room) X [.ref (mo 0), .int x1, .int x2] (wMo X mo al sv sm asd th ho fr txt tl pos od nu su) (some (.int r)) (wMo X mo al' sv' sm' asd th' ho fr txt tl pos od nu su) := by
  refine fn_intro (cc := cX6_setMask) (maxL := 3) (ret := (some .int)) (by decide) rfl rfl (Nat.le_of_ble_eq_true rfl) ?_
  intro p e s m args below meth c A ls hx hb hml hr hts hown hlocks hK hP hD0 hS hA hl
  have hown : s.vm.findClass RX6 = some m.cls := hown
  have hl : lv_has ls 3 [(0, .ref (mo 0)), (1, .int x1), (2, .int x2)] := hl
  unfold f_X6_setMask at hf
  refine lv_aload_n hx hb dX6_setMask_0 rfl (lv_at hl 0 rfl) ?_
  refine lv_aload_n hx hb dX6_setMask_1 rfl (lv_at hl 0 rfl) ?_
  refine lv_iload_n hx hb dX6_setMask_2 rfl (lv_at hl 1 rfl) ?_
  obtain ⟨r_1, hc_2, hf⟩ := bd_of hf
  refine fn_V (v := some (.int r_1)) (As := [.int x1]) (rest := [.ref (mo 0)]) (st1 := [.int r_1, .ref (mo 0)]) (ws' := (wMo X mo al sv sm asd th ho fr txt tl pos od nu su)) (nL := 3) ⟨hx, hb, hml, hown, hts⟩ (c_X6_isThing l X mo al sv sm asd th ho fr txt tl pos od nu su x1 r_1 hc_2) (cwV 1 hts gX6_setMask_X6_isThing rfl rfl rfl (by decide +kernel) ⟨Nat.le_of_ble_eq_true rfl, Nat.le_of_ble_eq_true rfl⟩) 6 rfl rfl rfl rfl hl.1 rfl (Nat.le_of_ble_eq_true rfl) dX6_setMask_3 hK hP (hD0.addr rfl) hS hA [0, 1, 2, 3, 4, 5, 6, 7] rfl rfl rfl rfl ⟨Nat.zero_le _, Nat.zero_le _⟩ (fun H locs hP hD hS => ?_)
  refine lv_iload_n hx hb dX6_setMask_6 rfl (lv_at hl 2 rfl) ?_
  refine lv_i2l (v := x2.toInt64) hx hb dX6_setMask_7 rfl ?_
  refine lv_lconst (v := 0) hx hb dX6_setMask_8 (by decide) ?_
  refine lv_ldc2 hx hb hown (hts (.constantLong RX6 80 (7)) (by decide +kernel)) dX6_setMask_9 ?_
  obtain ⟨r_3, hc_4, hf⟩ := bd_of hf
  refine fn_Sx (v := some (.int r_3)) (As := [.long x2.toInt64, .long (0 : Int64), .long (7 : Int64)]) (rest := [.int r_1, .ref (mo 0)]) (st1 := [.int r_3, .int r_1, .ref (mo 0)]) (ws' := (wMo X mo al sv sm asd th ho fr txt tl pos od nu su)) (nL := 3) ⟨hx, hb, hml, hown, hts⟩ (c_X6_in l X x2.toInt64 (0 : Int64) (7 : Int64) r_3 hc_4) (va_cwS 3 hts gX6_setMask_X6_in rfl rfl rfl (by decide +kernel) ⟨Nat.le_of_ble_eq_true rfl, Nat.le_of_ble_eq_true rfl⟩) rfl hl.1 rfl (Nat.le_of_ble_eq_true rfl) dX6_setMask_12 hK hP (hD0.addr rfl) hS hA [] rfl rfl rfl rfl ⟨Nat.zero_le _, Nat.zero_le _⟩ (fun H locs hP hD hS => ?_)
  refine lv_iconst (v := 1) hx hb dX6_setMask_15 (by decide) ?_
  obtain ⟨r_5, th_6, hc_7, hf⟩ := bd2_of hf
  refine fn_V (v := some (.int r_5)) (As := [.int r_1, .int r_3, .int (1 : Int32)]) (rest := []) (st1 := [.int r_5]) (ws' := (wMo X mo al sv sm asd th_6 ho fr txt tl pos od nu su)) (nL := 3) ⟨hx, hb, hml, hown, hts⟩ (c_X6_goes l X mo al sv sm asd th ho fr txt tl pos od nu su r_1 r_3 (1 : Int32) r_5 th_6 hc_7) (cwV 3 hts gX6_setMask_X6_goes rfl rfl rfl (by decide +kernel) ⟨Nat.le_of_ble_eq_true rfl, Nat.le_of_ble_eq_true rfl⟩) 6 rfl rfl rfl rfl hl.1 rfl (Nat.le_of_ble_eq_true rfl) dX6_setMask_16 hK hP (hD0.addr rfl) hS hA [0, 1, 2, 3, 4, 5, 6, 7] rfl rfl rfl rfl ⟨Nat.zero_le _, Nat.zero_le _⟩ (fun H locs hP hD hS => ?_)
  refine lv_if_eq (tgt := 38) hx hb dX6_setMask_19 (by decide) (fun c_8 => ?_) (fun c_8 => ?_)
  · replace hf := fp_t c_8 hf
    refine lv_iconst (v := 0) hx hb dX6_setMask_38 (by decide) ?_
    cases hf
    exact fn_iret hx hb hr hlocks hP hS dX6_setMask_39
  · replace hf := fp_f c_8 hf
    refine lv_aload_n hx hb dX6_setMask_22 rfl (lv_at hl 0 rfl) ?_
    refine lv_bipush (v := 28) hx hb dX6_setMask_23 (by decide) ?_
    refine lv_iconst (v := 2) hx hb dX6_setMask_25 (by decide) ?_
    refine lv_iload_n hx hb dX6_setMask_26 rfl (lv_at hl 1 rfl) ?_
    refine lv_imul hx hb dX6_setMask_27 ?_
    refine lv_iadd hx hb dX6_setMask_28 ?_
    refine lv_iconst (v := 1) hx hb dX6_setMask_29 (by decide) ?_
    refine lv_iadd hx hb dX6_setMask_30 ?_
    refine lv_iload_n hx hb dX6_setMask_31 rfl (lv_at hl 2 rfl) ?_
    obtain ⟨r_9, al_10, sv_11, sm_12, hc_13, hf⟩ := bd4_of hf
    refine fn_V (v := some (.int r_9)) (As := [.int (((28 : Int32) + ((2 : Int32) * x1)) + (1 : Int32)), .int x2]) (rest := []) (st1 := [.int r_9]) (ws' := (wMo X mo al_10 sv_11 sm_12 asd th_6 ho fr txt tl pos od nu su)) (nL := 3) ⟨hx, hb, hml, hown, hts⟩ (c_X6_exchange l X mo al sv sm asd th_6 ho fr txt tl pos od nu su (((28 : Int32) + ((2 : Int32) * x1)) + (1 : Int32)) x2 r_9 al_10 sv_11 sm_12 hc_13) (cwV 2 hts gX6_setMask_X6_exchange rfl rfl rfl (by decide +kernel) ⟨Nat.le_of_ble_eq_true rfl, Nat.le_of_ble_eq_true rfl⟩) 6 rfl rfl rfl rfl hl.1 rfl (Nat.le_of_ble_eq_true rfl) dX6_setMask_32 hK hP (hD0.addr rfl) hS hA [0, 1, 2, 3, 4, 5, 6, 7] rfl rfl rfl rfl ⟨Nat.zero_le _, Nat.zero_le _⟩ (fun H locs hP hD hS => ?_)
    refine lv_goto (tgt := 39) hx hb dX6_setMask_35 (by decide) ?_
    cases hf
    exact fn_iret hx hb hr hlocks hP hS dX6_setMask_39

def f_X6_setBase (x1 : Int32) (x2 : Int32) (al : (Nat → Int32)) (sv : (Nat → Int32)) (sm : Int32) (th : Int32) : Option (Int32 × (Nat → Int32) × (Nat → Int32) × Int32 × Int32) :=
  bd (f_X6_isPerson x1) (fun r_1 =>
  bd (f_X6_in x2.toInt64 (0 : Int64) (100 : Int64)) (fun r_3 =>
  bd2 (f_X6_goes r_1 r_3 (1 : Int32) th) (fun r_5 th_6 =>
  if r_5 = (0 : Int32) then
  (some ((0 : Int32), al, sv, sm, th_6))
  else
  (bd4 (f_X6_exchange ((18 : Int32) + x1) x2 al sv sm) (fun r_9 al_10 sv_11 sm_12 =>
  some (r_9, al_10, sv_11, sm_12, th_6))))))
set_option maxHeartbeats 4000000 in
set_option maxRecDepth 100000 in
theorem c_X6_setBase (l : Launch) (X : cx_G) (mo : (Nat → Nat)) (al : (Nat → Int32)) (sv : (Nat → Int32)) (sm : Int32) (asd : (Nat → Int32)) (th : Int32) (ho : (Nat → Int32)) (fr : (Nat → Int32)) (txt : (Nat → Int32)) (tl : Int32) (pos : Int32) (od : Int32) (nu : (Nat → Int32)) (su : Int64) (x1 : Int32) (x2 : Int32) (r : Int32) (al' : (Nat → Int32)) (sv' : (Nat → Int32)) (sm' : Int32) (th' : Int32) (hf : f_X6_setBase x1 x2 al sv sm th = some (r, al', sv', sm', th')) : Fn l yX6_setBase wsX6_setBase ({ frames := 2, cells := 0, slots := 0, locals := 45 } : Room) X [.ref (mo 0), .int x1, .int x2] (wMo X mo al sv sm asd th ho fr txt tl pos od nu su) (some (.int r)) (wMo X mo al' sv' sm' asd th' ho fr txt tl pos od nu su) := by
  refine fn_intro (cc := cX6_setBase) (maxL := 3) (ret := (some .int)) (by decide) rfl rfl (Nat.le_of_ble_eq_true rfl) ?_
  intro p e s m args below meth c A ls hx hb hml hr hts hown hlocks hK hP hD0 hS hA hl
  have hown : s.vm.findClass RX6 = some m.cls := hown
  have hl : lv_has ls 3 [(0, .ref (mo 0)), (1, .int x1), (2, .int x2)] := hl
  unfold f_X6_setBase at hf
  refine lv_aload_n hx hb dX6_setBase_0 rfl (lv_at hl 0 rfl) ?_
  refine lv_iload_n hx hb dX6_setBase_1 rfl (lv_at hl 1 rfl) ?_
  obtain ⟨r_1, hc_2, hf⟩ := bd_of hf
  refine fn_Sx (v := some (.int r_1)) (As := [.int x1]) (rest := [.ref (mo 0)]) (st1 := [.int r_1, .ref (mo 0)]) (ws' := (wMo X mo al sv sm asd th ho fr txt tl pos od nu su)) (nL := 3) ⟨hx, hb, hml, hown, hts⟩ (c_X6_isPerson l X x1 r_1 hc_2) (va_cwS 1 hts gX6_setBase_X6_isPerson rfl rfl rfl (by decide +kernel) ⟨Nat.le_of_ble_eq_true rfl, Nat.le_of_ble_eq_true rfl⟩) rfl hl.1 rfl (Nat.le_of_ble_eq_true rfl) dX6_setBase_2 hK hP (hD0.addr rfl) hS hA [] rfl rfl rfl rfl ⟨Nat.zero_le _, Nat.zero_le _⟩ (fun H locs hP hD hS => ?_)
  refine lv_iload_n hx hb dX6_setBase_5 rfl (lv_at hl 2 rfl) ?_
  refine lv_i2l (v := x2.toInt64) hx hb dX6_setBase_6 rfl ?_
  refine lv_lconst (v := 0) hx hb dX6_setBase_7 (by decide) ?_
  refine lv_ldc2 hx hb hown (hts (.constantLong RX6 95 (100)) (by decide +kernel)) dX6_setBase_8 ?_
  obtain ⟨r_3, hc_4, hf⟩ := bd_of hf
  refine fn_Sx (v := some (.int r_3)) (As := [.long x2.toInt64, .long (0 : Int64), .long (100 : Int64)]) (rest := [.int r_1, .ref (mo 0)]) (st1 := [.int r_3, .int r_1, .ref (mo 0)]) (ws' := (wMo X mo al sv sm asd th ho fr txt tl pos od nu su)) (nL := 3) ⟨hx, hb, hml, hown, hts⟩ (c_X6_in l X x2.toInt64 (0 : Int64) (100 : Int64) r_3 hc_4) (va_cwS 3 hts gX6_setBase_X6_in rfl rfl rfl (by decide +kernel) ⟨Nat.le_of_ble_eq_true rfl, Nat.le_of_ble_eq_true rfl⟩) rfl hl.1 rfl (Nat.le_of_ble_eq_true rfl) dX6_setBase_11 hK hP (hD0.addr rfl) hS hA [] rfl rfl rfl rfl ⟨Nat.zero_le _, Nat.zero_le _⟩ (fun H locs hP hD hS => ?_)
  refine lv_iconst (v := 1) hx hb dX6_setBase_14 (by decide) ?_
  obtain ⟨r_5, th_6, hc_7, hf⟩ := bd2_of hf
  refine fn_V (v := some (.int r_5)) (As := [.int r_1, .int r_3, .int (1 : Int32)]) (rest := []) (st1 := [.int r_5]) (ws' := (wMo X mo al sv sm asd th_6 ho fr txt tl pos od nu su)) (nL := 3) ⟨hx, hb, hml, hown, hts⟩ (c_X6_goes l X mo al sv sm asd th ho fr txt tl pos od nu su r_1 r_3 (1 : Int32) r_5 th_6 hc_7) (cwV 3 hts gX6_setBase_X6_goes rfl rfl rfl (by decide +kernel) ⟨Nat.le_of_ble_eq_true rfl, Nat.le_of_ble_eq_true rfl⟩) 6 rfl rfl rfl rfl hl.1 rfl (Nat.le_of_ble_eq_true rfl) dX6_setBase_15 hK hP (hD0.addr rfl) hS hA [0, 1, 2, 3, 4, 5, 6, 7] rfl rfl rfl rfl ⟨Nat.zero_le _, Nat.zero_le _⟩ (fun H locs hP hD hS => ?_)
  refine lv_if_eq (tgt := 33) hx hb dX6_setBase_18 (by decide) (fun c_8 => ?_) (fun c_8 => ?_)
  · replace hf := fp_t c_8 hf
    refine lv_iconst (v := 0) hx hb dX6_setBase_33 (by decide) ?_
    cases hf
    exact fn_iret hx hb hr hlocks hP hS dX6_setBase_34
  · replace hf := fp_f c_8 hf
    refine lv_aload_n hx hb dX6_setBase_21 rfl (lv_at hl 0 rfl) ?_
    refine lv_bipush (v := 18) hx hb dX6_setBase_22 (by decide) ?_
    refine lv_iload_n hx hb dX6_setBase_24 rfl (lv_at hl 1 rfl) ?_
    refine lv_iadd hx hb dX6_setBase_25 ?_
    refine lv_iload_n hx hb dX6_setBase_26 rfl (lv_at hl 2 rfl) ?_
    obtain ⟨r_9, al_10, sv_11, sm_12, hc_13, hf⟩ := bd4_of hf
    refine fn_V (v := some (.int r_9)) (As := [.int ((18 : Int32) + x1), .int x2]) (rest := []) (st1 := [.int r_9]) (ws' := (wMo X mo al_10 sv_11 sm_12 asd th_6 ho fr txt tl pos od nu su)) (nL := 3) ⟨hx, hb, hml, hown, hts⟩ (c_X6_exchange l X mo al sv sm asd th_6 ho fr txt tl pos od nu su ((18 : Int32) + x1) x2 r_9 al_10 sv_11 sm_12 hc_13) (cwV 2 hts gX6_setBase_X6_exchange rfl rfl rfl (by decide +kernel) ⟨Nat.le_of_ble_eq_true rfl, Nat.le_of_ble_eq_true rfl⟩) 6 rfl rfl rfl rfl hl.1 rfl (Nat.le_of_ble_eq_true rfl) dX6_setBase_27 hK hP (hD0.addr rfl) hS hA [0, 1, 2, 3, 4, 5, 6, 7] rfl rfl rfl rfl ⟨Nat.zero_le _, Nat.zero_le _⟩ (fun H locs hP hD hS => ?_)
    refine lv_goto (tgt := 34) hx hb dX6_setBase_30 (by decide) ?_
    cases hf
    exact fn_iret hx hb hr hlocks hP hS dX6_setBase_34

def f_X6_give (x1 : Int32) (x2 : Int32) (al : (Nat → Int32)) (sv : (Nat → Int32)) (sm : Int32) (th : Int32) : Option (Int32 × (Nat → Int32) × (Nat → Int32) × Int32 × Int32) :=
  bd (f_X6_isThing x1 al) (fun r_1 =>
  if r_1 = (0 : Int32) then
  (bd2 (f_X6_goes (0 : Int32) (1 : Int32) (1 : Int32) th) (fun r_4 th_5 =>
  if r_4 = (0 : Int32) then
  (some ((0 : Int32), al, sv, sm, th_5))
  else
  (bd4 (f_X6_exchange ((28 : Int32) + ((2 : Int32) * x1)) x2 al sv sm) (fun r_8 al_9 sv_10 sm_11 =>
  some (r_8, al_9, sv_10, sm_11, th_5)))))
  else
  (bd (f_X6_isPerson x2) (fun r_13 =>
  if r_13 = (0 : Int32) then
  (bd2 (f_X6_goes (0 : Int32) (1 : Int32) (1 : Int32) th) (fun r_16 th_17 =>
  if r_16 = (0 : Int32) then
  (some ((0 : Int32), al, sv, sm, th_17))
  else
  (bd4 (f_X6_exchange ((28 : Int32) + ((2 : Int32) * x1)) x2 al sv sm) (fun r_20 al_21 sv_22 sm_23 =>
  some (r_20, al_21, sv_22, sm_23, th_17)))))
  else
  (bd2 (f_X6_goes (1 : Int32) (1 : Int32) (1 : Int32) th) (fun r_25 th_26 =>
  if r_25 = (0 : Int32) then
  (some ((0 : Int32), al, sv, sm, th_26))
  else
  (bd4 (f_X6_exchange ((28 : Int32) + ((2 : Int32) * x1)) x2 al sv sm) (fun r_29 al_30 sv_31 sm_32 =>
  some (r_29, al_30, sv_31, sm_32, th_26))))))))
set_option maxHeartbeats 4000000 in
set_option maxRecDepth 100000 in
theorem c_X6_give (l : Launch) (X : cx_G) (mo : (Nat → Nat)) (al : (Nat → Int32)) (sv : (Nat → Int32)) (sm : Int32) (asd : (Nat → Int32)) (th : Int32) (ho : (Nat → Int32)) (fr : (Nat → Int32)) (txt : (Nat → Int32)) (tl : Int32) (pos : Int32) (od : Int32) (nu : (Nat → Int32)) (su : Int64) (x1 : Int32) (x2 : Int32) (r : Int32) (al' : (Nat → Int32)) (sv' : (Nat → Int32)) (sm' : Int32) (th' : Int32) (hf : f_X6_give x1 x2 al sv sm th = some (r, al', sv', sm', th')) : Fn l yX6_give wsX6_give ({ frames := 2, cells := 0, slots := 0, locals := 46 } : Room) X [.ref (mo 0), .int x1, .int x2] (wMo X mo al sv sm asd th ho fr txt tl pos od nu su) (some (.int r)) (wMo X mo al' sv' sm' asd th' ho fr txt tl pos od nu su) := by
  refine fn_intro (cc := cX6_give) (maxL := 3) (ret := (some .int)) (by decide) rfl rfl (Nat.le_of_ble_eq_true rfl) ?_
  intro p e s m args below meth c A ls hx hb hml hr hts hown hlocks hK hP hD0 hS hA hl
  have hown : s.vm.findClass RX6 = some m.cls := hown
  have hl : lv_has ls 3 [(0, .ref (mo 0)), (1, .int x1), (2, .int x2)] := hl
  unfold f_X6_give at hf
  refine lv_aload_n hx hb dX6_give_0 rfl (lv_at hl 0 rfl) ?_
  refine lv_aload_n hx hb dX6_give_1 rfl (lv_at hl 0 rfl) ?_
  refine lv_iload_n hx hb dX6_give_2 rfl (lv_at hl 1 rfl) ?_
  obtain ⟨r_1, hc_2, hf⟩ := bd_of hf
  refine fn_V (v := some (.int r_1)) (As := [.int x1]) (rest := [.ref (mo 0)]) (st1 := [.int r_1, .ref (mo 0)]) (ws' := (wMo X mo al sv sm asd th ho fr txt tl pos od nu su)) (nL := 3) ⟨hx, hb, hml, hown, hts⟩ (c_X6_isThing l X mo al sv sm asd th ho fr txt tl pos od nu su x1 r_1 hc_2) (cwV 1 hts gX6_give_X6_isThing rfl rfl rfl (by decide +kernel) ⟨Nat.le_of_ble_eq_true rfl, Nat.le_of_ble_eq_true rfl⟩) 6 rfl rfl rfl rfl hl.1 rfl (Nat.le_of_ble_eq_true rfl) dX6_give_3 hK hP (hD0.addr rfl) hS hA [0, 1, 2, 3, 4, 5, 6, 7] rfl rfl rfl rfl ⟨Nat.zero_le _, Nat.zero_le _⟩ (fun H locs hP hD hS => ?_)
  refine lv_if_eq (tgt := 20) hx hb dX6_give_6 (by decide) (fun c_3 => ?_) (fun c_3 => ?_)
  · replace hf := fp_t c_3 hf
    refine lv_iconst (v := 0) hx hb dX6_give_20 (by decide) ?_
    refine lv_iconst (v := 1) hx hb dX6_give_21 (by decide) ?_
    refine lv_iconst (v := 1) hx hb dX6_give_22 (by decide) ?_
    obtain ⟨r_4, th_5, hc_6, hf⟩ := bd2_of hf
    refine fn_V (v := some (.int r_4)) (As := [.int (0 : Int32), .int (1 : Int32), .int (1 : Int32)]) (rest := []) (st1 := [.int r_4]) (ws' := (wMo X mo al sv sm asd th_5 ho fr txt tl pos od nu su)) (nL := 3) ⟨hx, hb, hml, hown, hts⟩ (c_X6_goes l X mo al sv sm asd th ho fr txt tl pos od nu su (0 : Int32) (1 : Int32) (1 : Int32) r_4 th_5 hc_6) (cwV 3 hts gX6_give_X6_goes rfl rfl rfl (by decide +kernel) ⟨Nat.le_of_ble_eq_true rfl, Nat.le_of_ble_eq_true rfl⟩) 6 rfl rfl rfl rfl hl.1 rfl (Nat.le_of_ble_eq_true rfl) dX6_give_23 hK hP (hD0.addr rfl) hS hA [0, 1, 2, 3, 4, 5, 6, 7] rfl rfl rfl rfl ⟨Nat.zero_le _, Nat.zero_le _⟩ (fun H locs hP hD hS => ?_)
    refine lv_if_eq (tgt := 43) hx hb dX6_give_26 (by decide) (fun c_7 => ?_) (fun c_7 => ?_)
    · replace hf := fp_t c_7 hf
      refine lv_iconst (v := 0) hx hb dX6_give_43 (by decide) ?_
      cases hf
      exact fn_iret hx hb hr hlocks hP hS dX6_give_44
    · replace hf := fp_f c_7 hf
      refine lv_aload_n hx hb dX6_give_29 rfl (lv_at hl 0 rfl) ?_
      refine lv_bipush (v := 28) hx hb dX6_give_30 (by decide) ?_
      refine lv_iconst (v := 2) hx hb dX6_give_32 (by decide) ?_
      refine lv_iload_n hx hb dX6_give_33 rfl (lv_at hl 1 rfl) ?_
      refine lv_imul hx hb dX6_give_34 ?_
      refine lv_iadd hx hb dX6_give_35 ?_
      refine lv_iload_n hx hb dX6_give_36 rfl (lv_at hl 2 rfl) ?_
      obtain ⟨r_8, al_9, sv_10, sm_11, hc_12, hf⟩ := bd4_of hf
      refine fn_V (v := some (.int r_8)) (As := [.int ((28 : Int32) + ((2 : Int32) * x1)), .int x2]) (rest := []) (st1 := [.int r_8]) (ws' := (wMo X mo al_9 sv_10 sm_11 asd th_5 ho fr txt tl pos od nu su)) (nL := 3) ⟨hx, hb, hml, hown, hts⟩ (c_X6_exchange l X mo al sv sm asd th_5 ho fr txt tl pos od nu su ((28 : Int32) + ((2 : Int32) * x1)) x2 r_8 al_9 sv_10 sm_11 hc_12) (cwV 2 hts gX6_give_X6_exchange rfl rfl rfl (by decide +kernel) ⟨Nat.le_of_ble_eq_true rfl, Nat.le_of_ble_eq_true rfl⟩) 6 rfl rfl rfl rfl hl.1 rfl (Nat.le_of_ble_eq_true rfl) dX6_give_37 hK hP (hD0.addr rfl) hS hA [0, 1, 2, 3, 4, 5, 6, 7] rfl rfl rfl rfl ⟨Nat.zero_le _, Nat.zero_le _⟩ (fun H locs hP hD hS => ?_)
      refine lv_goto (tgt := 44) hx hb dX6_give_40 (by decide) ?_
      cases hf
      exact fn_iret hx hb hr hlocks hP hS dX6_give_44
  · replace hf := fp_f c_3 hf
    refine lv_iload_n hx hb dX6_give_9 rfl (lv_at hl 2 rfl) ?_
    obtain ⟨r_13, hc_14, hf⟩ := bd_of hf
    refine fn_Sx (v := some (.int r_13)) (As := [.int x2]) (rest := [.ref (mo 0)]) (st1 := [.int r_13, .ref (mo 0)]) (ws' := (wMo X mo al sv sm asd th ho fr txt tl pos od nu su)) (nL := 3) ⟨hx, hb, hml, hown, hts⟩ (c_X6_isPerson l X x2 r_13 hc_14) (va_cwS 1 hts gX6_give_X6_isPerson rfl rfl rfl (by decide +kernel) ⟨Nat.le_of_ble_eq_true rfl, Nat.le_of_ble_eq_true rfl⟩) rfl hl.1 rfl (Nat.le_of_ble_eq_true rfl) dX6_give_10 hK hP (hD0.addr rfl) hS hA [] rfl rfl rfl rfl ⟨Nat.zero_le _, Nat.zero_le _⟩ (fun H locs hP hD hS => ?_)
    refine lv_if_eq (tgt := 20) hx hb dX6_give_13 (by decide) (fun c_15 => ?_) (fun c_15 => ?_)
    · replace hf := fp_t c_15 hf
      refine lv_iconst (v := 0) hx hb dX6_give_20 (by decide) ?_
      refine lv_iconst (v := 1) hx hb dX6_give_21 (by decide) ?_
      refine lv_iconst (v := 1) hx hb dX6_give_22 (by decide) ?_
      obtain ⟨r_16, th_17, hc_18, hf⟩ := bd2_of hf
      refine fn_V (v := some (.int r_16)) (As := [.int (0 : Int32), .int (1 : Int32), .int (1 : Int32)]) (rest := []) (st1 := [.int r_16]) (ws' := (wMo X mo al sv sm asd th_17 ho fr txt tl pos od nu su)) (nL := 3) ⟨hx, hb, hml, hown, hts⟩ (c_X6_goes l X mo al sv sm asd th ho fr txt tl pos od nu su (0 : Int32) (1 : Int32) (1 : Int32) r_16 th_17 hc_18) (cwV 3 hts gX6_give_X6_goes rfl rfl rfl (by decide +kernel) ⟨Nat.le_of_ble_eq_true rfl, Nat.le_of_ble_eq_true rfl⟩) 6 rfl rfl rfl rfl hl.1 rfl (Nat.le_of_ble_eq_true rfl) dX6_give_23 hK hP (hD0.addr rfl) hS hA [0, 1, 2, 3, 4, 5, 6, 7] rfl rfl rfl rfl ⟨Nat.zero_le _, Nat.zero_le _⟩ (fun H locs hP hD hS => ?_)
      refine lv_if_eq (tgt := 43) hx hb dX6_give_26 (by decide) (fun c_19 => ?_) (fun c_19 => ?_)
      · replace hf := fp_t c_19 hf
        refine lv_iconst (v := 0) hx hb dX6_give_43 (by decide) ?_
        cases hf
        exact fn_iret hx hb hr hlocks hP hS dX6_give_44
      · replace hf := fp_f c_19 hf
        refine lv_aload_n hx hb dX6_give_29 rfl (lv_at hl 0 rfl) ?_
        refine lv_bipush (v := 28) hx hb dX6_give_30 (by decide) ?_
        refine lv_iconst (v := 2) hx hb dX6_give_32 (by decide) ?_
        refine lv_iload_n hx hb dX6_give_33 rfl (lv_at hl 1 rfl) ?_
        refine lv_imul hx hb dX6_give_34 ?_
        refine lv_iadd hx hb dX6_give_35 ?_
        refine lv_iload_n hx hb dX6_give_36 rfl (lv_at hl 2 rfl) ?_
        obtain ⟨r_20, al_21, sv_22, sm_23, hc_24, hf⟩ := bd4_of hf
        refine fn_V (v := some (.int r_20)) (As := [.int ((28 : Int32) + ((2 : Int32) * x1)), .int x2]) (rest := []) (st1 := [.int r_20]) (ws' := (wMo X mo al_21 sv_22 sm_23 asd th_17 ho fr txt tl pos od nu su)) (nL := 3) ⟨hx, hb, hml, hown, hts⟩ (c_X6_exchange l X mo al sv sm asd th_17 ho fr txt tl pos od nu su ((28 : Int32) + ((2 : Int32) * x1)) x2 r_20 al_21 sv_22 sm_23 hc_24) (cwV 2 hts gX6_give_X6_exchange rfl rfl rfl (by decide +kernel) ⟨Nat.le_of_ble_eq_true rfl, Nat.le_of_ble_eq_true rfl⟩) 6 rfl rfl rfl rfl hl.1 rfl (Nat.le_of_ble_eq_true rfl) dX6_give_37 hK hP (hD0.addr rfl) hS hA [0, 1, 2, 3, 4, 5, 6, 7] rfl rfl rfl rfl ⟨Nat.zero_le _, Nat.zero_le _⟩ (fun H locs hP hD hS => ?_)
        refine lv_goto (tgt := 44) hx hb dX6_give_40 (by decide) ?_
        cases hf
        exact fn_iret hx hb hr hlocks hP hS dX6_give_44
    · replace hf := fp_f c_15 hf
      refine lv_iconst (v := 1) hx hb dX6_give_16 (by decide) ?_
      refine lv_goto (tgt := 21) hx hb dX6_give_17 (by decide) ?_
      refine lv_iconst (v := 1) hx hb dX6_give_21 (by decide) ?_
      refine lv_iconst (v := 1) hx hb dX6_give_22 (by decide) ?_
      obtain ⟨r_25, th_26, hc_27, hf⟩ := bd2_of hf
      refine fn_V (v := some (.int r_25)) (As := [.int (1 : Int32), .int (1 : Int32), .int (1 : Int32)]) (rest := []) (st1 := [.int r_25]) (ws' := (wMo X mo al sv sm asd th_26 ho fr txt tl pos od nu su)) (nL := 3) ⟨hx, hb, hml, hown, hts⟩ (c_X6_goes l X mo al sv sm asd th ho fr txt tl pos od nu su (1 : Int32) (1 : Int32) (1 : Int32) r_25 th_26 hc_27) (cwV 3 hts gX6_give_X6_goes rfl rfl rfl (by decide +kernel) ⟨Nat.le_of_ble_eq_true rfl, Nat.le_of_ble_eq_true rfl⟩) 6 rfl rfl rfl rfl hl.1 rfl (Nat.le_of_ble_eq_true rfl) dX6_give_23 hK hP (hD0.addr rfl) hS hA [0, 1, 2, 3, 4, 5, 6, 7] rfl rfl rfl rfl ⟨Nat.zero_le _, Nat.zero_le _⟩ (fun H locs hP hD hS => ?_)
      refine lv_if_eq (tgt := 43) hx hb dX6_give_26 (by decide) (fun c_28 => ?_) (fun c_28 => ?_)
      · replace hf := fp_t c_28 hf
        refine lv_iconst (v := 0) hx hb dX6_give_43 (by decide) ?_
        cases hf
        exact fn_iret hx hb hr hlocks hP hS dX6_give_44
      · replace hf := fp_f c_28 hf
        refine lv_aload_n hx hb dX6_give_29 rfl (lv_at hl 0 rfl) ?_
        refine lv_bipush (v := 28) hx hb dX6_give_30 (by decide) ?_
        refine lv_iconst (v := 2) hx hb dX6_give_32 (by decide) ?_
        refine lv_iload_n hx hb dX6_give_33 rfl (lv_at hl 1 rfl) ?_
        refine lv_imul hx hb dX6_give_34 ?_
        refine lv_iadd hx hb dX6_give_35 ?_
        refine lv_iload_n hx hb dX6_give_36 rfl (lv_at hl 2 rfl) ?_
        obtain ⟨r_29, al_30, sv_31, sm_32, hc_33, hf⟩ := bd4_of hf
        refine fn_V (v := some (.int r_29)) (As := [.int ((28 : Int32) + ((2 : Int32) * x1)), .int x2]) (rest := []) (st1 := [.int r_29]) (ws' := (wMo X mo al_30 sv_31 sm_32 asd th_26 ho fr txt tl pos od nu su)) (nL := 3) ⟨hx, hb, hml, hown, hts⟩ (c_X6_exchange l X mo al sv sm asd th_26 ho fr txt tl pos od nu su ((28 : Int32) + ((2 : Int32) * x1)) x2 r_29 al_30 sv_31 sm_32 hc_33) (cwV 2 hts gX6_give_X6_exchange rfl rfl rfl (by decide +kernel) ⟨Nat.le_of_ble_eq_true rfl, Nat.le_of_ble_eq_true rfl⟩) 6 rfl rfl rfl rfl hl.1 rfl (Nat.le_of_ble_eq_true rfl) dX6_give_37 hK hP (hD0.addr rfl) hS hA [0, 1, 2, 3, 4, 5, 6, 7] rfl rfl rfl rfl ⟨Nat.zero_le _, Nat.zero_le _⟩ (fun H locs hP hD hS => ?_)
        refine lv_goto (tgt := 44) hx hb dX6_give_40 (by decide) ?_
        cases hf
        exact fn_iret hx hb hr hlocks hP hS dX6_give_44

def f_X6_arePersons (x1 : Int32) (x2 : Int32) (x3 : Int32) (al : (Nat → Int32)) : Option (Int32) :=
  bd (f_X6_isPerson x1) (fun r_1 =>
  if r_1 = (0 : Int32) then
  (some (0 : Int32))
  else
  (bd (f_X6_isPerson x2) (fun r_4 =>
  if r_4 = (0 : Int32) then
  (some (0 : Int32))
  else
  (bd (f_X6_isThing x3 al) (fun r_7 =>
  if r_7 = (0 : Int32) then
  (some (0 : Int32))
  else
  (some (1 : Int32)))))))
theorem z_X6_arePersons {x1 : Int32} {x2 : Int32} {x3 : Int32} {al : (Nat → Int32)} {r : Int32} (hf : f_X6_arePersons x1 x2 x3 al = some r) : r = 0 ∨ r = 1 := by
  unfold f_X6_arePersons at hf
  obtain ⟨r_1, hc_2, hf⟩ := bd_of hf
  by_cases c_3 : r_1 = (0 : Int32)
  · replace hf := fp_t c_3 hf
    cases hf
    exact Or.inl rfl
  · replace hf := fp_f c_3 hf
    obtain ⟨r_4, hc_5, hf⟩ := bd_of hf
    by_cases c_6 : r_4 = (0 : Int32)
    · replace hf := fp_t c_6 hf
      cases hf
      exact Or.inl rfl
    · replace hf := fp_f c_6 hf
      obtain ⟨r_7, hc_8, hf⟩ := bd_of hf
      by_cases c_9 : r_7 = (0 : Int32)
      · replace hf := fp_t c_9 hf
        cases hf
        exact Or.inl rfl
      · replace hf := fp_f c_9 hf
        cases hf
        exact Or.inr rfl
set_option maxHeartbeats 4000000 in
set_option maxRecDepth 100000 in
theorem c_X6_arePersons (l : Launch) (X : cx_G) (mo : (Nat → Nat)) (al : (Nat → Int32)) (sv : (Nat → Int32)) (sm : Int32) (asd : (Nat → Int32)) (th : Int32) (ho : (Nat → Int32)) (fr : (Nat → Int32)) (txt : (Nat → Int32)) (tl : Int32) (pos : Int32) (od : Int32) (nu : (Nat → Int32)) (su : Int64) (x1 : Int32) (x2 : Int32) (x3 : Int32) (r : Int32) (hf : f_X6_arePersons x1 x2 x3 al = some r) : Fn l yX6_arePersons wsX6_arePersons ({ frames := 2, cells := 0, slots := 0, locals := 46 } : Room) X [.ref (mo 0), .int x1, .int x2, .int x3] (wMo X mo al sv sm asd th ho fr txt tl pos od nu su) (some (.int r)) (wMo X mo al sv sm asd th ho fr txt tl pos od nu su) := by
  refine fn_intro (cc := cX6_arePersons) (maxL := 4) (ret := (some .boolean)) (by decide) rfl rfl (Nat.le_of_ble_eq_true rfl) ?_
  intro p e s m args below meth c A ls hx hb hml hr hts hown hlocks hK hP hD0 hS hA hl
  have hown : s.vm.findClass RX6 = some m.cls := hown
  have hl : lv_has ls 4 [(0, .ref (mo 0)), (1, .int x1), (2, .int x2), (3, .int x3)] := hl
  unfold f_X6_arePersons at hf
  refine lv_iload_n hx hb dX6_arePersons_0 rfl (lv_at hl 1 rfl) ?_
  obtain ⟨r_1, hc_2, hf⟩ := bd_of hf
  refine fn_Sx (v := some (.int r_1)) (As := [.int x1]) (rest := []) (st1 := [.int r_1]) (ws' := (wMo X mo al sv sm asd th ho fr txt tl pos od nu su)) (nL := 4) ⟨hx, hb, hml, hown, hts⟩ (c_X6_isPerson l X x1 r_1 hc_2) (va_cwS 1 hts gX6_arePersons_X6_isPerson rfl rfl rfl (by decide +kernel) ⟨Nat.le_of_ble_eq_true rfl, Nat.le_of_ble_eq_true rfl⟩) rfl hl.1 rfl (Nat.le_of_ble_eq_true rfl) dX6_arePersons_1 hK hP (hD0.addr rfl) hS hA [] rfl rfl rfl rfl ⟨Nat.zero_le _, Nat.zero_le _⟩ (fun H locs hP hD hS => ?_)
  refine lv_if_eq (tgt := 26) hx hb dX6_arePersons_4 (by decide) (fun c_3 => ?_) (fun c_3 => ?_)
  · replace hf := fp_t c_3 hf
    refine lv_iconst (v := 0) hx hb dX6_arePersons_26 (by decide) ?_
    cases hf
    exact fn_zret hx hb hr rfl hlocks hP hS dX6_arePersons_27
  · replace hf := fp_f c_3 hf
    refine lv_iload_n hx hb dX6_arePersons_7 rfl (lv_at hl 2 rfl) ?_
    obtain ⟨r_4, hc_5, hf⟩ := bd_of hf
    refine fn_Sx (v := some (.int r_4)) (As := [.int x2]) (rest := []) (st1 := [.int r_4]) (ws' := (wMo X mo al sv sm asd th ho fr txt tl pos od nu su)) (nL := 4) ⟨hx, hb, hml, hown, hts⟩ (c_X6_isPerson l X x2 r_4 hc_5) (va_cwS 1 hts gX6_arePersons_X6_isPerson rfl rfl rfl (by decide +kernel) ⟨Nat.le_of_ble_eq_true rfl, Nat.le_of_ble_eq_true rfl⟩) rfl hl.1 rfl (Nat.le_of_ble_eq_true rfl) dX6_arePersons_8 hK hP (hD0.addr rfl) hS hA [] rfl rfl rfl rfl ⟨Nat.zero_le _, Nat.zero_le _⟩ (fun H locs hP hD hS => ?_)
    refine lv_if_eq (tgt := 26) hx hb dX6_arePersons_11 (by decide) (fun c_6 => ?_) (fun c_6 => ?_)
    · replace hf := fp_t c_6 hf
      refine lv_iconst (v := 0) hx hb dX6_arePersons_26 (by decide) ?_
      cases hf
      exact fn_zret hx hb hr rfl hlocks hP hS dX6_arePersons_27
    · replace hf := fp_f c_6 hf
      refine lv_aload_n hx hb dX6_arePersons_14 rfl (lv_at hl 0 rfl) ?_
      refine lv_iload_n hx hb dX6_arePersons_15 rfl (lv_at hl 3 rfl) ?_
      obtain ⟨r_7, hc_8, hf⟩ := bd_of hf
      refine fn_V (v := some (.int r_7)) (As := [.int x3]) (rest := []) (st1 := [.int r_7]) (ws' := (wMo X mo al sv sm asd th ho fr txt tl pos od nu su)) (nL := 4) ⟨hx, hb, hml, hown, hts⟩ (c_X6_isThing l X mo al sv sm asd th ho fr txt tl pos od nu su x3 r_7 hc_8) (cwV 1 hts gX6_arePersons_X6_isThing rfl rfl rfl (by decide +kernel) ⟨Nat.le_of_ble_eq_true rfl, Nat.le_of_ble_eq_true rfl⟩) 6 rfl rfl rfl rfl hl.1 rfl (Nat.le_of_ble_eq_true rfl) dX6_arePersons_16 hK hP (hD0.addr rfl) hS hA [0, 1, 2, 3, 4, 5, 6, 7] rfl rfl rfl rfl ⟨Nat.zero_le _, Nat.zero_le _⟩ (fun H locs hP hD hS => ?_)
      refine lv_if_eq (tgt := 26) hx hb dX6_arePersons_19 (by decide) (fun c_9 => ?_) (fun c_9 => ?_)
      · replace hf := fp_t c_9 hf
        refine lv_iconst (v := 0) hx hb dX6_arePersons_26 (by decide) ?_
        cases hf
        exact fn_zret hx hb hr rfl hlocks hP hS dX6_arePersons_27
      · replace hf := fp_f c_9 hf
        refine lv_iconst (v := 1) hx hb dX6_arePersons_22 (by decide) ?_
        refine lv_goto (tgt := 27) hx hb dX6_arePersons_23 (by decide) ?_
        cases hf
        exact fn_zret hx hb hr rfl hlocks hP hS dX6_arePersons_27

def f_X6_isGrant (x0 : Int32) (x1 : Int32) (x2 : Int32) (x3 : Int32) : Option (Int32) :=
  bd (f_X6_in x2.toInt64 (1 : Int64) (7 : Int64)) (fun r_1 =>
  if r_1 = (0 : Int32) then
  (some (0 : Int32))
  else
  (bd (f_X6_in x3.toInt64 (0 : Int64) (100 : Int64)) (fun r_4 =>
  if r_4 = (0 : Int32) then
  (some (0 : Int32))
  else
  (if x0 = x1 then
  (some (0 : Int32))
  else
  (some (1 : Int32))))))
theorem z_X6_isGrant {x0 : Int32} {x1 : Int32} {x2 : Int32} {x3 : Int32} {r : Int32} (hf : f_X6_isGrant x0 x1 x2 x3 = some r) : r = 0 ∨ r = 1 := by
  unfold f_X6_isGrant at hf
  obtain ⟨r_1, hc_2, hf⟩ := bd_of hf
  by_cases c_3 : r_1 = (0 : Int32)
  · replace hf := fp_t c_3 hf
    cases hf
    exact Or.inl rfl
  · replace hf := fp_f c_3 hf
    obtain ⟨r_4, hc_5, hf⟩ := bd_of hf
    by_cases c_6 : r_4 = (0 : Int32)
    · replace hf := fp_t c_6 hf
      cases hf
      exact Or.inl rfl
    · replace hf := fp_f c_6 hf
      by_cases c_7 : x0 = x1
      · replace hf := fp_t c_7 hf
        cases hf
        exact Or.inl rfl
      · replace hf := fp_f c_7 hf
        cases hf
        exact Or.inr rfl
set_option maxHeartbeats 4000000 in
set_option maxRecDepth 100000 in
theorem c_X6_isGrant (l : Launch) (X : cx_G) (x0 : Int32) (x1 : Int32) (x2 : Int32) (x3 : Int32) (r : Int32) (hf : f_X6_isGrant x0 x1 x2 x3 = some r) : Fn l yX6_isGrant wsX6_isGrant ({ frames := 1, cells := 0, slots := 0, locals := 25 } : Room) X [.int x0, .int x1, .int x2, .int x3] ([] : va_W) (some (.int r)) ([] : va_W) := by
  refine fn_intro (cc := cX6_isGrant) (maxL := 4) (ret := (some .boolean)) (by decide) rfl rfl (Nat.le_of_ble_eq_true rfl) ?_
  intro p e s m args below meth c A ls hx hb hml hr hts hown hlocks hK hP hD0 hS hA hl
  have hown : s.vm.findClass RX6 = some m.cls := hown
  have hl : lv_has ls 4 [(0, .int x0), (1, .int x1), (2, .int x2), (3, .int x3)] := hl
  unfold f_X6_isGrant at hf
  refine lv_iload_n hx hb dX6_isGrant_0 rfl (lv_at hl 2 rfl) ?_
  refine lv_i2l (v := x2.toInt64) hx hb dX6_isGrant_1 rfl ?_
  refine lv_lconst (v := 1) hx hb dX6_isGrant_2 (by decide) ?_
  refine lv_ldc2 hx hb hown (hts (.constantLong RX6 80 (7)) (by decide +kernel)) dX6_isGrant_3 ?_
  obtain ⟨r_1, hc_2, hf⟩ := bd_of hf
  refine fn_Sx (v := some (.int r_1)) (As := [.long x2.toInt64, .long (1 : Int64), .long (7 : Int64)]) (rest := []) (st1 := [.int r_1]) (ws' := ([] : va_W)) (nL := 4) ⟨hx, hb, hml, hown, hts⟩ (c_X6_in l X x2.toInt64 (1 : Int64) (7 : Int64) r_1 hc_2) (va_cwS 3 hts gX6_isGrant_X6_in rfl rfl rfl (by decide +kernel) ⟨Nat.le_of_ble_eq_true rfl, Nat.le_of_ble_eq_true rfl⟩) rfl hl.1 rfl (Nat.le_of_ble_eq_true rfl) dX6_isGrant_6 hK hP (hD0.addr rfl) hS hA [] rfl rfl rfl rfl ⟨Nat.zero_le _, Nat.zero_le _⟩ (fun H locs hP hD hS => ?_)
  refine lv_if_eq (tgt := 33) hx hb dX6_isGrant_9 (by decide) (fun c_3 => ?_) (fun c_3 => ?_)
  · replace hf := fp_t c_3 hf
    refine lv_iconst (v := 0) hx hb dX6_isGrant_33 (by decide) ?_
    cases hf
    exact fn_zret hx hb hr rfl hlocks hP hS dX6_isGrant_34
  · replace hf := fp_f c_3 hf
    refine lv_iload_n hx hb dX6_isGrant_12 rfl (lv_at hl 3 rfl) ?_
    refine lv_i2l (v := x3.toInt64) hx hb dX6_isGrant_13 rfl ?_
    refine lv_lconst (v := 0) hx hb dX6_isGrant_14 (by decide) ?_
    refine lv_ldc2 hx hb hown (hts (.constantLong RX6 95 (100)) (by decide +kernel)) dX6_isGrant_15 ?_
    obtain ⟨r_4, hc_5, hf⟩ := bd_of hf
    refine fn_Sx (v := some (.int r_4)) (As := [.long x3.toInt64, .long (0 : Int64), .long (100 : Int64)]) (rest := []) (st1 := [.int r_4]) (ws' := ([] : va_W)) (nL := 4) ⟨hx, hb, hml, hown, hts⟩ (c_X6_in l X x3.toInt64 (0 : Int64) (100 : Int64) r_4 hc_5) (va_cwS 3 hts gX6_isGrant_X6_in rfl rfl rfl (by decide +kernel) ⟨Nat.le_of_ble_eq_true rfl, Nat.le_of_ble_eq_true rfl⟩) rfl hl.1 rfl (Nat.le_of_ble_eq_true rfl) dX6_isGrant_18 hK hP (hD0.addr rfl) hS hA [] rfl rfl rfl rfl ⟨Nat.zero_le _, Nat.zero_le _⟩ (fun H locs hP hD hS => ?_)
    refine lv_if_eq (tgt := 33) hx hb dX6_isGrant_21 (by decide) (fun c_6 => ?_) (fun c_6 => ?_)
    · replace hf := fp_t c_6 hf
      refine lv_iconst (v := 0) hx hb dX6_isGrant_33 (by decide) ?_
      cases hf
      exact fn_zret hx hb hr rfl hlocks hP hS dX6_isGrant_34
    · replace hf := fp_f c_6 hf
      refine lv_iload_n hx hb dX6_isGrant_24 rfl (lv_at hl 0 rfl) ?_
      refine lv_iload_n hx hb dX6_isGrant_25 rfl (lv_at hl 1 rfl) ?_
      refine lv_icmp_eq (tgt := 33) hx hb dX6_isGrant_26 (by decide) (fun c_7 => ?_) (fun c_7 => ?_)
      · replace hf := fp_t c_7 hf
        refine lv_iconst (v := 0) hx hb dX6_isGrant_33 (by decide) ?_
        cases hf
        exact fn_zret hx hb hr rfl hlocks hP hS dX6_isGrant_34
      · replace hf := fp_f c_7 hf
        refine lv_iconst (v := 1) hx hb dX6_isGrant_29 (by decide) ?_
        refine lv_goto (tgt := 34) hx hb dX6_isGrant_30 (by decide) ?_
        cases hf
        exact fn_zret hx hb hr rfl hlocks hP hS dX6_isGrant_34

def f_X6_mayGrant (x1 : Int32) (x2 : Int32) (x3 : Int32) (x4 : Int32) (al : (Nat → Int32)) (ho : (Nat → Int32)) : Option (Int32 × (Nat → Int32)) :=
  bd (f_X6_lay al ho) (fun ho_1 =>
  bd (f_X6_holds x1 x2 ho_1) (fun r_3 =>
  if r_3 &&& (x3 ||| (4 : Int32)) = x3 ||| (4 : Int32) then
  (ix ((8 : Int32) + x1) 320 (
  if al ((8 : Int32) + x1).toNatClampNeg < x4 then
  (some ((0 : Int32), ho_1))
  else
  (ix (5 : Int32) 320 (
  if (40 : Int32) ≤ al (5 : Int32).toNatClampNeg then
  (some ((0 : Int32), ho_1))
  else
  (some ((1 : Int32), ho_1))))))
  else
  (some ((0 : Int32), ho_1))))
theorem z_X6_mayGrant {x1 : Int32} {x2 : Int32} {x3 : Int32} {x4 : Int32} {al : (Nat → Int32)} {ho : (Nat → Int32)} {r : Int32} {ho' : (Nat → Int32)} (hf : f_X6_mayGrant x1 x2 x3 x4 al ho = some (r, ho')) : r = 0 ∨ r = 1 := by
  unfold f_X6_mayGrant at hf
  obtain ⟨ho_1, hc_2, hf⟩ := bd_of hf
  obtain ⟨r_3, hc_4, hf⟩ := bd_of hf
  by_cases c_5 : r_3 &&& (x3 ||| (4 : Int32)) = x3 ||| (4 : Int32)
  · replace hf := fp_t c_5 hf
    obtain ⟨hi_8, hf⟩ := ix_of hf
    by_cases c_9 : al ((8 : Int32) + x1).toNatClampNeg < x4
    · replace hf := fp_t c_9 hf
      cases hf
      exact Or.inl rfl
    · replace hf := fp_f c_9 hf
      obtain ⟨hi_10, hf⟩ := ix_of hf
      by_cases c_11 : (40 : Int32) ≤ al (5 : Int32).toNatClampNeg
      · replace hf := fp_t c_11 hf
        cases hf
        exact Or.inl rfl
      · replace hf := fp_f c_11 hf
        cases hf
        exact Or.inr rfl
  · replace hf := fp_f c_5 hf
    cases hf
    exact Or.inl rfl
set_option maxHeartbeats 4000000 in
set_option maxRecDepth 100000 in
theorem c_X6_mayGrant (l : Launch) (X : cx_G) (mo : (Nat → Nat)) (al : (Nat → Int32)) (sv : (Nat → Int32)) (sm : Int32) (asd : (Nat → Int32)) (th : Int32) (ho : (Nat → Int32)) (fr : (Nat → Int32)) (txt : (Nat → Int32)) (tl : Int32) (pos : Int32) (od : Int32) (nu : (Nat → Int32)) (su : Int64) (x1 : Int32) (x2 : Int32) (x3 : Int32) (x4 : Int32) (r : Int32) (ho' : (Nat → Int32)) (hf : f_X6_mayGrant x1 x2 x3 x4 al ho = some (r, ho')) : Fn l yX6_mayGrant wsX6_mayGrant ({ frames := 3, cells := 0, slots := 0, locals := 68 } : Room) X [.ref (mo 0), .int x1, .int x2, .int x3, .int x4] (wMo X mo al sv sm asd th ho fr txt tl pos od nu su) (some (.int r)) (wMo X mo al sv sm asd th ho' fr txt tl pos od nu su) := by
  refine fn_intro (cc := cX6_mayGrant) (maxL := 6) (ret := (some .boolean)) (by decide) rfl rfl (Nat.le_of_ble_eq_true rfl) ?_
  intro p e s m args below meth c A ls hx hb hml hr hts hown hlocks hK hP hD0 hS hA hl
  have hown : s.vm.findClass RX6 = some m.cls := hown
  have hl : lv_has ls 6 [(0, .ref (mo 0)), (1, .int x1), (2, .int x2), (3, .int x3), (4, .int x4)] := hl
  have hiX6 : ∀ w ∈ u_ws RX6 TX6 13, w ∈ wsX6_mayGrant := by decide +kernel
  have k7 := hts (.fieldLink RX6 7 "LentRightsModel" "all" "[I") (by decide +kernel)
  unfold f_X6_mayGrant at hf
  refine lv_aload_n hx hb dX6_mayGrant_0 rfl (lv_at hl 0 rfl) ?_
  obtain ⟨ho_1, hc_2, hf⟩ := bd_of hf
  refine fn_V (v := none) (As := []) (rest := []) (st1 := []) (ws' := (wMo X mo al sv sm asd th ho_1 fr txt tl pos od nu su)) (nL := 6) ⟨hx, hb, hml, hown, hts⟩ (c_X6_lay l X mo al sv sm asd th ho fr txt tl pos od nu su ho_1 hc_2) (cwV 0 hts gX6_mayGrant_X6_lay rfl rfl rfl (by decide +kernel) ⟨Nat.le_of_ble_eq_true rfl, Nat.le_of_ble_eq_true rfl⟩) 6 rfl rfl rfl rfl hl.1 rfl (Nat.le_of_ble_eq_true rfl) dX6_mayGrant_1 hK hP (hD0.addr rfl) hS hA [0, 1, 2, 3, 4, 5, 6, 7] rfl rfl rfl rfl ⟨Nat.zero_le _, Nat.zero_le _⟩ (fun H locs hP hD hS => ?_)
  refine lv_aload_n hx hb dX6_mayGrant_4 rfl (lv_at hl 0 rfl) ?_
  refine lv_iload_n hx hb dX6_mayGrant_5 rfl (lv_at hl 1 rfl) ?_
  refine lv_iload_n hx hb dX6_mayGrant_6 rfl (lv_at hl 2 rfl) ?_
  obtain ⟨r_3, hc_4, hf⟩ := bd_of hf
  refine fn_V (v := some (.int r_3)) (As := [.int x1, .int x2]) (rest := []) (st1 := [.int r_3]) (ws' := (wMo X mo al sv sm asd th ho_1 fr txt tl pos od nu su)) (nL := 6) ⟨hx, hb, hml, hown, hts⟩ (c_X6_holds l X mo al sv sm asd th ho_1 fr txt tl pos od nu su x1 x2 r_3 hc_4) (cwV 2 hts gX6_mayGrant_X6_holds rfl rfl rfl (by decide +kernel) ⟨Nat.le_of_ble_eq_true rfl, Nat.le_of_ble_eq_true rfl⟩) 6 rfl rfl rfl rfl hl.1 rfl (Nat.le_of_ble_eq_true rfl) dX6_mayGrant_7 hK hP (hD0.addr rfl) hS hA [0, 1, 2, 3, 4, 5, 6, 7] rfl rfl rfl rfl ⟨Nat.zero_le _, Nat.zero_le _⟩ (fun H locs hP hD hS => ?_)
  refine lv_iload_n hx hb dX6_mayGrant_10 rfl (lv_at hl 3 rfl) ?_
  refine lv_iconst (v := 4) hx hb dX6_mayGrant_11 (by decide) ?_
  refine lv_ior hx hb dX6_mayGrant_12 ?_
  refine lv_iand hx hb dX6_mayGrant_13 ?_
  refine lv_iload_n hx hb dX6_mayGrant_14 rfl (lv_at hl 3 rfl) ?_
  refine lv_iconst (v := 4) hx hb dX6_mayGrant_15 (by decide) ?_
  refine lv_ior hx hb dX6_mayGrant_16 ?_
  refine lv_icmp_ne (tgt := 24) hx hb dX6_mayGrant_17 (by decide) (fun c_5 => ?_) (fun c_5 => ?_)
  · replace hf := fp_f c_5 hf
    refine lv_iconst (v := 0) hx hb dX6_mayGrant_24 (by decide) ?_
    refine lv_istore (lv' := [(5, .int (0 : Int32)), (0, .ref (mo 0)), (1, .int x1), (2, .int x2), (3, .int x3), (4, .int x4)]) hx hb dX6_mayGrant_25 hl (by decide) rfl (fun ls hl => ?_)
    refine lv_iload hx hb dX6_mayGrant_27 (lv_at hl 0 rfl) ?_
    refine lv_if_eq (tgt := 61) hx hb dX6_mayGrant_29 (by decide) (fun _ => ?_) (fun c9 => absurd c9 (by decide))
    refine lv_iconst (v := 0) hx hb dX6_mayGrant_61 (by decide) ?_
    cases hf
    exact fn_zret hx hb hr rfl hlocks hP hS dX6_mayGrant_62
  · replace hf := fp_t c_5 hf
    refine lv_iconst (v := 1) hx hb dX6_mayGrant_20 (by decide) ?_
    refine lv_goto (tgt := 25) hx hb dX6_mayGrant_21 (by decide) ?_
    refine lv_istore (lv' := [(5, .int (1 : Int32)), (0, .ref (mo 0)), (1, .int x1), (2, .int x2), (3, .int x3), (4, .int x4)]) hx hb dX6_mayGrant_25 hl (by decide) rfl (fun ls hl => ?_)
    refine lv_iload hx hb dX6_mayGrant_27 (lv_at hl 0 rfl) ?_
    refine lv_if_eq (tgt := 61) hx hb dX6_mayGrant_29 (by decide) (fun c9 => absurd c9 (by decide)) (fun _ => ?_)
    refine lv_aload_n hx hb dX6_mayGrant_32 rfl (lv_at hl 1 rfl) ?_
    refine va_get (D := X.1) (ci := 6) (v := .ref (mo 1)) (C := RX6) (T := TX6) (N := 13) hx hb hts hiX6 hown hK.1 hP 0 rfl rfl 0 (by decide) k7 (fun _ h9 => h9) rfl dX6_mayGrant_33 ?_
    refine lv_bipush (v := 8) hx hb dX6_mayGrant_36 (by decide) ?_
    refine lv_iload_n hx hb dX6_mayGrant_38 rfl (lv_at hl 2 rfl) ?_
    refine lv_iadd hx hb dX6_mayGrant_39 ?_
    obtain ⟨hi_8, hf⟩ := ix_of hf
    refine va_iald hx hb hK.1 hP 1 0 rfl rfl hi_8 dX6_mayGrant_40 ?_
    refine lv_iload hx hb dX6_mayGrant_41 (lv_at hl 5 rfl) ?_
    refine lv_icmp_lt (tgt := 61) hx hb dX6_mayGrant_43 (by decide) (fun c_9 => ?_) (fun c_9 => ?_)
    · replace hf := fp_t c_9 hf
      refine lv_iconst (v := 0) hx hb dX6_mayGrant_61 (by decide) ?_
      cases hf
      exact fn_zret hx hb hr rfl hlocks hP hS dX6_mayGrant_62
    · replace hf := fp_f c_9 hf
      refine lv_aload_n hx hb dX6_mayGrant_46 rfl (lv_at hl 1 rfl) ?_
      refine va_get (D := X.1) (ci := 6) (v := .ref (mo 1)) (C := RX6) (T := TX6) (N := 13) hx hb hts hiX6 hown hK.1 hP 0 rfl rfl 0 (by decide) k7 (fun _ h9 => h9) rfl dX6_mayGrant_47 ?_
      refine lv_iconst (v := 5) hx hb dX6_mayGrant_50 (by decide) ?_
      obtain ⟨hi_10, hf⟩ := ix_of hf
      refine va_iald hx hb hK.1 hP 1 0 rfl rfl hi_10 dX6_mayGrant_51 ?_
      refine lv_bipush (v := 40) hx hb dX6_mayGrant_52 (by decide) ?_
      refine lv_icmp_ge (tgt := 61) hx hb dX6_mayGrant_54 (by decide) (fun c_11 => ?_) (fun c_11 => ?_)
      · replace hf := fp_t c_11 hf
        refine lv_iconst (v := 0) hx hb dX6_mayGrant_61 (by decide) ?_
        cases hf
        exact fn_zret hx hb hr rfl hlocks hP hS dX6_mayGrant_62
      · replace hf := fp_f c_11 hf
        refine lv_iconst (v := 1) hx hb dX6_mayGrant_57 (by decide) ?_
        refine lv_goto (tgt := 62) hx hb dX6_mayGrant_58 (by decide) ?_
        cases hf
        exact fn_zret hx hb hr rfl hlocks hP hS dX6_mayGrant_62

def f_X6_lays (x1 : Int32) (x2 : Int32) (x3 : Int32) (x4 : Int32) (x5 : Int32) (al : (Nat → Int32)) : Option ((Nat → Int32)) :=
  ix (5 : Int32) 320 (
  nm ((44 : Int32) + ((6 : Int32) * (al (5 : Int32).toNatClampNeg))) (fun v_2 =>
  ix (1 : Int32) 320 (
  nm (al (1 : Int32).toNatClampNeg) (fun v_4 =>
  ix v_2 320 (
  nm (upd al v_2.toNatClampNeg v_4) (fun al_6 =>
  ix (v_2 + (1 : Int32)) 320 (
  nm (upd al_6 (v_2 + (1 : Int32)).toNatClampNeg x1) (fun al_8 =>
  ix (v_2 + (2 : Int32)) 320 (
  nm (upd al_8 (v_2 + (2 : Int32)).toNatClampNeg x2) (fun al_10 =>
  ix (v_2 + (3 : Int32)) 320 (
  nm (upd al_10 (v_2 + (3 : Int32)).toNatClampNeg x3) (fun al_12 =>
  ix (v_2 + (4 : Int32)) 320 (
  nm (upd al_12 (v_2 + (4 : Int32)).toNatClampNeg x4) (fun al_14 =>
  ix (v_2 + (5 : Int32)) 320 (
  nm (upd al_14 (v_2 + (5 : Int32)).toNatClampNeg x5) (fun al_16 =>
  ix (5 : Int32) 320 (
  nm ((al_16 (5 : Int32).toNatClampNeg) + (1 : Int32)) (fun v_18 =>
  ix (5 : Int32) 320 (
  nm (upd al_16 (5 : Int32).toNatClampNeg v_18) (fun al_20 =>
  ix (1 : Int32) 320 (
  nm ((al_20 (1 : Int32).toNatClampNeg) + (1 : Int32)) (fun v_22 =>
  ix (1 : Int32) 320 (
  nm (upd al_20 (1 : Int32).toNatClampNeg v_22) (fun al_24 =>
  some al_24))))))))))))))))))))))))
set_option maxHeartbeats 4000000 in
set_option maxRecDepth 100000 in
theorem c_X6_lays (l : Launch) (X : cx_G) (mo : (Nat → Nat)) (al : (Nat → Int32)) (sv : (Nat → Int32)) (sm : Int32) (asd : (Nat → Int32)) (th : Int32) (ho : (Nat → Int32)) (fr : (Nat → Int32)) (txt : (Nat → Int32)) (tl : Int32) (pos : Int32) (od : Int32) (nu : (Nat → Int32)) (su : Int64) (x1 : Int32) (x2 : Int32) (x3 : Int32) (x4 : Int32) (x5 : Int32) (al' : (Nat → Int32)) (hf : f_X6_lays x1 x2 x3 x4 x5 al = some al') : Fn l yX6_lays wsX6_lays ({ frames := 0, cells := 0, slots := 0, locals := 0 } : Room) X [.ref (mo 0), .int x1, .int x2, .int x3, .int x4, .int x5] (wMo X mo al sv sm asd th ho fr txt tl pos od nu su) none (wMo X mo al' sv sm asd th ho fr txt tl pos od nu su) := by
  refine fn_intro (cc := cX6_lays) (maxL := 7) (ret := none) (by decide) rfl rfl (Nat.le_of_ble_eq_true rfl) ?_
  intro p e s m args below meth c A ls hx hb hml hr hts hown hlocks hK hP hD0 hS hA hl
  have hown : s.vm.findClass RX6 = some m.cls := hown
  have hl : lv_has ls 7 [(0, .ref (mo 0)), (1, .int x1), (2, .int x2), (3, .int x3), (4, .int x4), (5, .int x5)] := hl
  have hiX6 : ∀ w ∈ u_ws RX6 TX6 13, w ∈ wsX6_lays := by decide +kernel
  have k7 := hts (.fieldLink RX6 7 "LentRightsModel" "all" "[I") (by decide +kernel)
  unfold f_X6_lays at hf
  refine lv_bipush (v := 44) hx hb dX6_lays_0 (by decide) ?_
  refine lv_bipush (v := 6) hx hb dX6_lays_2 (by decide) ?_
  refine lv_aload_n hx hb dX6_lays_4 rfl (lv_at hl 0 rfl) ?_
  refine va_get (D := X.1) (ci := 6) (v := .ref (mo 1)) (C := RX6) (T := TX6) (N := 13) hx hb hts hiX6 hown hK.1 hP 0 rfl rfl 0 (by decide) k7 (fun _ h9 => h9) rfl dX6_lays_5 ?_
  refine lv_iconst (v := 5) hx hb dX6_lays_8 (by decide) ?_
  obtain ⟨hi_1, hf⟩ := ix_of hf
  refine va_iald hx hb hK.1 hP 1 0 rfl rfl hi_1 dX6_lays_9 ?_
  refine lv_imul hx hb dX6_lays_10 ?_
  refine lv_iadd hx hb dX6_lays_11 ?_
  refine lv_topi (fun v_2 ev_2 => ?_)
  replace hf := nm_of ev_2 hf
  refine lv_istore (lv' := [(6, .int v_2), (0, .ref (mo 0)), (1, .int x1), (2, .int x2), (3, .int x3), (4, .int x4), (5, .int x5)]) hx hb dX6_lays_12 hl (by decide) rfl (fun ls hl => ?_)
  refine lv_aload_n hx hb dX6_lays_14 rfl (lv_at hl 1 rfl) ?_
  refine va_get (D := X.1) (ci := 6) (v := .ref (mo 1)) (C := RX6) (T := TX6) (N := 13) hx hb hts hiX6 hown hK.1 hP 0 rfl rfl 0 (by decide) k7 (fun _ h9 => h9) rfl dX6_lays_15 ?_
  refine lv_iload hx hb dX6_lays_18 (lv_at hl 0 rfl) ?_
  refine lv_aload_n hx hb dX6_lays_20 rfl (lv_at hl 1 rfl) ?_
  refine va_get (D := X.1) (ci := 6) (v := .ref (mo 1)) (C := RX6) (T := TX6) (N := 13) hx hb hts hiX6 hown hK.1 hP 0 rfl rfl 0 (by decide) k7 (fun _ h9 => h9) rfl dX6_lays_21 ?_
  refine lv_iconst (v := 1) hx hb dX6_lays_24 (by decide) ?_
  obtain ⟨hi_3, hf⟩ := ix_of hf
  refine va_iald hx hb hK.1 hP 1 0 rfl rfl hi_3 dX6_lays_25 ?_
  refine lv_topi (fun v_4 ev_4 => ?_)
  replace hf := nm_of ev_4 hf
  obtain ⟨hi_5, hf⟩ := ix_of hf
  refine va_iast hx hb hK.1 hP (hD0.addr rfl) hS 1 0 rfl rfl hi_5 dX6_lays_26 (fun H locs hP hD hS => ?_)
  obtain ⟨al_6, eal_6⟩ : ∃ g : Nat → Int32, g = upd al v_2.toNatClampNeg v_4 := ⟨_, rfl⟩
  replace hf := nm_of eal_6 hf
  have hP : va_P X.1 vwCl (wMo X mo al_6 sv sm asd th ho fr txt tl pos od nu su) H := by rw [eal_6]; exact hP
  refine lv_aload_n hx hb dX6_lays_27 rfl (lv_at hl 1 rfl) ?_
  refine va_get (D := X.1) (ci := 6) (v := .ref (mo 1)) (C := RX6) (T := TX6) (N := 13) hx hb hts hiX6 hown hK.1 hP 0 rfl rfl 0 (by decide) k7 (fun _ h9 => h9) rfl dX6_lays_28 ?_
  refine lv_iload hx hb dX6_lays_31 (lv_at hl 0 rfl) ?_
  refine lv_iconst (v := 1) hx hb dX6_lays_33 (by decide) ?_
  refine lv_iadd hx hb dX6_lays_34 ?_
  refine lv_iload_n hx hb dX6_lays_35 rfl (lv_at hl 2 rfl) ?_
  obtain ⟨hi_7, hf⟩ := ix_of hf
  refine va_iast hx hb hK.1 hP (hD0.addr rfl) hS 1 0 rfl rfl hi_7 dX6_lays_36 (fun H locs hP hD hS => ?_)
  obtain ⟨al_8, eal_8⟩ : ∃ g : Nat → Int32, g = upd al_6 (v_2 + (1 : Int32)).toNatClampNeg x1 := ⟨_, rfl⟩
  replace hf := nm_of eal_8 hf
  have hP : va_P X.1 vwCl (wMo X mo al_8 sv sm asd th ho fr txt tl pos od nu su) H := by rw [eal_8]; exact hP
  refine lv_aload_n hx hb dX6_lays_37 rfl (lv_at hl 1 rfl) ?_
  refine va_get (D := X.1) (ci := 6) (v := .ref (mo 1)) (C := RX6) (T := TX6) (N := 13) hx hb hts hiX6 hown hK.1 hP 0 rfl rfl 0 (by decide) k7 (fun _ h9 => h9) rfl dX6_lays_38 ?_
  refine lv_iload hx hb dX6_lays_41 (lv_at hl 0 rfl) ?_
  refine lv_iconst (v := 2) hx hb dX6_lays_43 (by decide) ?_
  refine lv_iadd hx hb dX6_lays_44 ?_
  refine lv_iload_n hx hb dX6_lays_45 rfl (lv_at hl 3 rfl) ?_
  obtain ⟨hi_9, hf⟩ := ix_of hf
  refine va_iast hx hb hK.1 hP (hD0.addr rfl) hS 1 0 rfl rfl hi_9 dX6_lays_46 (fun H locs hP hD hS => ?_)
  obtain ⟨al_10, eal_10⟩ : ∃ g : Nat → Int32, g = upd al_8 (v_2 + (2 : Int32)).toNatClampNeg x2 := ⟨_, rfl⟩
  replace hf := nm_of eal_10 hf
  have hP : va_P X.1 vwCl (wMo X mo al_10 sv sm asd th ho fr txt tl pos od nu su) H := by rw [eal_10]; exact hP
  refine lv_aload_n hx hb dX6_lays_47 rfl (lv_at hl 1 rfl) ?_
  refine va_get (D := X.1) (ci := 6) (v := .ref (mo 1)) (C := RX6) (T := TX6) (N := 13) hx hb hts hiX6 hown hK.1 hP 0 rfl rfl 0 (by decide) k7 (fun _ h9 => h9) rfl dX6_lays_48 ?_
  refine lv_iload hx hb dX6_lays_51 (lv_at hl 0 rfl) ?_
  refine lv_iconst (v := 3) hx hb dX6_lays_53 (by decide) ?_
  refine lv_iadd hx hb dX6_lays_54 ?_
  refine lv_iload_n hx hb dX6_lays_55 rfl (lv_at hl 4 rfl) ?_
  obtain ⟨hi_11, hf⟩ := ix_of hf
  refine va_iast hx hb hK.1 hP (hD0.addr rfl) hS 1 0 rfl rfl hi_11 dX6_lays_56 (fun H locs hP hD hS => ?_)
  obtain ⟨al_12, eal_12⟩ : ∃ g : Nat → Int32, g = upd al_10 (v_2 + (3 : Int32)).toNatClampNeg x3 := ⟨_, rfl⟩
  replace hf := nm_of eal_12 hf
  have hP : va_P X.1 vwCl (wMo X mo al_12 sv sm asd th ho fr txt tl pos od nu su) H := by rw [eal_12]; exact hP
  refine lv_aload_n hx hb dX6_lays_57 rfl (lv_at hl 1 rfl) ?_
  refine va_get (D := X.1) (ci := 6) (v := .ref (mo 1)) (C := RX6) (T := TX6) (N := 13) hx hb hts hiX6 hown hK.1 hP 0 rfl rfl 0 (by decide) k7 (fun _ h9 => h9) rfl dX6_lays_58 ?_
  refine lv_iload hx hb dX6_lays_61 (lv_at hl 0 rfl) ?_
  refine lv_iconst (v := 4) hx hb dX6_lays_63 (by decide) ?_
  refine lv_iadd hx hb dX6_lays_64 ?_
  refine lv_iload hx hb dX6_lays_65 (lv_at hl 5 rfl) ?_
  obtain ⟨hi_13, hf⟩ := ix_of hf
  refine va_iast hx hb hK.1 hP (hD0.addr rfl) hS 1 0 rfl rfl hi_13 dX6_lays_67 (fun H locs hP hD hS => ?_)
  obtain ⟨al_14, eal_14⟩ : ∃ g : Nat → Int32, g = upd al_12 (v_2 + (4 : Int32)).toNatClampNeg x4 := ⟨_, rfl⟩
  replace hf := nm_of eal_14 hf
  have hP : va_P X.1 vwCl (wMo X mo al_14 sv sm asd th ho fr txt tl pos od nu su) H := by rw [eal_14]; exact hP
  refine lv_aload_n hx hb dX6_lays_68 rfl (lv_at hl 1 rfl) ?_
  refine va_get (D := X.1) (ci := 6) (v := .ref (mo 1)) (C := RX6) (T := TX6) (N := 13) hx hb hts hiX6 hown hK.1 hP 0 rfl rfl 0 (by decide) k7 (fun _ h9 => h9) rfl dX6_lays_69 ?_
  refine lv_iload hx hb dX6_lays_72 (lv_at hl 0 rfl) ?_
  refine lv_iconst (v := 5) hx hb dX6_lays_74 (by decide) ?_
  refine lv_iadd hx hb dX6_lays_75 ?_
  refine lv_iload hx hb dX6_lays_76 (lv_at hl 6 rfl) ?_
  obtain ⟨hi_15, hf⟩ := ix_of hf
  refine va_iast hx hb hK.1 hP (hD0.addr rfl) hS 1 0 rfl rfl hi_15 dX6_lays_78 (fun H locs hP hD hS => ?_)
  obtain ⟨al_16, eal_16⟩ : ∃ g : Nat → Int32, g = upd al_14 (v_2 + (5 : Int32)).toNatClampNeg x5 := ⟨_, rfl⟩
  replace hf := nm_of eal_16 hf
  have hP : va_P X.1 vwCl (wMo X mo al_16 sv sm asd th ho fr txt tl pos od nu su) H := by rw [eal_16]; exact hP
  refine lv_aload_n hx hb dX6_lays_79 rfl (lv_at hl 1 rfl) ?_
  refine va_get (D := X.1) (ci := 6) (v := .ref (mo 1)) (C := RX6) (T := TX6) (N := 13) hx hb hts hiX6 hown hK.1 hP 0 rfl rfl 0 (by decide) k7 (fun _ h9 => h9) rfl dX6_lays_80 ?_
  refine lv_iconst (v := 5) hx hb dX6_lays_83 (by decide) ?_
  refine lv_dup2_11 hx hb dX6_lays_84 rfl rfl ?_
  obtain ⟨hi_17, hf⟩ := ix_of hf
  refine va_iald hx hb hK.1 hP 1 0 rfl rfl hi_17 dX6_lays_85 ?_
  refine lv_iconst (v := 1) hx hb dX6_lays_86 (by decide) ?_
  refine lv_iadd hx hb dX6_lays_87 ?_
  refine lv_topi (fun v_18 ev_18 => ?_)
  replace hf := nm_of ev_18 hf
  obtain ⟨hi_19, hf⟩ := ix_of hf
  refine va_iast hx hb hK.1 hP (hD0.addr rfl) hS 1 0 rfl rfl hi_19 dX6_lays_88 (fun H locs hP hD hS => ?_)
  obtain ⟨al_20, eal_20⟩ : ∃ g : Nat → Int32, g = upd al_16 (5 : Int32).toNatClampNeg v_18 := ⟨_, rfl⟩
  replace hf := nm_of eal_20 hf
  have hP : va_P X.1 vwCl (wMo X mo al_20 sv sm asd th ho fr txt tl pos od nu su) H := by rw [eal_20]; exact hP
  refine lv_aload_n hx hb dX6_lays_89 rfl (lv_at hl 1 rfl) ?_
  refine va_get (D := X.1) (ci := 6) (v := .ref (mo 1)) (C := RX6) (T := TX6) (N := 13) hx hb hts hiX6 hown hK.1 hP 0 rfl rfl 0 (by decide) k7 (fun _ h9 => h9) rfl dX6_lays_90 ?_
  refine lv_iconst (v := 1) hx hb dX6_lays_93 (by decide) ?_
  refine lv_dup2_11 hx hb dX6_lays_94 rfl rfl ?_
  obtain ⟨hi_21, hf⟩ := ix_of hf
  refine va_iald hx hb hK.1 hP 1 0 rfl rfl hi_21 dX6_lays_95 ?_
  refine lv_iconst (v := 1) hx hb dX6_lays_96 (by decide) ?_
  refine lv_iadd hx hb dX6_lays_97 ?_
  refine lv_topi (fun v_22 ev_22 => ?_)
  replace hf := nm_of ev_22 hf
  obtain ⟨hi_23, hf⟩ := ix_of hf
  refine va_iast hx hb hK.1 hP (hD0.addr rfl) hS 1 0 rfl rfl hi_23 dX6_lays_98 (fun H locs hP hD hS => ?_)
  obtain ⟨al_24, eal_24⟩ : ∃ g : Nat → Int32, g = upd al_20 (1 : Int32).toNatClampNeg v_22 := ⟨_, rfl⟩
  replace hf := nm_of eal_24 hf
  have hP : va_P X.1 vwCl (wMo X mo al_24 sv sm asd th ho fr txt tl pos od nu su) H := by rw [eal_24]; exact hP
  cases hf
  exact fn_vret hx hb hr hlocks hP hS dX6_lays_99

def f_X6_grant (x1 : Int32) (x2 : Int32) (x3 : Int32) (x4 : Int32) (x5 : Int32) (al : (Nat → Int32)) (sv : (Nat → Int32)) (sm : Int32) (th : Int32) (ho : (Nat → Int32)) : Option (Int32 × (Nat → Int32) × (Nat → Int32) × Int32 × Int32 × (Nat → Int32)) :=
  bd (f_X6_arePersons x1 x2 x3 al) (fun r_1 =>
  bd (f_X6_isGrant x1 x2 x4 x5) (fun r_3 =>
  if r_1 = (0 : Int32) then
  (bd2 (f_X6_goes r_1 r_3 (0 : Int32) th) (fun r_6 th_7 =>
  if r_6 = (0 : Int32) then
  (some ((0 : Int32), al, sv, sm, th_7, ho))
  else
  (bd2 (f_X6_save al sv sm) (fun sv_10 sm_11 =>
  bd (f_X6_lays x1 x2 x3 x4 x5 al) (fun al_13 =>
  ix (1 : Int32) 320 (
  nm ((al_13 (1 : Int32).toNatClampNeg) - (1 : Int32)) (fun v_16 =>
  some (v_16, al_13, sv_10, sm_11, th_7, ho))))))))
  else
  (if r_3 = (0 : Int32) then
  (bd2 (f_X6_goes r_1 r_3 (0 : Int32) th) (fun r_18 th_19 =>
  if r_18 = (0 : Int32) then
  (some ((0 : Int32), al, sv, sm, th_19, ho))
  else
  (bd2 (f_X6_save al sv sm) (fun sv_22 sm_23 =>
  bd (f_X6_lays x1 x2 x3 x4 x5 al) (fun al_25 =>
  ix (1 : Int32) 320 (
  nm ((al_25 (1 : Int32).toNatClampNeg) - (1 : Int32)) (fun v_28 =>
  some (v_28, al_25, sv_22, sm_23, th_19, ho))))))))
  else
  (bd2 (f_X6_mayGrant x1 x3 x4 x5 al ho) (fun r_29 ho_30 =>
  if r_29 = (0 : Int32) then
  (bd2 (f_X6_goes r_1 r_3 (0 : Int32) th) (fun r_33 th_34 =>
  if r_33 = (0 : Int32) then
  (some ((0 : Int32), al, sv, sm, th_34, ho_30))
  else
  (bd2 (f_X6_save al sv sm) (fun sv_37 sm_38 =>
  bd (f_X6_lays x1 x2 x3 x4 x5 al) (fun al_40 =>
  ix (1 : Int32) 320 (
  nm ((al_40 (1 : Int32).toNatClampNeg) - (1 : Int32)) (fun v_43 =>
  some (v_43, al_40, sv_37, sm_38, th_34, ho_30))))))))
  else
  (bd2 (f_X6_goes r_1 r_3 (1 : Int32) th) (fun r_44 th_45 =>
  if r_44 = (0 : Int32) then
  (some ((0 : Int32), al, sv, sm, th_45, ho_30))
  else
  (bd2 (f_X6_save al sv sm) (fun sv_48 sm_49 =>
  bd (f_X6_lays x1 x2 x3 x4 x5 al) (fun al_51 =>
  ix (1 : Int32) 320 (
  nm ((al_51 (1 : Int32).toNatClampNeg) - (1 : Int32)) (fun v_54 =>
  some (v_54, al_51, sv_48, sm_49, th_45, ho_30)))))))))))))
set_option maxHeartbeats 4000000 in
set_option maxRecDepth 100000 in
theorem c_X6_grant (l : Launch) (X : cx_G) (mo : (Nat → Nat)) (al : (Nat → Int32)) (sv : (Nat → Int32)) (sm : Int32) (asd : (Nat → Int32)) (th : Int32) (ho : (Nat → Int32)) (fr : (Nat → Int32)) (txt : (Nat → Int32)) (tl : Int32) (pos : Int32) (od : Int32) (nu : (Nat → Int32)) (su : Int64) (x1 : Int32) (x2 : Int32) (x3 : Int32) (x4 : Int32) (x5 : Int32) (r : Int32) (al' : (Nat → Int32)) (sv' : (Nat → Int32)) (sm' : Int32) (th' : Int32) (ho' : (Nat → Int32)) (hf : f_X6_grant x1 x2 x3 x4 x5 al sv sm th ho = some (r, al', sv', sm', th', ho')) : Fn l yX6_grant wsX6_grant ({ frames := 4, cells := 0, slots := 0, locals := 93 } : Room) X [.ref (mo 0), .int x1, .int x2, .int x3, .int x4, .int x5] (wMo X mo al sv sm asd th ho fr txt tl pos od nu su) (some (.int r)) (wMo X mo al' sv' sm' asd th' ho' fr txt tl pos od nu su) := by
  refine fn_intro (cc := cX6_grant) (maxL := 8) (ret := (some .int)) (by decide) rfl rfl (Nat.le_of_ble_eq_true rfl) ?_
  intro p e s m args below meth c A ls hx hb hml hr hts hown hlocks hK hP hD0 hS hA hl
  have hown : s.vm.findClass RX6 = some m.cls := hown
  have hl : lv_has ls 8 [(0, .ref (mo 0)), (1, .int x1), (2, .int x2), (3, .int x3), (4, .int x4), (5, .int x5)] := hl
  have hiX6 : ∀ w ∈ u_ws RX6 TX6 13, w ∈ wsX6_grant := by decide +kernel
  have k7 := hts (.fieldLink RX6 7 "LentRightsModel" "all" "[I") (by decide +kernel)
  unfold f_X6_grant at hf
  refine lv_aload_n hx hb dX6_grant_0 rfl (lv_at hl 0 rfl) ?_
  refine lv_iload_n hx hb dX6_grant_1 rfl (lv_at hl 1 rfl) ?_
  refine lv_iload_n hx hb dX6_grant_2 rfl (lv_at hl 2 rfl) ?_
  refine lv_iload_n hx hb dX6_grant_3 rfl (lv_at hl 3 rfl) ?_
  obtain ⟨r_1, hc_2, hf⟩ := bd_of hf
  refine fn_V (v := some (.int r_1)) (As := [.int x1, .int x2, .int x3]) (rest := []) (st1 := [.int r_1]) (ws' := (wMo X mo al sv sm asd th ho fr txt tl pos od nu su)) (nL := 8) ⟨hx, hb, hml, hown, hts⟩ (c_X6_arePersons l X mo al sv sm asd th ho fr txt tl pos od nu su x1 x2 x3 r_1 hc_2) (cwV 3 hts gX6_grant_X6_arePersons rfl rfl rfl (by decide +kernel) ⟨Nat.le_of_ble_eq_true rfl, Nat.le_of_ble_eq_true rfl⟩) 6 rfl rfl rfl rfl hl.1 rfl (Nat.le_of_ble_eq_true rfl) dX6_grant_4 hK hP (hD0.addr rfl) hS hA [0, 1, 2, 3, 4, 5, 6, 7] rfl rfl rfl rfl ⟨Nat.zero_le _, Nat.zero_le _⟩ (fun H locs hP hD hS => ?_)
  refine lv_istore (lv' := [(6, .int r_1), (0, .ref (mo 0)), (1, .int x1), (2, .int x2), (3, .int x3), (4, .int x4), (5, .int x5)]) hx hb dX6_grant_7 hl (by decide) rfl (fun ls hl => ?_)
  refine lv_iload_n hx hb dX6_grant_9 rfl (lv_at hl 2 rfl) ?_
  refine lv_iload_n hx hb dX6_grant_10 rfl (lv_at hl 3 rfl) ?_
  refine lv_iload hx hb dX6_grant_11 (lv_at hl 5 rfl) ?_
  refine lv_iload hx hb dX6_grant_13 (lv_at hl 6 rfl) ?_
  obtain ⟨r_3, hc_4, hf⟩ := bd_of hf
  refine fn_Sx (v := some (.int r_3)) (As := [.int x1, .int x2, .int x4, .int x5]) (rest := []) (st1 := [.int r_3]) (ws' := (wMo X mo al sv sm asd th ho fr txt tl pos od nu su)) (nL := 8) ⟨hx, hb, hml, hown, hts⟩ (c_X6_isGrant l X x1 x2 x4 x5 r_3 hc_4) (va_cwS 4 hts gX6_grant_X6_isGrant rfl rfl rfl (by decide +kernel) ⟨Nat.le_of_ble_eq_true rfl, Nat.le_of_ble_eq_true rfl⟩) rfl hl.1 rfl (Nat.le_of_ble_eq_true rfl) dX6_grant_15 hK hP (hD0.addr rfl) hS hA [] rfl rfl rfl rfl ⟨Nat.zero_le _, Nat.zero_le _⟩ (fun H locs hP hD hS => ?_)
  refine lv_istore (lv' := [(7, .int r_3), (6, .int r_1), (0, .ref (mo 0)), (1, .int x1), (2, .int x2), (3, .int x3), (4, .int x4), (5, .int x5)]) hx hb dX6_grant_18 hl (by decide) rfl (fun ls hl => ?_)
  refine lv_aload_n hx hb dX6_grant_20 rfl (lv_at hl 2 rfl) ?_
  refine lv_iload hx hb dX6_grant_21 (lv_at hl 1 rfl) ?_
  refine lv_iload hx hb dX6_grant_23 (lv_at hl 0 rfl) ?_
  refine lv_iload hx hb dX6_grant_25 (lv_at hl 1 rfl) ?_
  refine lv_if_eq (tgt := 52) hx hb dX6_grant_27 (by decide) (fun c_5 => ?_) (fun c_5 => ?_)
  · replace hf := fp_t c_5 hf
    refine lv_iconst (v := 0) hx hb dX6_grant_52 (by decide) ?_
    obtain ⟨r_6, th_7, hc_8, hf⟩ := bd2_of hf
    refine fn_V (v := some (.int r_6)) (As := [.int r_1, .int r_3, .int (0 : Int32)]) (rest := []) (st1 := [.int r_6]) (ws' := (wMo X mo al sv sm asd th_7 ho fr txt tl pos od nu su)) (nL := 8) ⟨hx, hb, hml, hown, hts⟩ (c_X6_goes l X mo al sv sm asd th ho fr txt tl pos od nu su r_1 r_3 (0 : Int32) r_6 th_7 hc_8) (cwV 3 hts gX6_grant_X6_goes rfl rfl rfl (by decide +kernel) ⟨Nat.le_of_ble_eq_true rfl, Nat.le_of_ble_eq_true rfl⟩) 6 rfl rfl rfl rfl hl.1 rfl (Nat.le_of_ble_eq_true rfl) dX6_grant_53 hK hP (hD0.addr rfl) hS hA [0, 1, 2, 3, 4, 5, 6, 7] rfl rfl rfl rfl ⟨Nat.zero_le _, Nat.zero_le _⟩ (fun H locs hP hD hS => ?_)
    refine lv_if_ne (tgt := 61) hx hb dX6_grant_56 (by decide) (fun c_9 => ?_) (fun c_9 => ?_)
    · replace hf := fp_f c_9 hf
      refine lv_aload_n hx hb dX6_grant_61 rfl (lv_at hl 2 rfl) ?_
      obtain ⟨sv_10, sm_11, hc_12, hf⟩ := bd2_of hf
      refine fn_V (v := none) (As := []) (rest := []) (st1 := []) (ws' := (wMo X mo al sv_10 sm_11 asd th_7 ho fr txt tl pos od nu su)) (nL := 8) ⟨hx, hb, hml, hown, hts⟩ (c_X6_save l X mo al sv sm asd th_7 ho fr txt tl pos od nu su sv_10 sm_11 hc_12) (cwV 0 hts gX6_grant_X6_save rfl rfl rfl (by decide +kernel) ⟨Nat.le_of_ble_eq_true rfl, Nat.le_of_ble_eq_true rfl⟩) 6 rfl rfl rfl rfl hl.1 rfl (Nat.le_of_ble_eq_true rfl) dX6_grant_62 hK hP (hD0.addr rfl) hS hA [0, 1, 2, 3, 4, 5, 6, 7] rfl rfl rfl rfl ⟨Nat.zero_le _, Nat.zero_le _⟩ (fun H locs hP hD hS => ?_)
      refine lv_aload_n hx hb dX6_grant_65 rfl (lv_at hl 2 rfl) ?_
      refine lv_iload_n hx hb dX6_grant_66 rfl (lv_at hl 3 rfl) ?_
      refine lv_iload_n hx hb dX6_grant_67 rfl (lv_at hl 4 rfl) ?_
      refine lv_iload_n hx hb dX6_grant_68 rfl (lv_at hl 5 rfl) ?_
      refine lv_iload hx hb dX6_grant_69 (lv_at hl 6 rfl) ?_
      refine lv_iload hx hb dX6_grant_71 (lv_at hl 7 rfl) ?_
      obtain ⟨al_13, hc_14, hf⟩ := bd_of hf
      refine fn_V (v := none) (As := [.int x1, .int x2, .int x3, .int x4, .int x5]) (rest := []) (st1 := []) (ws' := (wMo X mo al_13 sv_10 sm_11 asd th_7 ho fr txt tl pos od nu su)) (nL := 8) ⟨hx, hb, hml, hown, hts⟩ (c_X6_lays l X mo al sv_10 sm_11 asd th_7 ho fr txt tl pos od nu su x1 x2 x3 x4 x5 al_13 hc_14) (cwV 5 hts gX6_grant_X6_lays rfl rfl rfl (by decide +kernel) ⟨Nat.le_of_ble_eq_true rfl, Nat.le_of_ble_eq_true rfl⟩) 6 rfl rfl rfl rfl hl.1 rfl (Nat.le_of_ble_eq_true rfl) dX6_grant_73 hK hP (hD0.addr rfl) hS hA [0, 1, 2, 3, 4, 5, 6, 7] rfl rfl rfl rfl ⟨Nat.zero_le _, Nat.zero_le _⟩ (fun H locs hP hD hS => ?_)
      refine lv_aload_n hx hb dX6_grant_76 rfl (lv_at hl 2 rfl) ?_
      refine va_get (D := X.1) (ci := 6) (v := .ref (mo 1)) (C := RX6) (T := TX6) (N := 13) hx hb hts hiX6 hown hK.1 hP 0 rfl rfl 0 (by decide) k7 (fun _ h9 => h9) rfl dX6_grant_77 ?_
      refine lv_iconst (v := 1) hx hb dX6_grant_80 (by decide) ?_
      obtain ⟨hi_15, hf⟩ := ix_of hf
      refine va_iald hx hb hK.1 hP 1 0 rfl rfl hi_15 dX6_grant_81 ?_
      refine lv_iconst (v := 1) hx hb dX6_grant_82 (by decide) ?_
      refine lv_isub hx hb dX6_grant_83 ?_
      refine lv_topi (fun v_16 ev_16 => ?_)
      replace hf := nm_of ev_16 hf
      cases hf
      exact fn_iret hx hb hr hlocks hP hS dX6_grant_84
    · replace hf := fp_t c_9 hf
      refine lv_iconst (v := 0) hx hb dX6_grant_59 (by decide) ?_
      cases hf
      exact fn_iret hx hb hr hlocks hP hS dX6_grant_60
  · replace hf := fp_f c_5 hf
    refine lv_iload hx hb dX6_grant_30 (lv_at hl 0 rfl) ?_
    refine lv_if_eq (tgt := 52) hx hb dX6_grant_32 (by decide) (fun c_17 => ?_) (fun c_17 => ?_)
    · replace hf := fp_t c_17 hf
      refine lv_iconst (v := 0) hx hb dX6_grant_52 (by decide) ?_
      obtain ⟨r_18, th_19, hc_20, hf⟩ := bd2_of hf
      refine fn_V (v := some (.int r_18)) (As := [.int r_1, .int r_3, .int (0 : Int32)]) (rest := []) (st1 := [.int r_18]) (ws' := (wMo X mo al sv sm asd th_19 ho fr txt tl pos od nu su)) (nL := 8) ⟨hx, hb, hml, hown, hts⟩ (c_X6_goes l X mo al sv sm asd th ho fr txt tl pos od nu su r_1 r_3 (0 : Int32) r_18 th_19 hc_20) (cwV 3 hts gX6_grant_X6_goes rfl rfl rfl (by decide +kernel) ⟨Nat.le_of_ble_eq_true rfl, Nat.le_of_ble_eq_true rfl⟩) 6 rfl rfl rfl rfl hl.1 rfl (Nat.le_of_ble_eq_true rfl) dX6_grant_53 hK hP (hD0.addr rfl) hS hA [0, 1, 2, 3, 4, 5, 6, 7] rfl rfl rfl rfl ⟨Nat.zero_le _, Nat.zero_le _⟩ (fun H locs hP hD hS => ?_)
      refine lv_if_ne (tgt := 61) hx hb dX6_grant_56 (by decide) (fun c_21 => ?_) (fun c_21 => ?_)
      · replace hf := fp_f c_21 hf
        refine lv_aload_n hx hb dX6_grant_61 rfl (lv_at hl 2 rfl) ?_
        obtain ⟨sv_22, sm_23, hc_24, hf⟩ := bd2_of hf
        refine fn_V (v := none) (As := []) (rest := []) (st1 := []) (ws' := (wMo X mo al sv_22 sm_23 asd th_19 ho fr txt tl pos od nu su)) (nL := 8) ⟨hx, hb, hml, hown, hts⟩ (c_X6_save l X mo al sv sm asd th_19 ho fr txt tl pos od nu su sv_22 sm_23 hc_24) (cwV 0 hts gX6_grant_X6_save rfl rfl rfl (by decide +kernel) ⟨Nat.le_of_ble_eq_true rfl, Nat.le_of_ble_eq_true rfl⟩) 6 rfl rfl rfl rfl hl.1 rfl (Nat.le_of_ble_eq_true rfl) dX6_grant_62 hK hP (hD0.addr rfl) hS hA [0, 1, 2, 3, 4, 5, 6, 7] rfl rfl rfl rfl ⟨Nat.zero_le _, Nat.zero_le _⟩ (fun H locs hP hD hS => ?_)
        refine lv_aload_n hx hb dX6_grant_65 rfl (lv_at hl 2 rfl) ?_
        refine lv_iload_n hx hb dX6_grant_66 rfl (lv_at hl 3 rfl) ?_
        refine lv_iload_n hx hb dX6_grant_67 rfl (lv_at hl 4 rfl) ?_
        refine lv_iload_n hx hb dX6_grant_68 rfl (lv_at hl 5 rfl) ?_
        refine lv_iload hx hb dX6_grant_69 (lv_at hl 6 rfl) ?_
        refine lv_iload hx hb dX6_grant_71 (lv_at hl 7 rfl) ?_
        obtain ⟨al_25, hc_26, hf⟩ := bd_of hf
        refine fn_V (v := none) (As := [.int x1, .int x2, .int x3, .int x4, .int x5]) (rest := []) (st1 := []) (ws' := (wMo X mo al_25 sv_22 sm_23 asd th_19 ho fr txt tl pos od nu su)) (nL := 8) ⟨hx, hb, hml, hown, hts⟩ (c_X6_lays l X mo al sv_22 sm_23 asd th_19 ho fr txt tl pos od nu su x1 x2 x3 x4 x5 al_25 hc_26) (cwV 5 hts gX6_grant_X6_lays rfl rfl rfl (by decide +kernel) ⟨Nat.le_of_ble_eq_true rfl, Nat.le_of_ble_eq_true rfl⟩) 6 rfl rfl rfl rfl hl.1 rfl (Nat.le_of_ble_eq_true rfl) dX6_grant_73 hK hP (hD0.addr rfl) hS hA [0, 1, 2, 3, 4, 5, 6, 7] rfl rfl rfl rfl ⟨Nat.zero_le _, Nat.zero_le _⟩ (fun H locs hP hD hS => ?_)
        refine lv_aload_n hx hb dX6_grant_76 rfl (lv_at hl 2 rfl) ?_
        refine va_get (D := X.1) (ci := 6) (v := .ref (mo 1)) (C := RX6) (T := TX6) (N := 13) hx hb hts hiX6 hown hK.1 hP 0 rfl rfl 0 (by decide) k7 (fun _ h9 => h9) rfl dX6_grant_77 ?_
        refine lv_iconst (v := 1) hx hb dX6_grant_80 (by decide) ?_
        obtain ⟨hi_27, hf⟩ := ix_of hf
        refine va_iald hx hb hK.1 hP 1 0 rfl rfl hi_27 dX6_grant_81 ?_
        refine lv_iconst (v := 1) hx hb dX6_grant_82 (by decide) ?_
        refine lv_isub hx hb dX6_grant_83 ?_
        refine lv_topi (fun v_28 ev_28 => ?_)
        replace hf := nm_of ev_28 hf
        cases hf
        exact fn_iret hx hb hr hlocks hP hS dX6_grant_84
      · replace hf := fp_t c_21 hf
        refine lv_iconst (v := 0) hx hb dX6_grant_59 (by decide) ?_
        cases hf
        exact fn_iret hx hb hr hlocks hP hS dX6_grant_60
    · replace hf := fp_f c_17 hf
      refine lv_aload_n hx hb dX6_grant_35 rfl (lv_at hl 2 rfl) ?_
      refine lv_iload_n hx hb dX6_grant_36 rfl (lv_at hl 3 rfl) ?_
      refine lv_iload_n hx hb dX6_grant_37 rfl (lv_at hl 5 rfl) ?_
      refine lv_iload hx hb dX6_grant_38 (lv_at hl 6 rfl) ?_
      refine lv_iload hx hb dX6_grant_40 (lv_at hl 7 rfl) ?_
      obtain ⟨r_29, ho_30, hc_31, hf⟩ := bd2_of hf
      refine fn_V (v := some (.int r_29)) (As := [.int x1, .int x3, .int x4, .int x5]) (rest := [.int r_3, .int r_1, .ref (mo 0)]) (st1 := [.int r_29, .int r_3, .int r_1, .ref (mo 0)]) (ws' := (wMo X mo al sv sm asd th ho_30 fr txt tl pos od nu su)) (nL := 8) ⟨hx, hb, hml, hown, hts⟩ (c_X6_mayGrant l X mo al sv sm asd th ho fr txt tl pos od nu su x1 x3 x4 x5 r_29 ho_30 hc_31) (cwV 4 hts gX6_grant_X6_mayGrant rfl rfl rfl (by decide +kernel) ⟨Nat.le_of_ble_eq_true rfl, Nat.le_of_ble_eq_true rfl⟩) 6 rfl rfl rfl rfl hl.1 rfl (Nat.le_of_ble_eq_true rfl) dX6_grant_42 hK hP (hD0.addr rfl) hS hA [0, 1, 2, 3, 4, 5, 6, 7] rfl rfl rfl rfl ⟨Nat.zero_le _, Nat.zero_le _⟩ (fun H locs hP hD hS => ?_)
      refine lv_if_eq (tgt := 52) hx hb dX6_grant_45 (by decide) (fun c_32 => ?_) (fun c_32 => ?_)
      · replace hf := fp_t c_32 hf
        refine lv_iconst (v := 0) hx hb dX6_grant_52 (by decide) ?_
        obtain ⟨r_33, th_34, hc_35, hf⟩ := bd2_of hf
        refine fn_V (v := some (.int r_33)) (As := [.int r_1, .int r_3, .int (0 : Int32)]) (rest := []) (st1 := [.int r_33]) (ws' := (wMo X mo al sv sm asd th_34 ho_30 fr txt tl pos od nu su)) (nL := 8) ⟨hx, hb, hml, hown, hts⟩ (c_X6_goes l X mo al sv sm asd th ho_30 fr txt tl pos od nu su r_1 r_3 (0 : Int32) r_33 th_34 hc_35) (cwV 3 hts gX6_grant_X6_goes rfl rfl rfl (by decide +kernel) ⟨Nat.le_of_ble_eq_true rfl, Nat.le_of_ble_eq_true rfl⟩) 6 rfl rfl rfl rfl hl.1 rfl (Nat.le_of_ble_eq_true rfl) dX6_grant_53 hK hP (hD0.addr rfl) hS hA [0, 1, 2, 3, 4, 5, 6, 7] rfl rfl rfl rfl ⟨Nat.zero_le _, Nat.zero_le _⟩ (fun H locs hP hD hS => ?_)
        refine lv_if_ne (tgt := 61) hx hb dX6_grant_56 (by decide) (fun c_36 => ?_) (fun c_36 => ?_)
        · replace hf := fp_f c_36 hf
          refine lv_aload_n hx hb dX6_grant_61 rfl (lv_at hl 2 rfl) ?_
          obtain ⟨sv_37, sm_38, hc_39, hf⟩ := bd2_of hf
          refine fn_V (v := none) (As := []) (rest := []) (st1 := []) (ws' := (wMo X mo al sv_37 sm_38 asd th_34 ho_30 fr txt tl pos od nu su)) (nL := 8) ⟨hx, hb, hml, hown, hts⟩ (c_X6_save l X mo al sv sm asd th_34 ho_30 fr txt tl pos od nu su sv_37 sm_38 hc_39) (cwV 0 hts gX6_grant_X6_save rfl rfl rfl (by decide +kernel) ⟨Nat.le_of_ble_eq_true rfl, Nat.le_of_ble_eq_true rfl⟩) 6 rfl rfl rfl rfl hl.1 rfl (Nat.le_of_ble_eq_true rfl) dX6_grant_62 hK hP (hD0.addr rfl) hS hA [0, 1, 2, 3, 4, 5, 6, 7] rfl rfl rfl rfl ⟨Nat.zero_le _, Nat.zero_le _⟩ (fun H locs hP hD hS => ?_)
          refine lv_aload_n hx hb dX6_grant_65 rfl (lv_at hl 2 rfl) ?_
          refine lv_iload_n hx hb dX6_grant_66 rfl (lv_at hl 3 rfl) ?_
          refine lv_iload_n hx hb dX6_grant_67 rfl (lv_at hl 4 rfl) ?_
          refine lv_iload_n hx hb dX6_grant_68 rfl (lv_at hl 5 rfl) ?_
          refine lv_iload hx hb dX6_grant_69 (lv_at hl 6 rfl) ?_
          refine lv_iload hx hb dX6_grant_71 (lv_at hl 7 rfl) ?_
          obtain ⟨al_40, hc_41, hf⟩ := bd_of hf
          refine fn_V (v := none) (As := [.int x1, .int x2, .int x3, .int x4, .int x5]) (rest := []) (st1 := []) (ws' := (wMo X mo al_40 sv_37 sm_38 asd th_34 ho_30 fr txt tl pos od nu su)) (nL := 8) ⟨hx, hb, hml, hown, hts⟩ (c_X6_lays l X mo al sv_37 sm_38 asd th_34 ho_30 fr txt tl pos od nu su x1 x2 x3 x4 x5 al_40 hc_41) (cwV 5 hts gX6_grant_X6_lays rfl rfl rfl (by decide +kernel) ⟨Nat.le_of_ble_eq_true rfl, Nat.le_of_ble_eq_true rfl⟩) 6 rfl rfl rfl rfl hl.1 rfl (Nat.le_of_ble_eq_true rfl) dX6_grant_73 hK hP (hD0.addr rfl) hS hA [0, 1, 2, 3, 4, 5, 6, 7] rfl rfl rfl rfl ⟨Nat.zero_le _, Nat.zero_le _⟩ (fun H locs hP hD hS => ?_)
          refine lv_aload_n hx hb dX6_grant_76 rfl (lv_at hl 2 rfl) ?_
          refine va_get (D := X.1) (ci := 6) (v := .ref (mo 1)) (C := RX6) (T := TX6) (N := 13) hx hb hts hiX6 hown hK.1 hP 0 rfl rfl 0 (by decide) k7 (fun _ h9 => h9) rfl dX6_grant_77 ?_
          refine lv_iconst (v := 1) hx hb dX6_grant_80 (by decide) ?_
          obtain ⟨hi_42, hf⟩ := ix_of hf
          refine va_iald hx hb hK.1 hP 1 0 rfl rfl hi_42 dX6_grant_81 ?_
          refine lv_iconst (v := 1) hx hb dX6_grant_82 (by decide) ?_
          refine lv_isub hx hb dX6_grant_83 ?_
          refine lv_topi (fun v_43 ev_43 => ?_)
          replace hf := nm_of ev_43 hf
          cases hf
          exact fn_iret hx hb hr hlocks hP hS dX6_grant_84
        · replace hf := fp_t c_36 hf
          refine lv_iconst (v := 0) hx hb dX6_grant_59 (by decide) ?_
          cases hf
          exact fn_iret hx hb hr hlocks hP hS dX6_grant_60
      · replace hf := fp_f c_32 hf
        refine lv_iconst (v := 1) hx hb dX6_grant_48 (by decide) ?_
        refine lv_goto (tgt := 53) hx hb dX6_grant_49 (by decide) ?_
        obtain ⟨r_44, th_45, hc_46, hf⟩ := bd2_of hf
        refine fn_V (v := some (.int r_44)) (As := [.int r_1, .int r_3, .int (1 : Int32)]) (rest := []) (st1 := [.int r_44]) (ws' := (wMo X mo al sv sm asd th_45 ho_30 fr txt tl pos od nu su)) (nL := 8) ⟨hx, hb, hml, hown, hts⟩ (c_X6_goes l X mo al sv sm asd th ho_30 fr txt tl pos od nu su r_1 r_3 (1 : Int32) r_44 th_45 hc_46) (cwV 3 hts gX6_grant_X6_goes rfl rfl rfl (by decide +kernel) ⟨Nat.le_of_ble_eq_true rfl, Nat.le_of_ble_eq_true rfl⟩) 6 rfl rfl rfl rfl hl.1 rfl (Nat.le_of_ble_eq_true rfl) dX6_grant_53 hK hP (hD0.addr rfl) hS hA [0, 1, 2, 3, 4, 5, 6, 7] rfl rfl rfl rfl ⟨Nat.zero_le _, Nat.zero_le _⟩ (fun H locs hP hD hS => ?_)
        refine lv_if_ne (tgt := 61) hx hb dX6_grant_56 (by decide) (fun c_47 => ?_) (fun c_47 => ?_)
        · replace hf := fp_f c_47 hf
          refine lv_aload_n hx hb dX6_grant_61 rfl (lv_at hl 2 rfl) ?_
          obtain ⟨sv_48, sm_49, hc_50, hf⟩ := bd2_of hf
          refine fn_V (v := none) (As := []) (rest := []) (st1 := []) (ws' := (wMo X mo al sv_48 sm_49 asd th_45 ho_30 fr txt tl pos od nu su)) (nL := 8) ⟨hx, hb, hml, hown, hts⟩ (c_X6_save l X mo al sv sm asd th_45 ho_30 fr txt tl pos od nu su sv_48 sm_49 hc_50) (cwV 0 hts gX6_grant_X6_save rfl rfl rfl (by decide +kernel) ⟨Nat.le_of_ble_eq_true rfl, Nat.le_of_ble_eq_true rfl⟩) 6 rfl rfl rfl rfl hl.1 rfl (Nat.le_of_ble_eq_true rfl) dX6_grant_62 hK hP (hD0.addr rfl) hS hA [0, 1, 2, 3, 4, 5, 6, 7] rfl rfl rfl rfl ⟨Nat.zero_le _, Nat.zero_le _⟩ (fun H locs hP hD hS => ?_)
          refine lv_aload_n hx hb dX6_grant_65 rfl (lv_at hl 2 rfl) ?_
          refine lv_iload_n hx hb dX6_grant_66 rfl (lv_at hl 3 rfl) ?_
          refine lv_iload_n hx hb dX6_grant_67 rfl (lv_at hl 4 rfl) ?_
          refine lv_iload_n hx hb dX6_grant_68 rfl (lv_at hl 5 rfl) ?_
          refine lv_iload hx hb dX6_grant_69 (lv_at hl 6 rfl) ?_
          refine lv_iload hx hb dX6_grant_71 (lv_at hl 7 rfl) ?_
          obtain ⟨al_51, hc_52, hf⟩ := bd_of hf
          refine fn_V (v := none) (As := [.int x1, .int x2, .int x3, .int x4, .int x5]) (rest := []) (st1 := []) (ws' := (wMo X mo al_51 sv_48 sm_49 asd th_45 ho_30 fr txt tl pos od nu su)) (nL := 8) ⟨hx, hb, hml, hown, hts⟩ (c_X6_lays l X mo al sv_48 sm_49 asd th_45 ho_30 fr txt tl pos od nu su x1 x2 x3 x4 x5 al_51 hc_52) (cwV 5 hts gX6_grant_X6_lays rfl rfl rfl (by decide +kernel) ⟨Nat.le_of_ble_eq_true rfl, Nat.le_of_ble_eq_true rfl⟩) 6 rfl rfl rfl rfl hl.1 rfl (Nat.le_of_ble_eq_true rfl) dX6_grant_73 hK hP (hD0.addr rfl) hS hA [0, 1, 2, 3, 4, 5, 6, 7] rfl rfl rfl rfl ⟨Nat.zero_le _, Nat.zero_le _⟩ (fun H locs hP hD hS => ?_)
          refine lv_aload_n hx hb dX6_grant_76 rfl (lv_at hl 2 rfl) ?_
          refine va_get (D := X.1) (ci := 6) (v := .ref (mo 1)) (C := RX6) (T := TX6) (N := 13) hx hb hts hiX6 hown hK.1 hP 0 rfl rfl 0 (by decide) k7 (fun _ h9 => h9) rfl dX6_grant_77 ?_
          refine lv_iconst (v := 1) hx hb dX6_grant_80 (by decide) ?_
          obtain ⟨hi_53, hf⟩ := ix_of hf
          refine va_iald hx hb hK.1 hP 1 0 rfl rfl hi_53 dX6_grant_81 ?_
          refine lv_iconst (v := 1) hx hb dX6_grant_82 (by decide) ?_
          refine lv_isub hx hb dX6_grant_83 ?_
          refine lv_topi (fun v_54 ev_54 => ?_)
          replace hf := nm_of ev_54 hf
          cases hf
          exact fn_iret hx hb hr hlocks hP hS dX6_grant_84
        · replace hf := fp_t c_47 hf
          refine lv_iconst (v := 0) hx hb dX6_grant_59 (by decide) ?_
          cases hf
          exact fn_iret hx hb hr hlocks hP hS dX6_grant_60

def f_X6_revokes (x1 : Int32) (al : (Nat → Int32)) (ho : (Nat → Int32)) : Option (Int32 × (Nat → Int32) × (Nat → Int32)) :=
  bd2 (f_X6_pairs al ho) (fun r_1 ho_2 =>
  bd (f_X6_takeOut x1 al) (fun al_4 =>
  ix (3 : Int32) 320 (
  nm ((al_4 (3 : Int32).toNatClampNeg) + (1 : Int32)) (fun v_7 =>
  ix (3 : Int32) 320 (
  nm (upd al_4 (3 : Int32).toNatClampNeg v_7) (fun al_9 =>
  bd2 (f_X6_pairs al_9 ho_2) (fun r_10 ho_11 =>
  nm (r_1 - r_10) (fun v_13 =>
  some (v_13, al_9, ho_11)))))))))
set_option maxHeartbeats 4000000 in
set_option maxRecDepth 100000 in
theorem c_X6_revokes (l : Launch) (X : cx_G) (mo : (Nat → Nat)) (al : (Nat → Int32)) (sv : (Nat → Int32)) (sm : Int32) (asd : (Nat → Int32)) (th : Int32) (ho : (Nat → Int32)) (fr : (Nat → Int32)) (txt : (Nat → Int32)) (tl : Int32) (pos : Int32) (od : Int32) (nu : (Nat → Int32)) (su : Int64) (x1 : Int32) (r : Int32) (al' : (Nat → Int32)) (ho' : (Nat → Int32)) (hf : f_X6_revokes x1 al ho = some (r, al', ho')) : Fn l yX6_revokes wsX6_revokes ({ frames := 4, cells := 0, slots := 0, locals := 90 } : Room) X [.ref (mo 0), .int x1] (wMo X mo al sv sm asd th ho fr txt tl pos od nu su) (some (.int r)) (wMo X mo al' sv sm asd th ho' fr txt tl pos od nu su) := by
  refine fn_intro (cc := cX6_revokes) (maxL := 3) (ret := (some .int)) (by decide) rfl rfl (Nat.le_of_ble_eq_true rfl) ?_
  intro p e s m args below meth c A ls hx hb hml hr hts hown hlocks hK hP hD0 hS hA hl
  have hown : s.vm.findClass RX6 = some m.cls := hown
  have hl : lv_has ls 3 [(0, .ref (mo 0)), (1, .int x1)] := hl
  have hiX6 : ∀ w ∈ u_ws RX6 TX6 13, w ∈ wsX6_revokes := by decide +kernel
  have k7 := hts (.fieldLink RX6 7 "LentRightsModel" "all" "[I") (by decide +kernel)
  unfold f_X6_revokes at hf
  refine lv_aload_n hx hb dX6_revokes_0 rfl (lv_at hl 0 rfl) ?_
  obtain ⟨r_1, ho_2, hc_3, hf⟩ := bd2_of hf
  refine fn_V (v := some (.int r_1)) (As := []) (rest := []) (st1 := [.int r_1]) (ws' := (wMo X mo al sv sm asd th ho_2 fr txt tl pos od nu su)) (nL := 3) ⟨hx, hb, hml, hown, hts⟩ (c_X6_pairs l X mo al sv sm asd th ho fr txt tl pos od nu su r_1 ho_2 hc_3) (cwV 0 hts gX6_revokes_X6_pairs rfl rfl rfl (by decide +kernel) ⟨Nat.le_of_ble_eq_true rfl, Nat.le_of_ble_eq_true rfl⟩) 6 rfl rfl rfl rfl hl.1 rfl (Nat.le_of_ble_eq_true rfl) dX6_revokes_1 hK hP (hD0.addr rfl) hS hA [0, 1, 2, 3, 4, 5, 6, 7] rfl rfl rfl rfl ⟨Nat.zero_le _, Nat.zero_le _⟩ (fun H locs hP hD hS => ?_)
  refine lv_istore_n (lv' := [(2, .int r_1), (0, .ref (mo 0)), (1, .int x1)]) hx hb dX6_revokes_4 rfl hl (by decide) rfl (fun ls hl => ?_)
  refine lv_aload_n hx hb dX6_revokes_5 rfl (lv_at hl 1 rfl) ?_
  refine lv_iload_n hx hb dX6_revokes_6 rfl (lv_at hl 2 rfl) ?_
  obtain ⟨al_4, hc_5, hf⟩ := bd_of hf
  refine fn_V (v := none) (As := [.int x1]) (rest := []) (st1 := []) (ws' := (wMo X mo al_4 sv sm asd th ho_2 fr txt tl pos od nu su)) (nL := 3) ⟨hx, hb, hml, hown, hts⟩ (c_X6_takeOut l X mo al sv sm asd th ho_2 fr txt tl pos od nu su x1 al_4 hc_5) (cwV 1 hts gX6_revokes_X6_takeOut rfl rfl rfl (by decide +kernel) ⟨Nat.le_of_ble_eq_true rfl, Nat.le_of_ble_eq_true rfl⟩) 6 rfl rfl rfl rfl hl.1 rfl (Nat.le_of_ble_eq_true rfl) dX6_revokes_7 hK hP (hD0.addr rfl) hS hA [0, 1, 2, 3, 4, 5, 6, 7] rfl rfl rfl rfl ⟨Nat.zero_le _, Nat.zero_le _⟩ (fun H locs hP hD hS => ?_)
  refine lv_aload_n hx hb dX6_revokes_10 rfl (lv_at hl 1 rfl) ?_
  refine va_get (D := X.1) (ci := 6) (v := .ref (mo 1)) (C := RX6) (T := TX6) (N := 13) hx hb hts hiX6 hown hK.1 hP 0 rfl rfl 0 (by decide) k7 (fun _ h9 => h9) rfl dX6_revokes_11 ?_
  refine lv_iconst (v := 3) hx hb dX6_revokes_14 (by decide) ?_
  refine lv_dup2_11 hx hb dX6_revokes_15 rfl rfl ?_
  obtain ⟨hi_6, hf⟩ := ix_of hf
  refine va_iald hx hb hK.1 hP 1 0 rfl rfl hi_6 dX6_revokes_16 ?_
  refine lv_iconst (v := 1) hx hb dX6_revokes_17 (by decide) ?_
  refine lv_iadd hx hb dX6_revokes_18 ?_
  refine lv_topi (fun v_7 ev_7 => ?_)
  replace hf := nm_of ev_7 hf
  obtain ⟨hi_8, hf⟩ := ix_of hf
  refine va_iast hx hb hK.1 hP (hD0.addr rfl) hS 1 0 rfl rfl hi_8 dX6_revokes_19 (fun H locs hP hD hS => ?_)
  obtain ⟨al_9, eal_9⟩ : ∃ g : Nat → Int32, g = upd al_4 (3 : Int32).toNatClampNeg v_7 := ⟨_, rfl⟩
  replace hf := nm_of eal_9 hf
  have hP : va_P X.1 vwCl (wMo X mo al_9 sv sm asd th ho_2 fr txt tl pos od nu su) H := by rw [eal_9]; exact hP
  refine lv_iload_n hx hb dX6_revokes_20 rfl (lv_at hl 0 rfl) ?_
  refine lv_aload_n hx hb dX6_revokes_21 rfl (lv_at hl 1 rfl) ?_
  obtain ⟨r_10, ho_11, hc_12, hf⟩ := bd2_of hf
  refine fn_V (v := some (.int r_10)) (As := []) (rest := [.int r_1]) (st1 := [.int r_10, .int r_1]) (ws' := (wMo X mo al_9 sv sm asd th ho_11 fr txt tl pos od nu su)) (nL := 3) ⟨hx, hb, hml, hown, hts⟩ (c_X6_pairs l X mo al_9 sv sm asd th ho_2 fr txt tl pos od nu su r_10 ho_11 hc_12) (cwV 0 hts gX6_revokes_X6_pairs rfl rfl rfl (by decide +kernel) ⟨Nat.le_of_ble_eq_true rfl, Nat.le_of_ble_eq_true rfl⟩) 6 rfl rfl rfl rfl hl.1 rfl (Nat.le_of_ble_eq_true rfl) dX6_revokes_22 hK hP (hD0.addr rfl) hS hA [0, 1, 2, 3, 4, 5, 6, 7] rfl rfl rfl rfl ⟨Nat.zero_le _, Nat.zero_le _⟩ (fun H locs hP hD hS => ?_)
  refine lv_isub hx hb dX6_revokes_25 ?_
  refine lv_topi (fun v_13 ev_13 => ?_)
  replace hf := nm_of ev_13 hf
  cases hf
  exact fn_iret hx hb hr hlocks hP hS dX6_revokes_26

def f_X6_revoke (x1 : Int32) (al : (Nat → Int32)) (sv : (Nat → Int32)) (sm : Int32) (th : Int32) (ho : (Nat → Int32)) : Option (Int32 × (Nat → Int32) × (Nat → Int32) × Int32 × Int32 × (Nat → Int32)) :=
  bd (f_X6_placeOf x1 al) (fun r_1 =>
  if r_1 = (-1 : Int32) then
  (bd2 (f_X6_goes (0 : Int32) (1 : Int32) (1 : Int32) th) (fun r_4 th_5 =>
  if r_4 = (0 : Int32) then
  (some ((0 : Int32), al, sv, sm, th_5, ho))
  else
  (bd2 (f_X6_save al sv sm) (fun sv_8 sm_9 =>
  bd (f_X6_placeOf x1 al) (fun r_11 =>
  bd3 (f_X6_revokes r_11 al ho) (fun r_13 al_14 ho_15 =>
  some (r_13, al_14, sv_8, sm_9, th_5, ho_15)))))))
  else
  (bd2 (f_X6_goes (1 : Int32) (1 : Int32) (1 : Int32) th) (fun r_17 th_18 =>
  if r_17 = (0 : Int32) then
  (some ((0 : Int32), al, sv, sm, th_18, ho))
  else
  (bd2 (f_X6_save al sv sm) (fun sv_21 sm_22 =>
  bd (f_X6_placeOf x1 al) (fun r_24 =>
  bd3 (f_X6_revokes r_24 al ho) (fun r_26 al_27 ho_28 =>
  some (r_26, al_27, sv_21, sm_22, th_18, ho_28))))))))
set_option maxHeartbeats 4000000 in
set_option maxRecDepth 100000 in
theorem c_X6_revoke (l : Launch) (X : cx_G) (mo : (Nat → Nat)) (al : (Nat → Int32)) (sv : (Nat → Int32)) (sm : Int32) (asd : (Nat → Int32)) (th : Int32) (ho : (Nat → Int32)) (fr : (Nat → Int32)) (txt : (Nat → Int32)) (tl : Int32) (pos : Int32) (od : Int32) (nu : (Nat → Int32)) (su : Int64) (x1 : Int32) (r : Int32) (al' : (Nat → Int32)) (sv' : (Nat → Int32)) (sm' : Int32) (th' : Int32) (ho' : (Nat → Int32)) (hf : f_X6_revoke x1 al sv sm th ho = some (r, al', sv', sm', th', ho')) : Fn l yX6_revoke wsX6_revoke ({ frames := 5, cells := 0, slots := 0, locals := 112 } : Room) X [.ref (mo 0), .int x1] (wMo X mo al sv sm asd th ho fr txt tl pos od nu su) (some (.int r)) (wMo X mo al' sv' sm' asd th' ho' fr txt tl pos od nu su) := by
  refine fn_intro (cc := cX6_revoke) (maxL := 2) (ret := (some .int)) (by decide) rfl rfl (Nat.le_of_ble_eq_true rfl) ?_
  intro p e s m args below meth c A ls hx hb hml hr hts hown hlocks hK hP hD0 hS hA hl
  have hown : s.vm.findClass RX6 = some m.cls := hown
  have hl : lv_has ls 2 [(0, .ref (mo 0)), (1, .int x1)] := hl
  unfold f_X6_revoke at hf
  refine lv_aload_n hx hb dX6_revoke_0 rfl (lv_at hl 0 rfl) ?_
  refine lv_aload_n hx hb dX6_revoke_1 rfl (lv_at hl 0 rfl) ?_
  refine lv_iload_n hx hb dX6_revoke_2 rfl (lv_at hl 1 rfl) ?_
  obtain ⟨r_1, hc_2, hf⟩ := bd_of hf
  refine fn_V (v := some (.int r_1)) (As := [.int x1]) (rest := [.ref (mo 0)]) (st1 := [.int r_1, .ref (mo 0)]) (ws' := (wMo X mo al sv sm asd th ho fr txt tl pos od nu su)) (nL := 2) ⟨hx, hb, hml, hown, hts⟩ (c_X6_placeOf l X mo al sv sm asd th ho fr txt tl pos od nu su x1 r_1 hc_2) (cwV 1 hts gX6_revoke_X6_placeOf rfl rfl rfl (by decide +kernel) ⟨Nat.le_of_ble_eq_true rfl, Nat.le_of_ble_eq_true rfl⟩) 6 rfl rfl rfl rfl hl.1 rfl (Nat.le_of_ble_eq_true rfl) dX6_revoke_3 hK hP (hD0.addr rfl) hS hA [0, 1, 2, 3, 4, 5, 6, 7] rfl rfl rfl rfl ⟨Nat.zero_le _, Nat.zero_le _⟩ (fun H locs hP hD hS => ?_)
  refine lv_iconst (v := -1) hx hb dX6_revoke_6 (by decide) ?_
  refine lv_icmp_eq (tgt := 14) hx hb dX6_revoke_7 (by decide) (fun c_3 => ?_) (fun c_3 => ?_)
  · replace hf := fp_t c_3 hf
    refine lv_iconst (v := 0) hx hb dX6_revoke_14 (by decide) ?_
    refine lv_iconst (v := 1) hx hb dX6_revoke_15 (by decide) ?_
    refine lv_iconst (v := 1) hx hb dX6_revoke_16 (by decide) ?_
    obtain ⟨r_4, th_5, hc_6, hf⟩ := bd2_of hf
    refine fn_V (v := some (.int r_4)) (As := [.int (0 : Int32), .int (1 : Int32), .int (1 : Int32)]) (rest := []) (st1 := [.int r_4]) (ws' := (wMo X mo al sv sm asd th_5 ho fr txt tl pos od nu su)) (nL := 2) ⟨hx, hb, hml, hown, hts⟩ (c_X6_goes l X mo al sv sm asd th ho fr txt tl pos od nu su (0 : Int32) (1 : Int32) (1 : Int32) r_4 th_5 hc_6) (cwV 3 hts gX6_revoke_X6_goes rfl rfl rfl (by decide +kernel) ⟨Nat.le_of_ble_eq_true rfl, Nat.le_of_ble_eq_true rfl⟩) 6 rfl rfl rfl rfl hl.1 rfl (Nat.le_of_ble_eq_true rfl) dX6_revoke_17 hK hP (hD0.addr rfl) hS hA [0, 1, 2, 3, 4, 5, 6, 7] rfl rfl rfl rfl ⟨Nat.zero_le _, Nat.zero_le _⟩ (fun H locs hP hD hS => ?_)
    refine lv_if_ne (tgt := 25) hx hb dX6_revoke_20 (by decide) (fun c_7 => ?_) (fun c_7 => ?_)
    · replace hf := fp_f c_7 hf
      refine lv_aload_n hx hb dX6_revoke_25 rfl (lv_at hl 0 rfl) ?_
      obtain ⟨sv_8, sm_9, hc_10, hf⟩ := bd2_of hf
      refine fn_V (v := none) (As := []) (rest := []) (st1 := []) (ws' := (wMo X mo al sv_8 sm_9 asd th_5 ho fr txt tl pos od nu su)) (nL := 2) ⟨hx, hb, hml, hown, hts⟩ (c_X6_save l X mo al sv sm asd th_5 ho fr txt tl pos od nu su sv_8 sm_9 hc_10) (cwV 0 hts gX6_revoke_X6_save rfl rfl rfl (by decide +kernel) ⟨Nat.le_of_ble_eq_true rfl, Nat.le_of_ble_eq_true rfl⟩) 6 rfl rfl rfl rfl hl.1 rfl (Nat.le_of_ble_eq_true rfl) dX6_revoke_26 hK hP (hD0.addr rfl) hS hA [0, 1, 2, 3, 4, 5, 6, 7] rfl rfl rfl rfl ⟨Nat.zero_le _, Nat.zero_le _⟩ (fun H locs hP hD hS => ?_)
      refine lv_aload_n hx hb dX6_revoke_29 rfl (lv_at hl 0 rfl) ?_
      refine lv_aload_n hx hb dX6_revoke_30 rfl (lv_at hl 0 rfl) ?_
      refine lv_iload_n hx hb dX6_revoke_31 rfl (lv_at hl 1 rfl) ?_
      obtain ⟨r_11, hc_12, hf⟩ := bd_of hf
      refine fn_V (v := some (.int r_11)) (As := [.int x1]) (rest := [.ref (mo 0)]) (st1 := [.int r_11, .ref (mo 0)]) (ws' := (wMo X mo al sv_8 sm_9 asd th_5 ho fr txt tl pos od nu su)) (nL := 2) ⟨hx, hb, hml, hown, hts⟩ (c_X6_placeOf l X mo al sv_8 sm_9 asd th_5 ho fr txt tl pos od nu su x1 r_11 hc_12) (cwV 1 hts gX6_revoke_X6_placeOf rfl rfl rfl (by decide +kernel) ⟨Nat.le_of_ble_eq_true rfl, Nat.le_of_ble_eq_true rfl⟩) 6 rfl rfl rfl rfl hl.1 rfl (Nat.le_of_ble_eq_true rfl) dX6_revoke_32 hK hP (hD0.addr rfl) hS hA [0, 1, 2, 3, 4, 5, 6, 7] rfl rfl rfl rfl ⟨Nat.zero_le _, Nat.zero_le _⟩ (fun H locs hP hD hS => ?_)
      obtain ⟨r_13, al_14, ho_15, hc_16, hf⟩ := bd3_of hf
      refine fn_V (v := some (.int r_13)) (As := [.int r_11]) (rest := []) (st1 := [.int r_13]) (ws' := (wMo X mo al_14 sv_8 sm_9 asd th_5 ho_15 fr txt tl pos od nu su)) (nL := 2) ⟨hx, hb, hml, hown, hts⟩ (c_X6_revokes l X mo al sv_8 sm_9 asd th_5 ho fr txt tl pos od nu su r_11 r_13 al_14 ho_15 hc_16) (cwV 1 hts gX6_revoke_X6_revokes rfl rfl rfl (by decide +kernel) ⟨Nat.le_of_ble_eq_true rfl, Nat.le_of_ble_eq_true rfl⟩) 6 rfl rfl rfl rfl hl.1 rfl (Nat.le_of_ble_eq_true rfl) dX6_revoke_35 hK hP (hD0.addr rfl) hS hA [0, 1, 2, 3, 4, 5, 6, 7] rfl rfl rfl rfl ⟨Nat.zero_le _, Nat.zero_le _⟩ (fun H locs hP hD hS => ?_)
      cases hf
      exact fn_iret hx hb hr hlocks hP hS dX6_revoke_38
    · replace hf := fp_t c_7 hf
      refine lv_iconst (v := 0) hx hb dX6_revoke_23 (by decide) ?_
      cases hf
      exact fn_iret hx hb hr hlocks hP hS dX6_revoke_24
  · replace hf := fp_f c_3 hf
    refine lv_iconst (v := 1) hx hb dX6_revoke_10 (by decide) ?_
    refine lv_goto (tgt := 15) hx hb dX6_revoke_11 (by decide) ?_
    refine lv_iconst (v := 1) hx hb dX6_revoke_15 (by decide) ?_
    refine lv_iconst (v := 1) hx hb dX6_revoke_16 (by decide) ?_
    obtain ⟨r_17, th_18, hc_19, hf⟩ := bd2_of hf
    refine fn_V (v := some (.int r_17)) (As := [.int (1 : Int32), .int (1 : Int32), .int (1 : Int32)]) (rest := []) (st1 := [.int r_17]) (ws' := (wMo X mo al sv sm asd th_18 ho fr txt tl pos od nu su)) (nL := 2) ⟨hx, hb, hml, hown, hts⟩ (c_X6_goes l X mo al sv sm asd th ho fr txt tl pos od nu su (1 : Int32) (1 : Int32) (1 : Int32) r_17 th_18 hc_19) (cwV 3 hts gX6_revoke_X6_goes rfl rfl rfl (by decide +kernel) ⟨Nat.le_of_ble_eq_true rfl, Nat.le_of_ble_eq_true rfl⟩) 6 rfl rfl rfl rfl hl.1 rfl (Nat.le_of_ble_eq_true rfl) dX6_revoke_17 hK hP (hD0.addr rfl) hS hA [0, 1, 2, 3, 4, 5, 6, 7] rfl rfl rfl rfl ⟨Nat.zero_le _, Nat.zero_le _⟩ (fun H locs hP hD hS => ?_)
    refine lv_if_ne (tgt := 25) hx hb dX6_revoke_20 (by decide) (fun c_20 => ?_) (fun c_20 => ?_)
    · replace hf := fp_f c_20 hf
      refine lv_aload_n hx hb dX6_revoke_25 rfl (lv_at hl 0 rfl) ?_
      obtain ⟨sv_21, sm_22, hc_23, hf⟩ := bd2_of hf
      refine fn_V (v := none) (As := []) (rest := []) (st1 := []) (ws' := (wMo X mo al sv_21 sm_22 asd th_18 ho fr txt tl pos od nu su)) (nL := 2) ⟨hx, hb, hml, hown, hts⟩ (c_X6_save l X mo al sv sm asd th_18 ho fr txt tl pos od nu su sv_21 sm_22 hc_23) (cwV 0 hts gX6_revoke_X6_save rfl rfl rfl (by decide +kernel) ⟨Nat.le_of_ble_eq_true rfl, Nat.le_of_ble_eq_true rfl⟩) 6 rfl rfl rfl rfl hl.1 rfl (Nat.le_of_ble_eq_true rfl) dX6_revoke_26 hK hP (hD0.addr rfl) hS hA [0, 1, 2, 3, 4, 5, 6, 7] rfl rfl rfl rfl ⟨Nat.zero_le _, Nat.zero_le _⟩ (fun H locs hP hD hS => ?_)
      refine lv_aload_n hx hb dX6_revoke_29 rfl (lv_at hl 0 rfl) ?_
      refine lv_aload_n hx hb dX6_revoke_30 rfl (lv_at hl 0 rfl) ?_
      refine lv_iload_n hx hb dX6_revoke_31 rfl (lv_at hl 1 rfl) ?_
      obtain ⟨r_24, hc_25, hf⟩ := bd_of hf
      refine fn_V (v := some (.int r_24)) (As := [.int x1]) (rest := [.ref (mo 0)]) (st1 := [.int r_24, .ref (mo 0)]) (ws' := (wMo X mo al sv_21 sm_22 asd th_18 ho fr txt tl pos od nu su)) (nL := 2) ⟨hx, hb, hml, hown, hts⟩ (c_X6_placeOf l X mo al sv_21 sm_22 asd th_18 ho fr txt tl pos od nu su x1 r_24 hc_25) (cwV 1 hts gX6_revoke_X6_placeOf rfl rfl rfl (by decide +kernel) ⟨Nat.le_of_ble_eq_true rfl, Nat.le_of_ble_eq_true rfl⟩) 6 rfl rfl rfl rfl hl.1 rfl (Nat.le_of_ble_eq_true rfl) dX6_revoke_32 hK hP (hD0.addr rfl) hS hA [0, 1, 2, 3, 4, 5, 6, 7] rfl rfl rfl rfl ⟨Nat.zero_le _, Nat.zero_le _⟩ (fun H locs hP hD hS => ?_)
      obtain ⟨r_26, al_27, ho_28, hc_29, hf⟩ := bd3_of hf
      refine fn_V (v := some (.int r_26)) (As := [.int r_24]) (rest := []) (st1 := [.int r_26]) (ws' := (wMo X mo al_27 sv_21 sm_22 asd th_18 ho_28 fr txt tl pos od nu su)) (nL := 2) ⟨hx, hb, hml, hown, hts⟩ (c_X6_revokes l X mo al sv_21 sm_22 asd th_18 ho fr txt tl pos od nu su r_24 r_26 al_27 ho_28 hc_29) (cwV 1 hts gX6_revoke_X6_revokes rfl rfl rfl (by decide +kernel) ⟨Nat.le_of_ble_eq_true rfl, Nat.le_of_ble_eq_true rfl⟩) 6 rfl rfl rfl rfl hl.1 rfl (Nat.le_of_ble_eq_true rfl) dX6_revoke_35 hK hP (hD0.addr rfl) hS hA [0, 1, 2, 3, 4, 5, 6, 7] rfl rfl rfl rfl ⟨Nat.zero_le _, Nat.zero_le _⟩ (fun H locs hP hD hS => ?_)
      cases hf
      exact fn_iret hx hb hr hlocks hP hS dX6_revoke_38
    · replace hf := fp_t c_20 hf
      refine lv_iconst (v := 0) hx hb dX6_revoke_23 (by decide) ?_
      cases hf
      exact fn_iret hx hb hr hlocks hP hS dX6_revoke_24
