def f_X6_idle_L4 (al : (Nat → Int32)) (ho : (Nat → Int32)) : Nat → Int32 → Int32 →  Option (Int32)
  | 0, _, _ => none
  | k_ + 1, x1, x2 =>
    ix (5 : Int32) 320 (
    if al (5 : Int32).toNatClampNeg ≤ x2 then
    (some x1)
    else
    (bd (f_X6_passes x2 al ho) (fun r_3 =>
    if r_3 = (0 : Int32) then
    (nm (x1 + (1 : Int32)) (fun v_8 =>
    nm (x2 + (1 : Int32)) (fun v_9 =>
    f_X6_idle_L4 al ho k_ v_8 v_9)))
    else
    (nm (x1 + (0 : Int32)) (fun v_6 =>
    nm (x2 + (1 : Int32)) (fun v_7 =>
    f_X6_idle_L4 al ho k_ v_6 v_7))))))
def f_X6_idle (al : (Nat → Int32)) (ho : (Nat → Int32)) : Option (Int32) :=
  bd (f_X6_idle_L4 al ho FU (0 : Int32) (0 : Int32)) (fun y1_10 =>
  some y1_10)
set_option maxHeartbeats 4000000 in
set_option maxRecDepth 100000 in
theorem c_X6_idle (l : Launch) (X : cx_G) (mo : (Nat → Nat)) (al : (Nat → Int32)) (sv : (Nat → Int32)) (sm : Int32) (asd : (Nat → Int32)) (th : Int32) (ho : (Nat → Int32)) (fr : (Nat → Int32)) (txt : (Nat → Int32)) (tl : Int32) (pos : Int32) (od : Int32) (nu : (Nat → Int32)) (su : Int64) (r : Int32) (hf : f_X6_idle al ho = some r) : Fn l yX6_idle wsX6_idle ({ frames := 2, cells := 0, slots := 0, locals := 44 } : Room) X [.ref (mo 0)] (wMo X mo al sv sm asd th ho fr txt tl pos od nu su) (some (.int r)) (wMo X mo al sv sm asd th ho fr txt tl pos od nu su) := by
  refine fn_intro (cc := cX6_idle) (maxL := 3) (ret := (some .int)) (by decide) rfl rfl (Nat.le_of_ble_eq_true rfl) ?_
  intro p e s m args below meth c A ls hx hb hml hr hts hown hlocks hK hP hD0 hS hA hl
  have hown : s.vm.findClass RX6 = some m.cls := hown
  have hl : lv_has ls 3 [(0, .ref (mo 0))] := hl
  have hiX6 : ∀ w ∈ u_ws RX6 TX6 13, w ∈ wsX6_idle := by decide +kernel
  have k7 := hts (.fieldLink RX6 7 "LentRightsModel" "all" "[I") (by decide +kernel)
  have loop_4 : ∀ (Q : State → Prop) (y1 : Int32), (∀ (H : Heap) (locs : List Loc) (ls : Array Slot), va_P X.1 vwCl (wMo X mo al sv sm asd th ho fr txt tl pos od nu su) H → va_S A s.heap H locs → lv_has ls 3 [(1, .int y1)] → W p l e ({ frames := 2, cells := 0, slots := 0, locals := 44 } : Room) s m args below meth c H locs 0 0 Q (F0 m 36 ls [])) → ∀ (k_ : Nat) (x1 : Int32) (x2 : Int32) (H : Heap) (locs : List Loc) (ls : Array Slot), f_X6_idle_L4 al ho k_ x1 x2 = some y1 → va_P X.1 vwCl (wMo X mo al sv sm asd th ho fr txt tl pos od nu su) H → va_S A s.heap H locs → lv_has ls 3 [(0, .ref (mo 0)), (1, .int x1), (2, .int x2)] → W p l e ({ frames := 2, cells := 0, slots := 0, locals := 44 } : Room) s m args below meth c H locs 0 0 Q (F0 m 4 ls []) := by
    intro Q y1 kx k_
    induction k_ with
    | zero => intro x1 x2 H locs ls hf; exact nomatch (show (none : Option (Int32)) = some _ from hf)
    | succ k_ ih =>
      intro x1 x2 H locs ls hf hP hS hl
      unfold f_X6_idle_L4 at hf
      refine lv_iload_n hx hb dX6_idle_4 rfl (lv_at hl 2 rfl) ?_
      refine lv_aload_n hx hb dX6_idle_5 rfl (lv_at hl 0 rfl) ?_
      refine va_get (D := X.1) (ci := 6) (v := .ref (mo 1)) (C := RX6) (T := TX6) (N := 13) hx hb hts hiX6 hown hK.1 hP 0 rfl rfl 0 (by decide) k7 (fun _ h9 => h9) rfl dX6_idle_6 ?_
      refine lv_iconst (v := 5) hx hb dX6_idle_9 (by decide) ?_
      obtain ⟨hi_1, hf⟩ := ix_of hf
      refine va_iald hx hb hK.1 hP 1 0 rfl rfl hi_1 dX6_idle_10 ?_
      refine lv_icmp_ge (tgt := 36) hx hb dX6_idle_11 (by decide) (fun c_2 => ?_) (fun c_2 => ?_)
      · replace hf := fp_t c_2 hf
        cases hf
        exact kx _ _ _ hP hS (lv_sub hl [1] rfl)
      · replace hf := fp_f c_2 hf
        refine lv_iload_n hx hb dX6_idle_14 rfl (lv_at hl 1 rfl) ?_
        refine lv_aload_n hx hb dX6_idle_15 rfl (lv_at hl 0 rfl) ?_
        refine lv_iload_n hx hb dX6_idle_16 rfl (lv_at hl 2 rfl) ?_
        obtain ⟨r_3, hc_4, hf⟩ := bd_of hf
        refine fn_V (v := some (.int r_3)) (As := [.int x2]) (rest := [.int x1]) (st1 := [.int r_3, .int x1]) (ws' := (wMo X mo al sv sm asd th ho fr txt tl pos od nu su)) (nL := 3) ⟨hx, hb, hml, hown, hts⟩ (c_X6_passes l X mo al sv sm asd th ho fr txt tl pos od nu su x2 r_3 hc_4) (cwV 1 hts gX6_idle_X6_passes rfl rfl rfl (by decide +kernel) ⟨Nat.le_of_ble_eq_true rfl, Nat.le_of_ble_eq_true rfl⟩) 6 rfl rfl rfl rfl hl.1 rfl (Nat.le_of_ble_eq_true rfl) dX6_idle_17 hK hP (hD0.addr rfl) hS hA [0, 1, 2, 3, 4, 5, 6, 7] rfl rfl rfl rfl ⟨Nat.zero_le _, Nat.zero_le _⟩ (fun H locs hP hD hS => ?_)
        refine lv_if_ne (tgt := 27) hx hb dX6_idle_20 (by decide) (fun c_5 => ?_) (fun c_5 => ?_)
        · replace hf := fp_f c_5 hf
          refine lv_iconst (v := 0) hx hb dX6_idle_27 (by decide) ?_
          refine lv_iadd hx hb dX6_idle_28 ?_
          refine lv_topi (fun v_6 ev_6 => ?_)
          replace hf := nm_of ev_6 hf
          refine lv_istore_n (lv' := [(1, .int v_6), (0, .ref (mo 0)), (2, .int x2)]) hx hb dX6_idle_29 rfl hl (by decide) rfl (fun ls hl => ?_)
          obtain ⟨v_7, ev_7⟩ : ∃ y : Int32, y = x2 + (1 : Int32) := ⟨_, rfl⟩
          replace hf := nm_of ev_7 hf
          refine lv_iinc (v := v_7) (lv' := [(2, .int v_7), (1, .int v_6), (0, .ref (mo 0))]) hx hb dX6_idle_30 hl (k := 2) rfl (by rw [ev_7]; rfl) (by decide) rfl (fun ls hl => ?_)
          refine lv_goto (tgt := 4) hx hb dX6_idle_33 (by decide) ?_
          exact ih v_6 v_7 _ _ _ hf hP hS (lv_sub hl [2, 1, 0] rfl)
        · replace hf := fp_t c_5 hf
          refine lv_iconst (v := 1) hx hb dX6_idle_23 (by decide) ?_
          refine lv_goto (tgt := 28) hx hb dX6_idle_24 (by decide) ?_
          refine lv_iadd hx hb dX6_idle_28 ?_
          refine lv_topi (fun v_8 ev_8 => ?_)
          replace hf := nm_of ev_8 hf
          refine lv_istore_n (lv' := [(1, .int v_8), (0, .ref (mo 0)), (2, .int x2)]) hx hb dX6_idle_29 rfl hl (by decide) rfl (fun ls hl => ?_)
          obtain ⟨v_9, ev_9⟩ : ∃ y : Int32, y = x2 + (1 : Int32) := ⟨_, rfl⟩
          replace hf := nm_of ev_9 hf
          refine lv_iinc (v := v_9) (lv' := [(2, .int v_9), (1, .int v_8), (0, .ref (mo 0))]) hx hb dX6_idle_30 hl (k := 2) rfl (by rw [ev_9]; rfl) (by decide) rfl (fun ls hl => ?_)
          refine lv_goto (tgt := 4) hx hb dX6_idle_33 (by decide) ?_
          exact ih v_8 v_9 _ _ _ hf hP hS (lv_sub hl [2, 1, 0] rfl)
  unfold f_X6_idle at hf
  refine lv_iconst (v := 0) hx hb dX6_idle_0 (by decide) ?_
  refine lv_istore_n (lv' := [(1, .int (0 : Int32)), (0, .ref (mo 0))]) hx hb dX6_idle_1 rfl hl (by decide) rfl (fun ls hl => ?_)
  refine lv_iconst (v := 0) hx hb dX6_idle_2 (by decide) ?_
  refine lv_istore_n (lv' := [(2, .int (0 : Int32)), (1, .int (0 : Int32)), (0, .ref (mo 0))]) hx hb dX6_idle_3 rfl hl (by decide) rfl (fun ls hl => ?_)
  obtain ⟨y1_10, hL_11, hf⟩ := bd_of hf
  refine loop_4 _ y1_10 (fun H locs ls hP hS hl => ?_) FU (0 : Int32) (0 : Int32) _ _ _ hL_11 hP hS (lv_sub hl [2, 1, 0] rfl)
  refine lv_iload_n hx hb dX6_idle_36 rfl (lv_at hl 0 rfl) ?_
  cases hf
  exact fn_iret hx hb hr hlocks hP hS dX6_idle_37

def f_X6_numberOf (x1 : Int32) (al : (Nat → Int32)) (ho : (Nat → Int32)) : Option (Int32 × (Nat → Int32)) :=
  if x1 = (0 : Int32) then
  (ix (4 : Int32) 320 (
  nm (al (4 : Int32).toNatClampNeg) (fun v_3 =>
  some (v_3, ho))))
  else
  (if x1 = (1 : Int32) then
  (ix (5 : Int32) 320 (
  nm (al (5 : Int32).toNatClampNeg) (fun v_6 =>
  some (v_6, ho))))
  else
  (if x1 = (2 : Int32) then
  (ix (((1 : Int32) + x1) - (2 : Int32)) 320 (
  nm (al (((1 : Int32) + x1) - (2 : Int32)).toNatClampNeg) (fun v_9 =>
  some (v_9, ho))))
  else
  (if x1 = (3 : Int32) then
  (ix (((1 : Int32) + x1) - (2 : Int32)) 320 (
  nm (al (((1 : Int32) + x1) - (2 : Int32)).toNatClampNeg) (fun v_12 =>
  some (v_12, ho))))
  else
  (if x1 = (4 : Int32) then
  (ix (((1 : Int32) + x1) - (2 : Int32)) 320 (
  nm (al (((1 : Int32) + x1) - (2 : Int32)).toNatClampNeg) (fun v_15 =>
  some (v_15, ho))))
  else
  (if x1 = (5 : Int32) then
  (ix (0 : Int32) 320 (
  nm (al (0 : Int32).toNatClampNeg) (fun v_18 =>
  some (v_18, ho))))
  else
  (if x1 = (6 : Int32) then
  (bd2 (f_X6_pairs al ho) (fun r_20 ho_21 =>
  some (r_20, ho_21)))
  else
  (if x1 = (7 : Int32) then
  (bd (f_X6_lay al ho) (fun ho_24 =>
  bd (f_X6_idle al ho_24) (fun r_26 =>
  some (r_26, ho_24))))
  else
  (ix (6 : Int32) 320 (
  nm (al (6 : Int32).toNatClampNeg) (fun v_29 =>
  some (v_29, ho)))))))))))
set_option maxHeartbeats 4000000 in
set_option maxRecDepth 100000 in
theorem c_X6_numberOf (l : Launch) (X : cx_G) (mo : (Nat → Nat)) (al : (Nat → Int32)) (sv : (Nat → Int32)) (sm : Int32) (asd : (Nat → Int32)) (th : Int32) (ho : (Nat → Int32)) (fr : (Nat → Int32)) (txt : (Nat → Int32)) (tl : Int32) (pos : Int32) (od : Int32) (nu : (Nat → Int32)) (su : Int64) (x1 : Int32) (r : Int32) (ho' : (Nat → Int32)) (hf : f_X6_numberOf x1 al ho = some (r, ho')) : Fn l yX6_numberOf wsX6_numberOf ({ frames := 4, cells := 0, slots := 0, locals := 90 } : Room) X [.ref (mo 0), .int x1] (wMo X mo al sv sm asd th ho fr txt tl pos od nu su) (some (.int r)) (wMo X mo al sv sm asd th ho' fr txt tl pos od nu su) := by
  refine fn_intro (cc := cX6_numberOf) (maxL := 2) (ret := (some .int)) (by decide) rfl rfl (Nat.le_of_ble_eq_true rfl) ?_
  intro p e s m args below meth c A ls hx hb hml hr hts hown hlocks hK hP hD0 hS hA hl
  have hown : s.vm.findClass RX6 = some m.cls := hown
  have hl : lv_has ls 2 [(0, .ref (mo 0)), (1, .int x1)] := hl
  have hiX6 : ∀ w ∈ u_ws RX6 TX6 13, w ∈ wsX6_numberOf := by decide +kernel
  have k7 := hts (.fieldLink RX6 7 "LentRightsModel" "all" "[I") (by decide +kernel)
  unfold f_X6_numberOf at hf
  refine lv_iload_n hx hb dX6_numberOf_0 rfl (lv_at hl 1 rfl) ?_
  by_cases c_1 : x1 = (0 : Int32)
  · replace hf := fp_t c_1 hf
    refine lv_tableIn (off := 47) (tgt := 48) hx hb dX6_numberOf_1 (by rw [c_1]; decide) (by rw [c_1]; decide) (by rw [c_1]; rfl) (by decide) ?_
    refine lv_aload_n hx hb dX6_numberOf_48 rfl (lv_at hl 0 rfl) ?_
    refine va_get (D := X.1) (ci := 6) (v := .ref (mo 1)) (C := RX6) (T := TX6) (N := 13) hx hb hts hiX6 hown hK.1 hP 0 rfl rfl 0 (by decide) k7 (fun _ h9 => h9) rfl dX6_numberOf_49 ?_
    refine lv_iconst (v := 4) hx hb dX6_numberOf_52 (by decide) ?_
    obtain ⟨hi_2, hf⟩ := ix_of hf
    refine va_iald hx hb hK.1 hP 1 0 rfl rfl hi_2 dX6_numberOf_53 ?_
    refine lv_topi (fun v_3 ev_3 => ?_)
    replace hf := nm_of ev_3 hf
    cases hf
    exact fn_iret hx hb hr hlocks hP hS dX6_numberOf_54
  · replace hf := fp_f c_1 hf
    by_cases c_4 : x1 = (1 : Int32)
    · replace hf := fp_t c_4 hf
      refine lv_tableIn (off := 54) (tgt := 55) hx hb dX6_numberOf_1 (by rw [c_4]; decide) (by rw [c_4]; decide) (by rw [c_4]; rfl) (by decide) ?_
      refine lv_aload_n hx hb dX6_numberOf_55 rfl (lv_at hl 0 rfl) ?_
      refine va_get (D := X.1) (ci := 6) (v := .ref (mo 1)) (C := RX6) (T := TX6) (N := 13) hx hb hts hiX6 hown hK.1 hP 0 rfl rfl 0 (by decide) k7 (fun _ h9 => h9) rfl dX6_numberOf_56 ?_
      refine lv_iconst (v := 5) hx hb dX6_numberOf_59 (by decide) ?_
      obtain ⟨hi_5, hf⟩ := ix_of hf
      refine va_iald hx hb hK.1 hP 1 0 rfl rfl hi_5 dX6_numberOf_60 ?_
      refine lv_topi (fun v_6 ev_6 => ?_)
      replace hf := nm_of ev_6 hf
      cases hf
      exact fn_iret hx hb hr hlocks hP hS dX6_numberOf_61
    · replace hf := fp_f c_4 hf
      by_cases c_7 : x1 = (2 : Int32)
      · replace hf := fp_t c_7 hf
        refine lv_tableIn (off := 61) (tgt := 62) hx hb dX6_numberOf_1 (by rw [c_7]; decide) (by rw [c_7]; decide) (by rw [c_7]; rfl) (by decide) ?_
        refine lv_aload_n hx hb dX6_numberOf_62 rfl (lv_at hl 0 rfl) ?_
        refine va_get (D := X.1) (ci := 6) (v := .ref (mo 1)) (C := RX6) (T := TX6) (N := 13) hx hb hts hiX6 hown hK.1 hP 0 rfl rfl 0 (by decide) k7 (fun _ h9 => h9) rfl dX6_numberOf_63 ?_
        refine lv_iconst (v := 1) hx hb dX6_numberOf_66 (by decide) ?_
        refine lv_iload_n hx hb dX6_numberOf_67 rfl (lv_at hl 1 rfl) ?_
        refine lv_iadd hx hb dX6_numberOf_68 ?_
        refine lv_iconst (v := 2) hx hb dX6_numberOf_69 (by decide) ?_
        refine lv_isub hx hb dX6_numberOf_70 ?_
        obtain ⟨hi_8, hf⟩ := ix_of hf
        refine va_iald hx hb hK.1 hP 1 0 rfl rfl hi_8 dX6_numberOf_71 ?_
        refine lv_topi (fun v_9 ev_9 => ?_)
        replace hf := nm_of ev_9 hf
        cases hf
        exact fn_iret hx hb hr hlocks hP hS dX6_numberOf_72
      · replace hf := fp_f c_7 hf
        by_cases c_10 : x1 = (3 : Int32)
        · replace hf := fp_t c_10 hf
          refine lv_tableIn (off := 61) (tgt := 62) hx hb dX6_numberOf_1 (by rw [c_10]; decide) (by rw [c_10]; decide) (by rw [c_10]; rfl) (by decide) ?_
          refine lv_aload_n hx hb dX6_numberOf_62 rfl (lv_at hl 0 rfl) ?_
          refine va_get (D := X.1) (ci := 6) (v := .ref (mo 1)) (C := RX6) (T := TX6) (N := 13) hx hb hts hiX6 hown hK.1 hP 0 rfl rfl 0 (by decide) k7 (fun _ h9 => h9) rfl dX6_numberOf_63 ?_
          refine lv_iconst (v := 1) hx hb dX6_numberOf_66 (by decide) ?_
          refine lv_iload_n hx hb dX6_numberOf_67 rfl (lv_at hl 1 rfl) ?_
          refine lv_iadd hx hb dX6_numberOf_68 ?_
          refine lv_iconst (v := 2) hx hb dX6_numberOf_69 (by decide) ?_
          refine lv_isub hx hb dX6_numberOf_70 ?_
          obtain ⟨hi_11, hf⟩ := ix_of hf
          refine va_iald hx hb hK.1 hP 1 0 rfl rfl hi_11 dX6_numberOf_71 ?_
          refine lv_topi (fun v_12 ev_12 => ?_)
          replace hf := nm_of ev_12 hf
          cases hf
          exact fn_iret hx hb hr hlocks hP hS dX6_numberOf_72
        · replace hf := fp_f c_10 hf
          by_cases c_13 : x1 = (4 : Int32)
          · replace hf := fp_t c_13 hf
            refine lv_tableIn (off := 61) (tgt := 62) hx hb dX6_numberOf_1 (by rw [c_13]; decide) (by rw [c_13]; decide) (by rw [c_13]; rfl) (by decide) ?_
            refine lv_aload_n hx hb dX6_numberOf_62 rfl (lv_at hl 0 rfl) ?_
            refine va_get (D := X.1) (ci := 6) (v := .ref (mo 1)) (C := RX6) (T := TX6) (N := 13) hx hb hts hiX6 hown hK.1 hP 0 rfl rfl 0 (by decide) k7 (fun _ h9 => h9) rfl dX6_numberOf_63 ?_
            refine lv_iconst (v := 1) hx hb dX6_numberOf_66 (by decide) ?_
            refine lv_iload_n hx hb dX6_numberOf_67 rfl (lv_at hl 1 rfl) ?_
            refine lv_iadd hx hb dX6_numberOf_68 ?_
            refine lv_iconst (v := 2) hx hb dX6_numberOf_69 (by decide) ?_
            refine lv_isub hx hb dX6_numberOf_70 ?_
            obtain ⟨hi_14, hf⟩ := ix_of hf
            refine va_iald hx hb hK.1 hP 1 0 rfl rfl hi_14 dX6_numberOf_71 ?_
            refine lv_topi (fun v_15 ev_15 => ?_)
            replace hf := nm_of ev_15 hf
            cases hf
            exact fn_iret hx hb hr hlocks hP hS dX6_numberOf_72
          · replace hf := fp_f c_13 hf
            by_cases c_16 : x1 = (5 : Int32)
            · replace hf := fp_t c_16 hf
              refine lv_tableIn (off := 72) (tgt := 73) hx hb dX6_numberOf_1 (by rw [c_16]; decide) (by rw [c_16]; decide) (by rw [c_16]; rfl) (by decide) ?_
              refine lv_aload_n hx hb dX6_numberOf_73 rfl (lv_at hl 0 rfl) ?_
              refine va_get (D := X.1) (ci := 6) (v := .ref (mo 1)) (C := RX6) (T := TX6) (N := 13) hx hb hts hiX6 hown hK.1 hP 0 rfl rfl 0 (by decide) k7 (fun _ h9 => h9) rfl dX6_numberOf_74 ?_
              refine lv_iconst (v := 0) hx hb dX6_numberOf_77 (by decide) ?_
              obtain ⟨hi_17, hf⟩ := ix_of hf
              refine va_iald hx hb hK.1 hP 1 0 rfl rfl hi_17 dX6_numberOf_78 ?_
              refine lv_topi (fun v_18 ev_18 => ?_)
              replace hf := nm_of ev_18 hf
              cases hf
              exact fn_iret hx hb hr hlocks hP hS dX6_numberOf_79
            · replace hf := fp_f c_16 hf
              by_cases c_19 : x1 = (6 : Int32)
              · replace hf := fp_t c_19 hf
                refine lv_tableIn (off := 79) (tgt := 80) hx hb dX6_numberOf_1 (by rw [c_19]; decide) (by rw [c_19]; decide) (by rw [c_19]; rfl) (by decide) ?_
                refine lv_aload_n hx hb dX6_numberOf_80 rfl (lv_at hl 0 rfl) ?_
                obtain ⟨r_20, ho_21, hc_22, hf⟩ := bd2_of hf
                refine fn_V (v := some (.int r_20)) (As := []) (rest := []) (st1 := [.int r_20]) (ws' := (wMo X mo al sv sm asd th ho_21 fr txt tl pos od nu su)) (nL := 2) ⟨hx, hb, hml, hown, hts⟩ (c_X6_pairs l X mo al sv sm asd th ho fr txt tl pos od nu su r_20 ho_21 hc_22) (cwV 0 hts gX6_numberOf_X6_pairs rfl rfl rfl (by decide +kernel) ⟨Nat.le_of_ble_eq_true rfl, Nat.le_of_ble_eq_true rfl⟩) 6 rfl rfl rfl rfl hl.1 rfl (Nat.le_of_ble_eq_true rfl) dX6_numberOf_81 hK hP (hD0.addr rfl) hS hA [0, 1, 2, 3, 4, 5, 6, 7] rfl rfl rfl rfl ⟨Nat.zero_le _, Nat.zero_le _⟩ (fun H locs hP hD hS => ?_)
                cases hf
                exact fn_iret hx hb hr hlocks hP hS dX6_numberOf_84
              · replace hf := fp_f c_19 hf
                by_cases c_23 : x1 = (7 : Int32)
                · replace hf := fp_t c_23 hf
                  refine lv_tableIn (off := 84) (tgt := 85) hx hb dX6_numberOf_1 (by rw [c_23]; decide) (by rw [c_23]; decide) (by rw [c_23]; rfl) (by decide) ?_
                  refine lv_aload_n hx hb dX6_numberOf_85 rfl (lv_at hl 0 rfl) ?_
                  obtain ⟨ho_24, hc_25, hf⟩ := bd_of hf
                  refine fn_V (v := none) (As := []) (rest := []) (st1 := []) (ws' := (wMo X mo al sv sm asd th ho_24 fr txt tl pos od nu su)) (nL := 2) ⟨hx, hb, hml, hown, hts⟩ (c_X6_lay l X mo al sv sm asd th ho fr txt tl pos od nu su ho_24 hc_25) (cwV 0 hts gX6_numberOf_X6_lay rfl rfl rfl (by decide +kernel) ⟨Nat.le_of_ble_eq_true rfl, Nat.le_of_ble_eq_true rfl⟩) 6 rfl rfl rfl rfl hl.1 rfl (Nat.le_of_ble_eq_true rfl) dX6_numberOf_86 hK hP (hD0.addr rfl) hS hA [0, 1, 2, 3, 4, 5, 6, 7] rfl rfl rfl rfl ⟨Nat.zero_le _, Nat.zero_le _⟩ (fun H locs hP hD hS => ?_)
                  refine lv_aload_n hx hb dX6_numberOf_89 rfl (lv_at hl 0 rfl) ?_
                  obtain ⟨r_26, hc_27, hf⟩ := bd_of hf
                  refine fn_V (v := some (.int r_26)) (As := []) (rest := []) (st1 := [.int r_26]) (ws' := (wMo X mo al sv sm asd th ho_24 fr txt tl pos od nu su)) (nL := 2) ⟨hx, hb, hml, hown, hts⟩ (c_X6_idle l X mo al sv sm asd th ho_24 fr txt tl pos od nu su r_26 hc_27) (cwV 0 hts gX6_numberOf_X6_idle rfl rfl rfl (by decide +kernel) ⟨Nat.le_of_ble_eq_true rfl, Nat.le_of_ble_eq_true rfl⟩) 6 rfl rfl rfl rfl hl.1 rfl (Nat.le_of_ble_eq_true rfl) dX6_numberOf_90 hK hP (hD0.addr rfl) hS hA [0, 1, 2, 3, 4, 5, 6, 7] rfl rfl rfl rfl ⟨Nat.zero_le _, Nat.zero_le _⟩ (fun H locs hP hD hS => ?_)
                  cases hf
                  exact fn_iret hx hb hr hlocks hP hS dX6_numberOf_93
                · replace hf := fp_f c_23 hf
                  have hsw : x1.toInt < 0 ∨ (7 : Int) < x1.toInt := by
                    refine sw_out (x := x1) 7 (by decide) ?_
                    intro j hj
                    have hj2 : j = 0 ∨ j = 1 ∨ j = 2 ∨ j = 3 ∨ j = 4 ∨ j = 5 ∨ j = 6 ∨ j = 7 := by omega
                    rcases hj2 with rfl | rfl | rfl | rfl | rfl | rfl | rfl | rfl
                    · exact c_1
                    · exact c_4
                    · exact c_7
                    · exact c_10
                    · exact c_13
                    · exact c_16
                    · exact c_19
                    · exact c_23
                  refine lv_tableOut (tgt := 94) hx hb dX6_numberOf_1 hsw (by decide) ?_
                  refine lv_aload_n hx hb dX6_numberOf_94 rfl (lv_at hl 0 rfl) ?_
                  refine va_get (D := X.1) (ci := 6) (v := .ref (mo 1)) (C := RX6) (T := TX6) (N := 13) hx hb hts hiX6 hown hK.1 hP 0 rfl rfl 0 (by decide) k7 (fun _ h9 => h9) rfl dX6_numberOf_95 ?_
                  refine lv_bipush (v := 6) hx hb dX6_numberOf_98 (by decide) ?_
                  obtain ⟨hi_28, hf⟩ := ix_of hf
                  refine va_iald hx hb hK.1 hP 1 0 rfl rfl hi_28 dX6_numberOf_100 ?_
                  refine lv_topi (fun v_29 ev_29 => ?_)
                  replace hf := nm_of ev_29 hf
                  cases hf
                  exact fn_iret hx hb hr hlocks hP hS dX6_numberOf_101

def f_X6_value (x1 : Int32) (al : (Nat → Int32)) (th : Int32) (ho : (Nat → Int32)) : Option (Int32 × Int32 × (Nat → Int32)) :=
  bd (f_X6_in x1.toInt64 (0 : Int64) (8 : Int64)) (fun r_1 =>
  bd2 (f_X6_goes r_1 (1 : Int32) (1 : Int32) th) (fun r_3 th_4 =>
  if r_3 = (0 : Int32) then
  (some ((0 : Int32), th_4, ho))
  else
  (bd2 (f_X6_numberOf x1 al ho) (fun r_7 ho_8 =>
  some (r_7, th_4, ho_8)))))
set_option maxHeartbeats 4000000 in
set_option maxRecDepth 100000 in
theorem c_X6_value (l : Launch) (X : cx_G) (mo : (Nat → Nat)) (al : (Nat → Int32)) (sv : (Nat → Int32)) (sm : Int32) (asd : (Nat → Int32)) (th : Int32) (ho : (Nat → Int32)) (fr : (Nat → Int32)) (txt : (Nat → Int32)) (tl : Int32) (pos : Int32) (od : Int32) (nu : (Nat → Int32)) (su : Int64) (x1 : Int32) (r : Int32) (th' : Int32) (ho' : (Nat → Int32)) (hf : f_X6_value x1 al th ho = some (r, th', ho')) : Fn l yX6_value wsX6_value ({ frames := 5, cells := 0, slots := 0, locals := 111 } : Room) X [.ref (mo 0), .int x1] (wMo X mo al sv sm asd th ho fr txt tl pos od nu su) (some (.int r)) (wMo X mo al sv sm asd th' ho' fr txt tl pos od nu su) := by
  refine fn_intro (cc := cX6_value) (maxL := 2) (ret := (some .int)) (by decide) rfl rfl (Nat.le_of_ble_eq_true rfl) ?_
  intro p e s m args below meth c A ls hx hb hml hr hts hown hlocks hK hP hD0 hS hA hl
  have hown : s.vm.findClass RX6 = some m.cls := hown
  have hl : lv_has ls 2 [(0, .ref (mo 0)), (1, .int x1)] := hl
  unfold f_X6_value at hf
  refine lv_aload_n hx hb dX6_value_0 rfl (lv_at hl 0 rfl) ?_
  refine lv_iload_n hx hb dX6_value_1 rfl (lv_at hl 1 rfl) ?_
  refine lv_i2l (v := x1.toInt64) hx hb dX6_value_2 rfl ?_
  refine lv_lconst (v := 0) hx hb dX6_value_3 (by decide) ?_
  refine lv_ldc2 hx hb hown (hts (.constantLong RX6 177 (8)) (by decide +kernel)) dX6_value_4 ?_
  obtain ⟨r_1, hc_2, hf⟩ := bd_of hf
  refine fn_Sx (v := some (.int r_1)) (As := [.long x1.toInt64, .long (0 : Int64), .long (8 : Int64)]) (rest := [.ref (mo 0)]) (st1 := [.int r_1, .ref (mo 0)]) (ws' := (wMo X mo al sv sm asd th ho fr txt tl pos od nu su)) (nL := 2) ⟨hx, hb, hml, hown, hts⟩ (c_X6_in l X x1.toInt64 (0 : Int64) (8 : Int64) r_1 hc_2) (va_cwS 3 hts gX6_value_X6_in rfl rfl rfl (by decide +kernel) ⟨Nat.le_of_ble_eq_true rfl, Nat.le_of_ble_eq_true rfl⟩) rfl hl.1 rfl (Nat.le_of_ble_eq_true rfl) dX6_value_7 hK hP (hD0.addr rfl) hS hA [] rfl rfl rfl rfl ⟨Nat.zero_le _, Nat.zero_le _⟩ (fun H locs hP hD hS => ?_)
  refine lv_iconst (v := 1) hx hb dX6_value_10 (by decide) ?_
  refine lv_iconst (v := 1) hx hb dX6_value_11 (by decide) ?_
  obtain ⟨r_3, th_4, hc_5, hf⟩ := bd2_of hf
  refine fn_V (v := some (.int r_3)) (As := [.int r_1, .int (1 : Int32), .int (1 : Int32)]) (rest := []) (st1 := [.int r_3]) (ws' := (wMo X mo al sv sm asd th_4 ho fr txt tl pos od nu su)) (nL := 2) ⟨hx, hb, hml, hown, hts⟩ (c_X6_goes l X mo al sv sm asd th ho fr txt tl pos od nu su r_1 (1 : Int32) (1 : Int32) r_3 th_4 hc_5) (cwV 3 hts gX6_value_X6_goes rfl rfl rfl (by decide +kernel) ⟨Nat.le_of_ble_eq_true rfl, Nat.le_of_ble_eq_true rfl⟩) 6 rfl rfl rfl rfl hl.1 rfl (Nat.le_of_ble_eq_true rfl) dX6_value_12 hK hP (hD0.addr rfl) hS hA [0, 1, 2, 3, 4, 5, 6, 7] rfl rfl rfl rfl ⟨Nat.zero_le _, Nat.zero_le _⟩ (fun H locs hP hD hS => ?_)
  refine lv_if_eq (tgt := 26) hx hb dX6_value_15 (by decide) (fun c_6 => ?_) (fun c_6 => ?_)
  · replace hf := fp_t c_6 hf
    refine lv_iconst (v := 0) hx hb dX6_value_26 (by decide) ?_
    cases hf
    exact fn_iret hx hb hr hlocks hP hS dX6_value_27
  · replace hf := fp_f c_6 hf
    refine lv_aload_n hx hb dX6_value_18 rfl (lv_at hl 0 rfl) ?_
    refine lv_iload_n hx hb dX6_value_19 rfl (lv_at hl 1 rfl) ?_
    obtain ⟨r_7, ho_8, hc_9, hf⟩ := bd2_of hf
    refine fn_V (v := some (.int r_7)) (As := [.int x1]) (rest := []) (st1 := [.int r_7]) (ws' := (wMo X mo al sv sm asd th_4 ho_8 fr txt tl pos od nu su)) (nL := 2) ⟨hx, hb, hml, hown, hts⟩ (c_X6_numberOf l X mo al sv sm asd th_4 ho fr txt tl pos od nu su x1 r_7 ho_8 hc_9) (cwV 1 hts gX6_value_X6_numberOf rfl rfl rfl (by decide +kernel) ⟨Nat.le_of_ble_eq_true rfl, Nat.le_of_ble_eq_true rfl⟩) 6 rfl rfl rfl rfl hl.1 rfl (Nat.le_of_ble_eq_true rfl) dX6_value_20 hK hP (hD0.addr rfl) hS hA [0, 1, 2, 3, 4, 5, 6, 7] rfl rfl rfl rfl ⟨Nat.zero_le _, Nat.zero_le _⟩ (fun H locs hP hD hS => ?_)
    refine lv_goto (tgt := 27) hx hb dX6_value_23 (by decide) ?_
    cases hf
    exact fn_iret hx hb hr hlocks hP hS dX6_value_27

def f_X6_entry (x1 : Int32) (x2 : Int32) (al : (Nat → Int32)) (th : Int32) : Option (Int32 × Int32) :=
  ix (6 : Int32) 320 (
  bd (f_X6_in x1.toInt64 (0 : Int64) (((al (6 : Int32).toNatClampNeg).toInt64) - (1 : Int64))) (fun r_2 =>
  bd (f_X6_in x2.toInt64 (0 : Int64) (2 : Int64)) (fun r_4 =>
  bd2 (f_X6_goes r_2 r_4 (1 : Int32) th) (fun r_6 th_7 =>
  if r_6 = (0 : Int32) then
  (some ((0 : Int32), th_7))
  else
  (ix (((284 : Int32) + ((3 : Int32) * x1)) + x2) 320 (
  nm (al (((284 : Int32) + ((3 : Int32) * x1)) + x2).toNatClampNeg) (fun v_11 =>
  some (v_11, th_7))))))))
set_option maxHeartbeats 4000000 in
set_option maxRecDepth 100000 in
theorem c_X6_entry (l : Launch) (X : cx_G) (mo : (Nat → Nat)) (al : (Nat → Int32)) (sv : (Nat → Int32)) (sm : Int32) (asd : (Nat → Int32)) (th : Int32) (ho : (Nat → Int32)) (fr : (Nat → Int32)) (txt : (Nat → Int32)) (tl : Int32) (pos : Int32) (od : Int32) (nu : (Nat → Int32)) (su : Int64) (x1 : Int32) (x2 : Int32) (r : Int32) (th' : Int32) (hf : f_X6_entry x1 x2 al th = some (r, th')) : Fn l yX6_entry wsX6_entry ({ frames := 1, cells := 0, slots := 0, locals := 25 } : Room) X [.ref (mo 0), .int x1, .int x2] (wMo X mo al sv sm asd th ho fr txt tl pos od nu su) (some (.int r)) (wMo X mo al sv sm asd th' ho fr txt tl pos od nu su) := by
  refine fn_intro (cc := cX6_entry) (maxL := 3) (ret := (some .int)) (by decide) rfl rfl (Nat.le_of_ble_eq_true rfl) ?_
  intro p e s m args below meth c A ls hx hb hml hr hts hown hlocks hK hP hD0 hS hA hl
  have hown : s.vm.findClass RX6 = some m.cls := hown
  have hl : lv_has ls 3 [(0, .ref (mo 0)), (1, .int x1), (2, .int x2)] := hl
  have hiX6 : ∀ w ∈ u_ws RX6 TX6 13, w ∈ wsX6_entry := by decide +kernel
  have k7 := hts (.fieldLink RX6 7 "LentRightsModel" "all" "[I") (by decide +kernel)
  unfold f_X6_entry at hf
  refine lv_aload_n hx hb dX6_entry_0 rfl (lv_at hl 0 rfl) ?_
  refine lv_iload_n hx hb dX6_entry_1 rfl (lv_at hl 1 rfl) ?_
  refine lv_i2l (v := x1.toInt64) hx hb dX6_entry_2 rfl ?_
  refine lv_lconst (v := 0) hx hb dX6_entry_3 (by decide) ?_
  refine lv_aload_n hx hb dX6_entry_4 rfl (lv_at hl 0 rfl) ?_
  refine va_get (D := X.1) (ci := 6) (v := .ref (mo 1)) (C := RX6) (T := TX6) (N := 13) hx hb hts hiX6 hown hK.1 hP 0 rfl rfl 0 (by decide) k7 (fun _ h9 => h9) rfl dX6_entry_5 ?_
  refine lv_bipush (v := 6) hx hb dX6_entry_8 (by decide) ?_
  obtain ⟨hi_1, hf⟩ := ix_of hf
  refine va_iald hx hb hK.1 hP 1 0 rfl rfl hi_1 dX6_entry_10 ?_
  refine lv_i2l (v := (al (6 : Int32).toNatClampNeg).toInt64) hx hb dX6_entry_11 rfl ?_
  refine lv_lconst (v := 1) hx hb dX6_entry_12 (by decide) ?_
  refine lv_lsub hx hb dX6_entry_13 ?_
  obtain ⟨r_2, hc_3, hf⟩ := bd_of hf
  refine fn_Sx (v := some (.int r_2)) (As := [.long x1.toInt64, .long (0 : Int64), .long (((al (6 : Int32).toNatClampNeg).toInt64) - (1 : Int64))]) (rest := [.ref (mo 0)]) (st1 := [.int r_2, .ref (mo 0)]) (ws' := (wMo X mo al sv sm asd th ho fr txt tl pos od nu su)) (nL := 3) ⟨hx, hb, hml, hown, hts⟩ (c_X6_in l X x1.toInt64 (0 : Int64) (((al (6 : Int32).toNatClampNeg).toInt64) - (1 : Int64)) r_2 hc_3) (va_cwS 3 hts gX6_entry_X6_in rfl rfl rfl (by decide +kernel) ⟨Nat.le_of_ble_eq_true rfl, Nat.le_of_ble_eq_true rfl⟩) rfl hl.1 rfl (Nat.le_of_ble_eq_true rfl) dX6_entry_14 hK hP (hD0.addr rfl) hS hA [] rfl rfl rfl rfl ⟨Nat.zero_le _, Nat.zero_le _⟩ (fun H locs hP hD hS => ?_)
  refine lv_iload_n hx hb dX6_entry_17 rfl (lv_at hl 2 rfl) ?_
  refine lv_i2l (v := x2.toInt64) hx hb dX6_entry_18 rfl ?_
  refine lv_lconst (v := 0) hx hb dX6_entry_19 (by decide) ?_
  refine lv_ldc2 hx hb hown (hts (.constantLong RX6 182 (2)) (by decide +kernel)) dX6_entry_20 ?_
  obtain ⟨r_4, hc_5, hf⟩ := bd_of hf
  refine fn_Sx (v := some (.int r_4)) (As := [.long x2.toInt64, .long (0 : Int64), .long (2 : Int64)]) (rest := [.int r_2, .ref (mo 0)]) (st1 := [.int r_4, .int r_2, .ref (mo 0)]) (ws' := (wMo X mo al sv sm asd th ho fr txt tl pos od nu su)) (nL := 3) ⟨hx, hb, hml, hown, hts⟩ (c_X6_in l X x2.toInt64 (0 : Int64) (2 : Int64) r_4 hc_5) (va_cwS 3 hts gX6_entry_X6_in rfl rfl rfl (by decide +kernel) ⟨Nat.le_of_ble_eq_true rfl, Nat.le_of_ble_eq_true rfl⟩) rfl hl.1 rfl (Nat.le_of_ble_eq_true rfl) dX6_entry_23 hK hP (hD0.addr rfl) hS hA [] rfl rfl rfl rfl ⟨Nat.zero_le _, Nat.zero_le _⟩ (fun H locs hP hD hS => ?_)
  refine lv_iconst (v := 1) hx hb dX6_entry_26 (by decide) ?_
  obtain ⟨r_6, th_7, hc_8, hf⟩ := bd2_of hf
  refine fn_V (v := some (.int r_6)) (As := [.int r_2, .int r_4, .int (1 : Int32)]) (rest := []) (st1 := [.int r_6]) (ws' := (wMo X mo al sv sm asd th_7 ho fr txt tl pos od nu su)) (nL := 3) ⟨hx, hb, hml, hown, hts⟩ (c_X6_goes l X mo al sv sm asd th ho fr txt tl pos od nu su r_2 r_4 (1 : Int32) r_6 th_7 hc_8) (cwV 3 hts gX6_entry_X6_goes rfl rfl rfl (by decide +kernel) ⟨Nat.le_of_ble_eq_true rfl, Nat.le_of_ble_eq_true rfl⟩) 6 rfl rfl rfl rfl hl.1 rfl (Nat.le_of_ble_eq_true rfl) dX6_entry_27 hK hP (hD0.addr rfl) hS hA [0, 1, 2, 3, 4, 5, 6, 7] rfl rfl rfl rfl ⟨Nat.zero_le _, Nat.zero_le _⟩ (fun H locs hP hD hS => ?_)
  refine lv_if_eq (tgt := 50) hx hb dX6_entry_30 (by decide) (fun c_9 => ?_) (fun c_9 => ?_)
  · replace hf := fp_t c_9 hf
    refine lv_iconst (v := 0) hx hb dX6_entry_50 (by decide) ?_
    cases hf
    exact fn_iret hx hb hr hlocks hP hS dX6_entry_51
  · replace hf := fp_f c_9 hf
    refine lv_aload_n hx hb dX6_entry_33 rfl (lv_at hl 0 rfl) ?_
    refine va_get (D := X.1) (ci := 6) (v := .ref (mo 1)) (C := RX6) (T := TX6) (N := 13) hx hb hts hiX6 hown hK.1 hP 0 rfl rfl 0 (by decide) k7 (fun _ h9 => h9) rfl dX6_entry_34 ?_
    refine lv_sipush (v := 284) hx hb dX6_entry_37 (by decide) ?_
    refine lv_iconst (v := 3) hx hb dX6_entry_40 (by decide) ?_
    refine lv_iload_n hx hb dX6_entry_41 rfl (lv_at hl 1 rfl) ?_
    refine lv_imul hx hb dX6_entry_42 ?_
    refine lv_iadd hx hb dX6_entry_43 ?_
    refine lv_iload_n hx hb dX6_entry_44 rfl (lv_at hl 2 rfl) ?_
    refine lv_iadd hx hb dX6_entry_45 ?_
    obtain ⟨hi_10, hf⟩ := ix_of hf
    refine va_iald hx hb hK.1 hP 1 0 rfl rfl hi_10 dX6_entry_46 ?_
    refine lv_goto (tgt := 51) hx hb dX6_entry_47 (by decide) ?_
    refine lv_topi (fun v_11 ev_11 => ?_)
    replace hf := nm_of ev_11 hf
    cases hf
    exact fn_iret hx hb hr hlocks hP hS dX6_entry_51

def f_X6_lost (x1 : Int32) (al : (Nat → Int32)) (asd : (Nat → Int32)) (ho : (Nat → Int32)) : Option (Int32 × (Nat → Int32) × (Nat → Int32) × (Nat → Int32)) :=
  bd2 (f_X6_pairs al ho) (fun r_1 ho_2 =>
  bd (f_X6_layAside al asd) (fun asd_4 =>
  ix ((8 : Int32) + x1) 320 (
  nm (upd al ((8 : Int32) + x1).toNatClampNeg (0 : Int32)) (fun al_7 =>
  bd2 (f_X6_die al_7) (fun r_8 al_9 =>
  bd2 (f_X6_pairs al_9 ho_2) (fun r_11 ho_12 =>
  nm (r_1 - r_11) (fun v_14 =>
  bd (f_X6_takeBack al_9 asd_4) (fun al_15 =>
  some (v_14, al_15, asd_4, ho_12)))))))))
set_option maxHeartbeats 4000000 in
set_option maxRecDepth 100000 in
theorem c_X6_lost (l : Launch) (X : cx_G) (mo : (Nat → Nat)) (al : (Nat → Int32)) (sv : (Nat → Int32)) (sm : Int32) (asd : (Nat → Int32)) (th : Int32) (ho : (Nat → Int32)) (fr : (Nat → Int32)) (txt : (Nat → Int32)) (tl : Int32) (pos : Int32) (od : Int32) (nu : (Nat → Int32)) (su : Int64) (x1 : Int32) (r : Int32) (al' : (Nat → Int32)) (asd' : (Nat → Int32)) (ho' : (Nat → Int32)) (hf : f_X6_lost x1 al asd ho = some (r, al', asd', ho')) : Fn l yX6_lost wsX6_lost ({ frames := 4, cells := 0, slots := 0, locals := 90 } : Room) X [.ref (mo 0), .int x1] (wMo X mo al sv sm asd th ho fr txt tl pos od nu su) (some (.int r)) (wMo X mo al' sv sm asd' th ho' fr txt tl pos od nu su) := by
  refine fn_intro (cc := cX6_lost) (maxL := 5) (ret := (some .int)) (by decide) rfl rfl (Nat.le_of_ble_eq_true rfl) ?_
  intro p e s m args below meth c A ls hx hb hml hr hts hown hlocks hK hP hD0 hS hA hl
  have hown : s.vm.findClass RX6 = some m.cls := hown
  have hl : lv_has ls 5 [(0, .ref (mo 0)), (1, .int x1)] := hl
  have hiX6 : ∀ w ∈ u_ws RX6 TX6 13, w ∈ wsX6_lost := by decide +kernel
  have k7 := hts (.fieldLink RX6 7 "LentRightsModel" "all" "[I") (by decide +kernel)
  unfold f_X6_lost at hf
  refine lv_aload_n hx hb dX6_lost_0 rfl (lv_at hl 0 rfl) ?_
  obtain ⟨r_1, ho_2, hc_3, hf⟩ := bd2_of hf
  refine fn_V (v := some (.int r_1)) (As := []) (rest := []) (st1 := [.int r_1]) (ws' := (wMo X mo al sv sm asd th ho_2 fr txt tl pos od nu su)) (nL := 5) ⟨hx, hb, hml, hown, hts⟩ (c_X6_pairs l X mo al sv sm asd th ho fr txt tl pos od nu su r_1 ho_2 hc_3) (cwV 0 hts gX6_lost_X6_pairs rfl rfl rfl (by decide +kernel) ⟨Nat.le_of_ble_eq_true rfl, Nat.le_of_ble_eq_true rfl⟩) 6 rfl rfl rfl rfl hl.1 rfl (Nat.le_of_ble_eq_true rfl) dX6_lost_1 hK hP (hD0.addr rfl) hS hA [0, 1, 2, 3, 4, 5, 6, 7] rfl rfl rfl rfl ⟨Nat.zero_le _, Nat.zero_le _⟩ (fun H locs hP hD hS => ?_)
  refine lv_istore_n (lv' := [(2, .int r_1), (0, .ref (mo 0)), (1, .int x1)]) hx hb dX6_lost_4 rfl hl (by decide) rfl (fun ls hl => ?_)
  refine lv_aload_n hx hb dX6_lost_5 rfl (lv_at hl 1 rfl) ?_
  obtain ⟨asd_4, hc_5, hf⟩ := bd_of hf
  refine fn_V (v := none) (As := []) (rest := []) (st1 := []) (ws' := (wMo X mo al sv sm asd_4 th ho_2 fr txt tl pos od nu su)) (nL := 5) ⟨hx, hb, hml, hown, hts⟩ (c_X6_layAside l X mo al sv sm asd th ho_2 fr txt tl pos od nu su asd_4 hc_5) (cwV 0 hts gX6_lost_X6_layAside rfl rfl rfl (by decide +kernel) ⟨Nat.le_of_ble_eq_true rfl, Nat.le_of_ble_eq_true rfl⟩) 6 rfl rfl rfl rfl hl.1 rfl (Nat.le_of_ble_eq_true rfl) dX6_lost_6 hK hP (hD0.addr rfl) hS hA [0, 1, 2, 3, 4, 5, 6, 7] rfl rfl rfl rfl ⟨Nat.zero_le _, Nat.zero_le _⟩ (fun H locs hP hD hS => ?_)
  refine lv_aload_n hx hb dX6_lost_9 rfl (lv_at hl 1 rfl) ?_
  refine va_get (D := X.1) (ci := 6) (v := .ref (mo 1)) (C := RX6) (T := TX6) (N := 13) hx hb hts hiX6 hown hK.1 hP 0 rfl rfl 0 (by decide) k7 (fun _ h9 => h9) rfl dX6_lost_10 ?_
  refine lv_bipush (v := 8) hx hb dX6_lost_13 (by decide) ?_
  refine lv_iload_n hx hb dX6_lost_15 rfl (lv_at hl 2 rfl) ?_
  refine lv_iadd hx hb dX6_lost_16 ?_
  refine lv_iconst (v := 0) hx hb dX6_lost_17 (by decide) ?_
  obtain ⟨hi_6, hf⟩ := ix_of hf
  refine va_iast hx hb hK.1 hP (hD0.addr rfl) hS 1 0 rfl rfl hi_6 dX6_lost_18 (fun H locs hP hD hS => ?_)
  obtain ⟨al_7, eal_7⟩ : ∃ g : Nat → Int32, g = upd al ((8 : Int32) + x1).toNatClampNeg (0 : Int32) := ⟨_, rfl⟩
  replace hf := nm_of eal_7 hf
  have hP : va_P X.1 vwCl (wMo X mo al_7 sv sm asd_4 th ho_2 fr txt tl pos od nu su) H := by rw [eal_7]; exact hP
  refine lv_aload_n hx hb dX6_lost_19 rfl (lv_at hl 1 rfl) ?_
  obtain ⟨r_8, al_9, hc_10, hf⟩ := bd2_of hf
  refine fn_V (v := some (.int r_8)) (As := []) (rest := []) (st1 := [.int r_8]) (ws' := (wMo X mo al_9 sv sm asd_4 th ho_2 fr txt tl pos od nu su)) (nL := 5) ⟨hx, hb, hml, hown, hts⟩ (c_X6_die l X mo al_7 sv sm asd_4 th ho_2 fr txt tl pos od nu su r_8 al_9 hc_10) (cwV 0 hts gX6_lost_X6_die rfl rfl rfl (by decide +kernel) ⟨Nat.le_of_ble_eq_true rfl, Nat.le_of_ble_eq_true rfl⟩) 6 rfl rfl rfl rfl hl.1 rfl (Nat.le_of_ble_eq_true rfl) dX6_lost_20 hK hP (hD0.addr rfl) hS hA [0, 1, 2, 3, 4, 5, 6, 7] rfl rfl rfl rfl ⟨Nat.zero_le _, Nat.zero_le _⟩ (fun H locs hP hD hS => ?_)
  refine lv_istore_n (lv' := [(3, .int r_8), (2, .int r_1), (0, .ref (mo 0)), (1, .int x1)]) hx hb dX6_lost_23 rfl hl (by decide) rfl (fun ls hl => ?_)
  refine lv_iload_n hx hb dX6_lost_24 rfl (lv_at hl 1 rfl) ?_
  refine lv_aload_n hx hb dX6_lost_25 rfl (lv_at hl 2 rfl) ?_
  obtain ⟨r_11, ho_12, hc_13, hf⟩ := bd2_of hf
  refine fn_V (v := some (.int r_11)) (As := []) (rest := [.int r_1]) (st1 := [.int r_11, .int r_1]) (ws' := (wMo X mo al_9 sv sm asd_4 th ho_12 fr txt tl pos od nu su)) (nL := 5) ⟨hx, hb, hml, hown, hts⟩ (c_X6_pairs l X mo al_9 sv sm asd_4 th ho_2 fr txt tl pos od nu su r_11 ho_12 hc_13) (cwV 0 hts gX6_lost_X6_pairs rfl rfl rfl (by decide +kernel) ⟨Nat.le_of_ble_eq_true rfl, Nat.le_of_ble_eq_true rfl⟩) 6 rfl rfl rfl rfl hl.1 rfl (Nat.le_of_ble_eq_true rfl) dX6_lost_26 hK hP (hD0.addr rfl) hS hA [0, 1, 2, 3, 4, 5, 6, 7] rfl rfl rfl rfl ⟨Nat.zero_le _, Nat.zero_le _⟩ (fun H locs hP hD hS => ?_)
  refine lv_isub hx hb dX6_lost_29 ?_
  refine lv_topi (fun v_14 ev_14 => ?_)
  replace hf := nm_of ev_14 hf
  refine lv_istore (lv' := [(4, .int v_14), (3, .int r_8), (2, .int r_1), (0, .ref (mo 0)), (1, .int x1)]) hx hb dX6_lost_30 hl (by decide) rfl (fun ls hl => ?_)
  refine lv_aload_n hx hb dX6_lost_32 rfl (lv_at hl 3 rfl) ?_
  obtain ⟨al_15, hc_16, hf⟩ := bd_of hf
  refine fn_V (v := none) (As := []) (rest := []) (st1 := []) (ws' := (wMo X mo al_15 sv sm asd_4 th ho_12 fr txt tl pos od nu su)) (nL := 5) ⟨hx, hb, hml, hown, hts⟩ (c_X6_takeBack l X mo al_9 sv sm asd_4 th ho_12 fr txt tl pos od nu su al_15 hc_16) (cwV 0 hts gX6_lost_X6_takeBack rfl rfl rfl (by decide +kernel) ⟨Nat.le_of_ble_eq_true rfl, Nat.le_of_ble_eq_true rfl⟩) 6 rfl rfl rfl rfl hl.1 rfl (Nat.le_of_ble_eq_true rfl) dX6_lost_33 hK hP (hD0.addr rfl) hS hA [0, 1, 2, 3, 4, 5, 6, 7] rfl rfl rfl rfl ⟨Nat.zero_le _, Nat.zero_le _⟩ (fun H locs hP hD hS => ?_)
  refine lv_iload hx hb dX6_lost_36 (lv_at hl 0 rfl) ?_
  cases hf
  exact fn_iret hx hb hr hlocks hP hS dX6_lost_38

def f_X6_lostBy (x1 : Int32) (al : (Nat → Int32)) (asd : (Nat → Int32)) (th : Int32) (ho : (Nat → Int32)) : Option (Int32 × (Nat → Int32) × (Nat → Int32) × Int32 × (Nat → Int32)) :=
  bd (f_X6_isPerson x1) (fun r_1 =>
  bd2 (f_X6_goes r_1 (1 : Int32) (1 : Int32) th) (fun r_3 th_4 =>
  if r_3 = (0 : Int32) then
  (some ((0 : Int32), al, asd, th_4, ho))
  else
  (bd4 (f_X6_lost x1 al asd ho) (fun r_7 al_8 asd_9 ho_10 =>
  some (r_7, al_8, asd_9, th_4, ho_10)))))
set_option maxHeartbeats 4000000 in
set_option maxRecDepth 100000 in
theorem c_X6_lostBy (l : Launch) (X : cx_G) (mo : (Nat → Nat)) (al : (Nat → Int32)) (sv : (Nat → Int32)) (sm : Int32) (asd : (Nat → Int32)) (th : Int32) (ho : (Nat → Int32)) (fr : (Nat → Int32)) (txt : (Nat → Int32)) (tl : Int32) (pos : Int32) (od : Int32) (nu : (Nat → Int32)) (su : Int64) (x1 : Int32) (r : Int32) (al' : (Nat → Int32)) (asd' : (Nat → Int32)) (th' : Int32) (ho' : (Nat → Int32)) (hf : f_X6_lostBy x1 al asd th ho = some (r, al', asd', th', ho')) : Fn l yX6_lostBy wsX6_lostBy ({ frames := 5, cells := 0, slots := 0, locals := 114 } : Room) X [.ref (mo 0), .int x1] (wMo X mo al sv sm asd th ho fr txt tl pos od nu su) (some (.int r)) (wMo X mo al' sv sm asd' th' ho' fr txt tl pos od nu su) := by
  refine fn_intro (cc := cX6_lostBy) (maxL := 2) (ret := (some .int)) (by decide) rfl rfl (Nat.le_of_ble_eq_true rfl) ?_
  intro p e s m args below meth c A ls hx hb hml hr hts hown hlocks hK hP hD0 hS hA hl
  have hown : s.vm.findClass RX6 = some m.cls := hown
  have hl : lv_has ls 2 [(0, .ref (mo 0)), (1, .int x1)] := hl
  unfold f_X6_lostBy at hf
  refine lv_aload_n hx hb dX6_lostBy_0 rfl (lv_at hl 0 rfl) ?_
  refine lv_iload_n hx hb dX6_lostBy_1 rfl (lv_at hl 1 rfl) ?_
  obtain ⟨r_1, hc_2, hf⟩ := bd_of hf
  refine fn_Sx (v := some (.int r_1)) (As := [.int x1]) (rest := [.ref (mo 0)]) (st1 := [.int r_1, .ref (mo 0)]) (ws' := (wMo X mo al sv sm asd th ho fr txt tl pos od nu su)) (nL := 2) ⟨hx, hb, hml, hown, hts⟩ (c_X6_isPerson l X x1 r_1 hc_2) (va_cwS 1 hts gX6_lostBy_X6_isPerson rfl rfl rfl (by decide +kernel) ⟨Nat.le_of_ble_eq_true rfl, Nat.le_of_ble_eq_true rfl⟩) rfl hl.1 rfl (Nat.le_of_ble_eq_true rfl) dX6_lostBy_2 hK hP (hD0.addr rfl) hS hA [] rfl rfl rfl rfl ⟨Nat.zero_le _, Nat.zero_le _⟩ (fun H locs hP hD hS => ?_)
  refine lv_iconst (v := 1) hx hb dX6_lostBy_5 (by decide) ?_
  refine lv_iconst (v := 1) hx hb dX6_lostBy_6 (by decide) ?_
  obtain ⟨r_3, th_4, hc_5, hf⟩ := bd2_of hf
  refine fn_V (v := some (.int r_3)) (As := [.int r_1, .int (1 : Int32), .int (1 : Int32)]) (rest := []) (st1 := [.int r_3]) (ws' := (wMo X mo al sv sm asd th_4 ho fr txt tl pos od nu su)) (nL := 2) ⟨hx, hb, hml, hown, hts⟩ (c_X6_goes l X mo al sv sm asd th ho fr txt tl pos od nu su r_1 (1 : Int32) (1 : Int32) r_3 th_4 hc_5) (cwV 3 hts gX6_lostBy_X6_goes rfl rfl rfl (by decide +kernel) ⟨Nat.le_of_ble_eq_true rfl, Nat.le_of_ble_eq_true rfl⟩) 6 rfl rfl rfl rfl hl.1 rfl (Nat.le_of_ble_eq_true rfl) dX6_lostBy_7 hK hP (hD0.addr rfl) hS hA [0, 1, 2, 3, 4, 5, 6, 7] rfl rfl rfl rfl ⟨Nat.zero_le _, Nat.zero_le _⟩ (fun H locs hP hD hS => ?_)
  refine lv_if_eq (tgt := 21) hx hb dX6_lostBy_10 (by decide) (fun c_6 => ?_) (fun c_6 => ?_)
  · replace hf := fp_t c_6 hf
    refine lv_iconst (v := 0) hx hb dX6_lostBy_21 (by decide) ?_
    cases hf
    exact fn_iret hx hb hr hlocks hP hS dX6_lostBy_22
  · replace hf := fp_f c_6 hf
    refine lv_aload_n hx hb dX6_lostBy_13 rfl (lv_at hl 0 rfl) ?_
    refine lv_iload_n hx hb dX6_lostBy_14 rfl (lv_at hl 1 rfl) ?_
    obtain ⟨r_7, al_8, asd_9, ho_10, hc_11, hf⟩ := bd4_of hf
    refine fn_V (v := some (.int r_7)) (As := [.int x1]) (rest := []) (st1 := [.int r_7]) (ws' := (wMo X mo al_8 sv sm asd_9 th_4 ho_10 fr txt tl pos od nu su)) (nL := 2) ⟨hx, hb, hml, hown, hts⟩ (c_X6_lost l X mo al sv sm asd th_4 ho fr txt tl pos od nu su x1 r_7 al_8 asd_9 ho_10 hc_11) (cwV 1 hts gX6_lostBy_X6_lost rfl rfl rfl (by decide +kernel) ⟨Nat.le_of_ble_eq_true rfl, Nat.le_of_ble_eq_true rfl⟩) 6 rfl rfl rfl rfl hl.1 rfl (Nat.le_of_ble_eq_true rfl) dX6_lostBy_15 hK hP (hD0.addr rfl) hS hA [0, 1, 2, 3, 4, 5, 6, 7] rfl rfl rfl rfl ⟨Nat.zero_le _, Nat.zero_le _⟩ (fun H locs hP hD hS => ?_)
    refine lv_goto (tgt := 22) hx hb dX6_lostBy_18 (by decide) ?_
    cases hf
    exact fn_iret hx hb hr hlocks hP hS dX6_lostBy_22

def f_X6_mostNeeded_L11  : Nat → Int32 → Int32 → Int32 → (Nat → Int32) → (Nat → Int32) → (Nat → Int32) →  Option (Int32 × (Nat → Int32) × (Nat → Int32) × (Nat → Int32))
  | 0, _, _, _, _, _, _ => none
  | k_ + 1, x1, x2, x3, al, asd, ho =>
    if (10 : Int32) ≤ x3 then
    (some (x1, al, asd, ho))
    else
    (bd4 (f_X6_lost x3 al asd ho) (fun r_2 al_3 asd_4 ho_5 =>
    if r_2 ≤ x2 then
    (if r_2 ≤ x2 then
    (nm (x3 + (1 : Int32)) (fun v_9 =>
    f_X6_mostNeeded_L11 k_ x1 x2 v_9 al_3 asd_4 ho_5))
    else
    (nm (x3 + (1 : Int32)) (fun v_10 =>
    f_X6_mostNeeded_L11 k_ x1 r_2 v_10 al_3 asd_4 ho_5)))
    else
    (if r_2 ≤ x2 then
    (nm (x3 + (1 : Int32)) (fun v_12 =>
    f_X6_mostNeeded_L11 k_ x3 x2 v_12 al_3 asd_4 ho_5))
    else
    (nm (x3 + (1 : Int32)) (fun v_13 =>
    f_X6_mostNeeded_L11 k_ x3 r_2 v_13 al_3 asd_4 ho_5)))))
def f_X6_mostNeeded (al : (Nat → Int32)) (asd : (Nat → Int32)) (th : Int32) (ho : (Nat → Int32)) : Option (Int32 × (Nat → Int32) × (Nat → Int32) × Int32 × (Nat → Int32)) :=
  bd4 (f_X6_mostNeeded_L11 FU (-1 : Int32) (0 : Int32) (0 : Int32) al asd ho) (fun y1_14 al_15 asd_16 ho_17 =>
  some (y1_14, al_15, asd_16, (0 : Int32), ho_17))
set_option maxHeartbeats 4000000 in
set_option maxRecDepth 100000 in
theorem c_X6_mostNeeded (l : Launch) (X : cx_G) (mo : (Nat → Nat)) (al : (Nat → Int32)) (sv : (Nat → Int32)) (sm : Int32) (asd : (Nat → Int32)) (th : Int32) (ho : (Nat → Int32)) (fr : (Nat → Int32)) (txt : (Nat → Int32)) (tl : Int32) (pos : Int32) (od : Int32) (nu : (Nat → Int32)) (su : Int64) (r : Int32) (al' : (Nat → Int32)) (asd' : (Nat → Int32)) (th' : Int32) (ho' : (Nat → Int32)) (hf : f_X6_mostNeeded al asd th ho = some (r, al', asd', th', ho')) : Fn l yX6_mostNeeded wsX6_mostNeeded ({ frames := 5, cells := 0, slots := 0, locals := 114 } : Room) X [.ref (mo 0)] (wMo X mo al sv sm asd th ho fr txt tl pos od nu su) (some (.int r)) (wMo X mo al' sv sm asd' th' ho' fr txt tl pos od nu su) := by
  refine fn_intro (cc := cX6_mostNeeded) (maxL := 5) (ret := (some .int)) (by decide) rfl rfl (Nat.le_of_ble_eq_true rfl) ?_
  intro p e s m args below meth c A ls hx hb hml hr hts hown hlocks hK hP hD0 hS hA hl
  have hown : s.vm.findClass RX6 = some m.cls := hown
  have hl : lv_has ls 5 [(0, .ref (mo 0))] := hl
  have hiX6 : ∀ w ∈ u_ws RX6 TX6 13, w ∈ wsX6_mostNeeded := by decide +kernel
  have k31 := hts (.fieldLink RX6 31 "LentRightsModel" "thrown" "I") (by decide +kernel)
  have loop_11 : ∀ (Q : State → Prop) (th : Int32) (y1 : Int32) (alo : (Nat → Int32)) (asdo : (Nat → Int32)) (hoo : (Nat → Int32)), (∀ (H : Heap) (locs : List Loc) (ls : Array Slot), va_P X.1 vwCl (wMo X mo alo sv sm asdo th hoo fr txt tl pos od nu su) H → va_S A s.heap H locs → lv_has ls 5 [(1, .int y1)] → W p l e ({ frames := 5, cells := 0, slots := 0, locals := 114 } : Room) s m args below meth c H locs 0 0 Q (F0 m 55 ls [])) → ∀ (k_ : Nat) (x1 : Int32) (x2 : Int32) (x3 : Int32) (al : (Nat → Int32)) (asd : (Nat → Int32)) (ho : (Nat → Int32)) (H : Heap) (locs : List Loc) (ls : Array Slot), f_X6_mostNeeded_L11 k_ x1 x2 x3 al asd ho = some (y1, alo, asdo, hoo) → va_P X.1 vwCl (wMo X mo al sv sm asd th ho fr txt tl pos od nu su) H → va_S A s.heap H locs → lv_has ls 5 [(0, .ref (mo 0)), (1, .int x1), (2, .int x2), (3, .int x3)] → W p l e ({ frames := 5, cells := 0, slots := 0, locals := 114 } : Room) s m args below meth c H locs 0 0 Q (F0 m 11 ls []) := by
    intro Q th y1 alo asdo hoo kx k_
    induction k_ with
    | zero => intro x1 x2 x3 al asd ho H locs ls hf; exact nomatch (show (none : Option (Int32 × (Nat → Int32) × (Nat → Int32) × (Nat → Int32))) = some _ from hf)
    | succ k_ ih =>
      intro x1 x2 x3 al asd ho H locs ls hf hP hS hl
      unfold f_X6_mostNeeded_L11 at hf
      refine lv_iload_n hx hb dX6_mostNeeded_11 rfl (lv_at hl 3 rfl) ?_
      refine lv_bipush (v := 10) hx hb dX6_mostNeeded_12 (by decide) ?_
      refine lv_icmp_ge (tgt := 55) hx hb dX6_mostNeeded_14 (by decide) (fun c_1 => ?_) (fun c_1 => ?_)
      · replace hf := fp_t c_1 hf
        cases hf
        exact kx _ _ _ hP hS (lv_sub hl [1] rfl)
      · replace hf := fp_f c_1 hf
        refine lv_aload_n hx hb dX6_mostNeeded_17 rfl (lv_at hl 0 rfl) ?_
        refine lv_iload_n hx hb dX6_mostNeeded_18 rfl (lv_at hl 3 rfl) ?_
        obtain ⟨r_2, al_3, asd_4, ho_5, hc_6, hf⟩ := bd4_of hf
        refine fn_V (v := some (.int r_2)) (As := [.int x3]) (rest := []) (st1 := [.int r_2]) (ws' := (wMo X mo al_3 sv sm asd_4 th ho_5 fr txt tl pos od nu su)) (nL := 5) ⟨hx, hb, hml, hown, hts⟩ (c_X6_lost l X mo al sv sm asd th ho fr txt tl pos od nu su x3 r_2 al_3 asd_4 ho_5 hc_6) (cwV 1 hts gX6_mostNeeded_X6_lost rfl rfl rfl (by decide +kernel) ⟨Nat.le_of_ble_eq_true rfl, Nat.le_of_ble_eq_true rfl⟩) 6 rfl rfl rfl rfl hl.1 rfl (Nat.le_of_ble_eq_true rfl) dX6_mostNeeded_19 hK hP (hD0.addr rfl) hS hA [0, 1, 2, 3, 4, 5, 6, 7] rfl rfl rfl rfl ⟨Nat.zero_le _, Nat.zero_le _⟩ (fun H locs hP hD hS => ?_)
        refine lv_istore (lv' := [(4, .int r_2), (0, .ref (mo 0)), (1, .int x1), (2, .int x2), (3, .int x3)]) hx hb dX6_mostNeeded_22 hl (by decide) rfl (fun ls hl => ?_)
        refine lv_iload hx hb dX6_mostNeeded_24 (lv_at hl 0 rfl) ?_
        refine lv_iload_n hx hb dX6_mostNeeded_26 rfl (lv_at hl 3 rfl) ?_
        refine lv_icmp_le (tgt := 34) hx hb dX6_mostNeeded_27 (by decide) (fun c_7 => ?_) (fun c_7 => ?_)
        · replace hf := fp_t c_7 hf
          refine lv_iload_n hx hb dX6_mostNeeded_34 rfl (lv_at hl 2 rfl) ?_
          refine lv_istore_n (lv' := [(1, .int x1), (4, .int r_2), (0, .ref (mo 0)), (2, .int x2), (3, .int x3)]) hx hb dX6_mostNeeded_35 rfl hl (by decide) rfl (fun ls hl => ?_)
          refine lv_iload hx hb dX6_mostNeeded_36 (lv_at hl 1 rfl) ?_
          refine lv_iload_n hx hb dX6_mostNeeded_38 rfl (lv_at hl 3 rfl) ?_
          refine lv_icmp_le (tgt := 47) hx hb dX6_mostNeeded_39 (by decide) (fun c_8 => ?_) (fun c_8 => ?_)
          · replace hf := fp_t c_8 hf
            refine lv_iload_n hx hb dX6_mostNeeded_47 rfl (lv_at hl 3 rfl) ?_
            refine lv_istore_n (lv' := [(2, .int x2), (1, .int x1), (4, .int r_2), (0, .ref (mo 0)), (3, .int x3)]) hx hb dX6_mostNeeded_48 rfl hl (by decide) rfl (fun ls hl => ?_)
            obtain ⟨v_9, ev_9⟩ : ∃ y : Int32, y = x3 + (1 : Int32) := ⟨_, rfl⟩
            replace hf := nm_of ev_9 hf
            refine lv_iinc (v := v_9) (lv' := [(3, .int v_9), (2, .int x2), (1, .int x1), (4, .int r_2), (0, .ref (mo 0))]) hx hb dX6_mostNeeded_49 hl (k := 4) rfl (by rw [ev_9]; rfl) (by decide) rfl (fun ls hl => ?_)
            refine lv_goto (tgt := 11) hx hb dX6_mostNeeded_52 (by decide) ?_
            exact ih x1 x2 v_9 al_3 asd_4 ho_5 _ _ _ hf hP hS (lv_sub hl [4, 2, 1, 0] rfl)
          · replace hf := fp_f c_8 hf
            refine lv_iload hx hb dX6_mostNeeded_42 (lv_at hl 1 rfl) ?_
            refine lv_goto (tgt := 48) hx hb dX6_mostNeeded_44 (by decide) ?_
            refine lv_istore_n (lv' := [(2, .int r_2), (1, .int x1), (4, .int r_2), (0, .ref (mo 0)), (3, .int x3)]) hx hb dX6_mostNeeded_48 rfl hl (by decide) rfl (fun ls hl => ?_)
            obtain ⟨v_10, ev_10⟩ : ∃ y : Int32, y = x3 + (1 : Int32) := ⟨_, rfl⟩
            replace hf := nm_of ev_10 hf
            refine lv_iinc (v := v_10) (lv' := [(3, .int v_10), (2, .int r_2), (1, .int x1), (4, .int r_2), (0, .ref (mo 0))]) hx hb dX6_mostNeeded_49 hl (k := 4) rfl (by rw [ev_10]; rfl) (by decide) rfl (fun ls hl => ?_)
            refine lv_goto (tgt := 11) hx hb dX6_mostNeeded_52 (by decide) ?_
            exact ih x1 r_2 v_10 al_3 asd_4 ho_5 _ _ _ hf hP hS (lv_sub hl [4, 2, 1, 0] rfl)
        · replace hf := fp_f c_7 hf
          refine lv_iload_n hx hb dX6_mostNeeded_30 rfl (lv_at hl 4 rfl) ?_
          refine lv_goto (tgt := 35) hx hb dX6_mostNeeded_31 (by decide) ?_
          refine lv_istore_n (lv' := [(1, .int x3), (4, .int r_2), (0, .ref (mo 0)), (2, .int x2), (3, .int x3)]) hx hb dX6_mostNeeded_35 rfl hl (by decide) rfl (fun ls hl => ?_)
          refine lv_iload hx hb dX6_mostNeeded_36 (lv_at hl 1 rfl) ?_
          refine lv_iload_n hx hb dX6_mostNeeded_38 rfl (lv_at hl 3 rfl) ?_
          refine lv_icmp_le (tgt := 47) hx hb dX6_mostNeeded_39 (by decide) (fun c_11 => ?_) (fun c_11 => ?_)
          · replace hf := fp_t c_11 hf
            refine lv_iload_n hx hb dX6_mostNeeded_47 rfl (lv_at hl 3 rfl) ?_
            refine lv_istore_n (lv' := [(2, .int x2), (1, .int x3), (4, .int r_2), (0, .ref (mo 0)), (3, .int x3)]) hx hb dX6_mostNeeded_48 rfl hl (by decide) rfl (fun ls hl => ?_)
            obtain ⟨v_12, ev_12⟩ : ∃ y : Int32, y = x3 + (1 : Int32) := ⟨_, rfl⟩
            replace hf := nm_of ev_12 hf
            refine lv_iinc (v := v_12) (lv' := [(3, .int v_12), (2, .int x2), (1, .int x3), (4, .int r_2), (0, .ref (mo 0))]) hx hb dX6_mostNeeded_49 hl (k := 4) rfl (by rw [ev_12]; rfl) (by decide) rfl (fun ls hl => ?_)
            refine lv_goto (tgt := 11) hx hb dX6_mostNeeded_52 (by decide) ?_
            exact ih x3 x2 v_12 al_3 asd_4 ho_5 _ _ _ hf hP hS (lv_sub hl [4, 2, 1, 0] rfl)
          · replace hf := fp_f c_11 hf
            refine lv_iload hx hb dX6_mostNeeded_42 (lv_at hl 1 rfl) ?_
            refine lv_goto (tgt := 48) hx hb dX6_mostNeeded_44 (by decide) ?_
            refine lv_istore_n (lv' := [(2, .int r_2), (1, .int x3), (4, .int r_2), (0, .ref (mo 0)), (3, .int x3)]) hx hb dX6_mostNeeded_48 rfl hl (by decide) rfl (fun ls hl => ?_)
            obtain ⟨v_13, ev_13⟩ : ∃ y : Int32, y = x3 + (1 : Int32) := ⟨_, rfl⟩
            replace hf := nm_of ev_13 hf
            refine lv_iinc (v := v_13) (lv' := [(3, .int v_13), (2, .int r_2), (1, .int x3), (4, .int r_2), (0, .ref (mo 0))]) hx hb dX6_mostNeeded_49 hl (k := 4) rfl (by rw [ev_13]; rfl) (by decide) rfl (fun ls hl => ?_)
            refine lv_goto (tgt := 11) hx hb dX6_mostNeeded_52 (by decide) ?_
            exact ih x3 r_2 v_13 al_3 asd_4 ho_5 _ _ _ hf hP hS (lv_sub hl [4, 2, 1, 0] rfl)
  unfold f_X6_mostNeeded at hf
  refine lv_aload_n hx hb dX6_mostNeeded_0 rfl (lv_at hl 0 rfl) ?_
  refine lv_iconst (v := 0) hx hb dX6_mostNeeded_1 (by decide) ?_
  refine va_put (D := X.1) (ci := 6) (v := .int (0 : Int32)) (ty := .int) (C := RX6) (T := TX6) (N := 13) hx hb hts hiX6 tyX6 tyX6_ok nmX6 hown hK.1 hP (hD0.addr rfl) hS 0 rfl rfl 4 (by decide) k31 (fun _ h9 => h9) rfl (by decide +kernel) rfl rfl (Nat.le_of_ble_eq_true rfl) dX6_mostNeeded_2 (fun H locs hP hD hS => ?_)
  have hP : va_P X.1 vwCl (wMo X mo al sv sm asd (0 : Int32) ho fr txt tl pos od nu su) H := hP
  refine lv_iconst (v := -1) hx hb dX6_mostNeeded_5 (by decide) ?_
  refine lv_istore_n (lv' := [(1, .int (-1 : Int32)), (0, .ref (mo 0))]) hx hb dX6_mostNeeded_6 rfl hl (by decide) rfl (fun ls hl => ?_)
  refine lv_iconst (v := 0) hx hb dX6_mostNeeded_7 (by decide) ?_
  refine lv_istore_n (lv' := [(2, .int (0 : Int32)), (1, .int (-1 : Int32)), (0, .ref (mo 0))]) hx hb dX6_mostNeeded_8 rfl hl (by decide) rfl (fun ls hl => ?_)
  refine lv_iconst (v := 0) hx hb dX6_mostNeeded_9 (by decide) ?_
  refine lv_istore_n (lv' := [(3, .int (0 : Int32)), (2, .int (0 : Int32)), (1, .int (-1 : Int32)), (0, .ref (mo 0))]) hx hb dX6_mostNeeded_10 rfl hl (by decide) rfl (fun ls hl => ?_)
  obtain ⟨y1_14, al_15, asd_16, ho_17, hL_18, hf⟩ := bd4_of hf
  refine loop_11 _ (0 : Int32) y1_14 al_15 asd_16 ho_17 (fun H locs ls hP hS hl => ?_) FU (-1 : Int32) (0 : Int32) (0 : Int32) al asd ho _ _ _ hL_18 hP hS (lv_sub hl [3, 2, 1, 0] rfl)
  refine lv_iload_n hx hb dX6_mostNeeded_55 rfl (lv_at hl 0 rfl) ?_
  cases hf
  exact fn_iret hx hb hr hlocks hP hS dX6_mostNeeded_56

def f_X6_seenIn (x1 : Int32) (al : (Nat → Int32)) (asd : (Nat → Int32)) (th : Int32) (ho : (Nat → Int32)) : Option (Int32 × (Nat → Int32) × (Nat → Int32) × Int32 × (Nat → Int32)) :=
  bd (f_X6_in x1.toInt64 (0 : Int64) (100 : Int64)) (fun r_1 =>
  bd2 (f_X6_goes r_1 (1 : Int32) (1 : Int32) th) (fun r_3 th_4 =>
  if r_3 = (0 : Int32) then
  (some ((0 : Int32), al, asd, th_4, ho))
  else
  (bd (f_X6_layAside al asd) (fun asd_7 =>
  bd2 (f_X6_ticks x1 al) (fun r_9 al_10 =>
  bd2 (f_X6_pairs al_10 ho) (fun r_12 ho_13 =>
  bd (f_X6_takeBack al_10 asd_7) (fun al_15 =>
  some (r_12, al_15, asd_7, th_4, ho_13))))))))
set_option maxHeartbeats 4000000 in
set_option maxRecDepth 100000 in
theorem c_X6_seenIn (l : Launch) (X : cx_G) (mo : (Nat → Nat)) (al : (Nat → Int32)) (sv : (Nat → Int32)) (sm : Int32) (asd : (Nat → Int32)) (th : Int32) (ho : (Nat → Int32)) (fr : (Nat → Int32)) (txt : (Nat → Int32)) (tl : Int32) (pos : Int32) (od : Int32) (nu : (Nat → Int32)) (su : Int64) (x1 : Int32) (r : Int32) (al' : (Nat → Int32)) (asd' : (Nat → Int32)) (th' : Int32) (ho' : (Nat → Int32)) (hf : f_X6_seenIn x1 al asd th ho = some (r, al', asd', th', ho')) : Fn l yX6_seenIn wsX6_seenIn ({ frames := 5, cells := 0, slots := 0, locals := 111 } : Room) X [.ref (mo 0), .int x1] (wMo X mo al sv sm asd th ho fr txt tl pos od nu su) (some (.int r)) (wMo X mo al' sv sm asd' th' ho' fr txt tl pos od nu su) := by
  refine fn_intro (cc := cX6_seenIn) (maxL := 4) (ret := (some .int)) (by decide) rfl rfl (Nat.le_of_ble_eq_true rfl) ?_
  intro p e s m args below meth c A ls hx hb hml hr hts hown hlocks hK hP hD0 hS hA hl
  have hown : s.vm.findClass RX6 = some m.cls := hown
  have hl : lv_has ls 4 [(0, .ref (mo 0)), (1, .int x1)] := hl
  unfold f_X6_seenIn at hf
  refine lv_aload_n hx hb dX6_seenIn_0 rfl (lv_at hl 0 rfl) ?_
  refine lv_iload_n hx hb dX6_seenIn_1 rfl (lv_at hl 1 rfl) ?_
  refine lv_i2l (v := x1.toInt64) hx hb dX6_seenIn_2 rfl ?_
  refine lv_lconst (v := 0) hx hb dX6_seenIn_3 (by decide) ?_
  refine lv_ldc2 hx hb hown (hts (.constantLong RX6 95 (100)) (by decide +kernel)) dX6_seenIn_4 ?_
  obtain ⟨r_1, hc_2, hf⟩ := bd_of hf
  refine fn_Sx (v := some (.int r_1)) (As := [.long x1.toInt64, .long (0 : Int64), .long (100 : Int64)]) (rest := [.ref (mo 0)]) (st1 := [.int r_1, .ref (mo 0)]) (ws' := (wMo X mo al sv sm asd th ho fr txt tl pos od nu su)) (nL := 4) ⟨hx, hb, hml, hown, hts⟩ (c_X6_in l X x1.toInt64 (0 : Int64) (100 : Int64) r_1 hc_2) (va_cwS 3 hts gX6_seenIn_X6_in rfl rfl rfl (by decide +kernel) ⟨Nat.le_of_ble_eq_true rfl, Nat.le_of_ble_eq_true rfl⟩) rfl hl.1 rfl (Nat.le_of_ble_eq_true rfl) dX6_seenIn_7 hK hP (hD0.addr rfl) hS hA [] rfl rfl rfl rfl ⟨Nat.zero_le _, Nat.zero_le _⟩ (fun H locs hP hD hS => ?_)
  refine lv_iconst (v := 1) hx hb dX6_seenIn_10 (by decide) ?_
  refine lv_iconst (v := 1) hx hb dX6_seenIn_11 (by decide) ?_
  obtain ⟨r_3, th_4, hc_5, hf⟩ := bd2_of hf
  refine fn_V (v := some (.int r_3)) (As := [.int r_1, .int (1 : Int32), .int (1 : Int32)]) (rest := []) (st1 := [.int r_3]) (ws' := (wMo X mo al sv sm asd th_4 ho fr txt tl pos od nu su)) (nL := 4) ⟨hx, hb, hml, hown, hts⟩ (c_X6_goes l X mo al sv sm asd th ho fr txt tl pos od nu su r_1 (1 : Int32) (1 : Int32) r_3 th_4 hc_5) (cwV 3 hts gX6_seenIn_X6_goes rfl rfl rfl (by decide +kernel) ⟨Nat.le_of_ble_eq_true rfl, Nat.le_of_ble_eq_true rfl⟩) 6 rfl rfl rfl rfl hl.1 rfl (Nat.le_of_ble_eq_true rfl) dX6_seenIn_12 hK hP (hD0.addr rfl) hS hA [0, 1, 2, 3, 4, 5, 6, 7] rfl rfl rfl rfl ⟨Nat.zero_le _, Nat.zero_le _⟩ (fun H locs hP hD hS => ?_)
  refine lv_if_ne (tgt := 20) hx hb dX6_seenIn_15 (by decide) (fun c_6 => ?_) (fun c_6 => ?_)
  · replace hf := fp_f c_6 hf
    refine lv_aload_n hx hb dX6_seenIn_20 rfl (lv_at hl 0 rfl) ?_
    obtain ⟨asd_7, hc_8, hf⟩ := bd_of hf
    refine fn_V (v := none) (As := []) (rest := []) (st1 := []) (ws' := (wMo X mo al sv sm asd_7 th_4 ho fr txt tl pos od nu su)) (nL := 4) ⟨hx, hb, hml, hown, hts⟩ (c_X6_layAside l X mo al sv sm asd th_4 ho fr txt tl pos od nu su asd_7 hc_8) (cwV 0 hts gX6_seenIn_X6_layAside rfl rfl rfl (by decide +kernel) ⟨Nat.le_of_ble_eq_true rfl, Nat.le_of_ble_eq_true rfl⟩) 6 rfl rfl rfl rfl hl.1 rfl (Nat.le_of_ble_eq_true rfl) dX6_seenIn_21 hK hP (hD0.addr rfl) hS hA [0, 1, 2, 3, 4, 5, 6, 7] rfl rfl rfl rfl ⟨Nat.zero_le _, Nat.zero_le _⟩ (fun H locs hP hD hS => ?_)
    refine lv_aload_n hx hb dX6_seenIn_24 rfl (lv_at hl 0 rfl) ?_
    refine lv_iload_n hx hb dX6_seenIn_25 rfl (lv_at hl 1 rfl) ?_
    obtain ⟨r_9, al_10, hc_11, hf⟩ := bd2_of hf
    refine fn_V (v := some (.int r_9)) (As := [.int x1]) (rest := []) (st1 := [.int r_9]) (ws' := (wMo X mo al_10 sv sm asd_7 th_4 ho fr txt tl pos od nu su)) (nL := 4) ⟨hx, hb, hml, hown, hts⟩ (c_X6_ticks l X mo al sv sm asd_7 th_4 ho fr txt tl pos od nu su x1 r_9 al_10 hc_11) (cwV 1 hts gX6_seenIn_X6_ticks rfl rfl rfl (by decide +kernel) ⟨Nat.le_of_ble_eq_true rfl, Nat.le_of_ble_eq_true rfl⟩) 6 rfl rfl rfl rfl hl.1 rfl (Nat.le_of_ble_eq_true rfl) dX6_seenIn_26 hK hP (hD0.addr rfl) hS hA [0, 1, 2, 3, 4, 5, 6, 7] rfl rfl rfl rfl ⟨Nat.zero_le _, Nat.zero_le _⟩ (fun H locs hP hD hS => ?_)
    refine lv_istore_n (lv' := [(2, .int r_9), (0, .ref (mo 0)), (1, .int x1)]) hx hb dX6_seenIn_29 rfl hl (by decide) rfl (fun ls hl => ?_)
    refine lv_aload_n hx hb dX6_seenIn_30 rfl (lv_at hl 1 rfl) ?_
    obtain ⟨r_12, ho_13, hc_14, hf⟩ := bd2_of hf
    refine fn_V (v := some (.int r_12)) (As := []) (rest := []) (st1 := [.int r_12]) (ws' := (wMo X mo al_10 sv sm asd_7 th_4 ho_13 fr txt tl pos od nu su)) (nL := 4) ⟨hx, hb, hml, hown, hts⟩ (c_X6_pairs l X mo al_10 sv sm asd_7 th_4 ho fr txt tl pos od nu su r_12 ho_13 hc_14) (cwV 0 hts gX6_seenIn_X6_pairs rfl rfl rfl (by decide +kernel) ⟨Nat.le_of_ble_eq_true rfl, Nat.le_of_ble_eq_true rfl⟩) 6 rfl rfl rfl rfl hl.1 rfl (Nat.le_of_ble_eq_true rfl) dX6_seenIn_31 hK hP (hD0.addr rfl) hS hA [0, 1, 2, 3, 4, 5, 6, 7] rfl rfl rfl rfl ⟨Nat.zero_le _, Nat.zero_le _⟩ (fun H locs hP hD hS => ?_)
    refine lv_istore_n (lv' := [(3, .int r_12), (2, .int r_9), (0, .ref (mo 0)), (1, .int x1)]) hx hb dX6_seenIn_34 rfl hl (by decide) rfl (fun ls hl => ?_)
    refine lv_aload_n hx hb dX6_seenIn_35 rfl (lv_at hl 2 rfl) ?_
    obtain ⟨al_15, hc_16, hf⟩ := bd_of hf
    refine fn_V (v := none) (As := []) (rest := []) (st1 := []) (ws' := (wMo X mo al_15 sv sm asd_7 th_4 ho_13 fr txt tl pos od nu su)) (nL := 4) ⟨hx, hb, hml, hown, hts⟩ (c_X6_takeBack l X mo al_10 sv sm asd_7 th_4 ho_13 fr txt tl pos od nu su al_15 hc_16) (cwV 0 hts gX6_seenIn_X6_takeBack rfl rfl rfl (by decide +kernel) ⟨Nat.le_of_ble_eq_true rfl, Nat.le_of_ble_eq_true rfl⟩) 6 rfl rfl rfl rfl hl.1 rfl (Nat.le_of_ble_eq_true rfl) dX6_seenIn_36 hK hP (hD0.addr rfl) hS hA [0, 1, 2, 3, 4, 5, 6, 7] rfl rfl rfl rfl ⟨Nat.zero_le _, Nat.zero_le _⟩ (fun H locs hP hD hS => ?_)
    refine lv_iload_n hx hb dX6_seenIn_39 rfl (lv_at hl 0 rfl) ?_
    cases hf
    exact fn_iret hx hb hr hlocks hP hS dX6_seenIn_40
  · replace hf := fp_t c_6 hf
    refine lv_iconst (v := 0) hx hb dX6_seenIn_18 (by decide) ?_
    cases hf
    exact fn_iret hx hb hr hlocks hP hS dX6_seenIn_19

def f_X6_gainBy (x1 : Int32) (x2 : Int32) (x3 : Int32) (x4 : Int32) (x5 : Int32) (al : (Nat → Int32)) (asd : (Nat → Int32)) (th : Int32) (ho : (Nat → Int32)) : Option (Int32 × (Nat → Int32) × (Nat → Int32) × Int32 × (Nat → Int32)) :=
  bd (f_X6_arePersons x1 x2 x3 al) (fun r_1 =>
  bd (f_X6_isGrant x1 x2 x4 x5) (fun r_3 =>
  bd2 (f_X6_goes r_1 r_3 (1 : Int32) th) (fun r_5 th_6 =>
  if r_5 = (0 : Int32) then
  (some ((0 : Int32), al, asd, th_6, ho))
  else
  (bd2 (f_X6_mayGrant x1 x3 x4 x5 al ho) (fun r_9 ho_10 =>
  if r_9 = (0 : Int32) then
  (some ((-1 : Int32), al, asd, th_6, ho_10))
  else
  (bd2 (f_X6_pairs al ho_10) (fun r_13 ho_14 =>
  bd (f_X6_layAside al asd) (fun asd_16 =>
  bd (f_X6_lays x1 x2 x3 x4 x5 al) (fun al_18 =>
  bd2 (f_X6_pairs al_18 ho_14) (fun r_20 ho_21 =>
  nm (r_20 - r_13) (fun v_23 =>
  bd (f_X6_takeBack al_18 asd_16) (fun al_24 =>
  some (v_23, al_24, asd_16, th_6, ho_21)))))))))))))
set_option maxHeartbeats 4000000 in
set_option maxRecDepth 100000 in
theorem c_X6_gainBy (l : Launch) (X : cx_G) (mo : (Nat → Nat)) (al : (Nat → Int32)) (sv : (Nat → Int32)) (sm : Int32) (asd : (Nat → Int32)) (th : Int32) (ho : (Nat → Int32)) (fr : (Nat → Int32)) (txt : (Nat → Int32)) (tl : Int32) (pos : Int32) (od : Int32) (nu : (Nat → Int32)) (su : Int64) (x1 : Int32) (x2 : Int32) (x3 : Int32) (x4 : Int32) (x5 : Int32) (r : Int32) (al' : (Nat → Int32)) (asd' : (Nat → Int32)) (th' : Int32) (ho' : (Nat → Int32)) (hf : f_X6_gainBy x1 x2 x3 x4 x5 al asd th ho = some (r, al', asd', th', ho')) : Fn l yX6_gainBy wsX6_gainBy ({ frames := 4, cells := 0, slots := 0, locals := 93 } : Room) X [.ref (mo 0), .int x1, .int x2, .int x3, .int x4, .int x5] (wMo X mo al sv sm asd th ho fr txt tl pos od nu su) (some (.int r)) (wMo X mo al' sv sm asd' th' ho' fr txt tl pos od nu su) := by
  refine fn_intro (cc := cX6_gainBy) (maxL := 8) (ret := (some .int)) (by decide) rfl rfl (Nat.le_of_ble_eq_true rfl) ?_
  intro p e s m args below meth c A ls hx hb hml hr hts hown hlocks hK hP hD0 hS hA hl
  have hown : s.vm.findClass RX6 = some m.cls := hown
  have hl : lv_has ls 8 [(0, .ref (mo 0)), (1, .int x1), (2, .int x2), (3, .int x3), (4, .int x4), (5, .int x5)] := hl
  unfold f_X6_gainBy at hf
  refine lv_aload_n hx hb dX6_gainBy_0 rfl (lv_at hl 0 rfl) ?_
  refine lv_aload_n hx hb dX6_gainBy_1 rfl (lv_at hl 0 rfl) ?_
  refine lv_iload_n hx hb dX6_gainBy_2 rfl (lv_at hl 1 rfl) ?_
  refine lv_iload_n hx hb dX6_gainBy_3 rfl (lv_at hl 2 rfl) ?_
  refine lv_iload_n hx hb dX6_gainBy_4 rfl (lv_at hl 3 rfl) ?_
  obtain ⟨r_1, hc_2, hf⟩ := bd_of hf
  refine fn_V (v := some (.int r_1)) (As := [.int x1, .int x2, .int x3]) (rest := [.ref (mo 0)]) (st1 := [.int r_1, .ref (mo 0)]) (ws' := (wMo X mo al sv sm asd th ho fr txt tl pos od nu su)) (nL := 8) ⟨hx, hb, hml, hown, hts⟩ (c_X6_arePersons l X mo al sv sm asd th ho fr txt tl pos od nu su x1 x2 x3 r_1 hc_2) (cwV 3 hts gX6_gainBy_X6_arePersons rfl rfl rfl (by decide +kernel) ⟨Nat.le_of_ble_eq_true rfl, Nat.le_of_ble_eq_true rfl⟩) 6 rfl rfl rfl rfl hl.1 rfl (Nat.le_of_ble_eq_true rfl) dX6_gainBy_5 hK hP (hD0.addr rfl) hS hA [0, 1, 2, 3, 4, 5, 6, 7] rfl rfl rfl rfl ⟨Nat.zero_le _, Nat.zero_le _⟩ (fun H locs hP hD hS => ?_)
  refine lv_iload_n hx hb dX6_gainBy_8 rfl (lv_at hl 1 rfl) ?_
  refine lv_iload_n hx hb dX6_gainBy_9 rfl (lv_at hl 2 rfl) ?_
  refine lv_iload hx hb dX6_gainBy_10 (lv_at hl 4 rfl) ?_
  refine lv_iload hx hb dX6_gainBy_12 (lv_at hl 5 rfl) ?_
  obtain ⟨r_3, hc_4, hf⟩ := bd_of hf
  refine fn_Sx (v := some (.int r_3)) (As := [.int x1, .int x2, .int x4, .int x5]) (rest := [.int r_1, .ref (mo 0)]) (st1 := [.int r_3, .int r_1, .ref (mo 0)]) (ws' := (wMo X mo al sv sm asd th ho fr txt tl pos od nu su)) (nL := 8) ⟨hx, hb, hml, hown, hts⟩ (c_X6_isGrant l X x1 x2 x4 x5 r_3 hc_4) (va_cwS 4 hts gX6_gainBy_X6_isGrant rfl rfl rfl (by decide +kernel) ⟨Nat.le_of_ble_eq_true rfl, Nat.le_of_ble_eq_true rfl⟩) rfl hl.1 rfl (Nat.le_of_ble_eq_true rfl) dX6_gainBy_14 hK hP (hD0.addr rfl) hS hA [] rfl rfl rfl rfl ⟨Nat.zero_le _, Nat.zero_le _⟩ (fun H locs hP hD hS => ?_)
  refine lv_iconst (v := 1) hx hb dX6_gainBy_17 (by decide) ?_
  obtain ⟨r_5, th_6, hc_7, hf⟩ := bd2_of hf
  refine fn_V (v := some (.int r_5)) (As := [.int r_1, .int r_3, .int (1 : Int32)]) (rest := []) (st1 := [.int r_5]) (ws' := (wMo X mo al sv sm asd th_6 ho fr txt tl pos od nu su)) (nL := 8) ⟨hx, hb, hml, hown, hts⟩ (c_X6_goes l X mo al sv sm asd th ho fr txt tl pos od nu su r_1 r_3 (1 : Int32) r_5 th_6 hc_7) (cwV 3 hts gX6_gainBy_X6_goes rfl rfl rfl (by decide +kernel) ⟨Nat.le_of_ble_eq_true rfl, Nat.le_of_ble_eq_true rfl⟩) 6 rfl rfl rfl rfl hl.1 rfl (Nat.le_of_ble_eq_true rfl) dX6_gainBy_18 hK hP (hD0.addr rfl) hS hA [0, 1, 2, 3, 4, 5, 6, 7] rfl rfl rfl rfl ⟨Nat.zero_le _, Nat.zero_le _⟩ (fun H locs hP hD hS => ?_)
  refine lv_if_ne (tgt := 26) hx hb dX6_gainBy_21 (by decide) (fun c_8 => ?_) (fun c_8 => ?_)
  · replace hf := fp_f c_8 hf
    refine lv_aload_n hx hb dX6_gainBy_26 rfl (lv_at hl 0 rfl) ?_
    refine lv_iload_n hx hb dX6_gainBy_27 rfl (lv_at hl 1 rfl) ?_
    refine lv_iload_n hx hb dX6_gainBy_28 rfl (lv_at hl 3 rfl) ?_
    refine lv_iload hx hb dX6_gainBy_29 (lv_at hl 4 rfl) ?_
    refine lv_iload hx hb dX6_gainBy_31 (lv_at hl 5 rfl) ?_
    obtain ⟨r_9, ho_10, hc_11, hf⟩ := bd2_of hf
    refine fn_V (v := some (.int r_9)) (As := [.int x1, .int x3, .int x4, .int x5]) (rest := []) (st1 := [.int r_9]) (ws' := (wMo X mo al sv sm asd th_6 ho_10 fr txt tl pos od nu su)) (nL := 8) ⟨hx, hb, hml, hown, hts⟩ (c_X6_mayGrant l X mo al sv sm asd th_6 ho fr txt tl pos od nu su x1 x3 x4 x5 r_9 ho_10 hc_11) (cwV 4 hts gX6_gainBy_X6_mayGrant rfl rfl rfl (by decide +kernel) ⟨Nat.le_of_ble_eq_true rfl, Nat.le_of_ble_eq_true rfl⟩) 6 rfl rfl rfl rfl hl.1 rfl (Nat.le_of_ble_eq_true rfl) dX6_gainBy_33 hK hP (hD0.addr rfl) hS hA [0, 1, 2, 3, 4, 5, 6, 7] rfl rfl rfl rfl ⟨Nat.zero_le _, Nat.zero_le _⟩ (fun H locs hP hD hS => ?_)
    refine lv_if_ne (tgt := 41) hx hb dX6_gainBy_36 (by decide) (fun c_12 => ?_) (fun c_12 => ?_)
    · replace hf := fp_f c_12 hf
      refine lv_aload_n hx hb dX6_gainBy_41 rfl (lv_at hl 0 rfl) ?_
      obtain ⟨r_13, ho_14, hc_15, hf⟩ := bd2_of hf
      refine fn_V (v := some (.int r_13)) (As := []) (rest := []) (st1 := [.int r_13]) (ws' := (wMo X mo al sv sm asd th_6 ho_14 fr txt tl pos od nu su)) (nL := 8) ⟨hx, hb, hml, hown, hts⟩ (c_X6_pairs l X mo al sv sm asd th_6 ho_10 fr txt tl pos od nu su r_13 ho_14 hc_15) (cwV 0 hts gX6_gainBy_X6_pairs rfl rfl rfl (by decide +kernel) ⟨Nat.le_of_ble_eq_true rfl, Nat.le_of_ble_eq_true rfl⟩) 6 rfl rfl rfl rfl hl.1 rfl (Nat.le_of_ble_eq_true rfl) dX6_gainBy_42 hK hP (hD0.addr rfl) hS hA [0, 1, 2, 3, 4, 5, 6, 7] rfl rfl rfl rfl ⟨Nat.zero_le _, Nat.zero_le _⟩ (fun H locs hP hD hS => ?_)
      refine lv_istore (lv' := [(6, .int r_13), (0, .ref (mo 0)), (1, .int x1), (2, .int x2), (3, .int x3), (4, .int x4), (5, .int x5)]) hx hb dX6_gainBy_45 hl (by decide) rfl (fun ls hl => ?_)
      refine lv_aload_n hx hb dX6_gainBy_47 rfl (lv_at hl 1 rfl) ?_
      obtain ⟨asd_16, hc_17, hf⟩ := bd_of hf
      refine fn_V (v := none) (As := []) (rest := []) (st1 := []) (ws' := (wMo X mo al sv sm asd_16 th_6 ho_14 fr txt tl pos od nu su)) (nL := 8) ⟨hx, hb, hml, hown, hts⟩ (c_X6_layAside l X mo al sv sm asd th_6 ho_14 fr txt tl pos od nu su asd_16 hc_17) (cwV 0 hts gX6_gainBy_X6_layAside rfl rfl rfl (by decide +kernel) ⟨Nat.le_of_ble_eq_true rfl, Nat.le_of_ble_eq_true rfl⟩) 6 rfl rfl rfl rfl hl.1 rfl (Nat.le_of_ble_eq_true rfl) dX6_gainBy_48 hK hP (hD0.addr rfl) hS hA [0, 1, 2, 3, 4, 5, 6, 7] rfl rfl rfl rfl ⟨Nat.zero_le _, Nat.zero_le _⟩ (fun H locs hP hD hS => ?_)
      refine lv_aload_n hx hb dX6_gainBy_51 rfl (lv_at hl 1 rfl) ?_
      refine lv_iload_n hx hb dX6_gainBy_52 rfl (lv_at hl 2 rfl) ?_
      refine lv_iload_n hx hb dX6_gainBy_53 rfl (lv_at hl 3 rfl) ?_
      refine lv_iload_n hx hb dX6_gainBy_54 rfl (lv_at hl 4 rfl) ?_
      refine lv_iload hx hb dX6_gainBy_55 (lv_at hl 5 rfl) ?_
      refine lv_iload hx hb dX6_gainBy_57 (lv_at hl 6 rfl) ?_
      obtain ⟨al_18, hc_19, hf⟩ := bd_of hf
      refine fn_V (v := none) (As := [.int x1, .int x2, .int x3, .int x4, .int x5]) (rest := []) (st1 := []) (ws' := (wMo X mo al_18 sv sm asd_16 th_6 ho_14 fr txt tl pos od nu su)) (nL := 8) ⟨hx, hb, hml, hown, hts⟩ (c_X6_lays l X mo al sv sm asd_16 th_6 ho_14 fr txt tl pos od nu su x1 x2 x3 x4 x5 al_18 hc_19) (cwV 5 hts gX6_gainBy_X6_lays rfl rfl rfl (by decide +kernel) ⟨Nat.le_of_ble_eq_true rfl, Nat.le_of_ble_eq_true rfl⟩) 6 rfl rfl rfl rfl hl.1 rfl (Nat.le_of_ble_eq_true rfl) dX6_gainBy_59 hK hP (hD0.addr rfl) hS hA [0, 1, 2, 3, 4, 5, 6, 7] rfl rfl rfl rfl ⟨Nat.zero_le _, Nat.zero_le _⟩ (fun H locs hP hD hS => ?_)
      refine lv_aload_n hx hb dX6_gainBy_62 rfl (lv_at hl 1 rfl) ?_
      obtain ⟨r_20, ho_21, hc_22, hf⟩ := bd2_of hf
      refine fn_V (v := some (.int r_20)) (As := []) (rest := []) (st1 := [.int r_20]) (ws' := (wMo X mo al_18 sv sm asd_16 th_6 ho_21 fr txt tl pos od nu su)) (nL := 8) ⟨hx, hb, hml, hown, hts⟩ (c_X6_pairs l X mo al_18 sv sm asd_16 th_6 ho_14 fr txt tl pos od nu su r_20 ho_21 hc_22) (cwV 0 hts gX6_gainBy_X6_pairs rfl rfl rfl (by decide +kernel) ⟨Nat.le_of_ble_eq_true rfl, Nat.le_of_ble_eq_true rfl⟩) 6 rfl rfl rfl rfl hl.1 rfl (Nat.le_of_ble_eq_true rfl) dX6_gainBy_63 hK hP (hD0.addr rfl) hS hA [0, 1, 2, 3, 4, 5, 6, 7] rfl rfl rfl rfl ⟨Nat.zero_le _, Nat.zero_le _⟩ (fun H locs hP hD hS => ?_)
      refine lv_iload hx hb dX6_gainBy_66 (lv_at hl 0 rfl) ?_
      refine lv_isub hx hb dX6_gainBy_68 ?_
      refine lv_topi (fun v_23 ev_23 => ?_)
      replace hf := nm_of ev_23 hf
      refine lv_istore (lv' := [(7, .int v_23), (6, .int r_13), (0, .ref (mo 0)), (1, .int x1), (2, .int x2), (3, .int x3), (4, .int x4), (5, .int x5)]) hx hb dX6_gainBy_69 hl (by decide) rfl (fun ls hl => ?_)
      refine lv_aload_n hx hb dX6_gainBy_71 rfl (lv_at hl 2 rfl) ?_
      obtain ⟨al_24, hc_25, hf⟩ := bd_of hf
      refine fn_V (v := none) (As := []) (rest := []) (st1 := []) (ws' := (wMo X mo al_24 sv sm asd_16 th_6 ho_21 fr txt tl pos od nu su)) (nL := 8) ⟨hx, hb, hml, hown, hts⟩ (c_X6_takeBack l X mo al_18 sv sm asd_16 th_6 ho_21 fr txt tl pos od nu su al_24 hc_25) (cwV 0 hts gX6_gainBy_X6_takeBack rfl rfl rfl (by decide +kernel) ⟨Nat.le_of_ble_eq_true rfl, Nat.le_of_ble_eq_true rfl⟩) 6 rfl rfl rfl rfl hl.1 rfl (Nat.le_of_ble_eq_true rfl) dX6_gainBy_72 hK hP (hD0.addr rfl) hS hA [0, 1, 2, 3, 4, 5, 6, 7] rfl rfl rfl rfl ⟨Nat.zero_le _, Nat.zero_le _⟩ (fun H locs hP hD hS => ?_)
      refine lv_iload hx hb dX6_gainBy_75 (lv_at hl 0 rfl) ?_
      cases hf
      exact fn_iret hx hb hr hlocks hP hS dX6_gainBy_77
    · replace hf := fp_t c_12 hf
      refine lv_iconst (v := -1) hx hb dX6_gainBy_39 (by decide) ?_
      cases hf
      exact fn_iret hx hb hr hlocks hP hS dX6_gainBy_40
  · replace hf := fp_t c_8 hf
    refine lv_iconst (v := 0) hx hb dX6_gainBy_24 (by decide) ?_
    cases hf
    exact fn_iret hx hb hr hlocks hP hS dX6_gainBy_25

def f_X6_patience_L19 (x1 : Int32) (al : (Nat → Int32)) : Nat → Int32 → Int32 →  Option (Int32)
  | 0, _, _ => none
  | k_ + 1, x2, x3 =>
    ix (5 : Int32) 320 (
    if al (5 : Int32).toNatClampNeg ≤ x3 then
    (some x2)
    else
    (bd (f_X6_of x3 (1 : Int32) al) (fun r_3 =>
    if r_3 = x1 then
    (bd (f_X6_of x3 (5 : Int32) al) (fun r_7 =>
    if r_7 ≤ x2 then
    (nm (x3 + (1 : Int32)) (fun v_10 =>
    f_X6_patience_L19 x1 al k_ x2 v_10))
    else
    (bd (f_X6_of x3 (5 : Int32) al) (fun r_11 =>
    nm (x3 + (1 : Int32)) (fun v_13 =>
    f_X6_patience_L19 x1 al k_ r_11 v_13)))))
    else
    (nm (x3 + (1 : Int32)) (fun v_6 =>
    f_X6_patience_L19 x1 al k_ x2 v_6)))))
def f_X6_patience (x1 : Int32) (al : (Nat → Int32)) (th : Int32) : Option (Int32 × Int32) :=
  bd (f_X6_isPerson x1) (fun r_14 =>
  bd2 (f_X6_goes r_14 (1 : Int32) (1 : Int32) th) (fun r_16 th_17 =>
  if r_16 = (0 : Int32) then
  (some ((0 : Int32), th_17))
  else
  (bd (f_X6_patience_L19 x1 al FU (0 : Int32) (0 : Int32)) (fun y2_20 =>
  ix ((8 : Int32) + x1) 320 (
  nm ((al ((8 : Int32) + x1).toNatClampNeg) - y2_20) (fun v_23 =>
  some (v_23, th_17)))))))
set_option maxHeartbeats 4000000 in
set_option maxRecDepth 100000 in
theorem c_X6_patience (l : Launch) (X : cx_G) (mo : (Nat → Nat)) (al : (Nat → Int32)) (sv : (Nat → Int32)) (sm : Int32) (asd : (Nat → Int32)) (th : Int32) (ho : (Nat → Int32)) (fr : (Nat → Int32)) (txt : (Nat → Int32)) (tl : Int32) (pos : Int32) (od : Int32) (nu : (Nat → Int32)) (su : Int64) (x1 : Int32) (r : Int32) (th' : Int32) (hf : f_X6_patience x1 al th = some (r, th')) : Fn l yX6_patience wsX6_patience ({ frames := 2, cells := 0, slots := 0, locals := 45 } : Room) X [.ref (mo 0), .int x1] (wMo X mo al sv sm asd th ho fr txt tl pos od nu su) (some (.int r)) (wMo X mo al sv sm asd th' ho fr txt tl pos od nu su) := by
  refine fn_intro (cc := cX6_patience) (maxL := 4) (ret := (some .int)) (by decide) rfl rfl (Nat.le_of_ble_eq_true rfl) ?_
  intro p e s m args below meth c A ls hx hb hml hr hts hown hlocks hK hP hD0 hS hA hl
  have hown : s.vm.findClass RX6 = some m.cls := hown
  have hl : lv_has ls 4 [(0, .ref (mo 0)), (1, .int x1)] := hl
  have hiX6 : ∀ w ∈ u_ws RX6 TX6 13, w ∈ wsX6_patience := by decide +kernel
  have k7 := hts (.fieldLink RX6 7 "LentRightsModel" "all" "[I") (by decide +kernel)
  have loop_19 : ∀ (Q : State → Prop) (th : Int32) (y2 : Int32), (∀ (H : Heap) (locs : List Loc) (ls : Array Slot), va_P X.1 vwCl (wMo X mo al sv sm asd th ho fr txt tl pos od nu su) H → va_S A s.heap H locs → lv_has ls 4 [(0, .ref (mo 0)), (1, .int x1), (2, .int y2)] → W p l e ({ frames := 2, cells := 0, slots := 0, locals := 45 } : Room) s m args below meth c H locs 0 0 Q (F0 m 66 ls [])) → ∀ (k_ : Nat) (x2 : Int32) (x3 : Int32) (H : Heap) (locs : List Loc) (ls : Array Slot), f_X6_patience_L19 x1 al k_ x2 x3 = some y2 → va_P X.1 vwCl (wMo X mo al sv sm asd th ho fr txt tl pos od nu su) H → va_S A s.heap H locs → lv_has ls 4 [(0, .ref (mo 0)), (1, .int x1), (2, .int x2), (3, .int x3)] → W p l e ({ frames := 2, cells := 0, slots := 0, locals := 45 } : Room) s m args below meth c H locs 0 0 Q (F0 m 19 ls []) := by
    intro Q th y2 kx k_
    induction k_ with
    | zero => intro x2 x3 H locs ls hf; exact nomatch (show (none : Option (Int32)) = some _ from hf)
    | succ k_ ih =>
      intro x2 x3 H locs ls hf hP hS hl
      unfold f_X6_patience_L19 at hf
      refine lv_iload_n hx hb dX6_patience_19 rfl (lv_at hl 3 rfl) ?_
      refine lv_aload_n hx hb dX6_patience_20 rfl (lv_at hl 0 rfl) ?_
      refine va_get (D := X.1) (ci := 6) (v := .ref (mo 1)) (C := RX6) (T := TX6) (N := 13) hx hb hts hiX6 hown hK.1 hP 0 rfl rfl 0 (by decide) k7 (fun _ h9 => h9) rfl dX6_patience_21 ?_
      refine lv_iconst (v := 5) hx hb dX6_patience_24 (by decide) ?_
      obtain ⟨hi_1, hf⟩ := ix_of hf
      refine va_iald hx hb hK.1 hP 1 0 rfl rfl hi_1 dX6_patience_25 ?_
      refine lv_icmp_ge (tgt := 66) hx hb dX6_patience_26 (by decide) (fun c_2 => ?_) (fun c_2 => ?_)
      · replace hf := fp_t c_2 hf
        cases hf
        exact kx _ _ _ hP hS (lv_sub hl [0, 1, 2] rfl)
      · replace hf := fp_f c_2 hf
        refine lv_aload_n hx hb dX6_patience_29 rfl (lv_at hl 0 rfl) ?_
        refine lv_iload_n hx hb dX6_patience_30 rfl (lv_at hl 3 rfl) ?_
        refine lv_iconst (v := 1) hx hb dX6_patience_31 (by decide) ?_
        obtain ⟨r_3, hc_4, hf⟩ := bd_of hf
        refine fn_V (v := some (.int r_3)) (As := [.int x3, .int (1 : Int32)]) (rest := []) (st1 := [.int r_3]) (ws' := (wMo X mo al sv sm asd th ho fr txt tl pos od nu su)) (nL := 4) ⟨hx, hb, hml, hown, hts⟩ (c_X6_of l X mo al sv sm asd th ho fr txt tl pos od nu su x3 (1 : Int32) r_3 hc_4) (cwV 2 hts gX6_patience_X6_of rfl rfl rfl (by decide +kernel) ⟨Nat.le_of_ble_eq_true rfl, Nat.le_of_ble_eq_true rfl⟩) 6 rfl rfl rfl rfl hl.1 rfl (Nat.le_of_ble_eq_true rfl) dX6_patience_32 hK hP (hD0.addr rfl) hS hA [0, 1, 2, 3, 4, 5, 6, 7] rfl rfl rfl rfl ⟨Nat.zero_le _, Nat.zero_le _⟩ (fun H locs hP hD hS => ?_)
        refine lv_iload_n hx hb dX6_patience_35 rfl (lv_at hl 1 rfl) ?_
        refine lv_icmp_ne (tgt := 58) hx hb dX6_patience_36 (by decide) (fun c_5 => ?_) (fun c_5 => ?_)
        · replace hf := fp_f c_5 hf
          refine lv_iload_n hx hb dX6_patience_58 rfl (lv_at hl 2 rfl) ?_
          refine lv_istore_n (lv' := [(2, .int x2), (0, .ref (mo 0)), (1, .int x1), (3, .int x3)]) hx hb dX6_patience_59 rfl hl (by decide) rfl (fun ls hl => ?_)
          obtain ⟨v_6, ev_6⟩ : ∃ y : Int32, y = x3 + (1 : Int32) := ⟨_, rfl⟩
          replace hf := nm_of ev_6 hf
          refine lv_iinc (v := v_6) (lv' := [(3, .int v_6), (2, .int x2), (0, .ref (mo 0)), (1, .int x1)]) hx hb dX6_patience_60 hl (k := 3) rfl (by rw [ev_6]; rfl) (by decide) rfl (fun ls hl => ?_)
          refine lv_goto (tgt := 19) hx hb dX6_patience_63 (by decide) ?_
          exact ih x2 v_6 _ _ _ hf hP hS (lv_sub hl [2, 3, 1, 0] rfl)
        · replace hf := fp_t c_5 hf
          refine lv_aload_n hx hb dX6_patience_39 rfl (lv_at hl 0 rfl) ?_
          refine lv_iload_n hx hb dX6_patience_40 rfl (lv_at hl 3 rfl) ?_
          refine lv_iconst (v := 5) hx hb dX6_patience_41 (by decide) ?_
          obtain ⟨r_7, hc_8, hf⟩ := bd_of hf
          refine fn_V (v := some (.int r_7)) (As := [.int x3, .int (5 : Int32)]) (rest := []) (st1 := [.int r_7]) (ws' := (wMo X mo al sv sm asd th ho fr txt tl pos od nu su)) (nL := 4) ⟨hx, hb, hml, hown, hts⟩ (c_X6_of l X mo al sv sm asd th ho fr txt tl pos od nu su x3 (5 : Int32) r_7 hc_8) (cwV 2 hts gX6_patience_X6_of rfl rfl rfl (by decide +kernel) ⟨Nat.le_of_ble_eq_true rfl, Nat.le_of_ble_eq_true rfl⟩) 6 rfl rfl rfl rfl hl.1 rfl (Nat.le_of_ble_eq_true rfl) dX6_patience_42 hK hP (hD0.addr rfl) hS hA [0, 1, 2, 3, 4, 5, 6, 7] rfl rfl rfl rfl ⟨Nat.zero_le _, Nat.zero_le _⟩ (fun H locs hP hD hS => ?_)
          refine lv_iload_n hx hb dX6_patience_45 rfl (lv_at hl 2 rfl) ?_
          refine lv_icmp_le (tgt := 58) hx hb dX6_patience_46 (by decide) (fun c_9 => ?_) (fun c_9 => ?_)
          · replace hf := fp_t c_9 hf
            refine lv_iload_n hx hb dX6_patience_58 rfl (lv_at hl 2 rfl) ?_
            refine lv_istore_n (lv' := [(2, .int x2), (0, .ref (mo 0)), (1, .int x1), (3, .int x3)]) hx hb dX6_patience_59 rfl hl (by decide) rfl (fun ls hl => ?_)
            obtain ⟨v_10, ev_10⟩ : ∃ y : Int32, y = x3 + (1 : Int32) := ⟨_, rfl⟩
            replace hf := nm_of ev_10 hf
            refine lv_iinc (v := v_10) (lv' := [(3, .int v_10), (2, .int x2), (0, .ref (mo 0)), (1, .int x1)]) hx hb dX6_patience_60 hl (k := 3) rfl (by rw [ev_10]; rfl) (by decide) rfl (fun ls hl => ?_)
            refine lv_goto (tgt := 19) hx hb dX6_patience_63 (by decide) ?_
            exact ih x2 v_10 _ _ _ hf hP hS (lv_sub hl [2, 3, 1, 0] rfl)
          · replace hf := fp_f c_9 hf
            refine lv_aload_n hx hb dX6_patience_49 rfl (lv_at hl 0 rfl) ?_
            refine lv_iload_n hx hb dX6_patience_50 rfl (lv_at hl 3 rfl) ?_
            refine lv_iconst (v := 5) hx hb dX6_patience_51 (by decide) ?_
            obtain ⟨r_11, hc_12, hf⟩ := bd_of hf
            refine fn_V (v := some (.int r_11)) (As := [.int x3, .int (5 : Int32)]) (rest := []) (st1 := [.int r_11]) (ws' := (wMo X mo al sv sm asd th ho fr txt tl pos od nu su)) (nL := 4) ⟨hx, hb, hml, hown, hts⟩ (c_X6_of l X mo al sv sm asd th ho fr txt tl pos od nu su x3 (5 : Int32) r_11 hc_12) (cwV 2 hts gX6_patience_X6_of rfl rfl rfl (by decide +kernel) ⟨Nat.le_of_ble_eq_true rfl, Nat.le_of_ble_eq_true rfl⟩) 6 rfl rfl rfl rfl hl.1 rfl (Nat.le_of_ble_eq_true rfl) dX6_patience_52 hK hP (hD0.addr rfl) hS hA [0, 1, 2, 3, 4, 5, 6, 7] rfl rfl rfl rfl ⟨Nat.zero_le _, Nat.zero_le _⟩ (fun H locs hP hD hS => ?_)
            refine lv_goto (tgt := 59) hx hb dX6_patience_55 (by decide) ?_
            refine lv_istore_n (lv' := [(2, .int r_11), (0, .ref (mo 0)), (1, .int x1), (3, .int x3)]) hx hb dX6_patience_59 rfl hl (by decide) rfl (fun ls hl => ?_)
            obtain ⟨v_13, ev_13⟩ : ∃ y : Int32, y = x3 + (1 : Int32) := ⟨_, rfl⟩
            replace hf := nm_of ev_13 hf
            refine lv_iinc (v := v_13) (lv' := [(3, .int v_13), (2, .int r_11), (0, .ref (mo 0)), (1, .int x1)]) hx hb dX6_patience_60 hl (k := 3) rfl (by rw [ev_13]; rfl) (by decide) rfl (fun ls hl => ?_)
            refine lv_goto (tgt := 19) hx hb dX6_patience_63 (by decide) ?_
            exact ih r_11 v_13 _ _ _ hf hP hS (lv_sub hl [2, 3, 1, 0] rfl)
  unfold f_X6_patience at hf
  refine lv_aload_n hx hb dX6_patience_0 rfl (lv_at hl 0 rfl) ?_
  refine lv_iload_n hx hb dX6_patience_1 rfl (lv_at hl 1 rfl) ?_
  obtain ⟨r_14, hc_15, hf⟩ := bd_of hf
  refine fn_Sx (v := some (.int r_14)) (As := [.int x1]) (rest := [.ref (mo 0)]) (st1 := [.int r_14, .ref (mo 0)]) (ws' := (wMo X mo al sv sm asd th ho fr txt tl pos od nu su)) (nL := 4) ⟨hx, hb, hml, hown, hts⟩ (c_X6_isPerson l X x1 r_14 hc_15) (va_cwS 1 hts gX6_patience_X6_isPerson rfl rfl rfl (by decide +kernel) ⟨Nat.le_of_ble_eq_true rfl, Nat.le_of_ble_eq_true rfl⟩) rfl hl.1 rfl (Nat.le_of_ble_eq_true rfl) dX6_patience_2 hK hP (hD0.addr rfl) hS hA [] rfl rfl rfl rfl ⟨Nat.zero_le _, Nat.zero_le _⟩ (fun H locs hP hD hS => ?_)
  refine lv_iconst (v := 1) hx hb dX6_patience_5 (by decide) ?_
  refine lv_iconst (v := 1) hx hb dX6_patience_6 (by decide) ?_
  obtain ⟨r_16, th_17, hc_18, hf⟩ := bd2_of hf
  refine fn_V (v := some (.int r_16)) (As := [.int r_14, .int (1 : Int32), .int (1 : Int32)]) (rest := []) (st1 := [.int r_16]) (ws' := (wMo X mo al sv sm asd th_17 ho fr txt tl pos od nu su)) (nL := 4) ⟨hx, hb, hml, hown, hts⟩ (c_X6_goes l X mo al sv sm asd th ho fr txt tl pos od nu su r_14 (1 : Int32) (1 : Int32) r_16 th_17 hc_18) (cwV 3 hts gX6_patience_X6_goes rfl rfl rfl (by decide +kernel) ⟨Nat.le_of_ble_eq_true rfl, Nat.le_of_ble_eq_true rfl⟩) 6 rfl rfl rfl rfl hl.1 rfl (Nat.le_of_ble_eq_true rfl) dX6_patience_7 hK hP (hD0.addr rfl) hS hA [0, 1, 2, 3, 4, 5, 6, 7] rfl rfl rfl rfl ⟨Nat.zero_le _, Nat.zero_le _⟩ (fun H locs hP hD hS => ?_)
  refine lv_if_ne (tgt := 15) hx hb dX6_patience_10 (by decide) (fun c_19 => ?_) (fun c_19 => ?_)
  · replace hf := fp_f c_19 hf
    refine lv_iconst (v := 0) hx hb dX6_patience_15 (by decide) ?_
    refine lv_istore_n (lv' := [(2, .int (0 : Int32)), (0, .ref (mo 0)), (1, .int x1)]) hx hb dX6_patience_16 rfl hl (by decide) rfl (fun ls hl => ?_)
    refine lv_iconst (v := 0) hx hb dX6_patience_17 (by decide) ?_
    refine lv_istore_n (lv' := [(3, .int (0 : Int32)), (2, .int (0 : Int32)), (0, .ref (mo 0)), (1, .int x1)]) hx hb dX6_patience_18 rfl hl (by decide) rfl (fun ls hl => ?_)
    obtain ⟨y2_20, hL_21, hf⟩ := bd_of hf
    refine loop_19 _ th_17 y2_20 (fun H locs ls hP hS hl => ?_) FU (0 : Int32) (0 : Int32) _ _ _ hL_21 hP hS (lv_sub hl [2, 3, 1, 0] rfl)
    refine lv_aload_n hx hb dX6_patience_66 rfl (lv_at hl 0 rfl) ?_
    refine va_get (D := X.1) (ci := 6) (v := .ref (mo 1)) (C := RX6) (T := TX6) (N := 13) hx hb hts hiX6 hown hK.1 hP 0 rfl rfl 0 (by decide) k7 (fun _ h9 => h9) rfl dX6_patience_67 ?_
    refine lv_bipush (v := 8) hx hb dX6_patience_70 (by decide) ?_
    refine lv_iload_n hx hb dX6_patience_72 rfl (lv_at hl 1 rfl) ?_
    refine lv_iadd hx hb dX6_patience_73 ?_
    obtain ⟨hi_22, hf⟩ := ix_of hf
    refine va_iald hx hb hK.1 hP 1 0 rfl rfl hi_22 dX6_patience_74 ?_
    refine lv_iload_n hx hb dX6_patience_75 rfl (lv_at hl 2 rfl) ?_
    refine lv_isub hx hb dX6_patience_76 ?_
    refine lv_topi (fun v_23 ev_23 => ?_)
    replace hf := nm_of ev_23 hf
    cases hf
    exact fn_iret hx hb hr hlocks hP hS dX6_patience_77
  · replace hf := fp_t c_19 hf
    refine lv_iconst (v := 0) hx hb dX6_patience_13 (by decide) ?_
    cases hf
    exact fn_iret hx hb hr hlocks hP hS dX6_patience_14

def f_X6_append (x1 : Int32) (th : Int32) (txt : (Nat → Int32)) (tl : Int32) : Option (Int32 × Int32 × (Nat → Int32) × Int32) :=
  bd (f_X6_in x1.toInt64 (0 : Int64) (127 : Int64)) (fun r_1 =>
  if (100 : Int32) ≤ tl then
  (bd2 (f_X6_goes r_1 (0 : Int32) (1 : Int32) th) (fun r_4 th_5 =>
  if r_4 = (0 : Int32) then
  (some ((0 : Int32), th_5, txt, tl))
  else
  (ix tl 100 (
  nm (upd txt tl.toNatClampNeg x1) (fun txt_9 =>
  nm (tl + (1 : Int32)) (fun v_10 =>
  some (v_10, th_5, txt_9, v_10)))))))
  else
  (bd2 (f_X6_goes r_1 (1 : Int32) (1 : Int32) th) (fun r_11 th_12 =>
  if r_11 = (0 : Int32) then
  (some ((0 : Int32), th_12, txt, tl))
  else
  (ix tl 100 (
  nm (upd txt tl.toNatClampNeg x1) (fun txt_16 =>
  nm (tl + (1 : Int32)) (fun v_17 =>
  some (v_17, th_12, txt_16, v_17))))))))
set_option maxHeartbeats 4000000 in
set_option maxRecDepth 100000 in
theorem c_X6_append (l : Launch) (X : cx_G) (mo : (Nat → Nat)) (al : (Nat → Int32)) (sv : (Nat → Int32)) (sm : Int32) (asd : (Nat → Int32)) (th : Int32) (ho : (Nat → Int32)) (fr : (Nat → Int32)) (txt : (Nat → Int32)) (tl : Int32) (pos : Int32) (od : Int32) (nu : (Nat → Int32)) (su : Int64) (x1 : Int32) (r : Int32) (th' : Int32) (txt' : (Nat → Int32)) (tl' : Int32) (hf : f_X6_append x1 th txt tl = some (r, th', txt', tl')) : Fn l yX6_append wsX6_append ({ frames := 1, cells := 0, slots := 0, locals := 25 } : Room) X [.ref (mo 0), .int x1] (wMo X mo al sv sm asd th ho fr txt tl pos od nu su) (some (.int r)) (wMo X mo al sv sm asd th' ho fr txt' tl' pos od nu su) := by
  refine fn_intro (cc := cX6_append) (maxL := 2) (ret := (some .int)) (by decide) rfl rfl (Nat.le_of_ble_eq_true rfl) ?_
  intro p e s m args below meth c A ls hx hb hml hr hts hown hlocks hK hP hD0 hS hA hl
  have hown : s.vm.findClass RX6 = some m.cls := hown
  have hl : lv_has ls 2 [(0, .ref (mo 0)), (1, .int x1)] := hl
  have hiX6 : ∀ w ∈ u_ws RX6 TX6 13, w ∈ wsX6_append := by decide +kernel
  have k25 := hts (.fieldLink RX6 25 "LentRightsModel" "text" "[I") (by decide +kernel)
  have k195 := hts (.fieldLink RX6 195 "LentRightsModel" "textLong" "I") (by decide +kernel)
  unfold f_X6_append at hf
  refine lv_aload_n hx hb dX6_append_0 rfl (lv_at hl 0 rfl) ?_
  refine lv_iload_n hx hb dX6_append_1 rfl (lv_at hl 1 rfl) ?_
  refine lv_i2l (v := x1.toInt64) hx hb dX6_append_2 rfl ?_
  refine lv_lconst (v := 0) hx hb dX6_append_3 (by decide) ?_
  refine lv_ldc2 hx hb hown (hts (.constantLong RX6 193 (127)) (by decide +kernel)) dX6_append_4 ?_
  obtain ⟨r_1, hc_2, hf⟩ := bd_of hf
  refine fn_Sx (v := some (.int r_1)) (As := [.long x1.toInt64, .long (0 : Int64), .long (127 : Int64)]) (rest := [.ref (mo 0)]) (st1 := [.int r_1, .ref (mo 0)]) (ws' := (wMo X mo al sv sm asd th ho fr txt tl pos od nu su)) (nL := 2) ⟨hx, hb, hml, hown, hts⟩ (c_X6_in l X x1.toInt64 (0 : Int64) (127 : Int64) r_1 hc_2) (va_cwS 3 hts gX6_append_X6_in rfl rfl rfl (by decide +kernel) ⟨Nat.le_of_ble_eq_true rfl, Nat.le_of_ble_eq_true rfl⟩) rfl hl.1 rfl (Nat.le_of_ble_eq_true rfl) dX6_append_7 hK hP (hD0.addr rfl) hS hA [] rfl rfl rfl rfl ⟨Nat.zero_le _, Nat.zero_le _⟩ (fun H locs hP hD hS => ?_)
  refine lv_aload_n hx hb dX6_append_10 rfl (lv_at hl 0 rfl) ?_
  refine va_get (D := X.1) (ci := 6) (v := .int tl) (C := RX6) (T := TX6) (N := 13) hx hb hts hiX6 hown hK.1 hP 0 rfl rfl 8 (by decide) k195 (fun _ h9 => h9) rfl dX6_append_11 ?_
  refine lv_bipush (v := 100) hx hb dX6_append_14 (by decide) ?_
  refine lv_icmp_ge (tgt := 23) hx hb dX6_append_16 (by decide) (fun c_3 => ?_) (fun c_3 => ?_)
  · replace hf := fp_t c_3 hf
    refine lv_iconst (v := 0) hx hb dX6_append_23 (by decide) ?_
    refine lv_iconst (v := 1) hx hb dX6_append_24 (by decide) ?_
    obtain ⟨r_4, th_5, hc_6, hf⟩ := bd2_of hf
    refine fn_V (v := some (.int r_4)) (As := [.int r_1, .int (0 : Int32), .int (1 : Int32)]) (rest := []) (st1 := [.int r_4]) (ws' := (wMo X mo al sv sm asd th_5 ho fr txt tl pos od nu su)) (nL := 2) ⟨hx, hb, hml, hown, hts⟩ (c_X6_goes l X mo al sv sm asd th ho fr txt tl pos od nu su r_1 (0 : Int32) (1 : Int32) r_4 th_5 hc_6) (cwV 3 hts gX6_append_X6_goes rfl rfl rfl (by decide +kernel) ⟨Nat.le_of_ble_eq_true rfl, Nat.le_of_ble_eq_true rfl⟩) 6 rfl rfl rfl rfl hl.1 rfl (Nat.le_of_ble_eq_true rfl) dX6_append_25 hK hP (hD0.addr rfl) hS hA [0, 1, 2, 3, 4, 5, 6, 7] rfl rfl rfl rfl ⟨Nat.zero_le _, Nat.zero_le _⟩ (fun H locs hP hD hS => ?_)
    refine lv_if_ne (tgt := 33) hx hb dX6_append_28 (by decide) (fun c_7 => ?_) (fun c_7 => ?_)
    · replace hf := fp_f c_7 hf
      refine lv_aload_n hx hb dX6_append_33 rfl (lv_at hl 0 rfl) ?_
      refine va_get (D := X.1) (ci := 6) (v := .ref (mo 6)) (C := RX6) (T := TX6) (N := 13) hx hb hts hiX6 hown hK.1 hP 0 rfl rfl 7 (by decide) k25 (fun _ h9 => h9) rfl dX6_append_34 ?_
      refine lv_aload_n hx hb dX6_append_37 rfl (lv_at hl 0 rfl) ?_
      refine va_get (D := X.1) (ci := 6) (v := .int tl) (C := RX6) (T := TX6) (N := 13) hx hb hts hiX6 hown hK.1 hP 0 rfl rfl 8 (by decide) k195 (fun _ h9 => h9) rfl dX6_append_38 ?_
      refine lv_iload_n hx hb dX6_append_41 rfl (lv_at hl 1 rfl) ?_
      obtain ⟨hi_8, hf⟩ := ix_of hf
      refine va_iast hx hb hK.1 hP (hD0.addr rfl) hS 6 0 rfl rfl hi_8 dX6_append_42 (fun H locs hP hD hS => ?_)
      obtain ⟨txt_9, etxt_9⟩ : ∃ g : Nat → Int32, g = upd txt tl.toNatClampNeg x1 := ⟨_, rfl⟩
      replace hf := nm_of etxt_9 hf
      have hP : va_P X.1 vwCl (wMo X mo al sv sm asd th_5 ho fr txt_9 tl pos od nu su) H := by rw [etxt_9]; exact hP
      refine lv_aload_n hx hb dX6_append_43 rfl (lv_at hl 0 rfl) ?_
      refine lv_dup hx hb dX6_append_44 rfl ?_
      refine va_get (D := X.1) (ci := 6) (v := .int tl) (C := RX6) (T := TX6) (N := 13) hx hb hts hiX6 hown hK.1 hP 0 rfl rfl 8 (by decide) k195 (fun _ h9 => h9) rfl dX6_append_45 ?_
      refine lv_iconst (v := 1) hx hb dX6_append_48 (by decide) ?_
      refine lv_iadd hx hb dX6_append_49 ?_
      refine lv_topi (fun v_10 ev_10 => ?_)
      replace hf := nm_of ev_10 hf
      refine va_put (D := X.1) (ci := 6) (v := .int v_10) (ty := .int) (C := RX6) (T := TX6) (N := 13) hx hb hts hiX6 tyX6 tyX6_ok nmX6 hown hK.1 hP (hD0.addr rfl) hS 0 rfl rfl 8 (by decide) k195 (fun _ h9 => h9) rfl (by decide +kernel) rfl rfl (Nat.le_of_ble_eq_true rfl) dX6_append_50 (fun H locs hP hD hS => ?_)
      have hP : va_P X.1 vwCl (wMo X mo al sv sm asd th_5 ho fr txt_9 v_10 pos od nu su) H := hP
      refine lv_aload_n hx hb dX6_append_53 rfl (lv_at hl 0 rfl) ?_
      refine va_get (D := X.1) (ci := 6) (v := .int v_10) (C := RX6) (T := TX6) (N := 13) hx hb hts hiX6 hown hK.1 hP 0 rfl rfl 8 (by decide) k195 (fun _ h9 => h9) rfl dX6_append_54 ?_
      cases hf
      exact fn_iret hx hb hr hlocks hP hS dX6_append_57
    · replace hf := fp_t c_7 hf
      refine lv_iconst (v := 0) hx hb dX6_append_31 (by decide) ?_
      cases hf
      exact fn_iret hx hb hr hlocks hP hS dX6_append_32
  · replace hf := fp_f c_3 hf
    refine lv_iconst (v := 1) hx hb dX6_append_19 (by decide) ?_
    refine lv_goto (tgt := 24) hx hb dX6_append_20 (by decide) ?_
    refine lv_iconst (v := 1) hx hb dX6_append_24 (by decide) ?_
    obtain ⟨r_11, th_12, hc_13, hf⟩ := bd2_of hf
    refine fn_V (v := some (.int r_11)) (As := [.int r_1, .int (1 : Int32), .int (1 : Int32)]) (rest := []) (st1 := [.int r_11]) (ws' := (wMo X mo al sv sm asd th_12 ho fr txt tl pos od nu su)) (nL := 2) ⟨hx, hb, hml, hown, hts⟩ (c_X6_goes l X mo al sv sm asd th ho fr txt tl pos od nu su r_1 (1 : Int32) (1 : Int32) r_11 th_12 hc_13) (cwV 3 hts gX6_append_X6_goes rfl rfl rfl (by decide +kernel) ⟨Nat.le_of_ble_eq_true rfl, Nat.le_of_ble_eq_true rfl⟩) 6 rfl rfl rfl rfl hl.1 rfl (Nat.le_of_ble_eq_true rfl) dX6_append_25 hK hP (hD0.addr rfl) hS hA [0, 1, 2, 3, 4, 5, 6, 7] rfl rfl rfl rfl ⟨Nat.zero_le _, Nat.zero_le _⟩ (fun H locs hP hD hS => ?_)
    refine lv_if_ne (tgt := 33) hx hb dX6_append_28 (by decide) (fun c_14 => ?_) (fun c_14 => ?_)
    · replace hf := fp_f c_14 hf
      refine lv_aload_n hx hb dX6_append_33 rfl (lv_at hl 0 rfl) ?_
      refine va_get (D := X.1) (ci := 6) (v := .ref (mo 6)) (C := RX6) (T := TX6) (N := 13) hx hb hts hiX6 hown hK.1 hP 0 rfl rfl 7 (by decide) k25 (fun _ h9 => h9) rfl dX6_append_34 ?_
      refine lv_aload_n hx hb dX6_append_37 rfl (lv_at hl 0 rfl) ?_
      refine va_get (D := X.1) (ci := 6) (v := .int tl) (C := RX6) (T := TX6) (N := 13) hx hb hts hiX6 hown hK.1 hP 0 rfl rfl 8 (by decide) k195 (fun _ h9 => h9) rfl dX6_append_38 ?_
      refine lv_iload_n hx hb dX6_append_41 rfl (lv_at hl 1 rfl) ?_
      obtain ⟨hi_15, hf⟩ := ix_of hf
      refine va_iast hx hb hK.1 hP (hD0.addr rfl) hS 6 0 rfl rfl hi_15 dX6_append_42 (fun H locs hP hD hS => ?_)
      obtain ⟨txt_16, etxt_16⟩ : ∃ g : Nat → Int32, g = upd txt tl.toNatClampNeg x1 := ⟨_, rfl⟩
      replace hf := nm_of etxt_16 hf
      have hP : va_P X.1 vwCl (wMo X mo al sv sm asd th_12 ho fr txt_16 tl pos od nu su) H := by rw [etxt_16]; exact hP
      refine lv_aload_n hx hb dX6_append_43 rfl (lv_at hl 0 rfl) ?_
      refine lv_dup hx hb dX6_append_44 rfl ?_
      refine va_get (D := X.1) (ci := 6) (v := .int tl) (C := RX6) (T := TX6) (N := 13) hx hb hts hiX6 hown hK.1 hP 0 rfl rfl 8 (by decide) k195 (fun _ h9 => h9) rfl dX6_append_45 ?_
      refine lv_iconst (v := 1) hx hb dX6_append_48 (by decide) ?_
      refine lv_iadd hx hb dX6_append_49 ?_
      refine lv_topi (fun v_17 ev_17 => ?_)
      replace hf := nm_of ev_17 hf
      refine va_put (D := X.1) (ci := 6) (v := .int v_17) (ty := .int) (C := RX6) (T := TX6) (N := 13) hx hb hts hiX6 tyX6 tyX6_ok nmX6 hown hK.1 hP (hD0.addr rfl) hS 0 rfl rfl 8 (by decide) k195 (fun _ h9 => h9) rfl (by decide +kernel) rfl rfl (Nat.le_of_ble_eq_true rfl) dX6_append_50 (fun H locs hP hD hS => ?_)
      have hP : va_P X.1 vwCl (wMo X mo al sv sm asd th_12 ho fr txt_16 v_17 pos od nu su) H := hP
      refine lv_aload_n hx hb dX6_append_53 rfl (lv_at hl 0 rfl) ?_
      refine va_get (D := X.1) (ci := 6) (v := .int v_17) (C := RX6) (T := TX6) (N := 13) hx hb hts hiX6 hown hK.1 hP 0 rfl rfl 8 (by decide) k195 (fun _ h9 => h9) rfl dX6_append_54 ?_
      cases hf
      exact fn_iret hx hb hr hlocks hP hS dX6_append_57
    · replace hf := fp_t c_14 hf
      refine lv_iconst (v := 0) hx hb dX6_append_31 (by decide) ?_
      cases hf
      exact fn_iret hx hb hr hlocks hP hS dX6_append_32

def f_X6_clearText (th : Int32) (tl : Int32) : Option (Int32 × Int32 × Int32) :=
  some (tl, (0 : Int32), (0 : Int32))
set_option maxHeartbeats 4000000 in
set_option maxRecDepth 100000 in
theorem c_X6_clearText (l : Launch) (X : cx_G) (mo : (Nat → Nat)) (al : (Nat → Int32)) (sv : (Nat → Int32)) (sm : Int32) (asd : (Nat → Int32)) (th : Int32) (ho : (Nat → Int32)) (fr : (Nat → Int32)) (txt : (Nat → Int32)) (tl : Int32) (pos : Int32) (od : Int32) (nu : (Nat → Int32)) (su : Int64) (r : Int32) (th' : Int32) (tl' : Int32) (hf : f_X6_clearText th tl = some (r, th', tl')) : Fn l yX6_clearText wsX6_clearText ({ frames := 0, cells := 0, slots := 0, locals := 0 } : Room) X [.ref (mo 0)] (wMo X mo al sv sm asd th ho fr txt tl pos od nu su) (some (.int r)) (wMo X mo al sv sm asd th' ho fr txt tl' pos od nu su) := by
  refine fn_intro (cc := cX6_clearText) (maxL := 2) (ret := (some .int)) (by decide) rfl rfl (Nat.le_of_ble_eq_true rfl) ?_
  intro p e s m args below meth c A ls hx hb hml hr hts hown hlocks hK hP hD0 hS hA hl
  have hown : s.vm.findClass RX6 = some m.cls := hown
  have hl : lv_has ls 2 [(0, .ref (mo 0))] := hl
  have hiX6 : ∀ w ∈ u_ws RX6 TX6 13, w ∈ wsX6_clearText := by decide +kernel
  have k31 := hts (.fieldLink RX6 31 "LentRightsModel" "thrown" "I") (by decide +kernel)
  have k195 := hts (.fieldLink RX6 195 "LentRightsModel" "textLong" "I") (by decide +kernel)
  unfold f_X6_clearText at hf
  refine lv_aload_n hx hb dX6_clearText_0 rfl (lv_at hl 0 rfl) ?_
  refine lv_iconst (v := 0) hx hb dX6_clearText_1 (by decide) ?_
  refine va_put (D := X.1) (ci := 6) (v := .int (0 : Int32)) (ty := .int) (C := RX6) (T := TX6) (N := 13) hx hb hts hiX6 tyX6 tyX6_ok nmX6 hown hK.1 hP (hD0.addr rfl) hS 0 rfl rfl 4 (by decide) k31 (fun _ h9 => h9) rfl (by decide +kernel) rfl rfl (Nat.le_of_ble_eq_true rfl) dX6_clearText_2 (fun H locs hP hD hS => ?_)
  have hP : va_P X.1 vwCl (wMo X mo al sv sm asd (0 : Int32) ho fr txt tl pos od nu su) H := hP
  refine lv_aload_n hx hb dX6_clearText_5 rfl (lv_at hl 0 rfl) ?_
  refine va_get (D := X.1) (ci := 6) (v := .int tl) (C := RX6) (T := TX6) (N := 13) hx hb hts hiX6 hown hK.1 hP 0 rfl rfl 8 (by decide) k195 (fun _ h9 => h9) rfl dX6_clearText_6 ?_
  refine lv_istore_n (lv' := [(1, .int tl), (0, .ref (mo 0))]) hx hb dX6_clearText_9 rfl hl (by decide) rfl (fun ls hl => ?_)
  refine lv_aload_n hx hb dX6_clearText_10 rfl (lv_at hl 1 rfl) ?_
  refine lv_iconst (v := 0) hx hb dX6_clearText_11 (by decide) ?_
  refine va_put (D := X.1) (ci := 6) (v := .int (0 : Int32)) (ty := .int) (C := RX6) (T := TX6) (N := 13) hx hb hts hiX6 tyX6 tyX6_ok nmX6 hown hK.1 hP (hD0.addr rfl) hS 0 rfl rfl 8 (by decide) k195 (fun _ h9 => h9) rfl (by decide +kernel) rfl rfl (Nat.le_of_ble_eq_true rfl) dX6_clearText_12 (fun H locs hP hD hS => ?_)
  have hP : va_P X.1 vwCl (wMo X mo al sv sm asd (0 : Int32) ho fr txt (0 : Int32) pos od nu su) H := hP
  refine lv_iload_n hx hb dX6_clearText_15 rfl (lv_at hl 0 rfl) ?_
  cases hf
  exact fn_iret hx hb hr hlocks hP hS dX6_clearText_16

def f_X6_here (txt : (Nat → Int32)) (tl : Int32) (pos : Int32) : Option (Int32) :=
  if tl ≤ pos then
  (some (-1 : Int32))
  else
  (ix pos 100 (
  nm (txt pos.toNatClampNeg) (fun v_3 =>
  some v_3)))
set_option maxHeartbeats 4000000 in
set_option maxRecDepth 100000 in
theorem c_X6_here (l : Launch) (X : cx_G) (mo : (Nat → Nat)) (al : (Nat → Int32)) (sv : (Nat → Int32)) (sm : Int32) (asd : (Nat → Int32)) (th : Int32) (ho : (Nat → Int32)) (fr : (Nat → Int32)) (txt : (Nat → Int32)) (tl : Int32) (pos : Int32) (od : Int32) (nu : (Nat → Int32)) (su : Int64) (r : Int32) (hf : f_X6_here txt tl pos = some r) : Fn l yX6_here wsX6_here ({ frames := 0, cells := 0, slots := 0, locals := 0 } : Room) X [.ref (mo 0)] (wMo X mo al sv sm asd th ho fr txt tl pos od nu su) (some (.int r)) (wMo X mo al sv sm asd th ho fr txt tl pos od nu su) := by
  refine fn_intro (cc := cX6_here) (maxL := 1) (ret := (some .int)) (by decide) rfl rfl (Nat.le_of_ble_eq_true rfl) ?_
  intro p e s m args below meth c A ls hx hb hml hr hts hown hlocks hK hP hD0 hS hA hl
  have hown : s.vm.findClass RX6 = some m.cls := hown
  have hl : lv_has ls 1 [(0, .ref (mo 0))] := hl
  have hiX6 : ∀ w ∈ u_ws RX6 TX6 13, w ∈ wsX6_here := by decide +kernel
  have k25 := hts (.fieldLink RX6 25 "LentRightsModel" "text" "[I") (by decide +kernel)
  have k195 := hts (.fieldLink RX6 195 "LentRightsModel" "textLong" "I") (by decide +kernel)
  have k198 := hts (.fieldLink RX6 198 "LentRightsModel" "at" "I") (by decide +kernel)
  unfold f_X6_here at hf
  refine lv_aload_n hx hb dX6_here_0 rfl (lv_at hl 0 rfl) ?_
  refine va_get (D := X.1) (ci := 6) (v := .int pos) (C := RX6) (T := TX6) (N := 13) hx hb hts hiX6 hown hK.1 hP 0 rfl rfl 9 (by decide) k198 (fun _ h9 => h9) rfl dX6_here_1 ?_
  refine lv_aload_n hx hb dX6_here_4 rfl (lv_at hl 0 rfl) ?_
  refine va_get (D := X.1) (ci := 6) (v := .int tl) (C := RX6) (T := TX6) (N := 13) hx hb hts hiX6 hown hK.1 hP 0 rfl rfl 8 (by decide) k195 (fun _ h9 => h9) rfl dX6_here_5 ?_
  refine lv_icmp_ge (tgt := 23) hx hb dX6_here_8 (by decide) (fun c_1 => ?_) (fun c_1 => ?_)
  · replace hf := fp_t c_1 hf
    refine lv_iconst (v := -1) hx hb dX6_here_23 (by decide) ?_
    cases hf
    exact fn_iret hx hb hr hlocks hP hS dX6_here_24
  · replace hf := fp_f c_1 hf
    refine lv_aload_n hx hb dX6_here_11 rfl (lv_at hl 0 rfl) ?_
    refine va_get (D := X.1) (ci := 6) (v := .ref (mo 6)) (C := RX6) (T := TX6) (N := 13) hx hb hts hiX6 hown hK.1 hP 0 rfl rfl 7 (by decide) k25 (fun _ h9 => h9) rfl dX6_here_12 ?_
    refine lv_aload_n hx hb dX6_here_15 rfl (lv_at hl 0 rfl) ?_
    refine va_get (D := X.1) (ci := 6) (v := .int pos) (C := RX6) (T := TX6) (N := 13) hx hb hts hiX6 hown hK.1 hP 0 rfl rfl 9 (by decide) k198 (fun _ h9 => h9) rfl dX6_here_16 ?_
    obtain ⟨hi_2, hf⟩ := ix_of hf
    refine va_iald hx hb hK.1 hP 6 0 rfl rfl hi_2 dX6_here_19 ?_
    refine lv_goto (tgt := 24) hx hb dX6_here_20 (by decide) ?_
    refine lv_topi (fun v_3 ev_3 => ?_)
    replace hf := nm_of ev_3 hf
    cases hf
    exact fn_iret hx hb hr hlocks hP hS dX6_here_24

def f_X6_takesByte (x1 : Int32) (txt : (Nat → Int32)) (tl : Int32) (pos : Int32) : Option (Int32 × Int32) :=
  bd (f_X6_here txt tl pos) (fun r_1 =>
  if r_1 = x1 then
  (nm (pos + (1 : Int32)) (fun v_7 =>
  some ((1 : Int32), v_7)))
  else
  (nm (pos + (0 : Int32)) (fun v_5 =>
  some ((0 : Int32), v_5))))
theorem z_X6_takesByte {x1 : Int32} {txt : (Nat → Int32)} {tl : Int32} {pos : Int32} {r : Int32} {pos' : Int32} (hf : f_X6_takesByte x1 txt tl pos = some (r, pos')) : r = 0 ∨ r = 1 := by
  unfold f_X6_takesByte at hf
  obtain ⟨r_1, hc_2, hf⟩ := bd_of hf
  by_cases c_3 : r_1 = x1
  · replace hf := fp_t c_3 hf
    replace hf := nm_of rfl hf
    cases hf
    exact Or.inr rfl
  · replace hf := fp_f c_3 hf
    replace hf := nm_of rfl hf
    cases hf
    exact Or.inl rfl
set_option maxHeartbeats 4000000 in
set_option maxRecDepth 100000 in
theorem c_X6_takesByte (l : Launch) (X : cx_G) (mo : (Nat → Nat)) (al : (Nat → Int32)) (sv : (Nat → Int32)) (sm : Int32) (asd : (Nat → Int32)) (th : Int32) (ho : (Nat → Int32)) (fr : (Nat → Int32)) (txt : (Nat → Int32)) (tl : Int32) (pos : Int32) (od : Int32) (nu : (Nat → Int32)) (su : Int64) (x1 : Int32) (r : Int32) (pos' : Int32) (hf : f_X6_takesByte x1 txt tl pos = some (r, pos')) : Fn l yX6_takesByte wsX6_takesByte ({ frames := 1, cells := 0, slots := 0, locals := 20 } : Room) X [.ref (mo 0), .int x1] (wMo X mo al sv sm asd th ho fr txt tl pos od nu su) (some (.int r)) (wMo X mo al sv sm asd th ho fr txt tl pos' od nu su) := by
  refine fn_intro (cc := cX6_takesByte) (maxL := 3) (ret := (some .boolean)) (by decide) rfl rfl (Nat.le_of_ble_eq_true rfl) ?_
  intro p e s m args below meth c A ls hx hb hml hr hts hown hlocks hK hP hD0 hS hA hl
  have hown : s.vm.findClass RX6 = some m.cls := hown
  have hl : lv_has ls 3 [(0, .ref (mo 0)), (1, .int x1)] := hl
  have hiX6 : ∀ w ∈ u_ws RX6 TX6 13, w ∈ wsX6_takesByte := by decide +kernel
  have k198 := hts (.fieldLink RX6 198 "LentRightsModel" "at" "I") (by decide +kernel)
  unfold f_X6_takesByte at hf
  refine lv_aload_n hx hb dX6_takesByte_0 rfl (lv_at hl 0 rfl) ?_
  obtain ⟨r_1, hc_2, hf⟩ := bd_of hf
  refine fn_V (v := some (.int r_1)) (As := []) (rest := []) (st1 := [.int r_1]) (ws' := (wMo X mo al sv sm asd th ho fr txt tl pos od nu su)) (nL := 3) ⟨hx, hb, hml, hown, hts⟩ (c_X6_here l X mo al sv sm asd th ho fr txt tl pos od nu su r_1 hc_2) (cwV 0 hts gX6_takesByte_X6_here rfl rfl rfl (by decide +kernel) ⟨Nat.le_of_ble_eq_true rfl, Nat.le_of_ble_eq_true rfl⟩) 6 rfl rfl rfl rfl hl.1 rfl (Nat.le_of_ble_eq_true rfl) dX6_takesByte_1 hK hP (hD0.addr rfl) hS hA [0, 1, 2, 3, 4, 5, 6, 7] rfl rfl rfl rfl ⟨Nat.zero_le _, Nat.zero_le _⟩ (fun H locs hP hD hS => ?_)
  refine lv_iload_n hx hb dX6_takesByte_4 rfl (lv_at hl 1 rfl) ?_
  refine lv_icmp_ne (tgt := 12) hx hb dX6_takesByte_5 (by decide) (fun c_3 => ?_) (fun c_3 => ?_)
  · replace hf := fp_f c_3 hf
    refine lv_iconst (v := 0) hx hb dX6_takesByte_12 (by decide) ?_
    refine lv_istore_n (lv' := [(2, .int (0 : Int32)), (0, .ref (mo 0)), (1, .int x1)]) hx hb dX6_takesByte_13 rfl hl (by decide) rfl (fun ls hl => ?_)
    refine lv_aload_n hx hb dX6_takesByte_14 rfl (lv_at hl 1 rfl) ?_
    refine lv_dup hx hb dX6_takesByte_15 rfl ?_
    refine va_get (D := X.1) (ci := 6) (v := .int pos) (C := RX6) (T := TX6) (N := 13) hx hb hts hiX6 hown hK.1 hP 0 rfl rfl 9 (by decide) k198 (fun _ h9 => h9) rfl dX6_takesByte_16 ?_
    refine lv_iload_n hx hb dX6_takesByte_19 rfl (lv_at hl 0 rfl) ?_
    refine lv_if_eq (tgt := 27) hx hb dX6_takesByte_20 (by decide) (fun _ => ?_) (fun c9 => absurd c9 (by decide))
    refine lv_iconst (v := 0) hx hb dX6_takesByte_27 (by decide) ?_
    refine lv_iadd hx hb dX6_takesByte_28 ?_
    refine lv_topi (fun v_5 ev_5 => ?_)
    replace hf := nm_of ev_5 hf
    refine va_put (D := X.1) (ci := 6) (v := .int v_5) (ty := .int) (C := RX6) (T := TX6) (N := 13) hx hb hts hiX6 tyX6 tyX6_ok nmX6 hown hK.1 hP (hD0.addr rfl) hS 0 rfl rfl 9 (by decide) k198 (fun _ h9 => h9) rfl (by decide +kernel) rfl rfl (Nat.le_of_ble_eq_true rfl) dX6_takesByte_29 (fun H locs hP hD hS => ?_)
    have hP : va_P X.1 vwCl (wMo X mo al sv sm asd th ho fr txt tl v_5 od nu su) H := hP
    refine lv_iload_n hx hb dX6_takesByte_32 rfl (lv_at hl 0 rfl) ?_
    cases hf
    exact fn_zret hx hb hr rfl hlocks hP hS dX6_takesByte_33
  · replace hf := fp_t c_3 hf
    refine lv_iconst (v := 1) hx hb dX6_takesByte_8 (by decide) ?_
    refine lv_goto (tgt := 13) hx hb dX6_takesByte_9 (by decide) ?_
    refine lv_istore_n (lv' := [(2, .int (1 : Int32)), (0, .ref (mo 0)), (1, .int x1)]) hx hb dX6_takesByte_13 rfl hl (by decide) rfl (fun ls hl => ?_)
    refine lv_aload_n hx hb dX6_takesByte_14 rfl (lv_at hl 1 rfl) ?_
    refine lv_dup hx hb dX6_takesByte_15 rfl ?_
    refine va_get (D := X.1) (ci := 6) (v := .int pos) (C := RX6) (T := TX6) (N := 13) hx hb hts hiX6 hown hK.1 hP 0 rfl rfl 9 (by decide) k198 (fun _ h9 => h9) rfl dX6_takesByte_16 ?_
    refine lv_iload_n hx hb dX6_takesByte_19 rfl (lv_at hl 0 rfl) ?_
    refine lv_if_eq (tgt := 27) hx hb dX6_takesByte_20 (by decide) (fun c9 => absurd c9 (by decide)) (fun _ => ?_)
    refine lv_iconst (v := 1) hx hb dX6_takesByte_23 (by decide) ?_
    refine lv_goto (tgt := 28) hx hb dX6_takesByte_24 (by decide) ?_
    refine lv_iadd hx hb dX6_takesByte_28 ?_
    refine lv_topi (fun v_7 ev_7 => ?_)
    replace hf := nm_of ev_7 hf
    refine va_put (D := X.1) (ci := 6) (v := .int v_7) (ty := .int) (C := RX6) (T := TX6) (N := 13) hx hb hts hiX6 tyX6 tyX6_ok nmX6 hown hK.1 hP (hD0.addr rfl) hS 0 rfl rfl 9 (by decide) k198 (fun _ h9 => h9) rfl (by decide +kernel) rfl rfl (Nat.le_of_ble_eq_true rfl) dX6_takesByte_29 (fun H locs hP hD hS => ?_)
    have hP : va_P X.1 vwCl (wMo X mo al sv sm asd th ho fr txt tl v_7 od nu su) H := hP
    refine lv_iload_n hx hb dX6_takesByte_32 rfl (lv_at hl 0 rfl) ?_
    cases hf
    exact fn_zret hx hb hr rfl hlocks hP hS dX6_takesByte_33

def f_X6_takesDigit (x1 : Int32) (x2 : Int32) (x3 : Int32) (txt : (Nat → Int32)) (tl : Int32) (pos : Int32) (nu : (Nat → Int32)) : Option (Int32 × Int32 × (Nat → Int32)) :=
  bd (f_X6_here txt tl pos) (fun r_1 =>
  bd (f_X6_in r_1.toInt64 (((48 : Int32) + x2).toInt64) (((48 : Int32) + x3).toInt64)) (fun r_3 =>
  if r_3 = (0 : Int32) then
  (some ((0 : Int32), pos, nu))
  else
  (bd (f_X6_here txt tl pos) (fun r_6 =>
  nm (r_6 - (48 : Int32)) (fun v_8 =>
  ix x1 5 (
  nm (upd nu x1.toNatClampNeg v_8) (fun nu_10 =>
  nm (pos + (1 : Int32)) (fun v_11 =>
  some ((1 : Int32), v_11, nu_10)))))))))
theorem z_X6_takesDigit {x1 : Int32} {x2 : Int32} {x3 : Int32} {txt : (Nat → Int32)} {tl : Int32} {pos : Int32} {nu : (Nat → Int32)} {r : Int32} {pos' : Int32} {nu' : (Nat → Int32)} (hf : f_X6_takesDigit x1 x2 x3 txt tl pos nu = some (r, pos', nu')) : r = 0 ∨ r = 1 := by
  unfold f_X6_takesDigit at hf
  obtain ⟨r_1, hc_2, hf⟩ := bd_of hf
  obtain ⟨r_3, hc_4, hf⟩ := bd_of hf
  by_cases c_5 : r_3 = (0 : Int32)
  · replace hf := fp_t c_5 hf
    cases hf
    exact Or.inl rfl
  · replace hf := fp_f c_5 hf
    obtain ⟨r_6, hc_7, hf⟩ := bd_of hf
    replace hf := nm_of rfl hf
    obtain ⟨hi_9, hf⟩ := ix_of hf
    replace hf := nm_of rfl hf
    replace hf := nm_of rfl hf
    cases hf
    exact Or.inr rfl
set_option maxHeartbeats 4000000 in
set_option maxRecDepth 100000 in
theorem c_X6_takesDigit (l : Launch) (X : cx_G) (mo : (Nat → Nat)) (al : (Nat → Int32)) (sv : (Nat → Int32)) (sm : Int32) (asd : (Nat → Int32)) (th : Int32) (ho : (Nat → Int32)) (fr : (Nat → Int32)) (txt : (Nat → Int32)) (tl : Int32) (pos : Int32) (od : Int32) (nu : (Nat → Int32)) (su : Int64) (x1 : Int32) (x2 : Int32) (x3 : Int32) (r : Int32) (pos' : Int32) (nu' : (Nat → Int32)) (hf : f_X6_takesDigit x1 x2 x3 txt tl pos nu = some (r, pos', nu')) : Fn l yX6_takesDigit wsX6_takesDigit ({ frames := 1, cells := 0, slots := 0, locals := 25 } : Room) X [.ref (mo 0), .int x1, .int x2, .int x3] (wMo X mo al sv sm asd th ho fr txt tl pos od nu su) (some (.int r)) (wMo X mo al sv sm asd th ho fr txt tl pos' od nu' su) := by
  refine fn_intro (cc := cX6_takesDigit) (maxL := 4) (ret := (some .boolean)) (by decide) rfl rfl (Nat.le_of_ble_eq_true rfl) ?_
  intro p e s m args below meth c A ls hx hb hml hr hts hown hlocks hK hP hD0 hS hA hl
  have hown : s.vm.findClass RX6 = some m.cls := hown
  have hl : lv_has ls 4 [(0, .ref (mo 0)), (1, .int x1), (2, .int x2), (3, .int x3)] := hl
  have hiX6 : ∀ w ∈ u_ws RX6 TX6 13, w ∈ wsX6_takesDigit := by decide +kernel
  have k28 := hts (.fieldLink RX6 28 "LentRightsModel" "numbers" "[I") (by decide +kernel)
  have k198 := hts (.fieldLink RX6 198 "LentRightsModel" "at" "I") (by decide +kernel)
  unfold f_X6_takesDigit at hf
  refine lv_aload_n hx hb dX6_takesDigit_0 rfl (lv_at hl 0 rfl) ?_
  obtain ⟨r_1, hc_2, hf⟩ := bd_of hf
  refine fn_V (v := some (.int r_1)) (As := []) (rest := []) (st1 := [.int r_1]) (ws' := (wMo X mo al sv sm asd th ho fr txt tl pos od nu su)) (nL := 4) ⟨hx, hb, hml, hown, hts⟩ (c_X6_here l X mo al sv sm asd th ho fr txt tl pos od nu su r_1 hc_2) (cwV 0 hts gX6_takesDigit_X6_here rfl rfl rfl (by decide +kernel) ⟨Nat.le_of_ble_eq_true rfl, Nat.le_of_ble_eq_true rfl⟩) 6 rfl rfl rfl rfl hl.1 rfl (Nat.le_of_ble_eq_true rfl) dX6_takesDigit_1 hK hP (hD0.addr rfl) hS hA [0, 1, 2, 3, 4, 5, 6, 7] rfl rfl rfl rfl ⟨Nat.zero_le _, Nat.zero_le _⟩ (fun H locs hP hD hS => ?_)
  refine lv_i2l (v := r_1.toInt64) hx hb dX6_takesDigit_4 rfl ?_
  refine lv_bipush (v := 48) hx hb dX6_takesDigit_5 (by decide) ?_
  refine lv_iload_n hx hb dX6_takesDigit_7 rfl (lv_at hl 2 rfl) ?_
  refine lv_iadd hx hb dX6_takesDigit_8 ?_
  refine lv_i2l (v := ((48 : Int32) + x2).toInt64) hx hb dX6_takesDigit_9 rfl ?_
  refine lv_bipush (v := 48) hx hb dX6_takesDigit_10 (by decide) ?_
  refine lv_iload_n hx hb dX6_takesDigit_12 rfl (lv_at hl 3 rfl) ?_
  refine lv_iadd hx hb dX6_takesDigit_13 ?_
  refine lv_i2l (v := ((48 : Int32) + x3).toInt64) hx hb dX6_takesDigit_14 rfl ?_
  obtain ⟨r_3, hc_4, hf⟩ := bd_of hf
  refine fn_Sx (v := some (.int r_3)) (As := [.long r_1.toInt64, .long (((48 : Int32) + x2).toInt64), .long (((48 : Int32) + x3).toInt64)]) (rest := []) (st1 := [.int r_3]) (ws' := (wMo X mo al sv sm asd th ho fr txt tl pos od nu su)) (nL := 4) ⟨hx, hb, hml, hown, hts⟩ (c_X6_in l X r_1.toInt64 (((48 : Int32) + x2).toInt64) (((48 : Int32) + x3).toInt64) r_3 hc_4) (va_cwS 3 hts gX6_takesDigit_X6_in rfl rfl rfl (by decide +kernel) ⟨Nat.le_of_ble_eq_true rfl, Nat.le_of_ble_eq_true rfl⟩) rfl hl.1 rfl (Nat.le_of_ble_eq_true rfl) dX6_takesDigit_15 hK hP (hD0.addr rfl) hS hA [] rfl rfl rfl rfl ⟨Nat.zero_le _, Nat.zero_le _⟩ (fun H locs hP hD hS => ?_)
  refine lv_if_ne (tgt := 23) hx hb dX6_takesDigit_18 (by decide) (fun c_5 => ?_) (fun c_5 => ?_)
  · replace hf := fp_f c_5 hf
    refine lv_aload_n hx hb dX6_takesDigit_23 rfl (lv_at hl 0 rfl) ?_
    refine va_get (D := X.1) (ci := 6) (v := .ref (mo 7)) (C := RX6) (T := TX6) (N := 13) hx hb hts hiX6 hown hK.1 hP 0 rfl rfl 11 (by decide) k28 (fun _ h9 => h9) rfl dX6_takesDigit_24 ?_
    refine lv_iload_n hx hb dX6_takesDigit_27 rfl (lv_at hl 1 rfl) ?_
    refine lv_aload_n hx hb dX6_takesDigit_28 rfl (lv_at hl 0 rfl) ?_
    obtain ⟨r_6, hc_7, hf⟩ := bd_of hf
    refine fn_V (v := some (.int r_6)) (As := []) (rest := [.int x1, .ref (mo 7)]) (st1 := [.int r_6, .int x1, .ref (mo 7)]) (ws' := (wMo X mo al sv sm asd th ho fr txt tl pos od nu su)) (nL := 4) ⟨hx, hb, hml, hown, hts⟩ (c_X6_here l X mo al sv sm asd th ho fr txt tl pos od nu su r_6 hc_7) (cwV 0 hts gX6_takesDigit_X6_here rfl rfl rfl (by decide +kernel) ⟨Nat.le_of_ble_eq_true rfl, Nat.le_of_ble_eq_true rfl⟩) 6 rfl rfl rfl rfl hl.1 rfl (Nat.le_of_ble_eq_true rfl) dX6_takesDigit_29 hK hP (hD0.addr rfl) hS hA [0, 1, 2, 3, 4, 5, 6, 7] rfl rfl rfl rfl ⟨Nat.zero_le _, Nat.zero_le _⟩ (fun H locs hP hD hS => ?_)
    refine lv_bipush (v := 48) hx hb dX6_takesDigit_32 (by decide) ?_
    refine lv_isub hx hb dX6_takesDigit_34 ?_
    refine lv_topi (fun v_8 ev_8 => ?_)
    replace hf := nm_of ev_8 hf
    obtain ⟨hi_9, hf⟩ := ix_of hf
    refine va_iast hx hb hK.1 hP (hD0.addr rfl) hS 7 0 rfl rfl hi_9 dX6_takesDigit_35 (fun H locs hP hD hS => ?_)
    obtain ⟨nu_10, enu_10⟩ : ∃ g : Nat → Int32, g = upd nu x1.toNatClampNeg v_8 := ⟨_, rfl⟩
    replace hf := nm_of enu_10 hf
    have hP : va_P X.1 vwCl (wMo X mo al sv sm asd th ho fr txt tl pos od nu_10 su) H := by rw [enu_10]; exact hP
    refine lv_aload_n hx hb dX6_takesDigit_36 rfl (lv_at hl 0 rfl) ?_
    refine lv_dup hx hb dX6_takesDigit_37 rfl ?_
    refine va_get (D := X.1) (ci := 6) (v := .int pos) (C := RX6) (T := TX6) (N := 13) hx hb hts hiX6 hown hK.1 hP 0 rfl rfl 9 (by decide) k198 (fun _ h9 => h9) rfl dX6_takesDigit_38 ?_
    refine lv_iconst (v := 1) hx hb dX6_takesDigit_41 (by decide) ?_
    refine lv_iadd hx hb dX6_takesDigit_42 ?_
    refine lv_topi (fun v_11 ev_11 => ?_)
    replace hf := nm_of ev_11 hf
    refine va_put (D := X.1) (ci := 6) (v := .int v_11) (ty := .int) (C := RX6) (T := TX6) (N := 13) hx hb hts hiX6 tyX6 tyX6_ok nmX6 hown hK.1 hP (hD0.addr rfl) hS 0 rfl rfl 9 (by decide) k198 (fun _ h9 => h9) rfl (by decide +kernel) rfl rfl (Nat.le_of_ble_eq_true rfl) dX6_takesDigit_43 (fun H locs hP hD hS => ?_)
    have hP : va_P X.1 vwCl (wMo X mo al sv sm asd th ho fr txt tl v_11 od nu_10 su) H := hP
    refine lv_iconst (v := 1) hx hb dX6_takesDigit_46 (by decide) ?_
    cases hf
    exact fn_zret hx hb hr rfl hlocks hP hS dX6_takesDigit_47
  · replace hf := fp_t c_5 hf
    refine lv_iconst (v := 0) hx hb dX6_takesDigit_21 (by decide) ?_
    cases hf
    exact fn_zret hx hb hr rfl hlocks hP hS dX6_takesDigit_22

def f_X6_takesNumber_L9 (x2 : Int32) (x5 : Int32) (txt : (Nat → Int32)) (tl : Int32) : Nat → Int32 → Int32 →  Option (Int32 × Int32)
  | 0, _, _ => none
  | k_ + 1, x6, pos =>
    bd (f_X6_here txt tl pos) (fun r_1 =>
    bd (f_X6_in r_1.toInt64 (48 : Int64) (57 : Int64)) (fun r_3 =>
    if r_3 = (0 : Int32) then
    (some (x6, pos))
    else
    (if x5 + x2 ≤ pos then
    (some (x6, pos))
    else
    (bd (f_X6_here txt tl pos) (fun r_7 =>
    nm ((((10 : Int32) * x6) + r_7) - (48 : Int32)) (fun v_9 =>
    nm (pos + (1 : Int32)) (fun v_10 =>
    f_X6_takesNumber_L9 x2 x5 txt tl k_ v_9 v_10)))))))
def f_X6_takesNumber (x1 : Int32) (x2 : Int32) (x3 : Int32) (x4 : Int32) (txt : (Nat → Int32)) (tl : Int32) (pos : Int32) (nu : (Nat → Int32)) : Option (Int32 × Int32 × (Nat → Int32)) :=
  bd2 (f_X6_takesNumber_L9 x2 pos txt tl FU (0 : Int32) pos) (fun y6_11 pos_12 =>
  if pos_12 = pos then
  (some ((0 : Int32), pos_12, nu))
  else
  (bd (f_X6_here txt tl pos_12) (fun r_15 =>
  bd (f_X6_in r_15.toInt64 (48 : Int64) (57 : Int64)) (fun r_17 =>
  if r_17 = (0 : Int32) then
  (ix x1 5 (
  nm (upd nu x1.toNatClampNeg y6_11) (fun nu_21 =>
  bd (f_X6_in y6_11.toInt64 x3.toInt64 x4.toInt64) (fun r_22 =>
  if r_22 = (0 : Int32) then
  (if pos ≤ pos then
  (some ((0 : Int32), pos, nu_21))
  else
  (some ((1 : Int32), pos, nu_21)))
  else
  (if pos_12 ≤ pos then
  (some ((0 : Int32), pos_12, nu_21))
  else
  (some ((1 : Int32), pos_12, nu_21)))))))
  else
  (some ((0 : Int32), pos_12, nu))))))
theorem z_X6_takesNumber {x1 : Int32} {x2 : Int32} {x3 : Int32} {x4 : Int32} {txt : (Nat → Int32)} {tl : Int32} {pos : Int32} {nu : (Nat → Int32)} {r : Int32} {pos' : Int32} {nu' : (Nat → Int32)} (hf : f_X6_takesNumber x1 x2 x3 x4 txt tl pos nu = some (r, pos', nu')) : r = 0 ∨ r = 1 := by
  unfold f_X6_takesNumber at hf
  obtain ⟨y6_11, pos_12, hL_13, hf⟩ := bd2_of hf
  by_cases c_14 : pos_12 = pos
  · replace hf := fp_t c_14 hf
    cases hf
    exact Or.inl rfl
  · replace hf := fp_f c_14 hf
    obtain ⟨r_15, hc_16, hf⟩ := bd_of hf
    obtain ⟨r_17, hc_18, hf⟩ := bd_of hf
    by_cases c_19 : r_17 = (0 : Int32)
    · replace hf := fp_t c_19 hf
      obtain ⟨hi_20, hf⟩ := ix_of hf
      replace hf := nm_of rfl hf
      obtain ⟨r_22, hc_23, hf⟩ := bd_of hf
      by_cases c_24 : r_22 = (0 : Int32)
      · replace hf := fp_t c_24 hf
        by_cases c_25 : pos ≤ pos
        · replace hf := fp_t c_25 hf
          cases hf
          exact Or.inl rfl
        · replace hf := fp_f c_25 hf
          cases hf
          exact Or.inr rfl
      · replace hf := fp_f c_24 hf
        by_cases c_26 : pos_12 ≤ pos
        · replace hf := fp_t c_26 hf
          cases hf
          exact Or.inl rfl
        · replace hf := fp_f c_26 hf
          cases hf
          exact Or.inr rfl
    · replace hf := fp_f c_19 hf
      cases hf
      exact Or.inl rfl
set_option maxHeartbeats 4000000 in
set_option maxRecDepth 100000 in
theorem c_X6_takesNumber (l : Launch) (X : cx_G) (mo : (Nat → Nat)) (al : (Nat → Int32)) (sv : (Nat → Int32)) (sm : Int32) (asd : (Nat → Int32)) (th : Int32) (ho : (Nat → Int32)) (fr : (Nat → Int32)) (txt : (Nat → Int32)) (tl : Int32) (pos : Int32) (od : Int32) (nu : (Nat → Int32)) (su : Int64) (x1 : Int32) (x2 : Int32) (x3 : Int32) (x4 : Int32) (r : Int32) (pos' : Int32) (nu' : (Nat → Int32)) (hf : f_X6_takesNumber x1 x2 x3 x4 txt tl pos nu = some (r, pos', nu')) : Fn l yX6_takesNumber wsX6_takesNumber ({ frames := 1, cells := 0, slots := 0, locals := 25 } : Room) X [.ref (mo 0), .int x1, .int x2, .int x3, .int x4] (wMo X mo al sv sm asd th ho fr txt tl pos od nu su) (some (.int r)) (wMo X mo al sv sm asd th ho fr txt tl pos' od nu' su) := by
  refine fn_intro (cc := cX6_takesNumber) (maxL := 7) (ret := (some .boolean)) (by decide) rfl rfl (Nat.le_of_ble_eq_true rfl) ?_
  intro p e s m args below meth c A ls hx hb hml hr hts hown hlocks hK hP hD0 hS hA hl
  have hown : s.vm.findClass RX6 = some m.cls := hown
  have hl : lv_has ls 7 [(0, .ref (mo 0)), (1, .int x1), (2, .int x2), (3, .int x3), (4, .int x4)] := hl
  have hiX6 : ∀ w ∈ u_ws RX6 TX6 13, w ∈ wsX6_takesNumber := by decide +kernel
  have k28 := hts (.fieldLink RX6 28 "LentRightsModel" "numbers" "[I") (by decide +kernel)
  have k198 := hts (.fieldLink RX6 198 "LentRightsModel" "at" "I") (by decide +kernel)
  have loop_9 : ∀ (Q : State → Prop) (x5 : Int32) (nu : (Nat → Int32)) (y6 : Int32) (poso : Int32), (∀ (H : Heap) (locs : List Loc) (ls : Array Slot), va_P X.1 vwCl (wMo X mo al sv sm asd th ho fr txt tl poso od nu su) H → va_S A s.heap H locs → lv_has ls 7 [(0, .ref (mo 0)), (1, .int x1), (3, .int x3), (4, .int x4), (5, .int x5), (6, .int y6)] → W p l e ({ frames := 1, cells := 0, slots := 0, locals := 25 } : Room) s m args below meth c H locs 0 0 Q (F0 m 65 ls [])) → ∀ (k_ : Nat) (x6 : Int32) (pos : Int32) (H : Heap) (locs : List Loc) (ls : Array Slot), f_X6_takesNumber_L9 x2 x5 txt tl k_ x6 pos = some (y6, poso) → va_P X.1 vwCl (wMo X mo al sv sm asd th ho fr txt tl pos od nu su) H → va_S A s.heap H locs → lv_has ls 7 [(0, .ref (mo 0)), (1, .int x1), (2, .int x2), (3, .int x3), (4, .int x4), (5, .int x5), (6, .int x6)] → W p l e ({ frames := 1, cells := 0, slots := 0, locals := 25 } : Room) s m args below meth c H locs 0 0 Q (F0 m 9 ls []) := by
    intro Q x5 nu y6 poso kx k_
    induction k_ with
    | zero => intro x6 pos H locs ls hf; exact nomatch (show (none : Option (Int32 × Int32)) = some _ from hf)
    | succ k_ ih =>
      intro x6 pos H locs ls hf hP hS hl
      unfold f_X6_takesNumber_L9 at hf
      refine lv_aload_n hx hb dX6_takesNumber_9 rfl (lv_at hl 0 rfl) ?_
      obtain ⟨r_1, hc_2, hf⟩ := bd_of hf
      refine fn_V (v := some (.int r_1)) (As := []) (rest := []) (st1 := [.int r_1]) (ws' := (wMo X mo al sv sm asd th ho fr txt tl pos od nu su)) (nL := 7) ⟨hx, hb, hml, hown, hts⟩ (c_X6_here l X mo al sv sm asd th ho fr txt tl pos od nu su r_1 hc_2) (cwV 0 hts gX6_takesNumber_X6_here rfl rfl rfl (by decide +kernel) ⟨Nat.le_of_ble_eq_true rfl, Nat.le_of_ble_eq_true rfl⟩) 6 rfl rfl rfl rfl hl.1 rfl (Nat.le_of_ble_eq_true rfl) dX6_takesNumber_10 hK hP (hD0.addr rfl) hS hA [0, 1, 2, 3, 4, 5, 6, 7] rfl rfl rfl rfl ⟨Nat.zero_le _, Nat.zero_le _⟩ (fun H locs hP hD hS => ?_)
      refine lv_i2l (v := r_1.toInt64) hx hb dX6_takesNumber_13 rfl ?_
      refine lv_ldc2 hx hb hown (hts (.constantLong RX6 204 (48)) (by decide +kernel)) dX6_takesNumber_14 ?_
      refine lv_ldc2 hx hb hown (hts (.constantLong RX6 206 (57)) (by decide +kernel)) dX6_takesNumber_17 ?_
      obtain ⟨r_3, hc_4, hf⟩ := bd_of hf
      refine fn_Sx (v := some (.int r_3)) (As := [.long r_1.toInt64, .long (48 : Int64), .long (57 : Int64)]) (rest := []) (st1 := [.int r_3]) (ws' := (wMo X mo al sv sm asd th ho fr txt tl pos od nu su)) (nL := 7) ⟨hx, hb, hml, hown, hts⟩ (c_X6_in l X r_1.toInt64 (48 : Int64) (57 : Int64) r_3 hc_4) (va_cwS 3 hts gX6_takesNumber_X6_in rfl rfl rfl (by decide +kernel) ⟨Nat.le_of_ble_eq_true rfl, Nat.le_of_ble_eq_true rfl⟩) rfl hl.1 rfl (Nat.le_of_ble_eq_true rfl) dX6_takesNumber_20 hK hP (hD0.addr rfl) hS hA [] rfl rfl rfl rfl ⟨Nat.zero_le _, Nat.zero_le _⟩ (fun H locs hP hD hS => ?_)
      refine lv_if_eq (tgt := 65) hx hb dX6_takesNumber_23 (by decide) (fun c_5 => ?_) (fun c_5 => ?_)
      · replace hf := fp_t c_5 hf
        cases hf
        exact kx _ _ _ hP hS (lv_sub hl [0, 1, 3, 4, 5, 6] rfl)
      · replace hf := fp_f c_5 hf
        refine lv_aload_n hx hb dX6_takesNumber_26 rfl (lv_at hl 0 rfl) ?_
        refine va_get (D := X.1) (ci := 6) (v := .int pos) (C := RX6) (T := TX6) (N := 13) hx hb hts hiX6 hown hK.1 hP 0 rfl rfl 9 (by decide) k198 (fun _ h9 => h9) rfl dX6_takesNumber_27 ?_
        refine lv_iload hx hb dX6_takesNumber_30 (lv_at hl 5 rfl) ?_
        refine lv_iload_n hx hb dX6_takesNumber_32 rfl (lv_at hl 2 rfl) ?_
        refine lv_iadd hx hb dX6_takesNumber_33 ?_
        refine lv_icmp_ge (tgt := 65) hx hb dX6_takesNumber_34 (by decide) (fun c_6 => ?_) (fun c_6 => ?_)
        · replace hf := fp_t c_6 hf
          cases hf
          exact kx _ _ _ hP hS (lv_sub hl [0, 1, 3, 4, 5, 6] rfl)
        · replace hf := fp_f c_6 hf
          refine lv_bipush (v := 10) hx hb dX6_takesNumber_37 (by decide) ?_
          refine lv_iload hx hb dX6_takesNumber_39 (lv_at hl 6 rfl) ?_
          refine lv_imul hx hb dX6_takesNumber_41 ?_
          refine lv_aload_n hx hb dX6_takesNumber_42 rfl (lv_at hl 0 rfl) ?_
          obtain ⟨r_7, hc_8, hf⟩ := bd_of hf
          refine fn_V (v := some (.int r_7)) (As := []) (rest := [.int ((10 : Int32) * x6)]) (st1 := [.int r_7, .int ((10 : Int32) * x6)]) (ws' := (wMo X mo al sv sm asd th ho fr txt tl pos od nu su)) (nL := 7) ⟨hx, hb, hml, hown, hts⟩ (c_X6_here l X mo al sv sm asd th ho fr txt tl pos od nu su r_7 hc_8) (cwV 0 hts gX6_takesNumber_X6_here rfl rfl rfl (by decide +kernel) ⟨Nat.le_of_ble_eq_true rfl, Nat.le_of_ble_eq_true rfl⟩) 6 rfl rfl rfl rfl hl.1 rfl (Nat.le_of_ble_eq_true rfl) dX6_takesNumber_43 hK hP (hD0.addr rfl) hS hA [0, 1, 2, 3, 4, 5, 6, 7] rfl rfl rfl rfl ⟨Nat.zero_le _, Nat.zero_le _⟩ (fun H locs hP hD hS => ?_)
          refine lv_iadd hx hb dX6_takesNumber_46 ?_
          refine lv_bipush (v := 48) hx hb dX6_takesNumber_47 (by decide) ?_
          refine lv_isub hx hb dX6_takesNumber_49 ?_
          refine lv_topi (fun v_9 ev_9 => ?_)
          replace hf := nm_of ev_9 hf
          refine lv_istore (lv' := [(6, .int v_9), (0, .ref (mo 0)), (1, .int x1), (2, .int x2), (3, .int x3), (4, .int x4), (5, .int x5)]) hx hb dX6_takesNumber_50 hl (by decide) rfl (fun ls hl => ?_)
          refine lv_aload_n hx hb dX6_takesNumber_52 rfl (lv_at hl 1 rfl) ?_
          refine lv_dup hx hb dX6_takesNumber_53 rfl ?_
          refine va_get (D := X.1) (ci := 6) (v := .int pos) (C := RX6) (T := TX6) (N := 13) hx hb hts hiX6 hown hK.1 hP 0 rfl rfl 9 (by decide) k198 (fun _ h9 => h9) rfl dX6_takesNumber_54 ?_
          refine lv_iconst (v := 1) hx hb dX6_takesNumber_57 (by decide) ?_
          refine lv_iadd hx hb dX6_takesNumber_58 ?_
          refine lv_topi (fun v_10 ev_10 => ?_)
          replace hf := nm_of ev_10 hf
          refine va_put (D := X.1) (ci := 6) (v := .int v_10) (ty := .int) (C := RX6) (T := TX6) (N := 13) hx hb hts hiX6 tyX6 tyX6_ok nmX6 hown hK.1 hP (hD0.addr rfl) hS 0 rfl rfl 9 (by decide) k198 (fun _ h9 => h9) rfl (by decide +kernel) rfl rfl (Nat.le_of_ble_eq_true rfl) dX6_takesNumber_59 (fun H locs hP hD hS => ?_)
          have hP : va_P X.1 vwCl (wMo X mo al sv sm asd th ho fr txt tl v_10 od nu su) H := hP
          refine lv_goto (tgt := 9) hx hb dX6_takesNumber_62 (by decide) ?_
          exact ih v_9 v_10 _ _ _ hf hP hS (lv_sub hl [1, 2, 3, 4, 5, 6, 0] rfl)
  unfold f_X6_takesNumber at hf
  refine lv_aload_n hx hb dX6_takesNumber_0 rfl (lv_at hl 0 rfl) ?_
  refine va_get (D := X.1) (ci := 6) (v := .int pos) (C := RX6) (T := TX6) (N := 13) hx hb hts hiX6 hown hK.1 hP 0 rfl rfl 9 (by decide) k198 (fun _ h9 => h9) rfl dX6_takesNumber_1 ?_
  refine lv_istore (lv' := [(5, .int pos), (0, .ref (mo 0)), (1, .int x1), (2, .int x2), (3, .int x3), (4, .int x4)]) hx hb dX6_takesNumber_4 hl (by decide) rfl (fun ls hl => ?_)
  refine lv_iconst (v := 0) hx hb dX6_takesNumber_6 (by decide) ?_
  refine lv_istore (lv' := [(6, .int (0 : Int32)), (5, .int pos), (0, .ref (mo 0)), (1, .int x1), (2, .int x2), (3, .int x3), (4, .int x4)]) hx hb dX6_takesNumber_7 hl (by decide) rfl (fun ls hl => ?_)
  obtain ⟨y6_11, pos_12, hL_13, hf⟩ := bd2_of hf
  refine loop_9 _ pos nu y6_11 pos_12 (fun H locs ls hP hS hl => ?_) FU (0 : Int32) pos _ _ _ hL_13 hP hS (lv_sub hl [2, 3, 4, 5, 6, 1, 0] rfl)
  refine lv_aload_n hx hb dX6_takesNumber_65 rfl (lv_at hl 0 rfl) ?_
  refine va_get (D := X.1) (ci := 6) (v := .int pos_12) (C := RX6) (T := TX6) (N := 13) hx hb hts hiX6 hown hK.1 hP 0 rfl rfl 9 (by decide) k198 (fun _ h9 => h9) rfl dX6_takesNumber_66 ?_
  refine lv_iload hx hb dX6_takesNumber_69 (lv_at hl 4 rfl) ?_
  refine lv_icmp_eq (tgt := 91) hx hb dX6_takesNumber_71 (by decide) (fun c_14 => ?_) (fun c_14 => ?_)
  · replace hf := fp_t c_14 hf
    refine lv_iconst (v := 0) hx hb dX6_takesNumber_91 (by decide) ?_
    cases hf
    exact fn_zret hx hb hr rfl hlocks hP hS dX6_takesNumber_92
  · replace hf := fp_f c_14 hf
    refine lv_aload_n hx hb dX6_takesNumber_74 rfl (lv_at hl 0 rfl) ?_
    obtain ⟨r_15, hc_16, hf⟩ := bd_of hf
    refine fn_V (v := some (.int r_15)) (As := []) (rest := []) (st1 := [.int r_15]) (ws' := (wMo X mo al sv sm asd th ho fr txt tl pos_12 od nu su)) (nL := 7) ⟨hx, hb, hml, hown, hts⟩ (c_X6_here l X mo al sv sm asd th ho fr txt tl pos_12 od nu su r_15 hc_16) (cwV 0 hts gX6_takesNumber_X6_here rfl rfl rfl (by decide +kernel) ⟨Nat.le_of_ble_eq_true rfl, Nat.le_of_ble_eq_true rfl⟩) 6 rfl rfl rfl rfl hl.1 rfl (Nat.le_of_ble_eq_true rfl) dX6_takesNumber_75 hK hP (hD0.addr rfl) hS hA [0, 1, 2, 3, 4, 5, 6, 7] rfl rfl rfl rfl ⟨Nat.zero_le _, Nat.zero_le _⟩ (fun H locs hP hD hS => ?_)
    refine lv_i2l (v := r_15.toInt64) hx hb dX6_takesNumber_78 rfl ?_
    refine lv_ldc2 hx hb hown (hts (.constantLong RX6 204 (48)) (by decide +kernel)) dX6_takesNumber_79 ?_
    refine lv_ldc2 hx hb hown (hts (.constantLong RX6 206 (57)) (by decide +kernel)) dX6_takesNumber_82 ?_
    obtain ⟨r_17, hc_18, hf⟩ := bd_of hf
    refine fn_Sx (v := some (.int r_17)) (As := [.long r_15.toInt64, .long (48 : Int64), .long (57 : Int64)]) (rest := []) (st1 := [.int r_17]) (ws' := (wMo X mo al sv sm asd th ho fr txt tl pos_12 od nu su)) (nL := 7) ⟨hx, hb, hml, hown, hts⟩ (c_X6_in l X r_15.toInt64 (48 : Int64) (57 : Int64) r_17 hc_18) (va_cwS 3 hts gX6_takesNumber_X6_in rfl rfl rfl (by decide +kernel) ⟨Nat.le_of_ble_eq_true rfl, Nat.le_of_ble_eq_true rfl⟩) rfl hl.1 rfl (Nat.le_of_ble_eq_true rfl) dX6_takesNumber_85 hK hP (hD0.addr rfl) hS hA [] rfl rfl rfl rfl ⟨Nat.zero_le _, Nat.zero_le _⟩ (fun H locs hP hD hS => ?_)
    refine lv_if_eq (tgt := 93) hx hb dX6_takesNumber_88 (by decide) (fun c_19 => ?_) (fun c_19 => ?_)
    · replace hf := fp_t c_19 hf
      refine lv_aload_n hx hb dX6_takesNumber_93 rfl (lv_at hl 0 rfl) ?_
      refine va_get (D := X.1) (ci := 6) (v := .ref (mo 7)) (C := RX6) (T := TX6) (N := 13) hx hb hts hiX6 hown hK.1 hP 0 rfl rfl 11 (by decide) k28 (fun _ h9 => h9) rfl dX6_takesNumber_94 ?_
      refine lv_iload_n hx hb dX6_takesNumber_97 rfl (lv_at hl 1 rfl) ?_
      refine lv_iload hx hb dX6_takesNumber_98 (lv_at hl 5 rfl) ?_
      obtain ⟨hi_20, hf⟩ := ix_of hf
      refine va_iast hx hb hK.1 hP (hD0.addr rfl) hS 7 0 rfl rfl hi_20 dX6_takesNumber_100 (fun H locs hP hD hS => ?_)
      obtain ⟨nu_21, enu_21⟩ : ∃ g : Nat → Int32, g = upd nu x1.toNatClampNeg y6_11 := ⟨_, rfl⟩
      replace hf := nm_of enu_21 hf
      have hP : va_P X.1 vwCl (wMo X mo al sv sm asd th ho fr txt tl pos_12 od nu_21 su) H := by rw [enu_21]; exact hP
      refine lv_aload_n hx hb dX6_takesNumber_101 rfl (lv_at hl 0 rfl) ?_
      refine lv_iload hx hb dX6_takesNumber_102 (lv_at hl 5 rfl) ?_
      refine lv_i2l (v := y6_11.toInt64) hx hb dX6_takesNumber_104 rfl ?_
      refine lv_iload_n hx hb dX6_takesNumber_105 rfl (lv_at hl 2 rfl) ?_
      refine lv_i2l (v := x3.toInt64) hx hb dX6_takesNumber_106 rfl ?_
      refine lv_iload hx hb dX6_takesNumber_107 (lv_at hl 3 rfl) ?_
      refine lv_i2l (v := x4.toInt64) hx hb dX6_takesNumber_109 rfl ?_
      obtain ⟨r_22, hc_23, hf⟩ := bd_of hf
      refine fn_Sx (v := some (.int r_22)) (As := [.long y6_11.toInt64, .long x3.toInt64, .long x4.toInt64]) (rest := [.ref (mo 0)]) (st1 := [.int r_22, .ref (mo 0)]) (ws' := (wMo X mo al sv sm asd th ho fr txt tl pos_12 od nu_21 su)) (nL := 7) ⟨hx, hb, hml, hown, hts⟩ (c_X6_in l X y6_11.toInt64 x3.toInt64 x4.toInt64 r_22 hc_23) (va_cwS 3 hts gX6_takesNumber_X6_in rfl rfl rfl (by decide +kernel) ⟨Nat.le_of_ble_eq_true rfl, Nat.le_of_ble_eq_true rfl⟩) rfl hl.1 rfl (Nat.le_of_ble_eq_true rfl) dX6_takesNumber_110 hK hP (hD0.addr rfl) hS hA [] rfl rfl rfl rfl ⟨Nat.zero_le _, Nat.zero_le _⟩ (fun H locs hP hD hS => ?_)
      refine lv_if_eq (tgt := 123) hx hb dX6_takesNumber_113 (by decide) (fun c_24 => ?_) (fun c_24 => ?_)
      · replace hf := fp_t c_24 hf
        refine lv_iload hx hb dX6_takesNumber_123 (lv_at hl 4 rfl) ?_
        refine va_put (D := X.1) (ci := 6) (v := .int pos) (ty := .int) (C := RX6) (T := TX6) (N := 13) hx hb hts hiX6 tyX6 tyX6_ok nmX6 hown hK.1 hP (hD0.addr rfl) hS 0 rfl rfl 9 (by decide) k198 (fun _ h9 => h9) rfl (by decide +kernel) rfl rfl (Nat.le_of_ble_eq_true rfl) dX6_takesNumber_125 (fun H locs hP hD hS => ?_)
        have hP : va_P X.1 vwCl (wMo X mo al sv sm asd th ho fr txt tl pos od nu_21 su) H := hP
        refine lv_aload_n hx hb dX6_takesNumber_128 rfl (lv_at hl 0 rfl) ?_
        refine va_get (D := X.1) (ci := 6) (v := .int pos) (C := RX6) (T := TX6) (N := 13) hx hb hts hiX6 hown hK.1 hP 0 rfl rfl 9 (by decide) k198 (fun _ h9 => h9) rfl dX6_takesNumber_129 ?_
        refine lv_iload hx hb dX6_takesNumber_132 (lv_at hl 4 rfl) ?_
        refine lv_icmp_le (tgt := 141) hx hb dX6_takesNumber_134 (by decide) (fun c_25 => ?_) (fun c_25 => ?_)
        · replace hf := fp_t c_25 hf
          refine lv_iconst (v := 0) hx hb dX6_takesNumber_141 (by decide) ?_
          cases hf
          exact fn_zret hx hb hr rfl hlocks hP hS dX6_takesNumber_142
        · replace hf := fp_f c_25 hf
          refine lv_iconst (v := 1) hx hb dX6_takesNumber_137 (by decide) ?_
          refine lv_goto (tgt := 142) hx hb dX6_takesNumber_138 (by decide) ?_
          cases hf
          exact fn_zret hx hb hr rfl hlocks hP hS dX6_takesNumber_142
      · replace hf := fp_f c_24 hf
        refine lv_aload_n hx hb dX6_takesNumber_116 rfl (lv_at hl 0 rfl) ?_
        refine va_get (D := X.1) (ci := 6) (v := .int pos_12) (C := RX6) (T := TX6) (N := 13) hx hb hts hiX6 hown hK.1 hP 0 rfl rfl 9 (by decide) k198 (fun _ h9 => h9) rfl dX6_takesNumber_117 ?_
        refine lv_goto (tgt := 125) hx hb dX6_takesNumber_120 (by decide) ?_
        refine va_put (D := X.1) (ci := 6) (v := .int pos_12) (ty := .int) (C := RX6) (T := TX6) (N := 13) hx hb hts hiX6 tyX6 tyX6_ok nmX6 hown hK.1 hP (hD0.addr rfl) hS 0 rfl rfl 9 (by decide) k198 (fun _ h9 => h9) rfl (by decide +kernel) rfl rfl (Nat.le_of_ble_eq_true rfl) dX6_takesNumber_125 (fun H locs hP hD hS => ?_)
        have hP : va_P X.1 vwCl (wMo X mo al sv sm asd th ho fr txt tl pos_12 od nu_21 su) H := hP
        refine lv_aload_n hx hb dX6_takesNumber_128 rfl (lv_at hl 0 rfl) ?_
        refine va_get (D := X.1) (ci := 6) (v := .int pos_12) (C := RX6) (T := TX6) (N := 13) hx hb hts hiX6 hown hK.1 hP 0 rfl rfl 9 (by decide) k198 (fun _ h9 => h9) rfl dX6_takesNumber_129 ?_
        refine lv_iload hx hb dX6_takesNumber_132 (lv_at hl 4 rfl) ?_
        refine lv_icmp_le (tgt := 141) hx hb dX6_takesNumber_134 (by decide) (fun c_26 => ?_) (fun c_26 => ?_)
        · replace hf := fp_t c_26 hf
          refine lv_iconst (v := 0) hx hb dX6_takesNumber_141 (by decide) ?_
          cases hf
          exact fn_zret hx hb hr rfl hlocks hP hS dX6_takesNumber_142
        · replace hf := fp_f c_26 hf
          refine lv_iconst (v := 1) hx hb dX6_takesNumber_137 (by decide) ?_
          refine lv_goto (tgt := 142) hx hb dX6_takesNumber_138 (by decide) ?_
          cases hf
          exact fn_zret hx hb hr rfl hlocks hP hS dX6_takesNumber_142
    · replace hf := fp_f c_19 hf
      refine lv_iconst (v := 0) hx hb dX6_takesNumber_91 (by decide) ?_
      cases hf
      exact fn_zret hx hb hr rfl hlocks hP hS dX6_takesNumber_92

def f_X6_takesSign (txt : (Nat → Int32)) (tl : Int32) (pos : Int32) (nu : (Nat → Int32)) : Option (Int32 × Int32 × (Nat → Int32)) :=
  bd (f_X6_here txt tl pos) (fun r_1 =>
  if r_1 = (45 : Int32) then
  (ix (2 : Int32) 5 (
  nm (upd nu (2 : Int32).toNatClampNeg (-1 : Int32)) (fun nu_19 =>
  bd (f_X6_here txt tl pos) (fun r_20 =>
  if r_20 = (43 : Int32) then
  (nm (pos + (1 : Int32)) (fun v_24 =>
  some ((1 : Int32), v_24, nu_19)))
  else
  (bd (f_X6_here txt tl pos) (fun r_25 =>
  if r_25 = (45 : Int32) then
  (nm (pos + (1 : Int32)) (fun v_31 =>
  some ((1 : Int32), v_31, nu_19)))
  else
  (nm (pos + (0 : Int32)) (fun v_29 =>
  some ((0 : Int32), v_29, nu_19)))))))))
  else
  (ix (2 : Int32) 5 (
  nm (upd nu (2 : Int32).toNatClampNeg (1 : Int32)) (fun nu_5 =>
  bd (f_X6_here txt tl pos) (fun r_6 =>
  if r_6 = (43 : Int32) then
  (nm (pos + (1 : Int32)) (fun v_10 =>
  some ((1 : Int32), v_10, nu_5)))
  else
  (bd (f_X6_here txt tl pos) (fun r_11 =>
  if r_11 = (45 : Int32) then
  (nm (pos + (1 : Int32)) (fun v_17 =>
  some ((1 : Int32), v_17, nu_5)))
  else
  (nm (pos + (0 : Int32)) (fun v_15 =>
  some ((0 : Int32), v_15, nu_5))))))))))
theorem z_X6_takesSign {txt : (Nat → Int32)} {tl : Int32} {pos : Int32} {nu : (Nat → Int32)} {r : Int32} {pos' : Int32} {nu' : (Nat → Int32)} (hf : f_X6_takesSign txt tl pos nu = some (r, pos', nu')) : r = 0 ∨ r = 1 := by
  unfold f_X6_takesSign at hf
  obtain ⟨r_1, hc_2, hf⟩ := bd_of hf
  by_cases c_3 : r_1 = (45 : Int32)
  · replace hf := fp_t c_3 hf
    obtain ⟨hi_18, hf⟩ := ix_of hf
    replace hf := nm_of rfl hf
    obtain ⟨r_20, hc_21, hf⟩ := bd_of hf
    by_cases c_22 : r_20 = (43 : Int32)
    · replace hf := fp_t c_22 hf
      replace hf := nm_of rfl hf
      cases hf
      exact Or.inr rfl
    · replace hf := fp_f c_22 hf
      obtain ⟨r_25, hc_26, hf⟩ := bd_of hf
      by_cases c_27 : r_25 = (45 : Int32)
      · replace hf := fp_t c_27 hf
        replace hf := nm_of rfl hf
        cases hf
        exact Or.inr rfl
      · replace hf := fp_f c_27 hf
        replace hf := nm_of rfl hf
        cases hf
        exact Or.inl rfl
  · replace hf := fp_f c_3 hf
    obtain ⟨hi_4, hf⟩ := ix_of hf
    replace hf := nm_of rfl hf
    obtain ⟨r_6, hc_7, hf⟩ := bd_of hf
    by_cases c_8 : r_6 = (43 : Int32)
    · replace hf := fp_t c_8 hf
      replace hf := nm_of rfl hf
      cases hf
      exact Or.inr rfl
    · replace hf := fp_f c_8 hf
      obtain ⟨r_11, hc_12, hf⟩ := bd_of hf
      by_cases c_13 : r_11 = (45 : Int32)
      · replace hf := fp_t c_13 hf
        replace hf := nm_of rfl hf
        cases hf
        exact Or.inr rfl
      · replace hf := fp_f c_13 hf
        replace hf := nm_of rfl hf
        cases hf
        exact Or.inl rfl
set_option maxHeartbeats 4000000 in
set_option maxRecDepth 100000 in
theorem c_X6_takesSign (l : Launch) (X : cx_G) (mo : (Nat → Nat)) (al : (Nat → Int32)) (sv : (Nat → Int32)) (sm : Int32) (asd : (Nat → Int32)) (th : Int32) (ho : (Nat → Int32)) (fr : (Nat → Int32)) (txt : (Nat → Int32)) (tl : Int32) (pos : Int32) (od : Int32) (nu : (Nat → Int32)) (su : Int64) (r : Int32) (pos' : Int32) (nu' : (Nat → Int32)) (hf : f_X6_takesSign txt tl pos nu = some (r, pos', nu')) : Fn l yX6_takesSign wsX6_takesSign ({ frames := 1, cells := 0, slots := 0, locals := 20 } : Room) X [.ref (mo 0)] (wMo X mo al sv sm asd th ho fr txt tl pos od nu su) (some (.int r)) (wMo X mo al sv sm asd th ho fr txt tl pos' od nu' su) := by
  refine fn_intro (cc := cX6_takesSign) (maxL := 2) (ret := (some .boolean)) (by decide) rfl rfl (Nat.le_of_ble_eq_true rfl) ?_
  intro p e s m args below meth c A ls hx hb hml hr hts hown hlocks hK hP hD0 hS hA hl
  have hown : s.vm.findClass RX6 = some m.cls := hown
  have hl : lv_has ls 2 [(0, .ref (mo 0))] := hl
  have hiX6 : ∀ w ∈ u_ws RX6 TX6 13, w ∈ wsX6_takesSign := by decide +kernel
  have k28 := hts (.fieldLink RX6 28 "LentRightsModel" "numbers" "[I") (by decide +kernel)
  have k198 := hts (.fieldLink RX6 198 "LentRightsModel" "at" "I") (by decide +kernel)
  unfold f_X6_takesSign at hf
  refine lv_aload_n hx hb dX6_takesSign_0 rfl (lv_at hl 0 rfl) ?_
  refine va_get (D := X.1) (ci := 6) (v := .ref (mo 7)) (C := RX6) (T := TX6) (N := 13) hx hb hts hiX6 hown hK.1 hP 0 rfl rfl 11 (by decide) k28 (fun _ h9 => h9) rfl dX6_takesSign_1 ?_
  refine lv_iconst (v := 2) hx hb dX6_takesSign_4 (by decide) ?_
  refine lv_aload_n hx hb dX6_takesSign_5 rfl (lv_at hl 0 rfl) ?_
  obtain ⟨r_1, hc_2, hf⟩ := bd_of hf
  refine fn_V (v := some (.int r_1)) (As := []) (rest := [.int (2 : Int32), .ref (mo 7)]) (st1 := [.int r_1, .int (2 : Int32), .ref (mo 7)]) (ws' := (wMo X mo al sv sm asd th ho fr txt tl pos od nu su)) (nL := 2) ⟨hx, hb, hml, hown, hts⟩ (c_X6_here l X mo al sv sm asd th ho fr txt tl pos od nu su r_1 hc_2) (cwV 0 hts gX6_takesSign_X6_here rfl rfl rfl (by decide +kernel) ⟨Nat.le_of_ble_eq_true rfl, Nat.le_of_ble_eq_true rfl⟩) 6 rfl rfl rfl rfl hl.1 rfl (Nat.le_of_ble_eq_true rfl) dX6_takesSign_6 hK hP (hD0.addr rfl) hS hA [0, 1, 2, 3, 4, 5, 6, 7] rfl rfl rfl rfl ⟨Nat.zero_le _, Nat.zero_le _⟩ (fun H locs hP hD hS => ?_)
  refine lv_bipush (v := 45) hx hb dX6_takesSign_9 (by decide) ?_
  refine lv_icmp_ne (tgt := 18) hx hb dX6_takesSign_11 (by decide) (fun c_3 => ?_) (fun c_3 => ?_)
  · replace hf := fp_f c_3 hf
    refine lv_iconst (v := 1) hx hb dX6_takesSign_18 (by decide) ?_
    obtain ⟨hi_4, hf⟩ := ix_of hf
    refine va_iast hx hb hK.1 hP (hD0.addr rfl) hS 7 0 rfl rfl hi_4 dX6_takesSign_19 (fun H locs hP hD hS => ?_)
    obtain ⟨nu_5, enu_5⟩ : ∃ g : Nat → Int32, g = upd nu (2 : Int32).toNatClampNeg (1 : Int32) := ⟨_, rfl⟩
    replace hf := nm_of enu_5 hf
    have hP : va_P X.1 vwCl (wMo X mo al sv sm asd th ho fr txt tl pos od nu_5 su) H := by rw [enu_5]; exact hP
    refine lv_aload_n hx hb dX6_takesSign_20 rfl (lv_at hl 0 rfl) ?_
    obtain ⟨r_6, hc_7, hf⟩ := bd_of hf
    refine fn_V (v := some (.int r_6)) (As := []) (rest := []) (st1 := [.int r_6]) (ws' := (wMo X mo al sv sm asd th ho fr txt tl pos od nu_5 su)) (nL := 2) ⟨hx, hb, hml, hown, hts⟩ (c_X6_here l X mo al sv sm asd th ho fr txt tl pos od nu_5 su r_6 hc_7) (cwV 0 hts gX6_takesSign_X6_here rfl rfl rfl (by decide +kernel) ⟨Nat.le_of_ble_eq_true rfl, Nat.le_of_ble_eq_true rfl⟩) 6 rfl rfl rfl rfl hl.1 rfl (Nat.le_of_ble_eq_true rfl) dX6_takesSign_21 hK hP (hD0.addr rfl) hS hA [0, 1, 2, 3, 4, 5, 6, 7] rfl rfl rfl rfl ⟨Nat.zero_le _, Nat.zero_le _⟩ (fun H locs hP hD hS => ?_)
    refine lv_bipush (v := 43) hx hb dX6_takesSign_24 (by decide) ?_
    refine lv_icmp_eq (tgt := 38) hx hb dX6_takesSign_26 (by decide) (fun c_8 => ?_) (fun c_8 => ?_)
    · replace hf := fp_t c_8 hf
      refine lv_iconst (v := 1) hx hb dX6_takesSign_38 (by decide) ?_
      refine lv_goto (tgt := 43) hx hb dX6_takesSign_39 (by decide) ?_
      refine lv_istore_n (lv' := [(1, .int (1 : Int32)), (0, .ref (mo 0))]) hx hb dX6_takesSign_43 rfl hl (by decide) rfl (fun ls hl => ?_)
      refine lv_aload_n hx hb dX6_takesSign_44 rfl (lv_at hl 1 rfl) ?_
      refine lv_dup hx hb dX6_takesSign_45 rfl ?_
      refine va_get (D := X.1) (ci := 6) (v := .int pos) (C := RX6) (T := TX6) (N := 13) hx hb hts hiX6 hown hK.1 hP 0 rfl rfl 9 (by decide) k198 (fun _ h9 => h9) rfl dX6_takesSign_46 ?_
      refine lv_iload_n hx hb dX6_takesSign_49 rfl (lv_at hl 0 rfl) ?_
      refine lv_if_eq (tgt := 57) hx hb dX6_takesSign_50 (by decide) (fun c9 => absurd c9 (by decide)) (fun _ => ?_)
      refine lv_iconst (v := 1) hx hb dX6_takesSign_53 (by decide) ?_
      refine lv_goto (tgt := 58) hx hb dX6_takesSign_54 (by decide) ?_
      refine lv_iadd hx hb dX6_takesSign_58 ?_
      refine lv_topi (fun v_10 ev_10 => ?_)
      replace hf := nm_of ev_10 hf
      refine va_put (D := X.1) (ci := 6) (v := .int v_10) (ty := .int) (C := RX6) (T := TX6) (N := 13) hx hb hts hiX6 tyX6 tyX6_ok nmX6 hown hK.1 hP (hD0.addr rfl) hS 0 rfl rfl 9 (by decide) k198 (fun _ h9 => h9) rfl (by decide +kernel) rfl rfl (Nat.le_of_ble_eq_true rfl) dX6_takesSign_59 (fun H locs hP hD hS => ?_)
      have hP : va_P X.1 vwCl (wMo X mo al sv sm asd th ho fr txt tl v_10 od nu_5 su) H := hP
      refine lv_iload_n hx hb dX6_takesSign_62 rfl (lv_at hl 0 rfl) ?_
      cases hf
      exact fn_zret hx hb hr rfl hlocks hP hS dX6_takesSign_63
    · replace hf := fp_f c_8 hf
      refine lv_aload_n hx hb dX6_takesSign_29 rfl (lv_at hl 0 rfl) ?_
      obtain ⟨r_11, hc_12, hf⟩ := bd_of hf
      refine fn_V (v := some (.int r_11)) (As := []) (rest := []) (st1 := [.int r_11]) (ws' := (wMo X mo al sv sm asd th ho fr txt tl pos od nu_5 su)) (nL := 2) ⟨hx, hb, hml, hown, hts⟩ (c_X6_here l X mo al sv sm asd th ho fr txt tl pos od nu_5 su r_11 hc_12) (cwV 0 hts gX6_takesSign_X6_here rfl rfl rfl (by decide +kernel) ⟨Nat.le_of_ble_eq_true rfl, Nat.le_of_ble_eq_true rfl⟩) 6 rfl rfl rfl rfl hl.1 rfl (Nat.le_of_ble_eq_true rfl) dX6_takesSign_30 hK hP (hD0.addr rfl) hS hA [0, 1, 2, 3, 4, 5, 6, 7] rfl rfl rfl rfl ⟨Nat.zero_le _, Nat.zero_le _⟩ (fun H locs hP hD hS => ?_)
      refine lv_bipush (v := 45) hx hb dX6_takesSign_33 (by decide) ?_
      refine lv_icmp_ne (tgt := 42) hx hb dX6_takesSign_35 (by decide) (fun c_13 => ?_) (fun c_13 => ?_)
      · replace hf := fp_f c_13 hf
        refine lv_iconst (v := 0) hx hb dX6_takesSign_42 (by decide) ?_
        refine lv_istore_n (lv' := [(1, .int (0 : Int32)), (0, .ref (mo 0))]) hx hb dX6_takesSign_43 rfl hl (by decide) rfl (fun ls hl => ?_)
        refine lv_aload_n hx hb dX6_takesSign_44 rfl (lv_at hl 1 rfl) ?_
        refine lv_dup hx hb dX6_takesSign_45 rfl ?_
        refine va_get (D := X.1) (ci := 6) (v := .int pos) (C := RX6) (T := TX6) (N := 13) hx hb hts hiX6 hown hK.1 hP 0 rfl rfl 9 (by decide) k198 (fun _ h9 => h9) rfl dX6_takesSign_46 ?_
        refine lv_iload_n hx hb dX6_takesSign_49 rfl (lv_at hl 0 rfl) ?_
        refine lv_if_eq (tgt := 57) hx hb dX6_takesSign_50 (by decide) (fun _ => ?_) (fun c9 => absurd c9 (by decide))
        refine lv_iconst (v := 0) hx hb dX6_takesSign_57 (by decide) ?_
        refine lv_iadd hx hb dX6_takesSign_58 ?_
        refine lv_topi (fun v_15 ev_15 => ?_)
        replace hf := nm_of ev_15 hf
        refine va_put (D := X.1) (ci := 6) (v := .int v_15) (ty := .int) (C := RX6) (T := TX6) (N := 13) hx hb hts hiX6 tyX6 tyX6_ok nmX6 hown hK.1 hP (hD0.addr rfl) hS 0 rfl rfl 9 (by decide) k198 (fun _ h9 => h9) rfl (by decide +kernel) rfl rfl (Nat.le_of_ble_eq_true rfl) dX6_takesSign_59 (fun H locs hP hD hS => ?_)
        have hP : va_P X.1 vwCl (wMo X mo al sv sm asd th ho fr txt tl v_15 od nu_5 su) H := hP
        refine lv_iload_n hx hb dX6_takesSign_62 rfl (lv_at hl 0 rfl) ?_
        cases hf
        exact fn_zret hx hb hr rfl hlocks hP hS dX6_takesSign_63
      · replace hf := fp_t c_13 hf
        refine lv_iconst (v := 1) hx hb dX6_takesSign_38 (by decide) ?_
        refine lv_goto (tgt := 43) hx hb dX6_takesSign_39 (by decide) ?_
        refine lv_istore_n (lv' := [(1, .int (1 : Int32)), (0, .ref (mo 0))]) hx hb dX6_takesSign_43 rfl hl (by decide) rfl (fun ls hl => ?_)
        refine lv_aload_n hx hb dX6_takesSign_44 rfl (lv_at hl 1 rfl) ?_
        refine lv_dup hx hb dX6_takesSign_45 rfl ?_
        refine va_get (D := X.1) (ci := 6) (v := .int pos) (C := RX6) (T := TX6) (N := 13) hx hb hts hiX6 hown hK.1 hP 0 rfl rfl 9 (by decide) k198 (fun _ h9 => h9) rfl dX6_takesSign_46 ?_
        refine lv_iload_n hx hb dX6_takesSign_49 rfl (lv_at hl 0 rfl) ?_
        refine lv_if_eq (tgt := 57) hx hb dX6_takesSign_50 (by decide) (fun c9 => absurd c9 (by decide)) (fun _ => ?_)
        refine lv_iconst (v := 1) hx hb dX6_takesSign_53 (by decide) ?_
        refine lv_goto (tgt := 58) hx hb dX6_takesSign_54 (by decide) ?_
        refine lv_iadd hx hb dX6_takesSign_58 ?_
        refine lv_topi (fun v_17 ev_17 => ?_)
        replace hf := nm_of ev_17 hf
        refine va_put (D := X.1) (ci := 6) (v := .int v_17) (ty := .int) (C := RX6) (T := TX6) (N := 13) hx hb hts hiX6 tyX6 tyX6_ok nmX6 hown hK.1 hP (hD0.addr rfl) hS 0 rfl rfl 9 (by decide) k198 (fun _ h9 => h9) rfl (by decide +kernel) rfl rfl (Nat.le_of_ble_eq_true rfl) dX6_takesSign_59 (fun H locs hP hD hS => ?_)
        have hP : va_P X.1 vwCl (wMo X mo al sv sm asd th ho fr txt tl v_17 od nu_5 su) H := hP
        refine lv_iload_n hx hb dX6_takesSign_62 rfl (lv_at hl 0 rfl) ?_
        cases hf
        exact fn_zret hx hb hr rfl hlocks hP hS dX6_takesSign_63
  · replace hf := fp_t c_3 hf
    refine lv_iconst (v := -1) hx hb dX6_takesSign_14 (by decide) ?_
    refine lv_goto (tgt := 19) hx hb dX6_takesSign_15 (by decide) ?_
    obtain ⟨hi_18, hf⟩ := ix_of hf
    refine va_iast hx hb hK.1 hP (hD0.addr rfl) hS 7 0 rfl rfl hi_18 dX6_takesSign_19 (fun H locs hP hD hS => ?_)
    obtain ⟨nu_19, enu_19⟩ : ∃ g : Nat → Int32, g = upd nu (2 : Int32).toNatClampNeg (-1 : Int32) := ⟨_, rfl⟩
    replace hf := nm_of enu_19 hf
    have hP : va_P X.1 vwCl (wMo X mo al sv sm asd th ho fr txt tl pos od nu_19 su) H := by rw [enu_19]; exact hP
    refine lv_aload_n hx hb dX6_takesSign_20 rfl (lv_at hl 0 rfl) ?_
    obtain ⟨r_20, hc_21, hf⟩ := bd_of hf
    refine fn_V (v := some (.int r_20)) (As := []) (rest := []) (st1 := [.int r_20]) (ws' := (wMo X mo al sv sm asd th ho fr txt tl pos od nu_19 su)) (nL := 2) ⟨hx, hb, hml, hown, hts⟩ (c_X6_here l X mo al sv sm asd th ho fr txt tl pos od nu_19 su r_20 hc_21) (cwV 0 hts gX6_takesSign_X6_here rfl rfl rfl (by decide +kernel) ⟨Nat.le_of_ble_eq_true rfl, Nat.le_of_ble_eq_true rfl⟩) 6 rfl rfl rfl rfl hl.1 rfl (Nat.le_of_ble_eq_true rfl) dX6_takesSign_21 hK hP (hD0.addr rfl) hS hA [0, 1, 2, 3, 4, 5, 6, 7] rfl rfl rfl rfl ⟨Nat.zero_le _, Nat.zero_le _⟩ (fun H locs hP hD hS => ?_)
    refine lv_bipush (v := 43) hx hb dX6_takesSign_24 (by decide) ?_
    refine lv_icmp_eq (tgt := 38) hx hb dX6_takesSign_26 (by decide) (fun c_22 => ?_) (fun c_22 => ?_)
    · replace hf := fp_t c_22 hf
      refine lv_iconst (v := 1) hx hb dX6_takesSign_38 (by decide) ?_
      refine lv_goto (tgt := 43) hx hb dX6_takesSign_39 (by decide) ?_
      refine lv_istore_n (lv' := [(1, .int (1 : Int32)), (0, .ref (mo 0))]) hx hb dX6_takesSign_43 rfl hl (by decide) rfl (fun ls hl => ?_)
      refine lv_aload_n hx hb dX6_takesSign_44 rfl (lv_at hl 1 rfl) ?_
      refine lv_dup hx hb dX6_takesSign_45 rfl ?_
      refine va_get (D := X.1) (ci := 6) (v := .int pos) (C := RX6) (T := TX6) (N := 13) hx hb hts hiX6 hown hK.1 hP 0 rfl rfl 9 (by decide) k198 (fun _ h9 => h9) rfl dX6_takesSign_46 ?_
      refine lv_iload_n hx hb dX6_takesSign_49 rfl (lv_at hl 0 rfl) ?_
      refine lv_if_eq (tgt := 57) hx hb dX6_takesSign_50 (by decide) (fun c9 => absurd c9 (by decide)) (fun _ => ?_)
      refine lv_iconst (v := 1) hx hb dX6_takesSign_53 (by decide) ?_
      refine lv_goto (tgt := 58) hx hb dX6_takesSign_54 (by decide) ?_
      refine lv_iadd hx hb dX6_takesSign_58 ?_
      refine lv_topi (fun v_24 ev_24 => ?_)
      replace hf := nm_of ev_24 hf
      refine va_put (D := X.1) (ci := 6) (v := .int v_24) (ty := .int) (C := RX6) (T := TX6) (N := 13) hx hb hts hiX6 tyX6 tyX6_ok nmX6 hown hK.1 hP (hD0.addr rfl) hS 0 rfl rfl 9 (by decide) k198 (fun _ h9 => h9) rfl (by decide +kernel) rfl rfl (Nat.le_of_ble_eq_true rfl) dX6_takesSign_59 (fun H locs hP hD hS => ?_)
      have hP : va_P X.1 vwCl (wMo X mo al sv sm asd th ho fr txt tl v_24 od nu_19 su) H := hP
      refine lv_iload_n hx hb dX6_takesSign_62 rfl (lv_at hl 0 rfl) ?_
      cases hf
      exact fn_zret hx hb hr rfl hlocks hP hS dX6_takesSign_63
    · replace hf := fp_f c_22 hf
      refine lv_aload_n hx hb dX6_takesSign_29 rfl (lv_at hl 0 rfl) ?_
      obtain ⟨r_25, hc_26, hf⟩ := bd_of hf
      refine fn_V (v := some (.int r_25)) (As := []) (rest := []) (st1 := [.int r_25]) (ws' := (wMo X mo al sv sm asd th ho fr txt tl pos od nu_19 su)) (nL := 2) ⟨hx, hb, hml, hown, hts⟩ (c_X6_here l X mo al sv sm asd th ho fr txt tl pos od nu_19 su r_25 hc_26) (cwV 0 hts gX6_takesSign_X6_here rfl rfl rfl (by decide +kernel) ⟨Nat.le_of_ble_eq_true rfl, Nat.le_of_ble_eq_true rfl⟩) 6 rfl rfl rfl rfl hl.1 rfl (Nat.le_of_ble_eq_true rfl) dX6_takesSign_30 hK hP (hD0.addr rfl) hS hA [0, 1, 2, 3, 4, 5, 6, 7] rfl rfl rfl rfl ⟨Nat.zero_le _, Nat.zero_le _⟩ (fun H locs hP hD hS => ?_)
      refine lv_bipush (v := 45) hx hb dX6_takesSign_33 (by decide) ?_
      refine lv_icmp_ne (tgt := 42) hx hb dX6_takesSign_35 (by decide) (fun c_27 => ?_) (fun c_27 => ?_)
      · replace hf := fp_f c_27 hf
        refine lv_iconst (v := 0) hx hb dX6_takesSign_42 (by decide) ?_
        refine lv_istore_n (lv' := [(1, .int (0 : Int32)), (0, .ref (mo 0))]) hx hb dX6_takesSign_43 rfl hl (by decide) rfl (fun ls hl => ?_)
        refine lv_aload_n hx hb dX6_takesSign_44 rfl (lv_at hl 1 rfl) ?_
        refine lv_dup hx hb dX6_takesSign_45 rfl ?_
        refine va_get (D := X.1) (ci := 6) (v := .int pos) (C := RX6) (T := TX6) (N := 13) hx hb hts hiX6 hown hK.1 hP 0 rfl rfl 9 (by decide) k198 (fun _ h9 => h9) rfl dX6_takesSign_46 ?_
        refine lv_iload_n hx hb dX6_takesSign_49 rfl (lv_at hl 0 rfl) ?_
        refine lv_if_eq (tgt := 57) hx hb dX6_takesSign_50 (by decide) (fun _ => ?_) (fun c9 => absurd c9 (by decide))
        refine lv_iconst (v := 0) hx hb dX6_takesSign_57 (by decide) ?_
        refine lv_iadd hx hb dX6_takesSign_58 ?_
        refine lv_topi (fun v_29 ev_29 => ?_)
        replace hf := nm_of ev_29 hf
        refine va_put (D := X.1) (ci := 6) (v := .int v_29) (ty := .int) (C := RX6) (T := TX6) (N := 13) hx hb hts hiX6 tyX6 tyX6_ok nmX6 hown hK.1 hP (hD0.addr rfl) hS 0 rfl rfl 9 (by decide) k198 (fun _ h9 => h9) rfl (by decide +kernel) rfl rfl (Nat.le_of_ble_eq_true rfl) dX6_takesSign_59 (fun H locs hP hD hS => ?_)
        have hP : va_P X.1 vwCl (wMo X mo al sv sm asd th ho fr txt tl v_29 od nu_19 su) H := hP
        refine lv_iload_n hx hb dX6_takesSign_62 rfl (lv_at hl 0 rfl) ?_
        cases hf
        exact fn_zret hx hb hr rfl hlocks hP hS dX6_takesSign_63
      · replace hf := fp_t c_27 hf
        refine lv_iconst (v := 1) hx hb dX6_takesSign_38 (by decide) ?_
        refine lv_goto (tgt := 43) hx hb dX6_takesSign_39 (by decide) ?_
        refine lv_istore_n (lv' := [(1, .int (1 : Int32)), (0, .ref (mo 0))]) hx hb dX6_takesSign_43 rfl hl (by decide) rfl (fun ls hl => ?_)
        refine lv_aload_n hx hb dX6_takesSign_44 rfl (lv_at hl 1 rfl) ?_
        refine lv_dup hx hb dX6_takesSign_45 rfl ?_
        refine va_get (D := X.1) (ci := 6) (v := .int pos) (C := RX6) (T := TX6) (N := 13) hx hb hts hiX6 hown hK.1 hP 0 rfl rfl 9 (by decide) k198 (fun _ h9 => h9) rfl dX6_takesSign_46 ?_
        refine lv_iload_n hx hb dX6_takesSign_49 rfl (lv_at hl 0 rfl) ?_
        refine lv_if_eq (tgt := 57) hx hb dX6_takesSign_50 (by decide) (fun c9 => absurd c9 (by decide)) (fun _ => ?_)
        refine lv_iconst (v := 1) hx hb dX6_takesSign_53 (by decide) ?_
        refine lv_goto (tgt := 58) hx hb dX6_takesSign_54 (by decide) ?_
        refine lv_iadd hx hb dX6_takesSign_58 ?_
        refine lv_topi (fun v_31 ev_31 => ?_)
        replace hf := nm_of ev_31 hf
        refine va_put (D := X.1) (ci := 6) (v := .int v_31) (ty := .int) (C := RX6) (T := TX6) (N := 13) hx hb hts hiX6 tyX6 tyX6_ok nmX6 hown hK.1 hP (hD0.addr rfl) hS 0 rfl rfl 9 (by decide) k198 (fun _ h9 => h9) rfl (by decide +kernel) rfl rfl (Nat.le_of_ble_eq_true rfl) dX6_takesSign_59 (fun H locs hP hD hS => ?_)
        have hP : va_P X.1 vwCl (wMo X mo al sv sm asd th ho fr txt tl v_31 od nu_19 su) H := hP
        refine lv_iload_n hx hb dX6_takesSign_62 rfl (lv_at hl 0 rfl) ?_
        cases hf
        exact fn_zret hx hb hr rfl hlocks hP hS dX6_takesSign_63

def f_X6_takesParts (txt : (Nat → Int32)) (tl : Int32) (pos : Int32) (od : Int32) (nu : (Nat → Int32)) : Option (Int32 × Int32 × (Nat → Int32)) :=
  if od = (99 : Int32) then
  (bd3 (f_X6_takesDigit (0 : Int32) (0 : Int32) (9 : Int32) txt tl pos nu) (fun r_2 pos_3 nu_4 =>
  if r_2 = (0 : Int32) then
  (some ((0 : Int32), pos_3, nu_4))
  else
  (bd3 (f_X6_takesSign txt tl pos_3 nu_4) (fun r_7 pos_8 nu_9 =>
  if r_7 = (0 : Int32) then
  (some ((0 : Int32), pos_8, nu_9))
  else
  (bd3 (f_X6_takesNumber (1 : Int32) (3 : Int32) (0 : Int32) (100 : Int32) txt tl pos_8 nu_9) (fun r_12 pos_13 nu_14 =>
  if r_12 = (0 : Int32) then
  (some ((0 : Int32), pos_13, nu_14))
  else
  (some ((1 : Int32), pos_13, nu_14))))))))
  else
  (if od = (103 : Int32) then
  (bd3 (f_X6_takesDigit (0 : Int32) (0 : Int32) (9 : Int32) txt tl pos nu) (fun r_18 pos_19 nu_20 =>
  if r_18 = (0 : Int32) then
  (some ((0 : Int32), pos_19, nu_20))
  else
  (bd3 (f_X6_takesDigit (1 : Int32) (0 : Int32) (9 : Int32) txt tl pos_19 nu_20) (fun r_23 pos_24 nu_25 =>
  if r_23 = (0 : Int32) then
  (some ((0 : Int32), pos_24, nu_25))
  else
  (bd3 (f_X6_takesDigit (2 : Int32) (0 : Int32) (7 : Int32) txt tl pos_24 nu_25) (fun r_28 pos_29 nu_30 =>
  if r_28 = (0 : Int32) then
  (some ((0 : Int32), pos_29, nu_30))
  else
  (bd3 (f_X6_takesDigit (3 : Int32) (1 : Int32) (7 : Int32) txt tl pos_29 nu_30) (fun r_33 pos_34 nu_35 =>
  if r_33 = (0 : Int32) then
  (some ((0 : Int32), pos_34, nu_35))
  else
  (bd2 (f_X6_takesByte (44 : Int32) txt tl pos_34) (fun r_38 pos_39 =>
  if r_38 = (0 : Int32) then
  (some ((0 : Int32), pos_39, nu_35))
  else
  (bd3 (f_X6_takesNumber (4 : Int32) (3 : Int32) (0 : Int32) (100 : Int32) txt tl pos_39 nu_35) (fun r_42 pos_43 nu_44 =>
  if r_42 = (0 : Int32) then
  (some ((0 : Int32), pos_43, nu_44))
  else
  (some ((1 : Int32), pos_43, nu_44))))))))))))))
  else
  (if od = (118 : Int32) then
  (bd3 (f_X6_takesNumber (0 : Int32) (3 : Int32) (0 : Int32) (999 : Int32) txt tl pos nu) (fun r_48 pos_49 nu_50 =>
  some (r_48, pos_49, nu_50)))
  else
  (bd3 (f_X6_takesNumber (0 : Int32) (2 : Int32) (1 : Int32) (50 : Int32) txt tl pos nu) (fun r_52 pos_53 nu_54 =>
  some (r_52, pos_53, nu_54)))))
theorem z_X6_takesParts {txt : (Nat → Int32)} {tl : Int32} {pos : Int32} {od : Int32} {nu : (Nat → Int32)} {r : Int32} {pos' : Int32} {nu' : (Nat → Int32)} (hf : f_X6_takesParts txt tl pos od nu = some (r, pos', nu')) : r = 0 ∨ r = 1 := by
  unfold f_X6_takesParts at hf
  by_cases c_1 : od = (99 : Int32)
  · replace hf := fp_t c_1 hf
    obtain ⟨r_2, pos_3, nu_4, hc_5, hf⟩ := bd3_of hf
    by_cases c_6 : r_2 = (0 : Int32)
    · replace hf := fp_t c_6 hf
      cases hf
      exact Or.inl rfl
    · replace hf := fp_f c_6 hf
      obtain ⟨r_7, pos_8, nu_9, hc_10, hf⟩ := bd3_of hf
      by_cases c_11 : r_7 = (0 : Int32)
      · replace hf := fp_t c_11 hf
        cases hf
        exact Or.inl rfl
      · replace hf := fp_f c_11 hf
        obtain ⟨r_12, pos_13, nu_14, hc_15, hf⟩ := bd3_of hf
        by_cases c_16 : r_12 = (0 : Int32)
        · replace hf := fp_t c_16 hf
          cases hf
          exact Or.inl rfl
        · replace hf := fp_f c_16 hf
          cases hf
          exact Or.inr rfl
  · replace hf := fp_f c_1 hf
    by_cases c_17 : od = (103 : Int32)
    · replace hf := fp_t c_17 hf
      obtain ⟨r_18, pos_19, nu_20, hc_21, hf⟩ := bd3_of hf
      by_cases c_22 : r_18 = (0 : Int32)
      · replace hf := fp_t c_22 hf
        cases hf
        exact Or.inl rfl
      · replace hf := fp_f c_22 hf
        obtain ⟨r_23, pos_24, nu_25, hc_26, hf⟩ := bd3_of hf
        by_cases c_27 : r_23 = (0 : Int32)
        · replace hf := fp_t c_27 hf
          cases hf
          exact Or.inl rfl
        · replace hf := fp_f c_27 hf
          obtain ⟨r_28, pos_29, nu_30, hc_31, hf⟩ := bd3_of hf
          by_cases c_32 : r_28 = (0 : Int32)
          · replace hf := fp_t c_32 hf
            cases hf
            exact Or.inl rfl
          · replace hf := fp_f c_32 hf
            obtain ⟨r_33, pos_34, nu_35, hc_36, hf⟩ := bd3_of hf
            by_cases c_37 : r_33 = (0 : Int32)
            · replace hf := fp_t c_37 hf
              cases hf
              exact Or.inl rfl
            · replace hf := fp_f c_37 hf
              obtain ⟨r_38, pos_39, hc_40, hf⟩ := bd2_of hf
              by_cases c_41 : r_38 = (0 : Int32)
              · replace hf := fp_t c_41 hf
                cases hf
                exact Or.inl rfl
              · replace hf := fp_f c_41 hf
                obtain ⟨r_42, pos_43, nu_44, hc_45, hf⟩ := bd3_of hf
                by_cases c_46 : r_42 = (0 : Int32)
                · replace hf := fp_t c_46 hf
                  cases hf
                  exact Or.inl rfl
                · replace hf := fp_f c_46 hf
                  cases hf
                  exact Or.inr rfl
    · replace hf := fp_f c_17 hf
      by_cases c_47 : od = (118 : Int32)
      · replace hf := fp_t c_47 hf
        obtain ⟨r_48, pos_49, nu_50, hc_51, hf⟩ := bd3_of hf
        cases hf
        exact z_X6_takesNumber hc_51
      · replace hf := fp_f c_47 hf
        obtain ⟨r_52, pos_53, nu_54, hc_55, hf⟩ := bd3_of hf
        cases hf
        exact z_X6_takesNumber hc_55
set_option maxHeartbeats 4000000 in
set_option maxRecDepth 100000 in
theorem c_X6_takesParts (l : Launch) (X : cx_G) (mo : (Nat → Nat)) (al : (Nat → Int32)) (sv : (Nat → Int32)) (sm : Int32) (asd : (Nat → Int32)) (th : Int32) (ho : (Nat → Int32)) (fr : (Nat → Int32)) (txt : (Nat → Int32)) (tl : Int32) (pos : Int32) (od : Int32) (nu : (Nat → Int32)) (su : Int64) (r : Int32) (pos' : Int32) (nu' : (Nat → Int32)) (hf : f_X6_takesParts txt tl pos od nu = some (r, pos', nu')) : Fn l yX6_takesParts wsX6_takesParts ({ frames := 2, cells := 0, slots := 0, locals := 51 } : Room) X [.ref (mo 0)] (wMo X mo al sv sm asd th ho fr txt tl pos od nu su) (some (.int r)) (wMo X mo al sv sm asd th ho fr txt tl pos' od nu' su) := by
  refine fn_intro (cc := cX6_takesParts) (maxL := 1) (ret := (some .boolean)) (by decide) rfl rfl (Nat.le_of_ble_eq_true rfl) ?_
  intro p e s m args below meth c A ls hx hb hml hr hts hown hlocks hK hP hD0 hS hA hl
  have hown : s.vm.findClass RX6 = some m.cls := hown
  have hl : lv_has ls 1 [(0, .ref (mo 0))] := hl
  have hiX6 : ∀ w ∈ u_ws RX6 TX6 13, w ∈ wsX6_takesParts := by decide +kernel
  have k208 := hts (.fieldLink RX6 208 "LentRightsModel" "order" "I") (by decide +kernel)
  unfold f_X6_takesParts at hf
  refine lv_aload_n hx hb dX6_takesParts_0 rfl (lv_at hl 0 rfl) ?_
  refine va_get (D := X.1) (ci := 6) (v := .int od) (C := RX6) (T := TX6) (N := 13) hx hb hts hiX6 hown hK.1 hP 0 rfl rfl 10 (by decide) k208 (fun _ h9 => h9) rfl dX6_takesParts_1 ?_
  by_cases c_1 : od = (99 : Int32)
  · replace hf := fp_t c_1 hf
    refine lv_lookup (off := 118) (tgt := 122) hx hb dX6_takesParts_4 (by decide) (by rw [c_1]; rfl) (by decide) ?_
    refine lv_aload_n hx hb dX6_takesParts_122 rfl (lv_at hl 0 rfl) ?_
    refine lv_iconst (v := 0) hx hb dX6_takesParts_123 (by decide) ?_
    refine lv_iconst (v := 0) hx hb dX6_takesParts_124 (by decide) ?_
    refine lv_bipush (v := 9) hx hb dX6_takesParts_125 (by decide) ?_
    obtain ⟨r_2, pos_3, nu_4, hc_5, hf⟩ := bd3_of hf
    refine fn_V (v := some (.int r_2)) (As := [.int (0 : Int32), .int (0 : Int32), .int (9 : Int32)]) (rest := []) (st1 := [.int r_2]) (ws' := (wMo X mo al sv sm asd th ho fr txt tl pos_3 od nu_4 su)) (nL := 1) ⟨hx, hb, hml, hown, hts⟩ (c_X6_takesDigit l X mo al sv sm asd th ho fr txt tl pos od nu su (0 : Int32) (0 : Int32) (9 : Int32) r_2 pos_3 nu_4 hc_5) (cwV 3 hts gX6_takesParts_X6_takesDigit rfl rfl rfl (by decide +kernel) ⟨Nat.le_of_ble_eq_true rfl, Nat.le_of_ble_eq_true rfl⟩) 6 rfl rfl rfl rfl hl.1 rfl (Nat.le_of_ble_eq_true rfl) dX6_takesParts_127 hK hP (hD0.addr rfl) hS hA [0, 1, 2, 3, 4, 5, 6, 7] rfl rfl rfl rfl ⟨Nat.zero_le _, Nat.zero_le _⟩ (fun H locs hP hD hS => ?_)
    refine lv_if_eq (tgt := 156) hx hb dX6_takesParts_130 (by decide) (fun c_6 => ?_) (fun c_6 => ?_)
    · replace hf := fp_t c_6 hf
      refine lv_iconst (v := 0) hx hb dX6_takesParts_156 (by decide) ?_
      cases hf
      exact fn_zret hx hb hr rfl hlocks hP hS dX6_takesParts_157
    · replace hf := fp_f c_6 hf
      refine lv_aload_n hx hb dX6_takesParts_133 rfl (lv_at hl 0 rfl) ?_
      obtain ⟨r_7, pos_8, nu_9, hc_10, hf⟩ := bd3_of hf
      refine fn_V (v := some (.int r_7)) (As := []) (rest := []) (st1 := [.int r_7]) (ws' := (wMo X mo al sv sm asd th ho fr txt tl pos_8 od nu_9 su)) (nL := 1) ⟨hx, hb, hml, hown, hts⟩ (c_X6_takesSign l X mo al sv sm asd th ho fr txt tl pos_3 od nu_4 su r_7 pos_8 nu_9 hc_10) (cwV 0 hts gX6_takesParts_X6_takesSign rfl rfl rfl (by decide +kernel) ⟨Nat.le_of_ble_eq_true rfl, Nat.le_of_ble_eq_true rfl⟩) 6 rfl rfl rfl rfl hl.1 rfl (Nat.le_of_ble_eq_true rfl) dX6_takesParts_134 hK hP (hD0.addr rfl) hS hA [0, 1, 2, 3, 4, 5, 6, 7] rfl rfl rfl rfl ⟨Nat.zero_le _, Nat.zero_le _⟩ (fun H locs hP hD hS => ?_)
      refine lv_if_eq (tgt := 156) hx hb dX6_takesParts_137 (by decide) (fun c_11 => ?_) (fun c_11 => ?_)
      · replace hf := fp_t c_11 hf
        refine lv_iconst (v := 0) hx hb dX6_takesParts_156 (by decide) ?_
        cases hf
        exact fn_zret hx hb hr rfl hlocks hP hS dX6_takesParts_157
      · replace hf := fp_f c_11 hf
        refine lv_aload_n hx hb dX6_takesParts_140 rfl (lv_at hl 0 rfl) ?_
        refine lv_iconst (v := 1) hx hb dX6_takesParts_141 (by decide) ?_
        refine lv_iconst (v := 3) hx hb dX6_takesParts_142 (by decide) ?_
        refine lv_iconst (v := 0) hx hb dX6_takesParts_143 (by decide) ?_
        refine lv_bipush (v := 100) hx hb dX6_takesParts_144 (by decide) ?_
        obtain ⟨r_12, pos_13, nu_14, hc_15, hf⟩ := bd3_of hf
        refine fn_V (v := some (.int r_12)) (As := [.int (1 : Int32), .int (3 : Int32), .int (0 : Int32), .int (100 : Int32)]) (rest := []) (st1 := [.int r_12]) (ws' := (wMo X mo al sv sm asd th ho fr txt tl pos_13 od nu_14 su)) (nL := 1) ⟨hx, hb, hml, hown, hts⟩ (c_X6_takesNumber l X mo al sv sm asd th ho fr txt tl pos_8 od nu_9 su (1 : Int32) (3 : Int32) (0 : Int32) (100 : Int32) r_12 pos_13 nu_14 hc_15) (cwV 4 hts gX6_takesParts_X6_takesNumber rfl rfl rfl (by decide +kernel) ⟨Nat.le_of_ble_eq_true rfl, Nat.le_of_ble_eq_true rfl⟩) 6 rfl rfl rfl rfl hl.1 rfl (Nat.le_of_ble_eq_true rfl) dX6_takesParts_146 hK hP (hD0.addr rfl) hS hA [0, 1, 2, 3, 4, 5, 6, 7] rfl rfl rfl rfl ⟨Nat.zero_le _, Nat.zero_le _⟩ (fun H locs hP hD hS => ?_)
        refine lv_if_eq (tgt := 156) hx hb dX6_takesParts_149 (by decide) (fun c_16 => ?_) (fun c_16 => ?_)
        · replace hf := fp_t c_16 hf
          refine lv_iconst (v := 0) hx hb dX6_takesParts_156 (by decide) ?_
          cases hf
          exact fn_zret hx hb hr rfl hlocks hP hS dX6_takesParts_157
        · replace hf := fp_f c_16 hf
          refine lv_iconst (v := 1) hx hb dX6_takesParts_152 (by decide) ?_
          refine lv_goto (tgt := 157) hx hb dX6_takesParts_153 (by decide) ?_
          cases hf
          exact fn_zret hx hb hr rfl hlocks hP hS dX6_takesParts_157
  · replace hf := fp_f c_1 hf
    by_cases c_17 : od = (103 : Int32)
    · replace hf := fp_t c_17 hf
      refine lv_lookup (off := 36) (tgt := 40) hx hb dX6_takesParts_4 (by decide) (by rw [c_17]; rfl) (by decide) ?_
      refine lv_aload_n hx hb dX6_takesParts_40 rfl (lv_at hl 0 rfl) ?_
      refine lv_iconst (v := 0) hx hb dX6_takesParts_41 (by decide) ?_
      refine lv_iconst (v := 0) hx hb dX6_takesParts_42 (by decide) ?_
      refine lv_bipush (v := 9) hx hb dX6_takesParts_43 (by decide) ?_
      obtain ⟨r_18, pos_19, nu_20, hc_21, hf⟩ := bd3_of hf
      refine fn_V (v := some (.int r_18)) (As := [.int (0 : Int32), .int (0 : Int32), .int (9 : Int32)]) (rest := []) (st1 := [.int r_18]) (ws' := (wMo X mo al sv sm asd th ho fr txt tl pos_19 od nu_20 su)) (nL := 1) ⟨hx, hb, hml, hown, hts⟩ (c_X6_takesDigit l X mo al sv sm asd th ho fr txt tl pos od nu su (0 : Int32) (0 : Int32) (9 : Int32) r_18 pos_19 nu_20 hc_21) (cwV 3 hts gX6_takesParts_X6_takesDigit rfl rfl rfl (by decide +kernel) ⟨Nat.le_of_ble_eq_true rfl, Nat.le_of_ble_eq_true rfl⟩) 6 rfl rfl rfl rfl hl.1 rfl (Nat.le_of_ble_eq_true rfl) dX6_takesParts_45 hK hP (hD0.addr rfl) hS hA [0, 1, 2, 3, 4, 5, 6, 7] rfl rfl rfl rfl ⟨Nat.zero_le _, Nat.zero_le _⟩ (fun H locs hP hD hS => ?_)
      refine lv_if_eq (tgt := 109) hx hb dX6_takesParts_48 (by decide) (fun c_22 => ?_) (fun c_22 => ?_)
      · replace hf := fp_t c_22 hf
        refine lv_iconst (v := 0) hx hb dX6_takesParts_109 (by decide) ?_
        cases hf
        exact fn_zret hx hb hr rfl hlocks hP hS dX6_takesParts_110
      · replace hf := fp_f c_22 hf
        refine lv_aload_n hx hb dX6_takesParts_51 rfl (lv_at hl 0 rfl) ?_
        refine lv_iconst (v := 1) hx hb dX6_takesParts_52 (by decide) ?_
        refine lv_iconst (v := 0) hx hb dX6_takesParts_53 (by decide) ?_
        refine lv_bipush (v := 9) hx hb dX6_takesParts_54 (by decide) ?_
        obtain ⟨r_23, pos_24, nu_25, hc_26, hf⟩ := bd3_of hf
        refine fn_V (v := some (.int r_23)) (As := [.int (1 : Int32), .int (0 : Int32), .int (9 : Int32)]) (rest := []) (st1 := [.int r_23]) (ws' := (wMo X mo al sv sm asd th ho fr txt tl pos_24 od nu_25 su)) (nL := 1) ⟨hx, hb, hml, hown, hts⟩ (c_X6_takesDigit l X mo al sv sm asd th ho fr txt tl pos_19 od nu_20 su (1 : Int32) (0 : Int32) (9 : Int32) r_23 pos_24 nu_25 hc_26) (cwV 3 hts gX6_takesParts_X6_takesDigit rfl rfl rfl (by decide +kernel) ⟨Nat.le_of_ble_eq_true rfl, Nat.le_of_ble_eq_true rfl⟩) 6 rfl rfl rfl rfl hl.1 rfl (Nat.le_of_ble_eq_true rfl) dX6_takesParts_56 hK hP (hD0.addr rfl) hS hA [0, 1, 2, 3, 4, 5, 6, 7] rfl rfl rfl rfl ⟨Nat.zero_le _, Nat.zero_le _⟩ (fun H locs hP hD hS => ?_)
        refine lv_if_eq (tgt := 109) hx hb dX6_takesParts_59 (by decide) (fun c_27 => ?_) (fun c_27 => ?_)
        · replace hf := fp_t c_27 hf
          refine lv_iconst (v := 0) hx hb dX6_takesParts_109 (by decide) ?_
          cases hf
          exact fn_zret hx hb hr rfl hlocks hP hS dX6_takesParts_110
        · replace hf := fp_f c_27 hf
          refine lv_aload_n hx hb dX6_takesParts_62 rfl (lv_at hl 0 rfl) ?_
          refine lv_iconst (v := 2) hx hb dX6_takesParts_63 (by decide) ?_
          refine lv_iconst (v := 0) hx hb dX6_takesParts_64 (by decide) ?_
          refine lv_bipush (v := 7) hx hb dX6_takesParts_65 (by decide) ?_
          obtain ⟨r_28, pos_29, nu_30, hc_31, hf⟩ := bd3_of hf
          refine fn_V (v := some (.int r_28)) (As := [.int (2 : Int32), .int (0 : Int32), .int (7 : Int32)]) (rest := []) (st1 := [.int r_28]) (ws' := (wMo X mo al sv sm asd th ho fr txt tl pos_29 od nu_30 su)) (nL := 1) ⟨hx, hb, hml, hown, hts⟩ (c_X6_takesDigit l X mo al sv sm asd th ho fr txt tl pos_24 od nu_25 su (2 : Int32) (0 : Int32) (7 : Int32) r_28 pos_29 nu_30 hc_31) (cwV 3 hts gX6_takesParts_X6_takesDigit rfl rfl rfl (by decide +kernel) ⟨Nat.le_of_ble_eq_true rfl, Nat.le_of_ble_eq_true rfl⟩) 6 rfl rfl rfl rfl hl.1 rfl (Nat.le_of_ble_eq_true rfl) dX6_takesParts_67 hK hP (hD0.addr rfl) hS hA [0, 1, 2, 3, 4, 5, 6, 7] rfl rfl rfl rfl ⟨Nat.zero_le _, Nat.zero_le _⟩ (fun H locs hP hD hS => ?_)
          refine lv_if_eq (tgt := 109) hx hb dX6_takesParts_70 (by decide) (fun c_32 => ?_) (fun c_32 => ?_)
          · replace hf := fp_t c_32 hf
            refine lv_iconst (v := 0) hx hb dX6_takesParts_109 (by decide) ?_
            cases hf
            exact fn_zret hx hb hr rfl hlocks hP hS dX6_takesParts_110
          · replace hf := fp_f c_32 hf
            refine lv_aload_n hx hb dX6_takesParts_73 rfl (lv_at hl 0 rfl) ?_
            refine lv_iconst (v := 3) hx hb dX6_takesParts_74 (by decide) ?_
            refine lv_iconst (v := 1) hx hb dX6_takesParts_75 (by decide) ?_
            refine lv_bipush (v := 7) hx hb dX6_takesParts_76 (by decide) ?_
            obtain ⟨r_33, pos_34, nu_35, hc_36, hf⟩ := bd3_of hf
            refine fn_V (v := some (.int r_33)) (As := [.int (3 : Int32), .int (1 : Int32), .int (7 : Int32)]) (rest := []) (st1 := [.int r_33]) (ws' := (wMo X mo al sv sm asd th ho fr txt tl pos_34 od nu_35 su)) (nL := 1) ⟨hx, hb, hml, hown, hts⟩ (c_X6_takesDigit l X mo al sv sm asd th ho fr txt tl pos_29 od nu_30 su (3 : Int32) (1 : Int32) (7 : Int32) r_33 pos_34 nu_35 hc_36) (cwV 3 hts gX6_takesParts_X6_takesDigit rfl rfl rfl (by decide +kernel) ⟨Nat.le_of_ble_eq_true rfl, Nat.le_of_ble_eq_true rfl⟩) 6 rfl rfl rfl rfl hl.1 rfl (Nat.le_of_ble_eq_true rfl) dX6_takesParts_78 hK hP (hD0.addr rfl) hS hA [0, 1, 2, 3, 4, 5, 6, 7] rfl rfl rfl rfl ⟨Nat.zero_le _, Nat.zero_le _⟩ (fun H locs hP hD hS => ?_)
            refine lv_if_eq (tgt := 109) hx hb dX6_takesParts_81 (by decide) (fun c_37 => ?_) (fun c_37 => ?_)
            · replace hf := fp_t c_37 hf
              refine lv_iconst (v := 0) hx hb dX6_takesParts_109 (by decide) ?_
              cases hf
              exact fn_zret hx hb hr rfl hlocks hP hS dX6_takesParts_110
            · replace hf := fp_f c_37 hf
              refine lv_aload_n hx hb dX6_takesParts_84 rfl (lv_at hl 0 rfl) ?_
              refine lv_bipush (v := 44) hx hb dX6_takesParts_85 (by decide) ?_
              obtain ⟨r_38, pos_39, hc_40, hf⟩ := bd2_of hf
              refine fn_V (v := some (.int r_38)) (As := [.int (44 : Int32)]) (rest := []) (st1 := [.int r_38]) (ws' := (wMo X mo al sv sm asd th ho fr txt tl pos_39 od nu_35 su)) (nL := 1) ⟨hx, hb, hml, hown, hts⟩ (c_X6_takesByte l X mo al sv sm asd th ho fr txt tl pos_34 od nu_35 su (44 : Int32) r_38 pos_39 hc_40) (cwV 1 hts gX6_takesParts_X6_takesByte rfl rfl rfl (by decide +kernel) ⟨Nat.le_of_ble_eq_true rfl, Nat.le_of_ble_eq_true rfl⟩) 6 rfl rfl rfl rfl hl.1 rfl (Nat.le_of_ble_eq_true rfl) dX6_takesParts_87 hK hP (hD0.addr rfl) hS hA [0, 1, 2, 3, 4, 5, 6, 7] rfl rfl rfl rfl ⟨Nat.zero_le _, Nat.zero_le _⟩ (fun H locs hP hD hS => ?_)
              refine lv_if_eq (tgt := 109) hx hb dX6_takesParts_90 (by decide) (fun c_41 => ?_) (fun c_41 => ?_)
              · replace hf := fp_t c_41 hf
                refine lv_iconst (v := 0) hx hb dX6_takesParts_109 (by decide) ?_
                cases hf
                exact fn_zret hx hb hr rfl hlocks hP hS dX6_takesParts_110
              · replace hf := fp_f c_41 hf
                refine lv_aload_n hx hb dX6_takesParts_93 rfl (lv_at hl 0 rfl) ?_
                refine lv_iconst (v := 4) hx hb dX6_takesParts_94 (by decide) ?_
                refine lv_iconst (v := 3) hx hb dX6_takesParts_95 (by decide) ?_
                refine lv_iconst (v := 0) hx hb dX6_takesParts_96 (by decide) ?_
                refine lv_bipush (v := 100) hx hb dX6_takesParts_97 (by decide) ?_
                obtain ⟨r_42, pos_43, nu_44, hc_45, hf⟩ := bd3_of hf
                refine fn_V (v := some (.int r_42)) (As := [.int (4 : Int32), .int (3 : Int32), .int (0 : Int32), .int (100 : Int32)]) (rest := []) (st1 := [.int r_42]) (ws' := (wMo X mo al sv sm asd th ho fr txt tl pos_43 od nu_44 su)) (nL := 1) ⟨hx, hb, hml, hown, hts⟩ (c_X6_takesNumber l X mo al sv sm asd th ho fr txt tl pos_39 od nu_35 su (4 : Int32) (3 : Int32) (0 : Int32) (100 : Int32) r_42 pos_43 nu_44 hc_45) (cwV 4 hts gX6_takesParts_X6_takesNumber rfl rfl rfl (by decide +kernel) ⟨Nat.le_of_ble_eq_true rfl, Nat.le_of_ble_eq_true rfl⟩) 6 rfl rfl rfl rfl hl.1 rfl (Nat.le_of_ble_eq_true rfl) dX6_takesParts_99 hK hP (hD0.addr rfl) hS hA [0, 1, 2, 3, 4, 5, 6, 7] rfl rfl rfl rfl ⟨Nat.zero_le _, Nat.zero_le _⟩ (fun H locs hP hD hS => ?_)
                refine lv_if_eq (tgt := 109) hx hb dX6_takesParts_102 (by decide) (fun c_46 => ?_) (fun c_46 => ?_)
                · replace hf := fp_t c_46 hf
                  refine lv_iconst (v := 0) hx hb dX6_takesParts_109 (by decide) ?_
                  cases hf
                  exact fn_zret hx hb hr rfl hlocks hP hS dX6_takesParts_110
                · replace hf := fp_f c_46 hf
                  refine lv_iconst (v := 1) hx hb dX6_takesParts_105 (by decide) ?_
                  refine lv_goto (tgt := 110) hx hb dX6_takesParts_106 (by decide) ?_
                  cases hf
                  exact fn_zret hx hb hr rfl hlocks hP hS dX6_takesParts_110
    · replace hf := fp_f c_17 hf
      by_cases c_47 : od = (118 : Int32)
      · replace hf := fp_t c_47 hf
        refine lv_lookup (off := 107) (tgt := 111) hx hb dX6_takesParts_4 (by decide) (by rw [c_47]; rfl) (by decide) ?_
        refine lv_aload_n hx hb dX6_takesParts_111 rfl (lv_at hl 0 rfl) ?_
        refine lv_iconst (v := 0) hx hb dX6_takesParts_112 (by decide) ?_
        refine lv_iconst (v := 3) hx hb dX6_takesParts_113 (by decide) ?_
        refine lv_iconst (v := 0) hx hb dX6_takesParts_114 (by decide) ?_
        refine lv_sipush (v := 999) hx hb dX6_takesParts_115 (by decide) ?_
        obtain ⟨r_48, pos_49, nu_50, hc_51, hf⟩ := bd3_of hf
        refine fn_V (v := some (.int r_48)) (As := [.int (0 : Int32), .int (3 : Int32), .int (0 : Int32), .int (999 : Int32)]) (rest := []) (st1 := [.int r_48]) (ws' := (wMo X mo al sv sm asd th ho fr txt tl pos_49 od nu_50 su)) (nL := 1) ⟨hx, hb, hml, hown, hts⟩ (c_X6_takesNumber l X mo al sv sm asd th ho fr txt tl pos od nu su (0 : Int32) (3 : Int32) (0 : Int32) (999 : Int32) r_48 pos_49 nu_50 hc_51) (cwV 4 hts gX6_takesParts_X6_takesNumber rfl rfl rfl (by decide +kernel) ⟨Nat.le_of_ble_eq_true rfl, Nat.le_of_ble_eq_true rfl⟩) 6 rfl rfl rfl rfl hl.1 rfl (Nat.le_of_ble_eq_true rfl) dX6_takesParts_118 hK hP (hD0.addr rfl) hS hA [0, 1, 2, 3, 4, 5, 6, 7] rfl rfl rfl rfl ⟨Nat.zero_le _, Nat.zero_le _⟩ (fun H locs hP hD hS => ?_)
        cases hf
        exact fn_zret hx hb hr (z_narrow (z_X6_takesNumber hc_51)) hlocks hP hS dX6_takesParts_121
      · replace hf := fp_f c_47 hf
        have hsw : Op.lookupswitch.offset [(99, 118), (103, 36), (118, 107)] 154 od.toInt = 154 := by
          rw [Op.lookupswitch.offset_cons, if_neg (show ¬ (99 : Int) = od.toInt from sw_ne (99 : Int32) c_1), Op.lookupswitch.offset_cons, if_neg (show ¬ (103 : Int) = od.toInt from sw_ne (103 : Int32) c_17), Op.lookupswitch.offset_cons, if_neg (show ¬ (118 : Int) = od.toInt from sw_ne (118 : Int32) c_47), Op.lookupswitch.offset_nil]
        refine lv_lookup (off := 154) (tgt := 158) hx hb dX6_takesParts_4 (by decide) hsw (by decide) ?_
        refine lv_aload_n hx hb dX6_takesParts_158 rfl (lv_at hl 0 rfl) ?_
        refine lv_iconst (v := 0) hx hb dX6_takesParts_159 (by decide) ?_
        refine lv_iconst (v := 2) hx hb dX6_takesParts_160 (by decide) ?_
        refine lv_iconst (v := 1) hx hb dX6_takesParts_161 (by decide) ?_
        refine lv_bipush (v := 50) hx hb dX6_takesParts_162 (by decide) ?_
        obtain ⟨r_52, pos_53, nu_54, hc_55, hf⟩ := bd3_of hf
        refine fn_V (v := some (.int r_52)) (As := [.int (0 : Int32), .int (2 : Int32), .int (1 : Int32), .int (50 : Int32)]) (rest := []) (st1 := [.int r_52]) (ws' := (wMo X mo al sv sm asd th ho fr txt tl pos_53 od nu_54 su)) (nL := 1) ⟨hx, hb, hml, hown, hts⟩ (c_X6_takesNumber l X mo al sv sm asd th ho fr txt tl pos od nu su (0 : Int32) (2 : Int32) (1 : Int32) (50 : Int32) r_52 pos_53 nu_54 hc_55) (cwV 4 hts gX6_takesParts_X6_takesNumber rfl rfl rfl (by decide +kernel) ⟨Nat.le_of_ble_eq_true rfl, Nat.le_of_ble_eq_true rfl⟩) 6 rfl rfl rfl rfl hl.1 rfl (Nat.le_of_ble_eq_true rfl) dX6_takesParts_164 hK hP (hD0.addr rfl) hS hA [0, 1, 2, 3, 4, 5, 6, 7] rfl rfl rfl rfl ⟨Nat.zero_le _, Nat.zero_le _⟩ (fun H locs hP hD hS => ?_)
        cases hf
        exact fn_zret hx hb hr (z_narrow (z_X6_takesNumber hc_55)) hlocks hP hS dX6_takesParts_167

def f_X6_takesOrder (txt : (Nat → Int32)) (tl : Int32) (pos : Int32) (od : Int32) (nu : (Nat → Int32)) : Option (Int32 × Int32 × Int32 × (Nat → Int32)) :=
  bd (f_X6_here txt tl pos) (fun r_1 =>
  if r_1 = (103 : Int32) then
  (nm (pos + (1 : Int32)) (fun v_4 =>
  bd3 (f_X6_takesParts txt tl v_4 r_1 nu) (fun r_5 pos_6 nu_7 =>
  if r_5 = (0 : Int32) then
  (some ((0 : Int32), pos_6, r_1, nu_7))
  else
  (bd (f_X6_here txt tl pos_6) (fun r_10 =>
  if r_10 = (59 : Int32) then
  (nm (pos_6 + (1 : Int32)) (fun v_13 =>
  some ((1 : Int32), v_13, r_1, nu_7)))
  else
  (some ((0 : Int32), pos_6, r_1, nu_7)))))))
  else
  (if r_1 = (118 : Int32) then
  (nm (pos + (1 : Int32)) (fun v_15 =>
  bd3 (f_X6_takesParts txt tl v_15 r_1 nu) (fun r_16 pos_17 nu_18 =>
  if r_16 = (0 : Int32) then
  (some ((0 : Int32), pos_17, r_1, nu_18))
  else
  (bd (f_X6_here txt tl pos_17) (fun r_21 =>
  if r_21 = (59 : Int32) then
  (nm (pos_17 + (1 : Int32)) (fun v_24 =>
  some ((1 : Int32), v_24, r_1, nu_18)))
  else
  (some ((0 : Int32), pos_17, r_1, nu_18)))))))
  else
  (if r_1 = (99 : Int32) then
  (nm (pos + (1 : Int32)) (fun v_26 =>
  bd3 (f_X6_takesParts txt tl v_26 r_1 nu) (fun r_27 pos_28 nu_29 =>
  if r_27 = (0 : Int32) then
  (some ((0 : Int32), pos_28, r_1, nu_29))
  else
  (bd (f_X6_here txt tl pos_28) (fun r_32 =>
  if r_32 = (59 : Int32) then
  (nm (pos_28 + (1 : Int32)) (fun v_35 =>
  some ((1 : Int32), v_35, r_1, nu_29)))
  else
  (some ((0 : Int32), pos_28, r_1, nu_29)))))))
  else
  (if r_1 = (116 : Int32) then
  (nm (pos + (1 : Int32)) (fun v_37 =>
  bd3 (f_X6_takesParts txt tl v_37 r_1 nu) (fun r_38 pos_39 nu_40 =>
  if r_38 = (0 : Int32) then
  (some ((0 : Int32), pos_39, r_1, nu_40))
  else
  (bd (f_X6_here txt tl pos_39) (fun r_43 =>
  if r_43 = (59 : Int32) then
  (nm (pos_39 + (1 : Int32)) (fun v_46 =>
  some ((1 : Int32), v_46, r_1, nu_40)))
  else
  (some ((0 : Int32), pos_39, r_1, nu_40)))))))
  else
  (some ((0 : Int32), pos, r_1, nu))))))
theorem z_X6_takesOrder {txt : (Nat → Int32)} {tl : Int32} {pos : Int32} {od : Int32} {nu : (Nat → Int32)} {r : Int32} {pos' : Int32} {od' : Int32} {nu' : (Nat → Int32)} (hf : f_X6_takesOrder txt tl pos od nu = some (r, pos', od', nu')) : r = 0 ∨ r = 1 := by
  unfold f_X6_takesOrder at hf
  obtain ⟨r_1, hc_2, hf⟩ := bd_of hf
  by_cases c_3 : r_1 = (103 : Int32)
  · replace hf := fp_t c_3 hf
    replace hf := nm_of rfl hf
    obtain ⟨r_5, pos_6, nu_7, hc_8, hf⟩ := bd3_of hf
    by_cases c_9 : r_5 = (0 : Int32)
    · replace hf := fp_t c_9 hf
      cases hf
      exact Or.inl rfl
    · replace hf := fp_f c_9 hf
      obtain ⟨r_10, hc_11, hf⟩ := bd_of hf
      by_cases c_12 : r_10 = (59 : Int32)
      · replace hf := fp_t c_12 hf
        replace hf := nm_of rfl hf
        cases hf
        exact Or.inr rfl
      · replace hf := fp_f c_12 hf
        cases hf
        exact Or.inl rfl
  · replace hf := fp_f c_3 hf
    by_cases c_14 : r_1 = (118 : Int32)
    · replace hf := fp_t c_14 hf
      replace hf := nm_of rfl hf
      obtain ⟨r_16, pos_17, nu_18, hc_19, hf⟩ := bd3_of hf
      by_cases c_20 : r_16 = (0 : Int32)
      · replace hf := fp_t c_20 hf
        cases hf
        exact Or.inl rfl
      · replace hf := fp_f c_20 hf
        obtain ⟨r_21, hc_22, hf⟩ := bd_of hf
        by_cases c_23 : r_21 = (59 : Int32)
        · replace hf := fp_t c_23 hf
          replace hf := nm_of rfl hf
          cases hf
          exact Or.inr rfl
        · replace hf := fp_f c_23 hf
          cases hf
          exact Or.inl rfl
    · replace hf := fp_f c_14 hf
      by_cases c_25 : r_1 = (99 : Int32)
      · replace hf := fp_t c_25 hf
        replace hf := nm_of rfl hf
        obtain ⟨r_27, pos_28, nu_29, hc_30, hf⟩ := bd3_of hf
        by_cases c_31 : r_27 = (0 : Int32)
        · replace hf := fp_t c_31 hf
          cases hf
          exact Or.inl rfl
        · replace hf := fp_f c_31 hf
          obtain ⟨r_32, hc_33, hf⟩ := bd_of hf
          by_cases c_34 : r_32 = (59 : Int32)
          · replace hf := fp_t c_34 hf
            replace hf := nm_of rfl hf
            cases hf
            exact Or.inr rfl
          · replace hf := fp_f c_34 hf
            cases hf
            exact Or.inl rfl
      · replace hf := fp_f c_25 hf
        by_cases c_36 : r_1 = (116 : Int32)
        · replace hf := fp_t c_36 hf
          replace hf := nm_of rfl hf
          obtain ⟨r_38, pos_39, nu_40, hc_41, hf⟩ := bd3_of hf
          by_cases c_42 : r_38 = (0 : Int32)
          · replace hf := fp_t c_42 hf
            cases hf
            exact Or.inl rfl
          · replace hf := fp_f c_42 hf
            obtain ⟨r_43, hc_44, hf⟩ := bd_of hf
            by_cases c_45 : r_43 = (59 : Int32)
            · replace hf := fp_t c_45 hf
              replace hf := nm_of rfl hf
              cases hf
              exact Or.inr rfl
            · replace hf := fp_f c_45 hf
              cases hf
              exact Or.inl rfl
        · replace hf := fp_f c_36 hf
          cases hf
          exact Or.inl rfl
set_option maxHeartbeats 4000000 in
set_option maxRecDepth 100000 in
theorem c_X6_takesOrder (l : Launch) (X : cx_G) (mo : (Nat → Nat)) (al : (Nat → Int32)) (sv : (Nat → Int32)) (sm : Int32) (asd : (Nat → Int32)) (th : Int32) (ho : (Nat → Int32)) (fr : (Nat → Int32)) (txt : (Nat → Int32)) (tl : Int32) (pos : Int32) (od : Int32) (nu : (Nat → Int32)) (su : Int64) (r : Int32) (pos' : Int32) (od' : Int32) (nu' : (Nat → Int32)) (hf : f_X6_takesOrder txt tl pos od nu = some (r, pos', od', nu')) : Fn l yX6_takesOrder wsX6_takesOrder ({ frames := 3, cells := 0, slots := 0, locals := 71 } : Room) X [.ref (mo 0)] (wMo X mo al sv sm asd th ho fr txt tl pos od nu su) (some (.int r)) (wMo X mo al sv sm asd th ho fr txt tl pos' od' nu' su) := by
  refine fn_intro (cc := cX6_takesOrder) (maxL := 1) (ret := (some .boolean)) (by decide) rfl rfl (Nat.le_of_ble_eq_true rfl) ?_
  intro p e s m args below meth c A ls hx hb hml hr hts hown hlocks hK hP hD0 hS hA hl
  have hown : s.vm.findClass RX6 = some m.cls := hown
  have hl : lv_has ls 1 [(0, .ref (mo 0))] := hl
  have hiX6 : ∀ w ∈ u_ws RX6 TX6 13, w ∈ wsX6_takesOrder := by decide +kernel
  have k198 := hts (.fieldLink RX6 198 "LentRightsModel" "at" "I") (by decide +kernel)
  have k208 := hts (.fieldLink RX6 208 "LentRightsModel" "order" "I") (by decide +kernel)
  unfold f_X6_takesOrder at hf
  refine lv_aload_n hx hb dX6_takesOrder_0 rfl (lv_at hl 0 rfl) ?_
  refine lv_aload_n hx hb dX6_takesOrder_1 rfl (lv_at hl 0 rfl) ?_
  obtain ⟨r_1, hc_2, hf⟩ := bd_of hf
  refine fn_V (v := some (.int r_1)) (As := []) (rest := [.ref (mo 0)]) (st1 := [.int r_1, .ref (mo 0)]) (ws' := (wMo X mo al sv sm asd th ho fr txt tl pos od nu su)) (nL := 1) ⟨hx, hb, hml, hown, hts⟩ (c_X6_here l X mo al sv sm asd th ho fr txt tl pos od nu su r_1 hc_2) (cwV 0 hts gX6_takesOrder_X6_here rfl rfl rfl (by decide +kernel) ⟨Nat.le_of_ble_eq_true rfl, Nat.le_of_ble_eq_true rfl⟩) 6 rfl rfl rfl rfl hl.1 rfl (Nat.le_of_ble_eq_true rfl) dX6_takesOrder_2 hK hP (hD0.addr rfl) hS hA [0, 1, 2, 3, 4, 5, 6, 7] rfl rfl rfl rfl ⟨Nat.zero_le _, Nat.zero_le _⟩ (fun H locs hP hD hS => ?_)
  refine va_put (D := X.1) (ci := 6) (v := .int r_1) (ty := .int) (C := RX6) (T := TX6) (N := 13) hx hb hts hiX6 tyX6 tyX6_ok nmX6 hown hK.1 hP (hD0.addr rfl) hS 0 rfl rfl 10 (by decide) k208 (fun _ h9 => h9) rfl (by decide +kernel) rfl rfl (Nat.le_of_ble_eq_true rfl) dX6_takesOrder_5 (fun H locs hP hD hS => ?_)
  have hP : va_P X.1 vwCl (wMo X mo al sv sm asd th ho fr txt tl pos r_1 nu su) H := hP
  refine lv_aload_n hx hb dX6_takesOrder_8 rfl (lv_at hl 0 rfl) ?_
  refine va_get (D := X.1) (ci := 6) (v := .int r_1) (C := RX6) (T := TX6) (N := 13) hx hb hts hiX6 hown hK.1 hP 0 rfl rfl 10 (by decide) k208 (fun _ h9 => h9) rfl dX6_takesOrder_9 ?_
  refine lv_bipush (v := 103) hx hb dX6_takesOrder_12 (by decide) ?_
  refine lv_icmp_eq (tgt := 46) hx hb dX6_takesOrder_14 (by decide) (fun c_3 => ?_) (fun c_3 => ?_)
  · replace hf := fp_t c_3 hf
    refine lv_aload_n hx hb dX6_takesOrder_46 rfl (lv_at hl 0 rfl) ?_
    refine lv_dup hx hb dX6_takesOrder_47 rfl ?_
    refine va_get (D := X.1) (ci := 6) (v := .int pos) (C := RX6) (T := TX6) (N := 13) hx hb hts hiX6 hown hK.1 hP 0 rfl rfl 9 (by decide) k198 (fun _ h9 => h9) rfl dX6_takesOrder_48 ?_
    refine lv_iconst (v := 1) hx hb dX6_takesOrder_51 (by decide) ?_
    refine lv_iadd hx hb dX6_takesOrder_52 ?_
    refine lv_topi (fun v_4 ev_4 => ?_)
    replace hf := nm_of ev_4 hf
    refine va_put (D := X.1) (ci := 6) (v := .int v_4) (ty := .int) (C := RX6) (T := TX6) (N := 13) hx hb hts hiX6 tyX6 tyX6_ok nmX6 hown hK.1 hP (hD0.addr rfl) hS 0 rfl rfl 9 (by decide) k198 (fun _ h9 => h9) rfl (by decide +kernel) rfl rfl (Nat.le_of_ble_eq_true rfl) dX6_takesOrder_53 (fun H locs hP hD hS => ?_)
    have hP : va_P X.1 vwCl (wMo X mo al sv sm asd th ho fr txt tl v_4 r_1 nu su) H := hP
    refine lv_aload_n hx hb dX6_takesOrder_56 rfl (lv_at hl 0 rfl) ?_
    obtain ⟨r_5, pos_6, nu_7, hc_8, hf⟩ := bd3_of hf
    refine fn_V (v := some (.int r_5)) (As := []) (rest := []) (st1 := [.int r_5]) (ws' := (wMo X mo al sv sm asd th ho fr txt tl pos_6 r_1 nu_7 su)) (nL := 1) ⟨hx, hb, hml, hown, hts⟩ (c_X6_takesParts l X mo al sv sm asd th ho fr txt tl v_4 r_1 nu su r_5 pos_6 nu_7 hc_8) (cwV 0 hts gX6_takesOrder_X6_takesParts rfl rfl rfl (by decide +kernel) ⟨Nat.le_of_ble_eq_true rfl, Nat.le_of_ble_eq_true rfl⟩) 6 rfl rfl rfl rfl hl.1 rfl (Nat.le_of_ble_eq_true rfl) dX6_takesOrder_57 hK hP (hD0.addr rfl) hS hA [0, 1, 2, 3, 4, 5, 6, 7] rfl rfl rfl rfl ⟨Nat.zero_le _, Nat.zero_le _⟩ (fun H locs hP hD hS => ?_)
    refine lv_if_eq (tgt := 72) hx hb dX6_takesOrder_60 (by decide) (fun c_9 => ?_) (fun c_9 => ?_)
    · replace hf := fp_t c_9 hf
      refine lv_iconst (v := 0) hx hb dX6_takesOrder_72 (by decide) ?_
      cases hf
      exact fn_zret hx hb hr rfl hlocks hP hS dX6_takesOrder_73
    · replace hf := fp_f c_9 hf
      refine lv_aload_n hx hb dX6_takesOrder_63 rfl (lv_at hl 0 rfl) ?_
      obtain ⟨r_10, hc_11, hf⟩ := bd_of hf
      refine fn_V (v := some (.int r_10)) (As := []) (rest := []) (st1 := [.int r_10]) (ws' := (wMo X mo al sv sm asd th ho fr txt tl pos_6 r_1 nu_7 su)) (nL := 1) ⟨hx, hb, hml, hown, hts⟩ (c_X6_here l X mo al sv sm asd th ho fr txt tl pos_6 r_1 nu_7 su r_10 hc_11) (cwV 0 hts gX6_takesOrder_X6_here rfl rfl rfl (by decide +kernel) ⟨Nat.le_of_ble_eq_true rfl, Nat.le_of_ble_eq_true rfl⟩) 6 rfl rfl rfl rfl hl.1 rfl (Nat.le_of_ble_eq_true rfl) dX6_takesOrder_64 hK hP (hD0.addr rfl) hS hA [0, 1, 2, 3, 4, 5, 6, 7] rfl rfl rfl rfl ⟨Nat.zero_le _, Nat.zero_le _⟩ (fun H locs hP hD hS => ?_)
      refine lv_bipush (v := 59) hx hb dX6_takesOrder_67 (by decide) ?_
      refine lv_icmp_eq (tgt := 74) hx hb dX6_takesOrder_69 (by decide) (fun c_12 => ?_) (fun c_12 => ?_)
      · replace hf := fp_t c_12 hf
        refine lv_aload_n hx hb dX6_takesOrder_74 rfl (lv_at hl 0 rfl) ?_
        refine lv_dup hx hb dX6_takesOrder_75 rfl ?_
        refine va_get (D := X.1) (ci := 6) (v := .int pos_6) (C := RX6) (T := TX6) (N := 13) hx hb hts hiX6 hown hK.1 hP 0 rfl rfl 9 (by decide) k198 (fun _ h9 => h9) rfl dX6_takesOrder_76 ?_
        refine lv_iconst (v := 1) hx hb dX6_takesOrder_79 (by decide) ?_
        refine lv_iadd hx hb dX6_takesOrder_80 ?_
        refine lv_topi (fun v_13 ev_13 => ?_)
        replace hf := nm_of ev_13 hf
        refine va_put (D := X.1) (ci := 6) (v := .int v_13) (ty := .int) (C := RX6) (T := TX6) (N := 13) hx hb hts hiX6 tyX6 tyX6_ok nmX6 hown hK.1 hP (hD0.addr rfl) hS 0 rfl rfl 9 (by decide) k198 (fun _ h9 => h9) rfl (by decide +kernel) rfl rfl (Nat.le_of_ble_eq_true rfl) dX6_takesOrder_81 (fun H locs hP hD hS => ?_)
        have hP : va_P X.1 vwCl (wMo X mo al sv sm asd th ho fr txt tl v_13 r_1 nu_7 su) H := hP
        refine lv_iconst (v := 1) hx hb dX6_takesOrder_84 (by decide) ?_
        cases hf
        exact fn_zret hx hb hr rfl hlocks hP hS dX6_takesOrder_85
      · replace hf := fp_f c_12 hf
        refine lv_iconst (v := 0) hx hb dX6_takesOrder_72 (by decide) ?_
        cases hf
        exact fn_zret hx hb hr rfl hlocks hP hS dX6_takesOrder_73
  · replace hf := fp_f c_3 hf
    refine lv_aload_n hx hb dX6_takesOrder_17 rfl (lv_at hl 0 rfl) ?_
    refine va_get (D := X.1) (ci := 6) (v := .int r_1) (C := RX6) (T := TX6) (N := 13) hx hb hts hiX6 hown hK.1 hP 0 rfl rfl 10 (by decide) k208 (fun _ h9 => h9) rfl dX6_takesOrder_18 ?_
    refine lv_bipush (v := 118) hx hb dX6_takesOrder_21 (by decide) ?_
    refine lv_icmp_eq (tgt := 46) hx hb dX6_takesOrder_23 (by decide) (fun c_14 => ?_) (fun c_14 => ?_)
    · replace hf := fp_t c_14 hf
      refine lv_aload_n hx hb dX6_takesOrder_46 rfl (lv_at hl 0 rfl) ?_
      refine lv_dup hx hb dX6_takesOrder_47 rfl ?_
      refine va_get (D := X.1) (ci := 6) (v := .int pos) (C := RX6) (T := TX6) (N := 13) hx hb hts hiX6 hown hK.1 hP 0 rfl rfl 9 (by decide) k198 (fun _ h9 => h9) rfl dX6_takesOrder_48 ?_
      refine lv_iconst (v := 1) hx hb dX6_takesOrder_51 (by decide) ?_
      refine lv_iadd hx hb dX6_takesOrder_52 ?_
      refine lv_topi (fun v_15 ev_15 => ?_)
      replace hf := nm_of ev_15 hf
      refine va_put (D := X.1) (ci := 6) (v := .int v_15) (ty := .int) (C := RX6) (T := TX6) (N := 13) hx hb hts hiX6 tyX6 tyX6_ok nmX6 hown hK.1 hP (hD0.addr rfl) hS 0 rfl rfl 9 (by decide) k198 (fun _ h9 => h9) rfl (by decide +kernel) rfl rfl (Nat.le_of_ble_eq_true rfl) dX6_takesOrder_53 (fun H locs hP hD hS => ?_)
      have hP : va_P X.1 vwCl (wMo X mo al sv sm asd th ho fr txt tl v_15 r_1 nu su) H := hP
      refine lv_aload_n hx hb dX6_takesOrder_56 rfl (lv_at hl 0 rfl) ?_
      obtain ⟨r_16, pos_17, nu_18, hc_19, hf⟩ := bd3_of hf
      refine fn_V (v := some (.int r_16)) (As := []) (rest := []) (st1 := [.int r_16]) (ws' := (wMo X mo al sv sm asd th ho fr txt tl pos_17 r_1 nu_18 su)) (nL := 1) ⟨hx, hb, hml, hown, hts⟩ (c_X6_takesParts l X mo al sv sm asd th ho fr txt tl v_15 r_1 nu su r_16 pos_17 nu_18 hc_19) (cwV 0 hts gX6_takesOrder_X6_takesParts rfl rfl rfl (by decide +kernel) ⟨Nat.le_of_ble_eq_true rfl, Nat.le_of_ble_eq_true rfl⟩) 6 rfl rfl rfl rfl hl.1 rfl (Nat.le_of_ble_eq_true rfl) dX6_takesOrder_57 hK hP (hD0.addr rfl) hS hA [0, 1, 2, 3, 4, 5, 6, 7] rfl rfl rfl rfl ⟨Nat.zero_le _, Nat.zero_le _⟩ (fun H locs hP hD hS => ?_)
      refine lv_if_eq (tgt := 72) hx hb dX6_takesOrder_60 (by decide) (fun c_20 => ?_) (fun c_20 => ?_)
      · replace hf := fp_t c_20 hf
        refine lv_iconst (v := 0) hx hb dX6_takesOrder_72 (by decide) ?_
        cases hf
        exact fn_zret hx hb hr rfl hlocks hP hS dX6_takesOrder_73
      · replace hf := fp_f c_20 hf
        refine lv_aload_n hx hb dX6_takesOrder_63 rfl (lv_at hl 0 rfl) ?_
        obtain ⟨r_21, hc_22, hf⟩ := bd_of hf
        refine fn_V (v := some (.int r_21)) (As := []) (rest := []) (st1 := [.int r_21]) (ws' := (wMo X mo al sv sm asd th ho fr txt tl pos_17 r_1 nu_18 su)) (nL := 1) ⟨hx, hb, hml, hown, hts⟩ (c_X6_here l X mo al sv sm asd th ho fr txt tl pos_17 r_1 nu_18 su r_21 hc_22) (cwV 0 hts gX6_takesOrder_X6_here rfl rfl rfl (by decide +kernel) ⟨Nat.le_of_ble_eq_true rfl, Nat.le_of_ble_eq_true rfl⟩) 6 rfl rfl rfl rfl hl.1 rfl (Nat.le_of_ble_eq_true rfl) dX6_takesOrder_64 hK hP (hD0.addr rfl) hS hA [0, 1, 2, 3, 4, 5, 6, 7] rfl rfl rfl rfl ⟨Nat.zero_le _, Nat.zero_le _⟩ (fun H locs hP hD hS => ?_)
        refine lv_bipush (v := 59) hx hb dX6_takesOrder_67 (by decide) ?_
        refine lv_icmp_eq (tgt := 74) hx hb dX6_takesOrder_69 (by decide) (fun c_23 => ?_) (fun c_23 => ?_)
        · replace hf := fp_t c_23 hf
          refine lv_aload_n hx hb dX6_takesOrder_74 rfl (lv_at hl 0 rfl) ?_
          refine lv_dup hx hb dX6_takesOrder_75 rfl ?_
          refine va_get (D := X.1) (ci := 6) (v := .int pos_17) (C := RX6) (T := TX6) (N := 13) hx hb hts hiX6 hown hK.1 hP 0 rfl rfl 9 (by decide) k198 (fun _ h9 => h9) rfl dX6_takesOrder_76 ?_
          refine lv_iconst (v := 1) hx hb dX6_takesOrder_79 (by decide) ?_
          refine lv_iadd hx hb dX6_takesOrder_80 ?_
          refine lv_topi (fun v_24 ev_24 => ?_)
          replace hf := nm_of ev_24 hf
          refine va_put (D := X.1) (ci := 6) (v := .int v_24) (ty := .int) (C := RX6) (T := TX6) (N := 13) hx hb hts hiX6 tyX6 tyX6_ok nmX6 hown hK.1 hP (hD0.addr rfl) hS 0 rfl rfl 9 (by decide) k198 (fun _ h9 => h9) rfl (by decide +kernel) rfl rfl (Nat.le_of_ble_eq_true rfl) dX6_takesOrder_81 (fun H locs hP hD hS => ?_)
          have hP : va_P X.1 vwCl (wMo X mo al sv sm asd th ho fr txt tl v_24 r_1 nu_18 su) H := hP
          refine lv_iconst (v := 1) hx hb dX6_takesOrder_84 (by decide) ?_
          cases hf
          exact fn_zret hx hb hr rfl hlocks hP hS dX6_takesOrder_85
        · replace hf := fp_f c_23 hf
          refine lv_iconst (v := 0) hx hb dX6_takesOrder_72 (by decide) ?_
          cases hf
          exact fn_zret hx hb hr rfl hlocks hP hS dX6_takesOrder_73
    · replace hf := fp_f c_14 hf
      refine lv_aload_n hx hb dX6_takesOrder_26 rfl (lv_at hl 0 rfl) ?_
      refine va_get (D := X.1) (ci := 6) (v := .int r_1) (C := RX6) (T := TX6) (N := 13) hx hb hts hiX6 hown hK.1 hP 0 rfl rfl 10 (by decide) k208 (fun _ h9 => h9) rfl dX6_takesOrder_27 ?_
      refine lv_bipush (v := 99) hx hb dX6_takesOrder_30 (by decide) ?_
      refine lv_icmp_eq (tgt := 46) hx hb dX6_takesOrder_32 (by decide) (fun c_25 => ?_) (fun c_25 => ?_)
      · replace hf := fp_t c_25 hf
        refine lv_aload_n hx hb dX6_takesOrder_46 rfl (lv_at hl 0 rfl) ?_
        refine lv_dup hx hb dX6_takesOrder_47 rfl ?_
        refine va_get (D := X.1) (ci := 6) (v := .int pos) (C := RX6) (T := TX6) (N := 13) hx hb hts hiX6 hown hK.1 hP 0 rfl rfl 9 (by decide) k198 (fun _ h9 => h9) rfl dX6_takesOrder_48 ?_
        refine lv_iconst (v := 1) hx hb dX6_takesOrder_51 (by decide) ?_
        refine lv_iadd hx hb dX6_takesOrder_52 ?_
        refine lv_topi (fun v_26 ev_26 => ?_)
        replace hf := nm_of ev_26 hf
        refine va_put (D := X.1) (ci := 6) (v := .int v_26) (ty := .int) (C := RX6) (T := TX6) (N := 13) hx hb hts hiX6 tyX6 tyX6_ok nmX6 hown hK.1 hP (hD0.addr rfl) hS 0 rfl rfl 9 (by decide) k198 (fun _ h9 => h9) rfl (by decide +kernel) rfl rfl (Nat.le_of_ble_eq_true rfl) dX6_takesOrder_53 (fun H locs hP hD hS => ?_)
        have hP : va_P X.1 vwCl (wMo X mo al sv sm asd th ho fr txt tl v_26 r_1 nu su) H := hP
        refine lv_aload_n hx hb dX6_takesOrder_56 rfl (lv_at hl 0 rfl) ?_
        obtain ⟨r_27, pos_28, nu_29, hc_30, hf⟩ := bd3_of hf
        refine fn_V (v := some (.int r_27)) (As := []) (rest := []) (st1 := [.int r_27]) (ws' := (wMo X mo al sv sm asd th ho fr txt tl pos_28 r_1 nu_29 su)) (nL := 1) ⟨hx, hb, hml, hown, hts⟩ (c_X6_takesParts l X mo al sv sm asd th ho fr txt tl v_26 r_1 nu su r_27 pos_28 nu_29 hc_30) (cwV 0 hts gX6_takesOrder_X6_takesParts rfl rfl rfl (by decide +kernel) ⟨Nat.le_of_ble_eq_true rfl, Nat.le_of_ble_eq_true rfl⟩) 6 rfl rfl rfl rfl hl.1 rfl (Nat.le_of_ble_eq_true rfl) dX6_takesOrder_57 hK hP (hD0.addr rfl) hS hA [0, 1, 2, 3, 4, 5, 6, 7] rfl rfl rfl rfl ⟨Nat.zero_le _, Nat.zero_le _⟩ (fun H locs hP hD hS => ?_)
        refine lv_if_eq (tgt := 72) hx hb dX6_takesOrder_60 (by decide) (fun c_31 => ?_) (fun c_31 => ?_)
        · replace hf := fp_t c_31 hf
          refine lv_iconst (v := 0) hx hb dX6_takesOrder_72 (by decide) ?_
          cases hf
          exact fn_zret hx hb hr rfl hlocks hP hS dX6_takesOrder_73
        · replace hf := fp_f c_31 hf
          refine lv_aload_n hx hb dX6_takesOrder_63 rfl (lv_at hl 0 rfl) ?_
          obtain ⟨r_32, hc_33, hf⟩ := bd_of hf
          refine fn_V (v := some (.int r_32)) (As := []) (rest := []) (st1 := [.int r_32]) (ws' := (wMo X mo al sv sm asd th ho fr txt tl pos_28 r_1 nu_29 su)) (nL := 1) ⟨hx, hb, hml, hown, hts⟩ (c_X6_here l X mo al sv sm asd th ho fr txt tl pos_28 r_1 nu_29 su r_32 hc_33) (cwV 0 hts gX6_takesOrder_X6_here rfl rfl rfl (by decide +kernel) ⟨Nat.le_of_ble_eq_true rfl, Nat.le_of_ble_eq_true rfl⟩) 6 rfl rfl rfl rfl hl.1 rfl (Nat.le_of_ble_eq_true rfl) dX6_takesOrder_64 hK hP (hD0.addr rfl) hS hA [0, 1, 2, 3, 4, 5, 6, 7] rfl rfl rfl rfl ⟨Nat.zero_le _, Nat.zero_le _⟩ (fun H locs hP hD hS => ?_)
          refine lv_bipush (v := 59) hx hb dX6_takesOrder_67 (by decide) ?_
          refine lv_icmp_eq (tgt := 74) hx hb dX6_takesOrder_69 (by decide) (fun c_34 => ?_) (fun c_34 => ?_)
          · replace hf := fp_t c_34 hf
            refine lv_aload_n hx hb dX6_takesOrder_74 rfl (lv_at hl 0 rfl) ?_
            refine lv_dup hx hb dX6_takesOrder_75 rfl ?_
            refine va_get (D := X.1) (ci := 6) (v := .int pos_28) (C := RX6) (T := TX6) (N := 13) hx hb hts hiX6 hown hK.1 hP 0 rfl rfl 9 (by decide) k198 (fun _ h9 => h9) rfl dX6_takesOrder_76 ?_
            refine lv_iconst (v := 1) hx hb dX6_takesOrder_79 (by decide) ?_
            refine lv_iadd hx hb dX6_takesOrder_80 ?_
            refine lv_topi (fun v_35 ev_35 => ?_)
            replace hf := nm_of ev_35 hf
            refine va_put (D := X.1) (ci := 6) (v := .int v_35) (ty := .int) (C := RX6) (T := TX6) (N := 13) hx hb hts hiX6 tyX6 tyX6_ok nmX6 hown hK.1 hP (hD0.addr rfl) hS 0 rfl rfl 9 (by decide) k198 (fun _ h9 => h9) rfl (by decide +kernel) rfl rfl (Nat.le_of_ble_eq_true rfl) dX6_takesOrder_81 (fun H locs hP hD hS => ?_)
            have hP : va_P X.1 vwCl (wMo X mo al sv sm asd th ho fr txt tl v_35 r_1 nu_29 su) H := hP
            refine lv_iconst (v := 1) hx hb dX6_takesOrder_84 (by decide) ?_
            cases hf
            exact fn_zret hx hb hr rfl hlocks hP hS dX6_takesOrder_85
          · replace hf := fp_f c_34 hf
            refine lv_iconst (v := 0) hx hb dX6_takesOrder_72 (by decide) ?_
            cases hf
            exact fn_zret hx hb hr rfl hlocks hP hS dX6_takesOrder_73
      · replace hf := fp_f c_25 hf
        refine lv_aload_n hx hb dX6_takesOrder_35 rfl (lv_at hl 0 rfl) ?_
        refine va_get (D := X.1) (ci := 6) (v := .int r_1) (C := RX6) (T := TX6) (N := 13) hx hb hts hiX6 hown hK.1 hP 0 rfl rfl 10 (by decide) k208 (fun _ h9 => h9) rfl dX6_takesOrder_36 ?_
        refine lv_bipush (v := 116) hx hb dX6_takesOrder_39 (by decide) ?_
        refine lv_icmp_eq (tgt := 46) hx hb dX6_takesOrder_41 (by decide) (fun c_36 => ?_) (fun c_36 => ?_)
        · replace hf := fp_t c_36 hf
          refine lv_aload_n hx hb dX6_takesOrder_46 rfl (lv_at hl 0 rfl) ?_
          refine lv_dup hx hb dX6_takesOrder_47 rfl ?_
          refine va_get (D := X.1) (ci := 6) (v := .int pos) (C := RX6) (T := TX6) (N := 13) hx hb hts hiX6 hown hK.1 hP 0 rfl rfl 9 (by decide) k198 (fun _ h9 => h9) rfl dX6_takesOrder_48 ?_
          refine lv_iconst (v := 1) hx hb dX6_takesOrder_51 (by decide) ?_
          refine lv_iadd hx hb dX6_takesOrder_52 ?_
          refine lv_topi (fun v_37 ev_37 => ?_)
          replace hf := nm_of ev_37 hf
          refine va_put (D := X.1) (ci := 6) (v := .int v_37) (ty := .int) (C := RX6) (T := TX6) (N := 13) hx hb hts hiX6 tyX6 tyX6_ok nmX6 hown hK.1 hP (hD0.addr rfl) hS 0 rfl rfl 9 (by decide) k198 (fun _ h9 => h9) rfl (by decide +kernel) rfl rfl (Nat.le_of_ble_eq_true rfl) dX6_takesOrder_53 (fun H locs hP hD hS => ?_)
          have hP : va_P X.1 vwCl (wMo X mo al sv sm asd th ho fr txt tl v_37 r_1 nu su) H := hP
          refine lv_aload_n hx hb dX6_takesOrder_56 rfl (lv_at hl 0 rfl) ?_
          obtain ⟨r_38, pos_39, nu_40, hc_41, hf⟩ := bd3_of hf
          refine fn_V (v := some (.int r_38)) (As := []) (rest := []) (st1 := [.int r_38]) (ws' := (wMo X mo al sv sm asd th ho fr txt tl pos_39 r_1 nu_40 su)) (nL := 1) ⟨hx, hb, hml, hown, hts⟩ (c_X6_takesParts l X mo al sv sm asd th ho fr txt tl v_37 r_1 nu su r_38 pos_39 nu_40 hc_41) (cwV 0 hts gX6_takesOrder_X6_takesParts rfl rfl rfl (by decide +kernel) ⟨Nat.le_of_ble_eq_true rfl, Nat.le_of_ble_eq_true rfl⟩) 6 rfl rfl rfl rfl hl.1 rfl (Nat.le_of_ble_eq_true rfl) dX6_takesOrder_57 hK hP (hD0.addr rfl) hS hA [0, 1, 2, 3, 4, 5, 6, 7] rfl rfl rfl rfl ⟨Nat.zero_le _, Nat.zero_le _⟩ (fun H locs hP hD hS => ?_)
          refine lv_if_eq (tgt := 72) hx hb dX6_takesOrder_60 (by decide) (fun c_42 => ?_) (fun c_42 => ?_)
          · replace hf := fp_t c_42 hf
            refine lv_iconst (v := 0) hx hb dX6_takesOrder_72 (by decide) ?_
            cases hf
            exact fn_zret hx hb hr rfl hlocks hP hS dX6_takesOrder_73
          · replace hf := fp_f c_42 hf
            refine lv_aload_n hx hb dX6_takesOrder_63 rfl (lv_at hl 0 rfl) ?_
            obtain ⟨r_43, hc_44, hf⟩ := bd_of hf
            refine fn_V (v := some (.int r_43)) (As := []) (rest := []) (st1 := [.int r_43]) (ws' := (wMo X mo al sv sm asd th ho fr txt tl pos_39 r_1 nu_40 su)) (nL := 1) ⟨hx, hb, hml, hown, hts⟩ (c_X6_here l X mo al sv sm asd th ho fr txt tl pos_39 r_1 nu_40 su r_43 hc_44) (cwV 0 hts gX6_takesOrder_X6_here rfl rfl rfl (by decide +kernel) ⟨Nat.le_of_ble_eq_true rfl, Nat.le_of_ble_eq_true rfl⟩) 6 rfl rfl rfl rfl hl.1 rfl (Nat.le_of_ble_eq_true rfl) dX6_takesOrder_64 hK hP (hD0.addr rfl) hS hA [0, 1, 2, 3, 4, 5, 6, 7] rfl rfl rfl rfl ⟨Nat.zero_le _, Nat.zero_le _⟩ (fun H locs hP hD hS => ?_)
            refine lv_bipush (v := 59) hx hb dX6_takesOrder_67 (by decide) ?_
            refine lv_icmp_eq (tgt := 74) hx hb dX6_takesOrder_69 (by decide) (fun c_45 => ?_) (fun c_45 => ?_)
            · replace hf := fp_t c_45 hf
              refine lv_aload_n hx hb dX6_takesOrder_74 rfl (lv_at hl 0 rfl) ?_
              refine lv_dup hx hb dX6_takesOrder_75 rfl ?_
              refine va_get (D := X.1) (ci := 6) (v := .int pos_39) (C := RX6) (T := TX6) (N := 13) hx hb hts hiX6 hown hK.1 hP 0 rfl rfl 9 (by decide) k198 (fun _ h9 => h9) rfl dX6_takesOrder_76 ?_
              refine lv_iconst (v := 1) hx hb dX6_takesOrder_79 (by decide) ?_
              refine lv_iadd hx hb dX6_takesOrder_80 ?_
              refine lv_topi (fun v_46 ev_46 => ?_)
              replace hf := nm_of ev_46 hf
              refine va_put (D := X.1) (ci := 6) (v := .int v_46) (ty := .int) (C := RX6) (T := TX6) (N := 13) hx hb hts hiX6 tyX6 tyX6_ok nmX6 hown hK.1 hP (hD0.addr rfl) hS 0 rfl rfl 9 (by decide) k198 (fun _ h9 => h9) rfl (by decide +kernel) rfl rfl (Nat.le_of_ble_eq_true rfl) dX6_takesOrder_81 (fun H locs hP hD hS => ?_)
              have hP : va_P X.1 vwCl (wMo X mo al sv sm asd th ho fr txt tl v_46 r_1 nu_40 su) H := hP
              refine lv_iconst (v := 1) hx hb dX6_takesOrder_84 (by decide) ?_
              cases hf
              exact fn_zret hx hb hr rfl hlocks hP hS dX6_takesOrder_85
            · replace hf := fp_f c_45 hf
              refine lv_iconst (v := 0) hx hb dX6_takesOrder_72 (by decide) ?_
              cases hf
              exact fn_zret hx hb hr rfl hlocks hP hS dX6_takesOrder_73
        · replace hf := fp_f c_36 hf
          refine lv_iconst (v := 0) hx hb dX6_takesOrder_44 (by decide) ?_
          cases hf
          exact fn_zret hx hb hr rfl hlocks hP hS dX6_takesOrder_45

def f_X6_grantsOrder (al : (Nat → Int32)) (ho : (Nat → Int32)) (nu : (Nat → Int32)) : Option (Int32 × (Nat → Int32) × (Nat → Int32)) :=
  ix (0 : Int32) 5 (
  ix (1 : Int32) 5 (
  ix (2 : Int32) 5 (
  bd (f_X6_arePersons (nu (0 : Int32).toNatClampNeg) (nu (1 : Int32).toNatClampNeg) (nu (2 : Int32).toNatClampNeg) al) (fun r_4 =>
  if r_4 = (0 : Int32) then
  (some ((0 : Int32), al, ho))
  else
  (ix (0 : Int32) 5 (
  ix (1 : Int32) 5 (
  if nu (0 : Int32).toNatClampNeg = nu (1 : Int32).toNatClampNeg then
  (some ((0 : Int32), al, ho))
  else
  (ix (0 : Int32) 5 (
  ix (2 : Int32) 5 (
  ix (3 : Int32) 5 (
  ix (4 : Int32) 5 (
  bd2 (f_X6_mayGrant (nu (0 : Int32).toNatClampNeg) (nu (2 : Int32).toNatClampNeg) (nu (3 : Int32).toNatClampNeg) (nu (4 : Int32).toNatClampNeg) al ho) (fun r_17 ho_18 =>
  if r_17 = (0 : Int32) then
  (some ((0 : Int32), al, ho_18))
  else
  (ix (0 : Int32) 5 (
  ix (1 : Int32) 5 (
  ix (2 : Int32) 5 (
  ix (3 : Int32) 5 (
  ix (4 : Int32) 5 (
  bd (f_X6_lays (nu (0 : Int32).toNatClampNeg) (nu (1 : Int32).toNatClampNeg) (nu (2 : Int32).toNatClampNeg) (nu (3 : Int32).toNatClampNeg) (nu (4 : Int32).toNatClampNeg) al) (fun al_26 =>
  some ((1 : Int32), al_26, ho_18)))))))))))))))))))))
theorem z_X6_grantsOrder {al : (Nat → Int32)} {ho : (Nat → Int32)} {nu : (Nat → Int32)} {r : Int32} {al' : (Nat → Int32)} {ho' : (Nat → Int32)} (hf : f_X6_grantsOrder al ho nu = some (r, al', ho')) : r = 0 ∨ r = 1 := by
  unfold f_X6_grantsOrder at hf
  obtain ⟨hi_1, hf⟩ := ix_of hf
  obtain ⟨hi_2, hf⟩ := ix_of hf
  obtain ⟨hi_3, hf⟩ := ix_of hf
  obtain ⟨r_4, hc_5, hf⟩ := bd_of hf
  by_cases c_6 : r_4 = (0 : Int32)
  · replace hf := fp_t c_6 hf
    cases hf
    exact Or.inl rfl
  · replace hf := fp_f c_6 hf
    obtain ⟨hi_8, hf⟩ := ix_of hf
    obtain ⟨hi_9, hf⟩ := ix_of hf
    by_cases c_10 : nu (0 : Int32).toNatClampNeg = nu (1 : Int32).toNatClampNeg
    · replace hf := fp_t c_10 hf
      cases hf
      exact Or.inl rfl
    · replace hf := fp_f c_10 hf
      obtain ⟨hi_13, hf⟩ := ix_of hf
      obtain ⟨hi_14, hf⟩ := ix_of hf
      obtain ⟨hi_15, hf⟩ := ix_of hf
      obtain ⟨hi_16, hf⟩ := ix_of hf
      obtain ⟨r_17, ho_18, hc_19, hf⟩ := bd2_of hf
      by_cases c_20 : r_17 = (0 : Int32)
      · replace hf := fp_t c_20 hf
        cases hf
        exact Or.inl rfl
      · replace hf := fp_f c_20 hf
        obtain ⟨hi_21, hf⟩ := ix_of hf
        obtain ⟨hi_22, hf⟩ := ix_of hf
        obtain ⟨hi_23, hf⟩ := ix_of hf
        obtain ⟨hi_24, hf⟩ := ix_of hf
        obtain ⟨hi_25, hf⟩ := ix_of hf
        obtain ⟨al_26, hc_27, hf⟩ := bd_of hf
        cases hf
        exact Or.inr rfl
set_option maxHeartbeats 4000000 in
set_option maxRecDepth 100000 in
theorem c_X6_grantsOrder (l : Launch) (X : cx_G) (mo : (Nat → Nat)) (al : (Nat → Int32)) (sv : (Nat → Int32)) (sm : Int32) (asd : (Nat → Int32)) (th : Int32) (ho : (Nat → Int32)) (fr : (Nat → Int32)) (txt : (Nat → Int32)) (tl : Int32) (pos : Int32) (od : Int32) (nu : (Nat → Int32)) (su : Int64) (r : Int32) (al' : (Nat → Int32)) (ho' : (Nat → Int32)) (hf : f_X6_grantsOrder al ho nu = some (r, al', ho')) : Fn l yX6_grantsOrder wsX6_grantsOrder ({ frames := 4, cells := 0, slots := 0, locals := 93 } : Room) X [.ref (mo 0)] (wMo X mo al sv sm asd th ho fr txt tl pos od nu su) (some (.int r)) (wMo X mo al' sv sm asd th ho' fr txt tl pos od nu su) := by
  refine fn_intro (cc := cX6_grantsOrder) (maxL := 2) (ret := (some .boolean)) (by decide) rfl rfl (Nat.le_of_ble_eq_true rfl) ?_
  intro p e s m args below meth c A ls hx hb hml hr hts hown hlocks hK hP hD0 hS hA hl
  have hown : s.vm.findClass RX6 = some m.cls := hown
  have hl : lv_has ls 2 [(0, .ref (mo 0))] := hl
  have hiX6 : ∀ w ∈ u_ws RX6 TX6 13, w ∈ wsX6_grantsOrder := by decide +kernel
  have k28 := hts (.fieldLink RX6 28 "LentRightsModel" "numbers" "[I") (by decide +kernel)
  unfold f_X6_grantsOrder at hf
  refine lv_aload_n hx hb dX6_grantsOrder_0 rfl (lv_at hl 0 rfl) ?_
  refine lv_aload_n hx hb dX6_grantsOrder_1 rfl (lv_at hl 0 rfl) ?_
  refine va_get (D := X.1) (ci := 6) (v := .ref (mo 7)) (C := RX6) (T := TX6) (N := 13) hx hb hts hiX6 hown hK.1 hP 0 rfl rfl 11 (by decide) k28 (fun _ h9 => h9) rfl dX6_grantsOrder_2 ?_
  refine lv_iconst (v := 0) hx hb dX6_grantsOrder_5 (by decide) ?_
  obtain ⟨hi_1, hf⟩ := ix_of hf
  refine va_iald hx hb hK.1 hP 7 0 rfl rfl hi_1 dX6_grantsOrder_6 ?_
  refine lv_aload_n hx hb dX6_grantsOrder_7 rfl (lv_at hl 0 rfl) ?_
  refine va_get (D := X.1) (ci := 6) (v := .ref (mo 7)) (C := RX6) (T := TX6) (N := 13) hx hb hts hiX6 hown hK.1 hP 0 rfl rfl 11 (by decide) k28 (fun _ h9 => h9) rfl dX6_grantsOrder_8 ?_
  refine lv_iconst (v := 1) hx hb dX6_grantsOrder_11 (by decide) ?_
  obtain ⟨hi_2, hf⟩ := ix_of hf
  refine va_iald hx hb hK.1 hP 7 0 rfl rfl hi_2 dX6_grantsOrder_12 ?_
  refine lv_aload_n hx hb dX6_grantsOrder_13 rfl (lv_at hl 0 rfl) ?_
  refine va_get (D := X.1) (ci := 6) (v := .ref (mo 7)) (C := RX6) (T := TX6) (N := 13) hx hb hts hiX6 hown hK.1 hP 0 rfl rfl 11 (by decide) k28 (fun _ h9 => h9) rfl dX6_grantsOrder_14 ?_
  refine lv_iconst (v := 2) hx hb dX6_grantsOrder_17 (by decide) ?_
  obtain ⟨hi_3, hf⟩ := ix_of hf
  refine va_iald hx hb hK.1 hP 7 0 rfl rfl hi_3 dX6_grantsOrder_18 ?_
  obtain ⟨r_4, hc_5, hf⟩ := bd_of hf
  refine fn_V (v := some (.int r_4)) (As := [.int (nu (0 : Int32).toNatClampNeg), .int (nu (1 : Int32).toNatClampNeg), .int (nu (2 : Int32).toNatClampNeg)]) (rest := []) (st1 := [.int r_4]) (ws' := (wMo X mo al sv sm asd th ho fr txt tl pos od nu su)) (nL := 2) ⟨hx, hb, hml, hown, hts⟩ (c_X6_arePersons l X mo al sv sm asd th ho fr txt tl pos od nu su (nu (0 : Int32).toNatClampNeg) (nu (1 : Int32).toNatClampNeg) (nu (2 : Int32).toNatClampNeg) r_4 hc_5) (cwV 3 hts gX6_grantsOrder_X6_arePersons rfl rfl rfl (by decide +kernel) ⟨Nat.le_of_ble_eq_true rfl, Nat.le_of_ble_eq_true rfl⟩) 6 rfl rfl rfl rfl hl.1 rfl (Nat.le_of_ble_eq_true rfl) dX6_grantsOrder_19 hK hP (hD0.addr rfl) hS hA [0, 1, 2, 3, 4, 5, 6, 7] rfl rfl rfl rfl ⟨Nat.zero_le _, Nat.zero_le _⟩ (fun H locs hP hD hS => ?_)
  refine lv_if_eq (tgt := 44) hx hb dX6_grantsOrder_22 (by decide) (fun c_6 => ?_) (fun c_6 => ?_)
  · replace hf := fp_t c_6 hf
    refine lv_iconst (v := 0) hx hb dX6_grantsOrder_44 (by decide) ?_
    refine lv_istore_n (lv' := [(1, .int (0 : Int32)), (0, .ref (mo 0))]) hx hb dX6_grantsOrder_45 rfl hl (by decide) rfl (fun ls hl => ?_)
    refine lv_iload_n hx hb dX6_grantsOrder_46 rfl (lv_at hl 0 rfl) ?_
    refine lv_if_eq (tgt := 81) hx hb dX6_grantsOrder_47 (by decide) (fun _ => ?_) (fun c9 => absurd c9 (by decide))
    refine lv_iconst (v := 0) hx hb dX6_grantsOrder_81 (by decide) ?_
    cases hf
    exact fn_zret hx hb hr rfl hlocks hP hS dX6_grantsOrder_82
  · replace hf := fp_f c_6 hf
    refine lv_aload_n hx hb dX6_grantsOrder_25 rfl (lv_at hl 0 rfl) ?_
    refine va_get (D := X.1) (ci := 6) (v := .ref (mo 7)) (C := RX6) (T := TX6) (N := 13) hx hb hts hiX6 hown hK.1 hP 0 rfl rfl 11 (by decide) k28 (fun _ h9 => h9) rfl dX6_grantsOrder_26 ?_
    refine lv_iconst (v := 0) hx hb dX6_grantsOrder_29 (by decide) ?_
    obtain ⟨hi_8, hf⟩ := ix_of hf
    refine va_iald hx hb hK.1 hP 7 0 rfl rfl hi_8 dX6_grantsOrder_30 ?_
    refine lv_aload_n hx hb dX6_grantsOrder_31 rfl (lv_at hl 0 rfl) ?_
    refine va_get (D := X.1) (ci := 6) (v := .ref (mo 7)) (C := RX6) (T := TX6) (N := 13) hx hb hts hiX6 hown hK.1 hP 0 rfl rfl 11 (by decide) k28 (fun _ h9 => h9) rfl dX6_grantsOrder_32 ?_
    refine lv_iconst (v := 1) hx hb dX6_grantsOrder_35 (by decide) ?_
    obtain ⟨hi_9, hf⟩ := ix_of hf
    refine va_iald hx hb hK.1 hP 7 0 rfl rfl hi_9 dX6_grantsOrder_36 ?_
    refine lv_icmp_eq (tgt := 44) hx hb dX6_grantsOrder_37 (by decide) (fun c_10 => ?_) (fun c_10 => ?_)
    · replace hf := fp_t c_10 hf
      refine lv_iconst (v := 0) hx hb dX6_grantsOrder_44 (by decide) ?_
      refine lv_istore_n (lv' := [(1, .int (0 : Int32)), (0, .ref (mo 0))]) hx hb dX6_grantsOrder_45 rfl hl (by decide) rfl (fun ls hl => ?_)
      refine lv_iload_n hx hb dX6_grantsOrder_46 rfl (lv_at hl 0 rfl) ?_
      refine lv_if_eq (tgt := 81) hx hb dX6_grantsOrder_47 (by decide) (fun _ => ?_) (fun c9 => absurd c9 (by decide))
      refine lv_iconst (v := 0) hx hb dX6_grantsOrder_81 (by decide) ?_
      cases hf
      exact fn_zret hx hb hr rfl hlocks hP hS dX6_grantsOrder_82
    · replace hf := fp_f c_10 hf
      refine lv_iconst (v := 1) hx hb dX6_grantsOrder_40 (by decide) ?_
      refine lv_goto (tgt := 45) hx hb dX6_grantsOrder_41 (by decide) ?_
      refine lv_istore_n (lv' := [(1, .int (1 : Int32)), (0, .ref (mo 0))]) hx hb dX6_grantsOrder_45 rfl hl (by decide) rfl (fun ls hl => ?_)
      refine lv_iload_n hx hb dX6_grantsOrder_46 rfl (lv_at hl 0 rfl) ?_
      refine lv_if_eq (tgt := 81) hx hb dX6_grantsOrder_47 (by decide) (fun c9 => absurd c9 (by decide)) (fun _ => ?_)
      refine lv_aload_n hx hb dX6_grantsOrder_50 rfl (lv_at hl 1 rfl) ?_
      refine lv_aload_n hx hb dX6_grantsOrder_51 rfl (lv_at hl 1 rfl) ?_
      refine va_get (D := X.1) (ci := 6) (v := .ref (mo 7)) (C := RX6) (T := TX6) (N := 13) hx hb hts hiX6 hown hK.1 hP 0 rfl rfl 11 (by decide) k28 (fun _ h9 => h9) rfl dX6_grantsOrder_52 ?_
      refine lv_iconst (v := 0) hx hb dX6_grantsOrder_55 (by decide) ?_
      obtain ⟨hi_13, hf⟩ := ix_of hf
      refine va_iald hx hb hK.1 hP 7 0 rfl rfl hi_13 dX6_grantsOrder_56 ?_
      refine lv_aload_n hx hb dX6_grantsOrder_57 rfl (lv_at hl 1 rfl) ?_
      refine va_get (D := X.1) (ci := 6) (v := .ref (mo 7)) (C := RX6) (T := TX6) (N := 13) hx hb hts hiX6 hown hK.1 hP 0 rfl rfl 11 (by decide) k28 (fun _ h9 => h9) rfl dX6_grantsOrder_58 ?_
      refine lv_iconst (v := 2) hx hb dX6_grantsOrder_61 (by decide) ?_
      obtain ⟨hi_14, hf⟩ := ix_of hf
      refine va_iald hx hb hK.1 hP 7 0 rfl rfl hi_14 dX6_grantsOrder_62 ?_
      refine lv_aload_n hx hb dX6_grantsOrder_63 rfl (lv_at hl 1 rfl) ?_
      refine va_get (D := X.1) (ci := 6) (v := .ref (mo 7)) (C := RX6) (T := TX6) (N := 13) hx hb hts hiX6 hown hK.1 hP 0 rfl rfl 11 (by decide) k28 (fun _ h9 => h9) rfl dX6_grantsOrder_64 ?_
      refine lv_iconst (v := 3) hx hb dX6_grantsOrder_67 (by decide) ?_
      obtain ⟨hi_15, hf⟩ := ix_of hf
      refine va_iald hx hb hK.1 hP 7 0 rfl rfl hi_15 dX6_grantsOrder_68 ?_
      refine lv_aload_n hx hb dX6_grantsOrder_69 rfl (lv_at hl 1 rfl) ?_
      refine va_get (D := X.1) (ci := 6) (v := .ref (mo 7)) (C := RX6) (T := TX6) (N := 13) hx hb hts hiX6 hown hK.1 hP 0 rfl rfl 11 (by decide) k28 (fun _ h9 => h9) rfl dX6_grantsOrder_70 ?_
      refine lv_iconst (v := 4) hx hb dX6_grantsOrder_73 (by decide) ?_
      obtain ⟨hi_16, hf⟩ := ix_of hf
      refine va_iald hx hb hK.1 hP 7 0 rfl rfl hi_16 dX6_grantsOrder_74 ?_
      obtain ⟨r_17, ho_18, hc_19, hf⟩ := bd2_of hf
      refine fn_V (v := some (.int r_17)) (As := [.int (nu (0 : Int32).toNatClampNeg), .int (nu (2 : Int32).toNatClampNeg), .int (nu (3 : Int32).toNatClampNeg), .int (nu (4 : Int32).toNatClampNeg)]) (rest := []) (st1 := [.int r_17]) (ws' := (wMo X mo al sv sm asd th ho_18 fr txt tl pos od nu su)) (nL := 2) ⟨hx, hb, hml, hown, hts⟩ (c_X6_mayGrant l X mo al sv sm asd th ho fr txt tl pos od nu su (nu (0 : Int32).toNatClampNeg) (nu (2 : Int32).toNatClampNeg) (nu (3 : Int32).toNatClampNeg) (nu (4 : Int32).toNatClampNeg) r_17 ho_18 hc_19) (cwV 4 hts gX6_grantsOrder_X6_mayGrant rfl rfl rfl (by decide +kernel) ⟨Nat.le_of_ble_eq_true rfl, Nat.le_of_ble_eq_true rfl⟩) 6 rfl rfl rfl rfl hl.1 rfl (Nat.le_of_ble_eq_true rfl) dX6_grantsOrder_75 hK hP (hD0.addr rfl) hS hA [0, 1, 2, 3, 4, 5, 6, 7] rfl rfl rfl rfl ⟨Nat.zero_le _, Nat.zero_le _⟩ (fun H locs hP hD hS => ?_)
      refine lv_if_ne (tgt := 83) hx hb dX6_grantsOrder_78 (by decide) (fun c_20 => ?_) (fun c_20 => ?_)
      · replace hf := fp_f c_20 hf
        refine lv_aload_n hx hb dX6_grantsOrder_83 rfl (lv_at hl 1 rfl) ?_
        refine lv_aload_n hx hb dX6_grantsOrder_84 rfl (lv_at hl 1 rfl) ?_
        refine va_get (D := X.1) (ci := 6) (v := .ref (mo 7)) (C := RX6) (T := TX6) (N := 13) hx hb hts hiX6 hown hK.1 hP 0 rfl rfl 11 (by decide) k28 (fun _ h9 => h9) rfl dX6_grantsOrder_85 ?_
        refine lv_iconst (v := 0) hx hb dX6_grantsOrder_88 (by decide) ?_
        obtain ⟨hi_21, hf⟩ := ix_of hf
        refine va_iald hx hb hK.1 hP 7 0 rfl rfl hi_21 dX6_grantsOrder_89 ?_
        refine lv_aload_n hx hb dX6_grantsOrder_90 rfl (lv_at hl 1 rfl) ?_
        refine va_get (D := X.1) (ci := 6) (v := .ref (mo 7)) (C := RX6) (T := TX6) (N := 13) hx hb hts hiX6 hown hK.1 hP 0 rfl rfl 11 (by decide) k28 (fun _ h9 => h9) rfl dX6_grantsOrder_91 ?_
        refine lv_iconst (v := 1) hx hb dX6_grantsOrder_94 (by decide) ?_
        obtain ⟨hi_22, hf⟩ := ix_of hf
        refine va_iald hx hb hK.1 hP 7 0 rfl rfl hi_22 dX6_grantsOrder_95 ?_
        refine lv_aload_n hx hb dX6_grantsOrder_96 rfl (lv_at hl 1 rfl) ?_
        refine va_get (D := X.1) (ci := 6) (v := .ref (mo 7)) (C := RX6) (T := TX6) (N := 13) hx hb hts hiX6 hown hK.1 hP 0 rfl rfl 11 (by decide) k28 (fun _ h9 => h9) rfl dX6_grantsOrder_97 ?_
        refine lv_iconst (v := 2) hx hb dX6_grantsOrder_100 (by decide) ?_
        obtain ⟨hi_23, hf⟩ := ix_of hf
        refine va_iald hx hb hK.1 hP 7 0 rfl rfl hi_23 dX6_grantsOrder_101 ?_
        refine lv_aload_n hx hb dX6_grantsOrder_102 rfl (lv_at hl 1 rfl) ?_
        refine va_get (D := X.1) (ci := 6) (v := .ref (mo 7)) (C := RX6) (T := TX6) (N := 13) hx hb hts hiX6 hown hK.1 hP 0 rfl rfl 11 (by decide) k28 (fun _ h9 => h9) rfl dX6_grantsOrder_103 ?_
        refine lv_iconst (v := 3) hx hb dX6_grantsOrder_106 (by decide) ?_
        obtain ⟨hi_24, hf⟩ := ix_of hf
        refine va_iald hx hb hK.1 hP 7 0 rfl rfl hi_24 dX6_grantsOrder_107 ?_
        refine lv_aload_n hx hb dX6_grantsOrder_108 rfl (lv_at hl 1 rfl) ?_
        refine va_get (D := X.1) (ci := 6) (v := .ref (mo 7)) (C := RX6) (T := TX6) (N := 13) hx hb hts hiX6 hown hK.1 hP 0 rfl rfl 11 (by decide) k28 (fun _ h9 => h9) rfl dX6_grantsOrder_109 ?_
        refine lv_iconst (v := 4) hx hb dX6_grantsOrder_112 (by decide) ?_
        obtain ⟨hi_25, hf⟩ := ix_of hf
        refine va_iald hx hb hK.1 hP 7 0 rfl rfl hi_25 dX6_grantsOrder_113 ?_
        obtain ⟨al_26, hc_27, hf⟩ := bd_of hf
        refine fn_V (v := none) (As := [.int (nu (0 : Int32).toNatClampNeg), .int (nu (1 : Int32).toNatClampNeg), .int (nu (2 : Int32).toNatClampNeg), .int (nu (3 : Int32).toNatClampNeg), .int (nu (4 : Int32).toNatClampNeg)]) (rest := []) (st1 := []) (ws' := (wMo X mo al_26 sv sm asd th ho_18 fr txt tl pos od nu su)) (nL := 2) ⟨hx, hb, hml, hown, hts⟩ (c_X6_lays l X mo al sv sm asd th ho_18 fr txt tl pos od nu su (nu (0 : Int32).toNatClampNeg) (nu (1 : Int32).toNatClampNeg) (nu (2 : Int32).toNatClampNeg) (nu (3 : Int32).toNatClampNeg) (nu (4 : Int32).toNatClampNeg) al_26 hc_27) (cwV 5 hts gX6_grantsOrder_X6_lays rfl rfl rfl (by decide +kernel) ⟨Nat.le_of_ble_eq_true rfl, Nat.le_of_ble_eq_true rfl⟩) 6 rfl rfl rfl rfl hl.1 rfl (Nat.le_of_ble_eq_true rfl) dX6_grantsOrder_114 hK hP (hD0.addr rfl) hS hA [0, 1, 2, 3, 4, 5, 6, 7] rfl rfl rfl rfl ⟨Nat.zero_le _, Nat.zero_le _⟩ (fun H locs hP hD hS => ?_)
        refine lv_iconst (v := 1) hx hb dX6_grantsOrder_117 (by decide) ?_
        cases hf
        exact fn_zret hx hb hr rfl hlocks hP hS dX6_grantsOrder_118
      · replace hf := fp_t c_20 hf
        refine lv_iconst (v := 0) hx hb dX6_grantsOrder_81 (by decide) ?_
        cases hf
        exact fn_zret hx hb hr rfl hlocks hP hS dX6_grantsOrder_82

def f_X6_does (al : (Nat → Int32)) (ho : (Nat → Int32)) (od : Int32) (nu : (Nat → Int32)) : Option (Int32 × (Nat → Int32) × (Nat → Int32)) :=
  if od = (99 : Int32) then
  (ix (0 : Int32) 5 (
  ix (2 : Int32) 5 (
  ix (1 : Int32) 5 (
  bd (f_X6_cheers (nu (0 : Int32).toNatClampNeg) ((nu (2 : Int32).toNatClampNeg) * (nu (1 : Int32).toNatClampNeg)) al) (fun al_5 =>
  some ((1 : Int32), al_5, ho))))))
  else
  (if od = (103 : Int32) then
  (bd3 (f_X6_grantsOrder al ho nu) (fun r_8 al_9 ho_10 =>
  some (r_8, al_9, ho_10)))
  else
  (if od = (118 : Int32) then
  (ix (0 : Int32) 5 (
  bd (f_X6_placeOf (nu (0 : Int32).toNatClampNeg) al) (fun r_14 =>
  if r_14 = (-1 : Int32) then
  (some ((0 : Int32), al, ho))
  else
  (ix (0 : Int32) 5 (
  bd (f_X6_placeOf (nu (0 : Int32).toNatClampNeg) al) (fun r_18 =>
  bd3 (f_X6_revokes r_18 al ho) (fun r_20 al_21 ho_22 =>
  some ((1 : Int32), al_21, ho_22))))))))
  else
  (ix (0 : Int32) 5 (
  bd (f_X6_mayPass (nu (0 : Int32).toNatClampNeg) al) (fun r_25 =>
  if r_25 = (0 : Int32) then
  (some ((0 : Int32), al, ho))
  else
  (ix (0 : Int32) 5 (
  bd2 (f_X6_ticks (nu (0 : Int32).toNatClampNeg) al) (fun r_29 al_30 =>
  some ((1 : Int32), al_30, ho)))))))))
theorem z_X6_does {al : (Nat → Int32)} {ho : (Nat → Int32)} {od : Int32} {nu : (Nat → Int32)} {r : Int32} {al' : (Nat → Int32)} {ho' : (Nat → Int32)} (hf : f_X6_does al ho od nu = some (r, al', ho')) : r = 0 ∨ r = 1 := by
  unfold f_X6_does at hf
  by_cases c_1 : od = (99 : Int32)
  · replace hf := fp_t c_1 hf
    obtain ⟨hi_2, hf⟩ := ix_of hf
    obtain ⟨hi_3, hf⟩ := ix_of hf
    obtain ⟨hi_4, hf⟩ := ix_of hf
    obtain ⟨al_5, hc_6, hf⟩ := bd_of hf
    cases hf
    exact Or.inr rfl
  · replace hf := fp_f c_1 hf
    by_cases c_7 : od = (103 : Int32)
    · replace hf := fp_t c_7 hf
      obtain ⟨r_8, al_9, ho_10, hc_11, hf⟩ := bd3_of hf
      cases hf
      exact z_X6_grantsOrder hc_11
    · replace hf := fp_f c_7 hf
      by_cases c_12 : od = (118 : Int32)
      · replace hf := fp_t c_12 hf
        obtain ⟨hi_13, hf⟩ := ix_of hf
        obtain ⟨r_14, hc_15, hf⟩ := bd_of hf
        by_cases c_16 : r_14 = (-1 : Int32)
        · replace hf := fp_t c_16 hf
          cases hf
          exact Or.inl rfl
        · replace hf := fp_f c_16 hf
          obtain ⟨hi_17, hf⟩ := ix_of hf
          obtain ⟨r_18, hc_19, hf⟩ := bd_of hf
          obtain ⟨r_20, al_21, ho_22, hc_23, hf⟩ := bd3_of hf
          cases hf
          exact Or.inr rfl
      · replace hf := fp_f c_12 hf
        obtain ⟨hi_24, hf⟩ := ix_of hf
        obtain ⟨r_25, hc_26, hf⟩ := bd_of hf
        by_cases c_27 : r_25 = (0 : Int32)
        · replace hf := fp_t c_27 hf
          cases hf
          exact Or.inl rfl
        · replace hf := fp_f c_27 hf
          obtain ⟨hi_28, hf⟩ := ix_of hf
          obtain ⟨r_29, al_30, hc_31, hf⟩ := bd2_of hf
          cases hf
          exact Or.inr rfl
set_option maxHeartbeats 4000000 in
set_option maxRecDepth 100000 in
theorem c_X6_does (l : Launch) (X : cx_G) (mo : (Nat → Nat)) (al : (Nat → Int32)) (sv : (Nat → Int32)) (sm : Int32) (asd : (Nat → Int32)) (th : Int32) (ho : (Nat → Int32)) (fr : (Nat → Int32)) (txt : (Nat → Int32)) (tl : Int32) (pos : Int32) (od : Int32) (nu : (Nat → Int32)) (su : Int64) (r : Int32) (al' : (Nat → Int32)) (ho' : (Nat → Int32)) (hf : f_X6_does al ho od nu = some (r, al', ho')) : Fn l yX6_does wsX6_does ({ frames := 5, cells := 0, slots := 0, locals := 114 } : Room) X [.ref (mo 0)] (wMo X mo al sv sm asd th ho fr txt tl pos od nu su) (some (.int r)) (wMo X mo al' sv sm asd th ho' fr txt tl pos od nu su) := by
  refine fn_intro (cc := cX6_does) (maxL := 2) (ret := (some .boolean)) (by decide) rfl rfl (Nat.le_of_ble_eq_true rfl) ?_
  intro p e s m args below meth c A ls hx hb hml hr hts hown hlocks hK hP hD0 hS hA hl
  have hown : s.vm.findClass RX6 = some m.cls := hown
  have hl : lv_has ls 2 [(0, .ref (mo 0))] := hl
  have hiX6 : ∀ w ∈ u_ws RX6 TX6 13, w ∈ wsX6_does := by decide +kernel
  have k28 := hts (.fieldLink RX6 28 "LentRightsModel" "numbers" "[I") (by decide +kernel)
  have k208 := hts (.fieldLink RX6 208 "LentRightsModel" "order" "I") (by decide +kernel)
  unfold f_X6_does at hf
  refine lv_iconst (v := 0) hx hb dX6_does_0 (by decide) ?_
  refine lv_istore_n (lv' := [(1, .int (0 : Int32)), (0, .ref (mo 0))]) hx hb dX6_does_1 rfl hl (by decide) rfl (fun ls hl => ?_)
  refine lv_aload_n hx hb dX6_does_2 rfl (lv_at hl 1 rfl) ?_
  refine va_get (D := X.1) (ci := 6) (v := .int od) (C := RX6) (T := TX6) (N := 13) hx hb hts hiX6 hown hK.1 hP 0 rfl rfl 10 (by decide) k208 (fun _ h9 => h9) rfl dX6_does_3 ?_
  by_cases c_1 : od = (99 : Int32)
  · replace hf := fp_t c_1 hf
    refine lv_lookup (off := 72) (tgt := 78) hx hb dX6_does_6 (by decide) (by rw [c_1]; rfl) (by decide) ?_
    refine lv_aload_n hx hb dX6_does_78 rfl (lv_at hl 1 rfl) ?_
    refine lv_aload_n hx hb dX6_does_79 rfl (lv_at hl 1 rfl) ?_
    refine va_get (D := X.1) (ci := 6) (v := .ref (mo 7)) (C := RX6) (T := TX6) (N := 13) hx hb hts hiX6 hown hK.1 hP 0 rfl rfl 11 (by decide) k28 (fun _ h9 => h9) rfl dX6_does_80 ?_
    refine lv_iconst (v := 0) hx hb dX6_does_83 (by decide) ?_
    obtain ⟨hi_2, hf⟩ := ix_of hf
    refine va_iald hx hb hK.1 hP 7 0 rfl rfl hi_2 dX6_does_84 ?_
    refine lv_aload_n hx hb dX6_does_85 rfl (lv_at hl 1 rfl) ?_
    refine va_get (D := X.1) (ci := 6) (v := .ref (mo 7)) (C := RX6) (T := TX6) (N := 13) hx hb hts hiX6 hown hK.1 hP 0 rfl rfl 11 (by decide) k28 (fun _ h9 => h9) rfl dX6_does_86 ?_
    refine lv_iconst (v := 2) hx hb dX6_does_89 (by decide) ?_
    obtain ⟨hi_3, hf⟩ := ix_of hf
    refine va_iald hx hb hK.1 hP 7 0 rfl rfl hi_3 dX6_does_90 ?_
    refine lv_aload_n hx hb dX6_does_91 rfl (lv_at hl 1 rfl) ?_
    refine va_get (D := X.1) (ci := 6) (v := .ref (mo 7)) (C := RX6) (T := TX6) (N := 13) hx hb hts hiX6 hown hK.1 hP 0 rfl rfl 11 (by decide) k28 (fun _ h9 => h9) rfl dX6_does_92 ?_
    refine lv_iconst (v := 1) hx hb dX6_does_95 (by decide) ?_
    obtain ⟨hi_4, hf⟩ := ix_of hf
    refine va_iald hx hb hK.1 hP 7 0 rfl rfl hi_4 dX6_does_96 ?_
    refine lv_imul hx hb dX6_does_97 ?_
    obtain ⟨al_5, hc_6, hf⟩ := bd_of hf
    refine fn_V (v := none) (As := [.int (nu (0 : Int32).toNatClampNeg), .int ((nu (2 : Int32).toNatClampNeg) * (nu (1 : Int32).toNatClampNeg))]) (rest := []) (st1 := []) (ws' := (wMo X mo al_5 sv sm asd th ho fr txt tl pos od nu su)) (nL := 2) ⟨hx, hb, hml, hown, hts⟩ (c_X6_cheers l X mo al sv sm asd th ho fr txt tl pos od nu su (nu (0 : Int32).toNatClampNeg) ((nu (2 : Int32).toNatClampNeg) * (nu (1 : Int32).toNatClampNeg)) al_5 hc_6) (cwV 2 hts gX6_does_X6_cheers rfl rfl rfl (by decide +kernel) ⟨Nat.le_of_ble_eq_true rfl, Nat.le_of_ble_eq_true rfl⟩) 6 rfl rfl rfl rfl hl.1 rfl (Nat.le_of_ble_eq_true rfl) dX6_does_98 hK hP (hD0.addr rfl) hS hA [0, 1, 2, 3, 4, 5, 6, 7] rfl rfl rfl rfl ⟨Nat.zero_le _, Nat.zero_le _⟩ (fun H locs hP hD hS => ?_)
    refine lv_iconst (v := 1) hx hb dX6_does_101 (by decide) ?_
    cases hf
    exact fn_zret hx hb hr rfl hlocks hP hS dX6_does_102
  · replace hf := fp_f c_1 hf
    by_cases c_7 : od = (103 : Int32)
    · replace hf := fp_t c_7 hf
      refine lv_lookup (off := 34) (tgt := 40) hx hb dX6_does_6 (by decide) (by rw [c_7]; rfl) (by decide) ?_
      refine lv_aload_n hx hb dX6_does_40 rfl (lv_at hl 1 rfl) ?_
      obtain ⟨r_8, al_9, ho_10, hc_11, hf⟩ := bd3_of hf
      refine fn_V (v := some (.int r_8)) (As := []) (rest := []) (st1 := [.int r_8]) (ws' := (wMo X mo al_9 sv sm asd th ho_10 fr txt tl pos od nu su)) (nL := 2) ⟨hx, hb, hml, hown, hts⟩ (c_X6_grantsOrder l X mo al sv sm asd th ho fr txt tl pos od nu su r_8 al_9 ho_10 hc_11) (cwV 0 hts gX6_does_X6_grantsOrder rfl rfl rfl (by decide +kernel) ⟨Nat.le_of_ble_eq_true rfl, Nat.le_of_ble_eq_true rfl⟩) 6 rfl rfl rfl rfl hl.1 rfl (Nat.le_of_ble_eq_true rfl) dX6_does_41 hK hP (hD0.addr rfl) hS hA [0, 1, 2, 3, 4, 5, 6, 7] rfl rfl rfl rfl ⟨Nat.zero_le _, Nat.zero_le _⟩ (fun H locs hP hD hS => ?_)
      cases hf
      exact fn_zret hx hb hr (z_narrow (z_X6_grantsOrder hc_11)) hlocks hP hS dX6_does_44
    · replace hf := fp_f c_7 hf
      by_cases c_12 : od = (118 : Int32)
      · replace hf := fp_t c_12 hf
        refine lv_lookup (off := 39) (tgt := 45) hx hb dX6_does_6 (by decide) (by rw [c_12]; rfl) (by decide) ?_
        refine lv_aload_n hx hb dX6_does_45 rfl (lv_at hl 1 rfl) ?_
        refine lv_aload_n hx hb dX6_does_46 rfl (lv_at hl 1 rfl) ?_
        refine va_get (D := X.1) (ci := 6) (v := .ref (mo 7)) (C := RX6) (T := TX6) (N := 13) hx hb hts hiX6 hown hK.1 hP 0 rfl rfl 11 (by decide) k28 (fun _ h9 => h9) rfl dX6_does_47 ?_
        refine lv_iconst (v := 0) hx hb dX6_does_50 (by decide) ?_
        obtain ⟨hi_13, hf⟩ := ix_of hf
        refine va_iald hx hb hK.1 hP 7 0 rfl rfl hi_13 dX6_does_51 ?_
        obtain ⟨r_14, hc_15, hf⟩ := bd_of hf
        refine fn_V (v := some (.int r_14)) (As := [.int (nu (0 : Int32).toNatClampNeg)]) (rest := []) (st1 := [.int r_14]) (ws' := (wMo X mo al sv sm asd th ho fr txt tl pos od nu su)) (nL := 2) ⟨hx, hb, hml, hown, hts⟩ (c_X6_placeOf l X mo al sv sm asd th ho fr txt tl pos od nu su (nu (0 : Int32).toNatClampNeg) r_14 hc_15) (cwV 1 hts gX6_does_X6_placeOf rfl rfl rfl (by decide +kernel) ⟨Nat.le_of_ble_eq_true rfl, Nat.le_of_ble_eq_true rfl⟩) 6 rfl rfl rfl rfl hl.1 rfl (Nat.le_of_ble_eq_true rfl) dX6_does_52 hK hP (hD0.addr rfl) hS hA [0, 1, 2, 3, 4, 5, 6, 7] rfl rfl rfl rfl ⟨Nat.zero_le _, Nat.zero_le _⟩ (fun H locs hP hD hS => ?_)
        refine lv_iconst (v := -1) hx hb dX6_does_55 (by decide) ?_
        refine lv_icmp_ne (tgt := 61) hx hb dX6_does_56 (by decide) (fun c_16 => ?_) (fun c_16 => ?_)
        · replace hf := fp_f c_16 hf
          refine lv_aload_n hx hb dX6_does_61 rfl (lv_at hl 1 rfl) ?_
          refine lv_aload_n hx hb dX6_does_62 rfl (lv_at hl 1 rfl) ?_
          refine lv_aload_n hx hb dX6_does_63 rfl (lv_at hl 1 rfl) ?_
          refine va_get (D := X.1) (ci := 6) (v := .ref (mo 7)) (C := RX6) (T := TX6) (N := 13) hx hb hts hiX6 hown hK.1 hP 0 rfl rfl 11 (by decide) k28 (fun _ h9 => h9) rfl dX6_does_64 ?_
          refine lv_iconst (v := 0) hx hb dX6_does_67 (by decide) ?_
          obtain ⟨hi_17, hf⟩ := ix_of hf
          refine va_iald hx hb hK.1 hP 7 0 rfl rfl hi_17 dX6_does_68 ?_
          obtain ⟨r_18, hc_19, hf⟩ := bd_of hf
          refine fn_V (v := some (.int r_18)) (As := [.int (nu (0 : Int32).toNatClampNeg)]) (rest := [.ref (mo 0)]) (st1 := [.int r_18, .ref (mo 0)]) (ws' := (wMo X mo al sv sm asd th ho fr txt tl pos od nu su)) (nL := 2) ⟨hx, hb, hml, hown, hts⟩ (c_X6_placeOf l X mo al sv sm asd th ho fr txt tl pos od nu su (nu (0 : Int32).toNatClampNeg) r_18 hc_19) (cwV 1 hts gX6_does_X6_placeOf rfl rfl rfl (by decide +kernel) ⟨Nat.le_of_ble_eq_true rfl, Nat.le_of_ble_eq_true rfl⟩) 6 rfl rfl rfl rfl hl.1 rfl (Nat.le_of_ble_eq_true rfl) dX6_does_69 hK hP (hD0.addr rfl) hS hA [0, 1, 2, 3, 4, 5, 6, 7] rfl rfl rfl rfl ⟨Nat.zero_le _, Nat.zero_le _⟩ (fun H locs hP hD hS => ?_)
          obtain ⟨r_20, al_21, ho_22, hc_23, hf⟩ := bd3_of hf
          refine fn_V (v := some (.int r_20)) (As := [.int r_18]) (rest := []) (st1 := [.int r_20]) (ws' := (wMo X mo al_21 sv sm asd th ho_22 fr txt tl pos od nu su)) (nL := 2) ⟨hx, hb, hml, hown, hts⟩ (c_X6_revokes l X mo al sv sm asd th ho fr txt tl pos od nu su r_18 r_20 al_21 ho_22 hc_23) (cwV 1 hts gX6_does_X6_revokes rfl rfl rfl (by decide +kernel) ⟨Nat.le_of_ble_eq_true rfl, Nat.le_of_ble_eq_true rfl⟩) 6 rfl rfl rfl rfl hl.1 rfl (Nat.le_of_ble_eq_true rfl) dX6_does_72 hK hP (hD0.addr rfl) hS hA [0, 1, 2, 3, 4, 5, 6, 7] rfl rfl rfl rfl ⟨Nat.zero_le _, Nat.zero_le _⟩ (fun H locs hP hD hS => ?_)
          refine lv_istore_n (lv' := [(1, .int r_20), (0, .ref (mo 0))]) hx hb dX6_does_75 rfl hl (by decide) rfl (fun ls hl => ?_)
          refine lv_iconst (v := 1) hx hb dX6_does_76 (by decide) ?_
          cases hf
          exact fn_zret hx hb hr rfl hlocks hP hS dX6_does_77
        · replace hf := fp_t c_16 hf
          refine lv_iconst (v := 0) hx hb dX6_does_59 (by decide) ?_
          cases hf
          exact fn_zret hx hb hr rfl hlocks hP hS dX6_does_60
      · replace hf := fp_f c_12 hf
        have hsw : Op.lookupswitch.offset [(99, 72), (103, 34), (118, 39)] 97 od.toInt = 97 := by
          rw [Op.lookupswitch.offset_cons, if_neg (show ¬ (99 : Int) = od.toInt from sw_ne (99 : Int32) c_1), Op.lookupswitch.offset_cons, if_neg (show ¬ (103 : Int) = od.toInt from sw_ne (103 : Int32) c_7), Op.lookupswitch.offset_cons, if_neg (show ¬ (118 : Int) = od.toInt from sw_ne (118 : Int32) c_12), Op.lookupswitch.offset_nil]
        refine lv_lookup (off := 97) (tgt := 103) hx hb dX6_does_6 (by decide) hsw (by decide) ?_
        refine lv_aload_n hx hb dX6_does_103 rfl (lv_at hl 1 rfl) ?_
        refine lv_aload_n hx hb dX6_does_104 rfl (lv_at hl 1 rfl) ?_
        refine va_get (D := X.1) (ci := 6) (v := .ref (mo 7)) (C := RX6) (T := TX6) (N := 13) hx hb hts hiX6 hown hK.1 hP 0 rfl rfl 11 (by decide) k28 (fun _ h9 => h9) rfl dX6_does_105 ?_
        refine lv_iconst (v := 0) hx hb dX6_does_108 (by decide) ?_
        obtain ⟨hi_24, hf⟩ := ix_of hf
        refine va_iald hx hb hK.1 hP 7 0 rfl rfl hi_24 dX6_does_109 ?_
        obtain ⟨r_25, hc_26, hf⟩ := bd_of hf
        refine fn_V (v := some (.int r_25)) (As := [.int (nu (0 : Int32).toNatClampNeg)]) (rest := []) (st1 := [.int r_25]) (ws' := (wMo X mo al sv sm asd th ho fr txt tl pos od nu su)) (nL := 2) ⟨hx, hb, hml, hown, hts⟩ (c_X6_mayPass l X mo al sv sm asd th ho fr txt tl pos od nu su (nu (0 : Int32).toNatClampNeg) r_25 hc_26) (cwV 1 hts gX6_does_X6_mayPass rfl rfl rfl (by decide +kernel) ⟨Nat.le_of_ble_eq_true rfl, Nat.le_of_ble_eq_true rfl⟩) 6 rfl rfl rfl rfl hl.1 rfl (Nat.le_of_ble_eq_true rfl) dX6_does_110 hK hP (hD0.addr rfl) hS hA [0, 1, 2, 3, 4, 5, 6, 7] rfl rfl rfl rfl ⟨Nat.zero_le _, Nat.zero_le _⟩ (fun H locs hP hD hS => ?_)
        refine lv_if_ne (tgt := 118) hx hb dX6_does_113 (by decide) (fun c_27 => ?_) (fun c_27 => ?_)
        · replace hf := fp_f c_27 hf
          refine lv_aload_n hx hb dX6_does_118 rfl (lv_at hl 1 rfl) ?_
          refine lv_aload_n hx hb dX6_does_119 rfl (lv_at hl 1 rfl) ?_
          refine va_get (D := X.1) (ci := 6) (v := .ref (mo 7)) (C := RX6) (T := TX6) (N := 13) hx hb hts hiX6 hown hK.1 hP 0 rfl rfl 11 (by decide) k28 (fun _ h9 => h9) rfl dX6_does_120 ?_
          refine lv_iconst (v := 0) hx hb dX6_does_123 (by decide) ?_
          obtain ⟨hi_28, hf⟩ := ix_of hf
          refine va_iald hx hb hK.1 hP 7 0 rfl rfl hi_28 dX6_does_124 ?_
          obtain ⟨r_29, al_30, hc_31, hf⟩ := bd2_of hf
          refine fn_V (v := some (.int r_29)) (As := [.int (nu (0 : Int32).toNatClampNeg)]) (rest := []) (st1 := [.int r_29]) (ws' := (wMo X mo al_30 sv sm asd th ho fr txt tl pos od nu su)) (nL := 2) ⟨hx, hb, hml, hown, hts⟩ (c_X6_ticks l X mo al sv sm asd th ho fr txt tl pos od nu su (nu (0 : Int32).toNatClampNeg) r_29 al_30 hc_31) (cwV 1 hts gX6_does_X6_ticks rfl rfl rfl (by decide +kernel) ⟨Nat.le_of_ble_eq_true rfl, Nat.le_of_ble_eq_true rfl⟩) 6 rfl rfl rfl rfl hl.1 rfl (Nat.le_of_ble_eq_true rfl) dX6_does_125 hK hP (hD0.addr rfl) hS hA [0, 1, 2, 3, 4, 5, 6, 7] rfl rfl rfl rfl ⟨Nat.zero_le _, Nat.zero_le _⟩ (fun H locs hP hD hS => ?_)
          refine lv_istore_n (lv' := [(1, .int r_29), (0, .ref (mo 0))]) hx hb dX6_does_128 rfl hl (by decide) rfl (fun ls hl => ?_)
          refine lv_iconst (v := 1) hx hb dX6_does_129 (by decide) ?_
          cases hf
          exact fn_zret hx hb hr rfl hlocks hP hS dX6_does_130
        · replace hf := fp_t c_27 hf
          refine lv_iconst (v := 0) hx hb dX6_does_116 (by decide) ?_
          cases hf
          exact fn_zret hx hb hr rfl hlocks hP hS dX6_does_117

def f_X6_carryOut_L47 (txt : (Nat → Int32)) (tl : Int32) : Nat → Int32 → (Nat → Int32) → (Nat → Int32) → Int32 → Int32 → (Nat → Int32) →  Option (Int32 × (Nat → Int32) × (Nat → Int32) × Int32 × Int32 × (Nat → Int32))
  | 0, _, _, _, _, _, _ => none
  | k_ + 1, x1, al, ho, pos, od, nu =>
    if tl ≤ pos then
    (some (x1, al, ho, pos, od, nu))
    else
    (bd4 (f_X6_takesOrder txt tl pos od nu) (fun r_2 pos_3 od_4 nu_5 =>
    if r_2 = (0 : Int32) then
    (some (x1, al, ho, pos_3, od_4, nu_5))
    else
    (bd3 (f_X6_does al ho od_4 nu_5) (fun r_8 al_9 ho_10 =>
    if r_8 = (0 : Int32) then
    (some (x1, al_9, ho_10, pos_3, od_4, nu_5))
    else
    (nm (x1 + (1 : Int32)) (fun v_13 =>
    f_X6_carryOut_L47 txt tl k_ v_13 al_9 ho_10 pos_3 od_4 nu_5))))))
def f_X6_carryOut_L10 (al : (Nat → Int32)) (sv : (Nat → Int32)) (sm : Int32) (th : Int32) (ho : (Nat → Int32)) (txt : (Nat → Int32)) (tl : Int32) : Nat → Int32 → Int32 → (Nat → Int32) →  Option (Int32 × (Nat → Int32) × (Nat → Int32) × Int32 × Int32 × (Nat → Int32) × Int32 × Int32 × (Nat → Int32))
  | 0, _, _, _ => none
  | k_ + 1, pos, od, nu =>
    if tl ≤ pos then
    (bd2 (f_X6_save al sv sm) (fun sv_15 sm_16 =>
    bd6 (f_X6_carryOut_L47 txt tl FU (0 : Int32) al ho (0 : Int32) od nu) (fun y1_18 al_19 ho_20 pos_21 od_22 nu_23 =>
    some (y1_18, al_19, sv_15, sm_16, th, ho_20, pos_21, od_22, nu_23))))
    else
    (bd4 (f_X6_takesOrder txt tl pos od nu) (fun r_25 pos_26 od_27 nu_28 =>
    if r_25 = (0 : Int32) then
    (nm ((-10 : Int32) - pos_26) (fun v_31 =>
    some (v_31, al, sv, sm, th, ho, pos_26, od_27, nu_28)))
    else
    (f_X6_carryOut_L10 al sv sm th ho txt tl k_ pos_26 od_27 nu_28)))
def f_X6_carryOut (al : (Nat → Int32)) (sv : (Nat → Int32)) (sm : Int32) (th : Int32) (ho : (Nat → Int32)) (txt : (Nat → Int32)) (tl : Int32) (pos : Int32) (od : Int32) (nu : (Nat → Int32)) : Option (Int32 × (Nat → Int32) × (Nat → Int32) × Int32 × Int32 × (Nat → Int32) × Int32 × Int32 × (Nat → Int32)) :=
  f_X6_carryOut_L10 al sv sm (0 : Int32) ho txt tl FU (0 : Int32) od nu
set_option maxHeartbeats 4000000 in
set_option maxRecDepth 100000 in
theorem c_X6_carryOut (l : Launch) (X : cx_G) (mo : (Nat → Nat)) (al : (Nat → Int32)) (sv : (Nat → Int32)) (sm : Int32) (asd : (Nat → Int32)) (th : Int32) (ho : (Nat → Int32)) (fr : (Nat → Int32)) (txt : (Nat → Int32)) (tl : Int32) (pos : Int32) (od : Int32) (nu : (Nat → Int32)) (su : Int64) (r : Int32) (al' : (Nat → Int32)) (sv' : (Nat → Int32)) (sm' : Int32) (th' : Int32) (ho' : (Nat → Int32)) (pos' : Int32) (od' : Int32) (nu' : (Nat → Int32)) (hf : f_X6_carryOut al sv sm th ho txt tl pos od nu = some (r, al', sv', sm', th', ho', pos', od', nu')) : Fn l yX6_carryOut wsX6_carryOut ({ frames := 6, cells := 0, slots := 0, locals := 135 } : Room) X [.ref (mo 0)] (wMo X mo al sv sm asd th ho fr txt tl pos od nu su) (some (.int r)) (wMo X mo al' sv' sm' asd th' ho' fr txt tl pos' od' nu' su) := by
  refine fn_intro (cc := cX6_carryOut) (maxL := 2) (ret := (some .int)) (by decide) rfl rfl (Nat.le_of_ble_eq_true rfl) ?_
  intro p e s m args below meth c A ls hx hb hml hr hts hown hlocks hK hP hD0 hS hA hl
  have hown : s.vm.findClass RX6 = some m.cls := hown
  have hl : lv_has ls 2 [(0, .ref (mo 0))] := hl
  have hiX6 : ∀ w ∈ u_ws RX6 TX6 13, w ∈ wsX6_carryOut := by decide +kernel
  have k31 := hts (.fieldLink RX6 31 "LentRightsModel" "thrown" "I") (by decide +kernel)
  have k195 := hts (.fieldLink RX6 195 "LentRightsModel" "textLong" "I") (by decide +kernel)
  have k198 := hts (.fieldLink RX6 198 "LentRightsModel" "at" "I") (by decide +kernel)
  have loop_47 : ∀ (Q : State → Prop) (sv : (Nat → Int32)) (sm : Int32) (th : Int32) (y1 : Int32) (alo : (Nat → Int32)) (hoo : (Nat → Int32)) (poso : Int32) (odo : Int32) (nuo : (Nat → Int32)), (∀ (H : Heap) (locs : List Loc) (ls : Array Slot), va_P X.1 vwCl (wMo X mo alo sv sm asd th hoo fr txt tl poso odo nuo su) H → va_S A s.heap H locs → lv_has ls 2 [(1, .int y1)] → W p l e ({ frames := 6, cells := 0, slots := 0, locals := 135 } : Room) s m args below meth c H locs 0 0 Q (F0 m 78 ls [])) → ∀ (k_ : Nat) (x1 : Int32) (al : (Nat → Int32)) (ho : (Nat → Int32)) (pos : Int32) (od : Int32) (nu : (Nat → Int32)) (H : Heap) (locs : List Loc) (ls : Array Slot), f_X6_carryOut_L47 txt tl k_ x1 al ho pos od nu = some (y1, alo, hoo, poso, odo, nuo) → va_P X.1 vwCl (wMo X mo al sv sm asd th ho fr txt tl pos od nu su) H → va_S A s.heap H locs → lv_has ls 2 [(0, .ref (mo 0)), (1, .int x1)] → W p l e ({ frames := 6, cells := 0, slots := 0, locals := 135 } : Room) s m args below meth c H locs 0 0 Q (F0 m 47 ls []) := by
    intro Q sv sm th y1 alo hoo poso odo nuo kx k_
    induction k_ with
    | zero => intro x1 al ho pos od nu H locs ls hf; exact nomatch (show (none : Option (Int32 × (Nat → Int32) × (Nat → Int32) × Int32 × Int32 × (Nat → Int32))) = some _ from hf)
    | succ k_ ih =>
      intro x1 al ho pos od nu H locs ls hf hP hS hl
      unfold f_X6_carryOut_L47 at hf
      refine lv_aload_n hx hb dX6_carryOut_47 rfl (lv_at hl 0 rfl) ?_
      refine va_get (D := X.1) (ci := 6) (v := .int pos) (C := RX6) (T := TX6) (N := 13) hx hb hts hiX6 hown hK.1 hP 0 rfl rfl 9 (by decide) k198 (fun _ h9 => h9) rfl dX6_carryOut_48 ?_
      refine lv_aload_n hx hb dX6_carryOut_51 rfl (lv_at hl 0 rfl) ?_
      refine va_get (D := X.1) (ci := 6) (v := .int tl) (C := RX6) (T := TX6) (N := 13) hx hb hts hiX6 hown hK.1 hP 0 rfl rfl 8 (by decide) k195 (fun _ h9 => h9) rfl dX6_carryOut_52 ?_
      refine lv_icmp_ge (tgt := 78) hx hb dX6_carryOut_55 (by decide) (fun c_1 => ?_) (fun c_1 => ?_)
      · replace hf := fp_t c_1 hf
        cases hf
        exact kx _ _ _ hP hS (lv_sub hl [1] rfl)
      · replace hf := fp_f c_1 hf
        refine lv_aload_n hx hb dX6_carryOut_58 rfl (lv_at hl 0 rfl) ?_
        obtain ⟨r_2, pos_3, od_4, nu_5, hc_6, hf⟩ := bd4_of hf
        refine fn_V (v := some (.int r_2)) (As := []) (rest := []) (st1 := [.int r_2]) (ws' := (wMo X mo al sv sm asd th ho fr txt tl pos_3 od_4 nu_5 su)) (nL := 2) ⟨hx, hb, hml, hown, hts⟩ (c_X6_takesOrder l X mo al sv sm asd th ho fr txt tl pos od nu su r_2 pos_3 od_4 nu_5 hc_6) (cwV 0 hts gX6_carryOut_X6_takesOrder rfl rfl rfl (by decide +kernel) ⟨Nat.le_of_ble_eq_true rfl, Nat.le_of_ble_eq_true rfl⟩) 6 rfl rfl rfl rfl hl.1 rfl (Nat.le_of_ble_eq_true rfl) dX6_carryOut_59 hK hP (hD0.addr rfl) hS hA [0, 1, 2, 3, 4, 5, 6, 7] rfl rfl rfl rfl ⟨Nat.zero_le _, Nat.zero_le _⟩ (fun H locs hP hD hS => ?_)
        refine lv_if_eq (tgt := 78) hx hb dX6_carryOut_62 (by decide) (fun c_7 => ?_) (fun c_7 => ?_)
        · replace hf := fp_t c_7 hf
          cases hf
          exact kx _ _ _ hP hS (lv_sub hl [1] rfl)
        · replace hf := fp_f c_7 hf
          refine lv_aload_n hx hb dX6_carryOut_65 rfl (lv_at hl 0 rfl) ?_
          obtain ⟨r_8, al_9, ho_10, hc_11, hf⟩ := bd3_of hf
          refine fn_V (v := some (.int r_8)) (As := []) (rest := []) (st1 := [.int r_8]) (ws' := (wMo X mo al_9 sv sm asd th ho_10 fr txt tl pos_3 od_4 nu_5 su)) (nL := 2) ⟨hx, hb, hml, hown, hts⟩ (c_X6_does l X mo al sv sm asd th ho fr txt tl pos_3 od_4 nu_5 su r_8 al_9 ho_10 hc_11) (cwV 0 hts gX6_carryOut_X6_does rfl rfl rfl (by decide +kernel) ⟨Nat.le_of_ble_eq_true rfl, Nat.le_of_ble_eq_true rfl⟩) 6 rfl rfl rfl rfl hl.1 rfl (Nat.le_of_ble_eq_true rfl) dX6_carryOut_66 hK hP (hD0.addr rfl) hS hA [0, 1, 2, 3, 4, 5, 6, 7] rfl rfl rfl rfl ⟨Nat.zero_le _, Nat.zero_le _⟩ (fun H locs hP hD hS => ?_)
          refine lv_if_eq (tgt := 78) hx hb dX6_carryOut_69 (by decide) (fun c_12 => ?_) (fun c_12 => ?_)
          · replace hf := fp_t c_12 hf
            cases hf
            exact kx _ _ _ hP hS (lv_sub hl [1] rfl)
          · replace hf := fp_f c_12 hf
            obtain ⟨v_13, ev_13⟩ : ∃ y : Int32, y = x1 + (1 : Int32) := ⟨_, rfl⟩
            replace hf := nm_of ev_13 hf
            refine lv_iinc (v := v_13) (lv' := [(1, .int v_13), (0, .ref (mo 0))]) hx hb dX6_carryOut_72 hl (k := 1) rfl (by rw [ev_13]; rfl) (by decide) rfl (fun ls hl => ?_)
            refine lv_goto (tgt := 47) hx hb dX6_carryOut_75 (by decide) ?_
            exact ih v_13 al_9 ho_10 pos_3 od_4 nu_5 _ _ _ hf hP hS (lv_sub hl [1, 0] rfl)
  have loop_10 : ∀ (al : (Nat → Int32)) (sv : (Nat → Int32)) (sm : Int32) (th : Int32) (ho : (Nat → Int32)) (k_ : Nat) (pos : Int32) (od : Int32) (nu : (Nat → Int32)) (H : Heap) (locs : List Loc) (ls : Array Slot), f_X6_carryOut_L10 al sv sm th ho txt tl k_ pos od nu = some (r, al', sv', sm', th', ho', pos', od', nu') → va_P X.1 vwCl (wMo X mo al sv sm asd th ho fr txt tl pos od nu su) H → va_S A s.heap H locs → lv_has ls 2 [(0, .ref (mo 0))] → W p l e ({ frames := 6, cells := 0, slots := 0, locals := 135 } : Room) s m args below meth c H locs 0 0 (fn_Z below X (some (.int r)) (wMo X mo al' sv' sm' asd th' ho' fr txt tl pos' od' nu' su) A args s) (F0 m 10 ls []) := by
    intro al sv sm th ho k_
    induction k_ with
    | zero => intro pos od nu H locs ls hf; exact nomatch (show (none : Option (Int32 × (Nat → Int32) × (Nat → Int32) × Int32 × Int32 × (Nat → Int32) × Int32 × Int32 × (Nat → Int32))) = some _ from hf)
    | succ k_ ih =>
      intro pos od nu H locs ls hf hP hS hl
      unfold f_X6_carryOut_L10 at hf
      refine lv_aload_n hx hb dX6_carryOut_10 rfl (lv_at hl 0 rfl) ?_
      refine va_get (D := X.1) (ci := 6) (v := .int pos) (C := RX6) (T := TX6) (N := 13) hx hb hts hiX6 hown hK.1 hP 0 rfl rfl 9 (by decide) k198 (fun _ h9 => h9) rfl dX6_carryOut_11 ?_
      refine lv_aload_n hx hb dX6_carryOut_14 rfl (lv_at hl 0 rfl) ?_
      refine va_get (D := X.1) (ci := 6) (v := .int tl) (C := RX6) (T := TX6) (N := 13) hx hb hts hiX6 hown hK.1 hP 0 rfl rfl 8 (by decide) k195 (fun _ h9 => h9) rfl dX6_carryOut_15 ?_
      refine lv_icmp_ge (tgt := 36) hx hb dX6_carryOut_18 (by decide) (fun c_14 => ?_) (fun c_14 => ?_)
      · replace hf := fp_t c_14 hf
        refine lv_aload_n hx hb dX6_carryOut_36 rfl (lv_at hl 0 rfl) ?_
        obtain ⟨sv_15, sm_16, hc_17, hf⟩ := bd2_of hf
        refine fn_V (v := none) (As := []) (rest := []) (st1 := []) (ws' := (wMo X mo al sv_15 sm_16 asd th ho fr txt tl pos od nu su)) (nL := 2) ⟨hx, hb, hml, hown, hts⟩ (c_X6_save l X mo al sv sm asd th ho fr txt tl pos od nu su sv_15 sm_16 hc_17) (cwV 0 hts gX6_carryOut_X6_save rfl rfl rfl (by decide +kernel) ⟨Nat.le_of_ble_eq_true rfl, Nat.le_of_ble_eq_true rfl⟩) 6 rfl rfl rfl rfl hl.1 rfl (Nat.le_of_ble_eq_true rfl) dX6_carryOut_37 hK hP (hD0.addr rfl) hS hA [0, 1, 2, 3, 4, 5, 6, 7] rfl rfl rfl rfl ⟨Nat.zero_le _, Nat.zero_le _⟩ (fun H locs hP hD hS => ?_)
        refine lv_aload_n hx hb dX6_carryOut_40 rfl (lv_at hl 0 rfl) ?_
        refine lv_iconst (v := 0) hx hb dX6_carryOut_41 (by decide) ?_
        refine va_put (D := X.1) (ci := 6) (v := .int (0 : Int32)) (ty := .int) (C := RX6) (T := TX6) (N := 13) hx hb hts hiX6 tyX6 tyX6_ok nmX6 hown hK.1 hP (hD0.addr rfl) hS 0 rfl rfl 9 (by decide) k198 (fun _ h9 => h9) rfl (by decide +kernel) rfl rfl (Nat.le_of_ble_eq_true rfl) dX6_carryOut_42 (fun H locs hP hD hS => ?_)
        have hP : va_P X.1 vwCl (wMo X mo al sv_15 sm_16 asd th ho fr txt tl (0 : Int32) od nu su) H := hP
        refine lv_iconst (v := 0) hx hb dX6_carryOut_45 (by decide) ?_
        refine lv_istore_n (lv' := [(1, .int (0 : Int32)), (0, .ref (mo 0))]) hx hb dX6_carryOut_46 rfl hl (by decide) rfl (fun ls hl => ?_)
        obtain ⟨y1_18, al_19, ho_20, pos_21, od_22, nu_23, hL_24, hf⟩ := bd6_of hf
        refine loop_47 _ sv_15 sm_16 th y1_18 al_19 ho_20 pos_21 od_22 nu_23 (fun H locs ls hP hS hl => ?_) FU (0 : Int32) al ho (0 : Int32) od nu _ _ _ hL_24 hP hS (lv_sub hl [1, 0] rfl)
        refine lv_iload_n hx hb dX6_carryOut_78 rfl (lv_at hl 0 rfl) ?_
        cases hf
        exact fn_iret hx hb hr hlocks hP hS dX6_carryOut_79
      · replace hf := fp_f c_14 hf
        refine lv_aload_n hx hb dX6_carryOut_21 rfl (lv_at hl 0 rfl) ?_
        obtain ⟨r_25, pos_26, od_27, nu_28, hc_29, hf⟩ := bd4_of hf
        refine fn_V (v := some (.int r_25)) (As := []) (rest := []) (st1 := [.int r_25]) (ws' := (wMo X mo al sv sm asd th ho fr txt tl pos_26 od_27 nu_28 su)) (nL := 2) ⟨hx, hb, hml, hown, hts⟩ (c_X6_takesOrder l X mo al sv sm asd th ho fr txt tl pos od nu su r_25 pos_26 od_27 nu_28 hc_29) (cwV 0 hts gX6_carryOut_X6_takesOrder rfl rfl rfl (by decide +kernel) ⟨Nat.le_of_ble_eq_true rfl, Nat.le_of_ble_eq_true rfl⟩) 6 rfl rfl rfl rfl hl.1 rfl (Nat.le_of_ble_eq_true rfl) dX6_carryOut_22 hK hP (hD0.addr rfl) hS hA [0, 1, 2, 3, 4, 5, 6, 7] rfl rfl rfl rfl ⟨Nat.zero_le _, Nat.zero_le _⟩ (fun H locs hP hD hS => ?_)
        refine lv_if_ne (tgt := 10) hx hb dX6_carryOut_25 (by decide) (fun c_30 => ?_) (fun c_30 => ?_)
        · replace hf := fp_f c_30 hf
          exact ih pos_26 od_27 nu_28 _ _ _ hf hP hS (lv_sub hl [0] rfl)
        · replace hf := fp_t c_30 hf
          refine lv_bipush (v := -10) hx hb dX6_carryOut_28 (by decide) ?_
          refine lv_aload_n hx hb dX6_carryOut_30 rfl (lv_at hl 0 rfl) ?_
          refine va_get (D := X.1) (ci := 6) (v := .int pos_26) (C := RX6) (T := TX6) (N := 13) hx hb hts hiX6 hown hK.1 hP 0 rfl rfl 9 (by decide) k198 (fun _ h9 => h9) rfl dX6_carryOut_31 ?_
          refine lv_isub hx hb dX6_carryOut_34 ?_
          refine lv_topi (fun v_31 ev_31 => ?_)
          replace hf := nm_of ev_31 hf
          cases hf
          exact fn_iret hx hb hr hlocks hP hS dX6_carryOut_35
  unfold f_X6_carryOut at hf
  refine lv_aload_n hx hb dX6_carryOut_0 rfl (lv_at hl 0 rfl) ?_
  refine lv_iconst (v := 0) hx hb dX6_carryOut_1 (by decide) ?_
  refine va_put (D := X.1) (ci := 6) (v := .int (0 : Int32)) (ty := .int) (C := RX6) (T := TX6) (N := 13) hx hb hts hiX6 tyX6 tyX6_ok nmX6 hown hK.1 hP (hD0.addr rfl) hS 0 rfl rfl 4 (by decide) k31 (fun _ h9 => h9) rfl (by decide +kernel) rfl rfl (Nat.le_of_ble_eq_true rfl) dX6_carryOut_2 (fun H locs hP hD hS => ?_)
  have hP : va_P X.1 vwCl (wMo X mo al sv sm asd (0 : Int32) ho fr txt tl pos od nu su) H := hP
  refine lv_aload_n hx hb dX6_carryOut_5 rfl (lv_at hl 0 rfl) ?_
  refine lv_iconst (v := 0) hx hb dX6_carryOut_6 (by decide) ?_
  refine va_put (D := X.1) (ci := 6) (v := .int (0 : Int32)) (ty := .int) (C := RX6) (T := TX6) (N := 13) hx hb hts hiX6 tyX6 tyX6_ok nmX6 hown hK.1 hP (hD0.addr rfl) hS 0 rfl rfl 9 (by decide) k198 (fun _ h9 => h9) rfl (by decide +kernel) rfl rfl (Nat.le_of_ble_eq_true rfl) dX6_carryOut_7 (fun H locs hP hD hS => ?_)
  have hP : va_P X.1 vwCl (wMo X mo al sv sm asd (0 : Int32) ho fr txt tl (0 : Int32) od nu su) H := hP
  exact loop_10 al sv sm (0 : Int32) ho FU (0 : Int32) od nu _ _ _ hf hP hS (lv_sub hl [0] rfl)

def f_X6_undo_L35 (sv : (Nat → Int32)) (sm : Int32) : Nat → Int32 → (Nat → Int32) →  Option ((Nat → Int32))
  | 0, _, _ => none
  | k_ + 1, x1, al =>
    if (320 : Int32) ≤ x1 then
    (some al)
    else
    (ix (((320 : Int32) * sm) + x1) 1280 (
    nm (sv (((320 : Int32) * sm) + x1).toNatClampNeg) (fun v_3 =>
    ix x1 320 (
    nm (upd al x1.toNatClampNeg v_3) (fun al_5 =>
    nm (x1 + (1 : Int32)) (fun v_6 =>
    f_X6_undo_L35 sv sm k_ v_6 al_5))))))
def f_X6_undo (al : (Nat → Int32)) (sv : (Nat → Int32)) (sm : Int32) (th : Int32) : Option (Int32 × (Nat → Int32) × Int32 × Int32) :=
  if sm ≤ (0 : Int32) then
  (bd2 (f_X6_goes (0 : Int32) (1 : Int32) (1 : Int32) th) (fun r_8 th_9 =>
  if r_8 = (0 : Int32) then
  (some ((0 : Int32), al, sm, th_9))
  else
  (nm (sm - (1 : Int32)) (fun v_12 =>
  bd (f_X6_undo_L35 sv v_12 FU (0 : Int32) al) (fun al_13 =>
  some (v_12, al_13, v_12, th_9))))))
  else
  (bd2 (f_X6_goes (1 : Int32) (1 : Int32) (1 : Int32) th) (fun r_15 th_16 =>
  if r_15 = (0 : Int32) then
  (some ((0 : Int32), al, sm, th_16))
  else
  (nm (sm - (1 : Int32)) (fun v_19 =>
  bd (f_X6_undo_L35 sv v_19 FU (0 : Int32) al) (fun al_20 =>
  some (v_19, al_20, v_19, th_16))))))
set_option maxHeartbeats 4000000 in
set_option maxRecDepth 100000 in
theorem c_X6_undo (l : Launch) (X : cx_G) (mo : (Nat → Nat)) (al : (Nat → Int32)) (sv : (Nat → Int32)) (sm : Int32) (asd : (Nat → Int32)) (th : Int32) (ho : (Nat → Int32)) (fr : (Nat → Int32)) (txt : (Nat → Int32)) (tl : Int32) (pos : Int32) (od : Int32) (nu : (Nat → Int32)) (su : Int64) (r : Int32) (al' : (Nat → Int32)) (sm' : Int32) (th' : Int32) (hf : f_X6_undo al sv sm th = some (r, al', sm', th')) : Fn l yX6_undo wsX6_undo ({ frames := 1, cells := 0, slots := 0, locals := 23 } : Room) X [.ref (mo 0)] (wMo X mo al sv sm asd th ho fr txt tl pos od nu su) (some (.int r)) (wMo X mo al' sv sm' asd th' ho fr txt tl pos od nu su) := by
  refine fn_intro (cc := cX6_undo) (maxL := 2) (ret := (some .int)) (by decide) rfl rfl (Nat.le_of_ble_eq_true rfl) ?_
  intro p e s m args below meth c A ls hx hb hml hr hts hown hlocks hK hP hD0 hS hA hl
  have hown : s.vm.findClass RX6 = some m.cls := hown
  have hl : lv_has ls 2 [(0, .ref (mo 0))] := hl
  have hiX6 : ∀ w ∈ u_ws RX6 TX6 13, w ∈ wsX6_undo := by decide +kernel
  have k7 := hts (.fieldLink RX6 7 "LentRightsModel" "all" "[I") (by decide +kernel)
  have k13 := hts (.fieldLink RX6 13 "LentRightsModel" "saved" "[I") (by decide +kernel)
  have k35 := hts (.fieldLink RX6 35 "LentRightsModel" "savedMany" "I") (by decide +kernel)
  have loop_35 : ∀ (Q : State → Prop) (sm : Int32) (th : Int32) (alo : (Nat → Int32)), (∀ (H : Heap) (locs : List Loc) (ls : Array Slot), va_P X.1 vwCl (wMo X mo alo sv sm asd th ho fr txt tl pos od nu su) H → va_S A s.heap H locs → lv_has ls 2 [(0, .ref (mo 0))] → W p l e ({ frames := 1, cells := 0, slots := 0, locals := 23 } : Room) s m args below meth c H locs 0 0 Q (F0 m 69 ls [])) → ∀ (k_ : Nat) (x1 : Int32) (al : (Nat → Int32)) (H : Heap) (locs : List Loc) (ls : Array Slot), f_X6_undo_L35 sv sm k_ x1 al = some alo → va_P X.1 vwCl (wMo X mo al sv sm asd th ho fr txt tl pos od nu su) H → va_S A s.heap H locs → lv_has ls 2 [(0, .ref (mo 0)), (1, .int x1)] → W p l e ({ frames := 1, cells := 0, slots := 0, locals := 23 } : Room) s m args below meth c H locs 0 0 Q (F0 m 35 ls []) := by
    intro Q sm th alo kx k_
    induction k_ with
    | zero => intro x1 al H locs ls hf; exact nomatch (show (none : Option ((Nat → Int32))) = some _ from hf)
    | succ k_ ih =>
      intro x1 al H locs ls hf hP hS hl
      unfold f_X6_undo_L35 at hf
      refine lv_iload_n hx hb dX6_undo_35 rfl (lv_at hl 1 rfl) ?_
      refine lv_sipush (v := 320) hx hb dX6_undo_36 (by decide) ?_
      refine lv_icmp_ge (tgt := 69) hx hb dX6_undo_39 (by decide) (fun c_1 => ?_) (fun c_1 => ?_)
      · replace hf := fp_t c_1 hf
        cases hf
        exact kx _ _ _ hP hS (lv_sub hl [0] rfl)
      · replace hf := fp_f c_1 hf
        refine lv_aload_n hx hb dX6_undo_42 rfl (lv_at hl 0 rfl) ?_
        refine va_get (D := X.1) (ci := 6) (v := .ref (mo 1)) (C := RX6) (T := TX6) (N := 13) hx hb hts hiX6 hown hK.1 hP 0 rfl rfl 0 (by decide) k7 (fun _ h9 => h9) rfl dX6_undo_43 ?_
        refine lv_iload_n hx hb dX6_undo_46 rfl (lv_at hl 1 rfl) ?_
        refine lv_aload_n hx hb dX6_undo_47 rfl (lv_at hl 0 rfl) ?_
        refine va_get (D := X.1) (ci := 6) (v := .ref (mo 2)) (C := RX6) (T := TX6) (N := 13) hx hb hts hiX6 hown hK.1 hP 0 rfl rfl 1 (by decide) k13 (fun _ h9 => h9) rfl dX6_undo_48 ?_
        refine lv_sipush (v := 320) hx hb dX6_undo_51 (by decide) ?_
        refine lv_aload_n hx hb dX6_undo_54 rfl (lv_at hl 0 rfl) ?_
        refine va_get (D := X.1) (ci := 6) (v := .int sm) (C := RX6) (T := TX6) (N := 13) hx hb hts hiX6 hown hK.1 hP 0 rfl rfl 2 (by decide) k35 (fun _ h9 => h9) rfl dX6_undo_55 ?_
        refine lv_imul hx hb dX6_undo_58 ?_
        refine lv_iload_n hx hb dX6_undo_59 rfl (lv_at hl 1 rfl) ?_
        refine lv_iadd hx hb dX6_undo_60 ?_
        obtain ⟨hi_2, hf⟩ := ix_of hf
        refine va_iald hx hb hK.1 hP 2 0 rfl rfl hi_2 dX6_undo_61 ?_
        refine lv_topi (fun v_3 ev_3 => ?_)
        replace hf := nm_of ev_3 hf
        obtain ⟨hi_4, hf⟩ := ix_of hf
        refine va_iast hx hb hK.1 hP (hD0.addr rfl) hS 1 0 rfl rfl hi_4 dX6_undo_62 (fun H locs hP hD hS => ?_)
        obtain ⟨al_5, eal_5⟩ : ∃ g : Nat → Int32, g = upd al x1.toNatClampNeg v_3 := ⟨_, rfl⟩
        replace hf := nm_of eal_5 hf
        have hP : va_P X.1 vwCl (wMo X mo al_5 sv sm asd th ho fr txt tl pos od nu su) H := by rw [eal_5]; exact hP
        obtain ⟨v_6, ev_6⟩ : ∃ y : Int32, y = x1 + (1 : Int32) := ⟨_, rfl⟩
        replace hf := nm_of ev_6 hf
        refine lv_iinc (v := v_6) (lv' := [(1, .int v_6), (0, .ref (mo 0))]) hx hb dX6_undo_63 hl (k := 1) rfl (by rw [ev_6]; rfl) (by decide) rfl (fun ls hl => ?_)
        refine lv_goto (tgt := 35) hx hb dX6_undo_66 (by decide) ?_
        exact ih v_6 al_5 _ _ _ hf hP hS (lv_sub hl [1, 0] rfl)
  unfold f_X6_undo at hf
  refine lv_aload_n hx hb dX6_undo_0 rfl (lv_at hl 0 rfl) ?_
  refine lv_aload_n hx hb dX6_undo_1 rfl (lv_at hl 0 rfl) ?_
  refine va_get (D := X.1) (ci := 6) (v := .int sm) (C := RX6) (T := TX6) (N := 13) hx hb hts hiX6 hown hK.1 hP 0 rfl rfl 2 (by decide) k35 (fun _ h9 => h9) rfl dX6_undo_2 ?_
  refine lv_if_le (tgt := 12) hx hb dX6_undo_5 (by decide) (fun c_7 => ?_) (fun c_7 => ?_)
  · replace hf := fp_t c_7 hf
    refine lv_iconst (v := 0) hx hb dX6_undo_12 (by decide) ?_
    refine lv_iconst (v := 1) hx hb dX6_undo_13 (by decide) ?_
    refine lv_iconst (v := 1) hx hb dX6_undo_14 (by decide) ?_
    obtain ⟨r_8, th_9, hc_10, hf⟩ := bd2_of hf
    refine fn_V (v := some (.int r_8)) (As := [.int (0 : Int32), .int (1 : Int32), .int (1 : Int32)]) (rest := []) (st1 := [.int r_8]) (ws' := (wMo X mo al sv sm asd th_9 ho fr txt tl pos od nu su)) (nL := 2) ⟨hx, hb, hml, hown, hts⟩ (c_X6_goes l X mo al sv sm asd th ho fr txt tl pos od nu su (0 : Int32) (1 : Int32) (1 : Int32) r_8 th_9 hc_10) (cwV 3 hts gX6_undo_X6_goes rfl rfl rfl (by decide +kernel) ⟨Nat.le_of_ble_eq_true rfl, Nat.le_of_ble_eq_true rfl⟩) 6 rfl rfl rfl rfl hl.1 rfl (Nat.le_of_ble_eq_true rfl) dX6_undo_15 hK hP (hD0.addr rfl) hS hA [0, 1, 2, 3, 4, 5, 6, 7] rfl rfl rfl rfl ⟨Nat.zero_le _, Nat.zero_le _⟩ (fun H locs hP hD hS => ?_)
    refine lv_if_ne (tgt := 23) hx hb dX6_undo_18 (by decide) (fun c_11 => ?_) (fun c_11 => ?_)
    · replace hf := fp_f c_11 hf
      refine lv_aload_n hx hb dX6_undo_23 rfl (lv_at hl 0 rfl) ?_
      refine lv_dup hx hb dX6_undo_24 rfl ?_
      refine va_get (D := X.1) (ci := 6) (v := .int sm) (C := RX6) (T := TX6) (N := 13) hx hb hts hiX6 hown hK.1 hP 0 rfl rfl 2 (by decide) k35 (fun _ h9 => h9) rfl dX6_undo_25 ?_
      refine lv_iconst (v := 1) hx hb dX6_undo_28 (by decide) ?_
      refine lv_isub hx hb dX6_undo_29 ?_
      refine lv_topi (fun v_12 ev_12 => ?_)
      replace hf := nm_of ev_12 hf
      refine va_put (D := X.1) (ci := 6) (v := .int v_12) (ty := .int) (C := RX6) (T := TX6) (N := 13) hx hb hts hiX6 tyX6 tyX6_ok nmX6 hown hK.1 hP (hD0.addr rfl) hS 0 rfl rfl 2 (by decide) k35 (fun _ h9 => h9) rfl (by decide +kernel) rfl rfl (Nat.le_of_ble_eq_true rfl) dX6_undo_30 (fun H locs hP hD hS => ?_)
      have hP : va_P X.1 vwCl (wMo X mo al sv v_12 asd th_9 ho fr txt tl pos od nu su) H := hP
      refine lv_iconst (v := 0) hx hb dX6_undo_33 (by decide) ?_
      refine lv_istore_n (lv' := [(1, .int (0 : Int32)), (0, .ref (mo 0))]) hx hb dX6_undo_34 rfl hl (by decide) rfl (fun ls hl => ?_)
      obtain ⟨al_13, hL_14, hf⟩ := bd_of hf
      refine loop_35 _ v_12 th_9 al_13 (fun H locs ls hP hS hl => ?_) FU (0 : Int32) al _ _ _ hL_14 hP hS (lv_sub hl [1, 0] rfl)
      refine lv_aload_n hx hb dX6_undo_69 rfl (lv_at hl 0 rfl) ?_
      refine va_get (D := X.1) (ci := 6) (v := .int v_12) (C := RX6) (T := TX6) (N := 13) hx hb hts hiX6 hown hK.1 hP 0 rfl rfl 2 (by decide) k35 (fun _ h9 => h9) rfl dX6_undo_70 ?_
      cases hf
      exact fn_iret hx hb hr hlocks hP hS dX6_undo_73
    · replace hf := fp_t c_11 hf
      refine lv_iconst (v := 0) hx hb dX6_undo_21 (by decide) ?_
      cases hf
      exact fn_iret hx hb hr hlocks hP hS dX6_undo_22
  · replace hf := fp_f c_7 hf
    refine lv_iconst (v := 1) hx hb dX6_undo_8 (by decide) ?_
    refine lv_goto (tgt := 13) hx hb dX6_undo_9 (by decide) ?_
    refine lv_iconst (v := 1) hx hb dX6_undo_13 (by decide) ?_
    refine lv_iconst (v := 1) hx hb dX6_undo_14 (by decide) ?_
    obtain ⟨r_15, th_16, hc_17, hf⟩ := bd2_of hf
    refine fn_V (v := some (.int r_15)) (As := [.int (1 : Int32), .int (1 : Int32), .int (1 : Int32)]) (rest := []) (st1 := [.int r_15]) (ws' := (wMo X mo al sv sm asd th_16 ho fr txt tl pos od nu su)) (nL := 2) ⟨hx, hb, hml, hown, hts⟩ (c_X6_goes l X mo al sv sm asd th ho fr txt tl pos od nu su (1 : Int32) (1 : Int32) (1 : Int32) r_15 th_16 hc_17) (cwV 3 hts gX6_undo_X6_goes rfl rfl rfl (by decide +kernel) ⟨Nat.le_of_ble_eq_true rfl, Nat.le_of_ble_eq_true rfl⟩) 6 rfl rfl rfl rfl hl.1 rfl (Nat.le_of_ble_eq_true rfl) dX6_undo_15 hK hP (hD0.addr rfl) hS hA [0, 1, 2, 3, 4, 5, 6, 7] rfl rfl rfl rfl ⟨Nat.zero_le _, Nat.zero_le _⟩ (fun H locs hP hD hS => ?_)
    refine lv_if_ne (tgt := 23) hx hb dX6_undo_18 (by decide) (fun c_18 => ?_) (fun c_18 => ?_)
    · replace hf := fp_f c_18 hf
      refine lv_aload_n hx hb dX6_undo_23 rfl (lv_at hl 0 rfl) ?_
      refine lv_dup hx hb dX6_undo_24 rfl ?_
      refine va_get (D := X.1) (ci := 6) (v := .int sm) (C := RX6) (T := TX6) (N := 13) hx hb hts hiX6 hown hK.1 hP 0 rfl rfl 2 (by decide) k35 (fun _ h9 => h9) rfl dX6_undo_25 ?_
      refine lv_iconst (v := 1) hx hb dX6_undo_28 (by decide) ?_
      refine lv_isub hx hb dX6_undo_29 ?_
      refine lv_topi (fun v_19 ev_19 => ?_)
      replace hf := nm_of ev_19 hf
      refine va_put (D := X.1) (ci := 6) (v := .int v_19) (ty := .int) (C := RX6) (T := TX6) (N := 13) hx hb hts hiX6 tyX6 tyX6_ok nmX6 hown hK.1 hP (hD0.addr rfl) hS 0 rfl rfl 2 (by decide) k35 (fun _ h9 => h9) rfl (by decide +kernel) rfl rfl (Nat.le_of_ble_eq_true rfl) dX6_undo_30 (fun H locs hP hD hS => ?_)
      have hP : va_P X.1 vwCl (wMo X mo al sv v_19 asd th_16 ho fr txt tl pos od nu su) H := hP
      refine lv_iconst (v := 0) hx hb dX6_undo_33 (by decide) ?_
      refine lv_istore_n (lv' := [(1, .int (0 : Int32)), (0, .ref (mo 0))]) hx hb dX6_undo_34 rfl hl (by decide) rfl (fun ls hl => ?_)
      obtain ⟨al_20, hL_21, hf⟩ := bd_of hf
      refine loop_35 _ v_19 th_16 al_20 (fun H locs ls hP hS hl => ?_) FU (0 : Int32) al _ _ _ hL_21 hP hS (lv_sub hl [1, 0] rfl)
      refine lv_aload_n hx hb dX6_undo_69 rfl (lv_at hl 0 rfl) ?_
      refine va_get (D := X.1) (ci := 6) (v := .int v_19) (C := RX6) (T := TX6) (N := 13) hx hb hts hiX6 hown hK.1 hP 0 rfl rfl 2 (by decide) k35 (fun _ h9 => h9) rfl dX6_undo_70 ?_
      cases hf
      exact fn_iret hx hb hr hlocks hP hS dX6_undo_73
    · replace hf := fp_t c_18 hf
      refine lv_iconst (v := 0) hx hb dX6_undo_21 (by decide) ?_
      cases hf
      exact fn_iret hx hb hr hlocks hP hS dX6_undo_22

def f_X6_adds (x1 : Int32) (su : Int64) : Option (Int64) :=
  nm (((31 : Int64) * su) + x1.toInt64) (fun v_1 =>
  some v_1)
set_option maxHeartbeats 4000000 in
set_option maxRecDepth 100000 in
theorem c_X6_adds (l : Launch) (X : cx_G) (mo : (Nat → Nat)) (al : (Nat → Int32)) (sv : (Nat → Int32)) (sm : Int32) (asd : (Nat → Int32)) (th : Int32) (ho : (Nat → Int32)) (fr : (Nat → Int32)) (txt : (Nat → Int32)) (tl : Int32) (pos : Int32) (od : Int32) (nu : (Nat → Int32)) (su : Int64) (x1 : Int32) (su' : Int64) (hf : f_X6_adds x1 su = some su') : Fn l yX6_adds wsX6_adds ({ frames := 0, cells := 0, slots := 0, locals := 0 } : Room) X [.ref (mo 0), .int x1] (wMo X mo al sv sm asd th ho fr txt tl pos od nu su) none (wMo X mo al sv sm asd th ho fr txt tl pos od nu su') := by
  refine fn_intro (cc := cX6_adds) (maxL := 2) (ret := none) (by decide) rfl rfl (Nat.le_of_ble_eq_true rfl) ?_
  intro p e s m args below meth c A ls hx hb hml hr hts hown hlocks hK hP hD0 hS hA hl
  have hown : s.vm.findClass RX6 = some m.cls := hown
  have hl : lv_has ls 2 [(0, .ref (mo 0)), (1, .int x1)] := hl
  have hiX6 : ∀ w ∈ u_ws RX6 TX6 13, w ∈ wsX6_adds := by decide +kernel
  have k238 := hts (.fieldLink RX6 238 "LentRightsModel" "sum" "J") (by decide +kernel)
  unfold f_X6_adds at hf
  refine lv_aload_n hx hb dX6_adds_0 rfl (lv_at hl 0 rfl) ?_
  refine lv_ldc2 hx hb hown (hts (.constantLong RX6 236 (31)) (by decide +kernel)) dX6_adds_1 ?_
  refine lv_aload_n hx hb dX6_adds_4 rfl (lv_at hl 0 rfl) ?_
  refine va_get (D := X.1) (ci := 6) (v := .long su) (C := RX6) (T := TX6) (N := 13) hx hb hts hiX6 hown hK.1 hP 0 rfl rfl 12 (by decide) k238 (fun _ h9 => h9) rfl dX6_adds_5 ?_
  refine lv_lmul hx hb dX6_adds_8 ?_
  refine lv_iload_n hx hb dX6_adds_9 rfl (lv_at hl 1 rfl) ?_
  refine lv_i2l (v := x1.toInt64) hx hb dX6_adds_10 rfl ?_
  refine lv_ladd hx hb dX6_adds_11 ?_
  refine lv_topl (fun v_1 ev_1 => ?_)
  replace hf := nm_of ev_1 hf
  refine va_put (D := X.1) (ci := 6) (v := .long v_1) (ty := .long) (C := RX6) (T := TX6) (N := 13) hx hb hts hiX6 tyX6 tyX6_ok nmX6 hown hK.1 hP (hD0.addr rfl) hS 0 rfl rfl 12 (by decide) k238 (fun _ h9 => h9) rfl (by decide +kernel) rfl rfl (Nat.le_of_ble_eq_true rfl) dX6_adds_12 (fun H locs hP hD hS => ?_)
  have hP : va_P X.1 vwCl (wMo X mo al sv sm asd th ho fr txt tl pos od nu v_1) H := hP
  cases hf
  exact fn_vret hx hb hr hlocks hP hS dX6_adds_15

def f_X6_digest_L168 (al : (Nat → Int32)) : Nat → Int32 → Int64 →  Option (Int64)
  | 0, _, _ => none
  | k_ + 1, x1, su =>
    ix (6 : Int32) 320 (
    if (3 : Int32) * (al (6 : Int32).toNatClampNeg) ≤ x1 then
    (some su)
    else
    (ix ((284 : Int32) + x1) 320 (
    bd (f_X6_adds (al ((284 : Int32) + x1).toNatClampNeg) su) (fun su_4 =>
    nm (x1 + (1 : Int32)) (fun v_6 =>
    f_X6_digest_L168 al k_ v_6 su_4)))))
def f_X6_digest_L138 (x1 : Int32) (al : (Nat → Int32)) (ho : (Nat → Int32)) : Nat → Int32 → Int64 →  Option (Int64)
  | 0, _, _ => none
  | k_ + 1, x2, su =>
    if (6 : Int32) ≤ x2 then
    (some su)
    else
    (bd (f_X6_grantValue x1 x2 al ho) (fun r_8 =>
    bd (f_X6_adds r_8 su) (fun su_10 =>
    nm (x2 + (1 : Int32)) (fun v_12 =>
    f_X6_digest_L138 x1 al ho k_ v_12 su_10))))
def f_X6_digest_L116 (al : (Nat → Int32)) (ho : (Nat → Int32)) : Nat → Int32 → Int64 →  Option (Int64)
  | 0, _, _ => none
  | k_ + 1, x1, su =>
    ix (5 : Int32) 320 (
    if al (5 : Int32).toNatClampNeg ≤ x1 then
    (some su)
    else
    (bd (f_X6_of x1 (0 : Int32) al) (fun r_15 =>
    bd (f_X6_adds r_15 su) (fun su_17 =>
    bd (f_X6_digest_L138 x1 al ho FU (0 : Int32) su_17) (fun su_19 =>
    nm (x1 + (1 : Int32)) (fun v_21 =>
    f_X6_digest_L116 al ho k_ v_21 su_19))))))
def f_X6_digest_L79 (al : (Nat → Int32)) (ho : (Nat → Int32)) : Nat → Int32 → Int64 →  Option (Int64)
  | 0, _, _ => none
  | k_ + 1, x1, su =>
    ix (4 : Int32) 320 (
    if (6 : Int32) * (al (4 : Int32).toNatClampNeg) ≤ x1 then
    (some su)
    else
    (bd (f_X6_thingValue (x1 / (6 : Int32)) (x1 - x1 / (6 : Int32) * (6 : Int32)) al ho) (fun r_24 =>
    bd (f_X6_adds r_24 su) (fun su_26 =>
    nm (x1 + (1 : Int32)) (fun v_28 =>
    f_X6_digest_L79 al ho k_ v_28 su_26)))))
def f_X6_digest_L49 (al : (Nat → Int32)) (ho : (Nat → Int32)) : Nat → Int32 → Int64 →  Option (Int64)
  | 0, _, _ => none
  | k_ + 1, x1, su =>
    if (70 : Int32) ≤ x1 then
    (some su)
    else
    (bd (f_X6_personValue (x1 / (7 : Int32)) (x1 - x1 / (7 : Int32) * (7 : Int32)) al ho) (fun r_30 =>
    bd (f_X6_adds r_30 su) (fun su_32 =>
    nm (x1 + (1 : Int32)) (fun v_34 =>
    f_X6_digest_L49 al ho k_ v_34 su_32))))
def f_X6_digest_L22 (al : (Nat → Int32)) : Nat → Int32 → (Nat → Int32) → Int64 →  Option ((Nat → Int32) × Int64)
  | 0, _, _, _ => none
  | k_ + 1, x1, ho, su =>
    if (9 : Int32) ≤ x1 then
    (some (ho, su))
    else
    (bd2 (f_X6_numberOf x1 al ho) (fun r_36 ho_37 =>
    bd (f_X6_adds r_36 su) (fun su_39 =>
    nm (x1 + (1 : Int32)) (fun v_41 =>
    f_X6_digest_L22 al k_ v_41 ho_37 su_39))))
def f_X6_digest (al : (Nat → Int32)) (sm : Int32) (th : Int32) (ho : (Nat → Int32)) (tl : Int32) (su : Int64) : Option (Int64 × Int32 × (Nat → Int32) × Int64) :=
  bd (f_X6_adds tl (3671 : Int64)) (fun su_42 =>
  bd2 (f_X6_digest_L22 al FU (0 : Int32) ho su_42) (fun ho_44 su_45 =>
  bd (f_X6_lay al ho_44) (fun ho_47 =>
  bd (f_X6_digest_L49 al ho_47 FU (0 : Int32) su_45) (fun su_49 =>
  bd (f_X6_digest_L79 al ho_47 FU (0 : Int32) su_49) (fun su_51 =>
  bd (f_X6_digest_L116 al ho_47 FU (0 : Int32) su_51) (fun su_53 =>
  bd (f_X6_digest_L168 al FU (0 : Int32) su_53) (fun su_55 =>
  bd (f_X6_adds sm su_55) (fun su_57 =>
  some (su_57, (0 : Int32), ho_47, su_57)))))))))
set_option maxHeartbeats 4000000 in
set_option maxRecDepth 100000 in
theorem c_X6_digest (l : Launch) (X : cx_G) (mo : (Nat → Nat)) (al : (Nat → Int32)) (sv : (Nat → Int32)) (sm : Int32) (asd : (Nat → Int32)) (th : Int32) (ho : (Nat → Int32)) (fr : (Nat → Int32)) (txt : (Nat → Int32)) (tl : Int32) (pos : Int32) (od : Int32) (nu : (Nat → Int32)) (su : Int64) (r : Int64) (th' : Int32) (ho' : (Nat → Int32)) (su' : Int64) (hf : f_X6_digest al sm th ho tl su = some (r, th', ho', su')) : Fn l yX6_digest wsX6_digest ({ frames := 5, cells := 0, slots := 0, locals := 111 } : Room) X [.ref (mo 0)] (wMo X mo al sv sm asd th ho fr txt tl pos od nu su) (some (.long r)) (wMo X mo al sv sm asd th' ho' fr txt tl pos od nu su') := by
  refine fn_intro (cc := cX6_digest) (maxL := 3) (ret := (some .long)) (by decide) rfl rfl (Nat.le_of_ble_eq_true rfl) ?_
  intro p e s m args below meth c A ls hx hb hml hr hts hown hlocks hK hP hD0 hS hA hl
  have hown : s.vm.findClass RX6 = some m.cls := hown
  have hl : lv_has ls 3 [(0, .ref (mo 0))] := hl
  have hiX6 : ∀ w ∈ u_ws RX6 TX6 13, w ∈ wsX6_digest := by decide +kernel
  have k7 := hts (.fieldLink RX6 7 "LentRightsModel" "all" "[I") (by decide +kernel)
  have k31 := hts (.fieldLink RX6 31 "LentRightsModel" "thrown" "I") (by decide +kernel)
  have k35 := hts (.fieldLink RX6 35 "LentRightsModel" "savedMany" "I") (by decide +kernel)
  have k195 := hts (.fieldLink RX6 195 "LentRightsModel" "textLong" "I") (by decide +kernel)
  have k238 := hts (.fieldLink RX6 238 "LentRightsModel" "sum" "J") (by decide +kernel)
  have loop_168 : ∀ (Q : State → Prop) (th : Int32) (ho : (Nat → Int32)) (suo : Int64), (∀ (H : Heap) (locs : List Loc) (ls : Array Slot), va_P X.1 vwCl (wMo X mo al sv sm asd th ho fr txt tl pos od nu suo) H → va_S A s.heap H locs → lv_has ls 3 [(0, .ref (mo 0))] → W p l e ({ frames := 5, cells := 0, slots := 0, locals := 111 } : Room) s m args below meth c H locs 0 0 Q (F0 m 201 ls [])) → ∀ (k_ : Nat) (x1 : Int32) (su : Int64) (H : Heap) (locs : List Loc) (ls : Array Slot), f_X6_digest_L168 al k_ x1 su = some suo → va_P X.1 vwCl (wMo X mo al sv sm asd th ho fr txt tl pos od nu su) H → va_S A s.heap H locs → lv_has ls 3 [(0, .ref (mo 0)), (1, .int x1)] → W p l e ({ frames := 5, cells := 0, slots := 0, locals := 111 } : Room) s m args below meth c H locs 0 0 Q (F0 m 168 ls []) := by
    intro Q th ho suo kx k_
    induction k_ with
    | zero => intro x1 su H locs ls hf; exact nomatch (show (none : Option (Int64)) = some _ from hf)
    | succ k_ ih =>
      intro x1 su H locs ls hf hP hS hl
      unfold f_X6_digest_L168 at hf
      refine lv_iload_n hx hb dX6_digest_168 rfl (lv_at hl 1 rfl) ?_
      refine lv_iconst (v := 3) hx hb dX6_digest_169 (by decide) ?_
      refine lv_aload_n hx hb dX6_digest_170 rfl (lv_at hl 0 rfl) ?_
      refine va_get (D := X.1) (ci := 6) (v := .ref (mo 1)) (C := RX6) (T := TX6) (N := 13) hx hb hts hiX6 hown hK.1 hP 0 rfl rfl 0 (by decide) k7 (fun _ h9 => h9) rfl dX6_digest_171 ?_
      refine lv_bipush (v := 6) hx hb dX6_digest_174 (by decide) ?_
      obtain ⟨hi_1, hf⟩ := ix_of hf
      refine va_iald hx hb hK.1 hP 1 0 rfl rfl hi_1 dX6_digest_176 ?_
      refine lv_imul hx hb dX6_digest_177 ?_
      refine lv_icmp_ge (tgt := 201) hx hb dX6_digest_178 (by decide) (fun c_2 => ?_) (fun c_2 => ?_)
      · replace hf := fp_t c_2 hf
        cases hf
        exact kx _ _ _ hP hS (lv_sub hl [0] rfl)
      · replace hf := fp_f c_2 hf
        refine lv_aload_n hx hb dX6_digest_181 rfl (lv_at hl 0 rfl) ?_
        refine lv_aload_n hx hb dX6_digest_182 rfl (lv_at hl 0 rfl) ?_
        refine va_get (D := X.1) (ci := 6) (v := .ref (mo 1)) (C := RX6) (T := TX6) (N := 13) hx hb hts hiX6 hown hK.1 hP 0 rfl rfl 0 (by decide) k7 (fun _ h9 => h9) rfl dX6_digest_183 ?_
        refine lv_sipush (v := 284) hx hb dX6_digest_186 (by decide) ?_
        refine lv_iload_n hx hb dX6_digest_189 rfl (lv_at hl 1 rfl) ?_
        refine lv_iadd hx hb dX6_digest_190 ?_
        obtain ⟨hi_3, hf⟩ := ix_of hf
        refine va_iald hx hb hK.1 hP 1 0 rfl rfl hi_3 dX6_digest_191 ?_
        obtain ⟨su_4, hc_5, hf⟩ := bd_of hf
        refine fn_V (v := none) (As := [.int (al ((284 : Int32) + x1).toNatClampNeg)]) (rest := []) (st1 := []) (ws' := (wMo X mo al sv sm asd th ho fr txt tl pos od nu su_4)) (nL := 3) ⟨hx, hb, hml, hown, hts⟩ (c_X6_adds l X mo al sv sm asd th ho fr txt tl pos od nu su (al ((284 : Int32) + x1).toNatClampNeg) su_4 hc_5) (cwV 1 hts gX6_digest_X6_adds rfl rfl rfl (by decide +kernel) ⟨Nat.le_of_ble_eq_true rfl, Nat.le_of_ble_eq_true rfl⟩) 6 rfl rfl rfl rfl hl.1 rfl (Nat.le_of_ble_eq_true rfl) dX6_digest_192 hK hP (hD0.addr rfl) hS hA [0, 1, 2, 3, 4, 5, 6, 7] rfl rfl rfl rfl ⟨Nat.zero_le _, Nat.zero_le _⟩ (fun H locs hP hD hS => ?_)
        obtain ⟨v_6, ev_6⟩ : ∃ y : Int32, y = x1 + (1 : Int32) := ⟨_, rfl⟩
        replace hf := nm_of ev_6 hf
        refine lv_iinc (v := v_6) (lv' := [(1, .int v_6), (0, .ref (mo 0))]) hx hb dX6_digest_195 hl (k := 1) rfl (by rw [ev_6]; rfl) (by decide) rfl (fun ls hl => ?_)
        refine lv_goto (tgt := 168) hx hb dX6_digest_198 (by decide) ?_
        exact ih v_6 su_4 _ _ _ hf hP hS (lv_sub hl [1, 0] rfl)
  have loop_138 : ∀ (Q : State → Prop) (x1 : Int32) (th : Int32) (ho : (Nat → Int32)) (suo : Int64), (∀ (H : Heap) (locs : List Loc) (ls : Array Slot), va_P X.1 vwCl (wMo X mo al sv sm asd th ho fr txt tl pos od nu suo) H → va_S A s.heap H locs → lv_has ls 3 [(0, .ref (mo 0)), (1, .int x1)] → W p l e ({ frames := 5, cells := 0, slots := 0, locals := 111 } : Room) s m args below meth c H locs 0 0 Q (F0 m 160 ls [])) → ∀ (k_ : Nat) (x2 : Int32) (su : Int64) (H : Heap) (locs : List Loc) (ls : Array Slot), f_X6_digest_L138 x1 al ho k_ x2 su = some suo → va_P X.1 vwCl (wMo X mo al sv sm asd th ho fr txt tl pos od nu su) H → va_S A s.heap H locs → lv_has ls 3 [(0, .ref (mo 0)), (1, .int x1), (2, .int x2)] → W p l e ({ frames := 5, cells := 0, slots := 0, locals := 111 } : Room) s m args below meth c H locs 0 0 Q (F0 m 138 ls []) := by
    intro Q x1 th ho suo kx k_
    induction k_ with
    | zero => intro x2 su H locs ls hf; exact nomatch (show (none : Option (Int64)) = some _ from hf)
    | succ k_ ih =>
      intro x2 su H locs ls hf hP hS hl
      unfold f_X6_digest_L138 at hf
      refine lv_iload_n hx hb dX6_digest_138 rfl (lv_at hl 2 rfl) ?_
      refine lv_bipush (v := 6) hx hb dX6_digest_139 (by decide) ?_
      refine lv_icmp_ge (tgt := 160) hx hb dX6_digest_141 (by decide) (fun c_7 => ?_) (fun c_7 => ?_)
      · replace hf := fp_t c_7 hf
        cases hf
        exact kx _ _ _ hP hS (lv_sub hl [0, 1] rfl)
      · replace hf := fp_f c_7 hf
        refine lv_aload_n hx hb dX6_digest_144 rfl (lv_at hl 0 rfl) ?_
        refine lv_aload_n hx hb dX6_digest_145 rfl (lv_at hl 0 rfl) ?_
        refine lv_iload_n hx hb dX6_digest_146 rfl (lv_at hl 1 rfl) ?_
        refine lv_iload_n hx hb dX6_digest_147 rfl (lv_at hl 2 rfl) ?_
        obtain ⟨r_8, hc_9, hf⟩ := bd_of hf
        refine fn_V (v := some (.int r_8)) (As := [.int x1, .int x2]) (rest := [.ref (mo 0)]) (st1 := [.int r_8, .ref (mo 0)]) (ws' := (wMo X mo al sv sm asd th ho fr txt tl pos od nu su)) (nL := 3) ⟨hx, hb, hml, hown, hts⟩ (c_X6_grantValue l X mo al sv sm asd th ho fr txt tl pos od nu su x1 x2 r_8 hc_9) (cwV 2 hts gX6_digest_X6_grantValue rfl rfl rfl (by decide +kernel) ⟨Nat.le_of_ble_eq_true rfl, Nat.le_of_ble_eq_true rfl⟩) 6 rfl rfl rfl rfl hl.1 rfl (Nat.le_of_ble_eq_true rfl) dX6_digest_148 hK hP (hD0.addr rfl) hS hA [0, 1, 2, 3, 4, 5, 6, 7] rfl rfl rfl rfl ⟨Nat.zero_le _, Nat.zero_le _⟩ (fun H locs hP hD hS => ?_)
        obtain ⟨su_10, hc_11, hf⟩ := bd_of hf
        refine fn_V (v := none) (As := [.int r_8]) (rest := []) (st1 := []) (ws' := (wMo X mo al sv sm asd th ho fr txt tl pos od nu su_10)) (nL := 3) ⟨hx, hb, hml, hown, hts⟩ (c_X6_adds l X mo al sv sm asd th ho fr txt tl pos od nu su r_8 su_10 hc_11) (cwV 1 hts gX6_digest_X6_adds rfl rfl rfl (by decide +kernel) ⟨Nat.le_of_ble_eq_true rfl, Nat.le_of_ble_eq_true rfl⟩) 6 rfl rfl rfl rfl hl.1 rfl (Nat.le_of_ble_eq_true rfl) dX6_digest_151 hK hP (hD0.addr rfl) hS hA [0, 1, 2, 3, 4, 5, 6, 7] rfl rfl rfl rfl ⟨Nat.zero_le _, Nat.zero_le _⟩ (fun H locs hP hD hS => ?_)
        obtain ⟨v_12, ev_12⟩ : ∃ y : Int32, y = x2 + (1 : Int32) := ⟨_, rfl⟩
        replace hf := nm_of ev_12 hf
        refine lv_iinc (v := v_12) (lv' := [(2, .int v_12), (0, .ref (mo 0)), (1, .int x1)]) hx hb dX6_digest_154 hl (k := 2) rfl (by rw [ev_12]; rfl) (by decide) rfl (fun ls hl => ?_)
        refine lv_goto (tgt := 138) hx hb dX6_digest_157 (by decide) ?_
        exact ih v_12 su_10 _ _ _ hf hP hS (lv_sub hl [1, 2, 0] rfl)
  have loop_116 : ∀ (Q : State → Prop) (th : Int32) (ho : (Nat → Int32)) (suo : Int64), (∀ (H : Heap) (locs : List Loc) (ls : Array Slot), va_P X.1 vwCl (wMo X mo al sv sm asd th ho fr txt tl pos od nu suo) H → va_S A s.heap H locs → lv_has ls 3 [(0, .ref (mo 0))] → W p l e ({ frames := 5, cells := 0, slots := 0, locals := 111 } : Room) s m args below meth c H locs 0 0 Q (F0 m 166 ls [])) → ∀ (k_ : Nat) (x1 : Int32) (su : Int64) (H : Heap) (locs : List Loc) (ls : Array Slot), f_X6_digest_L116 al ho k_ x1 su = some suo → va_P X.1 vwCl (wMo X mo al sv sm asd th ho fr txt tl pos od nu su) H → va_S A s.heap H locs → lv_has ls 3 [(0, .ref (mo 0)), (1, .int x1)] → W p l e ({ frames := 5, cells := 0, slots := 0, locals := 111 } : Room) s m args below meth c H locs 0 0 Q (F0 m 116 ls []) := by
    intro Q th ho suo kx k_
    induction k_ with
    | zero => intro x1 su H locs ls hf; exact nomatch (show (none : Option (Int64)) = some _ from hf)
    | succ k_ ih =>
      intro x1 su H locs ls hf hP hS hl
      unfold f_X6_digest_L116 at hf
      refine lv_iload_n hx hb dX6_digest_116 rfl (lv_at hl 1 rfl) ?_
      refine lv_aload_n hx hb dX6_digest_117 rfl (lv_at hl 0 rfl) ?_
      refine va_get (D := X.1) (ci := 6) (v := .ref (mo 1)) (C := RX6) (T := TX6) (N := 13) hx hb hts hiX6 hown hK.1 hP 0 rfl rfl 0 (by decide) k7 (fun _ h9 => h9) rfl dX6_digest_118 ?_
      refine lv_iconst (v := 5) hx hb dX6_digest_121 (by decide) ?_
      obtain ⟨hi_13, hf⟩ := ix_of hf
      refine va_iald hx hb hK.1 hP 1 0 rfl rfl hi_13 dX6_digest_122 ?_
      refine lv_icmp_ge (tgt := 166) hx hb dX6_digest_123 (by decide) (fun c_14 => ?_) (fun c_14 => ?_)
      · replace hf := fp_t c_14 hf
        cases hf
        exact kx _ _ _ hP hS (lv_sub hl [0] rfl)
      · replace hf := fp_f c_14 hf
        refine lv_aload_n hx hb dX6_digest_126 rfl (lv_at hl 0 rfl) ?_
        refine lv_aload_n hx hb dX6_digest_127 rfl (lv_at hl 0 rfl) ?_
        refine lv_iload_n hx hb dX6_digest_128 rfl (lv_at hl 1 rfl) ?_
        refine lv_iconst (v := 0) hx hb dX6_digest_129 (by decide) ?_
        obtain ⟨r_15, hc_16, hf⟩ := bd_of hf
        refine fn_V (v := some (.int r_15)) (As := [.int x1, .int (0 : Int32)]) (rest := [.ref (mo 0)]) (st1 := [.int r_15, .ref (mo 0)]) (ws' := (wMo X mo al sv sm asd th ho fr txt tl pos od nu su)) (nL := 3) ⟨hx, hb, hml, hown, hts⟩ (c_X6_of l X mo al sv sm asd th ho fr txt tl pos od nu su x1 (0 : Int32) r_15 hc_16) (cwV 2 hts gX6_digest_X6_of rfl rfl rfl (by decide +kernel) ⟨Nat.le_of_ble_eq_true rfl, Nat.le_of_ble_eq_true rfl⟩) 6 rfl rfl rfl rfl hl.1 rfl (Nat.le_of_ble_eq_true rfl) dX6_digest_130 hK hP (hD0.addr rfl) hS hA [0, 1, 2, 3, 4, 5, 6, 7] rfl rfl rfl rfl ⟨Nat.zero_le _, Nat.zero_le _⟩ (fun H locs hP hD hS => ?_)
        obtain ⟨su_17, hc_18, hf⟩ := bd_of hf
        refine fn_V (v := none) (As := [.int r_15]) (rest := []) (st1 := []) (ws' := (wMo X mo al sv sm asd th ho fr txt tl pos od nu su_17)) (nL := 3) ⟨hx, hb, hml, hown, hts⟩ (c_X6_adds l X mo al sv sm asd th ho fr txt tl pos od nu su r_15 su_17 hc_18) (cwV 1 hts gX6_digest_X6_adds rfl rfl rfl (by decide +kernel) ⟨Nat.le_of_ble_eq_true rfl, Nat.le_of_ble_eq_true rfl⟩) 6 rfl rfl rfl rfl hl.1 rfl (Nat.le_of_ble_eq_true rfl) dX6_digest_133 hK hP (hD0.addr rfl) hS hA [0, 1, 2, 3, 4, 5, 6, 7] rfl rfl rfl rfl ⟨Nat.zero_le _, Nat.zero_le _⟩ (fun H locs hP hD hS => ?_)
        refine lv_iconst (v := 0) hx hb dX6_digest_136 (by decide) ?_
        refine lv_istore_n (lv' := [(2, .int (0 : Int32)), (0, .ref (mo 0)), (1, .int x1)]) hx hb dX6_digest_137 rfl hl (by decide) rfl (fun ls hl => ?_)
        obtain ⟨su_19, hL_20, hf⟩ := bd_of hf
        refine loop_138 _ x1 th ho su_19 (fun H locs ls hP hS hl => ?_) FU (0 : Int32) su_17 _ _ _ hL_20 hP hS (lv_sub hl [1, 2, 0] rfl)
        obtain ⟨v_21, ev_21⟩ : ∃ y : Int32, y = x1 + (1 : Int32) := ⟨_, rfl⟩
        replace hf := nm_of ev_21 hf
        refine lv_iinc (v := v_21) (lv' := [(1, .int v_21), (0, .ref (mo 0))]) hx hb dX6_digest_160 hl (k := 1) rfl (by rw [ev_21]; rfl) (by decide) rfl (fun ls hl => ?_)
        refine lv_goto (tgt := 116) hx hb dX6_digest_163 (by decide) ?_
        exact ih v_21 su_19 _ _ _ hf hP hS (lv_sub hl [1, 0] rfl)
  have loop_79 : ∀ (Q : State → Prop) (th : Int32) (ho : (Nat → Int32)) (suo : Int64), (∀ (H : Heap) (locs : List Loc) (ls : Array Slot), va_P X.1 vwCl (wMo X mo al sv sm asd th ho fr txt tl pos od nu suo) H → va_S A s.heap H locs → lv_has ls 3 [(0, .ref (mo 0))] → W p l e ({ frames := 5, cells := 0, slots := 0, locals := 111 } : Room) s m args below meth c H locs 0 0 Q (F0 m 114 ls [])) → ∀ (k_ : Nat) (x1 : Int32) (su : Int64) (H : Heap) (locs : List Loc) (ls : Array Slot), f_X6_digest_L79 al ho k_ x1 su = some suo → va_P X.1 vwCl (wMo X mo al sv sm asd th ho fr txt tl pos od nu su) H → va_S A s.heap H locs → lv_has ls 3 [(0, .ref (mo 0)), (1, .int x1)] → W p l e ({ frames := 5, cells := 0, slots := 0, locals := 111 } : Room) s m args below meth c H locs 0 0 Q (F0 m 79 ls []) := by
    intro Q th ho suo kx k_
    induction k_ with
    | zero => intro x1 su H locs ls hf; exact nomatch (show (none : Option (Int64)) = some _ from hf)
    | succ k_ ih =>
      intro x1 su H locs ls hf hP hS hl
      unfold f_X6_digest_L79 at hf
      refine lv_iload_n hx hb dX6_digest_79 rfl (lv_at hl 1 rfl) ?_
      refine lv_bipush (v := 6) hx hb dX6_digest_80 (by decide) ?_
      refine lv_aload_n hx hb dX6_digest_82 rfl (lv_at hl 0 rfl) ?_
      refine va_get (D := X.1) (ci := 6) (v := .ref (mo 1)) (C := RX6) (T := TX6) (N := 13) hx hb hts hiX6 hown hK.1 hP 0 rfl rfl 0 (by decide) k7 (fun _ h9 => h9) rfl dX6_digest_83 ?_
      refine lv_iconst (v := 4) hx hb dX6_digest_86 (by decide) ?_
      obtain ⟨hi_22, hf⟩ := ix_of hf
      refine va_iald hx hb hK.1 hP 1 0 rfl rfl hi_22 dX6_digest_87 ?_
      refine lv_imul hx hb dX6_digest_88 ?_
      refine lv_icmp_ge (tgt := 114) hx hb dX6_digest_89 (by decide) (fun c_23 => ?_) (fun c_23 => ?_)
      · replace hf := fp_t c_23 hf
        cases hf
        exact kx _ _ _ hP hS (lv_sub hl [0] rfl)
      · replace hf := fp_f c_23 hf
        refine lv_aload_n hx hb dX6_digest_92 rfl (lv_at hl 0 rfl) ?_
        refine lv_aload_n hx hb dX6_digest_93 rfl (lv_at hl 0 rfl) ?_
        refine lv_iload_n hx hb dX6_digest_94 rfl (lv_at hl 1 rfl) ?_
        refine lv_bipush (v := 6) hx hb dX6_digest_95 (by decide) ?_
        refine lv_idiv hx hb dX6_digest_97 (by decide) ?_
        refine lv_iload_n hx hb dX6_digest_98 rfl (lv_at hl 1 rfl) ?_
        refine lv_bipush (v := 6) hx hb dX6_digest_99 (by decide) ?_
        refine lv_irem hx hb dX6_digest_101 (by decide) ?_
        obtain ⟨r_24, hc_25, hf⟩ := bd_of hf
        refine fn_V (v := some (.int r_24)) (As := [.int (x1 / (6 : Int32)), .int (x1 - x1 / (6 : Int32) * (6 : Int32))]) (rest := [.ref (mo 0)]) (st1 := [.int r_24, .ref (mo 0)]) (ws' := (wMo X mo al sv sm asd th ho fr txt tl pos od nu su)) (nL := 3) ⟨hx, hb, hml, hown, hts⟩ (c_X6_thingValue l X mo al sv sm asd th ho fr txt tl pos od nu su (x1 / (6 : Int32)) (x1 - x1 / (6 : Int32) * (6 : Int32)) r_24 hc_25) (cwV 2 hts gX6_digest_X6_thingValue rfl rfl rfl (by decide +kernel) ⟨Nat.le_of_ble_eq_true rfl, Nat.le_of_ble_eq_true rfl⟩) 6 rfl rfl rfl rfl hl.1 rfl (Nat.le_of_ble_eq_true rfl) dX6_digest_102 hK hP (hD0.addr rfl) hS hA [0, 1, 2, 3, 4, 5, 6, 7] rfl rfl rfl rfl ⟨Nat.zero_le _, Nat.zero_le _⟩ (fun H locs hP hD hS => ?_)
        obtain ⟨su_26, hc_27, hf⟩ := bd_of hf
        refine fn_V (v := none) (As := [.int r_24]) (rest := []) (st1 := []) (ws' := (wMo X mo al sv sm asd th ho fr txt tl pos od nu su_26)) (nL := 3) ⟨hx, hb, hml, hown, hts⟩ (c_X6_adds l X mo al sv sm asd th ho fr txt tl pos od nu su r_24 su_26 hc_27) (cwV 1 hts gX6_digest_X6_adds rfl rfl rfl (by decide +kernel) ⟨Nat.le_of_ble_eq_true rfl, Nat.le_of_ble_eq_true rfl⟩) 6 rfl rfl rfl rfl hl.1 rfl (Nat.le_of_ble_eq_true rfl) dX6_digest_105 hK hP (hD0.addr rfl) hS hA [0, 1, 2, 3, 4, 5, 6, 7] rfl rfl rfl rfl ⟨Nat.zero_le _, Nat.zero_le _⟩ (fun H locs hP hD hS => ?_)
        obtain ⟨v_28, ev_28⟩ : ∃ y : Int32, y = x1 + (1 : Int32) := ⟨_, rfl⟩
        replace hf := nm_of ev_28 hf
        refine lv_iinc (v := v_28) (lv' := [(1, .int v_28), (0, .ref (mo 0))]) hx hb dX6_digest_108 hl (k := 1) rfl (by rw [ev_28]; rfl) (by decide) rfl (fun ls hl => ?_)
        refine lv_goto (tgt := 79) hx hb dX6_digest_111 (by decide) ?_
        exact ih v_28 su_26 _ _ _ hf hP hS (lv_sub hl [1, 0] rfl)
  have loop_49 : ∀ (Q : State → Prop) (th : Int32) (ho : (Nat → Int32)) (suo : Int64), (∀ (H : Heap) (locs : List Loc) (ls : Array Slot), va_P X.1 vwCl (wMo X mo al sv sm asd th ho fr txt tl pos od nu suo) H → va_S A s.heap H locs → lv_has ls 3 [(0, .ref (mo 0))] → W p l e ({ frames := 5, cells := 0, slots := 0, locals := 111 } : Room) s m args below meth c H locs 0 0 Q (F0 m 77 ls [])) → ∀ (k_ : Nat) (x1 : Int32) (su : Int64) (H : Heap) (locs : List Loc) (ls : Array Slot), f_X6_digest_L49 al ho k_ x1 su = some suo → va_P X.1 vwCl (wMo X mo al sv sm asd th ho fr txt tl pos od nu su) H → va_S A s.heap H locs → lv_has ls 3 [(0, .ref (mo 0)), (1, .int x1)] → W p l e ({ frames := 5, cells := 0, slots := 0, locals := 111 } : Room) s m args below meth c H locs 0 0 Q (F0 m 49 ls []) := by
    intro Q th ho suo kx k_
    induction k_ with
    | zero => intro x1 su H locs ls hf; exact nomatch (show (none : Option (Int64)) = some _ from hf)
    | succ k_ ih =>
      intro x1 su H locs ls hf hP hS hl
      unfold f_X6_digest_L49 at hf
      refine lv_iload_n hx hb dX6_digest_49 rfl (lv_at hl 1 rfl) ?_
      refine lv_bipush (v := 70) hx hb dX6_digest_50 (by decide) ?_
      refine lv_icmp_ge (tgt := 77) hx hb dX6_digest_52 (by decide) (fun c_29 => ?_) (fun c_29 => ?_)
      · replace hf := fp_t c_29 hf
        cases hf
        exact kx _ _ _ hP hS (lv_sub hl [0] rfl)
      · replace hf := fp_f c_29 hf
        refine lv_aload_n hx hb dX6_digest_55 rfl (lv_at hl 0 rfl) ?_
        refine lv_aload_n hx hb dX6_digest_56 rfl (lv_at hl 0 rfl) ?_
        refine lv_iload_n hx hb dX6_digest_57 rfl (lv_at hl 1 rfl) ?_
        refine lv_bipush (v := 7) hx hb dX6_digest_58 (by decide) ?_
        refine lv_idiv hx hb dX6_digest_60 (by decide) ?_
        refine lv_iload_n hx hb dX6_digest_61 rfl (lv_at hl 1 rfl) ?_
        refine lv_bipush (v := 7) hx hb dX6_digest_62 (by decide) ?_
        refine lv_irem hx hb dX6_digest_64 (by decide) ?_
        obtain ⟨r_30, hc_31, hf⟩ := bd_of hf
        refine fn_V (v := some (.int r_30)) (As := [.int (x1 / (7 : Int32)), .int (x1 - x1 / (7 : Int32) * (7 : Int32))]) (rest := [.ref (mo 0)]) (st1 := [.int r_30, .ref (mo 0)]) (ws' := (wMo X mo al sv sm asd th ho fr txt tl pos od nu su)) (nL := 3) ⟨hx, hb, hml, hown, hts⟩ (c_X6_personValue l X mo al sv sm asd th ho fr txt tl pos od nu su (x1 / (7 : Int32)) (x1 - x1 / (7 : Int32) * (7 : Int32)) r_30 hc_31) (cwV 2 hts gX6_digest_X6_personValue rfl rfl rfl (by decide +kernel) ⟨Nat.le_of_ble_eq_true rfl, Nat.le_of_ble_eq_true rfl⟩) 6 rfl rfl rfl rfl hl.1 rfl (Nat.le_of_ble_eq_true rfl) dX6_digest_65 hK hP (hD0.addr rfl) hS hA [0, 1, 2, 3, 4, 5, 6, 7] rfl rfl rfl rfl ⟨Nat.zero_le _, Nat.zero_le _⟩ (fun H locs hP hD hS => ?_)
        obtain ⟨su_32, hc_33, hf⟩ := bd_of hf
        refine fn_V (v := none) (As := [.int r_30]) (rest := []) (st1 := []) (ws' := (wMo X mo al sv sm asd th ho fr txt tl pos od nu su_32)) (nL := 3) ⟨hx, hb, hml, hown, hts⟩ (c_X6_adds l X mo al sv sm asd th ho fr txt tl pos od nu su r_30 su_32 hc_33) (cwV 1 hts gX6_digest_X6_adds rfl rfl rfl (by decide +kernel) ⟨Nat.le_of_ble_eq_true rfl, Nat.le_of_ble_eq_true rfl⟩) 6 rfl rfl rfl rfl hl.1 rfl (Nat.le_of_ble_eq_true rfl) dX6_digest_68 hK hP (hD0.addr rfl) hS hA [0, 1, 2, 3, 4, 5, 6, 7] rfl rfl rfl rfl ⟨Nat.zero_le _, Nat.zero_le _⟩ (fun H locs hP hD hS => ?_)
        obtain ⟨v_34, ev_34⟩ : ∃ y : Int32, y = x1 + (1 : Int32) := ⟨_, rfl⟩
        replace hf := nm_of ev_34 hf
        refine lv_iinc (v := v_34) (lv' := [(1, .int v_34), (0, .ref (mo 0))]) hx hb dX6_digest_71 hl (k := 1) rfl (by rw [ev_34]; rfl) (by decide) rfl (fun ls hl => ?_)
        refine lv_goto (tgt := 49) hx hb dX6_digest_74 (by decide) ?_
        exact ih v_34 su_32 _ _ _ hf hP hS (lv_sub hl [1, 0] rfl)
  have loop_22 : ∀ (Q : State → Prop) (th : Int32) (hoo : (Nat → Int32)) (suo : Int64), (∀ (H : Heap) (locs : List Loc) (ls : Array Slot), va_P X.1 vwCl (wMo X mo al sv sm asd th hoo fr txt tl pos od nu suo) H → va_S A s.heap H locs → lv_has ls 3 [(0, .ref (mo 0))] → W p l e ({ frames := 5, cells := 0, slots := 0, locals := 111 } : Room) s m args below meth c H locs 0 0 Q (F0 m 43 ls [])) → ∀ (k_ : Nat) (x1 : Int32) (ho : (Nat → Int32)) (su : Int64) (H : Heap) (locs : List Loc) (ls : Array Slot), f_X6_digest_L22 al k_ x1 ho su = some (hoo, suo) → va_P X.1 vwCl (wMo X mo al sv sm asd th ho fr txt tl pos od nu su) H → va_S A s.heap H locs → lv_has ls 3 [(0, .ref (mo 0)), (1, .int x1)] → W p l e ({ frames := 5, cells := 0, slots := 0, locals := 111 } : Room) s m args below meth c H locs 0 0 Q (F0 m 22 ls []) := by
    intro Q th hoo suo kx k_
    induction k_ with
    | zero => intro x1 ho su H locs ls hf; exact nomatch (show (none : Option ((Nat → Int32) × Int64)) = some _ from hf)
    | succ k_ ih =>
      intro x1 ho su H locs ls hf hP hS hl
      unfold f_X6_digest_L22 at hf
      refine lv_iload_n hx hb dX6_digest_22 rfl (lv_at hl 1 rfl) ?_
      refine lv_bipush (v := 9) hx hb dX6_digest_23 (by decide) ?_
      refine lv_icmp_ge (tgt := 43) hx hb dX6_digest_25 (by decide) (fun c_35 => ?_) (fun c_35 => ?_)
      · replace hf := fp_t c_35 hf
        cases hf
        exact kx _ _ _ hP hS (lv_sub hl [0] rfl)
      · replace hf := fp_f c_35 hf
        refine lv_aload_n hx hb dX6_digest_28 rfl (lv_at hl 0 rfl) ?_
        refine lv_aload_n hx hb dX6_digest_29 rfl (lv_at hl 0 rfl) ?_
        refine lv_iload_n hx hb dX6_digest_30 rfl (lv_at hl 1 rfl) ?_
        obtain ⟨r_36, ho_37, hc_38, hf⟩ := bd2_of hf
        refine fn_V (v := some (.int r_36)) (As := [.int x1]) (rest := [.ref (mo 0)]) (st1 := [.int r_36, .ref (mo 0)]) (ws' := (wMo X mo al sv sm asd th ho_37 fr txt tl pos od nu su)) (nL := 3) ⟨hx, hb, hml, hown, hts⟩ (c_X6_numberOf l X mo al sv sm asd th ho fr txt tl pos od nu su x1 r_36 ho_37 hc_38) (cwV 1 hts gX6_digest_X6_numberOf rfl rfl rfl (by decide +kernel) ⟨Nat.le_of_ble_eq_true rfl, Nat.le_of_ble_eq_true rfl⟩) 6 rfl rfl rfl rfl hl.1 rfl (Nat.le_of_ble_eq_true rfl) dX6_digest_31 hK hP (hD0.addr rfl) hS hA [0, 1, 2, 3, 4, 5, 6, 7] rfl rfl rfl rfl ⟨Nat.zero_le _, Nat.zero_le _⟩ (fun H locs hP hD hS => ?_)
        obtain ⟨su_39, hc_40, hf⟩ := bd_of hf
        refine fn_V (v := none) (As := [.int r_36]) (rest := []) (st1 := []) (ws' := (wMo X mo al sv sm asd th ho_37 fr txt tl pos od nu su_39)) (nL := 3) ⟨hx, hb, hml, hown, hts⟩ (c_X6_adds l X mo al sv sm asd th ho_37 fr txt tl pos od nu su r_36 su_39 hc_40) (cwV 1 hts gX6_digest_X6_adds rfl rfl rfl (by decide +kernel) ⟨Nat.le_of_ble_eq_true rfl, Nat.le_of_ble_eq_true rfl⟩) 6 rfl rfl rfl rfl hl.1 rfl (Nat.le_of_ble_eq_true rfl) dX6_digest_34 hK hP (hD0.addr rfl) hS hA [0, 1, 2, 3, 4, 5, 6, 7] rfl rfl rfl rfl ⟨Nat.zero_le _, Nat.zero_le _⟩ (fun H locs hP hD hS => ?_)
        obtain ⟨v_41, ev_41⟩ : ∃ y : Int32, y = x1 + (1 : Int32) := ⟨_, rfl⟩
        replace hf := nm_of ev_41 hf
        refine lv_iinc (v := v_41) (lv' := [(1, .int v_41), (0, .ref (mo 0))]) hx hb dX6_digest_37 hl (k := 1) rfl (by rw [ev_41]; rfl) (by decide) rfl (fun ls hl => ?_)
        refine lv_goto (tgt := 22) hx hb dX6_digest_40 (by decide) ?_
        exact ih v_41 ho_37 su_39 _ _ _ hf hP hS (lv_sub hl [1, 0] rfl)
  unfold f_X6_digest at hf
  refine lv_aload_n hx hb dX6_digest_0 rfl (lv_at hl 0 rfl) ?_
  refine lv_iconst (v := 0) hx hb dX6_digest_1 (by decide) ?_
  refine va_put (D := X.1) (ci := 6) (v := .int (0 : Int32)) (ty := .int) (C := RX6) (T := TX6) (N := 13) hx hb hts hiX6 tyX6 tyX6_ok nmX6 hown hK.1 hP (hD0.addr rfl) hS 0 rfl rfl 4 (by decide) k31 (fun _ h9 => h9) rfl (by decide +kernel) rfl rfl (Nat.le_of_ble_eq_true rfl) dX6_digest_2 (fun H locs hP hD hS => ?_)
  have hP : va_P X.1 vwCl (wMo X mo al sv sm asd (0 : Int32) ho fr txt tl pos od nu su) H := hP
  refine lv_aload_n hx hb dX6_digest_5 rfl (lv_at hl 0 rfl) ?_
  refine lv_ldc2 hx hb hown (hts (.constantLong RX6 242 (3671)) (by decide +kernel)) dX6_digest_6 ?_
  refine va_put (D := X.1) (ci := 6) (v := .long (3671 : Int64)) (ty := .long) (C := RX6) (T := TX6) (N := 13) hx hb hts hiX6 tyX6 tyX6_ok nmX6 hown hK.1 hP (hD0.addr rfl) hS 0 rfl rfl 12 (by decide) k238 (fun _ h9 => h9) rfl (by decide +kernel) rfl rfl (Nat.le_of_ble_eq_true rfl) dX6_digest_9 (fun H locs hP hD hS => ?_)
  have hP : va_P X.1 vwCl (wMo X mo al sv sm asd (0 : Int32) ho fr txt tl pos od nu (3671 : Int64)) H := hP
  refine lv_aload_n hx hb dX6_digest_12 rfl (lv_at hl 0 rfl) ?_
  refine lv_aload_n hx hb dX6_digest_13 rfl (lv_at hl 0 rfl) ?_
  refine va_get (D := X.1) (ci := 6) (v := .int tl) (C := RX6) (T := TX6) (N := 13) hx hb hts hiX6 hown hK.1 hP 0 rfl rfl 8 (by decide) k195 (fun _ h9 => h9) rfl dX6_digest_14 ?_
  obtain ⟨su_42, hc_43, hf⟩ := bd_of hf
  refine fn_V (v := none) (As := [.int tl]) (rest := []) (st1 := []) (ws' := (wMo X mo al sv sm asd (0 : Int32) ho fr txt tl pos od nu su_42)) (nL := 3) ⟨hx, hb, hml, hown, hts⟩ (c_X6_adds l X mo al sv sm asd (0 : Int32) ho fr txt tl pos od nu (3671 : Int64) tl su_42 hc_43) (cwV 1 hts gX6_digest_X6_adds rfl rfl rfl (by decide +kernel) ⟨Nat.le_of_ble_eq_true rfl, Nat.le_of_ble_eq_true rfl⟩) 6 rfl rfl rfl rfl hl.1 rfl (Nat.le_of_ble_eq_true rfl) dX6_digest_17 hK hP (hD0.addr rfl) hS hA [0, 1, 2, 3, 4, 5, 6, 7] rfl rfl rfl rfl ⟨Nat.zero_le _, Nat.zero_le _⟩ (fun H locs hP hD hS => ?_)
  refine lv_iconst (v := 0) hx hb dX6_digest_20 (by decide) ?_
  refine lv_istore_n (lv' := [(1, .int (0 : Int32)), (0, .ref (mo 0))]) hx hb dX6_digest_21 rfl hl (by decide) rfl (fun ls hl => ?_)
  obtain ⟨ho_44, su_45, hL_46, hf⟩ := bd2_of hf
  refine loop_22 _ (0 : Int32) ho_44 su_45 (fun H locs ls hP hS hl => ?_) FU (0 : Int32) ho su_42 _ _ _ hL_46 hP hS (lv_sub hl [1, 0] rfl)
  refine lv_aload_n hx hb dX6_digest_43 rfl (lv_at hl 0 rfl) ?_
  obtain ⟨ho_47, hc_48, hf⟩ := bd_of hf
  refine fn_V (v := none) (As := []) (rest := []) (st1 := []) (ws' := (wMo X mo al sv sm asd (0 : Int32) ho_47 fr txt tl pos od nu su_45)) (nL := 3) ⟨hx, hb, hml, hown, hts⟩ (c_X6_lay l X mo al sv sm asd (0 : Int32) ho_44 fr txt tl pos od nu su_45 ho_47 hc_48) (cwV 0 hts gX6_digest_X6_lay rfl rfl rfl (by decide +kernel) ⟨Nat.le_of_ble_eq_true rfl, Nat.le_of_ble_eq_true rfl⟩) 6 rfl rfl rfl rfl hl.1 rfl (Nat.le_of_ble_eq_true rfl) dX6_digest_44 hK hP (hD0.addr rfl) hS hA [0, 1, 2, 3, 4, 5, 6, 7] rfl rfl rfl rfl ⟨Nat.zero_le _, Nat.zero_le _⟩ (fun H locs hP hD hS => ?_)
  refine lv_iconst (v := 0) hx hb dX6_digest_47 (by decide) ?_
  refine lv_istore_n (lv' := [(1, .int (0 : Int32)), (0, .ref (mo 0))]) hx hb dX6_digest_48 rfl hl (by decide) rfl (fun ls hl => ?_)
  obtain ⟨su_49, hL_50, hf⟩ := bd_of hf
  refine loop_49 _ (0 : Int32) ho_47 su_49 (fun H locs ls hP hS hl => ?_) FU (0 : Int32) su_45 _ _ _ hL_50 hP hS (lv_sub hl [1, 0] rfl)
  refine lv_iconst (v := 0) hx hb dX6_digest_77 (by decide) ?_
  refine lv_istore_n (lv' := [(1, .int (0 : Int32)), (0, .ref (mo 0))]) hx hb dX6_digest_78 rfl hl (by decide) rfl (fun ls hl => ?_)
  obtain ⟨su_51, hL_52, hf⟩ := bd_of hf
  refine loop_79 _ (0 : Int32) ho_47 su_51 (fun H locs ls hP hS hl => ?_) FU (0 : Int32) su_49 _ _ _ hL_52 hP hS (lv_sub hl [1, 0] rfl)
  refine lv_iconst (v := 0) hx hb dX6_digest_114 (by decide) ?_
  refine lv_istore_n (lv' := [(1, .int (0 : Int32)), (0, .ref (mo 0))]) hx hb dX6_digest_115 rfl hl (by decide) rfl (fun ls hl => ?_)
  obtain ⟨su_53, hL_54, hf⟩ := bd_of hf
  refine loop_116 _ (0 : Int32) ho_47 su_53 (fun H locs ls hP hS hl => ?_) FU (0 : Int32) su_51 _ _ _ hL_54 hP hS (lv_sub hl [1, 0] rfl)
  refine lv_iconst (v := 0) hx hb dX6_digest_166 (by decide) ?_
  refine lv_istore_n (lv' := [(1, .int (0 : Int32)), (0, .ref (mo 0))]) hx hb dX6_digest_167 rfl hl (by decide) rfl (fun ls hl => ?_)
  obtain ⟨su_55, hL_56, hf⟩ := bd_of hf
  refine loop_168 _ (0 : Int32) ho_47 su_55 (fun H locs ls hP hS hl => ?_) FU (0 : Int32) su_53 _ _ _ hL_56 hP hS (lv_sub hl [1, 0] rfl)
  refine lv_aload_n hx hb dX6_digest_201 rfl (lv_at hl 0 rfl) ?_
  refine lv_aload_n hx hb dX6_digest_202 rfl (lv_at hl 0 rfl) ?_
  refine va_get (D := X.1) (ci := 6) (v := .int sm) (C := RX6) (T := TX6) (N := 13) hx hb hts hiX6 hown hK.1 hP 0 rfl rfl 2 (by decide) k35 (fun _ h9 => h9) rfl dX6_digest_203 ?_
  obtain ⟨su_57, hc_58, hf⟩ := bd_of hf
  refine fn_V (v := none) (As := [.int sm]) (rest := []) (st1 := []) (ws' := (wMo X mo al sv sm asd (0 : Int32) ho_47 fr txt tl pos od nu su_57)) (nL := 3) ⟨hx, hb, hml, hown, hts⟩ (c_X6_adds l X mo al sv sm asd (0 : Int32) ho_47 fr txt tl pos od nu su_55 sm su_57 hc_58) (cwV 1 hts gX6_digest_X6_adds rfl rfl rfl (by decide +kernel) ⟨Nat.le_of_ble_eq_true rfl, Nat.le_of_ble_eq_true rfl⟩) 6 rfl rfl rfl rfl hl.1 rfl (Nat.le_of_ble_eq_true rfl) dX6_digest_206 hK hP (hD0.addr rfl) hS hA [0, 1, 2, 3, 4, 5, 6, 7] rfl rfl rfl rfl ⟨Nat.zero_le _, Nat.zero_le _⟩ (fun H locs hP hD hS => ?_)
  refine lv_aload_n hx hb dX6_digest_209 rfl (lv_at hl 0 rfl) ?_
  refine va_get (D := X.1) (ci := 6) (v := .long su_57) (C := RX6) (T := TX6) (N := 13) hx hb hts hiX6 hown hK.1 hP 0 rfl rfl 12 (by decide) k238 (fun _ h9 => h9) rfl dX6_digest_210 ?_
  cases hf
  exact fn_lret hx hb hr hlocks hP hS dX6_digest_213
