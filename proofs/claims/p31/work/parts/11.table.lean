abbrev wTb (X : cx_G) (t c : Nat) (lim col : Int32) (n : Nat) (rows : Int32) (f : Nat → Int32) : va_W := [(t, .inr (3, [.int lim, .int col, .ref c, .int rows])), (c, .inl (X.2.1, n, .inl f))]
def wHo (X : cx_G) (h : Nat → Nat) (rP : Int32) (fP : Nat → Int32) (rT : Int32) (fT : Nat → Int32) (rG : Int32) (fG : Nat → Int32) (rL : Int32) (fL : Nat → Int32) (rH : Int32) (fH : Nat → Int32) (gi di re ti : Int32) : va_W := [(h 0, .inr (2, [.ref (h 1), .ref (h 3), .ref (h 5), .ref (h 7), .ref (h 9), .int gi, .int di, .int re, .int ti])), (h 1, .inr (3, [.int 10, .int 2, .ref (h 2), .int rP])), (h 2, .inl (X.2.1, 20, .inl fP)), (h 3, .inr (3, [.int 8, .int 2, .ref (h 4), .int rT])), (h 4, .inl (X.2.1, 16, .inl fT)), (h 5, .inr (3, [.int 40, .int 6, .ref (h 6), .int rG])), (h 6, .inl (X.2.1, 240, .inl fG)), (h 7, .inr (3, [.int 12, .int 3, .ref (h 8), .int rL])), (h 8, .inl (X.2.1, 36, .inl fL)), (h 9, .inr (3, [.int 8, .int 10, .ref (h 10), .int rH])), (h 10, .inl (X.2.1, 80, .inl fH))]
def wCh (X : cx_G) (ch : Nat → Nat) (rS : Int32) (fS : Nat → Int32) : va_W := [(ch 0, .inr (0, [.ref (ch 1)])), (ch 1, .inr (3, [.int 1, .int 10, .ref (ch 2), .int rS])), (ch 2, .inl (X.2.1, 10, .inl fS))]
def wTx (X : cx_G) (tx : Nat → Nat) (rB : Int32) (fB : Nat → Int32) (rO : Int32) (fO : Nat → Int32) (pl fa : Int32) : va_W := [(tx 0, .inr (4, [.ref (tx 1), .ref (tx 3), .int pl, .int fa])), (tx 1, .inr (3, [.int 100, .int 1, .ref (tx 2), .int rB])), (tx 2, .inl (X.2.1, 100, .inl fB)), (tx 3, .inr (3, [.int 100, .int 6, .ref (tx 4), .int rO])), (tx 4, .inl (X.2.1, 600, .inl fO))]
def wMo (X : cx_G) (mo : Nat → Nat) (al sv : Nat → Int32) (sm : Int32) (asd : Nat → Int32) (th : Int32) (ho fr txt : Nat → Int32) (tl pos od : Int32) (nu : Nat → Int32) (su : Int64) : va_W := [(mo 0, .inr (6, [.ref (mo 1), .ref (mo 2), .int sm, .ref (mo 3), .int th, .ref (mo 4), .ref (mo 5), .ref (mo 6), .int tl, .int pos, .int od, .ref (mo 7), .long su])), (mo 1, .inl (X.2.1, 320, .inl al)), (mo 2, .inl (X.2.1, 1280, .inl sv)), (mo 3, .inl (X.2.1, 320, .inl asd)), (mo 4, .inl (X.2.1, 80, .inl ho)), (mo 5, .inl (X.2.1, 10, .inl fr)), (mo 6, .inl (X.2.1, 100, .inl txt)), (mo 7, .inl (X.2.1, 5, .inl nu))]
theorem sw_out {x : Int32} (n : Nat) (hn : n < 2 ^ 31) (h : ∀ j : Nat, j ≤ n → ¬ x = nI j) : x.toInt < 0 ∨ (n : Int) < x.toInt := by
  by_cases h0 : x.toInt < 0
  · exact Or.inl h0
  · refine Or.inr (Int.not_le.mp fun h1 => ?_)
    refine h x.toInt.toNat (by omega) ?_
    apply Int32.toInt_inj.mp
    rw [nI_toInt (by omega)]
    omega
theorem sw_ne {x : Int32} (k : Int32) (h : ¬ x = k) : ¬ k.toInt = x.toInt := fun e => h (Int32.toInt_inj.mp e.symm)
def f_J6_bitCount_0f7a4 (x0 : Int32) : Option (Int32) :=
  nm (x0 - (((x0.toUInt32 >>> ((1 : Int32).toUInt32 &&& Int32.toUInt32 31)).toInt32) &&& (1431655765 : Int32))) (fun v_1 =>
  nm ((v_1 &&& (858993459 : Int32)) + (((v_1.toUInt32 >>> ((2 : Int32).toUInt32 &&& Int32.toUInt32 31)).toInt32) &&& (858993459 : Int32))) (fun v_2 =>
  nm ((v_2 + ((v_2.toUInt32 >>> ((4 : Int32).toUInt32 &&& Int32.toUInt32 31)).toInt32)) &&& (252645135 : Int32)) (fun v_3 =>
  nm (v_3 + ((v_3.toUInt32 >>> ((8 : Int32).toUInt32 &&& Int32.toUInt32 31)).toInt32)) (fun v_4 =>
  nm (v_4 + ((v_4.toUInt32 >>> ((16 : Int32).toUInt32 &&& Int32.toUInt32 31)).toInt32)) (fun v_5 =>
  nm (v_5 &&& (63 : Int32)) (fun v_6 =>
  some v_6))))))
set_option maxHeartbeats 4000000 in
set_option maxRecDepth 100000 in
theorem c_J6_bitCount_0f7a4 (l : Launch) (X : cx_G) (x0 : Int32) (r : Int32) (hf : f_J6_bitCount_0f7a4 x0 = some r) : Fn l yJ6_bitCount_0f7a4 wsJ6_bitCount_0f7a4 ({ frames := 0, cells := 0, slots := 0, locals := 0 } : Room) X [.int x0] ([] : va_W) (some (.int r)) ([] : va_W) := by
  refine fn_intro (cc := cJ6_bitCount_0f7a4) (maxL := 1) (ret := (some .int)) (by decide) rfl rfl (Nat.le_of_ble_eq_true rfl) ?_
  intro p e s m args below meth c A ls hx hb hml hr hts hown hlocks hK hP hD0 hS hA hl
  have hown : s.vm.findClass RJ6 = some m.cls := hown
  have hl : lv_has ls 1 [(0, .int x0)] := hl
  unfold f_J6_bitCount_0f7a4 at hf
  refine lv_iload_n hx hb dJ6_bitCount_0f7a4_0 rfl (lv_at hl 0 rfl) ?_
  refine lv_iload_n hx hb dJ6_bitCount_0f7a4_1 rfl (lv_at hl 0 rfl) ?_
  refine lv_iconst (v := 1) hx hb dJ6_bitCount_0f7a4_2 (by decide) ?_
  refine lv_iushr (v := (x0.toUInt32 >>> ((1 : Int32).toUInt32 &&& Int32.toUInt32 31)).toInt32) hx hb dJ6_bitCount_0f7a4_3 rfl ?_
  refine lv_ldcw hx hb hown (hts (.constant RJ6 265 (1431655765)) (by decide +kernel)) dJ6_bitCount_0f7a4_4 ?_
  refine lv_iand hx hb dJ6_bitCount_0f7a4_7 ?_
  refine lv_isub hx hb dJ6_bitCount_0f7a4_8 ?_
  refine lv_topi (fun v_1 ev_1 => ?_)
  replace hf := nm_of ev_1 hf
  refine lv_istore_n (lv' := [(0, .int v_1)]) hx hb dJ6_bitCount_0f7a4_9 rfl hl (by decide) rfl (fun ls hl => ?_)
  refine lv_iload_n hx hb dJ6_bitCount_0f7a4_10 rfl (lv_at hl 0 rfl) ?_
  refine lv_ldcw hx hb hown (hts (.constant RJ6 266 (858993459)) (by decide +kernel)) dJ6_bitCount_0f7a4_11 ?_
  refine lv_iand hx hb dJ6_bitCount_0f7a4_14 ?_
  refine lv_iload_n hx hb dJ6_bitCount_0f7a4_15 rfl (lv_at hl 0 rfl) ?_
  refine lv_iconst (v := 2) hx hb dJ6_bitCount_0f7a4_16 (by decide) ?_
  refine lv_iushr (v := (v_1.toUInt32 >>> ((2 : Int32).toUInt32 &&& Int32.toUInt32 31)).toInt32) hx hb dJ6_bitCount_0f7a4_17 rfl ?_
  refine lv_ldcw hx hb hown (hts (.constant RJ6 266 (858993459)) (by decide +kernel)) dJ6_bitCount_0f7a4_18 ?_
  refine lv_iand hx hb dJ6_bitCount_0f7a4_21 ?_
  refine lv_iadd hx hb dJ6_bitCount_0f7a4_22 ?_
  refine lv_topi (fun v_2 ev_2 => ?_)
  replace hf := nm_of ev_2 hf
  refine lv_istore_n (lv' := [(0, .int v_2)]) hx hb dJ6_bitCount_0f7a4_23 rfl hl (by decide) rfl (fun ls hl => ?_)
  refine lv_iload_n hx hb dJ6_bitCount_0f7a4_24 rfl (lv_at hl 0 rfl) ?_
  refine lv_iload_n hx hb dJ6_bitCount_0f7a4_25 rfl (lv_at hl 0 rfl) ?_
  refine lv_iconst (v := 4) hx hb dJ6_bitCount_0f7a4_26 (by decide) ?_
  refine lv_iushr (v := (v_2.toUInt32 >>> ((4 : Int32).toUInt32 &&& Int32.toUInt32 31)).toInt32) hx hb dJ6_bitCount_0f7a4_27 rfl ?_
  refine lv_iadd hx hb dJ6_bitCount_0f7a4_28 ?_
  refine lv_ldcw hx hb hown (hts (.constant RJ6 267 (252645135)) (by decide +kernel)) dJ6_bitCount_0f7a4_29 ?_
  refine lv_iand hx hb dJ6_bitCount_0f7a4_32 ?_
  refine lv_topi (fun v_3 ev_3 => ?_)
  replace hf := nm_of ev_3 hf
  refine lv_istore_n (lv' := [(0, .int v_3)]) hx hb dJ6_bitCount_0f7a4_33 rfl hl (by decide) rfl (fun ls hl => ?_)
  refine lv_iload_n hx hb dJ6_bitCount_0f7a4_34 rfl (lv_at hl 0 rfl) ?_
  refine lv_iload_n hx hb dJ6_bitCount_0f7a4_35 rfl (lv_at hl 0 rfl) ?_
  refine lv_bipush (v := 8) hx hb dJ6_bitCount_0f7a4_36 (by decide) ?_
  refine lv_iushr (v := (v_3.toUInt32 >>> ((8 : Int32).toUInt32 &&& Int32.toUInt32 31)).toInt32) hx hb dJ6_bitCount_0f7a4_38 rfl ?_
  refine lv_iadd hx hb dJ6_bitCount_0f7a4_39 ?_
  refine lv_topi (fun v_4 ev_4 => ?_)
  replace hf := nm_of ev_4 hf
  refine lv_istore_n (lv' := [(0, .int v_4)]) hx hb dJ6_bitCount_0f7a4_40 rfl hl (by decide) rfl (fun ls hl => ?_)
  refine lv_iload_n hx hb dJ6_bitCount_0f7a4_41 rfl (lv_at hl 0 rfl) ?_
  refine lv_iload_n hx hb dJ6_bitCount_0f7a4_42 rfl (lv_at hl 0 rfl) ?_
  refine lv_bipush (v := 16) hx hb dJ6_bitCount_0f7a4_43 (by decide) ?_
  refine lv_iushr (v := (v_4.toUInt32 >>> ((16 : Int32).toUInt32 &&& Int32.toUInt32 31)).toInt32) hx hb dJ6_bitCount_0f7a4_45 rfl ?_
  refine lv_iadd hx hb dJ6_bitCount_0f7a4_46 ?_
  refine lv_topi (fun v_5 ev_5 => ?_)
  replace hf := nm_of ev_5 hf
  refine lv_istore_n (lv' := [(0, .int v_5)]) hx hb dJ6_bitCount_0f7a4_47 rfl hl (by decide) rfl (fun ls hl => ?_)
  refine lv_iload_n hx hb dJ6_bitCount_0f7a4_48 rfl (lv_at hl 0 rfl) ?_
  refine lv_bipush (v := 63) hx hb dJ6_bitCount_0f7a4_49 (by decide) ?_
  refine lv_iand hx hb dJ6_bitCount_0f7a4_51 ?_
  refine lv_topi (fun v_6 ev_6 => ?_)
  replace hf := nm_of ev_6 hf
  cases hf
  exact fn_iret hx hb hr hlocks hP hS dJ6_bitCount_0f7a4_52

def f_X5_isBetween (x0 : Int32) (x1 : Int32) (x2 : Int32) : Option (Int32) :=
  if x0 < x1 then
  (some (0 : Int32))
  else
  (if x2 < x0 then
  (some (0 : Int32))
  else
  (some (1 : Int32)))
theorem z_X5_isBetween {x0 : Int32} {x1 : Int32} {x2 : Int32} {r : Int32} (hf : f_X5_isBetween x0 x1 x2 = some r) : r = 0 ∨ r = 1 := by
  unfold f_X5_isBetween at hf
  by_cases c_1 : x0 < x1
  · replace hf := fp_t c_1 hf
    cases hf
    exact Or.inl rfl
  · replace hf := fp_f c_1 hf
    by_cases c_2 : x2 < x0
    · replace hf := fp_t c_2 hf
      cases hf
      exact Or.inl rfl
    · replace hf := fp_f c_2 hf
      cases hf
      exact Or.inr rfl
set_option maxHeartbeats 4000000 in
set_option maxRecDepth 100000 in
theorem c_X5_isBetween (l : Launch) (X : cx_G) (x0 : Int32) (x1 : Int32) (x2 : Int32) (r : Int32) (hf : f_X5_isBetween x0 x1 x2 = some r) : Fn l yX5_isBetween wsX5_isBetween ({ frames := 0, cells := 0, slots := 0, locals := 0 } : Room) X [.int x0, .int x1, .int x2] ([] : va_W) (some (.int r)) ([] : va_W) := by
  refine fn_intro (cc := cX5_isBetween) (maxL := 3) (ret := (some .boolean)) (by decide) rfl rfl (Nat.le_of_ble_eq_true rfl) ?_
  intro p e s m args below meth c A ls hx hb hml hr hts hown hlocks hK hP hD0 hS hA hl
  have hown : s.vm.findClass RX5 = some m.cls := hown
  have hl : lv_has ls 3 [(0, .int x0), (1, .int x1), (2, .int x2)] := hl
  unfold f_X5_isBetween at hf
  refine lv_iload_n hx hb dX5_isBetween_0 rfl (lv_at hl 0 rfl) ?_
  refine lv_iload_n hx hb dX5_isBetween_1 rfl (lv_at hl 1 rfl) ?_
  refine lv_icmp_lt (tgt := 14) hx hb dX5_isBetween_2 (by decide) (fun c_1 => ?_) (fun c_1 => ?_)
  · replace hf := fp_t c_1 hf
    refine lv_iconst (v := 0) hx hb dX5_isBetween_14 (by decide) ?_
    cases hf
    exact fn_zret hx hb hr rfl hlocks hP hS dX5_isBetween_15
  · replace hf := fp_f c_1 hf
    refine lv_iload_n hx hb dX5_isBetween_5 rfl (lv_at hl 0 rfl) ?_
    refine lv_iload_n hx hb dX5_isBetween_6 rfl (lv_at hl 2 rfl) ?_
    refine lv_icmp_gt (tgt := 14) hx hb dX5_isBetween_7 (by decide) (fun c_2 => ?_) (fun c_2 => ?_)
    · replace hf := fp_t c_2 hf
      refine lv_iconst (v := 0) hx hb dX5_isBetween_14 (by decide) ?_
      cases hf
      exact fn_zret hx hb hr rfl hlocks hP hS dX5_isBetween_15
    · replace hf := fp_f c_2 hf
      refine lv_iconst (v := 1) hx hb dX5_isBetween_10 (by decide) ?_
      refine lv_goto (tgt := 15) hx hb dX5_isBetween_11 (by decide) ?_
      cases hf
      exact fn_zret hx hb hr rfl hlocks hP hS dX5_isBetween_15

def f_X5_isPerson (x0 : Int32) : Option (Int32) :=
  bd (f_X5_isBetween x0 (0 : Int32) (9 : Int32)) (fun r_1 =>
  some r_1)
theorem z_X5_isPerson {x0 : Int32} {r : Int32} (hf : f_X5_isPerson x0 = some r) : r = 0 ∨ r = 1 := by
  unfold f_X5_isPerson at hf
  obtain ⟨r_1, hc_2, hf⟩ := bd_of hf
  cases hf
  exact z_X5_isBetween hc_2
set_option maxHeartbeats 4000000 in
set_option maxRecDepth 100000 in
theorem c_X5_isPerson (l : Launch) (X : cx_G) (x0 : Int32) (r : Int32) (hf : f_X5_isPerson x0 = some r) : Fn l yX5_isPerson wsX5_isPerson ({ frames := 1, cells := 0, slots := 0, locals := 22 } : Room) X [.int x0] ([] : va_W) (some (.int r)) ([] : va_W) := by
  refine fn_intro (cc := cX5_isPerson) (maxL := 1) (ret := (some .boolean)) (by decide) rfl rfl (Nat.le_of_ble_eq_true rfl) ?_
  intro p e s m args below meth c A ls hx hb hml hr hts hown hlocks hK hP hD0 hS hA hl
  have hown : s.vm.findClass RX5 = some m.cls := hown
  have hl : lv_has ls 1 [(0, .int x0)] := hl
  unfold f_X5_isPerson at hf
  refine lv_iload_n hx hb dX5_isPerson_0 rfl (lv_at hl 0 rfl) ?_
  refine lv_iconst (v := 0) hx hb dX5_isPerson_1 (by decide) ?_
  refine lv_bipush (v := 9) hx hb dX5_isPerson_2 (by decide) ?_
  obtain ⟨r_1, hc_2, hf⟩ := bd_of hf
  refine fn_Sx (v := some (.int r_1)) (As := [.int x0, .int (0 : Int32), .int (9 : Int32)]) (rest := []) (st1 := [.int r_1]) (ws' := ([] : va_W)) (nL := 1) ⟨hx, hb, hml, hown, hts⟩ (c_X5_isBetween l X x0 (0 : Int32) (9 : Int32) r_1 hc_2) (va_cwS 3 hts gX5_isPerson_X5_isBetween rfl rfl rfl (by decide +kernel) ⟨Nat.le_of_ble_eq_true rfl, Nat.le_of_ble_eq_true rfl⟩) rfl hl.1 rfl (Nat.le_of_ble_eq_true rfl) dX5_isPerson_4 hK hP (hD0.addr rfl) hS hA [] rfl rfl rfl rfl ⟨Nat.zero_le _, Nat.zero_le _⟩ (fun H locs hP hD hS => ?_)
  cases hf
  exact fn_zret hx hb hr (z_narrow (z_X5_isBetween hc_2)) hlocks hP hS dX5_isPerson_7

def f_X3_rows (rows : Int32) : Option (Int32) :=
  some rows
set_option maxHeartbeats 4000000 in
set_option maxRecDepth 100000 in
theorem c_X3_rows (l : Launch) (X : cx_G) (ta : Nat) (ca : Nat) (lim : Int32) (col : Int32) (nn : Nat) (rows : Int32) (f : (Nat → Int32)) (r : Int32) (hf : f_X3_rows rows = some r) : Fn l yX3_rows wsX3_rows ({ frames := 0, cells := 0, slots := 0, locals := 0 } : Room) X [.ref (ta)] (wTb X ta ca lim col nn rows f) (some (.int r)) (wTb X ta ca lim col nn rows f) := by
  refine fn_intro (cc := cX3_rows) (maxL := 1) (ret := (some .int)) (by decide) rfl rfl (Nat.le_of_ble_eq_true rfl) ?_
  intro p e s m args below meth c A ls hx hb hml hr hts hown hlocks hK hP hD0 hS hA hl
  have hown : s.vm.findClass RX3 = some m.cls := hown
  have hl : lv_has ls 1 [(0, .ref (ta))] := hl
  have hiX3 : ∀ w ∈ u_ws RX3 TX3 4, w ∈ wsX3_rows := by decide +kernel
  have k22 := hts (.fieldLink RX3 22 "LentRights$Table" "rows" "I") (by decide +kernel)
  unfold f_X3_rows at hf
  refine lv_aload_n hx hb dX3_rows_0 rfl (lv_at hl 0 rfl) ?_
  refine va_get (D := X.1) (ci := 3) (v := .int rows) (C := RX3) (T := TX3) (N := 4) hx hb hts hiX3 hown hK.1 hP 0 rfl rfl 3 (by decide) k22 (fun _ h9 => h9) rfl dX3_rows_1 ?_
  cases hf
  exact fn_iret hx hb hr hlocks hP hS dX3_rows_4

def f_X3_has (x1 : Int32) (rows : Int32) : Option (Int32) :=
  if x1 < (0 : Int32) then
  (some (0 : Int32))
  else
  (if rows ≤ x1 then
  (some (0 : Int32))
  else
  (some (1 : Int32)))
theorem z_X3_has {x1 : Int32} {rows : Int32} {r : Int32} (hf : f_X3_has x1 rows = some r) : r = 0 ∨ r = 1 := by
  unfold f_X3_has at hf
  by_cases c_1 : x1 < (0 : Int32)
  · replace hf := fp_t c_1 hf
    cases hf
    exact Or.inl rfl
  · replace hf := fp_f c_1 hf
    by_cases c_2 : rows ≤ x1
    · replace hf := fp_t c_2 hf
      cases hf
      exact Or.inl rfl
    · replace hf := fp_f c_2 hf
      cases hf
      exact Or.inr rfl
set_option maxHeartbeats 4000000 in
set_option maxRecDepth 100000 in
theorem c_X3_has (l : Launch) (X : cx_G) (ta : Nat) (ca : Nat) (lim : Int32) (col : Int32) (nn : Nat) (rows : Int32) (f : (Nat → Int32)) (x1 : Int32) (r : Int32) (hf : f_X3_has x1 rows = some r) : Fn l yX3_has wsX3_has ({ frames := 0, cells := 0, slots := 0, locals := 0 } : Room) X [.ref (ta), .int x1] (wTb X ta ca lim col nn rows f) (some (.int r)) (wTb X ta ca lim col nn rows f) := by
  refine fn_intro (cc := cX3_has) (maxL := 2) (ret := (some .boolean)) (by decide) rfl rfl (Nat.le_of_ble_eq_true rfl) ?_
  intro p e s m args below meth c A ls hx hb hml hr hts hown hlocks hK hP hD0 hS hA hl
  have hown : s.vm.findClass RX3 = some m.cls := hown
  have hl : lv_has ls 2 [(0, .ref (ta)), (1, .int x1)] := hl
  have hiX3 : ∀ w ∈ u_ws RX3 TX3 4, w ∈ wsX3_has := by decide +kernel
  have k22 := hts (.fieldLink RX3 22 "LentRights$Table" "rows" "I") (by decide +kernel)
  unfold f_X3_has at hf
  refine lv_iload_n hx hb dX3_has_0 rfl (lv_at hl 1 rfl) ?_
  refine lv_if_lt (tgt := 16) hx hb dX3_has_1 (by decide) (fun c_1 => ?_) (fun c_1 => ?_)
  · replace hf := fp_t c_1 hf
    refine lv_iconst (v := 0) hx hb dX3_has_16 (by decide) ?_
    cases hf
    exact fn_zret hx hb hr rfl hlocks hP hS dX3_has_17
  · replace hf := fp_f c_1 hf
    refine lv_iload_n hx hb dX3_has_4 rfl (lv_at hl 1 rfl) ?_
    refine lv_aload_n hx hb dX3_has_5 rfl (lv_at hl 0 rfl) ?_
    refine va_get (D := X.1) (ci := 3) (v := .int rows) (C := RX3) (T := TX3) (N := 4) hx hb hts hiX3 hown hK.1 hP 0 rfl rfl 3 (by decide) k22 (fun _ h9 => h9) rfl dX3_has_6 ?_
    refine lv_icmp_ge (tgt := 16) hx hb dX3_has_9 (by decide) (fun c_2 => ?_) (fun c_2 => ?_)
    · replace hf := fp_t c_2 hf
      refine lv_iconst (v := 0) hx hb dX3_has_16 (by decide) ?_
      cases hf
      exact fn_zret hx hb hr rfl hlocks hP hS dX3_has_17
    · replace hf := fp_f c_2 hf
      refine lv_iconst (v := 1) hx hb dX3_has_12 (by decide) ?_
      refine lv_goto (tgt := 17) hx hb dX3_has_13 (by decide) ?_
      cases hf
      exact fn_zret hx hb hr rfl hlocks hP hS dX3_has_17

def f_X3_isFull (lim : Int32) (rows : Int32) : Option (Int32) :=
  if rows < lim then
  (some (0 : Int32))
  else
  (some (1 : Int32))
theorem z_X3_isFull {lim : Int32} {rows : Int32} {r : Int32} (hf : f_X3_isFull lim rows = some r) : r = 0 ∨ r = 1 := by
  unfold f_X3_isFull at hf
  by_cases c_1 : rows < lim
  · replace hf := fp_t c_1 hf
    cases hf
    exact Or.inl rfl
  · replace hf := fp_f c_1 hf
    cases hf
    exact Or.inr rfl
set_option maxHeartbeats 4000000 in
set_option maxRecDepth 100000 in
theorem c_X3_isFull (l : Launch) (X : cx_G) (ta : Nat) (ca : Nat) (lim : Int32) (col : Int32) (nn : Nat) (rows : Int32) (f : (Nat → Int32)) (r : Int32) (hf : f_X3_isFull lim rows = some r) : Fn l yX3_isFull wsX3_isFull ({ frames := 0, cells := 0, slots := 0, locals := 0 } : Room) X [.ref (ta)] (wTb X ta ca lim col nn rows f) (some (.int r)) (wTb X ta ca lim col nn rows f) := by
  refine fn_intro (cc := cX3_isFull) (maxL := 1) (ret := (some .boolean)) (by decide) rfl rfl (Nat.le_of_ble_eq_true rfl) ?_
  intro p e s m args below meth c A ls hx hb hml hr hts hown hlocks hK hP hD0 hS hA hl
  have hown : s.vm.findClass RX3 = some m.cls := hown
  have hl : lv_has ls 1 [(0, .ref (ta))] := hl
  have hiX3 : ∀ w ∈ u_ws RX3 TX3 4, w ∈ wsX3_isFull := by decide +kernel
  have k9 := hts (.fieldLink RX3 9 "LentRights$Table" "limit" "I") (by decide +kernel)
  have k22 := hts (.fieldLink RX3 22 "LentRights$Table" "rows" "I") (by decide +kernel)
  unfold f_X3_isFull at hf
  refine lv_aload_n hx hb dX3_isFull_0 rfl (lv_at hl 0 rfl) ?_
  refine va_get (D := X.1) (ci := 3) (v := .int rows) (C := RX3) (T := TX3) (N := 4) hx hb hts hiX3 hown hK.1 hP 0 rfl rfl 3 (by decide) k22 (fun _ h9 => h9) rfl dX3_isFull_1 ?_
  refine lv_aload_n hx hb dX3_isFull_4 rfl (lv_at hl 0 rfl) ?_
  refine va_get (D := X.1) (ci := 3) (v := .int lim) (C := RX3) (T := TX3) (N := 4) hx hb hts hiX3 hown hK.1 hP 0 rfl rfl 0 (by decide) k9 (fun _ h9 => h9) rfl dX3_isFull_5 ?_
  refine lv_icmp_lt (tgt := 15) hx hb dX3_isFull_8 (by decide) (fun c_1 => ?_) (fun c_1 => ?_)
  · replace hf := fp_t c_1 hf
    refine lv_iconst (v := 0) hx hb dX3_isFull_15 (by decide) ?_
    cases hf
    exact fn_zret hx hb hr rfl hlocks hP hS dX3_isFull_16
  · replace hf := fp_f c_1 hf
    refine lv_iconst (v := 1) hx hb dX3_isFull_11 (by decide) ?_
    refine lv_goto (tgt := 16) hx hb dX3_isFull_12 (by decide) ?_
    cases hf
    exact fn_zret hx hb hr rfl hlocks hP hS dX3_isFull_16

def f_X3_at (col : Int32) (nn : Nat) (x1 : Int32) (x2 : Int32) (rows : Int32) (f : (Nat → Int32)) : Option (Int32) :=
  if x1 < (0 : Int32) then
  (nm ((x1 * col) + x2) (fun v_2 =>
  some (0 : Int32)))
  else
  (if rows ≤ x1 then
  (nm ((x1 * col) + x2) (fun v_5 =>
  some (0 : Int32)))
  else
  (if x2 < (0 : Int32) then
  (nm ((x1 * col) + x2) (fun v_8 =>
  some (0 : Int32)))
  else
  (if col ≤ x2 then
  (nm ((x1 * col) + x2) (fun v_11 =>
  some (0 : Int32)))
  else
  (nm ((x1 * col) + x2) (fun v_13 =>
  if v_13 < (0 : Int32) then
  (some (0 : Int32))
  else
  (if Int32.ofNat nn ≤ v_13 then
  (some (0 : Int32))
  else
  (ix v_13 nn (
  nm (f v_13.toNatClampNeg) (fun v_18 =>
  some v_18)))))))))
set_option maxHeartbeats 4000000 in
set_option maxRecDepth 100000 in
theorem c_X3_at (l : Launch) (X : cx_G) (ta : Nat) (ca : Nat) (lim : Int32) (col : Int32) (nn : Nat) (rows : Int32) (f : (Nat → Int32)) (x1 : Int32) (x2 : Int32) (r : Int32) (hf : f_X3_at col nn x1 x2 rows f = some r) : Fn l yX3_at wsX3_at ({ frames := 0, cells := 0, slots := 0, locals := 0 } : Room) X [.ref (ta), .int x1, .int x2] (wTb X ta ca lim col nn rows f) (some (.int r)) (wTb X ta ca lim col nn rows f) := by
  refine fn_intro (cc := cX3_at) (maxL := 5) (ret := (some .int)) (by decide) rfl rfl (Nat.le_of_ble_eq_true rfl) ?_
  intro p e s m args below meth c A ls hx hb hml hr hts hown hlocks hK hP hD0 hS hA hl
  have hown : s.vm.findClass RX3 = some m.cls := hown
  have hl : lv_has ls 5 [(0, .ref (ta)), (1, .int x1), (2, .int x2)] := hl
  have hiX3 : ∀ w ∈ u_ws RX3 TX3 4, w ∈ wsX3_at := by decide +kernel
  have k15 := hts (.fieldLink RX3 15 "LentRights$Table" "columns" "I") (by decide +kernel)
  have k18 := hts (.fieldLink RX3 18 "LentRights$Table" "cells" "[I") (by decide +kernel)
  have k22 := hts (.fieldLink RX3 22 "LentRights$Table" "rows" "I") (by decide +kernel)
  unfold f_X3_at at hf
  refine lv_iload_n hx hb dX3_at_0 rfl (lv_at hl 1 rfl) ?_
  refine lv_if_lt (tgt := 28) hx hb dX3_at_1 (by decide) (fun c_1 => ?_) (fun c_1 => ?_)
  · replace hf := fp_t c_1 hf
    refine lv_iconst (v := 0) hx hb dX3_at_28 (by decide) ?_
    refine lv_istore_n (lv' := [(3, .int (0 : Int32)), (0, .ref (ta)), (1, .int x1), (2, .int x2)]) hx hb dX3_at_29 rfl hl (by decide) rfl (fun ls hl => ?_)
    refine lv_iload_n hx hb dX3_at_30 rfl (lv_at hl 2 rfl) ?_
    refine lv_aload_n hx hb dX3_at_31 rfl (lv_at hl 1 rfl) ?_
    refine va_get (D := X.1) (ci := 3) (v := .int col) (C := RX3) (T := TX3) (N := 4) hx hb hts hiX3 hown hK.1 hP 0 rfl rfl 1 (by decide) k15 (fun _ h9 => h9) rfl dX3_at_32 ?_
    refine lv_imul hx hb dX3_at_35 ?_
    refine lv_iload_n hx hb dX3_at_36 rfl (lv_at hl 3 rfl) ?_
    refine lv_iadd hx hb dX3_at_37 ?_
    refine lv_topi (fun v_2 ev_2 => ?_)
    replace hf := nm_of ev_2 hf
    refine lv_istore (lv' := [(4, .int v_2), (3, .int (0 : Int32)), (0, .ref (ta)), (1, .int x1), (2, .int x2)]) hx hb dX3_at_38 hl (by decide) rfl (fun ls hl => ?_)
    refine lv_iload_n hx hb dX3_at_40 rfl (lv_at hl 1 rfl) ?_
    refine lv_if_eq (tgt := 69) hx hb dX3_at_41 (by decide) (fun _ => ?_) (fun c9 => absurd c9 (by decide))
    refine lv_iconst (v := 0) hx hb dX3_at_69 (by decide) ?_
    cases hf
    exact fn_iret hx hb hr hlocks hP hS dX3_at_70
  · replace hf := fp_f c_1 hf
    refine lv_iload_n hx hb dX3_at_4 rfl (lv_at hl 1 rfl) ?_
    refine lv_aload_n hx hb dX3_at_5 rfl (lv_at hl 0 rfl) ?_
    refine va_get (D := X.1) (ci := 3) (v := .int rows) (C := RX3) (T := TX3) (N := 4) hx hb hts hiX3 hown hK.1 hP 0 rfl rfl 3 (by decide) k22 (fun _ h9 => h9) rfl dX3_at_6 ?_
    refine lv_icmp_ge (tgt := 28) hx hb dX3_at_9 (by decide) (fun c_4 => ?_) (fun c_4 => ?_)
    · replace hf := fp_t c_4 hf
      refine lv_iconst (v := 0) hx hb dX3_at_28 (by decide) ?_
      refine lv_istore_n (lv' := [(3, .int (0 : Int32)), (0, .ref (ta)), (1, .int x1), (2, .int x2)]) hx hb dX3_at_29 rfl hl (by decide) rfl (fun ls hl => ?_)
      refine lv_iload_n hx hb dX3_at_30 rfl (lv_at hl 2 rfl) ?_
      refine lv_aload_n hx hb dX3_at_31 rfl (lv_at hl 1 rfl) ?_
      refine va_get (D := X.1) (ci := 3) (v := .int col) (C := RX3) (T := TX3) (N := 4) hx hb hts hiX3 hown hK.1 hP 0 rfl rfl 1 (by decide) k15 (fun _ h9 => h9) rfl dX3_at_32 ?_
      refine lv_imul hx hb dX3_at_35 ?_
      refine lv_iload_n hx hb dX3_at_36 rfl (lv_at hl 3 rfl) ?_
      refine lv_iadd hx hb dX3_at_37 ?_
      refine lv_topi (fun v_5 ev_5 => ?_)
      replace hf := nm_of ev_5 hf
      refine lv_istore (lv' := [(4, .int v_5), (3, .int (0 : Int32)), (0, .ref (ta)), (1, .int x1), (2, .int x2)]) hx hb dX3_at_38 hl (by decide) rfl (fun ls hl => ?_)
      refine lv_iload_n hx hb dX3_at_40 rfl (lv_at hl 1 rfl) ?_
      refine lv_if_eq (tgt := 69) hx hb dX3_at_41 (by decide) (fun _ => ?_) (fun c9 => absurd c9 (by decide))
      refine lv_iconst (v := 0) hx hb dX3_at_69 (by decide) ?_
      cases hf
      exact fn_iret hx hb hr hlocks hP hS dX3_at_70
    · replace hf := fp_f c_4 hf
      refine lv_iload_n hx hb dX3_at_12 rfl (lv_at hl 2 rfl) ?_
      refine lv_if_lt (tgt := 28) hx hb dX3_at_13 (by decide) (fun c_7 => ?_) (fun c_7 => ?_)
      · replace hf := fp_t c_7 hf
        refine lv_iconst (v := 0) hx hb dX3_at_28 (by decide) ?_
        refine lv_istore_n (lv' := [(3, .int (0 : Int32)), (0, .ref (ta)), (1, .int x1), (2, .int x2)]) hx hb dX3_at_29 rfl hl (by decide) rfl (fun ls hl => ?_)
        refine lv_iload_n hx hb dX3_at_30 rfl (lv_at hl 2 rfl) ?_
        refine lv_aload_n hx hb dX3_at_31 rfl (lv_at hl 1 rfl) ?_
        refine va_get (D := X.1) (ci := 3) (v := .int col) (C := RX3) (T := TX3) (N := 4) hx hb hts hiX3 hown hK.1 hP 0 rfl rfl 1 (by decide) k15 (fun _ h9 => h9) rfl dX3_at_32 ?_
        refine lv_imul hx hb dX3_at_35 ?_
        refine lv_iload_n hx hb dX3_at_36 rfl (lv_at hl 3 rfl) ?_
        refine lv_iadd hx hb dX3_at_37 ?_
        refine lv_topi (fun v_8 ev_8 => ?_)
        replace hf := nm_of ev_8 hf
        refine lv_istore (lv' := [(4, .int v_8), (3, .int (0 : Int32)), (0, .ref (ta)), (1, .int x1), (2, .int x2)]) hx hb dX3_at_38 hl (by decide) rfl (fun ls hl => ?_)
        refine lv_iload_n hx hb dX3_at_40 rfl (lv_at hl 1 rfl) ?_
        refine lv_if_eq (tgt := 69) hx hb dX3_at_41 (by decide) (fun _ => ?_) (fun c9 => absurd c9 (by decide))
        refine lv_iconst (v := 0) hx hb dX3_at_69 (by decide) ?_
        cases hf
        exact fn_iret hx hb hr hlocks hP hS dX3_at_70
      · replace hf := fp_f c_7 hf
        refine lv_iload_n hx hb dX3_at_16 rfl (lv_at hl 2 rfl) ?_
        refine lv_aload_n hx hb dX3_at_17 rfl (lv_at hl 0 rfl) ?_
        refine va_get (D := X.1) (ci := 3) (v := .int col) (C := RX3) (T := TX3) (N := 4) hx hb hts hiX3 hown hK.1 hP 0 rfl rfl 1 (by decide) k15 (fun _ h9 => h9) rfl dX3_at_18 ?_
        refine lv_icmp_ge (tgt := 28) hx hb dX3_at_21 (by decide) (fun c_10 => ?_) (fun c_10 => ?_)
        · replace hf := fp_t c_10 hf
          refine lv_iconst (v := 0) hx hb dX3_at_28 (by decide) ?_
          refine lv_istore_n (lv' := [(3, .int (0 : Int32)), (0, .ref (ta)), (1, .int x1), (2, .int x2)]) hx hb dX3_at_29 rfl hl (by decide) rfl (fun ls hl => ?_)
          refine lv_iload_n hx hb dX3_at_30 rfl (lv_at hl 2 rfl) ?_
          refine lv_aload_n hx hb dX3_at_31 rfl (lv_at hl 1 rfl) ?_
          refine va_get (D := X.1) (ci := 3) (v := .int col) (C := RX3) (T := TX3) (N := 4) hx hb hts hiX3 hown hK.1 hP 0 rfl rfl 1 (by decide) k15 (fun _ h9 => h9) rfl dX3_at_32 ?_
          refine lv_imul hx hb dX3_at_35 ?_
          refine lv_iload_n hx hb dX3_at_36 rfl (lv_at hl 3 rfl) ?_
          refine lv_iadd hx hb dX3_at_37 ?_
          refine lv_topi (fun v_11 ev_11 => ?_)
          replace hf := nm_of ev_11 hf
          refine lv_istore (lv' := [(4, .int v_11), (3, .int (0 : Int32)), (0, .ref (ta)), (1, .int x1), (2, .int x2)]) hx hb dX3_at_38 hl (by decide) rfl (fun ls hl => ?_)
          refine lv_iload_n hx hb dX3_at_40 rfl (lv_at hl 1 rfl) ?_
          refine lv_if_eq (tgt := 69) hx hb dX3_at_41 (by decide) (fun _ => ?_) (fun c9 => absurd c9 (by decide))
          refine lv_iconst (v := 0) hx hb dX3_at_69 (by decide) ?_
          cases hf
          exact fn_iret hx hb hr hlocks hP hS dX3_at_70
        · replace hf := fp_f c_10 hf
          refine lv_iconst (v := 1) hx hb dX3_at_24 (by decide) ?_
          refine lv_goto (tgt := 29) hx hb dX3_at_25 (by decide) ?_
          refine lv_istore_n (lv' := [(3, .int (1 : Int32)), (0, .ref (ta)), (1, .int x1), (2, .int x2)]) hx hb dX3_at_29 rfl hl (by decide) rfl (fun ls hl => ?_)
          refine lv_iload_n hx hb dX3_at_30 rfl (lv_at hl 2 rfl) ?_
          refine lv_aload_n hx hb dX3_at_31 rfl (lv_at hl 1 rfl) ?_
          refine va_get (D := X.1) (ci := 3) (v := .int col) (C := RX3) (T := TX3) (N := 4) hx hb hts hiX3 hown hK.1 hP 0 rfl rfl 1 (by decide) k15 (fun _ h9 => h9) rfl dX3_at_32 ?_
          refine lv_imul hx hb dX3_at_35 ?_
          refine lv_iload_n hx hb dX3_at_36 rfl (lv_at hl 3 rfl) ?_
          refine lv_iadd hx hb dX3_at_37 ?_
          refine lv_topi (fun v_13 ev_13 => ?_)
          replace hf := nm_of ev_13 hf
          refine lv_istore (lv' := [(4, .int v_13), (3, .int (1 : Int32)), (0, .ref (ta)), (1, .int x1), (2, .int x2)]) hx hb dX3_at_38 hl (by decide) rfl (fun ls hl => ?_)
          refine lv_iload_n hx hb dX3_at_40 rfl (lv_at hl 1 rfl) ?_
          refine lv_if_eq (tgt := 69) hx hb dX3_at_41 (by decide) (fun c9 => absurd c9 (by decide)) (fun _ => ?_)
          refine lv_iload hx hb dX3_at_44 (lv_at hl 0 rfl) ?_
          refine lv_if_lt (tgt := 69) hx hb dX3_at_46 (by decide) (fun c_15 => ?_) (fun c_15 => ?_)
          · replace hf := fp_t c_15 hf
            refine lv_iconst (v := 0) hx hb dX3_at_69 (by decide) ?_
            cases hf
            exact fn_iret hx hb hr hlocks hP hS dX3_at_70
          · replace hf := fp_f c_15 hf
            refine lv_iload hx hb dX3_at_49 (lv_at hl 0 rfl) ?_
            refine lv_aload_n hx hb dX3_at_51 rfl (lv_at hl 2 rfl) ?_
            refine va_get (D := X.1) (ci := 3) (v := .ref (ca)) (C := RX3) (T := TX3) (N := 4) hx hb hts hiX3 hown hK.1 hP 0 rfl rfl 2 (by decide) k18 (fun _ h9 => h9) rfl dX3_at_52 ?_
            refine va_alen (v := Int32.ofNat nn) hx hb hK.1 hP 1 0 rfl rfl rfl dX3_at_55 ?_
            refine lv_icmp_ge (tgt := 69) hx hb dX3_at_56 (by decide) (fun c_16 => ?_) (fun c_16 => ?_)
            · replace hf := fp_t c_16 hf
              refine lv_iconst (v := 0) hx hb dX3_at_69 (by decide) ?_
              cases hf
              exact fn_iret hx hb hr hlocks hP hS dX3_at_70
            · replace hf := fp_f c_16 hf
              refine lv_aload_n hx hb dX3_at_59 rfl (lv_at hl 2 rfl) ?_
              refine va_get (D := X.1) (ci := 3) (v := .ref (ca)) (C := RX3) (T := TX3) (N := 4) hx hb hts hiX3 hown hK.1 hP 0 rfl rfl 2 (by decide) k18 (fun _ h9 => h9) rfl dX3_at_60 ?_
              refine lv_iload hx hb dX3_at_63 (lv_at hl 0 rfl) ?_
              obtain ⟨hi_17, hf⟩ := ix_of hf
              refine va_iald hx hb hK.1 hP 1 0 rfl rfl hi_17 dX3_at_65 ?_
              refine lv_goto (tgt := 70) hx hb dX3_at_66 (by decide) ?_
              refine lv_topi (fun v_18 ev_18 => ?_)
              replace hf := nm_of ev_18 hf
              cases hf
              exact fn_iret hx hb hr hlocks hP hS dX3_at_70

def f_X3_put (col : Int32) (nn : Nat) (x1 : Int32) (x2 : Int32) (x3 : Int32) (rows : Int32) (f : (Nat → Int32)) : Option ((Nat → Int32)) :=
  if x1 < (0 : Int32) then
  (nm ((x1 * col) + x2) (fun v_2 =>
  some f))
  else
  (if rows ≤ x1 then
  (nm ((x1 * col) + x2) (fun v_5 =>
  some f))
  else
  (if x2 < (0 : Int32) then
  (nm ((x1 * col) + x2) (fun v_8 =>
  some f))
  else
  (if col ≤ x2 then
  (nm ((x1 * col) + x2) (fun v_11 =>
  some f))
  else
  (nm ((x1 * col) + x2) (fun v_13 =>
  if v_13 < (0 : Int32) then
  (some f)
  else
  (if Int32.ofNat nn ≤ v_13 then
  (some f)
  else
  (ix v_13 nn (
  nm (upd f v_13.toNatClampNeg x3) (fun f_18 =>
  some f_18)))))))))
set_option maxHeartbeats 4000000 in
set_option maxRecDepth 100000 in
theorem c_X3_put (l : Launch) (X : cx_G) (ta : Nat) (ca : Nat) (lim : Int32) (col : Int32) (nn : Nat) (rows : Int32) (f : (Nat → Int32)) (x1 : Int32) (x2 : Int32) (x3 : Int32) (f' : (Nat → Int32)) (hf : f_X3_put col nn x1 x2 x3 rows f = some f') : Fn l yX3_put wsX3_put ({ frames := 0, cells := 0, slots := 0, locals := 0 } : Room) X [.ref (ta), .int x1, .int x2, .int x3] (wTb X ta ca lim col nn rows f) none (wTb X ta ca lim col nn rows f') := by
  refine fn_intro (cc := cX3_put) (maxL := 6) (ret := none) (by decide) rfl rfl (Nat.le_of_ble_eq_true rfl) ?_
  intro p e s m args below meth c A ls hx hb hml hr hts hown hlocks hK hP hD0 hS hA hl
  have hown : s.vm.findClass RX3 = some m.cls := hown
  have hl : lv_has ls 6 [(0, .ref (ta)), (1, .int x1), (2, .int x2), (3, .int x3)] := hl
  have hiX3 : ∀ w ∈ u_ws RX3 TX3 4, w ∈ wsX3_put := by decide +kernel
  have k15 := hts (.fieldLink RX3 15 "LentRights$Table" "columns" "I") (by decide +kernel)
  have k18 := hts (.fieldLink RX3 18 "LentRights$Table" "cells" "[I") (by decide +kernel)
  have k22 := hts (.fieldLink RX3 22 "LentRights$Table" "rows" "I") (by decide +kernel)
  unfold f_X3_put at hf
  refine lv_iload_n hx hb dX3_put_0 rfl (lv_at hl 1 rfl) ?_
  refine lv_if_lt (tgt := 28) hx hb dX3_put_1 (by decide) (fun c_1 => ?_) (fun c_1 => ?_)
  · replace hf := fp_t c_1 hf
    refine lv_iconst (v := 0) hx hb dX3_put_28 (by decide) ?_
    refine lv_istore (lv' := [(4, .int (0 : Int32)), (0, .ref (ta)), (1, .int x1), (2, .int x2), (3, .int x3)]) hx hb dX3_put_29 hl (by decide) rfl (fun ls hl => ?_)
    refine lv_iload_n hx hb dX3_put_31 rfl (lv_at hl 2 rfl) ?_
    refine lv_aload_n hx hb dX3_put_32 rfl (lv_at hl 1 rfl) ?_
    refine va_get (D := X.1) (ci := 3) (v := .int col) (C := RX3) (T := TX3) (N := 4) hx hb hts hiX3 hown hK.1 hP 0 rfl rfl 1 (by decide) k15 (fun _ h9 => h9) rfl dX3_put_33 ?_
    refine lv_imul hx hb dX3_put_36 ?_
    refine lv_iload_n hx hb dX3_put_37 rfl (lv_at hl 3 rfl) ?_
    refine lv_iadd hx hb dX3_put_38 ?_
    refine lv_topi (fun v_2 ev_2 => ?_)
    replace hf := nm_of ev_2 hf
    refine lv_istore (lv' := [(5, .int v_2), (4, .int (0 : Int32)), (0, .ref (ta)), (1, .int x1), (2, .int x2), (3, .int x3)]) hx hb dX3_put_39 hl (by decide) rfl (fun ls hl => ?_)
    refine lv_iload hx hb dX3_put_41 (lv_at hl 1 rfl) ?_
    refine lv_if_eq (tgt := 69) hx hb dX3_put_43 (by decide) (fun _ => ?_) (fun c9 => absurd c9 (by decide))
    cases hf
    exact fn_vret hx hb hr hlocks hP hS dX3_put_69
  · replace hf := fp_f c_1 hf
    refine lv_iload_n hx hb dX3_put_4 rfl (lv_at hl 1 rfl) ?_
    refine lv_aload_n hx hb dX3_put_5 rfl (lv_at hl 0 rfl) ?_
    refine va_get (D := X.1) (ci := 3) (v := .int rows) (C := RX3) (T := TX3) (N := 4) hx hb hts hiX3 hown hK.1 hP 0 rfl rfl 3 (by decide) k22 (fun _ h9 => h9) rfl dX3_put_6 ?_
    refine lv_icmp_ge (tgt := 28) hx hb dX3_put_9 (by decide) (fun c_4 => ?_) (fun c_4 => ?_)
    · replace hf := fp_t c_4 hf
      refine lv_iconst (v := 0) hx hb dX3_put_28 (by decide) ?_
      refine lv_istore (lv' := [(4, .int (0 : Int32)), (0, .ref (ta)), (1, .int x1), (2, .int x2), (3, .int x3)]) hx hb dX3_put_29 hl (by decide) rfl (fun ls hl => ?_)
      refine lv_iload_n hx hb dX3_put_31 rfl (lv_at hl 2 rfl) ?_
      refine lv_aload_n hx hb dX3_put_32 rfl (lv_at hl 1 rfl) ?_
      refine va_get (D := X.1) (ci := 3) (v := .int col) (C := RX3) (T := TX3) (N := 4) hx hb hts hiX3 hown hK.1 hP 0 rfl rfl 1 (by decide) k15 (fun _ h9 => h9) rfl dX3_put_33 ?_
      refine lv_imul hx hb dX3_put_36 ?_
      refine lv_iload_n hx hb dX3_put_37 rfl (lv_at hl 3 rfl) ?_
      refine lv_iadd hx hb dX3_put_38 ?_
      refine lv_topi (fun v_5 ev_5 => ?_)
      replace hf := nm_of ev_5 hf
      refine lv_istore (lv' := [(5, .int v_5), (4, .int (0 : Int32)), (0, .ref (ta)), (1, .int x1), (2, .int x2), (3, .int x3)]) hx hb dX3_put_39 hl (by decide) rfl (fun ls hl => ?_)
      refine lv_iload hx hb dX3_put_41 (lv_at hl 1 rfl) ?_
      refine lv_if_eq (tgt := 69) hx hb dX3_put_43 (by decide) (fun _ => ?_) (fun c9 => absurd c9 (by decide))
      cases hf
      exact fn_vret hx hb hr hlocks hP hS dX3_put_69
    · replace hf := fp_f c_4 hf
      refine lv_iload_n hx hb dX3_put_12 rfl (lv_at hl 2 rfl) ?_
      refine lv_if_lt (tgt := 28) hx hb dX3_put_13 (by decide) (fun c_7 => ?_) (fun c_7 => ?_)
      · replace hf := fp_t c_7 hf
        refine lv_iconst (v := 0) hx hb dX3_put_28 (by decide) ?_
        refine lv_istore (lv' := [(4, .int (0 : Int32)), (0, .ref (ta)), (1, .int x1), (2, .int x2), (3, .int x3)]) hx hb dX3_put_29 hl (by decide) rfl (fun ls hl => ?_)
        refine lv_iload_n hx hb dX3_put_31 rfl (lv_at hl 2 rfl) ?_
        refine lv_aload_n hx hb dX3_put_32 rfl (lv_at hl 1 rfl) ?_
        refine va_get (D := X.1) (ci := 3) (v := .int col) (C := RX3) (T := TX3) (N := 4) hx hb hts hiX3 hown hK.1 hP 0 rfl rfl 1 (by decide) k15 (fun _ h9 => h9) rfl dX3_put_33 ?_
        refine lv_imul hx hb dX3_put_36 ?_
        refine lv_iload_n hx hb dX3_put_37 rfl (lv_at hl 3 rfl) ?_
        refine lv_iadd hx hb dX3_put_38 ?_
        refine lv_topi (fun v_8 ev_8 => ?_)
        replace hf := nm_of ev_8 hf
        refine lv_istore (lv' := [(5, .int v_8), (4, .int (0 : Int32)), (0, .ref (ta)), (1, .int x1), (2, .int x2), (3, .int x3)]) hx hb dX3_put_39 hl (by decide) rfl (fun ls hl => ?_)
        refine lv_iload hx hb dX3_put_41 (lv_at hl 1 rfl) ?_
        refine lv_if_eq (tgt := 69) hx hb dX3_put_43 (by decide) (fun _ => ?_) (fun c9 => absurd c9 (by decide))
        cases hf
        exact fn_vret hx hb hr hlocks hP hS dX3_put_69
      · replace hf := fp_f c_7 hf
        refine lv_iload_n hx hb dX3_put_16 rfl (lv_at hl 2 rfl) ?_
        refine lv_aload_n hx hb dX3_put_17 rfl (lv_at hl 0 rfl) ?_
        refine va_get (D := X.1) (ci := 3) (v := .int col) (C := RX3) (T := TX3) (N := 4) hx hb hts hiX3 hown hK.1 hP 0 rfl rfl 1 (by decide) k15 (fun _ h9 => h9) rfl dX3_put_18 ?_
        refine lv_icmp_ge (tgt := 28) hx hb dX3_put_21 (by decide) (fun c_10 => ?_) (fun c_10 => ?_)
        · replace hf := fp_t c_10 hf
          refine lv_iconst (v := 0) hx hb dX3_put_28 (by decide) ?_
          refine lv_istore (lv' := [(4, .int (0 : Int32)), (0, .ref (ta)), (1, .int x1), (2, .int x2), (3, .int x3)]) hx hb dX3_put_29 hl (by decide) rfl (fun ls hl => ?_)
          refine lv_iload_n hx hb dX3_put_31 rfl (lv_at hl 2 rfl) ?_
          refine lv_aload_n hx hb dX3_put_32 rfl (lv_at hl 1 rfl) ?_
          refine va_get (D := X.1) (ci := 3) (v := .int col) (C := RX3) (T := TX3) (N := 4) hx hb hts hiX3 hown hK.1 hP 0 rfl rfl 1 (by decide) k15 (fun _ h9 => h9) rfl dX3_put_33 ?_
          refine lv_imul hx hb dX3_put_36 ?_
          refine lv_iload_n hx hb dX3_put_37 rfl (lv_at hl 3 rfl) ?_
          refine lv_iadd hx hb dX3_put_38 ?_
          refine lv_topi (fun v_11 ev_11 => ?_)
          replace hf := nm_of ev_11 hf
          refine lv_istore (lv' := [(5, .int v_11), (4, .int (0 : Int32)), (0, .ref (ta)), (1, .int x1), (2, .int x2), (3, .int x3)]) hx hb dX3_put_39 hl (by decide) rfl (fun ls hl => ?_)
          refine lv_iload hx hb dX3_put_41 (lv_at hl 1 rfl) ?_
          refine lv_if_eq (tgt := 69) hx hb dX3_put_43 (by decide) (fun _ => ?_) (fun c9 => absurd c9 (by decide))
          cases hf
          exact fn_vret hx hb hr hlocks hP hS dX3_put_69
        · replace hf := fp_f c_10 hf
          refine lv_iconst (v := 1) hx hb dX3_put_24 (by decide) ?_
          refine lv_goto (tgt := 29) hx hb dX3_put_25 (by decide) ?_
          refine lv_istore (lv' := [(4, .int (1 : Int32)), (0, .ref (ta)), (1, .int x1), (2, .int x2), (3, .int x3)]) hx hb dX3_put_29 hl (by decide) rfl (fun ls hl => ?_)
          refine lv_iload_n hx hb dX3_put_31 rfl (lv_at hl 2 rfl) ?_
          refine lv_aload_n hx hb dX3_put_32 rfl (lv_at hl 1 rfl) ?_
          refine va_get (D := X.1) (ci := 3) (v := .int col) (C := RX3) (T := TX3) (N := 4) hx hb hts hiX3 hown hK.1 hP 0 rfl rfl 1 (by decide) k15 (fun _ h9 => h9) rfl dX3_put_33 ?_
          refine lv_imul hx hb dX3_put_36 ?_
          refine lv_iload_n hx hb dX3_put_37 rfl (lv_at hl 3 rfl) ?_
          refine lv_iadd hx hb dX3_put_38 ?_
          refine lv_topi (fun v_13 ev_13 => ?_)
          replace hf := nm_of ev_13 hf
          refine lv_istore (lv' := [(5, .int v_13), (4, .int (1 : Int32)), (0, .ref (ta)), (1, .int x1), (2, .int x2), (3, .int x3)]) hx hb dX3_put_39 hl (by decide) rfl (fun ls hl => ?_)
          refine lv_iload hx hb dX3_put_41 (lv_at hl 1 rfl) ?_
          refine lv_if_eq (tgt := 69) hx hb dX3_put_43 (by decide) (fun c9 => absurd c9 (by decide)) (fun _ => ?_)
          refine lv_iload hx hb dX3_put_46 (lv_at hl 0 rfl) ?_
          refine lv_if_lt (tgt := 69) hx hb dX3_put_48 (by decide) (fun c_15 => ?_) (fun c_15 => ?_)
          · replace hf := fp_t c_15 hf
            cases hf
            exact fn_vret hx hb hr hlocks hP hS dX3_put_69
          · replace hf := fp_f c_15 hf
            refine lv_iload hx hb dX3_put_51 (lv_at hl 0 rfl) ?_
            refine lv_aload_n hx hb dX3_put_53 rfl (lv_at hl 2 rfl) ?_
            refine va_get (D := X.1) (ci := 3) (v := .ref (ca)) (C := RX3) (T := TX3) (N := 4) hx hb hts hiX3 hown hK.1 hP 0 rfl rfl 2 (by decide) k18 (fun _ h9 => h9) rfl dX3_put_54 ?_
            refine va_alen (v := Int32.ofNat nn) hx hb hK.1 hP 1 0 rfl rfl rfl dX3_put_57 ?_
            refine lv_icmp_ge (tgt := 69) hx hb dX3_put_58 (by decide) (fun c_16 => ?_) (fun c_16 => ?_)
            · replace hf := fp_t c_16 hf
              cases hf
              exact fn_vret hx hb hr hlocks hP hS dX3_put_69
            · replace hf := fp_f c_16 hf
              refine lv_aload_n hx hb dX3_put_61 rfl (lv_at hl 2 rfl) ?_
              refine va_get (D := X.1) (ci := 3) (v := .ref (ca)) (C := RX3) (T := TX3) (N := 4) hx hb hts hiX3 hown hK.1 hP 0 rfl rfl 2 (by decide) k18 (fun _ h9 => h9) rfl dX3_put_62 ?_
              refine lv_iload hx hb dX3_put_65 (lv_at hl 0 rfl) ?_
              refine lv_iload_n hx hb dX3_put_67 rfl (lv_at hl 5 rfl) ?_
              obtain ⟨hi_17, hf⟩ := ix_of hf
              refine va_iast hx hb hK.1 hP (hD0.addr rfl) hS 1 0 rfl rfl hi_17 dX3_put_68 (fun H locs hP hD hS => ?_)
              obtain ⟨f_18, ef_18⟩ : ∃ g : Nat → Int32, g = upd f v_13.toNatClampNeg x3 := ⟨_, rfl⟩
              replace hf := nm_of ef_18 hf
              have hP : va_P X.1 vwCl (wTb X ta ca lim col nn rows f_18) H := by rw [ef_18]; exact hP
              cases hf
              exact fn_vret hx hb hr hlocks hP hS dX3_put_69

def f_X3_addRow (lim : Int32) (rows : Int32) : Option (Int32 × Int32) :=
  if rows < lim then
  (nm (rows + (1 : Int32)) (fun v_2 =>
  nm (v_2 - (1 : Int32)) (fun v_3 =>
  some (v_3, v_2))))
  else
  (some ((-1 : Int32), rows))
set_option maxHeartbeats 4000000 in
set_option maxRecDepth 100000 in
theorem c_X3_addRow (l : Launch) (X : cx_G) (ta : Nat) (ca : Nat) (lim : Int32) (col : Int32) (nn : Nat) (rows : Int32) (f : (Nat → Int32)) (r : Int32) (rows' : Int32) (hf : f_X3_addRow lim rows = some (r, rows')) : Fn l yX3_addRow wsX3_addRow ({ frames := 0, cells := 0, slots := 0, locals := 0 } : Room) X [.ref (ta)] (wTb X ta ca lim col nn rows f) (some (.int r)) (wTb X ta ca lim col nn rows' f) := by
  refine fn_intro (cc := cX3_addRow) (maxL := 1) (ret := (some .int)) (by decide) rfl rfl (Nat.le_of_ble_eq_true rfl) ?_
  intro p e s m args below meth c A ls hx hb hml hr hts hown hlocks hK hP hD0 hS hA hl
  have hown : s.vm.findClass RX3 = some m.cls := hown
  have hl : lv_has ls 1 [(0, .ref (ta))] := hl
  have hiX3 : ∀ w ∈ u_ws RX3 TX3 4, w ∈ wsX3_addRow := by decide +kernel
  have k9 := hts (.fieldLink RX3 9 "LentRights$Table" "limit" "I") (by decide +kernel)
  have k22 := hts (.fieldLink RX3 22 "LentRights$Table" "rows" "I") (by decide +kernel)
  unfold f_X3_addRow at hf
  refine lv_aload_n hx hb dX3_addRow_0 rfl (lv_at hl 0 rfl) ?_
  refine va_get (D := X.1) (ci := 3) (v := .int rows) (C := RX3) (T := TX3) (N := 4) hx hb hts hiX3 hown hK.1 hP 0 rfl rfl 3 (by decide) k22 (fun _ h9 => h9) rfl dX3_addRow_1 ?_
  refine lv_aload_n hx hb dX3_addRow_4 rfl (lv_at hl 0 rfl) ?_
  refine va_get (D := X.1) (ci := 3) (v := .int lim) (C := RX3) (T := TX3) (N := 4) hx hb hts hiX3 hown hK.1 hP 0 rfl rfl 0 (by decide) k9 (fun _ h9 => h9) rfl dX3_addRow_5 ?_
  refine lv_icmp_lt (tgt := 13) hx hb dX3_addRow_8 (by decide) (fun c_1 => ?_) (fun c_1 => ?_)
  · replace hf := fp_t c_1 hf
    refine lv_aload_n hx hb dX3_addRow_13 rfl (lv_at hl 0 rfl) ?_
    refine lv_dup hx hb dX3_addRow_14 rfl ?_
    refine va_get (D := X.1) (ci := 3) (v := .int rows) (C := RX3) (T := TX3) (N := 4) hx hb hts hiX3 hown hK.1 hP 0 rfl rfl 3 (by decide) k22 (fun _ h9 => h9) rfl dX3_addRow_15 ?_
    refine lv_iconst (v := 1) hx hb dX3_addRow_18 (by decide) ?_
    refine lv_iadd hx hb dX3_addRow_19 ?_
    refine lv_topi (fun v_2 ev_2 => ?_)
    replace hf := nm_of ev_2 hf
    refine va_put (D := X.1) (ci := 3) (v := .int v_2) (ty := .int) (C := RX3) (T := TX3) (N := 4) hx hb hts hiX3 tyX3 tyX3_ok nmX3 hown hK.1 hP (hD0.addr rfl) hS 0 rfl rfl 3 (by decide) k22 (fun _ h9 => h9) rfl (by decide +kernel) rfl rfl (Nat.le_of_ble_eq_true rfl) dX3_addRow_20 (fun H locs hP hD hS => ?_)
    have hP : va_P X.1 vwCl (wTb X ta ca lim col nn v_2 f) H := hP
    refine lv_aload_n hx hb dX3_addRow_23 rfl (lv_at hl 0 rfl) ?_
    refine va_get (D := X.1) (ci := 3) (v := .int v_2) (C := RX3) (T := TX3) (N := 4) hx hb hts hiX3 hown hK.1 hP 0 rfl rfl 3 (by decide) k22 (fun _ h9 => h9) rfl dX3_addRow_24 ?_
    refine lv_iconst (v := 1) hx hb dX3_addRow_27 (by decide) ?_
    refine lv_isub hx hb dX3_addRow_28 ?_
    refine lv_topi (fun v_3 ev_3 => ?_)
    replace hf := nm_of ev_3 hf
    cases hf
    exact fn_iret hx hb hr hlocks hP hS dX3_addRow_29
  · replace hf := fp_f c_1 hf
    refine lv_iconst (v := -1) hx hb dX3_addRow_11 (by decide) ?_
    cases hf
    exact fn_iret hx hb hr hlocks hP hS dX3_addRow_12

def f_X3_drop_L30 (x2 : Int32) (col : Int32) (nn : Nat) : Nat → Int32 → (Nat → Int32) →  Option ((Nat → Int32))
  | 0, _, _ => none
  | k_ + 1, x3, f =>
    if x2 - col ≤ x3 then
    (some f)
    else
    (nm (x3 + col) (fun v_2 =>
    if x3 < (0 : Int32) then
    (nm (x3 + (1 : Int32)) (fun v_4 =>
    f_X3_drop_L30 x2 col nn k_ v_4 f))
    else
    (if Int32.ofNat nn ≤ x3 then
    (nm (x3 + (1 : Int32)) (fun v_6 =>
    f_X3_drop_L30 x2 col nn k_ v_6 f))
    else
    (if v_2 < (0 : Int32) then
    (nm (x3 + (1 : Int32)) (fun v_8 =>
    f_X3_drop_L30 x2 col nn k_ v_8 f))
    else
    (if Int32.ofNat nn ≤ v_2 then
    (nm (x3 + (1 : Int32)) (fun v_10 =>
    f_X3_drop_L30 x2 col nn k_ v_10 f))
    else
    (ix v_2 nn (
    nm (f v_2.toNatClampNeg) (fun v_12 =>
    ix x3 nn (
    nm (upd f x3.toNatClampNeg v_12) (fun f_14 =>
    nm (x3 + (1 : Int32)) (fun v_15 =>
    f_X3_drop_L30 x2 col nn k_ v_15 f_14)))))))))))
def f_X3_drop (col : Int32) (nn : Nat) (x1 : Int32) (rows : Int32) (f : (Nat → Int32)) : Option (Int32 × (Nat → Int32)) :=
  if x1 < (0 : Int32) then
  (some (rows, f))
  else
  (if x1 < rows then
  (nm (rows * col) (fun v_18 =>
  nm (x1 * col) (fun v_19 =>
  bd (f_X3_drop_L30 v_18 col nn FU v_19 f) (fun f_20 =>
  nm (rows - (1 : Int32)) (fun v_22 =>
  some (v_22, f_20))))))
  else
  (some (rows, f)))
set_option maxHeartbeats 4000000 in
set_option maxRecDepth 100000 in
theorem c_X3_drop (l : Launch) (X : cx_G) (ta : Nat) (ca : Nat) (lim : Int32) (col : Int32) (nn : Nat) (rows : Int32) (f : (Nat → Int32)) (x1 : Int32) (rows' : Int32) (f' : (Nat → Int32)) (hf : f_X3_drop col nn x1 rows f = some (rows', f')) : Fn l yX3_drop wsX3_drop ({ frames := 0, cells := 0, slots := 0, locals := 0 } : Room) X [.ref (ta), .int x1] (wTb X ta ca lim col nn rows f) none (wTb X ta ca lim col nn rows' f') := by
  refine fn_intro (cc := cX3_drop) (maxL := 5) (ret := none) (by decide) rfl rfl (Nat.le_of_ble_eq_true rfl) ?_
  intro p e s m args below meth c A ls hx hb hml hr hts hown hlocks hK hP hD0 hS hA hl
  have hown : s.vm.findClass RX3 = some m.cls := hown
  have hl : lv_has ls 5 [(0, .ref (ta)), (1, .int x1)] := hl
  have hiX3 : ∀ w ∈ u_ws RX3 TX3 4, w ∈ wsX3_drop := by decide +kernel
  have k15 := hts (.fieldLink RX3 15 "LentRights$Table" "columns" "I") (by decide +kernel)
  have k18 := hts (.fieldLink RX3 18 "LentRights$Table" "cells" "[I") (by decide +kernel)
  have k22 := hts (.fieldLink RX3 22 "LentRights$Table" "rows" "I") (by decide +kernel)
  have loop_30 : ∀ (Q : State → Prop) (x2 : Int32) (rows : Int32) (fo : (Nat → Int32)), (∀ (H : Heap) (locs : List Loc) (ls : Array Slot), va_P X.1 vwCl (wTb X ta ca lim col nn rows fo) H → va_S A s.heap H locs → lv_has ls 5 [(0, .ref (ta))] → W p l e ({ frames := 0, cells := 0, slots := 0, locals := 0 } : Room) s m args below meth c H locs 0 0 Q (F0 m 95 ls [])) → ∀ (k_ : Nat) (x3 : Int32) (f : (Nat → Int32)) (H : Heap) (locs : List Loc) (ls : Array Slot), f_X3_drop_L30 x2 col nn k_ x3 f = some fo → va_P X.1 vwCl (wTb X ta ca lim col nn rows f) H → va_S A s.heap H locs → lv_has ls 5 [(0, .ref (ta)), (2, .int x2), (3, .int x3)] → W p l e ({ frames := 0, cells := 0, slots := 0, locals := 0 } : Room) s m args below meth c H locs 0 0 Q (F0 m 30 ls []) := by
    intro Q x2 rows fo kx k_
    induction k_ with
    | zero => intro x3 f H locs ls hf; exact nomatch (show (none : Option ((Nat → Int32))) = some _ from hf)
    | succ k_ ih =>
      intro x3 f H locs ls hf hP hS hl
      unfold f_X3_drop_L30 at hf
      refine lv_iload_n hx hb dX3_drop_30 rfl (lv_at hl 2 rfl) ?_
      refine lv_iload_n hx hb dX3_drop_31 rfl (lv_at hl 1 rfl) ?_
      refine lv_aload_n hx hb dX3_drop_32 rfl (lv_at hl 0 rfl) ?_
      refine va_get (D := X.1) (ci := 3) (v := .int col) (C := RX3) (T := TX3) (N := 4) hx hb hts hiX3 hown hK.1 hP 0 rfl rfl 1 (by decide) k15 (fun _ h9 => h9) rfl dX3_drop_33 ?_
      refine lv_isub hx hb dX3_drop_36 ?_
      refine lv_icmp_ge (tgt := 95) hx hb dX3_drop_37 (by decide) (fun c_1 => ?_) (fun c_1 => ?_)
      · replace hf := fp_t c_1 hf
        cases hf
        exact kx _ _ _ hP hS (lv_sub hl [0] rfl)
      · replace hf := fp_f c_1 hf
        refine lv_iload_n hx hb dX3_drop_40 rfl (lv_at hl 2 rfl) ?_
        refine lv_aload_n hx hb dX3_drop_41 rfl (lv_at hl 0 rfl) ?_
        refine va_get (D := X.1) (ci := 3) (v := .int col) (C := RX3) (T := TX3) (N := 4) hx hb hts hiX3 hown hK.1 hP 0 rfl rfl 1 (by decide) k15 (fun _ h9 => h9) rfl dX3_drop_42 ?_
        refine lv_iadd hx hb dX3_drop_45 ?_
        refine lv_topi (fun v_2 ev_2 => ?_)
        replace hf := nm_of ev_2 hf
        refine lv_istore (lv' := [(4, .int v_2), (0, .ref (ta)), (2, .int x2), (3, .int x3)]) hx hb dX3_drop_46 hl (by decide) rfl (fun ls hl => ?_)
        refine lv_iload_n hx hb dX3_drop_48 rfl (lv_at hl 3 rfl) ?_
        refine lv_if_lt (tgt := 89) hx hb dX3_drop_49 (by decide) (fun c_3 => ?_) (fun c_3 => ?_)
        · replace hf := fp_t c_3 hf
          obtain ⟨v_4, ev_4⟩ : ∃ y : Int32, y = x3 + (1 : Int32) := ⟨_, rfl⟩
          replace hf := nm_of ev_4 hf
          refine lv_iinc (v := v_4) (lv' := [(3, .int v_4), (4, .int v_2), (0, .ref (ta)), (2, .int x2)]) hx hb dX3_drop_89 hl (k := 3) rfl (by rw [ev_4]; rfl) (by decide) rfl (fun ls hl => ?_)
          refine lv_goto (tgt := 30) hx hb dX3_drop_92 (by decide) ?_
          exact ih v_4 f _ _ _ hf hP hS (lv_sub hl [2, 3, 0] rfl)
        · replace hf := fp_f c_3 hf
          refine lv_iload_n hx hb dX3_drop_52 rfl (lv_at hl 3 rfl) ?_
          refine lv_aload_n hx hb dX3_drop_53 rfl (lv_at hl 1 rfl) ?_
          refine va_get (D := X.1) (ci := 3) (v := .ref (ca)) (C := RX3) (T := TX3) (N := 4) hx hb hts hiX3 hown hK.1 hP 0 rfl rfl 2 (by decide) k18 (fun _ h9 => h9) rfl dX3_drop_54 ?_
          refine va_alen (v := Int32.ofNat nn) hx hb hK.1 hP 1 0 rfl rfl rfl dX3_drop_57 ?_
          refine lv_icmp_ge (tgt := 89) hx hb dX3_drop_58 (by decide) (fun c_5 => ?_) (fun c_5 => ?_)
          · replace hf := fp_t c_5 hf
            obtain ⟨v_6, ev_6⟩ : ∃ y : Int32, y = x3 + (1 : Int32) := ⟨_, rfl⟩
            replace hf := nm_of ev_6 hf
            refine lv_iinc (v := v_6) (lv' := [(3, .int v_6), (4, .int v_2), (0, .ref (ta)), (2, .int x2)]) hx hb dX3_drop_89 hl (k := 3) rfl (by rw [ev_6]; rfl) (by decide) rfl (fun ls hl => ?_)
            refine lv_goto (tgt := 30) hx hb dX3_drop_92 (by decide) ?_
            exact ih v_6 f _ _ _ hf hP hS (lv_sub hl [2, 3, 0] rfl)
          · replace hf := fp_f c_5 hf
            refine lv_iload hx hb dX3_drop_61 (lv_at hl 0 rfl) ?_
            refine lv_if_lt (tgt := 89) hx hb dX3_drop_63 (by decide) (fun c_7 => ?_) (fun c_7 => ?_)
            · replace hf := fp_t c_7 hf
              obtain ⟨v_8, ev_8⟩ : ∃ y : Int32, y = x3 + (1 : Int32) := ⟨_, rfl⟩
              replace hf := nm_of ev_8 hf
              refine lv_iinc (v := v_8) (lv' := [(3, .int v_8), (4, .int v_2), (0, .ref (ta)), (2, .int x2)]) hx hb dX3_drop_89 hl (k := 3) rfl (by rw [ev_8]; rfl) (by decide) rfl (fun ls hl => ?_)
              refine lv_goto (tgt := 30) hx hb dX3_drop_92 (by decide) ?_
              exact ih v_8 f _ _ _ hf hP hS (lv_sub hl [2, 3, 0] rfl)
            · replace hf := fp_f c_7 hf
              refine lv_iload hx hb dX3_drop_66 (lv_at hl 0 rfl) ?_
              refine lv_aload_n hx hb dX3_drop_68 rfl (lv_at hl 1 rfl) ?_
              refine va_get (D := X.1) (ci := 3) (v := .ref (ca)) (C := RX3) (T := TX3) (N := 4) hx hb hts hiX3 hown hK.1 hP 0 rfl rfl 2 (by decide) k18 (fun _ h9 => h9) rfl dX3_drop_69 ?_
              refine va_alen (v := Int32.ofNat nn) hx hb hK.1 hP 1 0 rfl rfl rfl dX3_drop_72 ?_
              refine lv_icmp_ge (tgt := 89) hx hb dX3_drop_73 (by decide) (fun c_9 => ?_) (fun c_9 => ?_)
              · replace hf := fp_t c_9 hf
                obtain ⟨v_10, ev_10⟩ : ∃ y : Int32, y = x3 + (1 : Int32) := ⟨_, rfl⟩
                replace hf := nm_of ev_10 hf
                refine lv_iinc (v := v_10) (lv' := [(3, .int v_10), (4, .int v_2), (0, .ref (ta)), (2, .int x2)]) hx hb dX3_drop_89 hl (k := 3) rfl (by rw [ev_10]; rfl) (by decide) rfl (fun ls hl => ?_)
                refine lv_goto (tgt := 30) hx hb dX3_drop_92 (by decide) ?_
                exact ih v_10 f _ _ _ hf hP hS (lv_sub hl [2, 3, 0] rfl)
              · replace hf := fp_f c_9 hf
                refine lv_aload_n hx hb dX3_drop_76 rfl (lv_at hl 1 rfl) ?_
                refine va_get (D := X.1) (ci := 3) (v := .ref (ca)) (C := RX3) (T := TX3) (N := 4) hx hb hts hiX3 hown hK.1 hP 0 rfl rfl 2 (by decide) k18 (fun _ h9 => h9) rfl dX3_drop_77 ?_
                refine lv_iload_n hx hb dX3_drop_80 rfl (lv_at hl 3 rfl) ?_
                refine lv_aload_n hx hb dX3_drop_81 rfl (lv_at hl 1 rfl) ?_
                refine va_get (D := X.1) (ci := 3) (v := .ref (ca)) (C := RX3) (T := TX3) (N := 4) hx hb hts hiX3 hown hK.1 hP 0 rfl rfl 2 (by decide) k18 (fun _ h9 => h9) rfl dX3_drop_82 ?_
                refine lv_iload hx hb dX3_drop_85 (lv_at hl 0 rfl) ?_
                obtain ⟨hi_11, hf⟩ := ix_of hf
                refine va_iald hx hb hK.1 hP 1 0 rfl rfl hi_11 dX3_drop_87 ?_
                refine lv_topi (fun v_12 ev_12 => ?_)
                replace hf := nm_of ev_12 hf
                obtain ⟨hi_13, hf⟩ := ix_of hf
                refine va_iast hx hb hK.1 hP (hD0.addr rfl) hS 1 0 rfl rfl hi_13 dX3_drop_88 (fun H locs hP hD hS => ?_)
                obtain ⟨f_14, ef_14⟩ : ∃ g : Nat → Int32, g = upd f x3.toNatClampNeg v_12 := ⟨_, rfl⟩
                replace hf := nm_of ef_14 hf
                have hP : va_P X.1 vwCl (wTb X ta ca lim col nn rows f_14) H := by rw [ef_14]; exact hP
                obtain ⟨v_15, ev_15⟩ : ∃ y : Int32, y = x3 + (1 : Int32) := ⟨_, rfl⟩
                replace hf := nm_of ev_15 hf
                refine lv_iinc (v := v_15) (lv' := [(3, .int v_15), (4, .int v_2), (0, .ref (ta)), (2, .int x2)]) hx hb dX3_drop_89 hl (k := 3) rfl (by rw [ev_15]; rfl) (by decide) rfl (fun ls hl => ?_)
                refine lv_goto (tgt := 30) hx hb dX3_drop_92 (by decide) ?_
                exact ih v_15 f_14 _ _ _ hf hP hS (lv_sub hl [2, 3, 0] rfl)
  unfold f_X3_drop at hf
  refine lv_iload_n hx hb dX3_drop_0 rfl (lv_at hl 1 rfl) ?_
  refine lv_if_lt (tgt := 12) hx hb dX3_drop_1 (by decide) (fun c_16 => ?_) (fun c_16 => ?_)
  · replace hf := fp_t c_16 hf
    cases hf
    exact fn_vret hx hb hr hlocks hP hS dX3_drop_12
  · replace hf := fp_f c_16 hf
    refine lv_iload_n hx hb dX3_drop_4 rfl (lv_at hl 1 rfl) ?_
    refine lv_aload_n hx hb dX3_drop_5 rfl (lv_at hl 0 rfl) ?_
    refine va_get (D := X.1) (ci := 3) (v := .int rows) (C := RX3) (T := TX3) (N := 4) hx hb hts hiX3 hown hK.1 hP 0 rfl rfl 3 (by decide) k22 (fun _ h9 => h9) rfl dX3_drop_6 ?_
    refine lv_icmp_lt (tgt := 13) hx hb dX3_drop_9 (by decide) (fun c_17 => ?_) (fun c_17 => ?_)
    · replace hf := fp_t c_17 hf
      refine lv_aload_n hx hb dX3_drop_13 rfl (lv_at hl 0 rfl) ?_
      refine va_get (D := X.1) (ci := 3) (v := .int rows) (C := RX3) (T := TX3) (N := 4) hx hb hts hiX3 hown hK.1 hP 0 rfl rfl 3 (by decide) k22 (fun _ h9 => h9) rfl dX3_drop_14 ?_
      refine lv_aload_n hx hb dX3_drop_17 rfl (lv_at hl 0 rfl) ?_
      refine va_get (D := X.1) (ci := 3) (v := .int col) (C := RX3) (T := TX3) (N := 4) hx hb hts hiX3 hown hK.1 hP 0 rfl rfl 1 (by decide) k15 (fun _ h9 => h9) rfl dX3_drop_18 ?_
      refine lv_imul hx hb dX3_drop_21 ?_
      refine lv_topi (fun v_18 ev_18 => ?_)
      replace hf := nm_of ev_18 hf
      refine lv_istore_n (lv' := [(2, .int v_18), (0, .ref (ta)), (1, .int x1)]) hx hb dX3_drop_22 rfl hl (by decide) rfl (fun ls hl => ?_)
      refine lv_iload_n hx hb dX3_drop_23 rfl (lv_at hl 2 rfl) ?_
      refine lv_aload_n hx hb dX3_drop_24 rfl (lv_at hl 1 rfl) ?_
      refine va_get (D := X.1) (ci := 3) (v := .int col) (C := RX3) (T := TX3) (N := 4) hx hb hts hiX3 hown hK.1 hP 0 rfl rfl 1 (by decide) k15 (fun _ h9 => h9) rfl dX3_drop_25 ?_
      refine lv_imul hx hb dX3_drop_28 ?_
      refine lv_topi (fun v_19 ev_19 => ?_)
      replace hf := nm_of ev_19 hf
      refine lv_istore_n (lv' := [(3, .int v_19), (2, .int v_18), (0, .ref (ta)), (1, .int x1)]) hx hb dX3_drop_29 rfl hl (by decide) rfl (fun ls hl => ?_)
      obtain ⟨f_20, hL_21, hf⟩ := bd_of hf
      refine loop_30 _ v_18 rows f_20 (fun H locs ls hP hS hl => ?_) FU v_19 f _ _ _ hL_21 hP hS (lv_sub hl [2, 1, 0] rfl)
      refine lv_aload_n hx hb dX3_drop_95 rfl (lv_at hl 0 rfl) ?_
      refine lv_dup hx hb dX3_drop_96 rfl ?_
      refine va_get (D := X.1) (ci := 3) (v := .int rows) (C := RX3) (T := TX3) (N := 4) hx hb hts hiX3 hown hK.1 hP 0 rfl rfl 3 (by decide) k22 (fun _ h9 => h9) rfl dX3_drop_97 ?_
      refine lv_iconst (v := 1) hx hb dX3_drop_100 (by decide) ?_
      refine lv_isub hx hb dX3_drop_101 ?_
      refine lv_topi (fun v_22 ev_22 => ?_)
      replace hf := nm_of ev_22 hf
      refine va_put (D := X.1) (ci := 3) (v := .int v_22) (ty := .int) (C := RX3) (T := TX3) (N := 4) hx hb hts hiX3 tyX3 tyX3_ok nmX3 hown hK.1 hP (hD0.addr rfl) hS 0 rfl rfl 3 (by decide) k22 (fun _ h9 => h9) rfl (by decide +kernel) rfl rfl (Nat.le_of_ble_eq_true rfl) dX3_drop_102 (fun H locs hP hD hS => ?_)
      have hP : va_P X.1 vwCl (wTb X ta ca lim col nn v_22 f_20) H := hP
      cases hf
      exact fn_vret hx hb hr hlocks hP hS dX3_drop_105
    · replace hf := fp_f c_17 hf
      cases hf
      exact fn_vret hx hb hr hlocks hP hS dX3_drop_12

def f_X3_takeOver_L38 (x2 : Int32) (nn : Nat) (nn2 : Nat) (f2 : (Nat → Int32)) : Nat → Int32 → (Nat → Int32) →  Option ((Nat → Int32))
  | 0, _, _ => none
  | k_ + 1, x3, f =>
    if x2 ≤ x3 then
    (some f)
    else
    (if Int32.ofNat nn ≤ x3 then
    (some f)
    else
    (if Int32.ofNat nn2 ≤ x3 then
    (some f)
    else
    (ix x3 nn2 (
    nm (f2 x3.toNatClampNeg) (fun v_5 =>
    ix x3 nn (
    nm (upd f x3.toNatClampNeg v_5) (fun f_7 =>
    nm (x3 + (1 : Int32)) (fun v_8 =>
    f_X3_takeOver_L38 x2 nn nn2 f2 k_ v_8 f_7))))))))
def f_X3_takeOver (lim : Int32) (col : Int32) (nn : Nat) (nn2 : Nat) (rows : Int32) (f : (Nat → Int32)) (rows2 : Int32) (f2 : (Nat → Int32)) : Option (Int32 × (Nat → Int32)) :=
  if lim ≤ rows2 then
  (nm (lim * col) (fun v_10 =>
  bd (f_X3_takeOver_L38 v_10 nn nn2 f2 FU (0 : Int32) f) (fun f_11 =>
  some (lim, f_11))))
  else
  (nm (rows2 * col) (fun v_13 =>
  bd (f_X3_takeOver_L38 v_13 nn nn2 f2 FU (0 : Int32) f) (fun f_14 =>
  some (rows2, f_14))))
set_option maxHeartbeats 4000000 in
set_option maxRecDepth 100000 in
theorem c_X3_takeOver (l : Launch) (X : cx_G) (ta : Nat) (ca : Nat) (ta2 : Nat) (ca2 : Nat) (lim : Int32) (col : Int32) (nn : Nat) (lim2 : Int32) (col2 : Int32) (nn2 : Nat) (rows : Int32) (f : (Nat → Int32)) (rows2 : Int32) (f2 : (Nat → Int32)) (rows' : Int32) (f' : (Nat → Int32)) (hf : f_X3_takeOver lim col nn nn2 rows f rows2 f2 = some (rows', f')) : Fn l yX3_takeOver wsX3_takeOver ({ frames := 0, cells := 0, slots := 0, locals := 0 } : Room) X [.ref (ta), .ref (ta2)] ((wTb X ta ca lim col nn rows f) ++ (wTb X ta2 ca2 lim2 col2 nn2 rows2 f2)) none ((wTb X ta ca lim col nn rows' f') ++ (wTb X ta2 ca2 lim2 col2 nn2 rows2 f2)) := by
  refine fn_intro (cc := cX3_takeOver) (maxL := 4) (ret := none) (by decide) rfl rfl (Nat.le_of_ble_eq_true rfl) ?_
  intro p e s m args below meth c A ls hx hb hml hr hts hown hlocks hK hP hD0 hS hA hl
  have hown : s.vm.findClass RX3 = some m.cls := hown
  have hl : lv_has ls 4 [(0, .ref (ta)), (1, .ref (ta2))] := hl
  have hiX3 : ∀ w ∈ u_ws RX3 TX3 4, w ∈ wsX3_takeOver := by decide +kernel
  have k9 := hts (.fieldLink RX3 9 "LentRights$Table" "limit" "I") (by decide +kernel)
  have k15 := hts (.fieldLink RX3 15 "LentRights$Table" "columns" "I") (by decide +kernel)
  have k18 := hts (.fieldLink RX3 18 "LentRights$Table" "cells" "[I") (by decide +kernel)
  have k22 := hts (.fieldLink RX3 22 "LentRights$Table" "rows" "I") (by decide +kernel)
  have loop_38 : ∀ (Q : State → Prop) (x2 : Int32) (rows : Int32) (fo : (Nat → Int32)), (∀ (H : Heap) (locs : List Loc) (ls : Array Slot), va_P X.1 vwCl ((wTb X ta ca lim col nn rows fo) ++ (wTb X ta2 ca2 lim2 col2 nn2 rows2 f2)) H → va_S A s.heap H locs → lv_has ls 4 [] → W p l e ({ frames := 0, cells := 0, slots := 0, locals := 0 } : Room) s m args below meth c H locs 0 0 Q (F0 m 79 ls [])) → ∀ (k_ : Nat) (x3 : Int32) (f : (Nat → Int32)) (H : Heap) (locs : List Loc) (ls : Array Slot), f_X3_takeOver_L38 x2 nn nn2 f2 k_ x3 f = some fo → va_P X.1 vwCl ((wTb X ta ca lim col nn rows f) ++ (wTb X ta2 ca2 lim2 col2 nn2 rows2 f2)) H → va_S A s.heap H locs → lv_has ls 4 [(0, .ref (ta)), (1, .ref (ta2)), (2, .int x2), (3, .int x3)] → W p l e ({ frames := 0, cells := 0, slots := 0, locals := 0 } : Room) s m args below meth c H locs 0 0 Q (F0 m 38 ls []) := by
    intro Q x2 rows fo kx k_
    induction k_ with
    | zero => intro x3 f H locs ls hf; exact nomatch (show (none : Option ((Nat → Int32))) = some _ from hf)
    | succ k_ ih =>
      intro x3 f H locs ls hf hP hS hl
      unfold f_X3_takeOver_L38 at hf
      refine lv_iload_n hx hb dX3_takeOver_38 rfl (lv_at hl 3 rfl) ?_
      refine lv_iload_n hx hb dX3_takeOver_39 rfl (lv_at hl 2 rfl) ?_
      refine lv_icmp_ge (tgt := 79) hx hb dX3_takeOver_40 (by decide) (fun c_1 => ?_) (fun c_1 => ?_)
      · replace hf := fp_t c_1 hf
        cases hf
        exact kx _ _ _ hP hS (lv_sub hl [] rfl)
      · replace hf := fp_f c_1 hf
        refine lv_iload_n hx hb dX3_takeOver_43 rfl (lv_at hl 3 rfl) ?_
        refine lv_aload_n hx hb dX3_takeOver_44 rfl (lv_at hl 0 rfl) ?_
        refine va_get (D := X.1) (ci := 3) (v := .ref (ca)) (C := RX3) (T := TX3) (N := 4) hx hb hts hiX3 hown hK.1 hP 0 rfl rfl 2 (by decide) k18 (fun _ h9 => h9) rfl dX3_takeOver_45 ?_
        refine va_alen (v := Int32.ofNat nn) hx hb hK.1 hP 1 0 rfl rfl rfl dX3_takeOver_48 ?_
        refine lv_icmp_ge (tgt := 79) hx hb dX3_takeOver_49 (by decide) (fun c_2 => ?_) (fun c_2 => ?_)
        · replace hf := fp_t c_2 hf
          cases hf
          exact kx _ _ _ hP hS (lv_sub hl [] rfl)
        · replace hf := fp_f c_2 hf
          refine lv_iload_n hx hb dX3_takeOver_52 rfl (lv_at hl 3 rfl) ?_
          refine lv_aload_n hx hb dX3_takeOver_53 rfl (lv_at hl 1 rfl) ?_
          refine va_get (D := X.1) (ci := 3) (v := .ref (ca2)) (C := RX3) (T := TX3) (N := 4) hx hb hts hiX3 hown hK.1 hP 2 rfl rfl 2 (by decide) k18 (fun _ h9 => h9) rfl dX3_takeOver_54 ?_
          refine va_alen (v := Int32.ofNat nn2) hx hb hK.1 hP 3 0 rfl rfl rfl dX3_takeOver_57 ?_
          refine lv_icmp_ge (tgt := 79) hx hb dX3_takeOver_58 (by decide) (fun c_3 => ?_) (fun c_3 => ?_)
          · replace hf := fp_t c_3 hf
            cases hf
            exact kx _ _ _ hP hS (lv_sub hl [] rfl)
          · replace hf := fp_f c_3 hf
            refine lv_aload_n hx hb dX3_takeOver_61 rfl (lv_at hl 0 rfl) ?_
            refine va_get (D := X.1) (ci := 3) (v := .ref (ca)) (C := RX3) (T := TX3) (N := 4) hx hb hts hiX3 hown hK.1 hP 0 rfl rfl 2 (by decide) k18 (fun _ h9 => h9) rfl dX3_takeOver_62 ?_
            refine lv_iload_n hx hb dX3_takeOver_65 rfl (lv_at hl 3 rfl) ?_
            refine lv_aload_n hx hb dX3_takeOver_66 rfl (lv_at hl 1 rfl) ?_
            refine va_get (D := X.1) (ci := 3) (v := .ref (ca2)) (C := RX3) (T := TX3) (N := 4) hx hb hts hiX3 hown hK.1 hP 2 rfl rfl 2 (by decide) k18 (fun _ h9 => h9) rfl dX3_takeOver_67 ?_
            refine lv_iload_n hx hb dX3_takeOver_70 rfl (lv_at hl 3 rfl) ?_
            obtain ⟨hi_4, hf⟩ := ix_of hf
            refine va_iald hx hb hK.1 hP 3 0 rfl rfl hi_4 dX3_takeOver_71 ?_
            refine lv_topi (fun v_5 ev_5 => ?_)
            replace hf := nm_of ev_5 hf
            obtain ⟨hi_6, hf⟩ := ix_of hf
            refine va_iast hx hb hK.1 hP (hD0.addr rfl) hS 1 0 rfl rfl hi_6 dX3_takeOver_72 (fun H locs hP hD hS => ?_)
            obtain ⟨f_7, ef_7⟩ : ∃ g : Nat → Int32, g = upd f x3.toNatClampNeg v_5 := ⟨_, rfl⟩
            replace hf := nm_of ef_7 hf
            have hP : va_P X.1 vwCl ((wTb X ta ca lim col nn rows f_7) ++ (wTb X ta2 ca2 lim2 col2 nn2 rows2 f2)) H := by rw [ef_7]; exact hP
            obtain ⟨v_8, ev_8⟩ : ∃ y : Int32, y = x3 + (1 : Int32) := ⟨_, rfl⟩
            replace hf := nm_of ev_8 hf
            refine lv_iinc (v := v_8) (lv' := [(3, .int v_8), (0, .ref (ta)), (1, .ref (ta2)), (2, .int x2)]) hx hb dX3_takeOver_73 hl (k := 3) rfl (by rw [ev_8]; rfl) (by decide) rfl (fun ls hl => ?_)
            refine lv_goto (tgt := 38) hx hb dX3_takeOver_76 (by decide) ?_
            exact ih v_8 f_7 _ _ _ hf hP hS (lv_sub hl [1, 2, 3, 0] rfl)
  unfold f_X3_takeOver at hf
  refine lv_aload_n hx hb dX3_takeOver_0 rfl (lv_at hl 0 rfl) ?_
  refine lv_aload_n hx hb dX3_takeOver_1 rfl (lv_at hl 1 rfl) ?_
  refine va_get (D := X.1) (ci := 3) (v := .int rows2) (C := RX3) (T := TX3) (N := 4) hx hb hts hiX3 hown hK.1 hP 2 rfl rfl 3 (by decide) k22 (fun _ h9 => h9) rfl dX3_takeOver_2 ?_
  refine lv_aload_n hx hb dX3_takeOver_5 rfl (lv_at hl 0 rfl) ?_
  refine va_get (D := X.1) (ci := 3) (v := .int lim) (C := RX3) (T := TX3) (N := 4) hx hb hts hiX3 hown hK.1 hP 0 rfl rfl 0 (by decide) k9 (fun _ h9 => h9) rfl dX3_takeOver_6 ?_
  refine lv_icmp_ge (tgt := 19) hx hb dX3_takeOver_9 (by decide) (fun c_9 => ?_) (fun c_9 => ?_)
  · replace hf := fp_t c_9 hf
    refine lv_aload_n hx hb dX3_takeOver_19 rfl (lv_at hl 0 rfl) ?_
    refine va_get (D := X.1) (ci := 3) (v := .int lim) (C := RX3) (T := TX3) (N := 4) hx hb hts hiX3 hown hK.1 hP 0 rfl rfl 0 (by decide) k9 (fun _ h9 => h9) rfl dX3_takeOver_20 ?_
    refine va_put (D := X.1) (ci := 3) (v := .int lim) (ty := .int) (C := RX3) (T := TX3) (N := 4) hx hb hts hiX3 tyX3 tyX3_ok nmX3 hown hK.1 hP (hD0.addr rfl) hS 0 rfl rfl 3 (by decide) k22 (fun _ h9 => h9) rfl (by decide +kernel) rfl rfl (Nat.le_of_ble_eq_true rfl) dX3_takeOver_23 (fun H locs hP hD hS => ?_)
    have hP : va_P X.1 vwCl ((wTb X ta ca lim col nn lim f) ++ (wTb X ta2 ca2 lim2 col2 nn2 rows2 f2)) H := hP
    refine lv_aload_n hx hb dX3_takeOver_26 rfl (lv_at hl 0 rfl) ?_
    refine va_get (D := X.1) (ci := 3) (v := .int lim) (C := RX3) (T := TX3) (N := 4) hx hb hts hiX3 hown hK.1 hP 0 rfl rfl 3 (by decide) k22 (fun _ h9 => h9) rfl dX3_takeOver_27 ?_
    refine lv_aload_n hx hb dX3_takeOver_30 rfl (lv_at hl 0 rfl) ?_
    refine va_get (D := X.1) (ci := 3) (v := .int col) (C := RX3) (T := TX3) (N := 4) hx hb hts hiX3 hown hK.1 hP 0 rfl rfl 1 (by decide) k15 (fun _ h9 => h9) rfl dX3_takeOver_31 ?_
    refine lv_imul hx hb dX3_takeOver_34 ?_
    refine lv_topi (fun v_10 ev_10 => ?_)
    replace hf := nm_of ev_10 hf
    refine lv_istore_n (lv' := [(2, .int v_10), (0, .ref (ta)), (1, .ref (ta2))]) hx hb dX3_takeOver_35 rfl hl (by decide) rfl (fun ls hl => ?_)
    refine lv_iconst (v := 0) hx hb dX3_takeOver_36 (by decide) ?_
    refine lv_istore_n (lv' := [(3, .int (0 : Int32)), (2, .int v_10), (0, .ref (ta)), (1, .ref (ta2))]) hx hb dX3_takeOver_37 rfl hl (by decide) rfl (fun ls hl => ?_)
    obtain ⟨f_11, hL_12, hf⟩ := bd_of hf
    refine loop_38 _ v_10 lim f_11 (fun H locs ls hP hS hl => ?_) FU (0 : Int32) f _ _ _ hL_12 hP hS (lv_sub hl [2, 3, 1, 0] rfl)
    cases hf
    exact fn_vret hx hb hr hlocks hP hS dX3_takeOver_79
  · replace hf := fp_f c_9 hf
    refine lv_aload_n hx hb dX3_takeOver_12 rfl (lv_at hl 1 rfl) ?_
    refine va_get (D := X.1) (ci := 3) (v := .int rows2) (C := RX3) (T := TX3) (N := 4) hx hb hts hiX3 hown hK.1 hP 2 rfl rfl 3 (by decide) k22 (fun _ h9 => h9) rfl dX3_takeOver_13 ?_
    refine lv_goto (tgt := 23) hx hb dX3_takeOver_16 (by decide) ?_
    refine va_put (D := X.1) (ci := 3) (v := .int rows2) (ty := .int) (C := RX3) (T := TX3) (N := 4) hx hb hts hiX3 tyX3 tyX3_ok nmX3 hown hK.1 hP (hD0.addr rfl) hS 0 rfl rfl 3 (by decide) k22 (fun _ h9 => h9) rfl (by decide +kernel) rfl rfl (Nat.le_of_ble_eq_true rfl) dX3_takeOver_23 (fun H locs hP hD hS => ?_)
    have hP : va_P X.1 vwCl ((wTb X ta ca lim col nn rows2 f) ++ (wTb X ta2 ca2 lim2 col2 nn2 rows2 f2)) H := hP
    refine lv_aload_n hx hb dX3_takeOver_26 rfl (lv_at hl 0 rfl) ?_
    refine va_get (D := X.1) (ci := 3) (v := .int rows2) (C := RX3) (T := TX3) (N := 4) hx hb hts hiX3 hown hK.1 hP 0 rfl rfl 3 (by decide) k22 (fun _ h9 => h9) rfl dX3_takeOver_27 ?_
    refine lv_aload_n hx hb dX3_takeOver_30 rfl (lv_at hl 0 rfl) ?_
    refine va_get (D := X.1) (ci := 3) (v := .int col) (C := RX3) (T := TX3) (N := 4) hx hb hts hiX3 hown hK.1 hP 0 rfl rfl 1 (by decide) k15 (fun _ h9 => h9) rfl dX3_takeOver_31 ?_
    refine lv_imul hx hb dX3_takeOver_34 ?_
    refine lv_topi (fun v_13 ev_13 => ?_)
    replace hf := nm_of ev_13 hf
    refine lv_istore_n (lv' := [(2, .int v_13), (0, .ref (ta)), (1, .ref (ta2))]) hx hb dX3_takeOver_35 rfl hl (by decide) rfl (fun ls hl => ?_)
    refine lv_iconst (v := 0) hx hb dX3_takeOver_36 (by decide) ?_
    refine lv_istore_n (lv' := [(3, .int (0 : Int32)), (2, .int v_13), (0, .ref (ta)), (1, .ref (ta2))]) hx hb dX3_takeOver_37 rfl hl (by decide) rfl (fun ls hl => ?_)
    obtain ⟨f_14, hL_15, hf⟩ := bd_of hf
    refine loop_38 _ v_13 rows2 f_14 (fun H locs ls hP hS hl => ?_) FU (0 : Int32) f _ _ _ hL_15 hP hS (lv_sub hl [2, 3, 1, 0] rfl)
    cases hf
    exact fn_vret hx hb hr hlocks hP hS dX3_takeOver_79
