section SJB
variable {p : Program} {l : Launch} {e : Env} {R : Room} {s : State} {m : MethodId} {args : Array Value} {below : List Frame} {meth : Method} {c : Code} {H : Heap} {locs : List Loc} {cells slots : Nat} {Q : State → Prop}
variable {X : cx_G} {A : Nat → Prop} {ws ws' wc wc' : va_W} {pc : Nat} {ls : Array Slot} {cc : ByteArray}
variable {y : MethodName} {bytes : ByteArray} {maxL nL n index : Nat} {ret : Option FieldType} {wd : List Cond} {rm : Room} {Ts : List Cond} {own : String} {As rest st0 st1 : List Value} {v : Option Value} {H0 : Heap}
theorem fn_SJ (S : CallFix p m c cc nL s args Ts own) (hM : Fn l y wd rm X As wc v wc') (cw : CallB R s args own index y bytes maxL ret wd rm 0 0 n ∧ (Cond.static y).before args s = true)
    (hn : As.length = n) (hsize : ls.size = nL) (hst : st0 = As.reverse ++ rest) (hroom : (rest.map fun v => v.category).sum ≤ 8) (hdg : decode cc pc = .ok (.invokestatic index, 3))
    (hK : cx_K X s) (hP : va_P X.1 vwCl ws H) (hD : va_D A ws) (hS : va_S A H0 H locs) (hA : ∀ q : Nat, H0.size ≤ q → A q) (is : List Nat) (hnd : va_nd is = true) (hC : is.map (fun i => ws[i]?) = wc.map some) (hJ : pj 0 is wc' ws ws') (hF0 : ws'.map Prod.fst = ws.map Prod.fst) (hst1 : v.toList ++ rest = st1) (hfit : cells ≤ R.cells ∧ slots ≤ R.slots)
    (kk : ∀ (H1 : Heap) (locs1 : List Loc), va_P X.1 vwCl ws' H1 → va_D A ws' → va_S A H0 H1 locs1 → W p l e R s m args below meth c H1 locs1 cells slots Q (F0 m (pc + 3) ls st1)) : W p l e R s m args below meth c H locs cells slots Q (F0 m pc ls st0) := by
  subst hst
  subst hst1
  exact fn_goJ (va_runS (As := As) (rest := rest) S (hM.2 H.size) cw ⟨fn_blind, fun U hU hW => fn_pre hK hP hD hnd hC rfl U hU hW⟩ rfl hn hsize rfl (lv_room hroom) hdg hfit) hP hD hS hA is hC hJ hF0 kk
end SJB
def f_L_law_L105 (L : Nat) (xs : (Nat → Int32)) : Nat → Int32 → LSt → LSt →  Option (LSt × LSt)
  | 0, _, _, _ => none
  | k_ + 1, x4, so, sp =>
    if (41 : Int32) ≤ x4 then
    (some (so, sp))
    else
    (bd (f_L_cell L xs x4) (fun r_3 =>
    bd2 (f_L_isStep r_3 so sp) (fun so_5 sp_6 =>
    bd2 (f_L_areAlike so_5 sp_6) (fun so_9 sp_10 =>
    bd (f_L_isSound so_9) (fun so_13 =>
    nm (x4 + (1 : Int32)) (fun v_16 =>
    f_L_law_L105 L xs k_ v_16 so_13 sp_10))))))
def f_L_law_L21 (L : Nat) (xs : (Nat → Int32)) : Nat → Int32 → LSt → LSt →  Option (LSt × LSt)
  | 0, _, _, _ => none
  | k_ + 1, x4, so, sp =>
    if (3 : Int32) ≤ x4 then
    (some (so, sp))
    else
    (bd (f_L_cell L xs x4) (fun r_18 =>
    bd (f_L_up r_18 (10 : Int32)) (fun r_20 =>
    bd (f_L_cell L xs x4) (fun r_22 =>
    bd (f_L_up (r_22 >>> ((4 : Int32) &&& 31)) (8 : Int32)) (fun r_24 =>
    nm (r_24 ||| (5 : Int32)) (fun v_26 =>
    bd2 (f_B_addThing r_20 v_26 so) (fun r_28 so_29 =>
    if r_28 = x4 then
    (bd2 (f_B_addThing ((9 : Int32) - r_20) v_26 sp) (fun r_32 sp_33 =>
    if r_32 = x4 then
    (nm (x4 + (1 : Int32)) (fun v_36 =>
    f_L_law_L21 L xs k_ v_36 so_29 sp_33))
    else
    (none)))
    else
    (none))))))))
def f_L_law (L : Nat) (xs : Nat → Int32) (so sp : LSt) : Option Unit :=
  bd2 (f_L_law_L21 L xs FU (0 : Int32) so sp) (fun so_37 sp_38 =>
  bd2 (f_L_law_L105 L xs FU (3 : Int32) so_37 sp_38) (fun so_40 sp_41 =>
  some ()))
set_option maxHeartbeats 40000000 in
set_option maxRecDepth 100000 in
theorem law_tail {p : Program} {e : Env} {s : State} {m : MethodId} {below : List Frame} {meth : Method} {c : Code} (l : Launch) {b L cl sl : Nat} {xs : Nat → Int32} {A : Nat → Prop} (hcl : cl ≤ 600086) (hsl : sl ≤ 7301442) (hx : p.tables.exec = Jvm.exec) (hb : c.code = cL_law) (hr : meth.sig.returnType = ret) (hml : c.maxLocals = 7) (hown : s.vm.findClass RL = some m.cls) (hts : ∀ w ∈ wsL_law, w.before #[Value.ref b] s = true) (hX : va_X b L xs s s.heap) (hbl : b < s.heap.size) (hbA : ¬ A b) (hA : ∀ q : Nat, s.heap.size ≤ q → A q) (hAn : ∀ q : Nat, A q → s.heap.size ≤ q) (hlocks : meth.locks = false) (X : cx_G) (hK : cx_K X s) (ao ap : LAd) (so sp : LSt) (hf : f_L_law L xs so sp = some ()) {H : Heap} {locs : List Loc} {ls : Array Slot} (hP : va_P X.1 vwCl (wLS X ao so ++ wLS X ap sp) H) (hD0 : va_D A (wLS X ao so ++ wLS X ap sp)) (hS : va_S A s.heap H locs) (hl : lv_has ls 7 [(0, .ref b), (1, .ref (ao.1)), (2, .ref (ap.1))]) : W p l e room_1 s m #[Value.ref b] below meth c H locs cl sl (lw_Z below #[Value.ref b] s) (F0 m 16 ls []) := by
  have loop_105 : ∀ (Q : State → Prop) (soo : LSt) (spo : LSt), (∀ (H : Heap) (locs : List Loc) (ls : Array Slot), va_P X.1 vwCl ((wLS X ao soo) ++ (wLS X ap spo)) H → va_S A s.heap H locs → lv_has ls 7 [(3, .int (1 : Int32))] → W p l e room_1 s m #[Value.ref b] below meth c H locs cl sl Q (F0 m 157 ls [])) → ∀ (k_ : Nat) (x4 : Int32) (so : LSt) (sp : LSt) (H : Heap) (locs : List Loc) (ls : Array Slot), f_L_law_L105 L xs k_ x4 so sp = some (soo, spo) → va_P X.1 vwCl ((wLS X ao so) ++ (wLS X ap sp)) H → va_S A s.heap H locs → lv_has ls 7 [(0, .ref b), (1, .ref (ao.1)), (2, .ref (ap.1)), (3, .int (1 : Int32)), (4, .int x4)] → W p l e room_1 s m #[Value.ref b] below meth c H locs cl sl Q (F0 m 105 ls []) := by
    intro Q soo spo kx k_
    induction k_ with
    | zero => intro x4 so sp H locs ls hf; exact nomatch (show (none : Option (LSt × LSt)) = some _ from hf)
    | succ k_ ih =>
      intro x4 so sp H locs ls hf hP hS hl
      unfold f_L_law_L105 at hf
      refine lv_iload hx hb dL_law_105 (lv_at hl 4 rfl) ?_
      refine lv_bipush (v := 41) hx hb dL_law_107 (by decide) ?_
      refine lv_icmp_ge (tgt := 157) hx hb dL_law_109 (by decide) (fun c_1 => ?_) (fun c_1 => ?_)
      · replace hf := fp_t c_1 hf
        cases hf
        exact kx _ _ _ hP hS (lv_sub hl [3] rfl)
      · replace hf := fp_f c_1 hf
        refine lv_iload_n hx hb dL_law_112 rfl (lv_at hl 3 rfl) ?_
        refine lv_if_eq (tgt := 157) hx hb dL_law_113 (by decide) (fun c9 => absurd c9 (by decide)) (fun _ => ?_)
        refine lv_aload_n hx hb dL_law_116 rfl (lv_at hl 1 rfl) ?_
        refine lv_aload_n hx hb dL_law_117 rfl (lv_at hl 2 rfl) ?_
        refine lv_aload_n hx hb dL_law_118 rfl (lv_at hl 0 rfl) ?_
        refine lv_iload hx hb dL_law_119 (lv_at hl 4 rfl) ?_
        obtain ⟨r_3, hc_4, hf⟩ := bd_of hf
        refine fs_S (v := some (.int r_3)) (As := [.ref b, .int x4]) (rest := [.ref (ap.1), .ref (ao.1)]) (st1 := [.int r_3, .ref (ap.1), .ref (ao.1)]) (nL := 7) ⟨hx, hb, hml, hown, hts⟩ (c_L_cell l X b L xs x4 r_3 hc_4) (va_cwS 2 hts gL_law_L_cell rfl rfl rfl (by decide +kernel) ⟨Nat.le_of_ble_eq_true rfl, Nat.le_of_ble_eq_true rfl⟩) rfl hl.1 rfl (Nat.le_of_ble_eq_true rfl) dL_law_121 hX hbl hbA hK hP (hD0.addr (wB_fst.trans wB_fst.symm)) hS hA rfl ⟨hcl, hsl⟩ (fun H locs hP hD hS => ?_)
        obtain ⟨so_5, sp_6, hc_7, hf⟩ := bd2_of hf
        refine fn_SJ (v := some (.int (1 : Int32))) (As := [.ref (ao.1), .ref (ap.1), .int r_3]) (rest := []) (st1 := [.int (1 : Int32)]) (ws' := ((wLS X ao so_5) ++ (wLS X ap sp_6))) (nL := 7) ⟨hx, hb, hml, hown, hts⟩ (c_L_isStep l X ao ap so sp r_3 so_5 sp_6 hc_7) (va_cwS 3 hts gL_law_L_isStep rfl rfl rfl (by decide +kernel) ⟨Nat.le_of_ble_eq_true rfl, Nat.le_of_ble_eq_true rfl⟩) rfl hl.1 rfl (Nat.le_of_ble_eq_true rfl) dL_law_124 hK hP (hD0.addr (wB_fst.trans wB_fst.symm)) hS hA [0, 1, 2, 3, 4, 5, 6, 7, 8, 9, 10, 11, 12, 13, 14, 15, 16, 17, 18, 19, 20, 21, 22, 23, 24, 25, 26, 27, 28, 29, 30, 31, 32, 33, 34, 35, 36, 37, 38, 39, 40, 41, 42, 43, 44, 45, 46, 47, 48, 49, 50, 51, 52, 53, 54, 55, 56, 57, 58, 59, 60, 61, 62, 63, 64, 65, 66, 67, 68, 69, 70, 71, 72, 73, 74, 75, 76, 77, 78, 79, 80, 81, 82, 83, 84, 85, 86, 87, 88, 89, 90, 91, 92, 93, 94, 95, 96, 97, 98, 99, 100, 101, 102, 103, 104, 105, 106, 107, 108, 109, 110, 111, 112, 113, 114, 115, 116, 117, 118, 119, 120, 121, 122, 123, 124, 125, 126, 127, 128, 129, 130, 131, 132, 133, 134, 135, 136, 137, 138, 139, 140, 141, 142, 143, 144, 145, 146, 147, 148, 149, 150, 151, 152, 153] (by decide +kernel) bC_a bJ_a (wB_fst.trans wB_fst.symm) rfl ⟨hcl, hsl⟩ (fun H locs hP hD hS => ?_)
        refine lv_if_eq (tgt := 149) hx hb dL_law_127 (by decide) (fun c9 => absurd c9 (by decide)) (fun _ => ?_)
        refine lv_aload_n hx hb dL_law_130 rfl (lv_at hl 1 rfl) ?_
        refine lv_aload_n hx hb dL_law_131 rfl (lv_at hl 2 rfl) ?_
        obtain ⟨so_9, sp_10, hc_11, hf⟩ := bd2_of hf
        refine fn_SJ (v := some (.int (1 : Int32))) (As := [.ref (ao.1), .ref (ap.1)]) (rest := []) (st1 := [.int (1 : Int32)]) (ws' := ((wLS X ao so_9) ++ (wLS X ap sp_10))) (nL := 7) ⟨hx, hb, hml, hown, hts⟩ (c_L_areAlike l X ao ap so_5 sp_6 so_9 sp_10 hc_11) (va_cwS 2 hts gL_law_L_areAlike rfl rfl rfl (by decide +kernel) ⟨Nat.le_of_ble_eq_true rfl, Nat.le_of_ble_eq_true rfl⟩) rfl hl.1 rfl (Nat.le_of_ble_eq_true rfl) dL_law_132 hK hP (hD0.addr (wB_fst.trans wB_fst.symm)) hS hA [0, 1, 2, 3, 4, 5, 6, 7, 8, 9, 10, 11, 12, 13, 14, 15, 16, 17, 18, 19, 20, 21, 22, 23, 24, 25, 26, 27, 28, 29, 30, 31, 32, 33, 34, 35, 36, 37, 38, 39, 40, 41, 42, 43, 44, 45, 46, 47, 48, 49, 50, 51, 52, 53, 54, 55, 56, 57, 58, 59, 60, 61, 62, 63, 64, 65, 66, 67, 68, 69, 70, 71, 72, 73, 74, 75, 76, 77, 78, 79, 80, 81, 82, 83, 84, 85, 86, 87, 88, 89, 90, 91, 92, 93, 94, 95, 96, 97, 98, 99, 100, 101, 102, 103, 104, 105, 106, 107, 108, 109, 110, 111, 112, 113, 114, 115, 116, 117, 118, 119, 120, 121, 122, 123, 124, 125, 126, 127, 128, 129, 130, 131, 132, 133, 134, 135, 136, 137, 138, 139, 140, 141, 142, 143, 144, 145, 146, 147, 148, 149, 150, 151, 152, 153] (by decide +kernel) bC_a bJ_a (wB_fst.trans wB_fst.symm) rfl ⟨hcl, hsl⟩ (fun H locs hP hD hS => ?_)
        refine lv_if_eq (tgt := 149) hx hb dL_law_135 (by decide) (fun c9 => absurd c9 (by decide)) (fun _ => ?_)
        refine lv_aload_n hx hb dL_law_138 rfl (lv_at hl 1 rfl) ?_
        obtain ⟨so_13, hc_14, hf⟩ := bd_of hf
        refine fn_SJ (v := some (.int (1 : Int32))) (As := [.ref (ao.1)]) (rest := []) (st1 := [.int (1 : Int32)]) (ws' := ((wLS X ao so_13) ++ (wLS X ap sp_10))) (nL := 7) ⟨hx, hb, hml, hown, hts⟩ (c_L_isSound l X ao so_9 so_13 hc_14) (va_cwS 1 hts gL_law_L_isSound rfl rfl rfl (by decide +kernel) ⟨Nat.le_of_ble_eq_true rfl, Nat.le_of_ble_eq_true rfl⟩) rfl hl.1 rfl (Nat.le_of_ble_eq_true rfl) dL_law_139 hK hP (hD0.addr (wB_fst.trans wB_fst.symm)) hS hA [0, 1, 2, 3, 4, 5, 6, 7, 8, 9, 10, 11, 12, 13, 14, 15, 16, 17, 18, 19, 20, 21, 22, 23, 24, 25, 26, 27, 28, 29, 30, 31, 32, 33, 34, 35, 36, 37, 38, 39, 40, 41, 42, 43, 44, 45, 46, 47, 48, 49, 50, 51, 52, 53, 54, 55, 56, 57, 58, 59, 60, 61, 62, 63, 64, 65, 66, 67, 68, 69, 70, 71, 72, 73, 74, 75, 76] (by decide +kernel) bC_o bJ_o (wB_fst.trans wB_fst.symm) rfl ⟨hcl, hsl⟩ (fun H locs hP hD hS => ?_)
        refine lv_if_eq (tgt := 149) hx hb dL_law_142 (by decide) (fun c9 => absurd c9 (by decide)) (fun _ => ?_)
        refine lv_iconst (v := 1) hx hb dL_law_145 (by decide) ?_
        refine lv_goto (tgt := 150) hx hb dL_law_146 (by decide) ?_
        refine lv_istore_n (lv' := [(3, .int (1 : Int32)), (0, .ref b), (1, .ref (ao.1)), (2, .ref (ap.1)), (4, .int x4)]) hx hb dL_law_150 rfl hl (by decide) rfl (fun ls hl => ?_)
        obtain ⟨v_16, ev_16⟩ : ∃ y : Int32, y = x4 + (1 : Int32) := ⟨_, rfl⟩
        replace hf := nm_of ev_16 hf
        refine lv_iinc (v := v_16) (lv' := [(4, .int v_16), (3, .int (1 : Int32)), (0, .ref b), (1, .ref (ao.1)), (2, .ref (ap.1))]) hx hb dL_law_151 hl (k := 4) rfl (by rw [ev_16]; rfl) (by decide) rfl (fun ls hl => ?_)
        refine lv_goto (tgt := 105) hx hb dL_law_154 (by decide) ?_
        exact ih v_16 so_13 sp_10 _ _ _ hf hP hS (lv_sub hl [2, 3, 4, 1, 0] rfl)
  have loop_21 : ∀ (Q : State → Prop) (soo : LSt) (spo : LSt), (∀ (H : Heap) (locs : List Loc) (ls : Array Slot), va_P X.1 vwCl ((wLS X ao soo) ++ (wLS X ap spo)) H → va_S A s.heap H locs → lv_has ls 7 [(0, .ref b), (1, .ref (ao.1)), (2, .ref (ap.1)), (3, .int (1 : Int32))] → W p l e room_1 s m #[Value.ref b] below meth c H locs cl sl Q (F0 m 102 ls [])) → ∀ (k_ : Nat) (x4 : Int32) (so : LSt) (sp : LSt) (H : Heap) (locs : List Loc) (ls : Array Slot), f_L_law_L21 L xs k_ x4 so sp = some (soo, spo) → va_P X.1 vwCl ((wLS X ao so) ++ (wLS X ap sp)) H → va_S A s.heap H locs → lv_has ls 7 [(0, .ref b), (1, .ref (ao.1)), (2, .ref (ap.1)), (3, .int (1 : Int32)), (4, .int x4)] → W p l e room_1 s m #[Value.ref b] below meth c H locs cl sl Q (F0 m 21 ls []) := by
    intro Q soo spo kx k_
    induction k_ with
    | zero => intro x4 so sp H locs ls hf; exact nomatch (show (none : Option (LSt × LSt)) = some _ from hf)
    | succ k_ ih =>
      intro x4 so sp H locs ls hf hP hS hl
      unfold f_L_law_L21 at hf
      refine lv_iload hx hb dL_law_21 (lv_at hl 4 rfl) ?_
      refine lv_iconst (v := 3) hx hb dL_law_23 (by decide) ?_
      refine lv_icmp_ge (tgt := 102) hx hb dL_law_24 (by decide) (fun c_17 => ?_) (fun c_17 => ?_)
      · replace hf := fp_t c_17 hf
        cases hf
        exact kx _ _ _ hP hS (lv_sub hl [0, 1, 2, 3] rfl)
      · replace hf := fp_f c_17 hf
        refine lv_aload_n hx hb dL_law_27 rfl (lv_at hl 0 rfl) ?_
        refine lv_iload hx hb dL_law_28 (lv_at hl 4 rfl) ?_
        obtain ⟨r_18, hc_19, hf⟩ := bd_of hf
        refine fs_S (v := some (.int r_18)) (As := [.ref b, .int x4]) (rest := []) (st1 := [.int r_18]) (nL := 7) ⟨hx, hb, hml, hown, hts⟩ (c_L_cell l X b L xs x4 r_18 hc_19) (va_cwS 2 hts gL_law_L_cell rfl rfl rfl (by decide +kernel) ⟨Nat.le_of_ble_eq_true rfl, Nat.le_of_ble_eq_true rfl⟩) rfl hl.1 rfl (Nat.le_of_ble_eq_true rfl) dL_law_30 hX hbl hbA hK hP (hD0.addr (wB_fst.trans wB_fst.symm)) hS hA rfl ⟨hcl, hsl⟩ (fun H locs hP hD hS => ?_)
        refine lv_bipush (v := 10) hx hb dL_law_33 (by decide) ?_
        obtain ⟨r_20, hc_21, hf⟩ := bd_of hf
        refine fn_Sx (v := some (.int r_20)) (As := [.int r_18, .int (10 : Int32)]) (rest := []) (st1 := [.int r_20]) (ws' := ((wLS X ao so) ++ (wLS X ap sp))) (nL := 7) ⟨hx, hb, hml, hown, hts⟩ (c_L_up l X r_18 (10 : Int32) r_20 hc_21) (va_cwS 2 hts gL_law_L_up rfl rfl rfl (by decide +kernel) ⟨Nat.le_of_ble_eq_true rfl, Nat.le_of_ble_eq_true rfl⟩) rfl hl.1 rfl (Nat.le_of_ble_eq_true rfl) dL_law_35 hK hP (hD0.addr (wB_fst.trans wB_fst.symm)) hS hA [] (by decide +kernel) rfl (pt_setid _ _ _ rfl) rfl ⟨hcl, hsl⟩ (fun H locs hP hD hS => ?_)
        refine lv_istore (lv' := [(5, .int r_20), (0, .ref b), (1, .ref (ao.1)), (2, .ref (ap.1)), (3, .int (1 : Int32)), (4, .int x4)]) hx hb dL_law_38 hl (by decide) rfl (fun ls hl => ?_)
        refine lv_aload_n hx hb dL_law_40 rfl (lv_at hl 1 rfl) ?_
        refine lv_iload hx hb dL_law_41 (lv_at hl 5 rfl) ?_
        obtain ⟨r_22, hc_23, hf⟩ := bd_of hf
        refine fs_S (v := some (.int r_22)) (As := [.ref b, .int x4]) (rest := []) (st1 := [.int r_22]) (nL := 7) ⟨hx, hb, hml, hown, hts⟩ (c_L_cell l X b L xs x4 r_22 hc_23) (va_cwS 2 hts gL_law_L_cell rfl rfl rfl (by decide +kernel) ⟨Nat.le_of_ble_eq_true rfl, Nat.le_of_ble_eq_true rfl⟩) rfl hl.1 rfl (Nat.le_of_ble_eq_true rfl) dL_law_43 hX hbl hbA hK hP (hD0.addr (wB_fst.trans wB_fst.symm)) hS hA rfl ⟨hcl, hsl⟩ (fun H locs hP hD hS => ?_)
        refine lv_iconst (v := 4) hx hb dL_law_46 (by decide) ?_
        refine lv_ishr hx hb dL_law_47 ?_
        refine lv_bipush (v := 8) hx hb dL_law_48 (by decide) ?_
        obtain ⟨r_24, hc_25, hf⟩ := bd_of hf
        refine fn_Sx (v := some (.int r_24)) (As := [.int (r_22 >>> ((4 : Int32) &&& 31)), .int (8 : Int32)]) (rest := []) (st1 := [.int r_24]) (ws' := ((wLS X ao so) ++ (wLS X ap sp))) (nL := 7) ⟨hx, hb, hml, hown, hts⟩ (c_L_up l X (r_22 >>> ((4 : Int32) &&& 31)) (8 : Int32) r_24 hc_25) (va_cwS 2 hts gL_law_L_up rfl rfl rfl (by decide +kernel) ⟨Nat.le_of_ble_eq_true rfl, Nat.le_of_ble_eq_true rfl⟩) rfl hl.1 rfl (Nat.le_of_ble_eq_true rfl) dL_law_50 hK hP (hD0.addr (wB_fst.trans wB_fst.symm)) hS hA [] (by decide +kernel) rfl (pt_setid _ _ _ rfl) rfl ⟨hcl, hsl⟩ (fun H locs hP hD hS => ?_)
        refine lv_iconst (v := 5) hx hb dL_law_53 (by decide) ?_
        refine lv_ior hx hb dL_law_54 ?_
        refine lv_topi (fun v_26 ev_26 => ?_)
        replace hf := nm_of ev_26 hf
        refine lv_istore (lv' := [(6, .int v_26), (5, .int r_20), (0, .ref b), (1, .ref (ao.1)), (2, .ref (ap.1)), (3, .int (1 : Int32)), (4, .int x4)]) hx hb dL_law_55 hl (by decide) rfl (fun ls hl => ?_)
        refine lv_iload_n hx hb dL_law_57 rfl (lv_at hl 5 rfl) ?_
        refine lv_if_eq (tgt := 94) hx hb dL_law_58 (by decide) (fun c9 => absurd c9 (by decide)) (fun _ => ?_)
        refine lv_aload_n hx hb dL_law_61 rfl (lv_at hl 3 rfl) ?_
        refine lv_iload hx hb dL_law_62 (lv_at hl 1 rfl) ?_
        refine lv_iload hx hb dL_law_64 (lv_at hl 0 rfl) ?_
        obtain ⟨r_28, so_29, hc_30, hf⟩ := bd2_of hf
        refine fn_VJ (v := some (.int r_28)) (As := [.int r_20, .int v_26]) (rest := []) (st1 := [.int r_28]) (ws' := ((wLS X ao so_29) ++ (wLS X ap sp))) (nL := 7) ⟨hx, hb, hml, hown, hts⟩ (c_B_addThing l X ao so r_20 v_26 r_28 so_29 hc_30) (cwV 2 hts gL_law_X5_addThing rfl rfl rfl (by decide +kernel) ⟨Nat.le_of_ble_eq_true rfl, Nat.le_of_ble_eq_true rfl⟩) 5 rfl rfl rfl rfl hl.1 rfl (Nat.le_of_ble_eq_true rfl) dL_law_66 hK hP (hD0.addr (wB_fst.trans wB_fst.symm)) hS hA [0, 1, 2, 3, 4, 5, 6, 7, 8, 9, 10, 11, 12, 13, 14, 15, 16, 17, 18, 19, 20, 21, 22, 23, 24, 25, 26, 27, 28, 29, 30, 31, 32, 33, 34, 35, 36, 37, 38, 39, 40, 41, 42, 43, 44, 45, 46, 47, 48, 49, 50, 51, 52, 53, 54, 55, 56, 57, 58, 59, 60, 61, 62, 63, 64, 65, 66, 67, 68, 69, 70, 71, 72, 73, 74, 75, 76] (by decide +kernel) bC_o bJ_o (wB_fst.trans wB_fst.symm) rfl ⟨hcl, hsl⟩ (fun H locs hP hD hS => ?_)
        refine lv_iload hx hb dL_law_69 (lv_at hl 6 rfl) ?_
        refine lv_icmp_ne (tgt := 94) hx hb dL_law_71 (by decide) (fun c_31 => ?_) (fun c_31 => ?_)
        · replace hf := fp_f c_31 hf
          refine lv_iconst (v := 0) hx hb dL_law_94 (by decide) ?_
          cases hf
        · replace hf := fp_t c_31 hf
          refine lv_aload_n hx hb dL_law_74 rfl (lv_at hl 4 rfl) ?_
          refine lv_bipush (v := 9) hx hb dL_law_75 (by decide) ?_
          refine lv_iload hx hb dL_law_77 (lv_at hl 1 rfl) ?_
          refine lv_isub hx hb dL_law_79 ?_
          refine lv_iload hx hb dL_law_80 (lv_at hl 0 rfl) ?_
          obtain ⟨r_32, sp_33, hc_34, hf⟩ := bd2_of hf
          refine fn_VJ (v := some (.int r_32)) (As := [.int ((9 : Int32) - r_20), .int v_26]) (rest := []) (st1 := [.int r_32]) (ws' := ((wLS X ao so_29) ++ (wLS X ap sp_33))) (nL := 7) ⟨hx, hb, hml, hown, hts⟩ (c_B_addThing l X ap sp ((9 : Int32) - r_20) v_26 r_32 sp_33 hc_34) (cwV 2 hts gL_law_X5_addThing rfl rfl rfl (by decide +kernel) ⟨Nat.le_of_ble_eq_true rfl, Nat.le_of_ble_eq_true rfl⟩) 5 rfl rfl rfl rfl hl.1 rfl (Nat.le_of_ble_eq_true rfl) dL_law_82 hK hP (hD0.addr (wB_fst.trans wB_fst.symm)) hS hA [77, 78, 79, 80, 81, 82, 83, 84, 85, 86, 87, 88, 89, 90, 91, 92, 93, 94, 95, 96, 97, 98, 99, 100, 101, 102, 103, 104, 105, 106, 107, 108, 109, 110, 111, 112, 113, 114, 115, 116, 117, 118, 119, 120, 121, 122, 123, 124, 125, 126, 127, 128, 129, 130, 131, 132, 133, 134, 135, 136, 137, 138, 139, 140, 141, 142, 143, 144, 145, 146, 147, 148, 149, 150, 151, 152, 153] (by decide +kernel) bC_p bJ_p (wB_fst.trans wB_fst.symm) rfl ⟨hcl, hsl⟩ (fun H locs hP hD hS => ?_)
          refine lv_iload hx hb dL_law_85 (lv_at hl 6 rfl) ?_
          refine lv_icmp_ne (tgt := 94) hx hb dL_law_87 (by decide) (fun c_35 => ?_) (fun c_35 => ?_)
          · replace hf := fp_f c_35 hf
            refine lv_iconst (v := 0) hx hb dL_law_94 (by decide) ?_
            cases hf
          · replace hf := fp_t c_35 hf
            refine lv_iconst (v := 1) hx hb dL_law_90 (by decide) ?_
            refine lv_goto (tgt := 95) hx hb dL_law_91 (by decide) ?_
            refine lv_istore_n (lv' := [(3, .int (1 : Int32)), (6, .int v_26), (5, .int r_20), (0, .ref b), (1, .ref (ao.1)), (2, .ref (ap.1)), (4, .int x4)]) hx hb dL_law_95 rfl hl (by decide) rfl (fun ls hl => ?_)
            obtain ⟨v_36, ev_36⟩ : ∃ y : Int32, y = x4 + (1 : Int32) := ⟨_, rfl⟩
            replace hf := nm_of ev_36 hf
            refine lv_iinc (v := v_36) (lv' := [(4, .int v_36), (3, .int (1 : Int32)), (6, .int v_26), (5, .int r_20), (0, .ref b), (1, .ref (ao.1)), (2, .ref (ap.1))]) hx hb dL_law_96 hl (k := 6) rfl (by rw [ev_36]; rfl) (by decide) rfl (fun ls hl => ?_)
            refine lv_goto (tgt := 21) hx hb dL_law_99 (by decide) ?_
            exact ih v_36 so_29 sp_33 _ _ _ hf hP hS (lv_sub hl [4, 5, 6, 1, 0] rfl)
  unfold f_L_law at hf
  refine lv_iconst (v := 1) hx hb dL_law_16 (by decide) ?_
  refine lv_istore_n (lv' := [(3, .int (1 : Int32)), (0, .ref b), (1, .ref (ao.1)), (2, .ref (ap.1))]) hx hb dL_law_17 rfl hl (by decide) rfl (fun ls hl => ?_)
  refine lv_iconst (v := 0) hx hb dL_law_18 (by decide) ?_
  refine lv_istore (lv' := [(4, .int (0 : Int32)), (3, .int (1 : Int32)), (0, .ref b), (1, .ref (ao.1)), (2, .ref (ap.1))]) hx hb dL_law_19 hl (by decide) rfl (fun ls hl => ?_)
  obtain ⟨so_37, sp_38, hL_39, hf⟩ := bd2_of hf
  refine loop_21 _ so_37 sp_38 (fun H locs ls hP hS hl => ?_) FU (0 : Int32) so sp _ _ _ hL_39 hP hS (lv_sub hl [2, 3, 4, 1, 0] rfl)
  refine lv_iconst (v := 3) hx hb dL_law_102 (by decide) ?_
  refine lv_istore (lv' := [(4, .int (3 : Int32)), (0, .ref b), (1, .ref (ao.1)), (2, .ref (ap.1)), (3, .int (1 : Int32))]) hx hb dL_law_103 hl (by decide) rfl (fun ls hl => ?_)
  obtain ⟨so_40, sp_41, hL_42, hf⟩ := bd2_of hf
  refine loop_105 _ so_40 sp_41 (fun H locs ls hP hS hl => ?_) FU (3 : Int32) so_37 sp_38 _ _ _ hL_42 hP hS (lv_sub hl [1, 2, 3, 4, 0] rfl)
  refine lv_iload_n hx hb dL_law_157 rfl (lv_at hl 0 rfl) ?_
  refine va_forget (fun q hq => hAn _ (hS.2.2 q hq)) ?_
  refine W.widen (k := 600086) (n := 7301442) hcl hsl ?_
  exact lw_ret (d0 := s.drawn) (Drawn.sameBut.refl s.drawn lw_cs) hx hb hr hlocks dL_law_158
