/-! ===== constructors: the object's blank cell in, its whole world out ===== -/
section CTB
def ct_Pre (X : cx_G) (ws : va_W) (sz : Nat) : State → Prop := fun U => fn_Pre X ws sz U ∧ va_AO "LentRights$House" U
def ct_Post (X : cx_G) (Pw : va_W → Prop) (A : Nat → Prop) : Array Value → State → Outcome → State → Prop := fun _ st o t => (o = .returned none ∧ ∃ w, Pw w ∧ va_P X.1 vwCl w t.heap ∧ va_D A w) ∧ va_F A st t
def Ct (l : Launch) (y : MethodName) (wd : List Cond) (rm : Room) (X : cx_G) (av : List Value) (ws : va_W) (Pw : va_W → Prop) (mc ms : Nat) : Prop := ∀ sz : Nat, Met l y wd rm (va_Pc av (ct_Pre X ws sz)) (ct_Post X Pw (va_A ws sz)) mc ms (va_A ws sz)
abbrev ct_Z (below : List Frame) (X : cx_G) (Pw : va_W → Prop) (A : Nat → Prop) (args : Array Value) (s : State) (mc ms : Nat) : State → Prop := MQ below (ct_Post X Pw A) args s mc ms A
theorem ct_blind {X : cx_G} {av : List Value} {ws : va_W} {sz : Nat} : FrameBlind (va_Pc av (ct_Pre X ws sz)) := fun a U g mk q => ⟨q.1, (fn_blind (av := av) a U g mk ⟨q.1, q.2.1⟩).2, va_AO.moved (u := U) (U := U.calling g mk a) (Vm.Alike.refl U.vm) q.2.2⟩
theorem ct_intro {l : Launch} {y : MethodName} {wd wd' : List Cond} {rm : Room} {X : cx_G} {av : List Value} {ws : va_W} {Pw : va_W → Prop} {mc ms : Nat} {cc : ByteArray} {maxL : Nat} (hy : plainName y.cls = true) (hyn : y.name = "<init>") (hw : wd = Cond.code y cc maxL none :: wd') (hn : (lg_sl av).length ≤ maxL)
    (body : ∀ (p : Program) (e : Env) (s : State) (m : MethodId) (args : Array Value) (below : List Frame) (meth : Method) (c : Code) (A : Nat → Prop) (ls : Array Slot), p.tables.exec = Jvm.exec → c.code = cc → c.maxLocals = maxL → meth.sig.returnType = none → (∀ w ∈ wd, w.before args s = true) → s.vm.findClass y.cls = some m.cls → meth.locks = false → meth.name = "<init>" → cx_K X s → va_AO "LentRights$House" s → va_P X.1 vwCl ws s.heap → va_D A ws → va_S A s.heap s.heap [] → (∀ q : Nat, s.heap.size ≤ q → A q) → lv_has ls maxL (lv_args 0 av) → W p l e rm s m args below meth c s.heap [] 0 0 (ct_Z below X Pw A args s mc ms) (F0 m 0 ls [])) : Ct l y wd rm X av ws Pw mc ms := by
  intro sz
  refine Met.ofW (cc := cc) (maxL := maxL) (ret := none) hy hw ?_
  intro p e s m args below meth c s₁ B hml hv
  obtain ⟨rfl, ⟨hsz, hP, hK, hD0⟩, hAO⟩ := hv
  subst hsz
  have hown : s.vm.findClass y.cls = some m.cls := findClass_of_methodNamed B.named
  rw [lg_entry_eq]
  exact body p e s m _ below meth c _ _ B.exec B.bytes hml B.returns (atoms_spec (ws := wd) B.pre) hown B.notSynchronized ((name_of_methodNamed B.named B.method).1.trans hyn) hK hAO hP hD0.self va_S.rf (fun q h => Or.inr h) (lv_entry av hn)
variable {p : Program} {l : Launch} {e : Env} {R : Room} {s : State} {m : MethodId} {args : Array Value} {below : List Frame} {meth : Method} {c : Code} {H : Heap} {locs : List Loc} {cells slots : Nat} {Q : State → Prop}
variable {X : cx_G} {A : Nat → Prop} {ws : va_W} {pc : Nat} {ls : Array Slot} {cc : ByteArray}
theorem ct_vret {Pw : va_W → Prop} {mc ms : Nat} (hx : p.tables.exec = Jvm.exec) (hb : c.code = cc) (hr : meth.sig.returnType = none) (hlocks : meth.locks = false) (hpw : Pw ws) (hP : va_P X.1 vwCl ws H) (hD : va_D A ws) (hS : va_S A s.heap H locs) (hc : cells ≤ mc) (hs : slots ≤ ms) (hdg : decode cc pc = .ok (.return_, 1)) : W p l e R s m args below meth c H locs cells slots (ct_Z below X Pw A args s mc ms) (F0 m pc ls []) :=
  W.widen (k := mc) (n := ms) hc hs (W.vret hx hb hr (fun t ht hW => ⟨⟨rfl, ws, hpw, by rw [ht]; exact hP, hD⟩, hS.F ht⟩) hS.2.2 hdg hlocks)
theorem cx_uI {cA : ClassId} (hK : cx_K X s) (h : va_K X.1 vwCl (cx_t X ++ [(cA, .int)]) s) : cA = X.2.1 := by
  have h1 : s.vm.findClass ("[" ++ FieldType.int.toString) = some X.2.1 := (hK.1.2 0 (X.2.1, .int) rfl).2
  have h2 : s.vm.findClass ("[" ++ FieldType.int.toString) = some cA := (h.2 3 (cA, .int) rfl).2
  exact Option.some.inj (h2.symm.trans h1)
theorem cx_uH {cA : ClassId} (hK : cx_K X s) (h : va_K X.1 vwCl (cx_t X ++ [(cA, .object "LentRights$House")]) s) : cA = X.2.2.2 := by
  obtain ⟨k1, c1, -, -, -, h1⟩ := (hK.1.2 2 (X.2.2.2, .object "LentRights$House") rfl).2
  obtain ⟨k2, c2, -, -, -, h2⟩ := (h.2 3 (cA, .object "LentRights$House") rfl).2
  exact Option.some.inj (h2.symm.trans h1)
variable {y : MethodName} {bytes : ByteArray} {maxL nL n index : Nat} {wd : List Cond} {rm : Room} {Ts : List Cond} {own : String} {b : Addr} {As rest st0 : List Value} {H0 : Heap} {mc ms : Nat}
theorem fn_I {Pw : va_W → Prop} {e0 : va_E} {wr : va_W} (S : CallFix p m c cc nL s args Ts own) (hM : Ct l y wd rm X (Value.ref b :: As) [(b, e0)] Pw mc ms) (cw : CallB R s args own index y bytes maxL none wd rm mc ms n ∧ y.name = "<init>" ∧ (Cond.instanceMethod y).before args s = true)
    (hn : As.length = n) (hsize : ls.size = nL) (hst : st0 = As.reverse ++ .ref b :: rest) (hroom : (rest.map fun v => v.category).sum ≤ 8) (hdg : decode cc pc = .ok (.invokespecial index, 3))
    (hK : cx_K X s) (hAO : va_AO "LentRights$House" s) (hP : va_P X.1 vwCl (wr ++ [(b, e0)]) H) (hD : va_D A (wr ++ [(b, e0)])) (hS : va_S A H0 H locs) (hA : ∀ q : Nat, H0.size ≤ q → A q) (hfit : cells + mc ≤ R.cells ∧ slots + ms ≤ R.slots)
    (kk : ∀ (w : va_W) (H1 : Heap) (locs1 : List Loc), Pw w → va_P X.1 vwCl (wr ++ w) H1 → va_D A (wr ++ w) → va_S A H0 H1 locs1 → W p l e R s m args below meth c H1 locs1 (cells + mc) (slots + ms) Q (F0 m (pc + 3) ls rest)) : W p l e R s m args below meth c H locs cells slots Q (F0 m pc ls st0) := by
  subst hst
  have hlast : (wr ++ [(b, e0)])[wr.length]? = some (b, e0) := by rw [List.getElem?_append_right (Nat.le_refl _), Nat.sub_self]; rfl
  have hl : ∀ (k : Nat) (q : Nat × va_E), wr[k]? = some q → (wr ++ [(b, e0)])[k]? = some q := fun k q h => by rw [List.getElem?_append_left (List.getElem?_eq_some_iff.mp h).1]; exact h
  have hPr : va_P X.1 vwCl wr H := fun k q h => hP k q (hl k q h)
  have hDr : va_D A wr := ⟨fun i j x y hi hj hxy => hD.1 i j x y (hl i x hi) (hl j y hj) hxy, fun k q h => hD.2 k q (hl k q h)⟩
  have hPb : va_P X.1 vwCl [(b, e0)] H := fun k q h => by
    have hk : k < 1 := (List.getElem?_eq_some_iff.mp h).1
    have hk0 : k = 0 := by omega
    subst hk0
    cases h
    exact hP _ _ hlast
  have hDb : va_D (fun _ => True) [(b, e0)] := ⟨fun i j x y hi hj _ => by
    have h1 : i < 1 := (List.getElem?_eq_some_iff.mp hi).1
    have h2 : j < 1 := (List.getElem?_eq_some_iff.mp hj).1
    omega, fun _ _ _ => trivial⟩
  have hF : ∀ q, va_A [(b, e0)] H.size q → A q := fun q h => by
    rcases h with ⟨k, e, h⟩ | h
    · have hk : k < 1 := (List.getElem?_eq_some_iff.mp h).1
      have hk0 : k = 0 := by omega
      subst hk0
      cases h
      exact hD.2 _ _ hlast
    · exact hA q (Nat.le_trans hS.1 h)
  have hap : ∀ (k : Nat) (q : Nat × va_E), wr[k]? = some q → q.1 < H.size ∧ ¬ va_A [(b, e0)] H.size q.1 := fun k q h => by
    have hlt := (hPr k q h).lt
    refine ⟨hlt, fun z => ?_⟩
    rcases z with ⟨j, e, z⟩ | z
    · have hj : j < 1 := (List.getElem?_eq_some_iff.mp z).1
      have hj0 : j = 0 := by omega
      subst hj0
      have hqb : q.1 = b := (congrArg Prod.fst (Option.some.inj z)).symm
      have hk := hD.1 k wr.length q (b, e0) (hl k q h) hlast hqb
      have := (List.getElem?_eq_some_iff.mp h).1
      omega
    · omega
  intro T hT X0
  obtain ⟨v', st₀, t, T', L, h0, X', hL, e1, e2, ⟨⟨hv, w, hpw, hb, hd⟩, hz, hk⟩, st⟩ := va_runI (As := As) (rest := rest) (g := F0 m pc ls (As.reverse ++ .ref b :: rest)) S (hM H.size) cw ⟨ct_blind, fun U hU hW => ⟨rfl, ⟨by rw [hU], by rw [hU]; exact hPb, hK.warm hW, hDb⟩, va_AO.moved hW.alike hAO⟩⟩ rfl hn hsize rfl (lv_room hroom) hdg hfit T hT X0
  cases hv
  rw [h0] at hz hk
  rw [← e1] at hb hz hk
  have hP' : va_P X.1 vwCl (wr ++ w) T'.heap := va_P.app (fun k q h => (hPr k q h).kept (hk q.1 (hap k q h).1 (hap k q h).2)) hb
  have hD' : va_D A (wr ++ w) := va_D.app hDr (hd.weaken fun k q _ h => hF q.1 h) (fun i j x y hx hy hxy => (hap i x hx).2 (by rw [hxy]; exact hd.2 j y hy))
  obtain ⟨t2, a1, b1⟩ := kk w T'.heap (locs ++ L) hpw hP' hD'
    ⟨Nat.le_trans hS.1 hz, fun q h1 h2 => by rw [hk q (Nat.lt_of_lt_of_le h1 hS.1) (fun z => h2 (hF q z))]; exact hS.2.1 q h1 h2, fun q hq => by
      rcases List.mem_append.mp hq with h | h
      · exact hS.2.2 q h
      · exact hF _ (hL q h)⟩ T' rfl X'
  exact ⟨t2, st t2 a1, b1⟩
end CTB
set_option maxHeartbeats 4000000 in
set_option maxRecDepth 100000 in
theorem c_X3_init (l : Launch) (X : cx_G) (b : Nat) (lim col : Int32) (nn : Nat) (h1 : ¬ lim ≤ 0) (h2 : ¬ col ≤ 0) (h3 : ¬ lim * col < 0) (h4 : (lim * col).toNatClampNeg = nn) (h5 : nn ≤ 1000) : Ct l yX3_init wsX3_init ({ frames := 1, cells := 1, slots := nn, locals := 12 } : Room) X [.ref b, .int lim, .int col] [(b, .inr (3, [.int 0, .int 0, .null, .int 0]))] (fun w => ∃ q, w = wTb X b q lim col nn 0 (fun _ : Nat => (0 : Int32))) 1 nn := by
  refine ct_intro (cc := cX3_init) (maxL := 3) (by decide) rfl rfl (Nat.le_of_ble_eq_true rfl) ?_
  intro p e s m args below meth c A ls hx hb hml hr hts hown hlocks hin hK hAO hP hD hS hA hl
  have hown : s.vm.findClass RX3 = some m.cls := hown
  have hiX3 : ∀ w ∈ u_ws RX3 TX3 4, w ∈ wsX3_init := by decide +kernel
  have k9 := hts (.fieldLink RX3 9 "LentRights$Table" "limit" "I") (by decide +kernel)
  have k15 := hts (.fieldLink RX3 15 "LentRights$Table" "columns" "I") (by decide +kernel)
  have k18 := hts (.fieldLink RX3 18 "LentRights$Table" "cells" "[I") (by decide +kernel)
  have hl : lv_has ls 3 [(0, .ref b), (1, .int lim), (2, .int col)] := hl
  refine lv_aload_n hx hb dX3_init_0 rfl (lv_at hl 0 rfl) ?_
  refine W.objInit hx hb hown (hts (.methodLink RX3 3 objectInit) (by decide +kernel)) (hts (.instanceMethod objectInit) (by decide +kernel)) (hts (.code objectInit ⟨#[0xb1]⟩ 1 none) (by decide +kernel)) rfl (by rw [hml]; exact hl.1) rfl dX3_init_1 (Nat.le_of_ble_eq_true rfl) (Nat.le_of_ble_eq_true rfl) ?_
  refine W.eq (g2 := F0 m 4 ls []) rfl ?_
  refine lv_aload_n hx hb dX3_init_4 rfl (lv_at hl 0 rfl) ?_
  refine lv_iload_n hx hb dX3_init_5 rfl (lv_at hl 1 rfl) ?_
  refine va_putF (D := X.1) (ci := 3) (v := .int lim) (ty := .int) (C := RX3) (T := TX3) (N := 4) hx hb hts hiX3 tyX3 tyX3_ok nmX3 hown hK.1 hP hD hS 0 rfl rfl 0 (by decide) k9 (fun _ h9 => h9) rfl hin rfl (by decide +kernel) rfl rfl (Nat.le_of_ble_eq_true rfl) dX3_init_6 (fun H locs hP hD hS => ?_)
  have hP : va_P X.1 vwCl ([(b, .inr (3, [.int lim, .int 0, .null, .int 0]))]) H := hP
  have hD : va_D A ([(b, .inr (3, [.int lim, .int 0, .null, .int 0]))]) := hD
  refine lv_aload_n hx hb dX3_init_9 rfl (lv_at hl 0 rfl) ?_
  refine lv_iload_n hx hb dX3_init_10 rfl (lv_at hl 2 rfl) ?_
  refine va_putF (D := X.1) (ci := 3) (v := .int col) (ty := .int) (C := RX3) (T := TX3) (N := 4) hx hb hts hiX3 tyX3 tyX3_ok nmX3 hown hK.1 hP hD hS 0 rfl rfl 1 (by decide) k15 (fun _ h9 => h9) rfl hin rfl (by decide +kernel) rfl rfl (Nat.le_of_ble_eq_true rfl) dX3_init_11 (fun H locs hP hD hS => ?_)
  have hP : va_P X.1 vwCl ([(b, .inr (3, [.int lim, .int col, .null, .int 0]))]) H := hP
  have hD : va_D A ([(b, .inr (3, [.int lim, .int col, .null, .int 0]))]) := hD
  refine lv_aload_n hx hb dX3_init_14 rfl (lv_at hl 0 rfl) ?_
  refine lv_iload_n hx hb dX3_init_15 rfl (lv_at hl 1 rfl) ?_
  refine lv_if_le (tgt := 29) hx hb dX3_init_16 (by decide) (fun c9 => absurd c9 h1) (fun _ => ?_)
  refine lv_iload_n hx hb dX3_init_19 rfl (lv_at hl 2 rfl) ?_
  refine lv_if_le (tgt := 29) hx hb dX3_init_20 (by decide) (fun c9 => absurd c9 h2) (fun _ => ?_)
  refine lv_iload_n hx hb dX3_init_23 rfl (lv_at hl 1 rfl) ?_
  refine lv_iload_n hx hb dX3_init_24 rfl (lv_at hl 2 rfl) ?_
  refine lv_imul hx hb dX3_init_25 ?_
  refine lv_goto (tgt := 30) hx hb dX3_init_26 (by decide) ?_
  refine va_newa (atype := .int) (n := (lim * col)) (N' := nn) hx hb (hts (.arrayClass .int) (by decide +kernel)) rfl hK.1 hP hD hS hA (a0 := (nn, .inl (fun _ : Nat => (0 : Int32)))) (fun _ => rfl) h3 h4 (by show nn * 4 ≤ 536870912; omega) (by show 0 + 1 ≤ 1; omega) (by show 0 + nn ≤ nn; omega) dX3_init_30 (fun q_1 cA_2 H hK9 hP hD hS => ?_)
  obtain rfl := cx_uI hK hK9
  have hP : va_P X.1 vwCl ([(b, .inr (3, [.int lim, .int col, .null, .int 0]))] ++ [(q_1, .inl (X.2.1, nn, .inl (fun _ : Nat => (0 : Int32))))]) H := hP
  have hD : va_D A ([(b, .inr (3, [.int lim, .int col, .null, .int 0]))] ++ [(q_1, .inl (X.2.1, nn, .inl (fun _ : Nat => (0 : Int32))))]) := hD
  refine va_putF (D := X.1) (ci := 3) (v := .ref q_1) (ty := .array .int) (C := RX3) (T := TX3) (N := 4) hx hb hts hiX3 tyX3 tyX3_ok nmX3 hown hK.1 hP hD hS 0 rfl rfl 2 (by decide) k18 (fun _ h9 => h9) rfl hin rfl (by decide +kernel) rfl rfl (Nat.le_of_ble_eq_true rfl) dX3_init_32 (fun H locs hP hD hS => ?_)
  have hP : va_P X.1 vwCl ([(b, .inr (3, [.int lim, .int col, .ref q_1, .int 0]))] ++ [(q_1, .inl (X.2.1, nn, .inl (fun _ : Nat => (0 : Int32))))]) H := hP
  have hD : va_D A ([(b, .inr (3, [.int lim, .int col, .ref q_1, .int 0]))] ++ [(q_1, .inl (X.2.1, nn, .inl (fun _ : Nat => (0 : Int32))))]) := hD
  exact ct_vret hx hb hr hlocks ⟨q_1, rfl⟩ hP hD hS (by show 0 + 1 ≤ 1; omega) (by show 0 + nn ≤ nn; omega) dX3_init_35
def f_X2_init_L78 : Nat → Int32 → Int32 → (Nat → Int32) →  Option (Int32 × (Nat → Int32))
  | 0, _, _, _ => none
  | k_ + 1, x1, rP, fP =>
    if (10 : Int32) ≤ x1 then
    (some (rP, fP))
    else
    (bd2 (f_X3_addRow (10 : Int32) rP) (fun r_2 rP_3 =>
    bd (f_X3_put (2 : Int32) 20 x1 (0 : Int32) (60 : Int32) rP_3 fP) (fun fP_5 =>
    bd (f_X3_put (2 : Int32) 20 x1 (1 : Int32) (60 : Int32) rP_3 fP_5) (fun fP_7 =>
    nm (x1 + (1 : Int32)) (fun v_9 =>
    f_X2_init_L78 k_ v_9 rP_3 fP_7)))))
def f_X2_init : Option (Int32 × (Nat → Int32)) :=
  bd2 (f_X2_init_L78 FU (0 : Int32) (0 : Int32) (fun _ : Nat => (0 : Int32))) (fun rP_10 fP_11 =>
  some (rP_10, fP_11))
set_option maxHeartbeats 4000000 in
set_option maxRecDepth 100000 in
theorem c_X2_init (l : Launch) (X : cx_G) (b : Nat) (rP' : Int32) (fP' : Nat → Int32) (hf : f_X2_init = some (rP', fP')) : Ct l yX2_init wsX2_init ({ frames := 2, cells := 10, slots := 412, locals := 34 } : Room) X [.ref b] [(b, .inr (2, [.null, .null, .null, .null, .null, .int 0, .int 0, .int 0, .int 0]))] (fun w => ∃ h : Nat → Nat, h 0 = b ∧ w = wHo X h rP' fP' (0 : Int32) (fun _ : Nat => (0 : Int32)) (0 : Int32) (fun _ : Nat => (0 : Int32)) (0 : Int32) (fun _ : Nat => (0 : Int32)) (0 : Int32) (fun _ : Nat => (0 : Int32)) (0 : Int32) (0 : Int32) (0 : Int32) (0 : Int32)) 10 412 := by
  refine ct_intro (cc := cX2_init) (maxL := 2) (by decide) rfl rfl (Nat.le_of_ble_eq_true rfl) ?_
  intro p e s m args below meth c A ls hx hb hml hr hts hown hlocks hin hK hAO hP hD hS hA hl
  have hown : s.vm.findClass RX2 = some m.cls := hown
  have hiX2 : ∀ w ∈ u_ws RX2 TX2 9, w ∈ wsX2_init := by decide +kernel
  have hiX3 : ∀ w ∈ u_ws RX3 TX3 4, w ∈ wsX2_init := by decide +kernel
  have k14 := hts (.fieldLink RX2 14 "LentRights$House" "persons" "LLentRights$Table;") (by decide +kernel)
  have k20 := hts (.fieldLink RX2 20 "LentRights$House" "things" "LLentRights$Table;") (by decide +kernel)
  have k23 := hts (.fieldLink RX2 23 "LentRights$House" "grants" "LLentRights$Table;") (by decide +kernel)
  have k26 := hts (.fieldLink RX2 26 "LentRights$House" "log" "LLentRights$Table;") (by decide +kernel)
  have k29 := hts (.fieldLink RX2 29 "LentRights$House" "held" "LLentRights$Table;") (by decide +kernel)
  have hl : lv_has ls 2 [(0, .ref b)] := hl
  refine lv_aload_n hx hb dX2_init_0 rfl (lv_at hl 0 rfl) ?_
  refine W.objInit hx hb hown (hts (.methodLink RX2 3 objectInit) (by decide +kernel)) (hts (.instanceMethod objectInit) (by decide +kernel)) (hts (.code objectInit ⟨#[0xb1]⟩ 1 none) (by decide +kernel)) rfl (by rw [hml]; exact hl.1) rfl dX2_init_1 (Nat.le_of_ble_eq_true rfl) (Nat.le_of_ble_eq_true rfl) ?_
  refine W.eq (g2 := F0 m 4 ls []) rfl ?_
  refine lv_aload_n hx hb dX2_init_4 rfl (lv_at hl 0 rfl) ?_
  refine va_new (ci := 3) (fs := [.int 0, .int 0, .null, .int 0]) (C := RX3) (T := TX3) (N := 4) hx hb hts hiX3 tyX3 tyX3_ok hown (hts (.classLink RX2 9 RX3) (by decide +kernel)) (hts (.instantiable RX3 4) (by decide +kernel)) (hts (.initialized RX3) (by decide +kernel)) hK.1 hP hD hS hA rfl (by intro j hj; match j, hj with | 0, _ => rfl | 1, _ => rfl | 2, _ => rfl | 3, _ => rfl) (Nat.le_of_ble_eq_true rfl) (Nat.le_of_ble_eq_true rfl) dX2_init_5 (fun q_1 H hP hD hS => ?_)
  have hP : va_P X.1 vwCl ([(b, .inr (2, [.null, .null, .null, .null, .null, .int 0, .int 0, .int 0, .int 0]))] ++ [(q_1, .inr (3, [.int 0, .int 0, .null, .int 0]))]) H := hP
  have hD : va_D A ([(b, .inr (2, [.null, .null, .null, .null, .null, .int 0, .int 0, .int 0, .int 0]))] ++ [(q_1, .inr (3, [.int 0, .int 0, .null, .int 0]))]) := hD
  refine lv_dup hx hb dX2_init_8 rfl ?_
  refine lv_bipush (v := 10) hx hb dX2_init_9 (by decide) ?_
  refine lv_iconst (v := 2) hx hb dX2_init_11 (by decide) ?_
  refine fn_I (As := [.int (10 : Int32), .int (2 : Int32)]) (rest := [.ref q_1, .ref b]) (nL := 2) (wr := [(b, .inr (2, [.null, .null, .null, .null, .null, .int 0, .int 0, .int 0, .int 0]))]) ⟨hx, hb, hml, hown, hts⟩ (c_X3_init l X q_1 (10 : Int32) (2 : Int32) 20 (by decide) (by decide) (by decide) (by decide) (by decide)) (cwI 2 hts gX2_init_X3_init rfl rfl rfl (hts (.initialized RX3) (by decide +kernel)) (hts (.methodLink RX2 11 yX3_init) (by decide +kernel)) (hts (.instanceMethod yX3_init) (by decide +kernel)) rfl (by decide +kernel) ⟨Nat.le_of_ble_eq_true rfl, Nat.le_of_ble_eq_true rfl⟩) rfl hl.1 rfl (Nat.le_of_ble_eq_true rfl) dX2_init_12 hK hAO hP hD hS hA ⟨Nat.le_of_ble_eq_true rfl, Nat.le_of_ble_eq_true rfl⟩ (fun w_3 H locs hw_2 hP hD hS => ?_)
  obtain ⟨c_4, rfl⟩ := hw_2
  have hP : va_P X.1 vwCl ([(b, .inr (2, [.null, .null, .null, .null, .null, .int 0, .int 0, .int 0, .int 0]))] ++ (wTb X q_1 c_4 (10 : Int32) (2 : Int32) 20 (0 : Int32) (fun _ : Nat => (0 : Int32)))) H := hP
  have hD : va_D A ([(b, .inr (2, [.null, .null, .null, .null, .null, .int 0, .int 0, .int 0, .int 0]))] ++ (wTb X q_1 c_4 (10 : Int32) (2 : Int32) 20 (0 : Int32) (fun _ : Nat => (0 : Int32)))) := hD
  refine va_putF (D := X.1) (ci := 2) (v := .ref q_1) (ty := .object "LentRights$Table") (C := RX2) (T := TX2) (N := 9) hx hb hts hiX2 tyX2 tyX2_ok nmX2 hown hK.1 hP hD hS 0 rfl rfl 0 (by decide) k14 (fun _ h9 => h9) rfl hin rfl (by decide +kernel) rfl rfl (Nat.le_of_ble_eq_true rfl) dX2_init_15 (fun H locs hP hD hS => ?_)
  have hP : va_P X.1 vwCl ([(b, .inr (2, [.ref q_1, .null, .null, .null, .null, .int 0, .int 0, .int 0, .int 0]))] ++ (wTb X q_1 c_4 (10 : Int32) (2 : Int32) 20 (0 : Int32) (fun _ : Nat => (0 : Int32)))) H := hP
  have hD : va_D A ([(b, .inr (2, [.ref q_1, .null, .null, .null, .null, .int 0, .int 0, .int 0, .int 0]))] ++ (wTb X q_1 c_4 (10 : Int32) (2 : Int32) 20 (0 : Int32) (fun _ : Nat => (0 : Int32)))) := hD
  refine lv_aload_n hx hb dX2_init_18 rfl (lv_at hl 0 rfl) ?_
  refine va_new (ci := 3) (fs := [.int 0, .int 0, .null, .int 0]) (C := RX3) (T := TX3) (N := 4) hx hb hts hiX3 tyX3 tyX3_ok hown (hts (.classLink RX2 9 RX3) (by decide +kernel)) (hts (.instantiable RX3 4) (by decide +kernel)) (hts (.initialized RX3) (by decide +kernel)) hK.1 hP hD hS hA rfl (by intro j hj; match j, hj with | 0, _ => rfl | 1, _ => rfl | 2, _ => rfl | 3, _ => rfl) (Nat.le_of_ble_eq_true rfl) (Nat.le_of_ble_eq_true rfl) dX2_init_19 (fun q_5 H hP hD hS => ?_)
  have hP : va_P X.1 vwCl (([(b, .inr (2, [.ref q_1, .null, .null, .null, .null, .int 0, .int 0, .int 0, .int 0]))] ++ (wTb X q_1 c_4 (10 : Int32) (2 : Int32) 20 (0 : Int32) (fun _ : Nat => (0 : Int32)))) ++ [(q_5, .inr (3, [.int 0, .int 0, .null, .int 0]))]) H := hP
  have hD : va_D A (([(b, .inr (2, [.ref q_1, .null, .null, .null, .null, .int 0, .int 0, .int 0, .int 0]))] ++ (wTb X q_1 c_4 (10 : Int32) (2 : Int32) 20 (0 : Int32) (fun _ : Nat => (0 : Int32)))) ++ [(q_5, .inr (3, [.int 0, .int 0, .null, .int 0]))]) := hD
  refine lv_dup hx hb dX2_init_22 rfl ?_
  refine lv_bipush (v := 8) hx hb dX2_init_23 (by decide) ?_
  refine lv_iconst (v := 2) hx hb dX2_init_25 (by decide) ?_
  refine fn_I (As := [.int (8 : Int32), .int (2 : Int32)]) (rest := [.ref q_5, .ref b]) (nL := 2) (wr := ([(b, .inr (2, [.ref q_1, .null, .null, .null, .null, .int 0, .int 0, .int 0, .int 0]))] ++ (wTb X q_1 c_4 (10 : Int32) (2 : Int32) 20 (0 : Int32) (fun _ : Nat => (0 : Int32))))) ⟨hx, hb, hml, hown, hts⟩ (c_X3_init l X q_5 (8 : Int32) (2 : Int32) 16 (by decide) (by decide) (by decide) (by decide) (by decide)) (cwI 2 hts gX2_init_X3_init rfl rfl rfl (hts (.initialized RX3) (by decide +kernel)) (hts (.methodLink RX2 11 yX3_init) (by decide +kernel)) (hts (.instanceMethod yX3_init) (by decide +kernel)) rfl (by decide +kernel) ⟨Nat.le_of_ble_eq_true rfl, Nat.le_of_ble_eq_true rfl⟩) rfl hl.1 rfl (Nat.le_of_ble_eq_true rfl) dX2_init_26 hK hAO hP hD hS hA ⟨Nat.le_of_ble_eq_true rfl, Nat.le_of_ble_eq_true rfl⟩ (fun w_7 H locs hw_6 hP hD hS => ?_)
  obtain ⟨c_8, rfl⟩ := hw_6
  have hP : va_P X.1 vwCl (([(b, .inr (2, [.ref q_1, .null, .null, .null, .null, .int 0, .int 0, .int 0, .int 0]))] ++ (wTb X q_1 c_4 (10 : Int32) (2 : Int32) 20 (0 : Int32) (fun _ : Nat => (0 : Int32)))) ++ (wTb X q_5 c_8 (8 : Int32) (2 : Int32) 16 (0 : Int32) (fun _ : Nat => (0 : Int32)))) H := hP
  have hD : va_D A (([(b, .inr (2, [.ref q_1, .null, .null, .null, .null, .int 0, .int 0, .int 0, .int 0]))] ++ (wTb X q_1 c_4 (10 : Int32) (2 : Int32) 20 (0 : Int32) (fun _ : Nat => (0 : Int32)))) ++ (wTb X q_5 c_8 (8 : Int32) (2 : Int32) 16 (0 : Int32) (fun _ : Nat => (0 : Int32)))) := hD
  refine va_putF (D := X.1) (ci := 2) (v := .ref q_5) (ty := .object "LentRights$Table") (C := RX2) (T := TX2) (N := 9) hx hb hts hiX2 tyX2 tyX2_ok nmX2 hown hK.1 hP hD hS 0 rfl rfl 1 (by decide) k20 (fun _ h9 => h9) rfl hin rfl (by decide +kernel) rfl rfl (Nat.le_of_ble_eq_true rfl) dX2_init_29 (fun H locs hP hD hS => ?_)
  have hP : va_P X.1 vwCl (([(b, .inr (2, [.ref q_1, .ref q_5, .null, .null, .null, .int 0, .int 0, .int 0, .int 0]))] ++ (wTb X q_1 c_4 (10 : Int32) (2 : Int32) 20 (0 : Int32) (fun _ : Nat => (0 : Int32)))) ++ (wTb X q_5 c_8 (8 : Int32) (2 : Int32) 16 (0 : Int32) (fun _ : Nat => (0 : Int32)))) H := hP
  have hD : va_D A (([(b, .inr (2, [.ref q_1, .ref q_5, .null, .null, .null, .int 0, .int 0, .int 0, .int 0]))] ++ (wTb X q_1 c_4 (10 : Int32) (2 : Int32) 20 (0 : Int32) (fun _ : Nat => (0 : Int32)))) ++ (wTb X q_5 c_8 (8 : Int32) (2 : Int32) 16 (0 : Int32) (fun _ : Nat => (0 : Int32)))) := hD
  refine lv_aload_n hx hb dX2_init_32 rfl (lv_at hl 0 rfl) ?_
  refine va_new (ci := 3) (fs := [.int 0, .int 0, .null, .int 0]) (C := RX3) (T := TX3) (N := 4) hx hb hts hiX3 tyX3 tyX3_ok hown (hts (.classLink RX2 9 RX3) (by decide +kernel)) (hts (.instantiable RX3 4) (by decide +kernel)) (hts (.initialized RX3) (by decide +kernel)) hK.1 hP hD hS hA rfl (by intro j hj; match j, hj with | 0, _ => rfl | 1, _ => rfl | 2, _ => rfl | 3, _ => rfl) (Nat.le_of_ble_eq_true rfl) (Nat.le_of_ble_eq_true rfl) dX2_init_33 (fun q_9 H hP hD hS => ?_)
  have hP : va_P X.1 vwCl ((([(b, .inr (2, [.ref q_1, .ref q_5, .null, .null, .null, .int 0, .int 0, .int 0, .int 0]))] ++ (wTb X q_1 c_4 (10 : Int32) (2 : Int32) 20 (0 : Int32) (fun _ : Nat => (0 : Int32)))) ++ (wTb X q_5 c_8 (8 : Int32) (2 : Int32) 16 (0 : Int32) (fun _ : Nat => (0 : Int32)))) ++ [(q_9, .inr (3, [.int 0, .int 0, .null, .int 0]))]) H := hP
  have hD : va_D A ((([(b, .inr (2, [.ref q_1, .ref q_5, .null, .null, .null, .int 0, .int 0, .int 0, .int 0]))] ++ (wTb X q_1 c_4 (10 : Int32) (2 : Int32) 20 (0 : Int32) (fun _ : Nat => (0 : Int32)))) ++ (wTb X q_5 c_8 (8 : Int32) (2 : Int32) 16 (0 : Int32) (fun _ : Nat => (0 : Int32)))) ++ [(q_9, .inr (3, [.int 0, .int 0, .null, .int 0]))]) := hD
  refine lv_dup hx hb dX2_init_36 rfl ?_
  refine lv_bipush (v := 40) hx hb dX2_init_37 (by decide) ?_
  refine lv_bipush (v := 6) hx hb dX2_init_39 (by decide) ?_
  refine fn_I (As := [.int (40 : Int32), .int (6 : Int32)]) (rest := [.ref q_9, .ref b]) (nL := 2) (wr := (([(b, .inr (2, [.ref q_1, .ref q_5, .null, .null, .null, .int 0, .int 0, .int 0, .int 0]))] ++ (wTb X q_1 c_4 (10 : Int32) (2 : Int32) 20 (0 : Int32) (fun _ : Nat => (0 : Int32)))) ++ (wTb X q_5 c_8 (8 : Int32) (2 : Int32) 16 (0 : Int32) (fun _ : Nat => (0 : Int32))))) ⟨hx, hb, hml, hown, hts⟩ (c_X3_init l X q_9 (40 : Int32) (6 : Int32) 240 (by decide) (by decide) (by decide) (by decide) (by decide)) (cwI 2 hts gX2_init_X3_init rfl rfl rfl (hts (.initialized RX3) (by decide +kernel)) (hts (.methodLink RX2 11 yX3_init) (by decide +kernel)) (hts (.instanceMethod yX3_init) (by decide +kernel)) rfl (by decide +kernel) ⟨Nat.le_of_ble_eq_true rfl, Nat.le_of_ble_eq_true rfl⟩) rfl hl.1 rfl (Nat.le_of_ble_eq_true rfl) dX2_init_41 hK hAO hP hD hS hA ⟨Nat.le_of_ble_eq_true rfl, Nat.le_of_ble_eq_true rfl⟩ (fun w_11 H locs hw_10 hP hD hS => ?_)
  obtain ⟨c_12, rfl⟩ := hw_10
  have hP : va_P X.1 vwCl ((([(b, .inr (2, [.ref q_1, .ref q_5, .null, .null, .null, .int 0, .int 0, .int 0, .int 0]))] ++ (wTb X q_1 c_4 (10 : Int32) (2 : Int32) 20 (0 : Int32) (fun _ : Nat => (0 : Int32)))) ++ (wTb X q_5 c_8 (8 : Int32) (2 : Int32) 16 (0 : Int32) (fun _ : Nat => (0 : Int32)))) ++ (wTb X q_9 c_12 (40 : Int32) (6 : Int32) 240 (0 : Int32) (fun _ : Nat => (0 : Int32)))) H := hP
  have hD : va_D A ((([(b, .inr (2, [.ref q_1, .ref q_5, .null, .null, .null, .int 0, .int 0, .int 0, .int 0]))] ++ (wTb X q_1 c_4 (10 : Int32) (2 : Int32) 20 (0 : Int32) (fun _ : Nat => (0 : Int32)))) ++ (wTb X q_5 c_8 (8 : Int32) (2 : Int32) 16 (0 : Int32) (fun _ : Nat => (0 : Int32)))) ++ (wTb X q_9 c_12 (40 : Int32) (6 : Int32) 240 (0 : Int32) (fun _ : Nat => (0 : Int32)))) := hD
  refine va_putF (D := X.1) (ci := 2) (v := .ref q_9) (ty := .object "LentRights$Table") (C := RX2) (T := TX2) (N := 9) hx hb hts hiX2 tyX2 tyX2_ok nmX2 hown hK.1 hP hD hS 0 rfl rfl 2 (by decide) k23 (fun _ h9 => h9) rfl hin rfl (by decide +kernel) rfl rfl (Nat.le_of_ble_eq_true rfl) dX2_init_44 (fun H locs hP hD hS => ?_)
  have hP : va_P X.1 vwCl ((([(b, .inr (2, [.ref q_1, .ref q_5, .ref q_9, .null, .null, .int 0, .int 0, .int 0, .int 0]))] ++ (wTb X q_1 c_4 (10 : Int32) (2 : Int32) 20 (0 : Int32) (fun _ : Nat => (0 : Int32)))) ++ (wTb X q_5 c_8 (8 : Int32) (2 : Int32) 16 (0 : Int32) (fun _ : Nat => (0 : Int32)))) ++ (wTb X q_9 c_12 (40 : Int32) (6 : Int32) 240 (0 : Int32) (fun _ : Nat => (0 : Int32)))) H := hP
  have hD : va_D A ((([(b, .inr (2, [.ref q_1, .ref q_5, .ref q_9, .null, .null, .int 0, .int 0, .int 0, .int 0]))] ++ (wTb X q_1 c_4 (10 : Int32) (2 : Int32) 20 (0 : Int32) (fun _ : Nat => (0 : Int32)))) ++ (wTb X q_5 c_8 (8 : Int32) (2 : Int32) 16 (0 : Int32) (fun _ : Nat => (0 : Int32)))) ++ (wTb X q_9 c_12 (40 : Int32) (6 : Int32) 240 (0 : Int32) (fun _ : Nat => (0 : Int32)))) := hD
  refine lv_aload_n hx hb dX2_init_47 rfl (lv_at hl 0 rfl) ?_
  refine va_new (ci := 3) (fs := [.int 0, .int 0, .null, .int 0]) (C := RX3) (T := TX3) (N := 4) hx hb hts hiX3 tyX3 tyX3_ok hown (hts (.classLink RX2 9 RX3) (by decide +kernel)) (hts (.instantiable RX3 4) (by decide +kernel)) (hts (.initialized RX3) (by decide +kernel)) hK.1 hP hD hS hA rfl (by intro j hj; match j, hj with | 0, _ => rfl | 1, _ => rfl | 2, _ => rfl | 3, _ => rfl) (Nat.le_of_ble_eq_true rfl) (Nat.le_of_ble_eq_true rfl) dX2_init_48 (fun q_13 H hP hD hS => ?_)
  have hP : va_P X.1 vwCl (((([(b, .inr (2, [.ref q_1, .ref q_5, .ref q_9, .null, .null, .int 0, .int 0, .int 0, .int 0]))] ++ (wTb X q_1 c_4 (10 : Int32) (2 : Int32) 20 (0 : Int32) (fun _ : Nat => (0 : Int32)))) ++ (wTb X q_5 c_8 (8 : Int32) (2 : Int32) 16 (0 : Int32) (fun _ : Nat => (0 : Int32)))) ++ (wTb X q_9 c_12 (40 : Int32) (6 : Int32) 240 (0 : Int32) (fun _ : Nat => (0 : Int32)))) ++ [(q_13, .inr (3, [.int 0, .int 0, .null, .int 0]))]) H := hP
  have hD : va_D A (((([(b, .inr (2, [.ref q_1, .ref q_5, .ref q_9, .null, .null, .int 0, .int 0, .int 0, .int 0]))] ++ (wTb X q_1 c_4 (10 : Int32) (2 : Int32) 20 (0 : Int32) (fun _ : Nat => (0 : Int32)))) ++ (wTb X q_5 c_8 (8 : Int32) (2 : Int32) 16 (0 : Int32) (fun _ : Nat => (0 : Int32)))) ++ (wTb X q_9 c_12 (40 : Int32) (6 : Int32) 240 (0 : Int32) (fun _ : Nat => (0 : Int32)))) ++ [(q_13, .inr (3, [.int 0, .int 0, .null, .int 0]))]) := hD
  refine lv_dup hx hb dX2_init_51 rfl ?_
  refine lv_bipush (v := 12) hx hb dX2_init_52 (by decide) ?_
  refine lv_iconst (v := 3) hx hb dX2_init_54 (by decide) ?_
  refine fn_I (As := [.int (12 : Int32), .int (3 : Int32)]) (rest := [.ref q_13, .ref b]) (nL := 2) (wr := ((([(b, .inr (2, [.ref q_1, .ref q_5, .ref q_9, .null, .null, .int 0, .int 0, .int 0, .int 0]))] ++ (wTb X q_1 c_4 (10 : Int32) (2 : Int32) 20 (0 : Int32) (fun _ : Nat => (0 : Int32)))) ++ (wTb X q_5 c_8 (8 : Int32) (2 : Int32) 16 (0 : Int32) (fun _ : Nat => (0 : Int32)))) ++ (wTb X q_9 c_12 (40 : Int32) (6 : Int32) 240 (0 : Int32) (fun _ : Nat => (0 : Int32))))) ⟨hx, hb, hml, hown, hts⟩ (c_X3_init l X q_13 (12 : Int32) (3 : Int32) 36 (by decide) (by decide) (by decide) (by decide) (by decide)) (cwI 2 hts gX2_init_X3_init rfl rfl rfl (hts (.initialized RX3) (by decide +kernel)) (hts (.methodLink RX2 11 yX3_init) (by decide +kernel)) (hts (.instanceMethod yX3_init) (by decide +kernel)) rfl (by decide +kernel) ⟨Nat.le_of_ble_eq_true rfl, Nat.le_of_ble_eq_true rfl⟩) rfl hl.1 rfl (Nat.le_of_ble_eq_true rfl) dX2_init_55 hK hAO hP hD hS hA ⟨Nat.le_of_ble_eq_true rfl, Nat.le_of_ble_eq_true rfl⟩ (fun w_15 H locs hw_14 hP hD hS => ?_)
  obtain ⟨c_16, rfl⟩ := hw_14
  have hP : va_P X.1 vwCl (((([(b, .inr (2, [.ref q_1, .ref q_5, .ref q_9, .null, .null, .int 0, .int 0, .int 0, .int 0]))] ++ (wTb X q_1 c_4 (10 : Int32) (2 : Int32) 20 (0 : Int32) (fun _ : Nat => (0 : Int32)))) ++ (wTb X q_5 c_8 (8 : Int32) (2 : Int32) 16 (0 : Int32) (fun _ : Nat => (0 : Int32)))) ++ (wTb X q_9 c_12 (40 : Int32) (6 : Int32) 240 (0 : Int32) (fun _ : Nat => (0 : Int32)))) ++ (wTb X q_13 c_16 (12 : Int32) (3 : Int32) 36 (0 : Int32) (fun _ : Nat => (0 : Int32)))) H := hP
  have hD : va_D A (((([(b, .inr (2, [.ref q_1, .ref q_5, .ref q_9, .null, .null, .int 0, .int 0, .int 0, .int 0]))] ++ (wTb X q_1 c_4 (10 : Int32) (2 : Int32) 20 (0 : Int32) (fun _ : Nat => (0 : Int32)))) ++ (wTb X q_5 c_8 (8 : Int32) (2 : Int32) 16 (0 : Int32) (fun _ : Nat => (0 : Int32)))) ++ (wTb X q_9 c_12 (40 : Int32) (6 : Int32) 240 (0 : Int32) (fun _ : Nat => (0 : Int32)))) ++ (wTb X q_13 c_16 (12 : Int32) (3 : Int32) 36 (0 : Int32) (fun _ : Nat => (0 : Int32)))) := hD
  refine va_putF (D := X.1) (ci := 2) (v := .ref q_13) (ty := .object "LentRights$Table") (C := RX2) (T := TX2) (N := 9) hx hb hts hiX2 tyX2 tyX2_ok nmX2 hown hK.1 hP hD hS 0 rfl rfl 3 (by decide) k26 (fun _ h9 => h9) rfl hin rfl (by decide +kernel) rfl rfl (Nat.le_of_ble_eq_true rfl) dX2_init_58 (fun H locs hP hD hS => ?_)
  have hP : va_P X.1 vwCl (((([(b, .inr (2, [.ref q_1, .ref q_5, .ref q_9, .ref q_13, .null, .int 0, .int 0, .int 0, .int 0]))] ++ (wTb X q_1 c_4 (10 : Int32) (2 : Int32) 20 (0 : Int32) (fun _ : Nat => (0 : Int32)))) ++ (wTb X q_5 c_8 (8 : Int32) (2 : Int32) 16 (0 : Int32) (fun _ : Nat => (0 : Int32)))) ++ (wTb X q_9 c_12 (40 : Int32) (6 : Int32) 240 (0 : Int32) (fun _ : Nat => (0 : Int32)))) ++ (wTb X q_13 c_16 (12 : Int32) (3 : Int32) 36 (0 : Int32) (fun _ : Nat => (0 : Int32)))) H := hP
  have hD : va_D A (((([(b, .inr (2, [.ref q_1, .ref q_5, .ref q_9, .ref q_13, .null, .int 0, .int 0, .int 0, .int 0]))] ++ (wTb X q_1 c_4 (10 : Int32) (2 : Int32) 20 (0 : Int32) (fun _ : Nat => (0 : Int32)))) ++ (wTb X q_5 c_8 (8 : Int32) (2 : Int32) 16 (0 : Int32) (fun _ : Nat => (0 : Int32)))) ++ (wTb X q_9 c_12 (40 : Int32) (6 : Int32) 240 (0 : Int32) (fun _ : Nat => (0 : Int32)))) ++ (wTb X q_13 c_16 (12 : Int32) (3 : Int32) 36 (0 : Int32) (fun _ : Nat => (0 : Int32)))) := hD
  refine lv_aload_n hx hb dX2_init_61 rfl (lv_at hl 0 rfl) ?_
  refine va_new (ci := 3) (fs := [.int 0, .int 0, .null, .int 0]) (C := RX3) (T := TX3) (N := 4) hx hb hts hiX3 tyX3 tyX3_ok hown (hts (.classLink RX2 9 RX3) (by decide +kernel)) (hts (.instantiable RX3 4) (by decide +kernel)) (hts (.initialized RX3) (by decide +kernel)) hK.1 hP hD hS hA rfl (by intro j hj; match j, hj with | 0, _ => rfl | 1, _ => rfl | 2, _ => rfl | 3, _ => rfl) (Nat.le_of_ble_eq_true rfl) (Nat.le_of_ble_eq_true rfl) dX2_init_62 (fun q_17 H hP hD hS => ?_)
  have hP : va_P X.1 vwCl ((((([(b, .inr (2, [.ref q_1, .ref q_5, .ref q_9, .ref q_13, .null, .int 0, .int 0, .int 0, .int 0]))] ++ (wTb X q_1 c_4 (10 : Int32) (2 : Int32) 20 (0 : Int32) (fun _ : Nat => (0 : Int32)))) ++ (wTb X q_5 c_8 (8 : Int32) (2 : Int32) 16 (0 : Int32) (fun _ : Nat => (0 : Int32)))) ++ (wTb X q_9 c_12 (40 : Int32) (6 : Int32) 240 (0 : Int32) (fun _ : Nat => (0 : Int32)))) ++ (wTb X q_13 c_16 (12 : Int32) (3 : Int32) 36 (0 : Int32) (fun _ : Nat => (0 : Int32)))) ++ [(q_17, .inr (3, [.int 0, .int 0, .null, .int 0]))]) H := hP
  have hD : va_D A ((((([(b, .inr (2, [.ref q_1, .ref q_5, .ref q_9, .ref q_13, .null, .int 0, .int 0, .int 0, .int 0]))] ++ (wTb X q_1 c_4 (10 : Int32) (2 : Int32) 20 (0 : Int32) (fun _ : Nat => (0 : Int32)))) ++ (wTb X q_5 c_8 (8 : Int32) (2 : Int32) 16 (0 : Int32) (fun _ : Nat => (0 : Int32)))) ++ (wTb X q_9 c_12 (40 : Int32) (6 : Int32) 240 (0 : Int32) (fun _ : Nat => (0 : Int32)))) ++ (wTb X q_13 c_16 (12 : Int32) (3 : Int32) 36 (0 : Int32) (fun _ : Nat => (0 : Int32)))) ++ [(q_17, .inr (3, [.int 0, .int 0, .null, .int 0]))]) := hD
  refine lv_dup hx hb dX2_init_65 rfl ?_
  refine lv_bipush (v := 8) hx hb dX2_init_66 (by decide) ?_
  refine lv_bipush (v := 10) hx hb dX2_init_68 (by decide) ?_
  refine fn_I (As := [.int (8 : Int32), .int (10 : Int32)]) (rest := [.ref q_17, .ref b]) (nL := 2) (wr := (((([(b, .inr (2, [.ref q_1, .ref q_5, .ref q_9, .ref q_13, .null, .int 0, .int 0, .int 0, .int 0]))] ++ (wTb X q_1 c_4 (10 : Int32) (2 : Int32) 20 (0 : Int32) (fun _ : Nat => (0 : Int32)))) ++ (wTb X q_5 c_8 (8 : Int32) (2 : Int32) 16 (0 : Int32) (fun _ : Nat => (0 : Int32)))) ++ (wTb X q_9 c_12 (40 : Int32) (6 : Int32) 240 (0 : Int32) (fun _ : Nat => (0 : Int32)))) ++ (wTb X q_13 c_16 (12 : Int32) (3 : Int32) 36 (0 : Int32) (fun _ : Nat => (0 : Int32))))) ⟨hx, hb, hml, hown, hts⟩ (c_X3_init l X q_17 (8 : Int32) (10 : Int32) 80 (by decide) (by decide) (by decide) (by decide) (by decide)) (cwI 2 hts gX2_init_X3_init rfl rfl rfl (hts (.initialized RX3) (by decide +kernel)) (hts (.methodLink RX2 11 yX3_init) (by decide +kernel)) (hts (.instanceMethod yX3_init) (by decide +kernel)) rfl (by decide +kernel) ⟨Nat.le_of_ble_eq_true rfl, Nat.le_of_ble_eq_true rfl⟩) rfl hl.1 rfl (Nat.le_of_ble_eq_true rfl) dX2_init_70 hK hAO hP hD hS hA ⟨Nat.le_of_ble_eq_true rfl, Nat.le_of_ble_eq_true rfl⟩ (fun w_19 H locs hw_18 hP hD hS => ?_)
  obtain ⟨c_20, rfl⟩ := hw_18
  have hP : va_P X.1 vwCl ((((([(b, .inr (2, [.ref q_1, .ref q_5, .ref q_9, .ref q_13, .null, .int 0, .int 0, .int 0, .int 0]))] ++ (wTb X q_1 c_4 (10 : Int32) (2 : Int32) 20 (0 : Int32) (fun _ : Nat => (0 : Int32)))) ++ (wTb X q_5 c_8 (8 : Int32) (2 : Int32) 16 (0 : Int32) (fun _ : Nat => (0 : Int32)))) ++ (wTb X q_9 c_12 (40 : Int32) (6 : Int32) 240 (0 : Int32) (fun _ : Nat => (0 : Int32)))) ++ (wTb X q_13 c_16 (12 : Int32) (3 : Int32) 36 (0 : Int32) (fun _ : Nat => (0 : Int32)))) ++ (wTb X q_17 c_20 (8 : Int32) (10 : Int32) 80 (0 : Int32) (fun _ : Nat => (0 : Int32)))) H := hP
  have hD : va_D A ((((([(b, .inr (2, [.ref q_1, .ref q_5, .ref q_9, .ref q_13, .null, .int 0, .int 0, .int 0, .int 0]))] ++ (wTb X q_1 c_4 (10 : Int32) (2 : Int32) 20 (0 : Int32) (fun _ : Nat => (0 : Int32)))) ++ (wTb X q_5 c_8 (8 : Int32) (2 : Int32) 16 (0 : Int32) (fun _ : Nat => (0 : Int32)))) ++ (wTb X q_9 c_12 (40 : Int32) (6 : Int32) 240 (0 : Int32) (fun _ : Nat => (0 : Int32)))) ++ (wTb X q_13 c_16 (12 : Int32) (3 : Int32) 36 (0 : Int32) (fun _ : Nat => (0 : Int32)))) ++ (wTb X q_17 c_20 (8 : Int32) (10 : Int32) 80 (0 : Int32) (fun _ : Nat => (0 : Int32)))) := hD
  refine va_putF (D := X.1) (ci := 2) (v := .ref q_17) (ty := .object "LentRights$Table") (C := RX2) (T := TX2) (N := 9) hx hb hts hiX2 tyX2 tyX2_ok nmX2 hown hK.1 hP hD hS 0 rfl rfl 4 (by decide) k29 (fun _ h9 => h9) rfl hin rfl (by decide +kernel) rfl rfl (Nat.le_of_ble_eq_true rfl) dX2_init_73 (fun H locs hP hD hS => ?_)
  have hP : va_P X.1 vwCl ((((([(b, .inr (2, [.ref q_1, .ref q_5, .ref q_9, .ref q_13, .ref q_17, .int 0, .int 0, .int 0, .int 0]))] ++ (wTb X q_1 c_4 (10 : Int32) (2 : Int32) 20 (0 : Int32) (fun _ : Nat => (0 : Int32)))) ++ (wTb X q_5 c_8 (8 : Int32) (2 : Int32) 16 (0 : Int32) (fun _ : Nat => (0 : Int32)))) ++ (wTb X q_9 c_12 (40 : Int32) (6 : Int32) 240 (0 : Int32) (fun _ : Nat => (0 : Int32)))) ++ (wTb X q_13 c_16 (12 : Int32) (3 : Int32) 36 (0 : Int32) (fun _ : Nat => (0 : Int32)))) ++ (wTb X q_17 c_20 (8 : Int32) (10 : Int32) 80 (0 : Int32) (fun _ : Nat => (0 : Int32)))) H := hP
  have hD : va_D A ((((([(b, .inr (2, [.ref q_1, .ref q_5, .ref q_9, .ref q_13, .ref q_17, .int 0, .int 0, .int 0, .int 0]))] ++ (wTb X q_1 c_4 (10 : Int32) (2 : Int32) 20 (0 : Int32) (fun _ : Nat => (0 : Int32)))) ++ (wTb X q_5 c_8 (8 : Int32) (2 : Int32) 16 (0 : Int32) (fun _ : Nat => (0 : Int32)))) ++ (wTb X q_9 c_12 (40 : Int32) (6 : Int32) 240 (0 : Int32) (fun _ : Nat => (0 : Int32)))) ++ (wTb X q_13 c_16 (12 : Int32) (3 : Int32) 36 (0 : Int32) (fun _ : Nat => (0 : Int32)))) ++ (wTb X q_17 c_20 (8 : Int32) (10 : Int32) 80 (0 : Int32) (fun _ : Nat => (0 : Int32)))) := hD
  obtain ⟨h, e0, e1, f1, e2, f2, e3, f3, e4, f4, e5, f5⟩ : ∃ h : Nat → Nat, h 0 = b ∧ h 1 = q_1 ∧ h 2 = c_4 ∧ h 3 = q_5 ∧ h 4 = c_8 ∧ h 5 = q_9 ∧ h 6 = c_12 ∧ h 7 = q_13 ∧ h 8 = c_16 ∧ h 9 = q_17 ∧ h 10 = c_20 := ⟨fun i => [b, q_1, c_4, q_5, c_8, q_9, c_12, q_13, c_16, q_17, c_20].getD i 0, rfl, rfl, rfl, rfl, rfl, rfl, rfl, rfl, rfl, rfl, rfl⟩
  subst e0
  subst e1 f1
  subst e2 f2
  subst e3 f3
  subst e4 f4
  subst e5 f5
  have hP : va_P X.1 vwCl (wHo X h (0 : Int32) (fun _ : Nat => (0 : Int32)) (0 : Int32) (fun _ : Nat => (0 : Int32)) (0 : Int32) (fun _ : Nat => (0 : Int32)) (0 : Int32) (fun _ : Nat => (0 : Int32)) (0 : Int32) (fun _ : Nat => (0 : Int32)) (0 : Int32) (0 : Int32) (0 : Int32) (0 : Int32)) H := hP
  have hD0 : va_D A (wHo X h (0 : Int32) (fun _ : Nat => (0 : Int32)) (0 : Int32) (fun _ : Nat => (0 : Int32)) (0 : Int32) (fun _ : Nat => (0 : Int32)) (0 : Int32) (fun _ : Nat => (0 : Int32)) (0 : Int32) (fun _ : Nat => (0 : Int32)) (0 : Int32) (0 : Int32) (0 : Int32) (0 : Int32)) := hD
  refine W.widen (k := 10) (n := 412) (Nat.le_of_ble_eq_true rfl) (Nat.le_of_ble_eq_true rfl) ?_
  have loop_78 : ∀ (Q : State → Prop) (rPo : Int32) (fPo : (Nat → Int32)), (∀ (H : Heap) (locs : List Loc) (ls : Array Slot), va_P X.1 vwCl (wHo X h rPo fPo (0 : Int32) (fun _ : Nat => (0 : Int32)) (0 : Int32) (fun _ : Nat => (0 : Int32)) (0 : Int32) (fun _ : Nat => (0 : Int32)) (0 : Int32) (fun _ : Nat => (0 : Int32)) (0 : Int32) (0 : Int32) (0 : Int32) (0 : Int32)) H → va_S A s.heap H locs → lv_has ls 2 [] → W p l e ({ frames := 2, cells := 10, slots := 412, locals := 34 } : Room) s m args below meth c H locs 10 412 Q (F0 m 120 ls [])) → ∀ (k_ : Nat) (x1 : Int32) (rP : Int32) (fP : (Nat → Int32)) (H : Heap) (locs : List Loc) (ls : Array Slot), f_X2_init_L78 k_ x1 rP fP = some (rPo, fPo) → va_P X.1 vwCl (wHo X h rP fP (0 : Int32) (fun _ : Nat => (0 : Int32)) (0 : Int32) (fun _ : Nat => (0 : Int32)) (0 : Int32) (fun _ : Nat => (0 : Int32)) (0 : Int32) (fun _ : Nat => (0 : Int32)) (0 : Int32) (0 : Int32) (0 : Int32) (0 : Int32)) H → va_S A s.heap H locs → lv_has ls 2 [(0, .ref (h 0)), (1, .int x1)] → W p l e ({ frames := 2, cells := 10, slots := 412, locals := 34 } : Room) s m args below meth c H locs 10 412 Q (F0 m 78 ls []) := by
    intro Q rPo fPo kx k_
    induction k_ with
    | zero => intro x1 rP fP H locs ls hf; exact nomatch (show (none : Option (Int32 × (Nat → Int32))) = some _ from hf)
    | succ k_ ih =>
      intro x1 rP fP H locs ls hf hP hS hl
      unfold f_X2_init_L78 at hf
      refine lv_iload_n hx hb dX2_init_78 rfl (lv_at hl 1 rfl) ?_
      refine lv_bipush (v := 10) hx hb dX2_init_79 (by decide) ?_
      refine lv_icmp_ge (tgt := 120) hx hb dX2_init_81 (by decide) (fun c_1 => ?_) (fun c_1 => ?_)
      · replace hf := fp_t c_1 hf
        cases hf
        exact kx _ _ _ hP hS (lv_sub hl [] rfl)
      · replace hf := fp_f c_1 hf
        refine lv_aload_n hx hb dX2_init_84 rfl (lv_at hl 0 rfl) ?_
        refine va_get (D := X.1) (ci := 2) (v := .ref (h 1)) (C := RX2) (T := TX2) (N := 9) hx hb hts hiX2 hown hK.1 hP 0 rfl rfl 0 (by decide) k14 (fun _ h9 => h9) rfl dX2_init_85 ?_
        obtain ⟨r_2, rP_3, hc_4, hf⟩ := bd2_of hf
        refine fn_V (v := some (.int r_2)) (As := []) (rest := []) (st1 := [.int r_2]) (ws' := (wHo X h rP_3 fP (0 : Int32) (fun _ : Nat => (0 : Int32)) (0 : Int32) (fun _ : Nat => (0 : Int32)) (0 : Int32) (fun _ : Nat => (0 : Int32)) (0 : Int32) (fun _ : Nat => (0 : Int32)) (0 : Int32) (0 : Int32) (0 : Int32) (0 : Int32))) (nL := 2) ⟨hx, hb, hml, hown, hts⟩ (c_X3_addRow l X (h 1) (h 2) (10 : Int32) (2 : Int32) 20 rP fP r_2 rP_3 hc_4) (cwV 0 hts gX2_init_X3_addRow rfl rfl rfl (by decide +kernel) ⟨Nat.le_of_ble_eq_true rfl, Nat.le_of_ble_eq_true rfl⟩) 3 rfl rfl rfl rfl hl.1 rfl (Nat.le_of_ble_eq_true rfl) dX2_init_88 hK hP (hD0.addr rfl) hS hA [1, 2] rfl rfl rfl rfl ⟨Nat.le_of_ble_eq_true rfl, Nat.le_of_ble_eq_true rfl⟩ (fun H locs hP hD hS => ?_)
        refine lv_pop hx hb dX2_init_91 rfl ?_
        refine lv_aload_n hx hb dX2_init_92 rfl (lv_at hl 0 rfl) ?_
        refine va_get (D := X.1) (ci := 2) (v := .ref (h 1)) (C := RX2) (T := TX2) (N := 9) hx hb hts hiX2 hown hK.1 hP 0 rfl rfl 0 (by decide) k14 (fun _ h9 => h9) rfl dX2_init_93 ?_
        refine lv_iload_n hx hb dX2_init_96 rfl (lv_at hl 1 rfl) ?_
        refine lv_iconst (v := 0) hx hb dX2_init_97 (by decide) ?_
        refine lv_bipush (v := 60) hx hb dX2_init_98 (by decide) ?_
        obtain ⟨fP_5, hc_6, hf⟩ := bd_of hf
        refine fn_V (v := none) (As := [.int x1, .int (0 : Int32), .int (60 : Int32)]) (rest := []) (st1 := []) (ws' := (wHo X h rP_3 fP_5 (0 : Int32) (fun _ : Nat => (0 : Int32)) (0 : Int32) (fun _ : Nat => (0 : Int32)) (0 : Int32) (fun _ : Nat => (0 : Int32)) (0 : Int32) (fun _ : Nat => (0 : Int32)) (0 : Int32) (0 : Int32) (0 : Int32) (0 : Int32))) (nL := 2) ⟨hx, hb, hml, hown, hts⟩ (c_X3_put l X (h 1) (h 2) (10 : Int32) (2 : Int32) 20 rP_3 fP x1 (0 : Int32) (60 : Int32) fP_5 hc_6) (cwV 3 hts gX2_init_X3_put rfl rfl rfl (by decide +kernel) ⟨Nat.le_of_ble_eq_true rfl, Nat.le_of_ble_eq_true rfl⟩) 3 rfl rfl rfl rfl hl.1 rfl (Nat.le_of_ble_eq_true rfl) dX2_init_100 hK hP (hD0.addr rfl) hS hA [1, 2] rfl rfl rfl rfl ⟨Nat.le_of_ble_eq_true rfl, Nat.le_of_ble_eq_true rfl⟩ (fun H locs hP hD hS => ?_)
        refine lv_aload_n hx hb dX2_init_103 rfl (lv_at hl 0 rfl) ?_
        refine va_get (D := X.1) (ci := 2) (v := .ref (h 1)) (C := RX2) (T := TX2) (N := 9) hx hb hts hiX2 hown hK.1 hP 0 rfl rfl 0 (by decide) k14 (fun _ h9 => h9) rfl dX2_init_104 ?_
        refine lv_iload_n hx hb dX2_init_107 rfl (lv_at hl 1 rfl) ?_
        refine lv_iconst (v := 1) hx hb dX2_init_108 (by decide) ?_
        refine lv_bipush (v := 60) hx hb dX2_init_109 (by decide) ?_
        obtain ⟨fP_7, hc_8, hf⟩ := bd_of hf
        refine fn_V (v := none) (As := [.int x1, .int (1 : Int32), .int (60 : Int32)]) (rest := []) (st1 := []) (ws' := (wHo X h rP_3 fP_7 (0 : Int32) (fun _ : Nat => (0 : Int32)) (0 : Int32) (fun _ : Nat => (0 : Int32)) (0 : Int32) (fun _ : Nat => (0 : Int32)) (0 : Int32) (fun _ : Nat => (0 : Int32)) (0 : Int32) (0 : Int32) (0 : Int32) (0 : Int32))) (nL := 2) ⟨hx, hb, hml, hown, hts⟩ (c_X3_put l X (h 1) (h 2) (10 : Int32) (2 : Int32) 20 rP_3 fP_5 x1 (1 : Int32) (60 : Int32) fP_7 hc_8) (cwV 3 hts gX2_init_X3_put rfl rfl rfl (by decide +kernel) ⟨Nat.le_of_ble_eq_true rfl, Nat.le_of_ble_eq_true rfl⟩) 3 rfl rfl rfl rfl hl.1 rfl (Nat.le_of_ble_eq_true rfl) dX2_init_111 hK hP (hD0.addr rfl) hS hA [1, 2] rfl rfl rfl rfl ⟨Nat.le_of_ble_eq_true rfl, Nat.le_of_ble_eq_true rfl⟩ (fun H locs hP hD hS => ?_)
        obtain ⟨v_9, ev_9⟩ : ∃ y : Int32, y = x1 + (1 : Int32) := ⟨_, rfl⟩
        replace hf := nm_of ev_9 hf
        refine lv_iinc (v := v_9) (lv' := [(1, .int v_9), (0, .ref (h 0))]) hx hb dX2_init_114 hl (k := 1) rfl (by rw [ev_9]; rfl) (by decide) rfl (fun ls hl => ?_)
        refine lv_goto (tgt := 78) hx hb dX2_init_117 (by decide) ?_
        exact ih v_9 rP_3 fP_7 _ _ _ hf hP hS (lv_sub hl [1, 0] rfl)
  unfold f_X2_init at hf
  refine lv_iconst (v := 0) hx hb dX2_init_76 (by decide) ?_
  refine lv_istore_n (lv' := [(1, .int (0 : Int32)), (0, .ref (h 0))]) hx hb dX2_init_77 rfl hl (by decide) rfl (fun ls hl => ?_)
  obtain ⟨rP_10, fP_11, hL_12, hf⟩ := bd2_of hf
  refine loop_78 _ rP_10 fP_11 (fun H locs ls hP hS hl => ?_) FU (0 : Int32) (0 : Int32) (fun _ : Nat => (0 : Int32)) _ _ _ hL_12 hP hS (lv_sub hl [1, 0] rfl)
  cases hf
  exact ct_vret hx hb hr hlocks ⟨h, rfl, rfl⟩ hP (hD0.addr rfl) hS (Nat.le_of_ble_eq_true rfl) (Nat.le_of_ble_eq_true rfl) dX2_init_120
def f_X0_init : Option (Int32) :=
  bd2 (f_X3_addRow (1 : Int32) (0 : Int32)) (fun r_1 rS_2 =>
  some rS_2)
set_option maxHeartbeats 4000000 in
set_option maxRecDepth 100000 in
theorem c_X0_init (l : Launch) (X : cx_G) (b : Nat) (rS' : Int32) (hf : f_X0_init = some rS') : Ct l yX0_init wsX0_init ({ frames := 2, cells := 2, slots := 14, locals := 34 } : Room) X [.ref b] [(b, .inr (0, [.null]))] (fun w => ∃ ch : Nat → Nat, ch 0 = b ∧ w = (wCh X ch rS' (fun _ : Nat => (0 : Int32)))) 2 14 := by
  refine ct_intro (cc := cX0_init) (maxL := 1) (by decide) rfl rfl (Nat.le_of_ble_eq_true rfl) ?_
  intro p e s m args below meth c A ls hx hb hml hr hts hown hlocks hin hK hAO hP hD hS hA hl
  have hown : s.vm.findClass RX0 = some m.cls := hown
  have hiX0 : ∀ w ∈ u_ws RX0 TX0 1, w ∈ wsX0_init := by decide +kernel
  have hiX3 : ∀ w ∈ u_ws RX3 TX3 4, w ∈ wsX0_init := by decide +kernel
  have k14 := hts (.fieldLink RX0 14 "LentRights$Chains" "steps" "LLentRights$Table;") (by decide +kernel)
  have hl : lv_has ls 1 [(0, .ref b)] := hl
  refine lv_aload_n hx hb dX0_init_0 rfl (lv_at hl 0 rfl) ?_
  refine W.objInit hx hb hown (hts (.methodLink RX0 3 objectInit) (by decide +kernel)) (hts (.instanceMethod objectInit) (by decide +kernel)) (hts (.code objectInit ⟨#[0xb1]⟩ 1 none) (by decide +kernel)) rfl (by rw [hml]; exact hl.1) rfl dX0_init_1 (Nat.le_of_ble_eq_true rfl) (Nat.le_of_ble_eq_true rfl) ?_
  refine W.eq (g2 := F0 m 4 ls []) rfl ?_
  refine lv_aload_n hx hb dX0_init_4 rfl (lv_at hl 0 rfl) ?_
  refine va_new (ci := 3) (fs := [.int 0, .int 0, .null, .int 0]) (C := RX3) (T := TX3) (N := 4) hx hb hts hiX3 tyX3 tyX3_ok hown (hts (.classLink RX0 9 RX3) (by decide +kernel)) (hts (.instantiable RX3 4) (by decide +kernel)) (hts (.initialized RX3) (by decide +kernel)) hK.1 hP hD hS hA rfl (by intro j hj; match j, hj with | 0, _ => rfl | 1, _ => rfl | 2, _ => rfl | 3, _ => rfl) (Nat.le_of_ble_eq_true rfl) (Nat.le_of_ble_eq_true rfl) dX0_init_5 (fun q_1 H hP hD hS => ?_)
  have hP : va_P X.1 vwCl ([(b, .inr (0, [.null]))] ++ [(q_1, .inr (3, [.int 0, .int 0, .null, .int 0]))]) H := hP
  have hD : va_D A ([(b, .inr (0, [.null]))] ++ [(q_1, .inr (3, [.int 0, .int 0, .null, .int 0]))]) := hD
  refine lv_dup hx hb dX0_init_8 rfl ?_
  refine lv_iconst (v := 1) hx hb dX0_init_9 (by decide) ?_
  refine lv_bipush (v := 10) hx hb dX0_init_10 (by decide) ?_
  refine fn_I (As := [.int (1 : Int32), .int (10 : Int32)]) (rest := [.ref q_1, .ref b]) (nL := 1) (wr := [(b, .inr (0, [.null]))]) ⟨hx, hb, hml, hown, hts⟩ (c_X3_init l X q_1 (1 : Int32) (10 : Int32) 10 (by decide) (by decide) (by decide) (by decide) (by decide)) (cwI 2 hts gX0_init_X3_init rfl rfl rfl (hts (.initialized RX3) (by decide +kernel)) (hts (.methodLink RX0 11 yX3_init) (by decide +kernel)) (hts (.instanceMethod yX3_init) (by decide +kernel)) rfl (by decide +kernel) ⟨Nat.le_of_ble_eq_true rfl, Nat.le_of_ble_eq_true rfl⟩) rfl hl.1 rfl (Nat.le_of_ble_eq_true rfl) dX0_init_12 hK hAO hP hD hS hA ⟨Nat.le_of_ble_eq_true rfl, Nat.le_of_ble_eq_true rfl⟩ (fun w_3 H locs hw_2 hP hD hS => ?_)
  obtain ⟨c_4, rfl⟩ := hw_2
  have hP : va_P X.1 vwCl ([(b, .inr (0, [.null]))] ++ (wTb X q_1 c_4 (1 : Int32) (10 : Int32) 10 (0 : Int32) (fun _ : Nat => (0 : Int32)))) H := hP
  have hD : va_D A ([(b, .inr (0, [.null]))] ++ (wTb X q_1 c_4 (1 : Int32) (10 : Int32) 10 (0 : Int32) (fun _ : Nat => (0 : Int32)))) := hD
  refine va_putF (D := X.1) (ci := 0) (v := .ref q_1) (ty := .object "LentRights$Table") (C := RX0) (T := TX0) (N := 1) hx hb hts hiX0 tyX0 tyX0_ok nmX0 hown hK.1 hP hD hS 0 rfl rfl 0 (by decide) k14 (fun _ h9 => h9) rfl hin rfl (by decide +kernel) rfl rfl (Nat.le_of_ble_eq_true rfl) dX0_init_15 (fun H locs hP hD hS => ?_)
  have hP : va_P X.1 vwCl ([(b, .inr (0, [.ref q_1]))] ++ (wTb X q_1 c_4 (1 : Int32) (10 : Int32) 10 (0 : Int32) (fun _ : Nat => (0 : Int32)))) H := hP
  have hD : va_D A ([(b, .inr (0, [.ref q_1]))] ++ (wTb X q_1 c_4 (1 : Int32) (10 : Int32) 10 (0 : Int32) (fun _ : Nat => (0 : Int32)))) := hD
  obtain ⟨ch, e0, e1, e2⟩ : ∃ ch : Nat → Nat, ch 0 = b ∧ ch 1 = q_1 ∧ ch 2 = c_4 := ⟨fun i => [b, q_1, c_4].getD i 0, rfl, rfl, rfl⟩
  subst e0
  subst e1
  subst e2
  have hP : va_P X.1 vwCl (wCh X ch (0 : Int32) (fun _ : Nat => (0 : Int32))) H := hP
  have hD0 : va_D A (wCh X ch (0 : Int32) (fun _ : Nat => (0 : Int32))) := hD
  refine W.widen (k := 2) (n := 14) (Nat.le_of_ble_eq_true rfl) (Nat.le_of_ble_eq_true rfl) ?_
  unfold f_X0_init at hf
  refine lv_aload_n hx hb dX0_init_18 rfl (lv_at hl 0 rfl) ?_
  refine va_get (D := X.1) (ci := 0) (v := .ref (ch 1)) (C := RX0) (T := TX0) (N := 1) hx hb hts hiX0 hown hK.1 hP 0 rfl rfl 0 (by decide) k14 (fun _ h9 => h9) rfl dX0_init_19 ?_
  obtain ⟨r_1, rS_2, hc_3, hf⟩ := bd2_of hf
  refine fn_V (v := some (.int r_1)) (As := []) (rest := []) (st1 := [.int r_1]) (ws' := (wCh X ch rS_2 (fun _ : Nat => (0 : Int32)))) (nL := 1) ⟨hx, hb, hml, hown, hts⟩ (c_X3_addRow l X (ch 1) (ch 2) (1 : Int32) (10 : Int32) 10 (0 : Int32) (fun _ : Nat => (0 : Int32)) r_1 rS_2 hc_3) (cwV 0 hts gX0_init_X3_addRow rfl rfl rfl (by decide +kernel) ⟨Nat.le_of_ble_eq_true rfl, Nat.le_of_ble_eq_true rfl⟩) 3 rfl rfl rfl rfl hl.1 rfl (Nat.le_of_ble_eq_true rfl) dX0_init_22 hK hP (hD0.addr rfl) hS hA [1, 2] rfl rfl rfl rfl ⟨Nat.le_of_ble_eq_true rfl, Nat.le_of_ble_eq_true rfl⟩ (fun H locs hP hD hS => ?_)
  refine lv_pop hx hb dX0_init_25 rfl ?_
  cases hf
  exact ct_vret hx hb hr hlocks ⟨ch, rfl, rfl⟩ hP (hD0.addr rfl) hS (Nat.le_of_ble_eq_true rfl) (Nat.le_of_ble_eq_true rfl) dX0_init_26
set_option maxHeartbeats 4000000 in
set_option maxRecDepth 100000 in
theorem c_X4_init (l : Launch) (X : cx_G) (b : Nat) : Ct l yX4_init wsX4_init ({ frames := 2, cells := 4, slots := 708, locals := 34 } : Room) X [.ref b] [(b, .inr (4, [.null, .null, .int 0, .int 0]))] (fun w => ∃ tx : Nat → Nat, tx 0 = b ∧ w = wTx X tx (0 : Int32) (fun _ : Nat => (0 : Int32)) (0 : Int32) (fun _ : Nat => (0 : Int32)) (0 : Int32) (-1 : Int32)) 4 708 := by
  refine ct_intro (cc := cX4_init) (maxL := 1) (by decide) rfl rfl (Nat.le_of_ble_eq_true rfl) ?_
  intro p e s m args below meth c A ls hx hb hml hr hts hown hlocks hin hK hAO hP hD hS hA hl
  have hown : s.vm.findClass RX4 = some m.cls := hown
  have hiX3 : ∀ w ∈ u_ws RX3 TX3 4, w ∈ wsX4_init := by decide +kernel
  have hiX4 : ∀ w ∈ u_ws RX4 TX4 4, w ∈ wsX4_init := by decide +kernel
  have k14 := hts (.fieldLink RX4 14 "LentRights$Text" "bytes" "LLentRights$Table;") (by decide +kernel)
  have k20 := hts (.fieldLink RX4 20 "LentRights$Text" "orders" "LLentRights$Table;") (by decide +kernel)
  have k23 := hts (.fieldLink RX4 23 "LentRights$Text" "fault" "I") (by decide +kernel)
  have hl : lv_has ls 1 [(0, .ref b)] := hl
  refine lv_aload_n hx hb dX4_init_0 rfl (lv_at hl 0 rfl) ?_
  refine W.objInit hx hb hown (hts (.methodLink RX4 3 objectInit) (by decide +kernel)) (hts (.instanceMethod objectInit) (by decide +kernel)) (hts (.code objectInit ⟨#[0xb1]⟩ 1 none) (by decide +kernel)) rfl (by rw [hml]; exact hl.1) rfl dX4_init_1 (Nat.le_of_ble_eq_true rfl) (Nat.le_of_ble_eq_true rfl) ?_
  refine W.eq (g2 := F0 m 4 ls []) rfl ?_
  refine lv_aload_n hx hb dX4_init_4 rfl (lv_at hl 0 rfl) ?_
  refine va_new (ci := 3) (fs := [.int 0, .int 0, .null, .int 0]) (C := RX3) (T := TX3) (N := 4) hx hb hts hiX3 tyX3 tyX3_ok hown (hts (.classLink RX4 9 RX3) (by decide +kernel)) (hts (.instantiable RX3 4) (by decide +kernel)) (hts (.initialized RX3) (by decide +kernel)) hK.1 hP hD hS hA rfl (by intro j hj; match j, hj with | 0, _ => rfl | 1, _ => rfl | 2, _ => rfl | 3, _ => rfl) (Nat.le_of_ble_eq_true rfl) (Nat.le_of_ble_eq_true rfl) dX4_init_5 (fun q_1 H hP hD hS => ?_)
  have hP : va_P X.1 vwCl ([(b, .inr (4, [.null, .null, .int 0, .int 0]))] ++ [(q_1, .inr (3, [.int 0, .int 0, .null, .int 0]))]) H := hP
  have hD : va_D A ([(b, .inr (4, [.null, .null, .int 0, .int 0]))] ++ [(q_1, .inr (3, [.int 0, .int 0, .null, .int 0]))]) := hD
  refine lv_dup hx hb dX4_init_8 rfl ?_
  refine lv_bipush (v := 100) hx hb dX4_init_9 (by decide) ?_
  refine lv_iconst (v := 1) hx hb dX4_init_11 (by decide) ?_
  refine fn_I (As := [.int (100 : Int32), .int (1 : Int32)]) (rest := [.ref q_1, .ref b]) (nL := 1) (wr := [(b, .inr (4, [.null, .null, .int 0, .int 0]))]) ⟨hx, hb, hml, hown, hts⟩ (c_X3_init l X q_1 (100 : Int32) (1 : Int32) 100 (by decide) (by decide) (by decide) (by decide) (by decide)) (cwI 2 hts gX4_init_X3_init rfl rfl rfl (hts (.initialized RX3) (by decide +kernel)) (hts (.methodLink RX4 11 yX3_init) (by decide +kernel)) (hts (.instanceMethod yX3_init) (by decide +kernel)) rfl (by decide +kernel) ⟨Nat.le_of_ble_eq_true rfl, Nat.le_of_ble_eq_true rfl⟩) rfl hl.1 rfl (Nat.le_of_ble_eq_true rfl) dX4_init_12 hK hAO hP hD hS hA ⟨Nat.le_of_ble_eq_true rfl, Nat.le_of_ble_eq_true rfl⟩ (fun w_3 H locs hw_2 hP hD hS => ?_)
  obtain ⟨c_4, rfl⟩ := hw_2
  have hP : va_P X.1 vwCl ([(b, .inr (4, [.null, .null, .int 0, .int 0]))] ++ (wTb X q_1 c_4 (100 : Int32) (1 : Int32) 100 (0 : Int32) (fun _ : Nat => (0 : Int32)))) H := hP
  have hD : va_D A ([(b, .inr (4, [.null, .null, .int 0, .int 0]))] ++ (wTb X q_1 c_4 (100 : Int32) (1 : Int32) 100 (0 : Int32) (fun _ : Nat => (0 : Int32)))) := hD
  refine va_putF (D := X.1) (ci := 4) (v := .ref q_1) (ty := .object "LentRights$Table") (C := RX4) (T := TX4) (N := 4) hx hb hts hiX4 tyX4 tyX4_ok nmX4 hown hK.1 hP hD hS 0 rfl rfl 0 (by decide) k14 (fun _ h9 => h9) rfl hin rfl (by decide +kernel) rfl rfl (Nat.le_of_ble_eq_true rfl) dX4_init_15 (fun H locs hP hD hS => ?_)
  have hP : va_P X.1 vwCl ([(b, .inr (4, [.ref q_1, .null, .int 0, .int 0]))] ++ (wTb X q_1 c_4 (100 : Int32) (1 : Int32) 100 (0 : Int32) (fun _ : Nat => (0 : Int32)))) H := hP
  have hD : va_D A ([(b, .inr (4, [.ref q_1, .null, .int 0, .int 0]))] ++ (wTb X q_1 c_4 (100 : Int32) (1 : Int32) 100 (0 : Int32) (fun _ : Nat => (0 : Int32)))) := hD
  refine lv_aload_n hx hb dX4_init_18 rfl (lv_at hl 0 rfl) ?_
  refine va_new (ci := 3) (fs := [.int 0, .int 0, .null, .int 0]) (C := RX3) (T := TX3) (N := 4) hx hb hts hiX3 tyX3 tyX3_ok hown (hts (.classLink RX4 9 RX3) (by decide +kernel)) (hts (.instantiable RX3 4) (by decide +kernel)) (hts (.initialized RX3) (by decide +kernel)) hK.1 hP hD hS hA rfl (by intro j hj; match j, hj with | 0, _ => rfl | 1, _ => rfl | 2, _ => rfl | 3, _ => rfl) (Nat.le_of_ble_eq_true rfl) (Nat.le_of_ble_eq_true rfl) dX4_init_19 (fun q_5 H hP hD hS => ?_)
  have hP : va_P X.1 vwCl (([(b, .inr (4, [.ref q_1, .null, .int 0, .int 0]))] ++ (wTb X q_1 c_4 (100 : Int32) (1 : Int32) 100 (0 : Int32) (fun _ : Nat => (0 : Int32)))) ++ [(q_5, .inr (3, [.int 0, .int 0, .null, .int 0]))]) H := hP
  have hD : va_D A (([(b, .inr (4, [.ref q_1, .null, .int 0, .int 0]))] ++ (wTb X q_1 c_4 (100 : Int32) (1 : Int32) 100 (0 : Int32) (fun _ : Nat => (0 : Int32)))) ++ [(q_5, .inr (3, [.int 0, .int 0, .null, .int 0]))]) := hD
  refine lv_dup hx hb dX4_init_22 rfl ?_
  refine lv_bipush (v := 100) hx hb dX4_init_23 (by decide) ?_
  refine lv_bipush (v := 6) hx hb dX4_init_25 (by decide) ?_
  refine fn_I (As := [.int (100 : Int32), .int (6 : Int32)]) (rest := [.ref q_5, .ref b]) (nL := 1) (wr := ([(b, .inr (4, [.ref q_1, .null, .int 0, .int 0]))] ++ (wTb X q_1 c_4 (100 : Int32) (1 : Int32) 100 (0 : Int32) (fun _ : Nat => (0 : Int32))))) ⟨hx, hb, hml, hown, hts⟩ (c_X3_init l X q_5 (100 : Int32) (6 : Int32) 600 (by decide) (by decide) (by decide) (by decide) (by decide)) (cwI 2 hts gX4_init_X3_init rfl rfl rfl (hts (.initialized RX3) (by decide +kernel)) (hts (.methodLink RX4 11 yX3_init) (by decide +kernel)) (hts (.instanceMethod yX3_init) (by decide +kernel)) rfl (by decide +kernel) ⟨Nat.le_of_ble_eq_true rfl, Nat.le_of_ble_eq_true rfl⟩) rfl hl.1 rfl (Nat.le_of_ble_eq_true rfl) dX4_init_27 hK hAO hP hD hS hA ⟨Nat.le_of_ble_eq_true rfl, Nat.le_of_ble_eq_true rfl⟩ (fun w_7 H locs hw_6 hP hD hS => ?_)
  obtain ⟨c_8, rfl⟩ := hw_6
  have hP : va_P X.1 vwCl (([(b, .inr (4, [.ref q_1, .null, .int 0, .int 0]))] ++ (wTb X q_1 c_4 (100 : Int32) (1 : Int32) 100 (0 : Int32) (fun _ : Nat => (0 : Int32)))) ++ (wTb X q_5 c_8 (100 : Int32) (6 : Int32) 600 (0 : Int32) (fun _ : Nat => (0 : Int32)))) H := hP
  have hD : va_D A (([(b, .inr (4, [.ref q_1, .null, .int 0, .int 0]))] ++ (wTb X q_1 c_4 (100 : Int32) (1 : Int32) 100 (0 : Int32) (fun _ : Nat => (0 : Int32)))) ++ (wTb X q_5 c_8 (100 : Int32) (6 : Int32) 600 (0 : Int32) (fun _ : Nat => (0 : Int32)))) := hD
  refine va_putF (D := X.1) (ci := 4) (v := .ref q_5) (ty := .object "LentRights$Table") (C := RX4) (T := TX4) (N := 4) hx hb hts hiX4 tyX4 tyX4_ok nmX4 hown hK.1 hP hD hS 0 rfl rfl 1 (by decide) k20 (fun _ h9 => h9) rfl hin rfl (by decide +kernel) rfl rfl (Nat.le_of_ble_eq_true rfl) dX4_init_30 (fun H locs hP hD hS => ?_)
  have hP : va_P X.1 vwCl (([(b, .inr (4, [.ref q_1, .ref q_5, .int 0, .int 0]))] ++ (wTb X q_1 c_4 (100 : Int32) (1 : Int32) 100 (0 : Int32) (fun _ : Nat => (0 : Int32)))) ++ (wTb X q_5 c_8 (100 : Int32) (6 : Int32) 600 (0 : Int32) (fun _ : Nat => (0 : Int32)))) H := hP
  have hD : va_D A (([(b, .inr (4, [.ref q_1, .ref q_5, .int 0, .int 0]))] ++ (wTb X q_1 c_4 (100 : Int32) (1 : Int32) 100 (0 : Int32) (fun _ : Nat => (0 : Int32)))) ++ (wTb X q_5 c_8 (100 : Int32) (6 : Int32) 600 (0 : Int32) (fun _ : Nat => (0 : Int32)))) := hD
  refine lv_aload_n hx hb dX4_init_33 rfl (lv_at hl 0 rfl) ?_
  refine lv_iconst (v := -1) hx hb dX4_init_34 (by decide) ?_
  refine va_put (D := X.1) (ci := 4) (v := .int (-1 : Int32)) (ty := .int) (C := RX4) (T := TX4) (N := 4) hx hb hts hiX4 tyX4 tyX4_ok nmX4 hown hK.1 hP hD hS 0 rfl rfl 3 (by decide) k23 (fun _ h9 => h9) rfl (by decide +kernel) rfl rfl (Nat.le_of_ble_eq_true rfl) dX4_init_35 (fun H locs hP hD hS => ?_)
  have hP : va_P X.1 vwCl (([(b, .inr (4, [.ref q_1, .ref q_5, .int 0, .int (-1 : Int32)]))] ++ (wTb X q_1 c_4 (100 : Int32) (1 : Int32) 100 (0 : Int32) (fun _ : Nat => (0 : Int32)))) ++ (wTb X q_5 c_8 (100 : Int32) (6 : Int32) 600 (0 : Int32) (fun _ : Nat => (0 : Int32)))) H := hP
  have hD : va_D A (([(b, .inr (4, [.ref q_1, .ref q_5, .int 0, .int (-1 : Int32)]))] ++ (wTb X q_1 c_4 (100 : Int32) (1 : Int32) 100 (0 : Int32) (fun _ : Nat => (0 : Int32)))) ++ (wTb X q_5 c_8 (100 : Int32) (6 : Int32) 600 (0 : Int32) (fun _ : Nat => (0 : Int32)))) := hD
  obtain ⟨tx, e0, e1, e2, e3, e4⟩ : ∃ tx : Nat → Nat, tx 0 = b ∧ tx 1 = q_1 ∧ tx 2 = c_4 ∧ tx 3 = q_5 ∧ tx 4 = c_8 := ⟨fun i => [b, q_1, c_4, q_5, c_8].getD i 0, rfl, rfl, rfl, rfl, rfl⟩
  subst e0
  subst e1
  subst e2
  subst e3
  subst e4
  exact ct_vret (ws := wTx X tx (0 : Int32) (fun _ : Nat => (0 : Int32)) (0 : Int32) (fun _ : Nat => (0 : Int32)) (0 : Int32) (-1 : Int32)) hx hb hr hlocks ⟨tx, rfl, rfl⟩ hP hD hS (Nat.le_of_ble_eq_true rfl) (Nat.le_of_ble_eq_true rfl) dX4_init_38
