/-! ===== methods that throw: two contracts each: what they answer (Fn), and what they throw (Tx) ===== -/
section TXB
abbrev tk_R2 : List String := ["java/lang/RuntimeException", "java/lang/Exception"]
def tk_B : List Cond := [.declares (Bundle.initS "java/lang/RuntimeException"), .declares (Bundle.initS "java/lang/Exception"), .declares (Bundle.initS Bundle.tN), .castable "java/lang/IllegalStateException" "java/lang/IllegalStateException", .castable "java/lang/IndexOutOfBoundsException" "java/lang/IndexOutOfBoundsException", .castable "java/lang/IllegalArgumentException" "java/lang/IllegalArgumentException", .castable "java/util/NoSuchElementException" "java/util/NoSuchElementException"]
def tk_W (U : State) : Prop := ∀ w ∈ tk_B, va_Nw w U
theorem tk_W.warm {s U : State} (hW : s.WarmedH U.vm) (h : tk_W s) : tk_W U := by
  intro w hw
  have hz := h w hw
  simp only [tk_B, List.mem_cons, List.not_mem_nil, or_false] at hw
  rcases hw with rfl | rfl | rfl | rfl | rfl | rfl | rfl
  · exact va_Nw.warmD hW hz
  · exact va_Nw.warmD hW hz
  · exact va_Nw.warmD hW hz
  · exact va_Nw.warmC hW hz
  · exact va_Nw.warmC hW hz
  · exact va_Nw.warmC hW hz
  · exact va_Nw.warmC hW hz
theorem tk_on : ∀ w ∈ tk_B, w.onTables = true := by decide +kernel
theorem tk_W.same {u U : State} (hv : U.vm = u.vm) (h : tk_W u) : tk_W U := fun w hw => va_Nw.same (tk_on w hw) hv.symm (h w hw)
theorem tk_W.use {s : State} {args : Array Value} (h : tk_W s) : ∀ w ∈ tk_B, w.before args s = true := fun w hw => va_Nw.use (tk_on w hw) (h w hw)
def tk_N (U : State) : Prop := va_Nc "java/lang/IllegalArgumentException" "java/lang/IndexOutOfBoundsException" U ∧ va_Nc "java/lang/IllegalStateException" "java/lang/IndexOutOfBoundsException" U ∧ va_Nc "java/lang/IllegalStateException" "java/lang/IllegalArgumentException" U ∧ va_Nc "java/lang/IllegalArgumentException" "java/util/NoSuchElementException" U
theorem tk_N.moved {s U : State} (hW : s.vm.Alike U.vm) (h : tk_N s) : tk_N U := ⟨va_Nc.moved hW h.1, va_Nc.moved hW h.2.1, va_Nc.moved hW h.2.2.1, va_Nc.moved hW h.2.2.2⟩
def tx_T (U : State) : Prop := (∃ a, vk_R RX5 59 "there are 8 things" a U) ∧ (∃ a, vk_R RX5 99 "the lender can't give this grant now" a U) ∧ (∃ a, vk_R RX5 118 "the time would be greater than 100000" a U) ∧ (∃ a, vk_R RX5 144 "the chain has not so many grants" a U) ∧ (∃ a, vk_R RX5 153 "the right is not 1, 2 or 4" a U) ∧ (∃ a, vk_R RX5 169 "not so many entries are kept" a U) ∧ (∃ a, vk_R RX5 187 "the text has 100 bytes" a U) ∧ (∃ a, vk_R RX5 211 "there is no saved state" a U) ∧ (∃ a, vk_R RX5 248 "no such person or thing" a U) ∧ (∃ a, vk_R RX5 250 "rights or threshold out of range, or a grant to oneself" a U) ∧ (∃ a, vk_R RX5 254 "no such grant lives" a U) ∧ (∃ a, vk_R RX5 260 "no such thing" a U) ∧ (∃ a, vk_R RX5 265 "no such person" a U) ∧ (∃ a, vk_R RX5 271 "out of range" a U)
theorem tx_T.map {u U : State} (f : ∀ (k : Nat) (t : String) (a : Nat), vk_R RX5 k t a u → vk_R RX5 k t a U) (h : tx_T u) : tx_T U := by
  obtain ⟨⟨a1, h1⟩, ⟨a2, h2⟩, ⟨a3, h3⟩, ⟨a4, h4⟩, ⟨a5, h5⟩, ⟨a6, h6⟩, ⟨a7, h7⟩, ⟨a8, h8⟩, ⟨a9, h9⟩, ⟨a10, h10⟩, ⟨a11, h11⟩, ⟨a12, h12⟩, ⟨a13, h13⟩, ⟨a14, h14⟩⟩ := h
  exact ⟨⟨a1, f _ _ _ h1⟩, ⟨a2, f _ _ _ h2⟩, ⟨a3, f _ _ _ h3⟩, ⟨a4, f _ _ _ h4⟩, ⟨a5, f _ _ _ h5⟩, ⟨a6, f _ _ _ h6⟩, ⟨a7, f _ _ _ h7⟩, ⟨a8, f _ _ _ h8⟩, ⟨a9, f _ _ _ h9⟩, ⟨a10, f _ _ _ h10⟩, ⟨a11, f _ _ _ h11⟩, ⟨a12, f _ _ _ h12⟩, ⟨a13, f _ _ _ h13⟩, ⟨a14, f _ _ _ h14⟩⟩
def tx_S (U : State) : Prop := tx_T U ∧ tk_W U ∧ tk_N U
theorem tx_S.warm {s U : State} (hW : s.WarmedH U.vm) (h : tx_S s) : tx_S U := ⟨h.1.map fun _ _ _ q => vk_R.warm hW q, h.2.1.warm hW, h.2.2.moved hW.alike⟩
theorem tx_S.same {u U : State} (hv : U.vm = u.vm) (h : tx_S u) : tx_S U := ⟨h.1.map fun _ _ _ q => vk_R.same hv q, h.2.1.same hv, h.2.2.moved (by rw [hv]; exact Vm.Alike.refl _)⟩
def tx_Z (A : Nat → Prop) (U : State) (H : Heap) : Prop := vx_Zq Bundle.tN "UNASSIGNED_STACK" Bundle.steD A U H ∧ vx_Zq Bundle.tN "SUPPRESSED_SENTINEL" Bundle.listD A U H
def tx_Pre (X : cx_G) (ws : va_W) (sz : Nat) : State → Prop := fun U => fn_Pre X ws sz U ∧ tx_S U ∧ tx_Z (va_A ws sz) U U.heap
def tx_XC (X : cx_G) (ws' : va_W) (A : Nat → Prop) (E : String) : String → State → State → Prop := fun E' st t => E' = E ∧ va_P X.1 vwCl ws' t.heap ∧ va_F A st t
abbrev tx_F : Array Value → State → Outcome → State → Prop := fun _ _ _ _ => False
def Tx (l : Launch) (y : MethodName) (wd : List Cond) (rm : Room) (X : cx_G) (av : List Value) (ws : va_W) (E : String) (ws' : va_W) : Prop := ws'.map Prod.fst = ws.map Prod.fst ∧ ∀ sz : Nat, vx_Met l y wd rm (va_Pc av (tx_Pre X ws sz)) tx_F (tx_XC X ws' (va_A ws sz) E) 1 6 (va_A ws sz)
abbrev tx_MQ (below : List Frame) (X : cx_G) (E : String) (ws' : va_W) (A : Nat → Prop) (args : Array Value) (s : State) : State → Prop := vx_MQ below tx_F (tx_XC X ws' A E) args s 1 6 A
theorem tx_blind {X : cx_G} {av : List Value} {ws : va_W} {sz : Nat} : FrameBlind (va_Pc av (tx_Pre X ws sz)) := fun a U g mk q => ⟨q.1, (fn_blind (av := av) a U g mk ⟨q.1, q.2.1⟩).2, tx_S.same (u := U) (U := U.calling g mk a) rfl q.2.2.1, vx_Zq.moved (u := U) (U := U.calling g mk a) (Vm.Alike.refl U.vm) q.2.2.2.1, vx_Zq.moved (u := U) (U := U.calling g mk a) (Vm.Alike.refl U.vm) q.2.2.2.2⟩
theorem tx_intro {l : Launch} {y : MethodName} {wd wd' : List Cond} {rm : Room} {X : cx_G} {av : List Value} {ws ws' : va_W} {E : String} {cc : ByteArray} {maxL : Nat} {ret : Option FieldType} (hy : plainName y.cls = true) (hw : wd = Cond.code y cc maxL ret :: wd') (hf : ws'.map Prod.fst = ws.map Prod.fst) (hn : (lg_sl av).length ≤ maxL)
    (body : ∀ (p : Program) (e : Env) (s : State) (m : MethodId) (args : Array Value) (below : List Frame) (meth : Method) (c : Code) (A : Nat → Prop) (ls : Array Slot), p.tables.exec = Jvm.exec → c.code = cc → c.maxLocals = maxL → meth.sig.returnType = ret → (∀ w ∈ wd, w.before args s = true) → s.vm.findClass y.cls = some m.cls → meth.locks = false → (∀ x ∈ c.exceptionTable.toList, False) → cx_K X s → va_P X.1 vwCl ws s.heap → va_D A ws → va_S A s.heap s.heap [] → (∀ q : Nat, s.heap.size ≤ q → A q) → tx_S s → tx_Z A s s.heap → lv_has ls maxL (lv_args 0 av) → W p l e rm s m args below meth c s.heap [] 0 0 (tx_MQ below X E ws' A args s) (F0 m 0 ls [])) : Tx l y wd rm X av ws E ws' := by
  refine ⟨hf, fun sz => ?_⟩
  refine vx_ofW (cc := cc) (maxL := maxL) (ret := ret) hy hw ?_
  intro p e s m args below meth c s₁ B hml hne hv
  obtain ⟨rfl, ⟨hsz, hP, hK, hD0⟩, hTS, hTZ⟩ := hv
  subst hsz
  have hown : s.vm.findClass y.cls = some m.cls := findClass_of_methodNamed B.named
  rw [lg_entry_eq]
  exact body p e s m _ below meth c _ _ B.exec B.bytes hml B.returns (atoms_spec (ws := wd) B.pre) hown B.notSynchronized hne hK hP hD0.self va_S.rf (fun q h => Or.inr h) hTS hTZ (lv_entry av hn)
variable {p : Program} {l : Launch} {e : Env} {R : Room} {s : State} {m : MethodId} {args : Array Value} {below : List Frame} {meth : Method} {c : Code} {H : Heap} {locs : List Loc} {cells slots : Nat} {Q : State → Prop}
variable {X : cx_G} {A : Nat → Prop} {ws ws' wc wc' : va_W} {pc : Nat} {ls : Array Slot} {cc : ByteArray}
theorem tx_Z.call {wc : va_W} {U : State} {is : List Nat} (h : tx_Z A s s.heap) (hS : va_S A s.heap H locs) (hU : U.heap = H) (hW : s.WarmedH U.vm) (hF : ∀ q, va_A wc H.size q → A q) : tx_Z (va_A wc H.size) U U.heap := by
  rw [hU]
  exact ⟨((vx_Zq.kept h.1 hS.2.1).moved hW.alike).narrow hF, ((vx_Zq.kept h.2 hS.2.1).moved hW.alike).narrow hF⟩
theorem tx_pre {av : List Value} {is : List Nat} (hTS : tx_S s) (hTZ : tx_Z A s s.heap) (hA : ∀ q : Nat, s.heap.size ≤ q → A q) (hS : va_S A s.heap H locs) (hK : cx_K X s) (hP : va_P X.1 vwCl ws H) (hD : va_D A ws) (hn : va_nd is = true) (hC : is.map (fun i => ws[i]?) = wc.map some) : ∀ U : State, U.heap = H → s.WarmedH U.vm → va_Pc av (tx_Pre X wc H.size) av.toArray U := fun U hU hW =>
  ⟨rfl, (fn_pre (av := av) hK hP hD hn hC rfl U hU hW).2, hTS.warm hW, tx_Z.call (is := is) hTZ hS hU hW (va_free hD hS hA is hC)⟩
theorem tx_go {E : String} {rest st0 : List Value} (hr : vx_Run p l e R s m args below meth c H locs cells slots 1 6 (F0 m pc ls st0) rest (fun _ _ _ => False) (tx_XC X wc' (va_A wc H.size) E) (va_A wc H.size)) (hf : wc'.map Prod.fst = wc.map Prod.fst)
    (hP : va_P X.1 vwCl ws H) (hD : va_D A ws) (hS : va_S A s.heap H locs) (hA : ∀ q : Nat, s.heap.size ≤ q → A q) (is : List Nat) (hC : is.map (fun i => ws[i]?) = wc.map some) (hW : pt_set ws is wc' = ws')
    (kx : ∀ (q : Addr) (ce : Cell) (H1 : Heap) (locs1 : List Loc), va_P X.1 vwCl ws' H1 → va_S A s.heap H1 locs1 → H1[q]? = some ce → ce.vm = .none → s.vm.findClass E = some ce.cls → vx_W p l e R s m args below meth c H1 locs1 (cells + 1) (slots + 6) Q (F0 m pc ls rest) q) : W p l e R s m args below meth c H locs cells slots Q (F0 m pc ls st0) := by
  intro T hT X0
  rcases hr T hT X0 with ⟨v, st₀, t, T', L, h0, X', hL, e1, e2, hq, st⟩ | ⟨q, st₀, t, T', L, E', ce, h0, X', hL, e1, e2, ⟨hE, hb, hz, hk⟩, hce, hcv, hcl, st⟩
  · exact hq.elim
  · subst hE
    rw [h0] at hz hk
    have hF := va_free hD hS hA is hC
    rw [← e1] at hb hz hk hce
    obtain ⟨hP', hfst⟩ := pt_join is hP hD hC hf hk hb
    rw [hW] at hP'
    obtain ⟨t2, a1, b1⟩ := kx q ce T'.heap (locs ++ L) hP'
      ⟨Nat.le_trans hS.1 hz, fun q h1 h2 => by rw [hk q (Nat.lt_of_lt_of_le h1 hS.1) (fun z => h2 (hF q z))]; exact hS.2.1 q h1 h2, fun q hq => by
        rcases List.mem_append.mp hq with h | h
        · exact hS.2.2 q h
        · exact hF _ (hL q h)⟩ hce hcv hcl T' rfl X'
    exact ⟨t2, st.trans a1, b1⟩
variable {y : MethodName} {bytes : ByteArray} {maxL nL n index : Nat} {ret : Option FieldType} {wd : List Cond} {rm : Room} {Ts : List Cond} {own C host : String} {b : Addr} {As rest st0 st1 : List Value} {v : Option Value} {H0 : Heap}
/-- a call that throws, and what the caller does then -/
theorem tx_Vk {E : String} (S : CallFix p m c cc nL s args Ts own) (hM : Tx l y wd rm X (Value.ref b :: As) wc E wc') (cw : CallW R s args own C index y bytes maxL ret wd rm 1 6 n) (ci : Nat) {q : vw_C} {fs : List Value} (hcl : vwCl[ci]? = some q) (hC0 : q.1 = C) (hrec : wc[0]? = some (b, .inr (ci, fs)))
    (hn : As.length = n) (hsize : ls.size = nL) (hst : st0 = As.reverse ++ .ref b :: rest) (hroom : (rest.map fun v => v.category).sum ≤ 8) (hdg : decode cc pc = .ok (.invokevirtual index, 3))
    (hTS : tx_S s) (hTZ : tx_Z A s s.heap) (hK : cx_K X s) (hP : va_P X.1 vwCl ws H) (hD : va_D A ws) (hS : va_S A s.heap H locs) (hA : ∀ q : Nat, s.heap.size ≤ q → A q) (is : List Nat) (hnd : va_nd is = true) (hC : is.map (fun i => ws[i]?) = wc.map some) (hW : pt_set ws is wc' = ws') (hfit : cells + 1 ≤ R.cells ∧ slots + 6 ≤ R.slots)
    (kx : ∀ (q : Addr) (ce : Cell) (H1 : Heap) (locs1 : List Loc), va_P X.1 vwCl ws' H1 → va_S A s.heap H1 locs1 → H1[q]? = some ce → ce.vm = .none → s.vm.findClass E = some ce.cls → vx_W p l e R s m args below meth c H1 locs1 (cells + 1) (slots + 6) Q (F0 m pc ls rest) q) : W p l e R s m args below meth c H locs cells slots Q (F0 m pc ls st0) := by
  subst hst
  have hPc := pt_sub hP hC
  have hr := va_recv hK.1 hPc hcl hrec
  rw [hC0] at hr
  exact tx_go (vx_runV (As := As) (rest := rest) S (hM.2 H.size) cw ⟨tx_blind, hr, fun U hU hW => tx_pre hTS hTZ hA hS hK hP hD hnd hC U hU hW⟩ rfl hn hsize rfl (lv_room hroom) hdg hfit) hM.1 hP hD hS hA is hC hW kx
theorem tx_Sk {E : String} (S : CallFix p m c cc nL s args Ts own) (hM : Tx l y wd rm X As wc E wc') (cw : CallB R s args own index y bytes maxL ret wd rm 1 6 n ∧ (Cond.static y).before args s = true)
    (hn : As.length = n) (hsize : ls.size = nL) (hst : st0 = As.reverse ++ rest) (hroom : (rest.map fun v => v.category).sum ≤ 8) (hdg : decode cc pc = .ok (.invokestatic index, 3))
    (hTS : tx_S s) (hTZ : tx_Z A s s.heap) (hK : cx_K X s) (hP : va_P X.1 vwCl ws H) (hD : va_D A ws) (hS : va_S A s.heap H locs) (hA : ∀ q : Nat, s.heap.size ≤ q → A q) (is : List Nat) (hnd : va_nd is = true) (hC : is.map (fun i => ws[i]?) = wc.map some) (hW : pt_set ws is wc' = ws') (hfit : cells + 1 ≤ R.cells ∧ slots + 6 ≤ R.slots)
    (kx : ∀ (q : Addr) (ce : Cell) (H1 : Heap) (locs1 : List Loc), va_P X.1 vwCl ws' H1 → va_S A s.heap H1 locs1 → H1[q]? = some ce → ce.vm = .none → s.vm.findClass E = some ce.cls → vx_W p l e R s m args below meth c H1 locs1 (cells + 1) (slots + 6) Q (F0 m pc ls rest) q) : W p l e R s m args below meth c H locs cells slots Q (F0 m pc ls st0) := by
  subst hst
  exact tx_go (vx_runS (As := As) (rest := rest) S (hM.2 H.size) cw ⟨tx_blind, fun U hU hW => tx_pre hTS hTZ hA hS hK hP hD hnd hC U hU hW⟩ rfl hn hsize rfl (lv_room hroom) hdg hfit) hM.1 hP hD hS hA is hC hW kx
/-- a call that throws, in a method that hands the exception on -/
theorem tx_V {E : String} (hne : ∀ x ∈ c.exceptionTable.toList, False) (hlocks : meth.locks = false) (S : CallFix p m c cc nL s args Ts own) (hM : Tx l y wd rm X (Value.ref b :: As) wc E wc') (cw : CallW R s args own C index y bytes maxL ret wd rm 1 6 n) (ci : Nat) {q : vw_C} {fs : List Value} (hcl : vwCl[ci]? = some q) (hC0 : q.1 = C) (hrec : wc[0]? = some (b, .inr (ci, fs)))
    (hn : As.length = n) (hsize : ls.size = nL) (hst : st0 = As.reverse ++ .ref b :: rest) (hroom : (rest.map fun v => v.category).sum ≤ 8) (hdg : decode cc pc = .ok (.invokevirtual index, 3))
    (hTS : tx_S s) (hTZ : tx_Z A s s.heap) (hK : cx_K X s) (hP : va_P X.1 vwCl ws H) (hD : va_D A ws) (hS : va_S A s.heap H locs) (hA : ∀ q : Nat, s.heap.size ≤ q → A q) (is : List Nat) (hnd : va_nd is = true) (hC : is.map (fun i => ws[i]?) = wc.map some) (hW : pt_set ws is wc' = ws') (hfit : 0 + 1 ≤ R.cells ∧ 0 + 6 ≤ R.slots) : W p l e R s m args below meth c H locs 0 0 (tx_MQ below X E ws' A args s) (F0 m pc ls st0) :=
  tx_Vk S hM cw ci hcl hC0 hrec hn hsize hst hroom hdg hTS hTZ hK hP hD hS hA is hnd hC hW hfit fun q ce H1 locs1 hP1 hS1 h1 h2 h3 => vx_out (fun x hx => (hne x hx).elim) hlocks h1 h2 h3 (fun t ht _ => ⟨rfl, by rw [ht]; exact hP1, hS1.F ht⟩) hS1.2.2 (Nat.le_refl _) (Nat.le_refl _)
theorem tx_Sx {E : String} (hne : ∀ x ∈ c.exceptionTable.toList, False) (hlocks : meth.locks = false) (S : CallFix p m c cc nL s args Ts own) (hM : Tx l y wd rm X As wc E wc') (cw : CallB R s args own index y bytes maxL ret wd rm 1 6 n ∧ (Cond.static y).before args s = true)
    (hn : As.length = n) (hsize : ls.size = nL) (hst : st0 = As.reverse ++ rest) (hroom : (rest.map fun v => v.category).sum ≤ 8) (hdg : decode cc pc = .ok (.invokestatic index, 3))
    (hTS : tx_S s) (hTZ : tx_Z A s s.heap) (hK : cx_K X s) (hP : va_P X.1 vwCl ws H) (hD : va_D A ws) (hS : va_S A s.heap H locs) (hA : ∀ q : Nat, s.heap.size ≤ q → A q) (is : List Nat) (hnd : va_nd is = true) (hC : is.map (fun i => ws[i]?) = wc.map some) (hW : pt_set ws is wc' = ws') (hfit : 0 + 1 ≤ R.cells ∧ 0 + 6 ≤ R.slots) : W p l e R s m args below meth c H locs 0 0 (tx_MQ below X E ws' A args s) (F0 m pc ls st0) :=
  tx_Sk S hM cw hn hsize hst hroom hdg hTS hTZ hK hP hD hS hA is hnd hC hW hfit fun q ce H1 locs1 hP1 hS1 h1 h2 h3 => vx_out (fun x hx => (hne x hx).elim) hlocks h1 h2 h3 (fun t ht _ => ⟨rfl, by rw [ht]; exact hP1, hS1.F ht⟩) hS1.2.2 (Nat.le_refl _) (Nat.le_refl _)
def tk_ok (L : List Cond) : Prop := L.all vx_ot = true ∧ ∀ w ∈ L.filter (fun w => !goodWord w), w ∈ tk_B
theorem tk_ISE : tk_ok (vx_atS RX5 61 "java/lang/IllegalStateException" tk_R2) := ⟨by decide +kernel, by decide +kernel⟩
theorem tk_IOB : tk_ok (vx_atS RX5 146 "java/lang/IndexOutOfBoundsException" tk_R2) := ⟨by decide +kernel, by decide +kernel⟩
theorem tk_IAE : tk_ok (vx_atS RX5 155 "java/lang/IllegalArgumentException" tk_R2) := ⟨by decide +kernel, by decide +kernel⟩
theorem tk_NSE : tk_ok (vy_atS RX5 256 "java/util/NoSuchElementException" 13 prog_19_method_4_code "java/lang/RuntimeException" ["java/lang/Exception"]) := ⟨by decide +kernel, by decide +kernel⟩
theorem tk_ot2 {own E : String} {ik : Nat} {L : List Cond} (hg : L.all vx_ot = true) : ∀ w ∈ Cond.classLink own ik E :: Cond.initialized E :: L, vx_ot w = true := fun w hw => by
  rcases List.mem_cons.mp hw with h | h
  · rw [h]; rfl
  · rcases List.mem_cons.mp h with h | h
    · rw [h]; rfl
    · exact List.all_eq_true.mp hg w h
/-- 'throw new E("text")' -/
theorem tx_throw {E text : String} {ik is ic : Nat} (hx : p.tables.exec = Jvm.exec) (hb : c.code = cc) (hfl : l.stackTraces = false) (hown : s.vm.findClass own = some m.cls) (hcls : Bundle.fit E = true) (hne : ∀ x ∈ c.exceptionTable.toList, False) (hml : c.maxLocals = ls.size) (hlocks : meth.locks = false)
    (hk : (Cond.classLink own ik E).before args s = true) (hini : (Cond.initialized E).before args s = true) (hstr : ∃ sa, vk_R own is text sa s) (hTS : tx_S s) (hg : tk_ok (vx_atS own ic E tk_R2)) (hat : ∀ w ∈ (vx_atS own ic E tk_R2).filter goodWord, w.before args s = true)
    (hTZ : tx_Z A s s.heap) (hP : va_P X.1 vwCl ws' H) (hS : va_S A s.heap H locs) (hRf : 6 ≤ R.frames) (hRl : (rest.map fun v => v.category).sum + 82 ≤ R.locals) (hRc : 1 ≤ R.cells) (hRs : 6 ≤ R.slots)
    (d0 : decode cc pc = .ok (.new ik, 3)) (d3 : decode cc (pc + 3) = .ok (.dup, 1)) (d4 : decode cc (pc + 4) = .ok (.ldc is, 2)) (d6 : decode cc (pc + 6) = .ok (.invokespecial ic, 3)) (d9 : decode cc (pc + 9) = .ok (.athrow, 1)) :
    W p l e R s m args below meth c H locs 0 0 (tx_MQ below X E ws' A args s) (F0 m pc ls rest) := by
  obtain ⟨sa, hstr⟩ := hstr
  refine vx_throwS (names := tk_R2) hx hb hfl hown hcls (by decide +kernel) hk hini hstr (vx_hat hat hg.2 hTS.2.1.use) (tk_ot2 hg.1) hTZ.1 hTZ.2 hS hml.symm d0 d3 d4 d6 d9 (fun x hx => (hne x hx).elim) hRf hRl (by omega) (by omega) hlocks (fun t _ h1 h2 => ⟨rfl, hP.kept (fun k q hq => h2 q.1 (hP k q hq).lt), Nat.le_trans hS.1 h1, fun q h3 h4 => ?_⟩) hS.2.2 (Nat.le_refl _) (Nat.le_refl _)
  rw [h2 q (Nat.lt_of_lt_of_le h3 hS.1)]
  exact hS.2.1 q h3 h4
theorem tx_throwW {E text : String} {ik is ic : Nat} (hx : p.tables.exec = Jvm.exec) (hb : c.code = cc) (hfl : l.stackTraces = false) (hown : s.vm.findClass own = some m.cls) (hcls : Bundle.fit E = true) (hne : ∀ x ∈ c.exceptionTable.toList, False) (hml : c.maxLocals = ls.size) (hlocks : meth.locks = false)
    (hk : (Cond.classLink own ik E).before args s = true) (hini : (Cond.initialized E).before args s = true) (hstr : ∃ sa, vk_R own is text sa s) (hTS : tx_S s) (hg : tk_ok (vx_atS own ic E tk_R2)) (hat : ∀ w ∈ (vx_atS own ic E tk_R2).filter goodWord, w.before args s = true)
    (hTZ : tx_Z A s s.heap) (hP : va_P X.1 vwCl ws' H) (hS : va_S A s.heap H locs) (hRf : 6 ≤ R.frames) (hRl : (rest.map fun v => v.category).sum + 82 ≤ R.locals) (hRc : 1 ≤ R.cells) (hRs : 6 ≤ R.slots)
    (d0 : decode cc pc = .ok (.new ik, 3)) (d3 : decode cc (pc + 3) = .ok (.dup, 1)) (d4 : decode cc (pc + 4) = .ok (.ldc_w is, 3)) (d6 : decode cc (pc + 7) = .ok (.invokespecial ic, 3)) (d9 : decode cc (pc + 10) = .ok (.athrow, 1)) :
    W p l e R s m args below meth c H locs 0 0 (tx_MQ below X E ws' A args s) (F0 m pc ls rest) := by
  obtain ⟨sa, hstr⟩ := hstr
  refine vx_throwSW (names := tk_R2) hx hb hfl hown hcls (by decide +kernel) hk hini hstr (vx_hat hat hg.2 hTS.2.1.use) (tk_ot2 hg.1) hTZ.1 hTZ.2 hS hml.symm d0 d3 d4 d6 d9 (fun x hx => (hne x hx).elim) hRf hRl (by omega) (by omega) hlocks (fun t _ h1 h2 => ⟨rfl, hP.kept (fun k q hq => h2 q.1 (hP k q hq).lt), Nat.le_trans hS.1 h1, fun q h3 h4 => ?_⟩) hS.2.2 (Nat.le_refl _) (Nat.le_refl _)
  rw [h2 q (Nat.lt_of_lt_of_le h3 hS.1)]
  exact hS.2.1 q h3 h4
end TXB
