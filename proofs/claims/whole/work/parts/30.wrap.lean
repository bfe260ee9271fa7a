/-! ===== the law's own methods with handlers: they always answer ===== -/
section FWB
def Fw (l : Launch) (y : MethodName) (wd : List Cond) (rm : Room) (X : cx_G) (av : List Value) (ws : va_W) (v : Option Value) (ws' : va_W) : Prop := ws'.map Prod.fst = ws.map Prod.fst ∧ ∀ sz : Nat, Met l y wd rm (va_Pc av (tx_Pre X ws sz)) (fn_Post X v ws' (va_A ws sz)) 1 6 (va_A ws sz)
abbrev fw_Z (below : List Frame) (X : cx_G) (v : Option Value) (ws' : va_W) (A : Nat → Prop) (args : Array Value) (s : State) : State → Prop := MQ below (fn_Post X v ws' A) args s 1 6 A
theorem fw_intro {l : Launch} {y : MethodName} {wd wd' : List Cond} {rm : Room} {X : cx_G} {av : List Value} {ws ws' : va_W} {v : Option Value} {cc : ByteArray} {maxL : Nat} {ret : Option FieldType} {hh : List (Nat × Nat × Nat × Nat)} (hy : plainName y.cls = true) (hw : wd = Cond.codeWith y cc maxL ret hh :: wd') (hf : ws'.map Prod.fst = ws.map Prod.fst) (hn : (lg_sl av).length ≤ maxL)
    (body : ∀ (p : Program) (e : Env) (s : State) (m : MethodId) (args : Array Value) (below : List Frame) (meth : Method) (c : Code) (A : Nat → Prop) (ls : Array Slot), p.tables.exec = Jvm.exec → c.code = cc → c.maxLocals = maxL → meth.sig.returnType = ret → (∀ w ∈ wd, w.before args s = true) → s.vm.findClass y.cls = some m.cls → meth.locks = false → c.exceptionTable.toList = tableOf hh → cx_K X s → va_P X.1 vwCl ws s.heap → va_D A ws → va_S A s.heap s.heap [] → (∀ q : Nat, s.heap.size ≤ q → A q) → tx_S s → tx_Z A s s.heap → lv_has ls maxL (lv_args 0 av) → W p l e rm s m args below meth c s.heap [] 0 0 (fw_Z below X v ws' A args s) (F0 m 0 ls [])) : Fw l y wd rm X av ws v ws' := by
  refine ⟨hf, fun sz => ?_⟩
  refine MetFree.of_bodyS (code := cc) (maxLocals := maxL) (ret := ret) hy ?_ ?_
  · intro args s m h hn
    obtain ⟨m9, meth, c, hn9, h1, h2, h3, h4, -, h5, h6, -⟩ := Cond.codeWith_spec (atoms_spec (ws := wd) h _ (by rw [hw]; exact List.mem_cons_self))
    cases hn.symm.trans hn9
    exact ⟨meth, c, h1, h2, h3, h4, h5, h6⟩
  · intro p e s m args below meth c s₁ B hml hv _
    obtain ⟨rfl, ⟨hsz, hP, hK, hD0⟩, hTS, hTZ⟩ := hv
    subst hsz
    have hh0 : s₁.heap = s.heap := by rw [B.state]; rfl
    have hown : s.vm.findClass y.cls = some m.cls := findClass_of_methodNamed B.named
    have hex := vx_table (x := y) B (atoms_spec (ws := wd) B.pre _ (by rw [hw]; exact List.mem_cons_self))
    have K := body p e s m _ below meth c _ _ B.exec B.bytes hml B.returns (atoms_spec (ws := wd) B.pre) hown B.notSynchronized hex hK hP hD0.self va_S.rf (fun q h => Or.inr h) hTS hTZ (lv_entry av hn)
    rw [← lg_entry_eq] at K
    obtain ⟨t, a1, o, b1, b2, b3⟩ := K s₁ hh0 (Stand.of_body B)
    exact ⟨t, o, a1, b1, b2, ⟨b3.1, b3.2⟩⟩
variable {p : Program} {l : Launch} {e : Env} {R : Room} {s : State} {m : MethodId} {args : Array Value} {below : List Frame} {meth : Method} {c : Code} {H : Heap} {locs : List Loc} {cells slots : Nat} {Q : State → Prop}
variable {X : cx_G} {A : Nat → Prop} {ws ws' wc wc' : va_W} {pc : Nat} {ls : Array Slot} {cc : ByteArray}
theorem fw_iret {v : Int32} (hx : p.tables.exec = Jvm.exec) (hb : c.code = cc) (hr : meth.sig.returnType = some .int) (hlocks : meth.locks = false) (hP : va_P X.1 vwCl ws' H) (hS : va_S A s.heap H locs) (hc : cells ≤ 1) (hs : slots ≤ 6) (hdg : decode cc pc = .ok (.ireturn, 1)) : W p l e R s m args below meth c H locs cells slots (fw_Z below X (some (.int v)) ws' A args s) (F0 m pc ls [.int v]) :=
  W.widen (k := 1) (n := 6) hc hs (W.iret hx hb hr (fun t ht hW => ⟨⟨rfl, by rw [ht]; exact hP⟩, hS.F ht⟩) hS.2.2 hdg hlocks)
theorem set_last {α : Type} {a : List α} {e e' : α} (n : Nat) (hn : a.length = n) : (a ++ [e]).set n e' = a ++ [e'] := by
  subst hn
  simp
theorem get_last {α : Type} {a : List α} {e : α} (n : Nat) (hn : a.length = n) : (a ++ [e])[n]? = some e := by
  subst hn
  simp
theorem tx_goJ {E : String} {rest st0 : List Value} (hr : vx_Run p l e R s m args below meth c H locs cells slots 1 6 (F0 m pc ls st0) rest (fun _ _ _ => False) (tx_XC X wc' (va_A wc H.size) E) (va_A wc H.size))
    (hP : va_P X.1 vwCl ws H) (hD : va_D A ws) (hS : va_S A s.heap H locs) (hA : ∀ q : Nat, s.heap.size ≤ q → A q) (is : List Nat) (hC : is.map (fun i => ws[i]?) = wc.map some) (hJ : pj 0 is wc' ws ws')
    (kx : ∀ (q : Addr) (ce : Cell) (H1 : Heap) (locs1 : List Loc), va_P X.1 vwCl ws' H1 → va_S A s.heap H1 locs1 → H1[q]? = some ce → ce.vm = .none → s.vm.findClass E = some ce.cls → vx_W p l e R s m args below meth c H1 locs1 (cells + 1) (slots + 6) Q (F0 m pc ls rest) q) : W p l e R s m args below meth c H locs cells slots Q (F0 m pc ls st0) := by
  intro T hT X0
  rcases hr T hT X0 with ⟨v, st₀, t, T', L, h0, X', hL, e1, e2, hq, st⟩ | ⟨q, st₀, t, T', L, E', ce, h0, X', hL, e1, e2, ⟨hE, hb, hz, hk⟩, hce, hcv, hcl, st⟩
  · exact hq.elim
  · subst hE
    rw [h0] at hz hk
    have hF := va_free hD hS hA is hC
    rw [← e1] at hb hz hk hce
    have hP' := pj_join is hP hD hC hk hb hJ
    obtain ⟨t2, a1, b1⟩ := kx q ce T'.heap (locs ++ L) hP'
      ⟨Nat.le_trans hS.1 hz, fun q h1 h2 => by rw [hk q (Nat.lt_of_lt_of_le h1 hS.1) (fun z => h2 (hF q z))]; exact hS.2.1 q h1 h2, fun q hq => by
        rcases List.mem_append.mp hq with h | h
        · exact hS.2.2 q h
        · exact hF _ (hL q h)⟩ hce hcv hcl T' rfl X'
    exact ⟨t2, st.trans a1, b1⟩
variable {y : MethodName} {bytes : ByteArray} {maxL nL n index : Nat} {ret : Option FieldType} {wd : List Cond} {rm : Room} {Ts : List Cond} {own C host : String} {b : Addr} {As rest st0 st1 : List Value} {v : Option Value} {H0 : Heap}
theorem tx_VJ {E : String} (S : CallFix p m c cc nL s args Ts own) (hM : Tx l y wd rm X (Value.ref b :: As) wc E wc') (cw : CallW R s args own C index y bytes maxL ret wd rm 1 6 n) (ci : Nat) {q : vw_C} {fs : List Value} (hcl : vwCl[ci]? = some q) (hC0 : q.1 = C) (hrec : wc[0]? = some (b, .inr (ci, fs)))
    (hn : As.length = n) (hsize : ls.size = nL) (hst : st0 = As.reverse ++ .ref b :: rest) (hroom : (rest.map fun v => v.category).sum ≤ 8) (hdg : decode cc pc = .ok (.invokevirtual index, 3))
    (hTS : tx_S s) (hTZ : tx_Z A s s.heap) (hK : cx_K X s) (hP : va_P X.1 vwCl ws H) (hD : va_D A ws) (hS : va_S A s.heap H locs) (hA : ∀ q : Nat, s.heap.size ≤ q → A q) (is : List Nat) (hnd : va_nd is = true) (hC : is.map (fun i => ws[i]?) = wc.map some) (hJ : pj 0 is wc' ws ws') (hfit : cells + 1 ≤ R.cells ∧ slots + 6 ≤ R.slots)
    (kx : ∀ (q : Addr) (ce : Cell) (H1 : Heap) (locs1 : List Loc), va_P X.1 vwCl ws' H1 → va_S A s.heap H1 locs1 → H1[q]? = some ce → ce.vm = .none → s.vm.findClass E = some ce.cls → vx_W p l e R s m args below meth c H1 locs1 (cells + 1) (slots + 6) Q (F0 m pc ls rest) q) : W p l e R s m args below meth c H locs cells slots Q (F0 m pc ls st0) := by
  subst hst
  have hPc := pt_sub hP hC
  have hr := va_recv hK.1 hPc hcl hrec
  rw [hC0] at hr
  exact tx_goJ (vx_runV (As := As) (rest := rest) S (hM.2 H.size) cw ⟨tx_blind, hr, fun U hU hW => tx_pre hTS hTZ hA hS hK hP hD hnd hC U hU hW⟩ rfl hn hsize rfl (lv_room hroom) hdg hfit) hP hD hS hA is hC hJ kx
end FWB
abbrev wOut (X : cx_G) (o0 : Nat) (fo : Nat → Int64) : va_W := [(o0, .inl (X.2.2.1, 1, .inr (.inl fo)))]
def bxw {α β γ : Type} (m : Option (α ⊕ β)) (kx : α → Option γ) (k : β → Option γ) : Option γ := bx m kx k
theorem wLO_fst {X : cx_G} {x0 : Nat} {hh ht ch tx y : Nat → Nat} {hy : Nat → Nat → Nat} {rP : Int32} {fP : Nat → Int32} {rT : Int32} {fT : Nat → Int32} {rG : Int32} {fG : Nat → Int32} {rL : Int32} {fL : Nat → Int32} {rH : Int32} {fH : Nat → Int32} {gi : Int32} {di : Int32} {re : Int32} {ti : Int32} {rPT : Int32} {fPT : Nat → Int32} {rTT : Int32} {fTT : Nat → Int32} {rGT : Int32} {fGT : Nat → Int32} {rLT : Int32} {fLT : Nat → Int32} {rHT : Int32} {fHT : Nat → Int32} {giT : Int32} {diT : Int32} {reT : Int32} {tiT : Int32} {rS : Int32} {fS : Nat → Int32} {rB : Int32} {fB : Nat → Int32} {rO : Int32} {fO : Nat → Int32} {pl fa cn : Int32} {ro : Nat} {Q : Nat → HS} {o0 : Nat} {fo : Nat → Int64} : ((wLR X x0 hh ht ch tx y hy rP fP rT fT rG fG rL fL rH fH gi di re ti rPT fPT rTT fTT rGT fGT rLT fLT rHT fHT giT diT reT tiT rS fS rB fB rO fO pl fa cn ro Q) ++ wOut X o0 fo).map Prod.fst = lA x0 hh ht ch tx y hy ++ [o0] := by rw [List.map_append, wLR_fst]; rfl
theorem oC_a {X : cx_G} {x0 : Nat} {hh ht ch tx y : Nat → Nat} {hy : Nat → Nat → Nat} {rP : Int32} {fP : Nat → Int32} {rT : Int32} {fT : Nat → Int32} {rG : Int32} {fG : Nat → Int32} {rL : Int32} {fL : Nat → Int32} {rH : Int32} {fH : Nat → Int32} {gi : Int32} {di : Int32} {re : Int32} {ti : Int32} {rPT : Int32} {fPT : Nat → Int32} {rTT : Int32} {fTT : Nat → Int32} {rGT : Int32} {fGT : Nat → Int32} {rLT : Int32} {fLT : Nat → Int32} {rHT : Int32} {fHT : Nat → Int32} {giT : Int32} {diT : Int32} {reT : Int32} {tiT : Int32} {rS : Int32} {fS : Nat → Int32} {rB : Int32} {fB : Nat → Int32} {rO : Int32} {fO : Nat → Int32} {pl fa cn : Int32} {ro : Nat} {Q : Nat → HS} {o0 : Nat} {fo : Nat → Int64} : ([0, 1, 2, 3, 4, 5, 6, 7, 8, 9, 10, 11, 12, 13, 14, 15, 16, 17, 18, 19, 20, 21, 22, 23, 24, 25, 26, 27, 28, 29, 30, 31, 32, 33, 34, 35, 36, 37, 38, 39, 40, 41, 42, 43, 44, 45, 46, 47, 48, 49, 50, 51, 52, 53, 54, 55, 56, 57, 58, 59, 60, 61, 62, 63, 64, 65, 66, 67, 68, 69, 70, 71, 72, 73, 74, 75, 76] : List Nat).map (fun i => ((wLR X x0 hh ht ch tx y hy rP fP rT fT rG fG rL fL rH fH gi di re ti rPT fPT rTT fTT rGT fGT rLT fLT rHT fHT giT diT reT tiT rS fS rB fB rO fO pl fa cn ro Q) ++ wOut X o0 fo)[i]?) = ((wLR X x0 hh ht ch tx y hy rP fP rT fT rG fG rL fL rH fH gi di re ti rPT fPT rTT fTT rGT fGT rLT fLT rHT fHT giT diT reT tiT rS fS rB fB rO fO pl fa cn ro Q)).map some := by rfl
theorem oJ_a {X : cx_G} {x0 : Nat} {hh ht ch tx y : Nat → Nat} {hy : Nat → Nat → Nat} {rP : Int32} {fP : Nat → Int32} {rT : Int32} {fT : Nat → Int32} {rG : Int32} {fG : Nat → Int32} {rL : Int32} {fL : Nat → Int32} {rH : Int32} {fH : Nat → Int32} {gi : Int32} {di : Int32} {re : Int32} {ti : Int32} {rPT : Int32} {fPT : Nat → Int32} {rTT : Int32} {fTT : Nat → Int32} {rGT : Int32} {fGT : Nat → Int32} {rLT : Int32} {fLT : Nat → Int32} {rHT : Int32} {fHT : Nat → Int32} {giT : Int32} {diT : Int32} {reT : Int32} {tiT : Int32} {rS : Int32} {fS : Nat → Int32} {rB : Int32} {fB : Nat → Int32} {rO : Int32} {fO : Nat → Int32} {pl fa cn : Int32} {ro : Nat} {Q : Nat → HS} {o0 : Nat} {fo : Nat → Int64} {rP' : Int32} {fP' : (Nat → Int32)} {rT' : Int32} {fT' : (Nat → Int32)} {rG' : Int32} {fG' : (Nat → Int32)} {rL' : Int32} {fL' : (Nat → Int32)} {rH' : Int32} {fH' : (Nat → Int32)} {gi' : Int32} {di' : Int32} {re' : Int32} {ti' : Int32} {rPT' : Int32} {fPT' : (Nat → Int32)} {rTT' : Int32} {fTT' : (Nat → Int32)} {rGT' : Int32} {fGT' : (Nat → Int32)} {rLT' : Int32} {fLT' : (Nat → Int32)} {rHT' : Int32} {fHT' : (Nat → Int32)} {giT' : Int32} {diT' : Int32} {reT' : Int32} {tiT' : Int32} {rS' : Int32} {fS' : (Nat → Int32)} {rB' : Int32} {fB' : (Nat → Int32)} {rO' : Int32} {fO' : (Nat → Int32)} {pl' : Int32} {fa' : Int32} {cn' : Int32} {ro' : Nat} {Qh' : (Nat → HS)} : pj 0 [0, 1, 2, 3, 4, 5, 6, 7, 8, 9, 10, 11, 12, 13, 14, 15, 16, 17, 18, 19, 20, 21, 22, 23, 24, 25, 26, 27, 28, 29, 30, 31, 32, 33, 34, 35, 36, 37, 38, 39, 40, 41, 42, 43, 44, 45, 46, 47, 48, 49, 50, 51, 52, 53, 54, 55, 56, 57, 58, 59, 60, 61, 62, 63, 64, 65, 66, 67, 68, 69, 70, 71, 72, 73, 74, 75, 76] (wLR X x0 hh ht ch tx y hy rP' fP' rT' fT' rG' fG' rL' fL' rH' fH' gi' di' re' ti' rPT' fPT' rTT' fTT' rGT' fGT' rLT' fLT' rHT' fHT' giT' diT' reT' tiT' rS' fS' rB' fB' rO' fO' pl' fa' cn' ro' Qh') ((wLR X x0 hh ht ch tx y hy rP fP rT fT rG fG rL fL rH fH gi di re ti rPT fPT rTT fTT rGT fGT rLT fLT rHT fHT giT diT reT tiT rS fS rB fB rO fO pl fa cn ro Q) ++ wOut X o0 fo) ((wLR X x0 hh ht ch tx y hy rP' fP' rT' fT' rG' fG' rL' fL' rH' fH' gi' di' re' ti' rPT' fPT' rTT' fTT' rGT' fGT' rLT' fLT' rHT' fHT' giT' diT' reT' tiT' rS' fS' rB' fB' rO' fO' pl' fa' cn' ro' Qh') ++ wOut X o0 fo) := pj_app 77 rfl rfl (pj_new fun q h => h) (pj_old 1 rfl (by decide +kernel))
def f_L_addThing (x1 : Int32) (x2 : Int32) (rP : Int32) (fP : (Nat → Int32)) (rT : Int32) (fT : (Nat → Int32)) (rG : Int32) (fG : (Nat → Int32)) (rL : Int32) (fL : (Nat → Int32)) (rH : Int32) (fH : (Nat → Int32)) (gi : Int32) (di : Int32) (re : Int32) (ti : Int32) (cn : Int32) (ro : Nat) (Qh : (Nat → HS)) (fo : (Nat → Int64)) : Option (Int32 × Int32 × (Nat → Int32) × Int32 × (Nat → Int32) × Int32 × Nat × (Nat → HS) × (Nat → Int64)) :=
  bx (f_X5_addThing x1 x2 rP fP rT fT rG fG rL fL rH fH gi di re ti cn ro Qh) (fun e_ => if e_.1 = "java/lang/IndexOutOfBoundsException" then some ((1 : Int32), e_.2.1, e_.2.2.1, e_.2.2.2.1, e_.2.2.2.2.1, e_.2.2.2.2.2.1, e_.2.2.2.2.2.2.1, e_.2.2.2.2.2.2.2, fo) else if e_.1 = "java/lang/IllegalArgumentException" then some ((2 : Int32), e_.2.1, e_.2.2.1, e_.2.2.2.1, e_.2.2.2.2.1, e_.2.2.2.2.2.1, e_.2.2.2.2.2.2.1, e_.2.2.2.2.2.2.2, fo) else if e_.1 = "java/lang/IllegalStateException" then some ((3 : Int32), e_.2.1, e_.2.2.1, e_.2.2.2.1, e_.2.2.2.2.1, e_.2.2.2.2.2.1, e_.2.2.2.2.2.2.1, e_.2.2.2.2.2.2.2, fo) else none) (fun o_ => ix (0 : Int32) 1 (nm (vp_updL fo (0 : Int32).toNatClampNeg o_.1.toInt64) (fun fo_1 => some ((0 : Int32), o_.2.1, o_.2.2.1, o_.2.2.2.1, o_.2.2.2.2.1, o_.2.2.2.2.2.1, o_.2.2.2.2.2.2.1, o_.2.2.2.2.2.2.2, fo_1))))
set_option maxHeartbeats 4000000 in
set_option maxRecDepth 100000 in
theorem c_L_addThing (l : Launch) (hfl : l.stackTraces = false) (X : cx_G) (x0 : Nat) (hh : (Nat → Nat)) (ht : (Nat → Nat)) (ch : (Nat → Nat)) (tx : (Nat → Nat)) (y : (Nat → Nat)) (hy : (Nat → Nat → Nat)) (o0 : Nat) (rP : Int32) (fP : (Nat → Int32)) (rT : Int32) (fT : (Nat → Int32)) (rG : Int32) (fG : (Nat → Int32)) (rL : Int32) (fL : (Nat → Int32)) (rH : Int32) (fH : (Nat → Int32)) (gi : Int32) (di : Int32) (re : Int32) (ti : Int32) (rPT : Int32) (fPT : (Nat → Int32)) (rTT : Int32) (fTT : (Nat → Int32)) (rGT : Int32) (fGT : (Nat → Int32)) (rLT : Int32) (fLT : (Nat → Int32)) (rHT : Int32) (fHT : (Nat → Int32)) (giT : Int32) (diT : Int32) (reT : Int32) (tiT : Int32) (rS : Int32) (fS : (Nat → Int32)) (rB : Int32) (fB : (Nat → Int32)) (rO : Int32) (fO : (Nat → Int32)) (pl : Int32) (fa : Int32) (cn : Int32) (ro : Nat) (Qh : (Nat → HS)) (fo : (Nat → Int64)) (x1 : Int32) (x2 : Int32) (r : Int32) (rT' : Int32) (fT' : (Nat → Int32)) (rH' : Int32) (fH' : (Nat → Int32)) (cn' : Int32) (ro' : Nat) (Qh' : (Nat → HS)) (fo' : (Nat → Int64)) (hf : f_L_addThing x1 x2 rP fP rT fT rG fG rL fL rH fH gi di re ti cn ro Qh fo = some (r, rT', fT', rH', fH', cn', ro', Qh', fo')) : Fw l yL_addThing wsL_addThing ({ frames := 9, cells := 1, slots := 6, locals := 154 } : Room) X [.ref (x0), .int x1, .int x2, .ref (o0)] ((wLR X x0 hh ht ch tx y hy rP fP rT fT rG fG rL fL rH fH gi di re ti rPT fPT rTT fTT rGT fGT rLT fLT rHT fHT giT diT reT tiT rS fS rB fB rO fO pl fa cn ro Qh) ++ (wOut X o0 fo)) (some (.int r)) ((wLR X x0 hh ht ch tx y hy rP fP rT' fT' rG fG rL fL rH' fH' gi di re ti rPT fPT rTT fTT rGT fGT rLT fLT rHT fHT giT diT reT tiT rS fS rB fB rO fO pl fa cn' ro' Qh') ++ (wOut X o0 fo')) := by
  refine fw_intro (cc := cL_addThing) (maxL := 5) (ret := (some .int)) (hh := [(0, 10, 13, 13), (0, 10, 17, 15), (0, 10, 21, 17)]) (by decide) rfl (wLO_fst.trans wLO_fst.symm) (Nat.le_of_ble_eq_true rfl) ?_
  intro p e s m args below meth c A ls hx hb hml hr hts hown hlocks hex hK hP hD0 hS hA hTS hTZ hl
  have hown : s.vm.findClass RL = some m.cls := hown
  have hl : lv_has ls 5 [(0, .ref (x0)), (1, .int x1), (2, .int x2), (3, .ref (o0))] := hl
  have hex : c.exceptionTable.toList = [⟨0, 10, 13, 13⟩, ⟨0, 10, 17, 15⟩, ⟨0, 10, 21, 17⟩] := hex.trans rfl
  unfold f_L_addThing at hf
  refine lv_aload_n hx hb dL_addThing_0 rfl (lv_at hl 3 rfl) ?_
  refine lv_iconst (v := 0) hx hb dL_addThing_1 (by decide) ?_
  refine lv_aload_n hx hb dL_addThing_2 rfl (lv_at hl 0 rfl) ?_
  refine lv_iload_n hx hb dL_addThing_3 rfl (lv_at hl 1 rfl) ?_
  refine lv_iload_n hx hb dL_addThing_4 rfl (lv_at hl 2 rfl) ?_
  rcases bx_of hf with ⟨⟨E_1, rT_1, fT_1, rH_1, fH_1, cn_1, ro_1, Qh_1⟩, hc, hf⟩ | ⟨⟨r_1, rT_1, fT_1, rH_1, fH_1, cn_1, ro_1, Qh_1⟩, hc, hf⟩
  · try dsimp only at hf
    by_cases cE : E_1 = "java/lang/IndexOutOfBoundsException"
    · replace hf := fp_t cE hf
      subst cE
      cases hf
      refine tx_VJ (As := [.int x1, .int x2]) (rest := [.int (0 : Int32), .ref (o0)]) (nL := 5) (ws' := ((wLR X x0 hh ht ch tx y hy rP fP rT' fT' rG fG rL fL rH' fH' gi di re ti rPT fPT rTT fTT rGT fGT rLT fLT rHT fHT giT diT reT tiT rS fS rB fB rO fO pl fa cn' ro' Qh') ++ (wOut X o0 fo))) ⟨hx, hb, hml, hown, hts⟩ (c_X5_addThing_x l hfl X x0 hh ht ch tx y hy rP fP rT fT rG fG rL fL rH fH gi di re ti rPT fPT rTT fTT rGT fGT rLT fLT rHT fHT giT diT reT tiT rS fS rB fB rO fO pl fa cn ro Qh x1 x2 ("java/lang/IndexOutOfBoundsException") rT' fT' rH' fH' cn' ro' Qh' hc) (cwV 2 hts gL_addThing_X5_addThing rfl rfl rfl (by decide +kernel) ⟨Nat.le_of_ble_eq_true rfl, Nat.le_of_ble_eq_true rfl⟩) 5 rfl rfl rfl rfl hl.1 rfl (Nat.le_of_ble_eq_true rfl) dL_addThing_5 hTS hTZ hK hP hD0 hS hA [0, 1, 2, 3, 4, 5, 6, 7, 8, 9, 10, 11, 12, 13, 14, 15, 16, 17, 18, 19, 20, 21, 22, 23, 24, 25, 26, 27, 28, 29, 30, 31, 32, 33, 34, 35, 36, 37, 38, 39, 40, 41, 42, 43, 44, 45, 46, 47, 48, 49, 50, 51, 52, 53, 54, 55, 56, 57, 58, 59, 60, 61, 62, 63, 64, 65, 66, 67, 68, 69, 70, 71, 72, 73, 74, 75, 76] (by decide +kernel) oC_a oJ_a ⟨Nat.le_of_ble_eq_true rfl, Nat.le_of_ble_eq_true rfl⟩ (fun q9 ce H locs hP hS h1 h2 h3 => ?_)
      refine vx_catch (own := RL) (name := "java/lang/IndexOutOfBoundsException") hown [] ⟨0, 10, 13, 13⟩ [⟨0, 10, 17, 15⟩, ⟨0, 10, 21, 17⟩] hex (fun z hz => nomatch hz) rfl (by decide) (hts (.classLink RL 13 "java/lang/IndexOutOfBoundsException") (by decide +kernel)) (hTS.2.1.use _ (List.mem_of_getElem? (i := 4) rfl)) h1 h2 h3 ?_
      refine lv_astore (lv' := [(4, .ref q9), (0, .ref (x0)), (1, .int x1), (2, .int x2), (3, .ref (o0))]) hx hb dL_addThing_13 hl (by decide) rfl (fun ls hl => ?_)
      refine lv_iconst (v := 1) hx hb dL_addThing_15 (by decide) ?_
      exact fw_iret hx hb hr hlocks hP hS (Nat.le_of_ble_eq_true rfl) (Nat.le_of_ble_eq_true rfl) dL_addThing_16
    · replace hf := fp_f cE hf
      by_cases cE : E_1 = "java/lang/IllegalArgumentException"
      · replace hf := fp_t cE hf
        subst cE
        cases hf
        refine tx_VJ (As := [.int x1, .int x2]) (rest := [.int (0 : Int32), .ref (o0)]) (nL := 5) (ws' := ((wLR X x0 hh ht ch tx y hy rP fP rT' fT' rG fG rL fL rH' fH' gi di re ti rPT fPT rTT fTT rGT fGT rLT fLT rHT fHT giT diT reT tiT rS fS rB fB rO fO pl fa cn' ro' Qh') ++ (wOut X o0 fo))) ⟨hx, hb, hml, hown, hts⟩ (c_X5_addThing_x l hfl X x0 hh ht ch tx y hy rP fP rT fT rG fG rL fL rH fH gi di re ti rPT fPT rTT fTT rGT fGT rLT fLT rHT fHT giT diT reT tiT rS fS rB fB rO fO pl fa cn ro Qh x1 x2 ("java/lang/IllegalArgumentException") rT' fT' rH' fH' cn' ro' Qh' hc) (cwV 2 hts gL_addThing_X5_addThing rfl rfl rfl (by decide +kernel) ⟨Nat.le_of_ble_eq_true rfl, Nat.le_of_ble_eq_true rfl⟩) 5 rfl rfl rfl rfl hl.1 rfl (Nat.le_of_ble_eq_true rfl) dL_addThing_5 hTS hTZ hK hP hD0 hS hA [0, 1, 2, 3, 4, 5, 6, 7, 8, 9, 10, 11, 12, 13, 14, 15, 16, 17, 18, 19, 20, 21, 22, 23, 24, 25, 26, 27, 28, 29, 30, 31, 32, 33, 34, 35, 36, 37, 38, 39, 40, 41, 42, 43, 44, 45, 46, 47, 48, 49, 50, 51, 52, 53, 54, 55, 56, 57, 58, 59, 60, 61, 62, 63, 64, 65, 66, 67, 68, 69, 70, 71, 72, 73, 74, 75, 76] (by decide +kernel) oC_a oJ_a ⟨Nat.le_of_ble_eq_true rfl, Nat.le_of_ble_eq_true rfl⟩ (fun q9 ce H locs hP hS h1 h2 h3 => ?_)
        have hpass : ∀ z ∈ ([⟨0, 10, 13, 13⟩] : List ExceptionTableEntry), covers z 5 = false ∨ (z.catchType ≠ 0 ∧ ∃ nm : String, (Cond.classLink RL z.catchType nm).before args s = true ∧ va_Nc "java/lang/IllegalArgumentException" nm s) := by
          intro z hz
          simp only [List.mem_cons, List.not_mem_nil, or_false] at hz
          rcases hz with rfl
          · exact Or.inr ⟨by decide, "java/lang/IndexOutOfBoundsException", hts (.classLink RL 13 "java/lang/IndexOutOfBoundsException") (by decide +kernel), hTS.2.2.1⟩
        refine vx_catch (own := RL) (name := "java/lang/IllegalArgumentException") hown [⟨0, 10, 13, 13⟩] ⟨0, 10, 17, 15⟩ [⟨0, 10, 21, 17⟩] hex hpass rfl (by decide) (hts (.classLink RL 15 "java/lang/IllegalArgumentException") (by decide +kernel)) (hTS.2.1.use _ (List.mem_of_getElem? (i := 5) rfl)) h1 h2 h3 ?_
        refine lv_astore (lv' := [(4, .ref q9), (0, .ref (x0)), (1, .int x1), (2, .int x2), (3, .ref (o0))]) hx hb dL_addThing_17 hl (by decide) rfl (fun ls hl => ?_)
        refine lv_iconst (v := 2) hx hb dL_addThing_19 (by decide) ?_
        exact fw_iret hx hb hr hlocks hP hS (Nat.le_of_ble_eq_true rfl) (Nat.le_of_ble_eq_true rfl) dL_addThing_20
      · replace hf := fp_f cE hf
        by_cases cE : E_1 = "java/lang/IllegalStateException"
        · replace hf := fp_t cE hf
          subst cE
          cases hf
          refine tx_VJ (As := [.int x1, .int x2]) (rest := [.int (0 : Int32), .ref (o0)]) (nL := 5) (ws' := ((wLR X x0 hh ht ch tx y hy rP fP rT' fT' rG fG rL fL rH' fH' gi di re ti rPT fPT rTT fTT rGT fGT rLT fLT rHT fHT giT diT reT tiT rS fS rB fB rO fO pl fa cn' ro' Qh') ++ (wOut X o0 fo))) ⟨hx, hb, hml, hown, hts⟩ (c_X5_addThing_x l hfl X x0 hh ht ch tx y hy rP fP rT fT rG fG rL fL rH fH gi di re ti rPT fPT rTT fTT rGT fGT rLT fLT rHT fHT giT diT reT tiT rS fS rB fB rO fO pl fa cn ro Qh x1 x2 ("java/lang/IllegalStateException") rT' fT' rH' fH' cn' ro' Qh' hc) (cwV 2 hts gL_addThing_X5_addThing rfl rfl rfl (by decide +kernel) ⟨Nat.le_of_ble_eq_true rfl, Nat.le_of_ble_eq_true rfl⟩) 5 rfl rfl rfl rfl hl.1 rfl (Nat.le_of_ble_eq_true rfl) dL_addThing_5 hTS hTZ hK hP hD0 hS hA [0, 1, 2, 3, 4, 5, 6, 7, 8, 9, 10, 11, 12, 13, 14, 15, 16, 17, 18, 19, 20, 21, 22, 23, 24, 25, 26, 27, 28, 29, 30, 31, 32, 33, 34, 35, 36, 37, 38, 39, 40, 41, 42, 43, 44, 45, 46, 47, 48, 49, 50, 51, 52, 53, 54, 55, 56, 57, 58, 59, 60, 61, 62, 63, 64, 65, 66, 67, 68, 69, 70, 71, 72, 73, 74, 75, 76] (by decide +kernel) oC_a oJ_a ⟨Nat.le_of_ble_eq_true rfl, Nat.le_of_ble_eq_true rfl⟩ (fun q9 ce H locs hP hS h1 h2 h3 => ?_)
          have hpass : ∀ z ∈ ([⟨0, 10, 13, 13⟩, ⟨0, 10, 17, 15⟩] : List ExceptionTableEntry), covers z 5 = false ∨ (z.catchType ≠ 0 ∧ ∃ nm : String, (Cond.classLink RL z.catchType nm).before args s = true ∧ va_Nc "java/lang/IllegalStateException" nm s) := by
            intro z hz
            simp only [List.mem_cons, List.not_mem_nil, or_false] at hz
            rcases hz with rfl | rfl
            · exact Or.inr ⟨by decide, "java/lang/IndexOutOfBoundsException", hts (.classLink RL 13 "java/lang/IndexOutOfBoundsException") (by decide +kernel), hTS.2.2.2.1⟩
            · exact Or.inr ⟨by decide, "java/lang/IllegalArgumentException", hts (.classLink RL 15 "java/lang/IllegalArgumentException") (by decide +kernel), hTS.2.2.2.2.1⟩
          refine vx_catch (own := RL) (name := "java/lang/IllegalStateException") hown [⟨0, 10, 13, 13⟩, ⟨0, 10, 17, 15⟩] ⟨0, 10, 21, 17⟩ [] hex hpass rfl (by decide) (hts (.classLink RL 17 "java/lang/IllegalStateException") (by decide +kernel)) (hTS.2.1.use _ (List.mem_of_getElem? (i := 3) rfl)) h1 h2 h3 ?_
          refine lv_astore (lv' := [(4, .ref q9), (0, .ref (x0)), (1, .int x1), (2, .int x2), (3, .ref (o0))]) hx hb dL_addThing_21 hl (by decide) rfl (fun ls hl => ?_)
          refine lv_iconst (v := 3) hx hb dL_addThing_23 (by decide) ?_
          exact fw_iret hx hb hr hlocks hP hS (Nat.le_of_ble_eq_true rfl) (Nat.le_of_ble_eq_true rfl) dL_addThing_24
        · replace hf := fp_f cE hf
          cases hf
  · try dsimp only at hf
    obtain ⟨hi_1, hf⟩ := ix_of hf
    refine fn_VJ (v := some (.int r_1)) (As := [.int x1, .int x2]) (rest := [.int (0 : Int32), .ref (o0)]) (st1 := [.int r_1, .int (0 : Int32), .ref (o0)]) (ws' := ((wLR X x0 hh ht ch tx y hy rP fP rT_1 fT_1 rG fG rL fL rH_1 fH_1 gi di re ti rPT fPT rTT fTT rGT fGT rLT fLT rHT fHT giT diT reT tiT rS fS rB fB rO fO pl fa cn_1 ro_1 Qh_1) ++ (wOut X o0 fo))) (nL := 5) ⟨hx, hb, hml, hown, hts⟩ (c_X5_addThing l X x0 hh ht ch tx y hy rP fP rT fT rG fG rL fL rH fH gi di re ti rPT fPT rTT fTT rGT fGT rLT fLT rHT fHT giT diT reT tiT rS fS rB fB rO fO pl fa cn ro Qh x1 x2 r_1 rT_1 fT_1 rH_1 fH_1 cn_1 ro_1 Qh_1 hc) (cwV 2 hts gL_addThing_X5_addThing rfl rfl rfl (by decide +kernel) ⟨Nat.le_of_ble_eq_true rfl, Nat.le_of_ble_eq_true rfl⟩) 5 rfl rfl rfl rfl hl.1 rfl (Nat.le_of_ble_eq_true rfl) dL_addThing_5 hK hP hD0 hS hA [0, 1, 2, 3, 4, 5, 6, 7, 8, 9, 10, 11, 12, 13, 14, 15, 16, 17, 18, 19, 20, 21, 22, 23, 24, 25, 26, 27, 28, 29, 30, 31, 32, 33, 34, 35, 36, 37, 38, 39, 40, 41, 42, 43, 44, 45, 46, 47, 48, 49, 50, 51, 52, 53, 54, 55, 56, 57, 58, 59, 60, 61, 62, 63, 64, 65, 66, 67, 68, 69, 70, 71, 72, 73, 74, 75, 76] (by decide +kernel) oC_a oJ_a (wLO_fst.trans wLO_fst.symm) rfl ⟨Nat.zero_le _, Nat.zero_le _⟩ (fun H locs hP hD hS => ?_)
    refine lv_i2l (v := r_1.toInt64) hx hb dL_addThing_8 rfl ?_
    refine va_last hx hb hK.1 hP hD hS 77 1 (get_last 77 rfl) rfl hi_1 dL_addThing_9 (fun H locs hP hD hS => ?_)
    rw [set_last 77 rfl] at hP
    obtain ⟨fo_1, efo_1⟩ : ∃ g : Nat → Int64, g = vp_updL fo (0 : Int32).toNatClampNeg r_1.toInt64 := ⟨_, rfl⟩
    replace hf := nm_of efo_1 hf
    rw [← efo_1] at hP
    have hP : va_P X.1 vwCl ((wLR X x0 hh ht ch tx y hy rP fP rT_1 fT_1 rG fG rL fL rH_1 fH_1 gi di re ti rPT fPT rTT fTT rGT fGT rLT fLT rHT fHT giT diT reT tiT rS fS rB fB rO fO pl fa cn_1 ro_1 Qh_1) ++ (wOut X o0 fo_1)) H := hP
    refine lv_goto (tgt := 25) hx hb dL_addThing_10 (by decide) ?_
    refine lv_iconst (v := 0) hx hb dL_addThing_25 (by decide) ?_
    cases hf
    exact fw_iret hx hb hr hlocks hP hS (Nat.le_of_ble_eq_true rfl) (Nat.le_of_ble_eq_true rfl) dL_addThing_26

def f_L_setMask (x1 : Int32) (x2 : Int32) (rP : Int32) (fP : (Nat → Int32)) (rT : Int32) (fT : (Nat → Int32)) (rG : Int32) (fG : (Nat → Int32)) (rL : Int32) (fL : (Nat → Int32)) (rH : Int32) (fH : (Nat → Int32)) (gi : Int32) (di : Int32) (re : Int32) (ti : Int32) (cn : Int32) (ro : Nat) (Qh : (Nat → HS)) (fo : (Nat → Int64)) : Option (Int32 × (Nat → Int32) × (Nat → Int32) × Int32 × Nat × (Nat → HS) × (Nat → Int64)) :=
  bx (f_X5_setMask x1 x2 rP fP rT fT rG fG rL fL rH fH gi di re ti cn ro Qh) (fun e_ => if e_.1 = "java/lang/IndexOutOfBoundsException" then some ((1 : Int32), e_.2.1, e_.2.2.1, e_.2.2.2.1, e_.2.2.2.2.1, e_.2.2.2.2.2, fo) else if e_.1 = "java/lang/IllegalArgumentException" then some ((2 : Int32), e_.2.1, e_.2.2.1, e_.2.2.2.1, e_.2.2.2.2.1, e_.2.2.2.2.2, fo) else none) (fun o_ => ix (0 : Int32) 1 (nm (vp_updL fo (0 : Int32).toNatClampNeg o_.1.toInt64) (fun fo_1 => some ((0 : Int32), o_.2.1, o_.2.2.1, o_.2.2.2.1, o_.2.2.2.2.1, o_.2.2.2.2.2, fo_1))))
set_option maxHeartbeats 4000000 in
set_option maxRecDepth 100000 in
theorem c_L_setMask (l : Launch) (hfl : l.stackTraces = false) (X : cx_G) (x0 : Nat) (hh : (Nat → Nat)) (ht : (Nat → Nat)) (ch : (Nat → Nat)) (tx : (Nat → Nat)) (y : (Nat → Nat)) (hy : (Nat → Nat → Nat)) (o0 : Nat) (rP : Int32) (fP : (Nat → Int32)) (rT : Int32) (fT : (Nat → Int32)) (rG : Int32) (fG : (Nat → Int32)) (rL : Int32) (fL : (Nat → Int32)) (rH : Int32) (fH : (Nat → Int32)) (gi : Int32) (di : Int32) (re : Int32) (ti : Int32) (rPT : Int32) (fPT : (Nat → Int32)) (rTT : Int32) (fTT : (Nat → Int32)) (rGT : Int32) (fGT : (Nat → Int32)) (rLT : Int32) (fLT : (Nat → Int32)) (rHT : Int32) (fHT : (Nat → Int32)) (giT : Int32) (diT : Int32) (reT : Int32) (tiT : Int32) (rS : Int32) (fS : (Nat → Int32)) (rB : Int32) (fB : (Nat → Int32)) (rO : Int32) (fO : (Nat → Int32)) (pl : Int32) (fa : Int32) (cn : Int32) (ro : Nat) (Qh : (Nat → HS)) (fo : (Nat → Int64)) (x1 : Int32) (x2 : Int32) (r : Int32) (fT' : (Nat → Int32)) (fH' : (Nat → Int32)) (cn' : Int32) (ro' : Nat) (Qh' : (Nat → HS)) (fo' : (Nat → Int64)) (hf : f_L_setMask x1 x2 rP fP rT fT rG fG rL fL rH fH gi di re ti cn ro Qh fo = some (r, fT', fH', cn', ro', Qh', fo')) : Fw l yL_setMask wsL_setMask ({ frames := 9, cells := 1, slots := 6, locals := 154 } : Room) X [.ref (x0), .int x1, .int x2, .ref (o0)] ((wLR X x0 hh ht ch tx y hy rP fP rT fT rG fG rL fL rH fH gi di re ti rPT fPT rTT fTT rGT fGT rLT fLT rHT fHT giT diT reT tiT rS fS rB fB rO fO pl fa cn ro Qh) ++ (wOut X o0 fo)) (some (.int r)) ((wLR X x0 hh ht ch tx y hy rP fP rT fT' rG fG rL fL rH fH' gi di re ti rPT fPT rTT fTT rGT fGT rLT fLT rHT fHT giT diT reT tiT rS fS rB fB rO fO pl fa cn' ro' Qh') ++ (wOut X o0 fo')) := by
  refine fw_intro (cc := cL_setMask) (maxL := 5) (ret := (some .int)) (hh := [(0, 10, 13, 13), (0, 10, 17, 15)]) (by decide) rfl (wLO_fst.trans wLO_fst.symm) (Nat.le_of_ble_eq_true rfl) ?_
  intro p e s m args below meth c A ls hx hb hml hr hts hown hlocks hex hK hP hD0 hS hA hTS hTZ hl
  have hown : s.vm.findClass RL = some m.cls := hown
  have hl : lv_has ls 5 [(0, .ref (x0)), (1, .int x1), (2, .int x2), (3, .ref (o0))] := hl
  have hex : c.exceptionTable.toList = [⟨0, 10, 13, 13⟩, ⟨0, 10, 17, 15⟩] := hex.trans rfl
  unfold f_L_setMask at hf
  refine lv_aload_n hx hb dL_setMask_0 rfl (lv_at hl 3 rfl) ?_
  refine lv_iconst (v := 0) hx hb dL_setMask_1 (by decide) ?_
  refine lv_aload_n hx hb dL_setMask_2 rfl (lv_at hl 0 rfl) ?_
  refine lv_iload_n hx hb dL_setMask_3 rfl (lv_at hl 1 rfl) ?_
  refine lv_iload_n hx hb dL_setMask_4 rfl (lv_at hl 2 rfl) ?_
  rcases bx_of hf with ⟨⟨E_1, fT_1, fH_1, cn_1, ro_1, Qh_1⟩, hc, hf⟩ | ⟨⟨r_1, fT_1, fH_1, cn_1, ro_1, Qh_1⟩, hc, hf⟩
  · try dsimp only at hf
    by_cases cE : E_1 = "java/lang/IndexOutOfBoundsException"
    · replace hf := fp_t cE hf
      subst cE
      cases hf
      refine tx_VJ (As := [.int x1, .int x2]) (rest := [.int (0 : Int32), .ref (o0)]) (nL := 5) (ws' := ((wLR X x0 hh ht ch tx y hy rP fP rT fT' rG fG rL fL rH fH' gi di re ti rPT fPT rTT fTT rGT fGT rLT fLT rHT fHT giT diT reT tiT rS fS rB fB rO fO pl fa cn' ro' Qh') ++ (wOut X o0 fo))) ⟨hx, hb, hml, hown, hts⟩ (c_X5_setMask_x l hfl X x0 hh ht ch tx y hy rP fP rT fT rG fG rL fL rH fH gi di re ti rPT fPT rTT fTT rGT fGT rLT fLT rHT fHT giT diT reT tiT rS fS rB fB rO fO pl fa cn ro Qh x1 x2 ("java/lang/IndexOutOfBoundsException") fT' fH' cn' ro' Qh' hc) (cwV 2 hts gL_setMask_X5_setMask rfl rfl rfl (by decide +kernel) ⟨Nat.le_of_ble_eq_true rfl, Nat.le_of_ble_eq_true rfl⟩) 5 rfl rfl rfl rfl hl.1 rfl (Nat.le_of_ble_eq_true rfl) dL_setMask_5 hTS hTZ hK hP hD0 hS hA [0, 1, 2, 3, 4, 5, 6, 7, 8, 9, 10, 11, 12, 13, 14, 15, 16, 17, 18, 19, 20, 21, 22, 23, 24, 25, 26, 27, 28, 29, 30, 31, 32, 33, 34, 35, 36, 37, 38, 39, 40, 41, 42, 43, 44, 45, 46, 47, 48, 49, 50, 51, 52, 53, 54, 55, 56, 57, 58, 59, 60, 61, 62, 63, 64, 65, 66, 67, 68, 69, 70, 71, 72, 73, 74, 75, 76] (by decide +kernel) oC_a oJ_a ⟨Nat.le_of_ble_eq_true rfl, Nat.le_of_ble_eq_true rfl⟩ (fun q9 ce H locs hP hS h1 h2 h3 => ?_)
      refine vx_catch (own := RL) (name := "java/lang/IndexOutOfBoundsException") hown [] ⟨0, 10, 13, 13⟩ [⟨0, 10, 17, 15⟩] hex (fun z hz => nomatch hz) rfl (by decide) (hts (.classLink RL 13 "java/lang/IndexOutOfBoundsException") (by decide +kernel)) (hTS.2.1.use _ (List.mem_of_getElem? (i := 4) rfl)) h1 h2 h3 ?_
      refine lv_astore (lv' := [(4, .ref q9), (0, .ref (x0)), (1, .int x1), (2, .int x2), (3, .ref (o0))]) hx hb dL_setMask_13 hl (by decide) rfl (fun ls hl => ?_)
      refine lv_iconst (v := 1) hx hb dL_setMask_15 (by decide) ?_
      exact fw_iret hx hb hr hlocks hP hS (Nat.le_of_ble_eq_true rfl) (Nat.le_of_ble_eq_true rfl) dL_setMask_16
    · replace hf := fp_f cE hf
      by_cases cE : E_1 = "java/lang/IllegalArgumentException"
      · replace hf := fp_t cE hf
        subst cE
        cases hf
        refine tx_VJ (As := [.int x1, .int x2]) (rest := [.int (0 : Int32), .ref (o0)]) (nL := 5) (ws' := ((wLR X x0 hh ht ch tx y hy rP fP rT fT' rG fG rL fL rH fH' gi di re ti rPT fPT rTT fTT rGT fGT rLT fLT rHT fHT giT diT reT tiT rS fS rB fB rO fO pl fa cn' ro' Qh') ++ (wOut X o0 fo))) ⟨hx, hb, hml, hown, hts⟩ (c_X5_setMask_x l hfl X x0 hh ht ch tx y hy rP fP rT fT rG fG rL fL rH fH gi di re ti rPT fPT rTT fTT rGT fGT rLT fLT rHT fHT giT diT reT tiT rS fS rB fB rO fO pl fa cn ro Qh x1 x2 ("java/lang/IllegalArgumentException") fT' fH' cn' ro' Qh' hc) (cwV 2 hts gL_setMask_X5_setMask rfl rfl rfl (by decide +kernel) ⟨Nat.le_of_ble_eq_true rfl, Nat.le_of_ble_eq_true rfl⟩) 5 rfl rfl rfl rfl hl.1 rfl (Nat.le_of_ble_eq_true rfl) dL_setMask_5 hTS hTZ hK hP hD0 hS hA [0, 1, 2, 3, 4, 5, 6, 7, 8, 9, 10, 11, 12, 13, 14, 15, 16, 17, 18, 19, 20, 21, 22, 23, 24, 25, 26, 27, 28, 29, 30, 31, 32, 33, 34, 35, 36, 37, 38, 39, 40, 41, 42, 43, 44, 45, 46, 47, 48, 49, 50, 51, 52, 53, 54, 55, 56, 57, 58, 59, 60, 61, 62, 63, 64, 65, 66, 67, 68, 69, 70, 71, 72, 73, 74, 75, 76] (by decide +kernel) oC_a oJ_a ⟨Nat.le_of_ble_eq_true rfl, Nat.le_of_ble_eq_true rfl⟩ (fun q9 ce H locs hP hS h1 h2 h3 => ?_)
        have hpass : ∀ z ∈ ([⟨0, 10, 13, 13⟩] : List ExceptionTableEntry), covers z 5 = false ∨ (z.catchType ≠ 0 ∧ ∃ nm : String, (Cond.classLink RL z.catchType nm).before args s = true ∧ va_Nc "java/lang/IllegalArgumentException" nm s) := by
          intro z hz
          simp only [List.mem_cons, List.not_mem_nil, or_false] at hz
          rcases hz with rfl
          · exact Or.inr ⟨by decide, "java/lang/IndexOutOfBoundsException", hts (.classLink RL 13 "java/lang/IndexOutOfBoundsException") (by decide +kernel), hTS.2.2.1⟩
        refine vx_catch (own := RL) (name := "java/lang/IllegalArgumentException") hown [⟨0, 10, 13, 13⟩] ⟨0, 10, 17, 15⟩ [] hex hpass rfl (by decide) (hts (.classLink RL 15 "java/lang/IllegalArgumentException") (by decide +kernel)) (hTS.2.1.use _ (List.mem_of_getElem? (i := 5) rfl)) h1 h2 h3 ?_
        refine lv_astore (lv' := [(4, .ref q9), (0, .ref (x0)), (1, .int x1), (2, .int x2), (3, .ref (o0))]) hx hb dL_setMask_17 hl (by decide) rfl (fun ls hl => ?_)
        refine lv_iconst (v := 2) hx hb dL_setMask_19 (by decide) ?_
        exact fw_iret hx hb hr hlocks hP hS (Nat.le_of_ble_eq_true rfl) (Nat.le_of_ble_eq_true rfl) dL_setMask_20
      · replace hf := fp_f cE hf
        cases hf
  · try dsimp only at hf
    obtain ⟨hi_1, hf⟩ := ix_of hf
    refine fn_VJ (v := some (.int r_1)) (As := [.int x1, .int x2]) (rest := [.int (0 : Int32), .ref (o0)]) (st1 := [.int r_1, .int (0 : Int32), .ref (o0)]) (ws' := ((wLR X x0 hh ht ch tx y hy rP fP rT fT_1 rG fG rL fL rH fH_1 gi di re ti rPT fPT rTT fTT rGT fGT rLT fLT rHT fHT giT diT reT tiT rS fS rB fB rO fO pl fa cn_1 ro_1 Qh_1) ++ (wOut X o0 fo))) (nL := 5) ⟨hx, hb, hml, hown, hts⟩ (c_X5_setMask l X x0 hh ht ch tx y hy rP fP rT fT rG fG rL fL rH fH gi di re ti rPT fPT rTT fTT rGT fGT rLT fLT rHT fHT giT diT reT tiT rS fS rB fB rO fO pl fa cn ro Qh x1 x2 r_1 fT_1 fH_1 cn_1 ro_1 Qh_1 hc) (cwV 2 hts gL_setMask_X5_setMask rfl rfl rfl (by decide +kernel) ⟨Nat.le_of_ble_eq_true rfl, Nat.le_of_ble_eq_true rfl⟩) 5 rfl rfl rfl rfl hl.1 rfl (Nat.le_of_ble_eq_true rfl) dL_setMask_5 hK hP hD0 hS hA [0, 1, 2, 3, 4, 5, 6, 7, 8, 9, 10, 11, 12, 13, 14, 15, 16, 17, 18, 19, 20, 21, 22, 23, 24, 25, 26, 27, 28, 29, 30, 31, 32, 33, 34, 35, 36, 37, 38, 39, 40, 41, 42, 43, 44, 45, 46, 47, 48, 49, 50, 51, 52, 53, 54, 55, 56, 57, 58, 59, 60, 61, 62, 63, 64, 65, 66, 67, 68, 69, 70, 71, 72, 73, 74, 75, 76] (by decide +kernel) oC_a oJ_a (wLO_fst.trans wLO_fst.symm) rfl ⟨Nat.zero_le _, Nat.zero_le _⟩ (fun H locs hP hD hS => ?_)
    refine lv_i2l (v := r_1.toInt64) hx hb dL_setMask_8 rfl ?_
    refine va_last hx hb hK.1 hP hD hS 77 1 (get_last 77 rfl) rfl hi_1 dL_setMask_9 (fun H locs hP hD hS => ?_)
    rw [set_last 77 rfl] at hP
    obtain ⟨fo_1, efo_1⟩ : ∃ g : Nat → Int64, g = vp_updL fo (0 : Int32).toNatClampNeg r_1.toInt64 := ⟨_, rfl⟩
    replace hf := nm_of efo_1 hf
    rw [← efo_1] at hP
    have hP : va_P X.1 vwCl ((wLR X x0 hh ht ch tx y hy rP fP rT fT_1 rG fG rL fL rH fH_1 gi di re ti rPT fPT rTT fTT rGT fGT rLT fLT rHT fHT giT diT reT tiT rS fS rB fB rO fO pl fa cn_1 ro_1 Qh_1) ++ (wOut X o0 fo_1)) H := hP
    refine lv_goto (tgt := 21) hx hb dL_setMask_10 (by decide) ?_
    refine lv_iconst (v := 0) hx hb dL_setMask_21 (by decide) ?_
    cases hf
    exact fw_iret hx hb hr hlocks hP hS (Nat.le_of_ble_eq_true rfl) (Nat.le_of_ble_eq_true rfl) dL_setMask_22

def f_L_setBase (x1 : Int32) (x2 : Int32) (rP : Int32) (fP : (Nat → Int32)) (rT : Int32) (fT : (Nat → Int32)) (rG : Int32) (fG : (Nat → Int32)) (rL : Int32) (fL : (Nat → Int32)) (rH : Int32) (fH : (Nat → Int32)) (gi : Int32) (di : Int32) (re : Int32) (ti : Int32) (cn : Int32) (ro : Nat) (Qh : (Nat → HS)) (fo : (Nat → Int64)) : Option (Int32 × (Nat → Int32) × Int32 × Nat × (Nat → HS) × (Nat → Int64)) :=
  bx (f_X5_setBase x1 x2 rP fP rT fT rG fG rL fL rH fH gi di re ti cn ro Qh) (fun e_ => if e_.1 = "java/lang/IndexOutOfBoundsException" then some ((1 : Int32), e_.2.1, e_.2.2.1, e_.2.2.2.1, e_.2.2.2.2, fo) else if e_.1 = "java/lang/IllegalArgumentException" then some ((2 : Int32), e_.2.1, e_.2.2.1, e_.2.2.2.1, e_.2.2.2.2, fo) else none) (fun o_ => ix (0 : Int32) 1 (nm (vp_updL fo (0 : Int32).toNatClampNeg o_.1.toInt64) (fun fo_1 => some ((0 : Int32), o_.2.1, o_.2.2.1, o_.2.2.2.1, o_.2.2.2.2, fo_1))))
set_option maxHeartbeats 4000000 in
set_option maxRecDepth 100000 in
theorem c_L_setBase (l : Launch) (hfl : l.stackTraces = false) (X : cx_G) (x0 : Nat) (hh : (Nat → Nat)) (ht : (Nat → Nat)) (ch : (Nat → Nat)) (tx : (Nat → Nat)) (y : (Nat → Nat)) (hy : (Nat → Nat → Nat)) (o0 : Nat) (rP : Int32) (fP : (Nat → Int32)) (rT : Int32) (fT : (Nat → Int32)) (rG : Int32) (fG : (Nat → Int32)) (rL : Int32) (fL : (Nat → Int32)) (rH : Int32) (fH : (Nat → Int32)) (gi : Int32) (di : Int32) (re : Int32) (ti : Int32) (rPT : Int32) (fPT : (Nat → Int32)) (rTT : Int32) (fTT : (Nat → Int32)) (rGT : Int32) (fGT : (Nat → Int32)) (rLT : Int32) (fLT : (Nat → Int32)) (rHT : Int32) (fHT : (Nat → Int32)) (giT : Int32) (diT : Int32) (reT : Int32) (tiT : Int32) (rS : Int32) (fS : (Nat → Int32)) (rB : Int32) (fB : (Nat → Int32)) (rO : Int32) (fO : (Nat → Int32)) (pl : Int32) (fa : Int32) (cn : Int32) (ro : Nat) (Qh : (Nat → HS)) (fo : (Nat → Int64)) (x1 : Int32) (x2 : Int32) (r : Int32) (fP' : (Nat → Int32)) (cn' : Int32) (ro' : Nat) (Qh' : (Nat → HS)) (fo' : (Nat → Int64)) (hf : f_L_setBase x1 x2 rP fP rT fT rG fG rL fL rH fH gi di re ti cn ro Qh fo = some (r, fP', cn', ro', Qh', fo')) : Fw l yL_setBase wsL_setBase ({ frames := 8, cells := 1, slots := 6, locals := 135 } : Room) X [.ref (x0), .int x1, .int x2, .ref (o0)] ((wLR X x0 hh ht ch tx y hy rP fP rT fT rG fG rL fL rH fH gi di re ti rPT fPT rTT fTT rGT fGT rLT fLT rHT fHT giT diT reT tiT rS fS rB fB rO fO pl fa cn ro Qh) ++ (wOut X o0 fo)) (some (.int r)) ((wLR X x0 hh ht ch tx y hy rP fP' rT fT rG fG rL fL rH fH gi di re ti rPT fPT rTT fTT rGT fGT rLT fLT rHT fHT giT diT reT tiT rS fS rB fB rO fO pl fa cn' ro' Qh') ++ (wOut X o0 fo')) := by
  refine fw_intro (cc := cL_setBase) (maxL := 5) (ret := (some .int)) (hh := [(0, 10, 13, 13), (0, 10, 17, 15)]) (by decide) rfl (wLO_fst.trans wLO_fst.symm) (Nat.le_of_ble_eq_true rfl) ?_
  intro p e s m args below meth c A ls hx hb hml hr hts hown hlocks hex hK hP hD0 hS hA hTS hTZ hl
  have hown : s.vm.findClass RL = some m.cls := hown
  have hl : lv_has ls 5 [(0, .ref (x0)), (1, .int x1), (2, .int x2), (3, .ref (o0))] := hl
  have hex : c.exceptionTable.toList = [⟨0, 10, 13, 13⟩, ⟨0, 10, 17, 15⟩] := hex.trans rfl
  unfold f_L_setBase at hf
  refine lv_aload_n hx hb dL_setBase_0 rfl (lv_at hl 3 rfl) ?_
  refine lv_iconst (v := 0) hx hb dL_setBase_1 (by decide) ?_
  refine lv_aload_n hx hb dL_setBase_2 rfl (lv_at hl 0 rfl) ?_
  refine lv_iload_n hx hb dL_setBase_3 rfl (lv_at hl 1 rfl) ?_
  refine lv_iload_n hx hb dL_setBase_4 rfl (lv_at hl 2 rfl) ?_
  rcases bx_of hf with ⟨⟨E_1, fP_1, cn_1, ro_1, Qh_1⟩, hc, hf⟩ | ⟨⟨r_1, fP_1, cn_1, ro_1, Qh_1⟩, hc, hf⟩
  · try dsimp only at hf
    by_cases cE : E_1 = "java/lang/IndexOutOfBoundsException"
    · replace hf := fp_t cE hf
      subst cE
      cases hf
      refine tx_VJ (As := [.int x1, .int x2]) (rest := [.int (0 : Int32), .ref (o0)]) (nL := 5) (ws' := ((wLR X x0 hh ht ch tx y hy rP fP' rT fT rG fG rL fL rH fH gi di re ti rPT fPT rTT fTT rGT fGT rLT fLT rHT fHT giT diT reT tiT rS fS rB fB rO fO pl fa cn' ro' Qh') ++ (wOut X o0 fo))) ⟨hx, hb, hml, hown, hts⟩ (c_X5_setBase_x l hfl X x0 hh ht ch tx y hy rP fP rT fT rG fG rL fL rH fH gi di re ti rPT fPT rTT fTT rGT fGT rLT fLT rHT fHT giT diT reT tiT rS fS rB fB rO fO pl fa cn ro Qh x1 x2 ("java/lang/IndexOutOfBoundsException") fP' cn' ro' Qh' hc) (cwV 2 hts gL_setBase_X5_setBase rfl rfl rfl (by decide +kernel) ⟨Nat.le_of_ble_eq_true rfl, Nat.le_of_ble_eq_true rfl⟩) 5 rfl rfl rfl rfl hl.1 rfl (Nat.le_of_ble_eq_true rfl) dL_setBase_5 hTS hTZ hK hP hD0 hS hA [0, 1, 2, 3, 4, 5, 6, 7, 8, 9, 10, 11, 12, 13, 14, 15, 16, 17, 18, 19, 20, 21, 22, 23, 24, 25, 26, 27, 28, 29, 30, 31, 32, 33, 34, 35, 36, 37, 38, 39, 40, 41, 42, 43, 44, 45, 46, 47, 48, 49, 50, 51, 52, 53, 54, 55, 56, 57, 58, 59, 60, 61, 62, 63, 64, 65, 66, 67, 68, 69, 70, 71, 72, 73, 74, 75, 76] (by decide +kernel) oC_a oJ_a ⟨Nat.le_of_ble_eq_true rfl, Nat.le_of_ble_eq_true rfl⟩ (fun q9 ce H locs hP hS h1 h2 h3 => ?_)
      refine vx_catch (own := RL) (name := "java/lang/IndexOutOfBoundsException") hown [] ⟨0, 10, 13, 13⟩ [⟨0, 10, 17, 15⟩] hex (fun z hz => nomatch hz) rfl (by decide) (hts (.classLink RL 13 "java/lang/IndexOutOfBoundsException") (by decide +kernel)) (hTS.2.1.use _ (List.mem_of_getElem? (i := 4) rfl)) h1 h2 h3 ?_
      refine lv_astore (lv' := [(4, .ref q9), (0, .ref (x0)), (1, .int x1), (2, .int x2), (3, .ref (o0))]) hx hb dL_setBase_13 hl (by decide) rfl (fun ls hl => ?_)
      refine lv_iconst (v := 1) hx hb dL_setBase_15 (by decide) ?_
      exact fw_iret hx hb hr hlocks hP hS (Nat.le_of_ble_eq_true rfl) (Nat.le_of_ble_eq_true rfl) dL_setBase_16
    · replace hf := fp_f cE hf
      by_cases cE : E_1 = "java/lang/IllegalArgumentException"
      · replace hf := fp_t cE hf
        subst cE
        cases hf
        refine tx_VJ (As := [.int x1, .int x2]) (rest := [.int (0 : Int32), .ref (o0)]) (nL := 5) (ws' := ((wLR X x0 hh ht ch tx y hy rP fP' rT fT rG fG rL fL rH fH gi di re ti rPT fPT rTT fTT rGT fGT rLT fLT rHT fHT giT diT reT tiT rS fS rB fB rO fO pl fa cn' ro' Qh') ++ (wOut X o0 fo))) ⟨hx, hb, hml, hown, hts⟩ (c_X5_setBase_x l hfl X x0 hh ht ch tx y hy rP fP rT fT rG fG rL fL rH fH gi di re ti rPT fPT rTT fTT rGT fGT rLT fLT rHT fHT giT diT reT tiT rS fS rB fB rO fO pl fa cn ro Qh x1 x2 ("java/lang/IllegalArgumentException") fP' cn' ro' Qh' hc) (cwV 2 hts gL_setBase_X5_setBase rfl rfl rfl (by decide +kernel) ⟨Nat.le_of_ble_eq_true rfl, Nat.le_of_ble_eq_true rfl⟩) 5 rfl rfl rfl rfl hl.1 rfl (Nat.le_of_ble_eq_true rfl) dL_setBase_5 hTS hTZ hK hP hD0 hS hA [0, 1, 2, 3, 4, 5, 6, 7, 8, 9, 10, 11, 12, 13, 14, 15, 16, 17, 18, 19, 20, 21, 22, 23, 24, 25, 26, 27, 28, 29, 30, 31, 32, 33, 34, 35, 36, 37, 38, 39, 40, 41, 42, 43, 44, 45, 46, 47, 48, 49, 50, 51, 52, 53, 54, 55, 56, 57, 58, 59, 60, 61, 62, 63, 64, 65, 66, 67, 68, 69, 70, 71, 72, 73, 74, 75, 76] (by decide +kernel) oC_a oJ_a ⟨Nat.le_of_ble_eq_true rfl, Nat.le_of_ble_eq_true rfl⟩ (fun q9 ce H locs hP hS h1 h2 h3 => ?_)
        have hpass : ∀ z ∈ ([⟨0, 10, 13, 13⟩] : List ExceptionTableEntry), covers z 5 = false ∨ (z.catchType ≠ 0 ∧ ∃ nm : String, (Cond.classLink RL z.catchType nm).before args s = true ∧ va_Nc "java/lang/IllegalArgumentException" nm s) := by
          intro z hz
          simp only [List.mem_cons, List.not_mem_nil, or_false] at hz
          rcases hz with rfl
          · exact Or.inr ⟨by decide, "java/lang/IndexOutOfBoundsException", hts (.classLink RL 13 "java/lang/IndexOutOfBoundsException") (by decide +kernel), hTS.2.2.1⟩
        refine vx_catch (own := RL) (name := "java/lang/IllegalArgumentException") hown [⟨0, 10, 13, 13⟩] ⟨0, 10, 17, 15⟩ [] hex hpass rfl (by decide) (hts (.classLink RL 15 "java/lang/IllegalArgumentException") (by decide +kernel)) (hTS.2.1.use _ (List.mem_of_getElem? (i := 5) rfl)) h1 h2 h3 ?_
        refine lv_astore (lv' := [(4, .ref q9), (0, .ref (x0)), (1, .int x1), (2, .int x2), (3, .ref (o0))]) hx hb dL_setBase_17 hl (by decide) rfl (fun ls hl => ?_)
        refine lv_iconst (v := 2) hx hb dL_setBase_19 (by decide) ?_
        exact fw_iret hx hb hr hlocks hP hS (Nat.le_of_ble_eq_true rfl) (Nat.le_of_ble_eq_true rfl) dL_setBase_20
      · replace hf := fp_f cE hf
        cases hf
  · try dsimp only at hf
    obtain ⟨hi_1, hf⟩ := ix_of hf
    refine fn_VJ (v := some (.int r_1)) (As := [.int x1, .int x2]) (rest := [.int (0 : Int32), .ref (o0)]) (st1 := [.int r_1, .int (0 : Int32), .ref (o0)]) (ws' := ((wLR X x0 hh ht ch tx y hy rP fP_1 rT fT rG fG rL fL rH fH gi di re ti rPT fPT rTT fTT rGT fGT rLT fLT rHT fHT giT diT reT tiT rS fS rB fB rO fO pl fa cn_1 ro_1 Qh_1) ++ (wOut X o0 fo))) (nL := 5) ⟨hx, hb, hml, hown, hts⟩ (c_X5_setBase l X x0 hh ht ch tx y hy rP fP rT fT rG fG rL fL rH fH gi di re ti rPT fPT rTT fTT rGT fGT rLT fLT rHT fHT giT diT reT tiT rS fS rB fB rO fO pl fa cn ro Qh x1 x2 r_1 fP_1 cn_1 ro_1 Qh_1 hc) (cwV 2 hts gL_setBase_X5_setBase rfl rfl rfl (by decide +kernel) ⟨Nat.le_of_ble_eq_true rfl, Nat.le_of_ble_eq_true rfl⟩) 5 rfl rfl rfl rfl hl.1 rfl (Nat.le_of_ble_eq_true rfl) dL_setBase_5 hK hP hD0 hS hA [0, 1, 2, 3, 4, 5, 6, 7, 8, 9, 10, 11, 12, 13, 14, 15, 16, 17, 18, 19, 20, 21, 22, 23, 24, 25, 26, 27, 28, 29, 30, 31, 32, 33, 34, 35, 36, 37, 38, 39, 40, 41, 42, 43, 44, 45, 46, 47, 48, 49, 50, 51, 52, 53, 54, 55, 56, 57, 58, 59, 60, 61, 62, 63, 64, 65, 66, 67, 68, 69, 70, 71, 72, 73, 74, 75, 76] (by decide +kernel) oC_a oJ_a (wLO_fst.trans wLO_fst.symm) rfl ⟨Nat.zero_le _, Nat.zero_le _⟩ (fun H locs hP hD hS => ?_)
    refine lv_i2l (v := r_1.toInt64) hx hb dL_setBase_8 rfl ?_
    refine va_last hx hb hK.1 hP hD hS 77 1 (get_last 77 rfl) rfl hi_1 dL_setBase_9 (fun H locs hP hD hS => ?_)
    rw [set_last 77 rfl] at hP
    obtain ⟨fo_1, efo_1⟩ : ∃ g : Nat → Int64, g = vp_updL fo (0 : Int32).toNatClampNeg r_1.toInt64 := ⟨_, rfl⟩
    replace hf := nm_of efo_1 hf
    rw [← efo_1] at hP
    have hP : va_P X.1 vwCl ((wLR X x0 hh ht ch tx y hy rP fP_1 rT fT rG fG rL fL rH fH gi di re ti rPT fPT rTT fTT rGT fGT rLT fLT rHT fHT giT diT reT tiT rS fS rB fB rO fO pl fa cn_1 ro_1 Qh_1) ++ (wOut X o0 fo_1)) H := hP
    refine lv_goto (tgt := 21) hx hb dL_setBase_10 (by decide) ?_
    refine lv_iconst (v := 0) hx hb dL_setBase_21 (by decide) ?_
    cases hf
    exact fw_iret hx hb hr hlocks hP hS (Nat.le_of_ble_eq_true rfl) (Nat.le_of_ble_eq_true rfl) dL_setBase_22

def f_L_give (x1 : Int32) (x2 : Int32) (rP : Int32) (fP : (Nat → Int32)) (rT : Int32) (fT : (Nat → Int32)) (rG : Int32) (fG : (Nat → Int32)) (rL : Int32) (fL : (Nat → Int32)) (rH : Int32) (fH : (Nat → Int32)) (gi : Int32) (di : Int32) (re : Int32) (ti : Int32) (cn : Int32) (ro : Nat) (Qh : (Nat → HS)) (fo : (Nat → Int64)) : Option (Int32 × (Nat → Int32) × (Nat → Int32) × Int32 × Nat × (Nat → HS) × (Nat → Int64)) :=
  bx (f_X5_give x1 x2 rP fP rT fT rG fG rL fL rH fH gi di re ti cn ro Qh) (fun e_ => if e_.1 = "java/lang/IndexOutOfBoundsException" then some ((1 : Int32), e_.2.1, e_.2.2.1, e_.2.2.2.1, e_.2.2.2.2.1, e_.2.2.2.2.2, fo) else none) (fun o_ => ix (0 : Int32) 1 (nm (vp_updL fo (0 : Int32).toNatClampNeg o_.1.toInt64) (fun fo_1 => some ((0 : Int32), o_.2.1, o_.2.2.1, o_.2.2.2.1, o_.2.2.2.2.1, o_.2.2.2.2.2, fo_1))))
set_option maxHeartbeats 4000000 in
set_option maxRecDepth 100000 in
theorem c_L_give (l : Launch) (hfl : l.stackTraces = false) (X : cx_G) (x0 : Nat) (hh : (Nat → Nat)) (ht : (Nat → Nat)) (ch : (Nat → Nat)) (tx : (Nat → Nat)) (y : (Nat → Nat)) (hy : (Nat → Nat → Nat)) (o0 : Nat) (rP : Int32) (fP : (Nat → Int32)) (rT : Int32) (fT : (Nat → Int32)) (rG : Int32) (fG : (Nat → Int32)) (rL : Int32) (fL : (Nat → Int32)) (rH : Int32) (fH : (Nat → Int32)) (gi : Int32) (di : Int32) (re : Int32) (ti : Int32) (rPT : Int32) (fPT : (Nat → Int32)) (rTT : Int32) (fTT : (Nat → Int32)) (rGT : Int32) (fGT : (Nat → Int32)) (rLT : Int32) (fLT : (Nat → Int32)) (rHT : Int32) (fHT : (Nat → Int32)) (giT : Int32) (diT : Int32) (reT : Int32) (tiT : Int32) (rS : Int32) (fS : (Nat → Int32)) (rB : Int32) (fB : (Nat → Int32)) (rO : Int32) (fO : (Nat → Int32)) (pl : Int32) (fa : Int32) (cn : Int32) (ro : Nat) (Qh : (Nat → HS)) (fo : (Nat → Int64)) (x1 : Int32) (x2 : Int32) (r : Int32) (fT' : (Nat → Int32)) (fH' : (Nat → Int32)) (cn' : Int32) (ro' : Nat) (Qh' : (Nat → HS)) (fo' : (Nat → Int64)) (hf : f_L_give x1 x2 rP fP rT fT rG fG rL fL rH fH gi di re ti cn ro Qh fo = some (r, fT', fH', cn', ro', Qh', fo')) : Fw l yL_give wsL_give ({ frames := 8, cells := 1, slots := 6, locals := 133 } : Room) X [.ref (x0), .int x1, .int x2, .ref (o0)] ((wLR X x0 hh ht ch tx y hy rP fP rT fT rG fG rL fL rH fH gi di re ti rPT fPT rTT fTT rGT fGT rLT fLT rHT fHT giT diT reT tiT rS fS rB fB rO fO pl fa cn ro Qh) ++ (wOut X o0 fo)) (some (.int r)) ((wLR X x0 hh ht ch tx y hy rP fP rT fT' rG fG rL fL rH fH' gi di re ti rPT fPT rTT fTT rGT fGT rLT fLT rHT fHT giT diT reT tiT rS fS rB fB rO fO pl fa cn' ro' Qh') ++ (wOut X o0 fo')) := by
  refine fw_intro (cc := cL_give) (maxL := 5) (ret := (some .int)) (hh := [(0, 10, 13, 13)]) (by decide) rfl (wLO_fst.trans wLO_fst.symm) (Nat.le_of_ble_eq_true rfl) ?_
  intro p e s m args below meth c A ls hx hb hml hr hts hown hlocks hex hK hP hD0 hS hA hTS hTZ hl
  have hown : s.vm.findClass RL = some m.cls := hown
  have hl : lv_has ls 5 [(0, .ref (x0)), (1, .int x1), (2, .int x2), (3, .ref (o0))] := hl
  have hex : c.exceptionTable.toList = [⟨0, 10, 13, 13⟩] := hex.trans rfl
  unfold f_L_give at hf
  refine lv_aload_n hx hb dL_give_0 rfl (lv_at hl 3 rfl) ?_
  refine lv_iconst (v := 0) hx hb dL_give_1 (by decide) ?_
  refine lv_aload_n hx hb dL_give_2 rfl (lv_at hl 0 rfl) ?_
  refine lv_iload_n hx hb dL_give_3 rfl (lv_at hl 1 rfl) ?_
  refine lv_iload_n hx hb dL_give_4 rfl (lv_at hl 2 rfl) ?_
  rcases bx_of hf with ⟨⟨E_1, fT_1, fH_1, cn_1, ro_1, Qh_1⟩, hc, hf⟩ | ⟨⟨r_1, fT_1, fH_1, cn_1, ro_1, Qh_1⟩, hc, hf⟩
  · try dsimp only at hf
    by_cases cE : E_1 = "java/lang/IndexOutOfBoundsException"
    · replace hf := fp_t cE hf
      subst cE
      cases hf
      refine tx_VJ (As := [.int x1, .int x2]) (rest := [.int (0 : Int32), .ref (o0)]) (nL := 5) (ws' := ((wLR X x0 hh ht ch tx y hy rP fP rT fT' rG fG rL fL rH fH' gi di re ti rPT fPT rTT fTT rGT fGT rLT fLT rHT fHT giT diT reT tiT rS fS rB fB rO fO pl fa cn' ro' Qh') ++ (wOut X o0 fo))) ⟨hx, hb, hml, hown, hts⟩ (c_X5_give_x l hfl X x0 hh ht ch tx y hy rP fP rT fT rG fG rL fL rH fH gi di re ti rPT fPT rTT fTT rGT fGT rLT fLT rHT fHT giT diT reT tiT rS fS rB fB rO fO pl fa cn ro Qh x1 x2 ("java/lang/IndexOutOfBoundsException") fT' fH' cn' ro' Qh' hc) (cwV 2 hts gL_give_X5_give rfl rfl rfl (by decide +kernel) ⟨Nat.le_of_ble_eq_true rfl, Nat.le_of_ble_eq_true rfl⟩) 5 rfl rfl rfl rfl hl.1 rfl (Nat.le_of_ble_eq_true rfl) dL_give_5 hTS hTZ hK hP hD0 hS hA [0, 1, 2, 3, 4, 5, 6, 7, 8, 9, 10, 11, 12, 13, 14, 15, 16, 17, 18, 19, 20, 21, 22, 23, 24, 25, 26, 27, 28, 29, 30, 31, 32, 33, 34, 35, 36, 37, 38, 39, 40, 41, 42, 43, 44, 45, 46, 47, 48, 49, 50, 51, 52, 53, 54, 55, 56, 57, 58, 59, 60, 61, 62, 63, 64, 65, 66, 67, 68, 69, 70, 71, 72, 73, 74, 75, 76] (by decide +kernel) oC_a oJ_a ⟨Nat.le_of_ble_eq_true rfl, Nat.le_of_ble_eq_true rfl⟩ (fun q9 ce H locs hP hS h1 h2 h3 => ?_)
      refine vx_catch (own := RL) (name := "java/lang/IndexOutOfBoundsException") hown [] ⟨0, 10, 13, 13⟩ [] hex (fun z hz => nomatch hz) rfl (by decide) (hts (.classLink RL 13 "java/lang/IndexOutOfBoundsException") (by decide +kernel)) (hTS.2.1.use _ (List.mem_of_getElem? (i := 4) rfl)) h1 h2 h3 ?_
      refine lv_astore (lv' := [(4, .ref q9), (0, .ref (x0)), (1, .int x1), (2, .int x2), (3, .ref (o0))]) hx hb dL_give_13 hl (by decide) rfl (fun ls hl => ?_)
      refine lv_iconst (v := 1) hx hb dL_give_15 (by decide) ?_
      exact fw_iret hx hb hr hlocks hP hS (Nat.le_of_ble_eq_true rfl) (Nat.le_of_ble_eq_true rfl) dL_give_16
    · replace hf := fp_f cE hf
      cases hf
  · try dsimp only at hf
    obtain ⟨hi_1, hf⟩ := ix_of hf
    refine fn_VJ (v := some (.int r_1)) (As := [.int x1, .int x2]) (rest := [.int (0 : Int32), .ref (o0)]) (st1 := [.int r_1, .int (0 : Int32), .ref (o0)]) (ws' := ((wLR X x0 hh ht ch tx y hy rP fP rT fT_1 rG fG rL fL rH fH_1 gi di re ti rPT fPT rTT fTT rGT fGT rLT fLT rHT fHT giT diT reT tiT rS fS rB fB rO fO pl fa cn_1 ro_1 Qh_1) ++ (wOut X o0 fo))) (nL := 5) ⟨hx, hb, hml, hown, hts⟩ (c_X5_give l X x0 hh ht ch tx y hy rP fP rT fT rG fG rL fL rH fH gi di re ti rPT fPT rTT fTT rGT fGT rLT fLT rHT fHT giT diT reT tiT rS fS rB fB rO fO pl fa cn ro Qh x1 x2 r_1 fT_1 fH_1 cn_1 ro_1 Qh_1 hc) (cwV 2 hts gL_give_X5_give rfl rfl rfl (by decide +kernel) ⟨Nat.le_of_ble_eq_true rfl, Nat.le_of_ble_eq_true rfl⟩) 5 rfl rfl rfl rfl hl.1 rfl (Nat.le_of_ble_eq_true rfl) dL_give_5 hK hP hD0 hS hA [0, 1, 2, 3, 4, 5, 6, 7, 8, 9, 10, 11, 12, 13, 14, 15, 16, 17, 18, 19, 20, 21, 22, 23, 24, 25, 26, 27, 28, 29, 30, 31, 32, 33, 34, 35, 36, 37, 38, 39, 40, 41, 42, 43, 44, 45, 46, 47, 48, 49, 50, 51, 52, 53, 54, 55, 56, 57, 58, 59, 60, 61, 62, 63, 64, 65, 66, 67, 68, 69, 70, 71, 72, 73, 74, 75, 76] (by decide +kernel) oC_a oJ_a (wLO_fst.trans wLO_fst.symm) rfl ⟨Nat.zero_le _, Nat.zero_le _⟩ (fun H locs hP hD hS => ?_)
    refine lv_i2l (v := r_1.toInt64) hx hb dL_give_8 rfl ?_
    refine va_last hx hb hK.1 hP hD hS 77 1 (get_last 77 rfl) rfl hi_1 dL_give_9 (fun H locs hP hD hS => ?_)
    rw [set_last 77 rfl] at hP
    obtain ⟨fo_1, efo_1⟩ : ∃ g : Nat → Int64, g = vp_updL fo (0 : Int32).toNatClampNeg r_1.toInt64 := ⟨_, rfl⟩
    replace hf := nm_of efo_1 hf
    rw [← efo_1] at hP
    have hP : va_P X.1 vwCl ((wLR X x0 hh ht ch tx y hy rP fP rT fT_1 rG fG rL fL rH fH_1 gi di re ti rPT fPT rTT fTT rGT fGT rLT fLT rHT fHT giT diT reT tiT rS fS rB fB rO fO pl fa cn_1 ro_1 Qh_1) ++ (wOut X o0 fo_1)) H := hP
    refine lv_goto (tgt := 17) hx hb dL_give_10 (by decide) ?_
    refine lv_iconst (v := 0) hx hb dL_give_17 (by decide) ?_
    cases hf
    exact fw_iret hx hb hr hlocks hP hS (Nat.le_of_ble_eq_true rfl) (Nat.le_of_ble_eq_true rfl) dL_give_18

def f_L_grant (x1 : Int32) (x2 : Int32) (x3 : Int32) (x4 : Int32) (x5 : Int32) (rP : Int32) (fP : (Nat → Int32)) (rT : Int32) (fT : (Nat → Int32)) (rG : Int32) (fG : (Nat → Int32)) (rL : Int32) (fL : (Nat → Int32)) (rH : Int32) (fH : (Nat → Int32)) (gi : Int32) (di : Int32) (re : Int32) (ti : Int32) (cn : Int32) (ro : Nat) (Qh : (Nat → HS)) (fo : (Nat → Int64)) : Option (Int32 × Int32 × (Nat → Int32) × (Nat → Int32) × Int32 × Int32 × Nat × (Nat → HS) × (Nat → Int64)) :=
  bx (f_X5_grant x1 x2 x3 x4 x5 rP fP rT fT rG fG rL fL rH fH gi di re ti cn ro Qh) (fun e_ => if e_.1 = "java/lang/IndexOutOfBoundsException" then some ((1 : Int32), e_.2.1, e_.2.2.1, e_.2.2.2.1, e_.2.2.2.2.1, e_.2.2.2.2.2.1, e_.2.2.2.2.2.2.1, e_.2.2.2.2.2.2.2, fo) else if e_.1 = "java/lang/IllegalArgumentException" then some ((2 : Int32), e_.2.1, e_.2.2.1, e_.2.2.2.1, e_.2.2.2.2.1, e_.2.2.2.2.2.1, e_.2.2.2.2.2.2.1, e_.2.2.2.2.2.2.2, fo) else if e_.1 = "java/lang/IllegalStateException" then some ((3 : Int32), e_.2.1, e_.2.2.1, e_.2.2.2.1, e_.2.2.2.2.1, e_.2.2.2.2.2.1, e_.2.2.2.2.2.2.1, e_.2.2.2.2.2.2.2, fo) else none) (fun o_ => ix (0 : Int32) 1 (nm (vp_updL fo (0 : Int32).toNatClampNeg o_.1.toInt64) (fun fo_1 => some ((0 : Int32), o_.2.1, o_.2.2.1, o_.2.2.2.1, o_.2.2.2.2.1, o_.2.2.2.2.2.1, o_.2.2.2.2.2.2.1, o_.2.2.2.2.2.2.2, fo_1))))
set_option maxHeartbeats 4000000 in
set_option maxRecDepth 100000 in
theorem c_L_grant (l : Launch) (hfl : l.stackTraces = false) (X : cx_G) (x0 : Nat) (hh : (Nat → Nat)) (ht : (Nat → Nat)) (ch : (Nat → Nat)) (tx : (Nat → Nat)) (y : (Nat → Nat)) (hy : (Nat → Nat → Nat)) (o0 : Nat) (rP : Int32) (fP : (Nat → Int32)) (rT : Int32) (fT : (Nat → Int32)) (rG : Int32) (fG : (Nat → Int32)) (rL : Int32) (fL : (Nat → Int32)) (rH : Int32) (fH : (Nat → Int32)) (gi : Int32) (di : Int32) (re : Int32) (ti : Int32) (rPT : Int32) (fPT : (Nat → Int32)) (rTT : Int32) (fTT : (Nat → Int32)) (rGT : Int32) (fGT : (Nat → Int32)) (rLT : Int32) (fLT : (Nat → Int32)) (rHT : Int32) (fHT : (Nat → Int32)) (giT : Int32) (diT : Int32) (reT : Int32) (tiT : Int32) (rS : Int32) (fS : (Nat → Int32)) (rB : Int32) (fB : (Nat → Int32)) (rO : Int32) (fO : (Nat → Int32)) (pl : Int32) (fa : Int32) (cn : Int32) (ro : Nat) (Qh : (Nat → HS)) (fo : (Nat → Int64)) (x1 : Int32) (x2 : Int32) (x3 : Int32) (x4 : Int32) (x5 : Int32) (r : Int32) (rG' : Int32) (fG' : (Nat → Int32)) (fH' : (Nat → Int32)) (gi' : Int32) (cn' : Int32) (ro' : Nat) (Qh' : (Nat → HS)) (fo' : (Nat → Int64)) (hf : f_L_grant x1 x2 x3 x4 x5 rP fP rT fT rG fG rL fL rH fH gi di re ti cn ro Qh fo = some (r, rG', fG', fH', gi', cn', ro', Qh', fo')) : Fw l yL_grant wsL_grant ({ frames := 8, cells := 1, slots := 6, locals := 136 } : Room) X [.ref (x0), .int x1, .int x2, .int x3, .int x4, .int x5, .ref (o0)] ((wLR X x0 hh ht ch tx y hy rP fP rT fT rG fG rL fL rH fH gi di re ti rPT fPT rTT fTT rGT fGT rLT fLT rHT fHT giT diT reT tiT rS fS rB fB rO fO pl fa cn ro Qh) ++ (wOut X o0 fo)) (some (.int r)) ((wLR X x0 hh ht ch tx y hy rP fP rT fT rG' fG' rL fL rH fH' gi' di re ti rPT fPT rTT fTT rGT fGT rLT fLT rHT fHT giT diT reT tiT rS fS rB fB rO fO pl fa cn' ro' Qh') ++ (wOut X o0 fo')) := by
  refine fw_intro (cc := cL_grant) (maxL := 8) (ret := (some .int)) (hh := [(0, 16, 19, 13), (0, 16, 23, 15), (0, 16, 27, 17)]) (by decide) rfl (wLO_fst.trans wLO_fst.symm) (Nat.le_of_ble_eq_true rfl) ?_
  intro p e s m args below meth c A ls hx hb hml hr hts hown hlocks hex hK hP hD0 hS hA hTS hTZ hl
  have hown : s.vm.findClass RL = some m.cls := hown
  have hl : lv_has ls 8 [(0, .ref (x0)), (1, .int x1), (2, .int x2), (3, .int x3), (4, .int x4), (5, .int x5), (6, .ref (o0))] := hl
  have hex : c.exceptionTable.toList = [⟨0, 16, 19, 13⟩, ⟨0, 16, 23, 15⟩, ⟨0, 16, 27, 17⟩] := hex.trans rfl
  unfold f_L_grant at hf
  refine lv_aload hx hb dL_grant_0 (lv_at hl 6 rfl) ?_
  refine lv_iconst (v := 0) hx hb dL_grant_2 (by decide) ?_
  refine lv_aload_n hx hb dL_grant_3 rfl (lv_at hl 0 rfl) ?_
  refine lv_iload_n hx hb dL_grant_4 rfl (lv_at hl 1 rfl) ?_
  refine lv_iload_n hx hb dL_grant_5 rfl (lv_at hl 2 rfl) ?_
  refine lv_iload_n hx hb dL_grant_6 rfl (lv_at hl 3 rfl) ?_
  refine lv_iload hx hb dL_grant_7 (lv_at hl 4 rfl) ?_
  refine lv_iload hx hb dL_grant_9 (lv_at hl 5 rfl) ?_
  rcases bx_of hf with ⟨⟨E_1, rG_1, fG_1, fH_1, gi_1, cn_1, ro_1, Qh_1⟩, hc, hf⟩ | ⟨⟨r_1, rG_1, fG_1, fH_1, gi_1, cn_1, ro_1, Qh_1⟩, hc, hf⟩
  · try dsimp only at hf
    by_cases cE : E_1 = "java/lang/IndexOutOfBoundsException"
    · replace hf := fp_t cE hf
      subst cE
      cases hf
      refine tx_VJ (As := [.int x1, .int x2, .int x3, .int x4, .int x5]) (rest := [.int (0 : Int32), .ref (o0)]) (nL := 8) (ws' := ((wLR X x0 hh ht ch tx y hy rP fP rT fT rG' fG' rL fL rH fH' gi' di re ti rPT fPT rTT fTT rGT fGT rLT fLT rHT fHT giT diT reT tiT rS fS rB fB rO fO pl fa cn' ro' Qh') ++ (wOut X o0 fo))) ⟨hx, hb, hml, hown, hts⟩ (c_X5_grant_x l hfl X x0 hh ht ch tx y hy rP fP rT fT rG fG rL fL rH fH gi di re ti rPT fPT rTT fTT rGT fGT rLT fLT rHT fHT giT diT reT tiT rS fS rB fB rO fO pl fa cn ro Qh x1 x2 x3 x4 x5 ("java/lang/IndexOutOfBoundsException") rG' fG' fH' gi' cn' ro' Qh' hc) (cwV 5 hts gL_grant_X5_grant rfl rfl rfl (by decide +kernel) ⟨Nat.le_of_ble_eq_true rfl, Nat.le_of_ble_eq_true rfl⟩) 5 rfl rfl rfl rfl hl.1 rfl (Nat.le_of_ble_eq_true rfl) dL_grant_11 hTS hTZ hK hP hD0 hS hA [0, 1, 2, 3, 4, 5, 6, 7, 8, 9, 10, 11, 12, 13, 14, 15, 16, 17, 18, 19, 20, 21, 22, 23, 24, 25, 26, 27, 28, 29, 30, 31, 32, 33, 34, 35, 36, 37, 38, 39, 40, 41, 42, 43, 44, 45, 46, 47, 48, 49, 50, 51, 52, 53, 54, 55, 56, 57, 58, 59, 60, 61, 62, 63, 64, 65, 66, 67, 68, 69, 70, 71, 72, 73, 74, 75, 76] (by decide +kernel) oC_a oJ_a ⟨Nat.le_of_ble_eq_true rfl, Nat.le_of_ble_eq_true rfl⟩ (fun q9 ce H locs hP hS h1 h2 h3 => ?_)
      refine vx_catch (own := RL) (name := "java/lang/IndexOutOfBoundsException") hown [] ⟨0, 16, 19, 13⟩ [⟨0, 16, 23, 15⟩, ⟨0, 16, 27, 17⟩] hex (fun z hz => nomatch hz) rfl (by decide) (hts (.classLink RL 13 "java/lang/IndexOutOfBoundsException") (by decide +kernel)) (hTS.2.1.use _ (List.mem_of_getElem? (i := 4) rfl)) h1 h2 h3 ?_
      refine lv_astore (lv' := [(7, .ref q9), (0, .ref (x0)), (1, .int x1), (2, .int x2), (3, .int x3), (4, .int x4), (5, .int x5), (6, .ref (o0))]) hx hb dL_grant_19 hl (by decide) rfl (fun ls hl => ?_)
      refine lv_iconst (v := 1) hx hb dL_grant_21 (by decide) ?_
      exact fw_iret hx hb hr hlocks hP hS (Nat.le_of_ble_eq_true rfl) (Nat.le_of_ble_eq_true rfl) dL_grant_22
    · replace hf := fp_f cE hf
      by_cases cE : E_1 = "java/lang/IllegalArgumentException"
      · replace hf := fp_t cE hf
        subst cE
        cases hf
        refine tx_VJ (As := [.int x1, .int x2, .int x3, .int x4, .int x5]) (rest := [.int (0 : Int32), .ref (o0)]) (nL := 8) (ws' := ((wLR X x0 hh ht ch tx y hy rP fP rT fT rG' fG' rL fL rH fH' gi' di re ti rPT fPT rTT fTT rGT fGT rLT fLT rHT fHT giT diT reT tiT rS fS rB fB rO fO pl fa cn' ro' Qh') ++ (wOut X o0 fo))) ⟨hx, hb, hml, hown, hts⟩ (c_X5_grant_x l hfl X x0 hh ht ch tx y hy rP fP rT fT rG fG rL fL rH fH gi di re ti rPT fPT rTT fTT rGT fGT rLT fLT rHT fHT giT diT reT tiT rS fS rB fB rO fO pl fa cn ro Qh x1 x2 x3 x4 x5 ("java/lang/IllegalArgumentException") rG' fG' fH' gi' cn' ro' Qh' hc) (cwV 5 hts gL_grant_X5_grant rfl rfl rfl (by decide +kernel) ⟨Nat.le_of_ble_eq_true rfl, Nat.le_of_ble_eq_true rfl⟩) 5 rfl rfl rfl rfl hl.1 rfl (Nat.le_of_ble_eq_true rfl) dL_grant_11 hTS hTZ hK hP hD0 hS hA [0, 1, 2, 3, 4, 5, 6, 7, 8, 9, 10, 11, 12, 13, 14, 15, 16, 17, 18, 19, 20, 21, 22, 23, 24, 25, 26, 27, 28, 29, 30, 31, 32, 33, 34, 35, 36, 37, 38, 39, 40, 41, 42, 43, 44, 45, 46, 47, 48, 49, 50, 51, 52, 53, 54, 55, 56, 57, 58, 59, 60, 61, 62, 63, 64, 65, 66, 67, 68, 69, 70, 71, 72, 73, 74, 75, 76] (by decide +kernel) oC_a oJ_a ⟨Nat.le_of_ble_eq_true rfl, Nat.le_of_ble_eq_true rfl⟩ (fun q9 ce H locs hP hS h1 h2 h3 => ?_)
        have hpass : ∀ z ∈ ([⟨0, 16, 19, 13⟩] : List ExceptionTableEntry), covers z 11 = false ∨ (z.catchType ≠ 0 ∧ ∃ nm : String, (Cond.classLink RL z.catchType nm).before args s = true ∧ va_Nc "java/lang/IllegalArgumentException" nm s) := by
          intro z hz
          simp only [List.mem_cons, List.not_mem_nil, or_false] at hz
          rcases hz with rfl
          · exact Or.inr ⟨by decide, "java/lang/IndexOutOfBoundsException", hts (.classLink RL 13 "java/lang/IndexOutOfBoundsException") (by decide +kernel), hTS.2.2.1⟩
        refine vx_catch (own := RL) (name := "java/lang/IllegalArgumentException") hown [⟨0, 16, 19, 13⟩] ⟨0, 16, 23, 15⟩ [⟨0, 16, 27, 17⟩] hex hpass rfl (by decide) (hts (.classLink RL 15 "java/lang/IllegalArgumentException") (by decide +kernel)) (hTS.2.1.use _ (List.mem_of_getElem? (i := 5) rfl)) h1 h2 h3 ?_
        refine lv_astore (lv' := [(7, .ref q9), (0, .ref (x0)), (1, .int x1), (2, .int x2), (3, .int x3), (4, .int x4), (5, .int x5), (6, .ref (o0))]) hx hb dL_grant_23 hl (by decide) rfl (fun ls hl => ?_)
        refine lv_iconst (v := 2) hx hb dL_grant_25 (by decide) ?_
        exact fw_iret hx hb hr hlocks hP hS (Nat.le_of_ble_eq_true rfl) (Nat.le_of_ble_eq_true rfl) dL_grant_26
      · replace hf := fp_f cE hf
        by_cases cE : E_1 = "java/lang/IllegalStateException"
        · replace hf := fp_t cE hf
          subst cE
          cases hf
          refine tx_VJ (As := [.int x1, .int x2, .int x3, .int x4, .int x5]) (rest := [.int (0 : Int32), .ref (o0)]) (nL := 8) (ws' := ((wLR X x0 hh ht ch tx y hy rP fP rT fT rG' fG' rL fL rH fH' gi' di re ti rPT fPT rTT fTT rGT fGT rLT fLT rHT fHT giT diT reT tiT rS fS rB fB rO fO pl fa cn' ro' Qh') ++ (wOut X o0 fo))) ⟨hx, hb, hml, hown, hts⟩ (c_X5_grant_x l hfl X x0 hh ht ch tx y hy rP fP rT fT rG fG rL fL rH fH gi di re ti rPT fPT rTT fTT rGT fGT rLT fLT rHT fHT giT diT reT tiT rS fS rB fB rO fO pl fa cn ro Qh x1 x2 x3 x4 x5 ("java/lang/IllegalStateException") rG' fG' fH' gi' cn' ro' Qh' hc) (cwV 5 hts gL_grant_X5_grant rfl rfl rfl (by decide +kernel) ⟨Nat.le_of_ble_eq_true rfl, Nat.le_of_ble_eq_true rfl⟩) 5 rfl rfl rfl rfl hl.1 rfl (Nat.le_of_ble_eq_true rfl) dL_grant_11 hTS hTZ hK hP hD0 hS hA [0, 1, 2, 3, 4, 5, 6, 7, 8, 9, 10, 11, 12, 13, 14, 15, 16, 17, 18, 19, 20, 21, 22, 23, 24, 25, 26, 27, 28, 29, 30, 31, 32, 33, 34, 35, 36, 37, 38, 39, 40, 41, 42, 43, 44, 45, 46, 47, 48, 49, 50, 51, 52, 53, 54, 55, 56, 57, 58, 59, 60, 61, 62, 63, 64, 65, 66, 67, 68, 69, 70, 71, 72, 73, 74, 75, 76] (by decide +kernel) oC_a oJ_a ⟨Nat.le_of_ble_eq_true rfl, Nat.le_of_ble_eq_true rfl⟩ (fun q9 ce H locs hP hS h1 h2 h3 => ?_)
          have hpass : ∀ z ∈ ([⟨0, 16, 19, 13⟩, ⟨0, 16, 23, 15⟩] : List ExceptionTableEntry), covers z 11 = false ∨ (z.catchType ≠ 0 ∧ ∃ nm : String, (Cond.classLink RL z.catchType nm).before args s = true ∧ va_Nc "java/lang/IllegalStateException" nm s) := by
            intro z hz
            simp only [List.mem_cons, List.not_mem_nil, or_false] at hz
            rcases hz with rfl | rfl
            · exact Or.inr ⟨by decide, "java/lang/IndexOutOfBoundsException", hts (.classLink RL 13 "java/lang/IndexOutOfBoundsException") (by decide +kernel), hTS.2.2.2.1⟩
            · exact Or.inr ⟨by decide, "java/lang/IllegalArgumentException", hts (.classLink RL 15 "java/lang/IllegalArgumentException") (by decide +kernel), hTS.2.2.2.2.1⟩
          refine vx_catch (own := RL) (name := "java/lang/IllegalStateException") hown [⟨0, 16, 19, 13⟩, ⟨0, 16, 23, 15⟩] ⟨0, 16, 27, 17⟩ [] hex hpass rfl (by decide) (hts (.classLink RL 17 "java/lang/IllegalStateException") (by decide +kernel)) (hTS.2.1.use _ (List.mem_of_getElem? (i := 3) rfl)) h1 h2 h3 ?_
          refine lv_astore (lv' := [(7, .ref q9), (0, .ref (x0)), (1, .int x1), (2, .int x2), (3, .int x3), (4, .int x4), (5, .int x5), (6, .ref (o0))]) hx hb dL_grant_27 hl (by decide) rfl (fun ls hl => ?_)
          refine lv_iconst (v := 3) hx hb dL_grant_29 (by decide) ?_
          exact fw_iret hx hb hr hlocks hP hS (Nat.le_of_ble_eq_true rfl) (Nat.le_of_ble_eq_true rfl) dL_grant_30
        · replace hf := fp_f cE hf
          cases hf
  · try dsimp only at hf
    obtain ⟨hi_1, hf⟩ := ix_of hf
    refine fn_VJ (v := some (.int r_1)) (As := [.int x1, .int x2, .int x3, .int x4, .int x5]) (rest := [.int (0 : Int32), .ref (o0)]) (st1 := [.int r_1, .int (0 : Int32), .ref (o0)]) (ws' := ((wLR X x0 hh ht ch tx y hy rP fP rT fT rG_1 fG_1 rL fL rH fH_1 gi_1 di re ti rPT fPT rTT fTT rGT fGT rLT fLT rHT fHT giT diT reT tiT rS fS rB fB rO fO pl fa cn_1 ro_1 Qh_1) ++ (wOut X o0 fo))) (nL := 8) ⟨hx, hb, hml, hown, hts⟩ (c_X5_grant l X x0 hh ht ch tx y hy rP fP rT fT rG fG rL fL rH fH gi di re ti rPT fPT rTT fTT rGT fGT rLT fLT rHT fHT giT diT reT tiT rS fS rB fB rO fO pl fa cn ro Qh x1 x2 x3 x4 x5 r_1 rG_1 fG_1 fH_1 gi_1 cn_1 ro_1 Qh_1 hc) (cwV 5 hts gL_grant_X5_grant rfl rfl rfl (by decide +kernel) ⟨Nat.le_of_ble_eq_true rfl, Nat.le_of_ble_eq_true rfl⟩) 5 rfl rfl rfl rfl hl.1 rfl (Nat.le_of_ble_eq_true rfl) dL_grant_11 hK hP hD0 hS hA [0, 1, 2, 3, 4, 5, 6, 7, 8, 9, 10, 11, 12, 13, 14, 15, 16, 17, 18, 19, 20, 21, 22, 23, 24, 25, 26, 27, 28, 29, 30, 31, 32, 33, 34, 35, 36, 37, 38, 39, 40, 41, 42, 43, 44, 45, 46, 47, 48, 49, 50, 51, 52, 53, 54, 55, 56, 57, 58, 59, 60, 61, 62, 63, 64, 65, 66, 67, 68, 69, 70, 71, 72, 73, 74, 75, 76] (by decide +kernel) oC_a oJ_a (wLO_fst.trans wLO_fst.symm) rfl ⟨Nat.zero_le _, Nat.zero_le _⟩ (fun H locs hP hD hS => ?_)
    refine lv_i2l (v := r_1.toInt64) hx hb dL_grant_14 rfl ?_
    refine va_last hx hb hK.1 hP hD hS 77 1 (get_last 77 rfl) rfl hi_1 dL_grant_15 (fun H locs hP hD hS => ?_)
    rw [set_last 77 rfl] at hP
    obtain ⟨fo_1, efo_1⟩ : ∃ g : Nat → Int64, g = vp_updL fo (0 : Int32).toNatClampNeg r_1.toInt64 := ⟨_, rfl⟩
    replace hf := nm_of efo_1 hf
    rw [← efo_1] at hP
    have hP : va_P X.1 vwCl ((wLR X x0 hh ht ch tx y hy rP fP rT fT rG_1 fG_1 rL fL rH fH_1 gi_1 di re ti rPT fPT rTT fTT rGT fGT rLT fLT rHT fHT giT diT reT tiT rS fS rB fB rO fO pl fa cn_1 ro_1 Qh_1) ++ (wOut X o0 fo_1)) H := hP
    refine lv_goto (tgt := 31) hx hb dL_grant_16 (by decide) ?_
    refine lv_iconst (v := 0) hx hb dL_grant_31 (by decide) ?_
    cases hf
    exact fw_iret hx hb hr hlocks hP hS (Nat.le_of_ble_eq_true rfl) (Nat.le_of_ble_eq_true rfl) dL_grant_32

def f_L_revoke (x1 : Int32) (rP : Int32) (fP : (Nat → Int32)) (rT : Int32) (fT : (Nat → Int32)) (rG : Int32) (fG : (Nat → Int32)) (rL : Int32) (fL : (Nat → Int32)) (rH : Int32) (fH : (Nat → Int32)) (gi : Int32) (di : Int32) (re : Int32) (ti : Int32) (cn : Int32) (ro : Nat) (Qh : (Nat → HS)) (fo : (Nat → Int64)) : Option (Int32 × Int32 × (Nat → Int32) × (Nat → Int32) × Int32 × Int32 × Nat × (Nat → HS) × (Nat → Int64)) :=
  bx (f_X5_revoke x1 rP fP rT fT rG fG rL fL rH fH gi di re ti cn ro Qh) (fun e_ => if e_.1 = "java/util/NoSuchElementException" then some ((1 : Int32), e_.2.1, e_.2.2.1, e_.2.2.2.1, e_.2.2.2.2.1, e_.2.2.2.2.2.1, e_.2.2.2.2.2.2.1, e_.2.2.2.2.2.2.2, fo) else none) (fun o_ => ix (0 : Int32) 1 (nm (vp_updL fo (0 : Int32).toNatClampNeg o_.1.toInt64) (fun fo_1 => some ((0 : Int32), o_.2.1, o_.2.2.1, o_.2.2.2.1, o_.2.2.2.2.1, o_.2.2.2.2.2.1, o_.2.2.2.2.2.2.1, o_.2.2.2.2.2.2.2, fo_1))))
set_option maxHeartbeats 4000000 in
set_option maxRecDepth 100000 in
theorem c_L_revoke (l : Launch) (hfl : l.stackTraces = false) (X : cx_G) (x0 : Nat) (hh : (Nat → Nat)) (ht : (Nat → Nat)) (ch : (Nat → Nat)) (tx : (Nat → Nat)) (y : (Nat → Nat)) (hy : (Nat → Nat → Nat)) (o0 : Nat) (rP : Int32) (fP : (Nat → Int32)) (rT : Int32) (fT : (Nat → Int32)) (rG : Int32) (fG : (Nat → Int32)) (rL : Int32) (fL : (Nat → Int32)) (rH : Int32) (fH : (Nat → Int32)) (gi : Int32) (di : Int32) (re : Int32) (ti : Int32) (rPT : Int32) (fPT : (Nat → Int32)) (rTT : Int32) (fTT : (Nat → Int32)) (rGT : Int32) (fGT : (Nat → Int32)) (rLT : Int32) (fLT : (Nat → Int32)) (rHT : Int32) (fHT : (Nat → Int32)) (giT : Int32) (diT : Int32) (reT : Int32) (tiT : Int32) (rS : Int32) (fS : (Nat → Int32)) (rB : Int32) (fB : (Nat → Int32)) (rO : Int32) (fO : (Nat → Int32)) (pl : Int32) (fa : Int32) (cn : Int32) (ro : Nat) (Qh : (Nat → HS)) (fo : (Nat → Int64)) (x1 : Int32) (r : Int32) (rG' : Int32) (fG' : (Nat → Int32)) (fH' : (Nat → Int32)) (re' : Int32) (cn' : Int32) (ro' : Nat) (Qh' : (Nat → HS)) (fo' : (Nat → Int64)) (hf : f_L_revoke x1 rP fP rT fT rG fG rL fL rH fH gi di re ti cn ro Qh fo = some (r, rG', fG', fH', re', cn', ro', Qh', fo')) : Fw l yL_revoke wsL_revoke ({ frames := 8, cells := 1, slots := 6, locals := 134 } : Room) X [.ref (x0), .int x1, .ref (o0)] ((wLR X x0 hh ht ch tx y hy rP fP rT fT rG fG rL fL rH fH gi di re ti rPT fPT rTT fTT rGT fGT rLT fLT rHT fHT giT diT reT tiT rS fS rB fB rO fO pl fa cn ro Qh) ++ (wOut X o0 fo)) (some (.int r)) ((wLR X x0 hh ht ch tx y hy rP fP rT fT rG' fG' rL fL rH fH' gi di re' ti rPT fPT rTT fTT rGT fGT rLT fLT rHT fHT giT diT reT tiT rS fS rB fB rO fO pl fa cn' ro' Qh') ++ (wOut X o0 fo')) := by
  refine fw_intro (cc := cL_revoke) (maxL := 4) (ret := (some .int)) (hh := [(0, 9, 12, 36)]) (by decide) rfl (wLO_fst.trans wLO_fst.symm) (Nat.le_of_ble_eq_true rfl) ?_
  intro p e s m args below meth c A ls hx hb hml hr hts hown hlocks hex hK hP hD0 hS hA hTS hTZ hl
  have hown : s.vm.findClass RL = some m.cls := hown
  have hl : lv_has ls 4 [(0, .ref (x0)), (1, .int x1), (2, .ref (o0))] := hl
  have hex : c.exceptionTable.toList = [⟨0, 9, 12, 36⟩] := hex.trans rfl
  unfold f_L_revoke at hf
  refine lv_aload_n hx hb dL_revoke_0 rfl (lv_at hl 2 rfl) ?_
  refine lv_iconst (v := 0) hx hb dL_revoke_1 (by decide) ?_
  refine lv_aload_n hx hb dL_revoke_2 rfl (lv_at hl 0 rfl) ?_
  refine lv_iload_n hx hb dL_revoke_3 rfl (lv_at hl 1 rfl) ?_
  rcases bx_of hf with ⟨⟨E_1, rG_1, fG_1, fH_1, re_1, cn_1, ro_1, Qh_1⟩, hc, hf⟩ | ⟨⟨r_1, rG_1, fG_1, fH_1, re_1, cn_1, ro_1, Qh_1⟩, hc, hf⟩
  · try dsimp only at hf
    by_cases cE : E_1 = "java/util/NoSuchElementException"
    · replace hf := fp_t cE hf
      subst cE
      cases hf
      refine tx_VJ (As := [.int x1]) (rest := [.int (0 : Int32), .ref (o0)]) (nL := 4) (ws' := ((wLR X x0 hh ht ch tx y hy rP fP rT fT rG' fG' rL fL rH fH' gi di re' ti rPT fPT rTT fTT rGT fGT rLT fLT rHT fHT giT diT reT tiT rS fS rB fB rO fO pl fa cn' ro' Qh') ++ (wOut X o0 fo))) ⟨hx, hb, hml, hown, hts⟩ (c_X5_revoke_x l hfl X x0 hh ht ch tx y hy rP fP rT fT rG fG rL fL rH fH gi di re ti rPT fPT rTT fTT rGT fGT rLT fLT rHT fHT giT diT reT tiT rS fS rB fB rO fO pl fa cn ro Qh x1 ("java/util/NoSuchElementException") rG' fG' fH' re' cn' ro' Qh' hc) (cwV 1 hts gL_revoke_X5_revoke rfl rfl rfl (by decide +kernel) ⟨Nat.le_of_ble_eq_true rfl, Nat.le_of_ble_eq_true rfl⟩) 5 rfl rfl rfl rfl hl.1 rfl (Nat.le_of_ble_eq_true rfl) dL_revoke_4 hTS hTZ hK hP hD0 hS hA [0, 1, 2, 3, 4, 5, 6, 7, 8, 9, 10, 11, 12, 13, 14, 15, 16, 17, 18, 19, 20, 21, 22, 23, 24, 25, 26, 27, 28, 29, 30, 31, 32, 33, 34, 35, 36, 37, 38, 39, 40, 41, 42, 43, 44, 45, 46, 47, 48, 49, 50, 51, 52, 53, 54, 55, 56, 57, 58, 59, 60, 61, 62, 63, 64, 65, 66, 67, 68, 69, 70, 71, 72, 73, 74, 75, 76] (by decide +kernel) oC_a oJ_a ⟨Nat.le_of_ble_eq_true rfl, Nat.le_of_ble_eq_true rfl⟩ (fun q9 ce H locs hP hS h1 h2 h3 => ?_)
      refine vx_catch (own := RL) (name := "java/util/NoSuchElementException") hown [] ⟨0, 9, 12, 36⟩ [] hex (fun z hz => nomatch hz) rfl (by decide) (hts (.classLink RL 36 "java/util/NoSuchElementException") (by decide +kernel)) (hTS.2.1.use _ (List.mem_of_getElem? (i := 6) rfl)) h1 h2 h3 ?_
      refine lv_astore_n (lv' := [(3, .ref q9), (0, .ref (x0)), (1, .int x1), (2, .ref (o0))]) hx hb dL_revoke_12 rfl hl (by decide) rfl (fun ls hl => ?_)
      refine lv_iconst (v := 1) hx hb dL_revoke_13 (by decide) ?_
      exact fw_iret hx hb hr hlocks hP hS (Nat.le_of_ble_eq_true rfl) (Nat.le_of_ble_eq_true rfl) dL_revoke_14
    · replace hf := fp_f cE hf
      cases hf
  · try dsimp only at hf
    obtain ⟨hi_1, hf⟩ := ix_of hf
    refine fn_VJ (v := some (.int r_1)) (As := [.int x1]) (rest := [.int (0 : Int32), .ref (o0)]) (st1 := [.int r_1, .int (0 : Int32), .ref (o0)]) (ws' := ((wLR X x0 hh ht ch tx y hy rP fP rT fT rG_1 fG_1 rL fL rH fH_1 gi di re_1 ti rPT fPT rTT fTT rGT fGT rLT fLT rHT fHT giT diT reT tiT rS fS rB fB rO fO pl fa cn_1 ro_1 Qh_1) ++ (wOut X o0 fo))) (nL := 4) ⟨hx, hb, hml, hown, hts⟩ (c_X5_revoke l X x0 hh ht ch tx y hy rP fP rT fT rG fG rL fL rH fH gi di re ti rPT fPT rTT fTT rGT fGT rLT fLT rHT fHT giT diT reT tiT rS fS rB fB rO fO pl fa cn ro Qh x1 r_1 rG_1 fG_1 fH_1 re_1 cn_1 ro_1 Qh_1 hc) (cwV 1 hts gL_revoke_X5_revoke rfl rfl rfl (by decide +kernel) ⟨Nat.le_of_ble_eq_true rfl, Nat.le_of_ble_eq_true rfl⟩) 5 rfl rfl rfl rfl hl.1 rfl (Nat.le_of_ble_eq_true rfl) dL_revoke_4 hK hP hD0 hS hA [0, 1, 2, 3, 4, 5, 6, 7, 8, 9, 10, 11, 12, 13, 14, 15, 16, 17, 18, 19, 20, 21, 22, 23, 24, 25, 26, 27, 28, 29, 30, 31, 32, 33, 34, 35, 36, 37, 38, 39, 40, 41, 42, 43, 44, 45, 46, 47, 48, 49, 50, 51, 52, 53, 54, 55, 56, 57, 58, 59, 60, 61, 62, 63, 64, 65, 66, 67, 68, 69, 70, 71, 72, 73, 74, 75, 76] (by decide +kernel) oC_a oJ_a (wLO_fst.trans wLO_fst.symm) rfl ⟨Nat.zero_le _, Nat.zero_le _⟩ (fun H locs hP hD hS => ?_)
    refine lv_i2l (v := r_1.toInt64) hx hb dL_revoke_7 rfl ?_
    refine va_last hx hb hK.1 hP hD hS 77 1 (get_last 77 rfl) rfl hi_1 dL_revoke_8 (fun H locs hP hD hS => ?_)
    rw [set_last 77 rfl] at hP
    obtain ⟨fo_1, efo_1⟩ : ∃ g : Nat → Int64, g = vp_updL fo (0 : Int32).toNatClampNeg r_1.toInt64 := ⟨_, rfl⟩
    replace hf := nm_of efo_1 hf
    rw [← efo_1] at hP
    have hP : va_P X.1 vwCl ((wLR X x0 hh ht ch tx y hy rP fP rT fT rG_1 fG_1 rL fL rH fH_1 gi di re_1 ti rPT fPT rTT fTT rGT fGT rLT fLT rHT fHT giT diT reT tiT rS fS rB fB rO fO pl fa cn_1 ro_1 Qh_1) ++ (wOut X o0 fo_1)) H := hP
    refine lv_goto (tgt := 15) hx hb dL_revoke_9 (by decide) ?_
    refine lv_iconst (v := 0) hx hb dL_revoke_15 (by decide) ?_
    cases hf
    exact fw_iret hx hb hr hlocks hP hS (Nat.le_of_ble_eq_true rfl) (Nat.le_of_ble_eq_true rfl) dL_revoke_16

def f_L_cheer (x1 : Int32) (x2 : Int32) (rP : Int32) (fP : (Nat → Int32)) (rT : Int32) (fT : (Nat → Int32)) (rG : Int32) (fG : (Nat → Int32)) (rL : Int32) (fL : (Nat → Int32)) (rH : Int32) (fH : (Nat → Int32)) (gi : Int32) (di : Int32) (re : Int32) (ti : Int32) (cn : Int32) (ro : Nat) (Qh : (Nat → HS)) (fo : (Nat → Int64)) : Option (Int32 × (Nat → Int32) × Int32 × (Nat → Int32) × Int32 × (Nat → Int32) × (Nat → Int32) × Int32 × Int32 × Nat × (Nat → HS) × (Nat → Int64)) :=
  bx (f_X5_cheer x1 x2 rP fP rT fT rG fG rL fL rH fH gi di re ti cn ro Qh) (fun e_ => if e_.1 = "java/lang/IndexOutOfBoundsException" then some ((1 : Int32), e_.2.1, e_.2.2.1, e_.2.2.2.1, e_.2.2.2.2.1, e_.2.2.2.2.2.1, e_.2.2.2.2.2.2.1, e_.2.2.2.2.2.2.2.1, e_.2.2.2.2.2.2.2.2.1, e_.2.2.2.2.2.2.2.2.2.1, e_.2.2.2.2.2.2.2.2.2.2, fo) else if e_.1 = "java/lang/IllegalArgumentException" then some ((2 : Int32), e_.2.1, e_.2.2.1, e_.2.2.2.1, e_.2.2.2.2.1, e_.2.2.2.2.2.1, e_.2.2.2.2.2.2.1, e_.2.2.2.2.2.2.2.1, e_.2.2.2.2.2.2.2.2.1, e_.2.2.2.2.2.2.2.2.2.1, e_.2.2.2.2.2.2.2.2.2.2, fo) else none) (fun o_ => ix (0 : Int32) 1 (nm (vp_updL fo (0 : Int32).toNatClampNeg o_.1.toInt64) (fun fo_1 => some ((0 : Int32), o_.2.1, o_.2.2.1, o_.2.2.2.1, o_.2.2.2.2.1, o_.2.2.2.2.2.1, o_.2.2.2.2.2.2.1, o_.2.2.2.2.2.2.2.1, o_.2.2.2.2.2.2.2.2.1, o_.2.2.2.2.2.2.2.2.2.1, o_.2.2.2.2.2.2.2.2.2.2, fo_1))))
set_option maxHeartbeats 4000000 in
set_option maxRecDepth 100000 in
theorem c_L_cheer (l : Launch) (hfl : l.stackTraces = false) (X : cx_G) (x0 : Nat) (hh : (Nat → Nat)) (ht : (Nat → Nat)) (ch : (Nat → Nat)) (tx : (Nat → Nat)) (y : (Nat → Nat)) (hy : (Nat → Nat → Nat)) (o0 : Nat) (rP : Int32) (fP : (Nat → Int32)) (rT : Int32) (fT : (Nat → Int32)) (rG : Int32) (fG : (Nat → Int32)) (rL : Int32) (fL : (Nat → Int32)) (rH : Int32) (fH : (Nat → Int32)) (gi : Int32) (di : Int32) (re : Int32) (ti : Int32) (rPT : Int32) (fPT : (Nat → Int32)) (rTT : Int32) (fTT : (Nat → Int32)) (rGT : Int32) (fGT : (Nat → Int32)) (rLT : Int32) (fLT : (Nat → Int32)) (rHT : Int32) (fHT : (Nat → Int32)) (giT : Int32) (diT : Int32) (reT : Int32) (tiT : Int32) (rS : Int32) (fS : (Nat → Int32)) (rB : Int32) (fB : (Nat → Int32)) (rO : Int32) (fO : (Nat → Int32)) (pl : Int32) (fa : Int32) (cn : Int32) (ro : Nat) (Qh : (Nat → HS)) (fo : (Nat → Int64)) (x1 : Int32) (x2 : Int32) (r : Int32) (fP' : (Nat → Int32)) (rG' : Int32) (fG' : (Nat → Int32)) (rL' : Int32) (fL' : (Nat → Int32)) (fH' : (Nat → Int32)) (di' : Int32) (cn' : Int32) (ro' : Nat) (Qh' : (Nat → HS)) (fo' : (Nat → Int64)) (hf : f_L_cheer x1 x2 rP fP rT fT rG fG rL fL rH fH gi di re ti cn ro Qh fo = some (r, fP', rG', fG', rL', fL', fH', di', cn', ro', Qh', fo')) : Fw l yL_cheer wsL_cheer ({ frames := 8, cells := 1, slots := 6, locals := 134 } : Room) X [.ref (x0), .int x1, .int x2, .ref (o0)] ((wLR X x0 hh ht ch tx y hy rP fP rT fT rG fG rL fL rH fH gi di re ti rPT fPT rTT fTT rGT fGT rLT fLT rHT fHT giT diT reT tiT rS fS rB fB rO fO pl fa cn ro Qh) ++ (wOut X o0 fo)) (some (.int r)) ((wLR X x0 hh ht ch tx y hy rP fP' rT fT rG' fG' rL' fL' rH fH' gi di' re ti rPT fPT rTT fTT rGT fGT rLT fLT rHT fHT giT diT reT tiT rS fS rB fB rO fO pl fa cn' ro' Qh') ++ (wOut X o0 fo')) := by
  refine fw_intro (cc := cL_cheer) (maxL := 5) (ret := (some .int)) (hh := [(0, 10, 13, 13), (0, 10, 17, 15)]) (by decide) rfl (wLO_fst.trans wLO_fst.symm) (Nat.le_of_ble_eq_true rfl) ?_
  intro p e s m args below meth c A ls hx hb hml hr hts hown hlocks hex hK hP hD0 hS hA hTS hTZ hl
  have hown : s.vm.findClass RL = some m.cls := hown
  have hl : lv_has ls 5 [(0, .ref (x0)), (1, .int x1), (2, .int x2), (3, .ref (o0))] := hl
  have hex : c.exceptionTable.toList = [⟨0, 10, 13, 13⟩, ⟨0, 10, 17, 15⟩] := hex.trans rfl
  unfold f_L_cheer at hf
  refine lv_aload_n hx hb dL_cheer_0 rfl (lv_at hl 3 rfl) ?_
  refine lv_iconst (v := 0) hx hb dL_cheer_1 (by decide) ?_
  refine lv_aload_n hx hb dL_cheer_2 rfl (lv_at hl 0 rfl) ?_
  refine lv_iload_n hx hb dL_cheer_3 rfl (lv_at hl 1 rfl) ?_
  refine lv_iload_n hx hb dL_cheer_4 rfl (lv_at hl 2 rfl) ?_
  rcases bx_of hf with ⟨⟨E_1, fP_1, rG_1, fG_1, rL_1, fL_1, fH_1, di_1, cn_1, ro_1, Qh_1⟩, hc, hf⟩ | ⟨⟨r_1, fP_1, rG_1, fG_1, rL_1, fL_1, fH_1, di_1, cn_1, ro_1, Qh_1⟩, hc, hf⟩
  · try dsimp only at hf
    by_cases cE : E_1 = "java/lang/IndexOutOfBoundsException"
    · replace hf := fp_t cE hf
      subst cE
      cases hf
      refine tx_VJ (As := [.int x1, .int x2]) (rest := [.int (0 : Int32), .ref (o0)]) (nL := 5) (ws' := ((wLR X x0 hh ht ch tx y hy rP fP' rT fT rG' fG' rL' fL' rH fH' gi di' re ti rPT fPT rTT fTT rGT fGT rLT fLT rHT fHT giT diT reT tiT rS fS rB fB rO fO pl fa cn' ro' Qh') ++ (wOut X o0 fo))) ⟨hx, hb, hml, hown, hts⟩ (c_X5_cheer_x l hfl X x0 hh ht ch tx y hy rP fP rT fT rG fG rL fL rH fH gi di re ti rPT fPT rTT fTT rGT fGT rLT fLT rHT fHT giT diT reT tiT rS fS rB fB rO fO pl fa cn ro Qh x1 x2 ("java/lang/IndexOutOfBoundsException") fP' rG' fG' rL' fL' fH' di' cn' ro' Qh' hc) (cwV 2 hts gL_cheer_X5_cheer rfl rfl rfl (by decide +kernel) ⟨Nat.le_of_ble_eq_true rfl, Nat.le_of_ble_eq_true rfl⟩) 5 rfl rfl rfl rfl hl.1 rfl (Nat.le_of_ble_eq_true rfl) dL_cheer_5 hTS hTZ hK hP hD0 hS hA [0, 1, 2, 3, 4, 5, 6, 7, 8, 9, 10, 11, 12, 13, 14, 15, 16, 17, 18, 19, 20, 21, 22, 23, 24, 25, 26, 27, 28, 29, 30, 31, 32, 33, 34, 35, 36, 37, 38, 39, 40, 41, 42, 43, 44, 45, 46, 47, 48, 49, 50, 51, 52, 53, 54, 55, 56, 57, 58, 59, 60, 61, 62, 63, 64, 65, 66, 67, 68, 69, 70, 71, 72, 73, 74, 75, 76] (by decide +kernel) oC_a oJ_a ⟨Nat.le_of_ble_eq_true rfl, Nat.le_of_ble_eq_true rfl⟩ (fun q9 ce H locs hP hS h1 h2 h3 => ?_)
      refine vx_catch (own := RL) (name := "java/lang/IndexOutOfBoundsException") hown [] ⟨0, 10, 13, 13⟩ [⟨0, 10, 17, 15⟩] hex (fun z hz => nomatch hz) rfl (by decide) (hts (.classLink RL 13 "java/lang/IndexOutOfBoundsException") (by decide +kernel)) (hTS.2.1.use _ (List.mem_of_getElem? (i := 4) rfl)) h1 h2 h3 ?_
      refine lv_astore (lv' := [(4, .ref q9), (0, .ref (x0)), (1, .int x1), (2, .int x2), (3, .ref (o0))]) hx hb dL_cheer_13 hl (by decide) rfl (fun ls hl => ?_)
      refine lv_iconst (v := 1) hx hb dL_cheer_15 (by decide) ?_
      exact fw_iret hx hb hr hlocks hP hS (Nat.le_of_ble_eq_true rfl) (Nat.le_of_ble_eq_true rfl) dL_cheer_16
    · replace hf := fp_f cE hf
      by_cases cE : E_1 = "java/lang/IllegalArgumentException"
      · replace hf := fp_t cE hf
        subst cE
        cases hf
        refine tx_VJ (As := [.int x1, .int x2]) (rest := [.int (0 : Int32), .ref (o0)]) (nL := 5) (ws' := ((wLR X x0 hh ht ch tx y hy rP fP' rT fT rG' fG' rL' fL' rH fH' gi di' re ti rPT fPT rTT fTT rGT fGT rLT fLT rHT fHT giT diT reT tiT rS fS rB fB rO fO pl fa cn' ro' Qh') ++ (wOut X o0 fo))) ⟨hx, hb, hml, hown, hts⟩ (c_X5_cheer_x l hfl X x0 hh ht ch tx y hy rP fP rT fT rG fG rL fL rH fH gi di re ti rPT fPT rTT fTT rGT fGT rLT fLT rHT fHT giT diT reT tiT rS fS rB fB rO fO pl fa cn ro Qh x1 x2 ("java/lang/IllegalArgumentException") fP' rG' fG' rL' fL' fH' di' cn' ro' Qh' hc) (cwV 2 hts gL_cheer_X5_cheer rfl rfl rfl (by decide +kernel) ⟨Nat.le_of_ble_eq_true rfl, Nat.le_of_ble_eq_true rfl⟩) 5 rfl rfl rfl rfl hl.1 rfl (Nat.le_of_ble_eq_true rfl) dL_cheer_5 hTS hTZ hK hP hD0 hS hA [0, 1, 2, 3, 4, 5, 6, 7, 8, 9, 10, 11, 12, 13, 14, 15, 16, 17, 18, 19, 20, 21, 22, 23, 24, 25, 26, 27, 28, 29, 30, 31, 32, 33, 34, 35, 36, 37, 38, 39, 40, 41, 42, 43, 44, 45, 46, 47, 48, 49, 50, 51, 52, 53, 54, 55, 56, 57, 58, 59, 60, 61, 62, 63, 64, 65, 66, 67, 68, 69, 70, 71, 72, 73, 74, 75, 76] (by decide +kernel) oC_a oJ_a ⟨Nat.le_of_ble_eq_true rfl, Nat.le_of_ble_eq_true rfl⟩ (fun q9 ce H locs hP hS h1 h2 h3 => ?_)
        have hpass : ∀ z ∈ ([⟨0, 10, 13, 13⟩] : List ExceptionTableEntry), covers z 5 = false ∨ (z.catchType ≠ 0 ∧ ∃ nm : String, (Cond.classLink RL z.catchType nm).before args s = true ∧ va_Nc "java/lang/IllegalArgumentException" nm s) := by
          intro z hz
          simp only [List.mem_cons, List.not_mem_nil, or_false] at hz
          rcases hz with rfl
          · exact Or.inr ⟨by decide, "java/lang/IndexOutOfBoundsException", hts (.classLink RL 13 "java/lang/IndexOutOfBoundsException") (by decide +kernel), hTS.2.2.1⟩
        refine vx_catch (own := RL) (name := "java/lang/IllegalArgumentException") hown [⟨0, 10, 13, 13⟩] ⟨0, 10, 17, 15⟩ [] hex hpass rfl (by decide) (hts (.classLink RL 15 "java/lang/IllegalArgumentException") (by decide +kernel)) (hTS.2.1.use _ (List.mem_of_getElem? (i := 5) rfl)) h1 h2 h3 ?_
        refine lv_astore (lv' := [(4, .ref q9), (0, .ref (x0)), (1, .int x1), (2, .int x2), (3, .ref (o0))]) hx hb dL_cheer_17 hl (by decide) rfl (fun ls hl => ?_)
        refine lv_iconst (v := 2) hx hb dL_cheer_19 (by decide) ?_
        exact fw_iret hx hb hr hlocks hP hS (Nat.le_of_ble_eq_true rfl) (Nat.le_of_ble_eq_true rfl) dL_cheer_20
      · replace hf := fp_f cE hf
        cases hf
  · try dsimp only at hf
    obtain ⟨hi_1, hf⟩ := ix_of hf
    refine fn_VJ (v := some (.int r_1)) (As := [.int x1, .int x2]) (rest := [.int (0 : Int32), .ref (o0)]) (st1 := [.int r_1, .int (0 : Int32), .ref (o0)]) (ws' := ((wLR X x0 hh ht ch tx y hy rP fP_1 rT fT rG_1 fG_1 rL_1 fL_1 rH fH_1 gi di_1 re ti rPT fPT rTT fTT rGT fGT rLT fLT rHT fHT giT diT reT tiT rS fS rB fB rO fO pl fa cn_1 ro_1 Qh_1) ++ (wOut X o0 fo))) (nL := 5) ⟨hx, hb, hml, hown, hts⟩ (c_X5_cheer l X x0 hh ht ch tx y hy rP fP rT fT rG fG rL fL rH fH gi di re ti rPT fPT rTT fTT rGT fGT rLT fLT rHT fHT giT diT reT tiT rS fS rB fB rO fO pl fa cn ro Qh x1 x2 r_1 fP_1 rG_1 fG_1 rL_1 fL_1 fH_1 di_1 cn_1 ro_1 Qh_1 hc) (cwV 2 hts gL_cheer_X5_cheer rfl rfl rfl (by decide +kernel) ⟨Nat.le_of_ble_eq_true rfl, Nat.le_of_ble_eq_true rfl⟩) 5 rfl rfl rfl rfl hl.1 rfl (Nat.le_of_ble_eq_true rfl) dL_cheer_5 hK hP hD0 hS hA [0, 1, 2, 3, 4, 5, 6, 7, 8, 9, 10, 11, 12, 13, 14, 15, 16, 17, 18, 19, 20, 21, 22, 23, 24, 25, 26, 27, 28, 29, 30, 31, 32, 33, 34, 35, 36, 37, 38, 39, 40, 41, 42, 43, 44, 45, 46, 47, 48, 49, 50, 51, 52, 53, 54, 55, 56, 57, 58, 59, 60, 61, 62, 63, 64, 65, 66, 67, 68, 69, 70, 71, 72, 73, 74, 75, 76] (by decide +kernel) oC_a oJ_a (wLO_fst.trans wLO_fst.symm) rfl ⟨Nat.zero_le _, Nat.zero_le _⟩ (fun H locs hP hD hS => ?_)
    refine lv_i2l (v := r_1.toInt64) hx hb dL_cheer_8 rfl ?_
    refine va_last hx hb hK.1 hP hD hS 77 1 (get_last 77 rfl) rfl hi_1 dL_cheer_9 (fun H locs hP hD hS => ?_)
    rw [set_last 77 rfl] at hP
    obtain ⟨fo_1, efo_1⟩ : ∃ g : Nat → Int64, g = vp_updL fo (0 : Int32).toNatClampNeg r_1.toInt64 := ⟨_, rfl⟩
    replace hf := nm_of efo_1 hf
    rw [← efo_1] at hP
    have hP : va_P X.1 vwCl ((wLR X x0 hh ht ch tx y hy rP fP_1 rT fT rG_1 fG_1 rL_1 fL_1 rH fH_1 gi di_1 re ti rPT fPT rTT fTT rGT fGT rLT fLT rHT fHT giT diT reT tiT rS fS rB fB rO fO pl fa cn_1 ro_1 Qh_1) ++ (wOut X o0 fo_1)) H := hP
    refine lv_goto (tgt := 21) hx hb dL_cheer_10 (by decide) ?_
    refine lv_iconst (v := 0) hx hb dL_cheer_21 (by decide) ?_
    cases hf
    exact fw_iret hx hb hr hlocks hP hS (Nat.le_of_ble_eq_true rfl) (Nat.le_of_ble_eq_true rfl) dL_cheer_22

def f_L_pass (x1 : Int32) (rP : Int32) (fP : (Nat → Int32)) (rT : Int32) (fT : (Nat → Int32)) (rG : Int32) (fG : (Nat → Int32)) (rL : Int32) (fL : (Nat → Int32)) (rH : Int32) (fH : (Nat → Int32)) (gi : Int32) (di : Int32) (re : Int32) (ti : Int32) (cn : Int32) (ro : Nat) (Qh : (Nat → HS)) (fo : (Nat → Int64)) : Option (Int32 × (Nat → Int32) × Int32 × (Nat → Int32) × Int32 × (Nat → Int32) × (Nat → Int32) × Int32 × Int32 × Int32 × Nat × (Nat → HS) × (Nat → Int64)) :=
  bx (f_X5_pass x1 rP fP rT fT rG fG rL fL rH fH gi di re ti cn ro Qh) (fun e_ => if e_.1 = "java/lang/IllegalArgumentException" then some ((1 : Int32), e_.2.1, e_.2.2.1, e_.2.2.2.1, e_.2.2.2.2.1, e_.2.2.2.2.2.1, e_.2.2.2.2.2.2.1, e_.2.2.2.2.2.2.2.1, e_.2.2.2.2.2.2.2.2.1, e_.2.2.2.2.2.2.2.2.2.1, e_.2.2.2.2.2.2.2.2.2.2.1, e_.2.2.2.2.2.2.2.2.2.2.2, fo) else if e_.1 = "java/lang/IllegalStateException" then some ((2 : Int32), e_.2.1, e_.2.2.1, e_.2.2.2.1, e_.2.2.2.2.1, e_.2.2.2.2.2.1, e_.2.2.2.2.2.2.1, e_.2.2.2.2.2.2.2.1, e_.2.2.2.2.2.2.2.2.1, e_.2.2.2.2.2.2.2.2.2.1, e_.2.2.2.2.2.2.2.2.2.2.1, e_.2.2.2.2.2.2.2.2.2.2.2, fo) else none) (fun o_ => ix (0 : Int32) 1 (nm (vp_updL fo (0 : Int32).toNatClampNeg o_.1.toInt64) (fun fo_1 => some ((0 : Int32), o_.2.1, o_.2.2.1, o_.2.2.2.1, o_.2.2.2.2.1, o_.2.2.2.2.2.1, o_.2.2.2.2.2.2.1, o_.2.2.2.2.2.2.2.1, o_.2.2.2.2.2.2.2.2.1, o_.2.2.2.2.2.2.2.2.2.1, o_.2.2.2.2.2.2.2.2.2.2.1, o_.2.2.2.2.2.2.2.2.2.2.2, fo_1))))
set_option maxHeartbeats 4000000 in
set_option maxRecDepth 100000 in
theorem c_L_pass (l : Launch) (hfl : l.stackTraces = false) (X : cx_G) (x0 : Nat) (hh : (Nat → Nat)) (ht : (Nat → Nat)) (ch : (Nat → Nat)) (tx : (Nat → Nat)) (y : (Nat → Nat)) (hy : (Nat → Nat → Nat)) (o0 : Nat) (rP : Int32) (fP : (Nat → Int32)) (rT : Int32) (fT : (Nat → Int32)) (rG : Int32) (fG : (Nat → Int32)) (rL : Int32) (fL : (Nat → Int32)) (rH : Int32) (fH : (Nat → Int32)) (gi : Int32) (di : Int32) (re : Int32) (ti : Int32) (rPT : Int32) (fPT : (Nat → Int32)) (rTT : Int32) (fTT : (Nat → Int32)) (rGT : Int32) (fGT : (Nat → Int32)) (rLT : Int32) (fLT : (Nat → Int32)) (rHT : Int32) (fHT : (Nat → Int32)) (giT : Int32) (diT : Int32) (reT : Int32) (tiT : Int32) (rS : Int32) (fS : (Nat → Int32)) (rB : Int32) (fB : (Nat → Int32)) (rO : Int32) (fO : (Nat → Int32)) (pl : Int32) (fa : Int32) (cn : Int32) (ro : Nat) (Qh : (Nat → HS)) (fo : (Nat → Int64)) (x1 : Int32) (r : Int32) (fP' : (Nat → Int32)) (rG' : Int32) (fG' : (Nat → Int32)) (rL' : Int32) (fL' : (Nat → Int32)) (fH' : (Nat → Int32)) (di' : Int32) (ti' : Int32) (cn' : Int32) (ro' : Nat) (Qh' : (Nat → HS)) (fo' : (Nat → Int64)) (hf : f_L_pass x1 rP fP rT fT rG fG rL fL rH fH gi di re ti cn ro Qh fo = some (r, fP', rG', fG', rL', fL', fH', di', ti', cn', ro', Qh', fo')) : Fw l yL_pass wsL_pass ({ frames := 8, cells := 1, slots := 6, locals := 133 } : Room) X [.ref (x0), .int x1, .ref (o0)] ((wLR X x0 hh ht ch tx y hy rP fP rT fT rG fG rL fL rH fH gi di re ti rPT fPT rTT fTT rGT fGT rLT fLT rHT fHT giT diT reT tiT rS fS rB fB rO fO pl fa cn ro Qh) ++ (wOut X o0 fo)) (some (.int r)) ((wLR X x0 hh ht ch tx y hy rP fP' rT fT rG' fG' rL' fL' rH fH' gi di' re ti' rPT fPT rTT fTT rGT fGT rLT fLT rHT fHT giT diT reT tiT rS fS rB fB rO fO pl fa cn' ro' Qh') ++ (wOut X o0 fo')) := by
  refine fw_intro (cc := cL_pass) (maxL := 4) (ret := (some .int)) (hh := [(0, 9, 12, 15), (0, 9, 15, 17)]) (by decide) rfl (wLO_fst.trans wLO_fst.symm) (Nat.le_of_ble_eq_true rfl) ?_
  intro p e s m args below meth c A ls hx hb hml hr hts hown hlocks hex hK hP hD0 hS hA hTS hTZ hl
  have hown : s.vm.findClass RL = some m.cls := hown
  have hl : lv_has ls 4 [(0, .ref (x0)), (1, .int x1), (2, .ref (o0))] := hl
  have hex : c.exceptionTable.toList = [⟨0, 9, 12, 15⟩, ⟨0, 9, 15, 17⟩] := hex.trans rfl
  unfold f_L_pass at hf
  refine lv_aload_n hx hb dL_pass_0 rfl (lv_at hl 2 rfl) ?_
  refine lv_iconst (v := 0) hx hb dL_pass_1 (by decide) ?_
  refine lv_aload_n hx hb dL_pass_2 rfl (lv_at hl 0 rfl) ?_
  refine lv_iload_n hx hb dL_pass_3 rfl (lv_at hl 1 rfl) ?_
  rcases bx_of hf with ⟨⟨E_1, fP_1, rG_1, fG_1, rL_1, fL_1, fH_1, di_1, ti_1, cn_1, ro_1, Qh_1⟩, hc, hf⟩ | ⟨⟨r_1, fP_1, rG_1, fG_1, rL_1, fL_1, fH_1, di_1, ti_1, cn_1, ro_1, Qh_1⟩, hc, hf⟩
  · try dsimp only at hf
    by_cases cE : E_1 = "java/lang/IllegalArgumentException"
    · replace hf := fp_t cE hf
      subst cE
      cases hf
      refine tx_VJ (As := [.int x1]) (rest := [.int (0 : Int32), .ref (o0)]) (nL := 4) (ws' := ((wLR X x0 hh ht ch tx y hy rP fP' rT fT rG' fG' rL' fL' rH fH' gi di' re ti' rPT fPT rTT fTT rGT fGT rLT fLT rHT fHT giT diT reT tiT rS fS rB fB rO fO pl fa cn' ro' Qh') ++ (wOut X o0 fo))) ⟨hx, hb, hml, hown, hts⟩ (c_X5_pass_x l hfl X x0 hh ht ch tx y hy rP fP rT fT rG fG rL fL rH fH gi di re ti rPT fPT rTT fTT rGT fGT rLT fLT rHT fHT giT diT reT tiT rS fS rB fB rO fO pl fa cn ro Qh x1 ("java/lang/IllegalArgumentException") fP' rG' fG' rL' fL' fH' di' ti' cn' ro' Qh' hc) (cwV 1 hts gL_pass_X5_pass rfl rfl rfl (by decide +kernel) ⟨Nat.le_of_ble_eq_true rfl, Nat.le_of_ble_eq_true rfl⟩) 5 rfl rfl rfl rfl hl.1 rfl (Nat.le_of_ble_eq_true rfl) dL_pass_4 hTS hTZ hK hP hD0 hS hA [0, 1, 2, 3, 4, 5, 6, 7, 8, 9, 10, 11, 12, 13, 14, 15, 16, 17, 18, 19, 20, 21, 22, 23, 24, 25, 26, 27, 28, 29, 30, 31, 32, 33, 34, 35, 36, 37, 38, 39, 40, 41, 42, 43, 44, 45, 46, 47, 48, 49, 50, 51, 52, 53, 54, 55, 56, 57, 58, 59, 60, 61, 62, 63, 64, 65, 66, 67, 68, 69, 70, 71, 72, 73, 74, 75, 76] (by decide +kernel) oC_a oJ_a ⟨Nat.le_of_ble_eq_true rfl, Nat.le_of_ble_eq_true rfl⟩ (fun q9 ce H locs hP hS h1 h2 h3 => ?_)
      refine vx_catch (own := RL) (name := "java/lang/IllegalArgumentException") hown [] ⟨0, 9, 12, 15⟩ [⟨0, 9, 15, 17⟩] hex (fun z hz => nomatch hz) rfl (by decide) (hts (.classLink RL 15 "java/lang/IllegalArgumentException") (by decide +kernel)) (hTS.2.1.use _ (List.mem_of_getElem? (i := 5) rfl)) h1 h2 h3 ?_
      refine lv_astore_n (lv' := [(3, .ref q9), (0, .ref (x0)), (1, .int x1), (2, .ref (o0))]) hx hb dL_pass_12 rfl hl (by decide) rfl (fun ls hl => ?_)
      refine lv_iconst (v := 1) hx hb dL_pass_13 (by decide) ?_
      exact fw_iret hx hb hr hlocks hP hS (Nat.le_of_ble_eq_true rfl) (Nat.le_of_ble_eq_true rfl) dL_pass_14
    · replace hf := fp_f cE hf
      by_cases cE : E_1 = "java/lang/IllegalStateException"
      · replace hf := fp_t cE hf
        subst cE
        cases hf
        refine tx_VJ (As := [.int x1]) (rest := [.int (0 : Int32), .ref (o0)]) (nL := 4) (ws' := ((wLR X x0 hh ht ch tx y hy rP fP' rT fT rG' fG' rL' fL' rH fH' gi di' re ti' rPT fPT rTT fTT rGT fGT rLT fLT rHT fHT giT diT reT tiT rS fS rB fB rO fO pl fa cn' ro' Qh') ++ (wOut X o0 fo))) ⟨hx, hb, hml, hown, hts⟩ (c_X5_pass_x l hfl X x0 hh ht ch tx y hy rP fP rT fT rG fG rL fL rH fH gi di re ti rPT fPT rTT fTT rGT fGT rLT fLT rHT fHT giT diT reT tiT rS fS rB fB rO fO pl fa cn ro Qh x1 ("java/lang/IllegalStateException") fP' rG' fG' rL' fL' fH' di' ti' cn' ro' Qh' hc) (cwV 1 hts gL_pass_X5_pass rfl rfl rfl (by decide +kernel) ⟨Nat.le_of_ble_eq_true rfl, Nat.le_of_ble_eq_true rfl⟩) 5 rfl rfl rfl rfl hl.1 rfl (Nat.le_of_ble_eq_true rfl) dL_pass_4 hTS hTZ hK hP hD0 hS hA [0, 1, 2, 3, 4, 5, 6, 7, 8, 9, 10, 11, 12, 13, 14, 15, 16, 17, 18, 19, 20, 21, 22, 23, 24, 25, 26, 27, 28, 29, 30, 31, 32, 33, 34, 35, 36, 37, 38, 39, 40, 41, 42, 43, 44, 45, 46, 47, 48, 49, 50, 51, 52, 53, 54, 55, 56, 57, 58, 59, 60, 61, 62, 63, 64, 65, 66, 67, 68, 69, 70, 71, 72, 73, 74, 75, 76] (by decide +kernel) oC_a oJ_a ⟨Nat.le_of_ble_eq_true rfl, Nat.le_of_ble_eq_true rfl⟩ (fun q9 ce H locs hP hS h1 h2 h3 => ?_)
        have hpass : ∀ z ∈ ([⟨0, 9, 12, 15⟩] : List ExceptionTableEntry), covers z 4 = false ∨ (z.catchType ≠ 0 ∧ ∃ nm : String, (Cond.classLink RL z.catchType nm).before args s = true ∧ va_Nc "java/lang/IllegalStateException" nm s) := by
          intro z hz
          simp only [List.mem_cons, List.not_mem_nil, or_false] at hz
          rcases hz with rfl
          · exact Or.inr ⟨by decide, "java/lang/IllegalArgumentException", hts (.classLink RL 15 "java/lang/IllegalArgumentException") (by decide +kernel), hTS.2.2.2.2.1⟩
        refine vx_catch (own := RL) (name := "java/lang/IllegalStateException") hown [⟨0, 9, 12, 15⟩] ⟨0, 9, 15, 17⟩ [] hex hpass rfl (by decide) (hts (.classLink RL 17 "java/lang/IllegalStateException") (by decide +kernel)) (hTS.2.1.use _ (List.mem_of_getElem? (i := 3) rfl)) h1 h2 h3 ?_
        refine lv_astore_n (lv' := [(3, .ref q9), (0, .ref (x0)), (1, .int x1), (2, .ref (o0))]) hx hb dL_pass_15 rfl hl (by decide) rfl (fun ls hl => ?_)
        refine lv_iconst (v := 2) hx hb dL_pass_16 (by decide) ?_
        exact fw_iret hx hb hr hlocks hP hS (Nat.le_of_ble_eq_true rfl) (Nat.le_of_ble_eq_true rfl) dL_pass_17
      · replace hf := fp_f cE hf
        cases hf
  · try dsimp only at hf
    obtain ⟨hi_1, hf⟩ := ix_of hf
    refine fn_VJ (v := some (.int r_1)) (As := [.int x1]) (rest := [.int (0 : Int32), .ref (o0)]) (st1 := [.int r_1, .int (0 : Int32), .ref (o0)]) (ws' := ((wLR X x0 hh ht ch tx y hy rP fP_1 rT fT rG_1 fG_1 rL_1 fL_1 rH fH_1 gi di_1 re ti_1 rPT fPT rTT fTT rGT fGT rLT fLT rHT fHT giT diT reT tiT rS fS rB fB rO fO pl fa cn_1 ro_1 Qh_1) ++ (wOut X o0 fo))) (nL := 4) ⟨hx, hb, hml, hown, hts⟩ (c_X5_pass l X x0 hh ht ch tx y hy rP fP rT fT rG fG rL fL rH fH gi di re ti rPT fPT rTT fTT rGT fGT rLT fLT rHT fHT giT diT reT tiT rS fS rB fB rO fO pl fa cn ro Qh x1 r_1 fP_1 rG_1 fG_1 rL_1 fL_1 fH_1 di_1 ti_1 cn_1 ro_1 Qh_1 hc) (cwV 1 hts gL_pass_X5_pass rfl rfl rfl (by decide +kernel) ⟨Nat.le_of_ble_eq_true rfl, Nat.le_of_ble_eq_true rfl⟩) 5 rfl rfl rfl rfl hl.1 rfl (Nat.le_of_ble_eq_true rfl) dL_pass_4 hK hP hD0 hS hA [0, 1, 2, 3, 4, 5, 6, 7, 8, 9, 10, 11, 12, 13, 14, 15, 16, 17, 18, 19, 20, 21, 22, 23, 24, 25, 26, 27, 28, 29, 30, 31, 32, 33, 34, 35, 36, 37, 38, 39, 40, 41, 42, 43, 44, 45, 46, 47, 48, 49, 50, 51, 52, 53, 54, 55, 56, 57, 58, 59, 60, 61, 62, 63, 64, 65, 66, 67, 68, 69, 70, 71, 72, 73, 74, 75, 76] (by decide +kernel) oC_a oJ_a (wLO_fst.trans wLO_fst.symm) rfl ⟨Nat.zero_le _, Nat.zero_le _⟩ (fun H locs hP hD hS => ?_)
    refine lv_i2l (v := r_1.toInt64) hx hb dL_pass_7 rfl ?_
    refine va_last hx hb hK.1 hP hD hS 77 1 (get_last 77 rfl) rfl hi_1 dL_pass_8 (fun H locs hP hD hS => ?_)
    rw [set_last 77 rfl] at hP
    obtain ⟨fo_1, efo_1⟩ : ∃ g : Nat → Int64, g = vp_updL fo (0 : Int32).toNatClampNeg r_1.toInt64 := ⟨_, rfl⟩
    replace hf := nm_of efo_1 hf
    rw [← efo_1] at hP
    have hP : va_P X.1 vwCl ((wLR X x0 hh ht ch tx y hy rP fP_1 rT fT rG_1 fG_1 rL_1 fL_1 rH fH_1 gi di_1 re ti_1 rPT fPT rTT fTT rGT fGT rLT fLT rHT fHT giT diT reT tiT rS fS rB fB rO fO pl fa cn_1 ro_1 Qh_1) ++ (wOut X o0 fo_1)) H := hP
    refine lv_goto (tgt := 18) hx hb dL_pass_9 (by decide) ?_
    refine lv_iconst (v := 0) hx hb dL_pass_18 (by decide) ?_
    cases hf
    exact fw_iret hx hb hr hlocks hP hS (Nat.le_of_ble_eq_true rfl) (Nat.le_of_ble_eq_true rfl) dL_pass_19

def f_L_held (x1 : Int32) (x2 : Int32) (rT : Int32) (rH : Int32) (fH : (Nat → Int32)) (fo : (Nat → Int64)) : Option (Int32 × (Nat → Int64)) :=
  bx (f_X5_held x1 x2 rT rH fH) (fun e_ => if e_ = "java/lang/IndexOutOfBoundsException" then some ((1 : Int32), fo) else none) (fun o_ => ix (0 : Int32) 1 (nm (vp_updL fo (0 : Int32).toNatClampNeg o_.toInt64) (fun fo_1 => some ((0 : Int32), fo_1))))
set_option maxHeartbeats 4000000 in
set_option maxRecDepth 100000 in
theorem c_L_held (l : Launch) (hfl : l.stackTraces = false) (X : cx_G) (x0 : Nat) (hh : (Nat → Nat)) (ht : (Nat → Nat)) (ch : (Nat → Nat)) (tx : (Nat → Nat)) (y : (Nat → Nat)) (hy : (Nat → Nat → Nat)) (o0 : Nat) (rP : Int32) (fP : (Nat → Int32)) (rT : Int32) (fT : (Nat → Int32)) (rG : Int32) (fG : (Nat → Int32)) (rL : Int32) (fL : (Nat → Int32)) (rH : Int32) (fH : (Nat → Int32)) (gi : Int32) (di : Int32) (re : Int32) (ti : Int32) (rPT : Int32) (fPT : (Nat → Int32)) (rTT : Int32) (fTT : (Nat → Int32)) (rGT : Int32) (fGT : (Nat → Int32)) (rLT : Int32) (fLT : (Nat → Int32)) (rHT : Int32) (fHT : (Nat → Int32)) (giT : Int32) (diT : Int32) (reT : Int32) (tiT : Int32) (rS : Int32) (fS : (Nat → Int32)) (rB : Int32) (fB : (Nat → Int32)) (rO : Int32) (fO : (Nat → Int32)) (pl : Int32) (fa : Int32) (cn : Int32) (ro : Nat) (Qh : (Nat → HS)) (fo : (Nat → Int64)) (x1 : Int32) (x2 : Int32) (r : Int32) (fo' : (Nat → Int64)) (hf : f_L_held x1 x2 rT rH fH fo = some (r, fo')) : Fw l yL_held wsL_held ({ frames := 8, cells := 1, slots := 6, locals := 133 } : Room) X [.ref (x0), .int x1, .int x2, .ref (o0)] ((wLR X x0 hh ht ch tx y hy rP fP rT fT rG fG rL fL rH fH gi di re ti rPT fPT rTT fTT rGT fGT rLT fLT rHT fHT giT diT reT tiT rS fS rB fB rO fO pl fa cn ro Qh) ++ (wOut X o0 fo)) (some (.int r)) ((wLR X x0 hh ht ch tx y hy rP fP rT fT rG fG rL fL rH fH gi di re ti rPT fPT rTT fTT rGT fGT rLT fLT rHT fHT giT diT reT tiT rS fS rB fB rO fO pl fa cn ro Qh) ++ (wOut X o0 fo')) := by
  refine fw_intro (cc := cL_held) (maxL := 5) (ret := (some .int)) (hh := [(0, 10, 13, 13)]) (by decide) rfl (wLO_fst.trans wLO_fst.symm) (Nat.le_of_ble_eq_true rfl) ?_
  intro p e s m args below meth c A ls hx hb hml hr hts hown hlocks hex hK hP hD0 hS hA hTS hTZ hl
  have hown : s.vm.findClass RL = some m.cls := hown
  have hl : lv_has ls 5 [(0, .ref (x0)), (1, .int x1), (2, .int x2), (3, .ref (o0))] := hl
  have hex : c.exceptionTable.toList = [⟨0, 10, 13, 13⟩] := hex.trans rfl
  unfold f_L_held at hf
  refine lv_aload_n hx hb dL_held_0 rfl (lv_at hl 3 rfl) ?_
  refine lv_iconst (v := 0) hx hb dL_held_1 (by decide) ?_
  refine lv_aload_n hx hb dL_held_2 rfl (lv_at hl 0 rfl) ?_
  refine lv_iload_n hx hb dL_held_3 rfl (lv_at hl 1 rfl) ?_
  refine lv_iload_n hx hb dL_held_4 rfl (lv_at hl 2 rfl) ?_
  rcases bx_of hf with ⟨E_1, hc, hf⟩ | ⟨r_1, hc, hf⟩
  · try dsimp only at hf
    by_cases cE : E_1 = "java/lang/IndexOutOfBoundsException"
    · replace hf := fp_t cE hf
      subst cE
      cases hf
      refine tx_VJ (As := [.int x1, .int x2]) (rest := [.int (0 : Int32), .ref (o0)]) (nL := 5) (ws' := ((wLR X x0 hh ht ch tx y hy rP fP rT fT rG fG rL fL rH fH gi di re ti rPT fPT rTT fTT rGT fGT rLT fLT rHT fHT giT diT reT tiT rS fS rB fB rO fO pl fa cn ro Qh) ++ (wOut X o0 fo))) ⟨hx, hb, hml, hown, hts⟩ (c_X5_held_x l hfl X x0 hh ht ch tx y hy rP fP rT fT rG fG rL fL rH fH gi di re ti rPT fPT rTT fTT rGT fGT rLT fLT rHT fHT giT diT reT tiT rS fS rB fB rO fO pl fa cn ro Qh x1 x2 ("java/lang/IndexOutOfBoundsException") hc) (cwV 2 hts gL_held_X5_held rfl rfl rfl (by decide +kernel) ⟨Nat.le_of_ble_eq_true rfl, Nat.le_of_ble_eq_true rfl⟩) 5 rfl rfl rfl rfl hl.1 rfl (Nat.le_of_ble_eq_true rfl) dL_held_5 hTS hTZ hK hP hD0 hS hA [0, 1, 2, 3, 4, 5, 6, 7, 8, 9, 10, 11, 12, 13, 14, 15, 16, 17, 18, 19, 20, 21, 22, 23, 24, 25, 26, 27, 28, 29, 30, 31, 32, 33, 34, 35, 36, 37, 38, 39, 40, 41, 42, 43, 44, 45, 46, 47, 48, 49, 50, 51, 52, 53, 54, 55, 56, 57, 58, 59, 60, 61, 62, 63, 64, 65, 66, 67, 68, 69, 70, 71, 72, 73, 74, 75, 76] (by decide +kernel) oC_a oJ_a ⟨Nat.le_of_ble_eq_true rfl, Nat.le_of_ble_eq_true rfl⟩ (fun q9 ce H locs hP hS h1 h2 h3 => ?_)
      refine vx_catch (own := RL) (name := "java/lang/IndexOutOfBoundsException") hown [] ⟨0, 10, 13, 13⟩ [] hex (fun z hz => nomatch hz) rfl (by decide) (hts (.classLink RL 13 "java/lang/IndexOutOfBoundsException") (by decide +kernel)) (hTS.2.1.use _ (List.mem_of_getElem? (i := 4) rfl)) h1 h2 h3 ?_
      refine lv_astore (lv' := [(4, .ref q9), (0, .ref (x0)), (1, .int x1), (2, .int x2), (3, .ref (o0))]) hx hb dL_held_13 hl (by decide) rfl (fun ls hl => ?_)
      refine lv_iconst (v := 1) hx hb dL_held_15 (by decide) ?_
      exact fw_iret hx hb hr hlocks hP hS (Nat.le_of_ble_eq_true rfl) (Nat.le_of_ble_eq_true rfl) dL_held_16
    · replace hf := fp_f cE hf
      cases hf
  · try dsimp only at hf
    obtain ⟨hi_1, hf⟩ := ix_of hf
    refine fn_V (v := some (.int r_1)) (As := [.int x1, .int x2]) (rest := [.int (0 : Int32), .ref (o0)]) (st1 := [.int r_1, .int (0 : Int32), .ref (o0)]) (ws' := ((wLR X x0 hh ht ch tx y hy rP fP rT fT rG fG rL fL rH fH gi di re ti rPT fPT rTT fTT rGT fGT rLT fLT rHT fHT giT diT reT tiT rS fS rB fB rO fO pl fa cn ro Qh) ++ (wOut X o0 fo))) (nL := 5) ⟨hx, hb, hml, hown, hts⟩ (c_X5_held l X x0 hh ht ch tx y hy rP fP rT fT rG fG rL fL rH fH gi di re ti rPT fPT rTT fTT rGT fGT rLT fLT rHT fHT giT diT reT tiT rS fS rB fB rO fO pl fa cn ro Qh x1 x2 r_1 hc) (cwV 2 hts gL_held_X5_held rfl rfl rfl (by decide +kernel) ⟨Nat.le_of_ble_eq_true rfl, Nat.le_of_ble_eq_true rfl⟩) 5 rfl rfl rfl rfl hl.1 rfl (Nat.le_of_ble_eq_true rfl) dL_held_5 hK hP hD0 hS hA [0, 1, 2, 3, 4, 5, 6, 7, 8, 9, 10, 11, 12, 13, 14, 15, 16, 17, 18, 19, 20, 21, 22, 23, 24, 25, 26, 27, 28, 29, 30, 31, 32, 33, 34, 35, 36, 37, 38, 39, 40, 41, 42, 43, 44, 45, 46, 47, 48, 49, 50, 51, 52, 53, 54, 55, 56, 57, 58, 59, 60, 61, 62, 63, 64, 65, 66, 67, 68, 69, 70, 71, 72, 73, 74, 75, 76] (by decide +kernel) oC_a (pt_setid _ _ _ oC_a) rfl ⟨Nat.zero_le _, Nat.zero_le _⟩ (fun H locs hP hD hS => ?_)
    refine lv_i2l (v := r_1.toInt64) hx hb dL_held_8 rfl ?_
    refine va_last hx hb hK.1 hP hD hS 77 1 (get_last 77 rfl) rfl hi_1 dL_held_9 (fun H locs hP hD hS => ?_)
    rw [set_last 77 rfl] at hP
    obtain ⟨fo_1, efo_1⟩ : ∃ g : Nat → Int64, g = vp_updL fo (0 : Int32).toNatClampNeg r_1.toInt64 := ⟨_, rfl⟩
    replace hf := nm_of efo_1 hf
    rw [← efo_1] at hP
    have hP : va_P X.1 vwCl ((wLR X x0 hh ht ch tx y hy rP fP rT fT rG fG rL fL rH fH gi di re ti rPT fPT rTT fTT rGT fGT rLT fLT rHT fHT giT diT reT tiT rS fS rB fB rO fO pl fa cn ro Qh) ++ (wOut X o0 fo_1)) H := hP
    refine lv_goto (tgt := 17) hx hb dL_held_10 (by decide) ?_
    refine lv_iconst (v := 0) hx hb dL_held_17 (by decide) ?_
    cases hf
    exact fw_iret hx hb hr hlocks hP hS (Nat.le_of_ble_eq_true rfl) (Nat.le_of_ble_eq_true rfl) dL_held_18

def f_L_person (x1 : Int32) (x2 : Int32) (rP : Int32) (fP : (Nat → Int32)) (rT : Int32) (fT : (Nat → Int32)) (rG : Int32) (fG : (Nat → Int32)) (rH : Int32) (fH : (Nat → Int32)) (fo : (Nat → Int64)) : Option (Int32 × (Nat → Int64)) :=
  bx (f_X5_person x1 x2 rP fP rT fT rG fG rH fH) (fun e_ => if e_ = "java/lang/IndexOutOfBoundsException" then some ((1 : Int32), fo) else if e_ = "java/lang/IllegalArgumentException" then some ((2 : Int32), fo) else none) (fun o_ => ix (0 : Int32) 1 (nm (vp_updL fo (0 : Int32).toNatClampNeg o_.toInt64) (fun fo_1 => some ((0 : Int32), fo_1))))
set_option maxHeartbeats 4000000 in
set_option maxRecDepth 100000 in
theorem c_L_person (l : Launch) (hfl : l.stackTraces = false) (X : cx_G) (x0 : Nat) (hh : (Nat → Nat)) (ht : (Nat → Nat)) (ch : (Nat → Nat)) (tx : (Nat → Nat)) (y : (Nat → Nat)) (hy : (Nat → Nat → Nat)) (o0 : Nat) (rP : Int32) (fP : (Nat → Int32)) (rT : Int32) (fT : (Nat → Int32)) (rG : Int32) (fG : (Nat → Int32)) (rL : Int32) (fL : (Nat → Int32)) (rH : Int32) (fH : (Nat → Int32)) (gi : Int32) (di : Int32) (re : Int32) (ti : Int32) (rPT : Int32) (fPT : (Nat → Int32)) (rTT : Int32) (fTT : (Nat → Int32)) (rGT : Int32) (fGT : (Nat → Int32)) (rLT : Int32) (fLT : (Nat → Int32)) (rHT : Int32) (fHT : (Nat → Int32)) (giT : Int32) (diT : Int32) (reT : Int32) (tiT : Int32) (rS : Int32) (fS : (Nat → Int32)) (rB : Int32) (fB : (Nat → Int32)) (rO : Int32) (fO : (Nat → Int32)) (pl : Int32) (fa : Int32) (cn : Int32) (ro : Nat) (Qh : (Nat → HS)) (fo : (Nat → Int64)) (x1 : Int32) (x2 : Int32) (r : Int32) (fo' : (Nat → Int64)) (hf : f_L_person x1 x2 rP fP rT fT rG fG rH fH fo = some (r, fo')) : Fw l yL_person wsL_person ({ frames := 8, cells := 1, slots := 6, locals := 134 } : Room) X [.ref (x0), .int x1, .int x2, .ref (o0)] ((wLR X x0 hh ht ch tx y hy rP fP rT fT rG fG rL fL rH fH gi di re ti rPT fPT rTT fTT rGT fGT rLT fLT rHT fHT giT diT reT tiT rS fS rB fB rO fO pl fa cn ro Qh) ++ (wOut X o0 fo)) (some (.int r)) ((wLR X x0 hh ht ch tx y hy rP fP rT fT rG fG rL fL rH fH gi di re ti rPT fPT rTT fTT rGT fGT rLT fLT rHT fHT giT diT reT tiT rS fS rB fB rO fO pl fa cn ro Qh) ++ (wOut X o0 fo')) := by
  refine fw_intro (cc := cL_person) (maxL := 5) (ret := (some .int)) (hh := [(0, 10, 13, 13), (0, 10, 17, 15)]) (by decide) rfl (wLO_fst.trans wLO_fst.symm) (Nat.le_of_ble_eq_true rfl) ?_
  intro p e s m args below meth c A ls hx hb hml hr hts hown hlocks hex hK hP hD0 hS hA hTS hTZ hl
  have hown : s.vm.findClass RL = some m.cls := hown
  have hl : lv_has ls 5 [(0, .ref (x0)), (1, .int x1), (2, .int x2), (3, .ref (o0))] := hl
  have hex : c.exceptionTable.toList = [⟨0, 10, 13, 13⟩, ⟨0, 10, 17, 15⟩] := hex.trans rfl
  unfold f_L_person at hf
  refine lv_aload_n hx hb dL_person_0 rfl (lv_at hl 3 rfl) ?_
  refine lv_iconst (v := 0) hx hb dL_person_1 (by decide) ?_
  refine lv_aload_n hx hb dL_person_2 rfl (lv_at hl 0 rfl) ?_
  refine lv_iload_n hx hb dL_person_3 rfl (lv_at hl 1 rfl) ?_
  refine lv_iload_n hx hb dL_person_4 rfl (lv_at hl 2 rfl) ?_
  rcases bx_of hf with ⟨E_1, hc, hf⟩ | ⟨r_1, hc, hf⟩
  · try dsimp only at hf
    by_cases cE : E_1 = "java/lang/IndexOutOfBoundsException"
    · replace hf := fp_t cE hf
      subst cE
      cases hf
      refine tx_VJ (As := [.int x1, .int x2]) (rest := [.int (0 : Int32), .ref (o0)]) (nL := 5) (ws' := ((wLR X x0 hh ht ch tx y hy rP fP rT fT rG fG rL fL rH fH gi di re ti rPT fPT rTT fTT rGT fGT rLT fLT rHT fHT giT diT reT tiT rS fS rB fB rO fO pl fa cn ro Qh) ++ (wOut X o0 fo))) ⟨hx, hb, hml, hown, hts⟩ (c_X5_person_x l hfl X x0 hh ht ch tx y hy rP fP rT fT rG fG rL fL rH fH gi di re ti rPT fPT rTT fTT rGT fGT rLT fLT rHT fHT giT diT reT tiT rS fS rB fB rO fO pl fa cn ro Qh x1 x2 ("java/lang/IndexOutOfBoundsException") hc) (cwV 2 hts gL_person_X5_person rfl rfl rfl (by decide +kernel) ⟨Nat.le_of_ble_eq_true rfl, Nat.le_of_ble_eq_true rfl⟩) 5 rfl rfl rfl rfl hl.1 rfl (Nat.le_of_ble_eq_true rfl) dL_person_5 hTS hTZ hK hP hD0 hS hA [0, 1, 2, 3, 4, 5, 6, 7, 8, 9, 10, 11, 12, 13, 14, 15, 16, 17, 18, 19, 20, 21, 22, 23, 24, 25, 26, 27, 28, 29, 30, 31, 32, 33, 34, 35, 36, 37, 38, 39, 40, 41, 42, 43, 44, 45, 46, 47, 48, 49, 50, 51, 52, 53, 54, 55, 56, 57, 58, 59, 60, 61, 62, 63, 64, 65, 66, 67, 68, 69, 70, 71, 72, 73, 74, 75, 76] (by decide +kernel) oC_a oJ_a ⟨Nat.le_of_ble_eq_true rfl, Nat.le_of_ble_eq_true rfl⟩ (fun q9 ce H locs hP hS h1 h2 h3 => ?_)
      refine vx_catch (own := RL) (name := "java/lang/IndexOutOfBoundsException") hown [] ⟨0, 10, 13, 13⟩ [⟨0, 10, 17, 15⟩] hex (fun z hz => nomatch hz) rfl (by decide) (hts (.classLink RL 13 "java/lang/IndexOutOfBoundsException") (by decide +kernel)) (hTS.2.1.use _ (List.mem_of_getElem? (i := 4) rfl)) h1 h2 h3 ?_
      refine lv_astore (lv' := [(4, .ref q9), (0, .ref (x0)), (1, .int x1), (2, .int x2), (3, .ref (o0))]) hx hb dL_person_13 hl (by decide) rfl (fun ls hl => ?_)
      refine lv_iconst (v := 1) hx hb dL_person_15 (by decide) ?_
      exact fw_iret hx hb hr hlocks hP hS (Nat.le_of_ble_eq_true rfl) (Nat.le_of_ble_eq_true rfl) dL_person_16
    · replace hf := fp_f cE hf
      by_cases cE : E_1 = "java/lang/IllegalArgumentException"
      · replace hf := fp_t cE hf
        subst cE
        cases hf
        refine tx_VJ (As := [.int x1, .int x2]) (rest := [.int (0 : Int32), .ref (o0)]) (nL := 5) (ws' := ((wLR X x0 hh ht ch tx y hy rP fP rT fT rG fG rL fL rH fH gi di re ti rPT fPT rTT fTT rGT fGT rLT fLT rHT fHT giT diT reT tiT rS fS rB fB rO fO pl fa cn ro Qh) ++ (wOut X o0 fo))) ⟨hx, hb, hml, hown, hts⟩ (c_X5_person_x l hfl X x0 hh ht ch tx y hy rP fP rT fT rG fG rL fL rH fH gi di re ti rPT fPT rTT fTT rGT fGT rLT fLT rHT fHT giT diT reT tiT rS fS rB fB rO fO pl fa cn ro Qh x1 x2 ("java/lang/IllegalArgumentException") hc) (cwV 2 hts gL_person_X5_person rfl rfl rfl (by decide +kernel) ⟨Nat.le_of_ble_eq_true rfl, Nat.le_of_ble_eq_true rfl⟩) 5 rfl rfl rfl rfl hl.1 rfl (Nat.le_of_ble_eq_true rfl) dL_person_5 hTS hTZ hK hP hD0 hS hA [0, 1, 2, 3, 4, 5, 6, 7, 8, 9, 10, 11, 12, 13, 14, 15, 16, 17, 18, 19, 20, 21, 22, 23, 24, 25, 26, 27, 28, 29, 30, 31, 32, 33, 34, 35, 36, 37, 38, 39, 40, 41, 42, 43, 44, 45, 46, 47, 48, 49, 50, 51, 52, 53, 54, 55, 56, 57, 58, 59, 60, 61, 62, 63, 64, 65, 66, 67, 68, 69, 70, 71, 72, 73, 74, 75, 76] (by decide +kernel) oC_a oJ_a ⟨Nat.le_of_ble_eq_true rfl, Nat.le_of_ble_eq_true rfl⟩ (fun q9 ce H locs hP hS h1 h2 h3 => ?_)
        have hpass : ∀ z ∈ ([⟨0, 10, 13, 13⟩] : List ExceptionTableEntry), covers z 5 = false ∨ (z.catchType ≠ 0 ∧ ∃ nm : String, (Cond.classLink RL z.catchType nm).before args s = true ∧ va_Nc "java/lang/IllegalArgumentException" nm s) := by
          intro z hz
          simp only [List.mem_cons, List.not_mem_nil, or_false] at hz
          rcases hz with rfl
          · exact Or.inr ⟨by decide, "java/lang/IndexOutOfBoundsException", hts (.classLink RL 13 "java/lang/IndexOutOfBoundsException") (by decide +kernel), hTS.2.2.1⟩
        refine vx_catch (own := RL) (name := "java/lang/IllegalArgumentException") hown [⟨0, 10, 13, 13⟩] ⟨0, 10, 17, 15⟩ [] hex hpass rfl (by decide) (hts (.classLink RL 15 "java/lang/IllegalArgumentException") (by decide +kernel)) (hTS.2.1.use _ (List.mem_of_getElem? (i := 5) rfl)) h1 h2 h3 ?_
        refine lv_astore (lv' := [(4, .ref q9), (0, .ref (x0)), (1, .int x1), (2, .int x2), (3, .ref (o0))]) hx hb dL_person_17 hl (by decide) rfl (fun ls hl => ?_)
        refine lv_iconst (v := 2) hx hb dL_person_19 (by decide) ?_
        exact fw_iret hx hb hr hlocks hP hS (Nat.le_of_ble_eq_true rfl) (Nat.le_of_ble_eq_true rfl) dL_person_20
      · replace hf := fp_f cE hf
        cases hf
  · try dsimp only at hf
    obtain ⟨hi_1, hf⟩ := ix_of hf
    refine fn_V (v := some (.int r_1)) (As := [.int x1, .int x2]) (rest := [.int (0 : Int32), .ref (o0)]) (st1 := [.int r_1, .int (0 : Int32), .ref (o0)]) (ws' := ((wLR X x0 hh ht ch tx y hy rP fP rT fT rG fG rL fL rH fH gi di re ti rPT fPT rTT fTT rGT fGT rLT fLT rHT fHT giT diT reT tiT rS fS rB fB rO fO pl fa cn ro Qh) ++ (wOut X o0 fo))) (nL := 5) ⟨hx, hb, hml, hown, hts⟩ (c_X5_person l X x0 hh ht ch tx y hy rP fP rT fT rG fG rL fL rH fH gi di re ti rPT fPT rTT fTT rGT fGT rLT fLT rHT fHT giT diT reT tiT rS fS rB fB rO fO pl fa cn ro Qh x1 x2 r_1 hc) (cwV 2 hts gL_person_X5_person rfl rfl rfl (by decide +kernel) ⟨Nat.le_of_ble_eq_true rfl, Nat.le_of_ble_eq_true rfl⟩) 5 rfl rfl rfl rfl hl.1 rfl (Nat.le_of_ble_eq_true rfl) dL_person_5 hK hP hD0 hS hA [0, 1, 2, 3, 4, 5, 6, 7, 8, 9, 10, 11, 12, 13, 14, 15, 16, 17, 18, 19, 20, 21, 22, 23, 24, 25, 26, 27, 28, 29, 30, 31, 32, 33, 34, 35, 36, 37, 38, 39, 40, 41, 42, 43, 44, 45, 46, 47, 48, 49, 50, 51, 52, 53, 54, 55, 56, 57, 58, 59, 60, 61, 62, 63, 64, 65, 66, 67, 68, 69, 70, 71, 72, 73, 74, 75, 76] (by decide +kernel) oC_a (pt_setid _ _ _ oC_a) rfl ⟨Nat.zero_le _, Nat.zero_le _⟩ (fun H locs hP hD hS => ?_)
    refine lv_i2l (v := r_1.toInt64) hx hb dL_person_8 rfl ?_
    refine va_last hx hb hK.1 hP hD hS 77 1 (get_last 77 rfl) rfl hi_1 dL_person_9 (fun H locs hP hD hS => ?_)
    rw [set_last 77 rfl] at hP
    obtain ⟨fo_1, efo_1⟩ : ∃ g : Nat → Int64, g = vp_updL fo (0 : Int32).toNatClampNeg r_1.toInt64 := ⟨_, rfl⟩
    replace hf := nm_of efo_1 hf
    rw [← efo_1] at hP
    have hP : va_P X.1 vwCl ((wLR X x0 hh ht ch tx y hy rP fP rT fT rG fG rL fL rH fH gi di re ti rPT fPT rTT fTT rGT fGT rLT fLT rHT fHT giT diT reT tiT rS fS rB fB rO fO pl fa cn ro Qh) ++ (wOut X o0 fo_1)) H := hP
    refine lv_goto (tgt := 21) hx hb dL_person_10 (by decide) ?_
    refine lv_iconst (v := 0) hx hb dL_person_21 (by decide) ?_
    cases hf
    exact fw_iret hx hb hr hlocks hP hS (Nat.le_of_ble_eq_true rfl) (Nat.le_of_ble_eq_true rfl) dL_person_22

def f_L_thing (x1 : Int32) (x2 : Int32) (rT : Int32) (fT : (Nat → Int32)) (rG : Int32) (fG : (Nat → Int32)) (rH : Int32) (fH : (Nat → Int32)) (fo : (Nat → Int64)) : Option (Int32 × (Nat → Int64)) :=
  bx (f_X5_thing x1 x2 rT fT rG fG rH fH) (fun e_ => if e_ = "java/lang/IndexOutOfBoundsException" then some ((1 : Int32), fo) else if e_ = "java/lang/IllegalArgumentException" then some ((2 : Int32), fo) else none) (fun o_ => ix (0 : Int32) 1 (nm (vp_updL fo (0 : Int32).toNatClampNeg o_.toInt64) (fun fo_1 => some ((0 : Int32), fo_1))))
set_option maxHeartbeats 4000000 in
set_option maxRecDepth 100000 in
theorem c_L_thing (l : Launch) (hfl : l.stackTraces = false) (X : cx_G) (x0 : Nat) (hh : (Nat → Nat)) (ht : (Nat → Nat)) (ch : (Nat → Nat)) (tx : (Nat → Nat)) (y : (Nat → Nat)) (hy : (Nat → Nat → Nat)) (o0 : Nat) (rP : Int32) (fP : (Nat → Int32)) (rT : Int32) (fT : (Nat → Int32)) (rG : Int32) (fG : (Nat → Int32)) (rL : Int32) (fL : (Nat → Int32)) (rH : Int32) (fH : (Nat → Int32)) (gi : Int32) (di : Int32) (re : Int32) (ti : Int32) (rPT : Int32) (fPT : (Nat → Int32)) (rTT : Int32) (fTT : (Nat → Int32)) (rGT : Int32) (fGT : (Nat → Int32)) (rLT : Int32) (fLT : (Nat → Int32)) (rHT : Int32) (fHT : (Nat → Int32)) (giT : Int32) (diT : Int32) (reT : Int32) (tiT : Int32) (rS : Int32) (fS : (Nat → Int32)) (rB : Int32) (fB : (Nat → Int32)) (rO : Int32) (fO : (Nat → Int32)) (pl : Int32) (fa : Int32) (cn : Int32) (ro : Nat) (Qh : (Nat → HS)) (fo : (Nat → Int64)) (x1 : Int32) (x2 : Int32) (r : Int32) (fo' : (Nat → Int64)) (hf : f_L_thing x1 x2 rT fT rG fG rH fH fo = some (r, fo')) : Fw l yL_thing wsL_thing ({ frames := 8, cells := 1, slots := 6, locals := 134 } : Room) X [.ref (x0), .int x1, .int x2, .ref (o0)] ((wLR X x0 hh ht ch tx y hy rP fP rT fT rG fG rL fL rH fH gi di re ti rPT fPT rTT fTT rGT fGT rLT fLT rHT fHT giT diT reT tiT rS fS rB fB rO fO pl fa cn ro Qh) ++ (wOut X o0 fo)) (some (.int r)) ((wLR X x0 hh ht ch tx y hy rP fP rT fT rG fG rL fL rH fH gi di re ti rPT fPT rTT fTT rGT fGT rLT fLT rHT fHT giT diT reT tiT rS fS rB fB rO fO pl fa cn ro Qh) ++ (wOut X o0 fo')) := by
  refine fw_intro (cc := cL_thing) (maxL := 5) (ret := (some .int)) (hh := [(0, 10, 13, 13), (0, 10, 17, 15)]) (by decide) rfl (wLO_fst.trans wLO_fst.symm) (Nat.le_of_ble_eq_true rfl) ?_
  intro p e s m args below meth c A ls hx hb hml hr hts hown hlocks hex hK hP hD0 hS hA hTS hTZ hl
  have hown : s.vm.findClass RL = some m.cls := hown
  have hl : lv_has ls 5 [(0, .ref (x0)), (1, .int x1), (2, .int x2), (3, .ref (o0))] := hl
  have hex : c.exceptionTable.toList = [⟨0, 10, 13, 13⟩, ⟨0, 10, 17, 15⟩] := hex.trans rfl
  unfold f_L_thing at hf
  refine lv_aload_n hx hb dL_thing_0 rfl (lv_at hl 3 rfl) ?_
  refine lv_iconst (v := 0) hx hb dL_thing_1 (by decide) ?_
  refine lv_aload_n hx hb dL_thing_2 rfl (lv_at hl 0 rfl) ?_
  refine lv_iload_n hx hb dL_thing_3 rfl (lv_at hl 1 rfl) ?_
  refine lv_iload_n hx hb dL_thing_4 rfl (lv_at hl 2 rfl) ?_
  rcases bx_of hf with ⟨E_1, hc, hf⟩ | ⟨r_1, hc, hf⟩
  · try dsimp only at hf
    by_cases cE : E_1 = "java/lang/IndexOutOfBoundsException"
    · replace hf := fp_t cE hf
      subst cE
      cases hf
      refine tx_VJ (As := [.int x1, .int x2]) (rest := [.int (0 : Int32), .ref (o0)]) (nL := 5) (ws' := ((wLR X x0 hh ht ch tx y hy rP fP rT fT rG fG rL fL rH fH gi di re ti rPT fPT rTT fTT rGT fGT rLT fLT rHT fHT giT diT reT tiT rS fS rB fB rO fO pl fa cn ro Qh) ++ (wOut X o0 fo))) ⟨hx, hb, hml, hown, hts⟩ (c_X5_thing_x l hfl X x0 hh ht ch tx y hy rP fP rT fT rG fG rL fL rH fH gi di re ti rPT fPT rTT fTT rGT fGT rLT fLT rHT fHT giT diT reT tiT rS fS rB fB rO fO pl fa cn ro Qh x1 x2 ("java/lang/IndexOutOfBoundsException") hc) (cwV 2 hts gL_thing_X5_thing rfl rfl rfl (by decide +kernel) ⟨Nat.le_of_ble_eq_true rfl, Nat.le_of_ble_eq_true rfl⟩) 5 rfl rfl rfl rfl hl.1 rfl (Nat.le_of_ble_eq_true rfl) dL_thing_5 hTS hTZ hK hP hD0 hS hA [0, 1, 2, 3, 4, 5, 6, 7, 8, 9, 10, 11, 12, 13, 14, 15, 16, 17, 18, 19, 20, 21, 22, 23, 24, 25, 26, 27, 28, 29, 30, 31, 32, 33, 34, 35, 36, 37, 38, 39, 40, 41, 42, 43, 44, 45, 46, 47, 48, 49, 50, 51, 52, 53, 54, 55, 56, 57, 58, 59, 60, 61, 62, 63, 64, 65, 66, 67, 68, 69, 70, 71, 72, 73, 74, 75, 76] (by decide +kernel) oC_a oJ_a ⟨Nat.le_of_ble_eq_true rfl, Nat.le_of_ble_eq_true rfl⟩ (fun q9 ce H locs hP hS h1 h2 h3 => ?_)
      refine vx_catch (own := RL) (name := "java/lang/IndexOutOfBoundsException") hown [] ⟨0, 10, 13, 13⟩ [⟨0, 10, 17, 15⟩] hex (fun z hz => nomatch hz) rfl (by decide) (hts (.classLink RL 13 "java/lang/IndexOutOfBoundsException") (by decide +kernel)) (hTS.2.1.use _ (List.mem_of_getElem? (i := 4) rfl)) h1 h2 h3 ?_
      refine lv_astore (lv' := [(4, .ref q9), (0, .ref (x0)), (1, .int x1), (2, .int x2), (3, .ref (o0))]) hx hb dL_thing_13 hl (by decide) rfl (fun ls hl => ?_)
      refine lv_iconst (v := 1) hx hb dL_thing_15 (by decide) ?_
      exact fw_iret hx hb hr hlocks hP hS (Nat.le_of_ble_eq_true rfl) (Nat.le_of_ble_eq_true rfl) dL_thing_16
    · replace hf := fp_f cE hf
      by_cases cE : E_1 = "java/lang/IllegalArgumentException"
      · replace hf := fp_t cE hf
        subst cE
        cases hf
        refine tx_VJ (As := [.int x1, .int x2]) (rest := [.int (0 : Int32), .ref (o0)]) (nL := 5) (ws' := ((wLR X x0 hh ht ch tx y hy rP fP rT fT rG fG rL fL rH fH gi di re ti rPT fPT rTT fTT rGT fGT rLT fLT rHT fHT giT diT reT tiT rS fS rB fB rO fO pl fa cn ro Qh) ++ (wOut X o0 fo))) ⟨hx, hb, hml, hown, hts⟩ (c_X5_thing_x l hfl X x0 hh ht ch tx y hy rP fP rT fT rG fG rL fL rH fH gi di re ti rPT fPT rTT fTT rGT fGT rLT fLT rHT fHT giT diT reT tiT rS fS rB fB rO fO pl fa cn ro Qh x1 x2 ("java/lang/IllegalArgumentException") hc) (cwV 2 hts gL_thing_X5_thing rfl rfl rfl (by decide +kernel) ⟨Nat.le_of_ble_eq_true rfl, Nat.le_of_ble_eq_true rfl⟩) 5 rfl rfl rfl rfl hl.1 rfl (Nat.le_of_ble_eq_true rfl) dL_thing_5 hTS hTZ hK hP hD0 hS hA [0, 1, 2, 3, 4, 5, 6, 7, 8, 9, 10, 11, 12, 13, 14, 15, 16, 17, 18, 19, 20, 21, 22, 23, 24, 25, 26, 27, 28, 29, 30, 31, 32, 33, 34, 35, 36, 37, 38, 39, 40, 41, 42, 43, 44, 45, 46, 47, 48, 49, 50, 51, 52, 53, 54, 55, 56, 57, 58, 59, 60, 61, 62, 63, 64, 65, 66, 67, 68, 69, 70, 71, 72, 73, 74, 75, 76] (by decide +kernel) oC_a oJ_a ⟨Nat.le_of_ble_eq_true rfl, Nat.le_of_ble_eq_true rfl⟩ (fun q9 ce H locs hP hS h1 h2 h3 => ?_)
        have hpass : ∀ z ∈ ([⟨0, 10, 13, 13⟩] : List ExceptionTableEntry), covers z 5 = false ∨ (z.catchType ≠ 0 ∧ ∃ nm : String, (Cond.classLink RL z.catchType nm).before args s = true ∧ va_Nc "java/lang/IllegalArgumentException" nm s) := by
          intro z hz
          simp only [List.mem_cons, List.not_mem_nil, or_false] at hz
          rcases hz with rfl
          · exact Or.inr ⟨by decide, "java/lang/IndexOutOfBoundsException", hts (.classLink RL 13 "java/lang/IndexOutOfBoundsException") (by decide +kernel), hTS.2.2.1⟩
        refine vx_catch (own := RL) (name := "java/lang/IllegalArgumentException") hown [⟨0, 10, 13, 13⟩] ⟨0, 10, 17, 15⟩ [] hex hpass rfl (by decide) (hts (.classLink RL 15 "java/lang/IllegalArgumentException") (by decide +kernel)) (hTS.2.1.use _ (List.mem_of_getElem? (i := 5) rfl)) h1 h2 h3 ?_
        refine lv_astore (lv' := [(4, .ref q9), (0, .ref (x0)), (1, .int x1), (2, .int x2), (3, .ref (o0))]) hx hb dL_thing_17 hl (by decide) rfl (fun ls hl => ?_)
        refine lv_iconst (v := 2) hx hb dL_thing_19 (by decide) ?_
        exact fw_iret hx hb hr hlocks hP hS (Nat.le_of_ble_eq_true rfl) (Nat.le_of_ble_eq_true rfl) dL_thing_20
      · replace hf := fp_f cE hf
        cases hf
  · try dsimp only at hf
    obtain ⟨hi_1, hf⟩ := ix_of hf
    refine fn_V (v := some (.int r_1)) (As := [.int x1, .int x2]) (rest := [.int (0 : Int32), .ref (o0)]) (st1 := [.int r_1, .int (0 : Int32), .ref (o0)]) (ws' := ((wLR X x0 hh ht ch tx y hy rP fP rT fT rG fG rL fL rH fH gi di re ti rPT fPT rTT fTT rGT fGT rLT fLT rHT fHT giT diT reT tiT rS fS rB fB rO fO pl fa cn ro Qh) ++ (wOut X o0 fo))) (nL := 5) ⟨hx, hb, hml, hown, hts⟩ (c_X5_thing l X x0 hh ht ch tx y hy rP fP rT fT rG fG rL fL rH fH gi di re ti rPT fPT rTT fTT rGT fGT rLT fLT rHT fHT giT diT reT tiT rS fS rB fB rO fO pl fa cn ro Qh x1 x2 r_1 hc) (cwV 2 hts gL_thing_X5_thing rfl rfl rfl (by decide +kernel) ⟨Nat.le_of_ble_eq_true rfl, Nat.le_of_ble_eq_true rfl⟩) 5 rfl rfl rfl rfl hl.1 rfl (Nat.le_of_ble_eq_true rfl) dL_thing_5 hK hP hD0 hS hA [0, 1, 2, 3, 4, 5, 6, 7, 8, 9, 10, 11, 12, 13, 14, 15, 16, 17, 18, 19, 20, 21, 22, 23, 24, 25, 26, 27, 28, 29, 30, 31, 32, 33, 34, 35, 36, 37, 38, 39, 40, 41, 42, 43, 44, 45, 46, 47, 48, 49, 50, 51, 52, 53, 54, 55, 56, 57, 58, 59, 60, 61, 62, 63, 64, 65, 66, 67, 68, 69, 70, 71, 72, 73, 74, 75, 76] (by decide +kernel) oC_a (pt_setid _ _ _ oC_a) rfl ⟨Nat.zero_le _, Nat.zero_le _⟩ (fun H locs hP hD hS => ?_)
    refine lv_i2l (v := r_1.toInt64) hx hb dL_thing_8 rfl ?_
    refine va_last hx hb hK.1 hP hD hS 77 1 (get_last 77 rfl) rfl hi_1 dL_thing_9 (fun H locs hP hD hS => ?_)
    rw [set_last 77 rfl] at hP
    obtain ⟨fo_1, efo_1⟩ : ∃ g : Nat → Int64, g = vp_updL fo (0 : Int32).toNatClampNeg r_1.toInt64 := ⟨_, rfl⟩
    replace hf := nm_of efo_1 hf
    rw [← efo_1] at hP
    have hP : va_P X.1 vwCl ((wLR X x0 hh ht ch tx y hy rP fP rT fT rG fG rL fL rH fH gi di re ti rPT fPT rTT fTT rGT fGT rLT fLT rHT fHT giT diT reT tiT rS fS rB fB rO fO pl fa cn ro Qh) ++ (wOut X o0 fo_1)) H := hP
    refine lv_goto (tgt := 21) hx hb dL_thing_10 (by decide) ?_
    refine lv_iconst (v := 0) hx hb dL_thing_21 (by decide) ?_
    cases hf
    exact fw_iret hx hb hr hlocks hP hS (Nat.le_of_ble_eq_true rfl) (Nat.le_of_ble_eq_true rfl) dL_thing_22

def f_L_grantOf (x1 : Int32) (x2 : Int32) (rT : Int32) (fT : (Nat → Int32)) (rG : Int32) (fG : (Nat → Int32)) (rH : Int32) (fH : (Nat → Int32)) (fo : (Nat → Int64)) : Option (Int32 × (Nat → Int64)) :=
  bx (f_X5_grantOf x1 x2 rT fT rG fG rH fH) (fun e_ => if e_ = "java/util/NoSuchElementException" then some ((1 : Int32), fo) else if e_ = "java/lang/IllegalArgumentException" then some ((2 : Int32), fo) else none) (fun o_ => ix (0 : Int32) 1 (nm (vp_updL fo (0 : Int32).toNatClampNeg o_.toInt64) (fun fo_1 => some ((0 : Int32), fo_1))))
set_option maxHeartbeats 4000000 in
set_option maxRecDepth 100000 in
theorem c_L_grantOf (l : Launch) (hfl : l.stackTraces = false) (X : cx_G) (x0 : Nat) (hh : (Nat → Nat)) (ht : (Nat → Nat)) (ch : (Nat → Nat)) (tx : (Nat → Nat)) (y : (Nat → Nat)) (hy : (Nat → Nat → Nat)) (o0 : Nat) (rP : Int32) (fP : (Nat → Int32)) (rT : Int32) (fT : (Nat → Int32)) (rG : Int32) (fG : (Nat → Int32)) (rL : Int32) (fL : (Nat → Int32)) (rH : Int32) (fH : (Nat → Int32)) (gi : Int32) (di : Int32) (re : Int32) (ti : Int32) (rPT : Int32) (fPT : (Nat → Int32)) (rTT : Int32) (fTT : (Nat → Int32)) (rGT : Int32) (fGT : (Nat → Int32)) (rLT : Int32) (fLT : (Nat → Int32)) (rHT : Int32) (fHT : (Nat → Int32)) (giT : Int32) (diT : Int32) (reT : Int32) (tiT : Int32) (rS : Int32) (fS : (Nat → Int32)) (rB : Int32) (fB : (Nat → Int32)) (rO : Int32) (fO : (Nat → Int32)) (pl : Int32) (fa : Int32) (cn : Int32) (ro : Nat) (Qh : (Nat → HS)) (fo : (Nat → Int64)) (x1 : Int32) (x2 : Int32) (r : Int32) (fo' : (Nat → Int64)) (hf : f_L_grantOf x1 x2 rT fT rG fG rH fH fo = some (r, fo')) : Fw l yL_grantOf wsL_grantOf ({ frames := 8, cells := 1, slots := 6, locals := 135 } : Room) X [.ref (x0), .int x1, .int x2, .ref (o0)] ((wLR X x0 hh ht ch tx y hy rP fP rT fT rG fG rL fL rH fH gi di re ti rPT fPT rTT fTT rGT fGT rLT fLT rHT fHT giT diT reT tiT rS fS rB fB rO fO pl fa cn ro Qh) ++ (wOut X o0 fo)) (some (.int r)) ((wLR X x0 hh ht ch tx y hy rP fP rT fT rG fG rL fL rH fH gi di re ti rPT fPT rTT fTT rGT fGT rLT fLT rHT fHT giT diT reT tiT rS fS rB fB rO fO pl fa cn ro Qh) ++ (wOut X o0 fo')) := by
  refine fw_intro (cc := cL_grantOf) (maxL := 5) (ret := (some .int)) (hh := [(0, 10, 13, 36), (0, 10, 17, 15)]) (by decide) rfl (wLO_fst.trans wLO_fst.symm) (Nat.le_of_ble_eq_true rfl) ?_
  intro p e s m args below meth c A ls hx hb hml hr hts hown hlocks hex hK hP hD0 hS hA hTS hTZ hl
  have hown : s.vm.findClass RL = some m.cls := hown
  have hl : lv_has ls 5 [(0, .ref (x0)), (1, .int x1), (2, .int x2), (3, .ref (o0))] := hl
  have hex : c.exceptionTable.toList = [⟨0, 10, 13, 36⟩, ⟨0, 10, 17, 15⟩] := hex.trans rfl
  unfold f_L_grantOf at hf
  refine lv_aload_n hx hb dL_grantOf_0 rfl (lv_at hl 3 rfl) ?_
  refine lv_iconst (v := 0) hx hb dL_grantOf_1 (by decide) ?_
  refine lv_aload_n hx hb dL_grantOf_2 rfl (lv_at hl 0 rfl) ?_
  refine lv_iload_n hx hb dL_grantOf_3 rfl (lv_at hl 1 rfl) ?_
  refine lv_iload_n hx hb dL_grantOf_4 rfl (lv_at hl 2 rfl) ?_
  rcases bx_of hf with ⟨E_1, hc, hf⟩ | ⟨r_1, hc, hf⟩
  · try dsimp only at hf
    by_cases cE : E_1 = "java/util/NoSuchElementException"
    · replace hf := fp_t cE hf
      subst cE
      cases hf
      refine tx_VJ (As := [.int x1, .int x2]) (rest := [.int (0 : Int32), .ref (o0)]) (nL := 5) (ws' := ((wLR X x0 hh ht ch tx y hy rP fP rT fT rG fG rL fL rH fH gi di re ti rPT fPT rTT fTT rGT fGT rLT fLT rHT fHT giT diT reT tiT rS fS rB fB rO fO pl fa cn ro Qh) ++ (wOut X o0 fo))) ⟨hx, hb, hml, hown, hts⟩ (c_X5_grantOf_x l hfl X x0 hh ht ch tx y hy rP fP rT fT rG fG rL fL rH fH gi di re ti rPT fPT rTT fTT rGT fGT rLT fLT rHT fHT giT diT reT tiT rS fS rB fB rO fO pl fa cn ro Qh x1 x2 ("java/util/NoSuchElementException") hc) (cwV 2 hts gL_grantOf_X5_grantOf rfl rfl rfl (by decide +kernel) ⟨Nat.le_of_ble_eq_true rfl, Nat.le_of_ble_eq_true rfl⟩) 5 rfl rfl rfl rfl hl.1 rfl (Nat.le_of_ble_eq_true rfl) dL_grantOf_5 hTS hTZ hK hP hD0 hS hA [0, 1, 2, 3, 4, 5, 6, 7, 8, 9, 10, 11, 12, 13, 14, 15, 16, 17, 18, 19, 20, 21, 22, 23, 24, 25, 26, 27, 28, 29, 30, 31, 32, 33, 34, 35, 36, 37, 38, 39, 40, 41, 42, 43, 44, 45, 46, 47, 48, 49, 50, 51, 52, 53, 54, 55, 56, 57, 58, 59, 60, 61, 62, 63, 64, 65, 66, 67, 68, 69, 70, 71, 72, 73, 74, 75, 76] (by decide +kernel) oC_a oJ_a ⟨Nat.le_of_ble_eq_true rfl, Nat.le_of_ble_eq_true rfl⟩ (fun q9 ce H locs hP hS h1 h2 h3 => ?_)
      refine vx_catch (own := RL) (name := "java/util/NoSuchElementException") hown [] ⟨0, 10, 13, 36⟩ [⟨0, 10, 17, 15⟩] hex (fun z hz => nomatch hz) rfl (by decide) (hts (.classLink RL 36 "java/util/NoSuchElementException") (by decide +kernel)) (hTS.2.1.use _ (List.mem_of_getElem? (i := 6) rfl)) h1 h2 h3 ?_
      refine lv_astore (lv' := [(4, .ref q9), (0, .ref (x0)), (1, .int x1), (2, .int x2), (3, .ref (o0))]) hx hb dL_grantOf_13 hl (by decide) rfl (fun ls hl => ?_)
      refine lv_iconst (v := 1) hx hb dL_grantOf_15 (by decide) ?_
      exact fw_iret hx hb hr hlocks hP hS (Nat.le_of_ble_eq_true rfl) (Nat.le_of_ble_eq_true rfl) dL_grantOf_16
    · replace hf := fp_f cE hf
      by_cases cE : E_1 = "java/lang/IllegalArgumentException"
      · replace hf := fp_t cE hf
        subst cE
        cases hf
        refine tx_VJ (As := [.int x1, .int x2]) (rest := [.int (0 : Int32), .ref (o0)]) (nL := 5) (ws' := ((wLR X x0 hh ht ch tx y hy rP fP rT fT rG fG rL fL rH fH gi di re ti rPT fPT rTT fTT rGT fGT rLT fLT rHT fHT giT diT reT tiT rS fS rB fB rO fO pl fa cn ro Qh) ++ (wOut X o0 fo))) ⟨hx, hb, hml, hown, hts⟩ (c_X5_grantOf_x l hfl X x0 hh ht ch tx y hy rP fP rT fT rG fG rL fL rH fH gi di re ti rPT fPT rTT fTT rGT fGT rLT fLT rHT fHT giT diT reT tiT rS fS rB fB rO fO pl fa cn ro Qh x1 x2 ("java/lang/IllegalArgumentException") hc) (cwV 2 hts gL_grantOf_X5_grantOf rfl rfl rfl (by decide +kernel) ⟨Nat.le_of_ble_eq_true rfl, Nat.le_of_ble_eq_true rfl⟩) 5 rfl rfl rfl rfl hl.1 rfl (Nat.le_of_ble_eq_true rfl) dL_grantOf_5 hTS hTZ hK hP hD0 hS hA [0, 1, 2, 3, 4, 5, 6, 7, 8, 9, 10, 11, 12, 13, 14, 15, 16, 17, 18, 19, 20, 21, 22, 23, 24, 25, 26, 27, 28, 29, 30, 31, 32, 33, 34, 35, 36, 37, 38, 39, 40, 41, 42, 43, 44, 45, 46, 47, 48, 49, 50, 51, 52, 53, 54, 55, 56, 57, 58, 59, 60, 61, 62, 63, 64, 65, 66, 67, 68, 69, 70, 71, 72, 73, 74, 75, 76] (by decide +kernel) oC_a oJ_a ⟨Nat.le_of_ble_eq_true rfl, Nat.le_of_ble_eq_true rfl⟩ (fun q9 ce H locs hP hS h1 h2 h3 => ?_)
        have hpass : ∀ z ∈ ([⟨0, 10, 13, 36⟩] : List ExceptionTableEntry), covers z 5 = false ∨ (z.catchType ≠ 0 ∧ ∃ nm : String, (Cond.classLink RL z.catchType nm).before args s = true ∧ va_Nc "java/lang/IllegalArgumentException" nm s) := by
          intro z hz
          simp only [List.mem_cons, List.not_mem_nil, or_false] at hz
          rcases hz with rfl
          · exact Or.inr ⟨by decide, "java/util/NoSuchElementException", hts (.classLink RL 36 "java/util/NoSuchElementException") (by decide +kernel), hTS.2.2.2.2.2⟩
        refine vx_catch (own := RL) (name := "java/lang/IllegalArgumentException") hown [⟨0, 10, 13, 36⟩] ⟨0, 10, 17, 15⟩ [] hex hpass rfl (by decide) (hts (.classLink RL 15 "java/lang/IllegalArgumentException") (by decide +kernel)) (hTS.2.1.use _ (List.mem_of_getElem? (i := 5) rfl)) h1 h2 h3 ?_
        refine lv_astore (lv' := [(4, .ref q9), (0, .ref (x0)), (1, .int x1), (2, .int x2), (3, .ref (o0))]) hx hb dL_grantOf_17 hl (by decide) rfl (fun ls hl => ?_)
        refine lv_iconst (v := 2) hx hb dL_grantOf_19 (by decide) ?_
        exact fw_iret hx hb hr hlocks hP hS (Nat.le_of_ble_eq_true rfl) (Nat.le_of_ble_eq_true rfl) dL_grantOf_20
      · replace hf := fp_f cE hf
        cases hf
  · try dsimp only at hf
    obtain ⟨hi_1, hf⟩ := ix_of hf
    refine fn_V (v := some (.int r_1)) (As := [.int x1, .int x2]) (rest := [.int (0 : Int32), .ref (o0)]) (st1 := [.int r_1, .int (0 : Int32), .ref (o0)]) (ws' := ((wLR X x0 hh ht ch tx y hy rP fP rT fT rG fG rL fL rH fH gi di re ti rPT fPT rTT fTT rGT fGT rLT fLT rHT fHT giT diT reT tiT rS fS rB fB rO fO pl fa cn ro Qh) ++ (wOut X o0 fo))) (nL := 5) ⟨hx, hb, hml, hown, hts⟩ (c_X5_grantOf l X x0 hh ht ch tx y hy rP fP rT fT rG fG rL fL rH fH gi di re ti rPT fPT rTT fTT rGT fGT rLT fLT rHT fHT giT diT reT tiT rS fS rB fB rO fO pl fa cn ro Qh x1 x2 r_1 hc) (cwV 2 hts gL_grantOf_X5_grantOf rfl rfl rfl (by decide +kernel) ⟨Nat.le_of_ble_eq_true rfl, Nat.le_of_ble_eq_true rfl⟩) 5 rfl rfl rfl rfl hl.1 rfl (Nat.le_of_ble_eq_true rfl) dL_grantOf_5 hK hP hD0 hS hA [0, 1, 2, 3, 4, 5, 6, 7, 8, 9, 10, 11, 12, 13, 14, 15, 16, 17, 18, 19, 20, 21, 22, 23, 24, 25, 26, 27, 28, 29, 30, 31, 32, 33, 34, 35, 36, 37, 38, 39, 40, 41, 42, 43, 44, 45, 46, 47, 48, 49, 50, 51, 52, 53, 54, 55, 56, 57, 58, 59, 60, 61, 62, 63, 64, 65, 66, 67, 68, 69, 70, 71, 72, 73, 74, 75, 76] (by decide +kernel) oC_a (pt_setid _ _ _ oC_a) rfl ⟨Nat.zero_le _, Nat.zero_le _⟩ (fun H locs hP hD hS => ?_)
    refine lv_i2l (v := r_1.toInt64) hx hb dL_grantOf_8 rfl ?_
    refine va_last hx hb hK.1 hP hD hS 77 1 (get_last 77 rfl) rfl hi_1 dL_grantOf_9 (fun H locs hP hD hS => ?_)
    rw [set_last 77 rfl] at hP
    obtain ⟨fo_1, efo_1⟩ : ∃ g : Nat → Int64, g = vp_updL fo (0 : Int32).toNatClampNeg r_1.toInt64 := ⟨_, rfl⟩
    replace hf := nm_of efo_1 hf
    rw [← efo_1] at hP
    have hP : va_P X.1 vwCl ((wLR X x0 hh ht ch tx y hy rP fP rT fT rG fG rL fL rH fH gi di re ti rPT fPT rTT fTT rGT fGT rLT fLT rHT fHT giT diT reT tiT rS fS rB fB rO fO pl fa cn ro Qh) ++ (wOut X o0 fo_1)) H := hP
    refine lv_goto (tgt := 21) hx hb dL_grantOf_10 (by decide) ?_
    refine lv_iconst (v := 0) hx hb dL_grantOf_21 (by decide) ?_
    cases hf
    exact fw_iret hx hb hr hlocks hP hS (Nat.le_of_ble_eq_true rfl) (Nat.le_of_ble_eq_true rfl) dL_grantOf_22

def f_L_chain (x1 : Int32) (x2 : Int32) (rT : Int32) (fT : (Nat → Int32)) (rG : Int32) (fG : (Nat → Int32)) (rH : Int32) (fH : (Nat → Int32)) (rS : Int32) (fS : (Nat → Int32)) (fo : (Nat → Int64)) : Option (Int32 × (Nat → Int32) × (Nat → Int64)) :=
  bx (f_X5_chain x1 x2 rT fT rG fG rH fH rS fS) (fun e_ => if e_.1 = "java/lang/IndexOutOfBoundsException" then some ((1 : Int32), e_.2, fo) else none) (fun o_ => ix (0 : Int32) 1 (nm (vp_updL fo (0 : Int32).toNatClampNeg o_.1.toInt64) (fun fo_1 => some ((0 : Int32), o_.2, fo_1))))
set_option maxHeartbeats 4000000 in
set_option maxRecDepth 100000 in
theorem c_L_chain (l : Launch) (hfl : l.stackTraces = false) (X : cx_G) (x0 : Nat) (hh : (Nat → Nat)) (ht : (Nat → Nat)) (ch : (Nat → Nat)) (tx : (Nat → Nat)) (y : (Nat → Nat)) (hy : (Nat → Nat → Nat)) (o0 : Nat) (rP : Int32) (fP : (Nat → Int32)) (rT : Int32) (fT : (Nat → Int32)) (rG : Int32) (fG : (Nat → Int32)) (rL : Int32) (fL : (Nat → Int32)) (rH : Int32) (fH : (Nat → Int32)) (gi : Int32) (di : Int32) (re : Int32) (ti : Int32) (rPT : Int32) (fPT : (Nat → Int32)) (rTT : Int32) (fTT : (Nat → Int32)) (rGT : Int32) (fGT : (Nat → Int32)) (rLT : Int32) (fLT : (Nat → Int32)) (rHT : Int32) (fHT : (Nat → Int32)) (giT : Int32) (diT : Int32) (reT : Int32) (tiT : Int32) (rS : Int32) (fS : (Nat → Int32)) (rB : Int32) (fB : (Nat → Int32)) (rO : Int32) (fO : (Nat → Int32)) (pl : Int32) (fa : Int32) (cn : Int32) (ro : Nat) (Qh : (Nat → HS)) (fo : (Nat → Int64)) (x1 : Int32) (x2 : Int32) (r : Int32) (fS' : (Nat → Int32)) (fo' : (Nat → Int64)) (hf : f_L_chain x1 x2 rT fT rG fG rH fH rS fS fo = some (r, fS', fo')) : Fw l yL_chain wsL_chain ({ frames := 8, cells := 1, slots := 6, locals := 133 } : Room) X [.ref (x0), .int x1, .int x2, .ref (o0)] ((wLR X x0 hh ht ch tx y hy rP fP rT fT rG fG rL fL rH fH gi di re ti rPT fPT rTT fTT rGT fGT rLT fLT rHT fHT giT diT reT tiT rS fS rB fB rO fO pl fa cn ro Qh) ++ (wOut X o0 fo)) (some (.int r)) ((wLR X x0 hh ht ch tx y hy rP fP rT fT rG fG rL fL rH fH gi di re ti rPT fPT rTT fTT rGT fGT rLT fLT rHT fHT giT diT reT tiT rS fS' rB fB rO fO pl fa cn ro Qh) ++ (wOut X o0 fo')) := by
  refine fw_intro (cc := cL_chain) (maxL := 5) (ret := (some .int)) (hh := [(0, 10, 13, 13)]) (by decide) rfl (wLO_fst.trans wLO_fst.symm) (Nat.le_of_ble_eq_true rfl) ?_
  intro p e s m args below meth c A ls hx hb hml hr hts hown hlocks hex hK hP hD0 hS hA hTS hTZ hl
  have hown : s.vm.findClass RL = some m.cls := hown
  have hl : lv_has ls 5 [(0, .ref (x0)), (1, .int x1), (2, .int x2), (3, .ref (o0))] := hl
  have hex : c.exceptionTable.toList = [⟨0, 10, 13, 13⟩] := hex.trans rfl
  unfold f_L_chain at hf
  refine lv_aload_n hx hb dL_chain_0 rfl (lv_at hl 3 rfl) ?_
  refine lv_iconst (v := 0) hx hb dL_chain_1 (by decide) ?_
  refine lv_aload_n hx hb dL_chain_2 rfl (lv_at hl 0 rfl) ?_
  refine lv_iload_n hx hb dL_chain_3 rfl (lv_at hl 1 rfl) ?_
  refine lv_iload_n hx hb dL_chain_4 rfl (lv_at hl 2 rfl) ?_
  rcases bx_of hf with ⟨⟨E_1, fS_1⟩, hc, hf⟩ | ⟨⟨r_1, fS_1⟩, hc, hf⟩
  · try dsimp only at hf
    by_cases cE : E_1 = "java/lang/IndexOutOfBoundsException"
    · replace hf := fp_t cE hf
      subst cE
      cases hf
      refine tx_VJ (As := [.int x1, .int x2]) (rest := [.int (0 : Int32), .ref (o0)]) (nL := 5) (ws' := ((wLR X x0 hh ht ch tx y hy rP fP rT fT rG fG rL fL rH fH gi di re ti rPT fPT rTT fTT rGT fGT rLT fLT rHT fHT giT diT reT tiT rS fS' rB fB rO fO pl fa cn ro Qh) ++ (wOut X o0 fo))) ⟨hx, hb, hml, hown, hts⟩ (c_X5_chain_x l hfl X x0 hh ht ch tx y hy rP fP rT fT rG fG rL fL rH fH gi di re ti rPT fPT rTT fTT rGT fGT rLT fLT rHT fHT giT diT reT tiT rS fS rB fB rO fO pl fa cn ro Qh x1 x2 ("java/lang/IndexOutOfBoundsException") fS' hc) (cwV 2 hts gL_chain_X5_chain rfl rfl rfl (by decide +kernel) ⟨Nat.le_of_ble_eq_true rfl, Nat.le_of_ble_eq_true rfl⟩) 5 rfl rfl rfl rfl hl.1 rfl (Nat.le_of_ble_eq_true rfl) dL_chain_5 hTS hTZ hK hP hD0 hS hA [0, 1, 2, 3, 4, 5, 6, 7, 8, 9, 10, 11, 12, 13, 14, 15, 16, 17, 18, 19, 20, 21, 22, 23, 24, 25, 26, 27, 28, 29, 30, 31, 32, 33, 34, 35, 36, 37, 38, 39, 40, 41, 42, 43, 44, 45, 46, 47, 48, 49, 50, 51, 52, 53, 54, 55, 56, 57, 58, 59, 60, 61, 62, 63, 64, 65, 66, 67, 68, 69, 70, 71, 72, 73, 74, 75, 76] (by decide +kernel) oC_a oJ_a ⟨Nat.le_of_ble_eq_true rfl, Nat.le_of_ble_eq_true rfl⟩ (fun q9 ce H locs hP hS h1 h2 h3 => ?_)
      refine vx_catch (own := RL) (name := "java/lang/IndexOutOfBoundsException") hown [] ⟨0, 10, 13, 13⟩ [] hex (fun z hz => nomatch hz) rfl (by decide) (hts (.classLink RL 13 "java/lang/IndexOutOfBoundsException") (by decide +kernel)) (hTS.2.1.use _ (List.mem_of_getElem? (i := 4) rfl)) h1 h2 h3 ?_
      refine lv_astore (lv' := [(4, .ref q9), (0, .ref (x0)), (1, .int x1), (2, .int x2), (3, .ref (o0))]) hx hb dL_chain_13 hl (by decide) rfl (fun ls hl => ?_)
      refine lv_iconst (v := 1) hx hb dL_chain_15 (by decide) ?_
      exact fw_iret hx hb hr hlocks hP hS (Nat.le_of_ble_eq_true rfl) (Nat.le_of_ble_eq_true rfl) dL_chain_16
    · replace hf := fp_f cE hf
      cases hf
  · try dsimp only at hf
    obtain ⟨hi_1, hf⟩ := ix_of hf
    refine fn_VJ (v := some (.int r_1)) (As := [.int x1, .int x2]) (rest := [.int (0 : Int32), .ref (o0)]) (st1 := [.int r_1, .int (0 : Int32), .ref (o0)]) (ws' := ((wLR X x0 hh ht ch tx y hy rP fP rT fT rG fG rL fL rH fH gi di re ti rPT fPT rTT fTT rGT fGT rLT fLT rHT fHT giT diT reT tiT rS fS_1 rB fB rO fO pl fa cn ro Qh) ++ (wOut X o0 fo))) (nL := 5) ⟨hx, hb, hml, hown, hts⟩ (c_X5_chain l X x0 hh ht ch tx y hy rP fP rT fT rG fG rL fL rH fH gi di re ti rPT fPT rTT fTT rGT fGT rLT fLT rHT fHT giT diT reT tiT rS fS rB fB rO fO pl fa cn ro Qh x1 x2 r_1 fS_1 hc) (cwV 2 hts gL_chain_X5_chain rfl rfl rfl (by decide +kernel) ⟨Nat.le_of_ble_eq_true rfl, Nat.le_of_ble_eq_true rfl⟩) 5 rfl rfl rfl rfl hl.1 rfl (Nat.le_of_ble_eq_true rfl) dL_chain_5 hK hP hD0 hS hA [0, 1, 2, 3, 4, 5, 6, 7, 8, 9, 10, 11, 12, 13, 14, 15, 16, 17, 18, 19, 20, 21, 22, 23, 24, 25, 26, 27, 28, 29, 30, 31, 32, 33, 34, 35, 36, 37, 38, 39, 40, 41, 42, 43, 44, 45, 46, 47, 48, 49, 50, 51, 52, 53, 54, 55, 56, 57, 58, 59, 60, 61, 62, 63, 64, 65, 66, 67, 68, 69, 70, 71, 72, 73, 74, 75, 76] (by decide +kernel) oC_a oJ_a (wLO_fst.trans wLO_fst.symm) rfl ⟨Nat.zero_le _, Nat.zero_le _⟩ (fun H locs hP hD hS => ?_)
    refine lv_i2l (v := r_1.toInt64) hx hb dL_chain_8 rfl ?_
    refine va_last hx hb hK.1 hP hD hS 77 1 (get_last 77 rfl) rfl hi_1 dL_chain_9 (fun H locs hP hD hS => ?_)
    rw [set_last 77 rfl] at hP
    obtain ⟨fo_1, efo_1⟩ : ∃ g : Nat → Int64, g = vp_updL fo (0 : Int32).toNatClampNeg r_1.toInt64 := ⟨_, rfl⟩
    replace hf := nm_of efo_1 hf
    rw [← efo_1] at hP
    have hP : va_P X.1 vwCl ((wLR X x0 hh ht ch tx y hy rP fP rT fT rG fG rL fL rH fH gi di re ti rPT fPT rTT fTT rGT fGT rLT fLT rHT fHT giT diT reT tiT rS fS_1 rB fB rO fO pl fa cn ro Qh) ++ (wOut X o0 fo_1)) H := hP
    refine lv_goto (tgt := 17) hx hb dL_chain_10 (by decide) ?_
    refine lv_iconst (v := 0) hx hb dL_chain_17 (by decide) ?_
    cases hf
    exact fw_iret hx hb hr hlocks hP hS (Nat.le_of_ble_eq_true rfl) (Nat.le_of_ble_eq_true rfl) dL_chain_18

def f_L_link (x1 : Int32) (x2 : Int32) (x3 : Int32) (rT : Int32) (fT : (Nat → Int32)) (rG : Int32) (fG : (Nat → Int32)) (rH : Int32) (fH : (Nat → Int32)) (rS : Int32) (fS : (Nat → Int32)) (fo : (Nat → Int64)) : Option (Int32 × (Nat → Int32) × (Nat → Int64)) :=
  bx (f_X5_link x1 x2 x3 rT fT rG fG rH fH rS fS) (fun e_ => if e_.1 = "java/lang/IndexOutOfBoundsException" then some ((1 : Int32), e_.2, fo) else none) (fun o_ => ix (0 : Int32) 1 (nm (vp_updL fo (0 : Int32).toNatClampNeg o_.1.toInt64) (fun fo_1 => some ((0 : Int32), o_.2, fo_1))))
set_option maxHeartbeats 4000000 in
set_option maxRecDepth 100000 in
theorem c_L_link (l : Launch) (hfl : l.stackTraces = false) (X : cx_G) (x0 : Nat) (hh : (Nat → Nat)) (ht : (Nat → Nat)) (ch : (Nat → Nat)) (tx : (Nat → Nat)) (y : (Nat → Nat)) (hy : (Nat → Nat → Nat)) (o0 : Nat) (rP : Int32) (fP : (Nat → Int32)) (rT : Int32) (fT : (Nat → Int32)) (rG : Int32) (fG : (Nat → Int32)) (rL : Int32) (fL : (Nat → Int32)) (rH : Int32) (fH : (Nat → Int32)) (gi : Int32) (di : Int32) (re : Int32) (ti : Int32) (rPT : Int32) (fPT : (Nat → Int32)) (rTT : Int32) (fTT : (Nat → Int32)) (rGT : Int32) (fGT : (Nat → Int32)) (rLT : Int32) (fLT : (Nat → Int32)) (rHT : Int32) (fHT : (Nat → Int32)) (giT : Int32) (diT : Int32) (reT : Int32) (tiT : Int32) (rS : Int32) (fS : (Nat → Int32)) (rB : Int32) (fB : (Nat → Int32)) (rO : Int32) (fO : (Nat → Int32)) (pl : Int32) (fa : Int32) (cn : Int32) (ro : Nat) (Qh : (Nat → HS)) (fo : (Nat → Int64)) (x1 : Int32) (x2 : Int32) (x3 : Int32) (r : Int32) (fS' : (Nat → Int32)) (fo' : (Nat → Int64)) (hf : f_L_link x1 x2 x3 rT fT rG fG rH fH rS fS fo = some (r, fS', fo')) : Fw l yL_link wsL_link ({ frames := 8, cells := 1, slots := 6, locals := 148 } : Room) X [.ref (x0), .int x1, .int x2, .int x3, .ref (o0)] ((wLR X x0 hh ht ch tx y hy rP fP rT fT rG fG rL fL rH fH gi di re ti rPT fPT rTT fTT rGT fGT rLT fLT rHT fHT giT diT reT tiT rS fS rB fB rO fO pl fa cn ro Qh) ++ (wOut X o0 fo)) (some (.int r)) ((wLR X x0 hh ht ch tx y hy rP fP rT fT rG fG rL fL rH fH gi di re ti rPT fPT rTT fTT rGT fGT rLT fLT rHT fHT giT diT reT tiT rS fS' rB fB rO fO pl fa cn ro Qh) ++ (wOut X o0 fo')) := by
  refine fw_intro (cc := cL_link) (maxL := 6) (ret := (some .int)) (hh := [(0, 12, 15, 13)]) (by decide) rfl (wLO_fst.trans wLO_fst.symm) (Nat.le_of_ble_eq_true rfl) ?_
  intro p e s m args below meth c A ls hx hb hml hr hts hown hlocks hex hK hP hD0 hS hA hTS hTZ hl
  have hown : s.vm.findClass RL = some m.cls := hown
  have hl : lv_has ls 6 [(0, .ref (x0)), (1, .int x1), (2, .int x2), (3, .int x3), (4, .ref (o0))] := hl
  have hex : c.exceptionTable.toList = [⟨0, 12, 15, 13⟩] := hex.trans rfl
  unfold f_L_link at hf
  refine lv_aload hx hb dL_link_0 (lv_at hl 4 rfl) ?_
  refine lv_iconst (v := 0) hx hb dL_link_2 (by decide) ?_
  refine lv_aload_n hx hb dL_link_3 rfl (lv_at hl 0 rfl) ?_
  refine lv_iload_n hx hb dL_link_4 rfl (lv_at hl 1 rfl) ?_
  refine lv_iload_n hx hb dL_link_5 rfl (lv_at hl 2 rfl) ?_
  refine lv_iload_n hx hb dL_link_6 rfl (lv_at hl 3 rfl) ?_
  rcases bx_of hf with ⟨⟨E_1, fS_1⟩, hc, hf⟩ | ⟨⟨r_1, fS_1⟩, hc, hf⟩
  · try dsimp only at hf
    by_cases cE : E_1 = "java/lang/IndexOutOfBoundsException"
    · replace hf := fp_t cE hf
      subst cE
      cases hf
      refine tx_VJ (As := [.int x1, .int x2, .int x3]) (rest := [.int (0 : Int32), .ref (o0)]) (nL := 6) (ws' := ((wLR X x0 hh ht ch tx y hy rP fP rT fT rG fG rL fL rH fH gi di re ti rPT fPT rTT fTT rGT fGT rLT fLT rHT fHT giT diT reT tiT rS fS' rB fB rO fO pl fa cn ro Qh) ++ (wOut X o0 fo))) ⟨hx, hb, hml, hown, hts⟩ (c_X5_link_x l hfl X x0 hh ht ch tx y hy rP fP rT fT rG fG rL fL rH fH gi di re ti rPT fPT rTT fTT rGT fGT rLT fLT rHT fHT giT diT reT tiT rS fS rB fB rO fO pl fa cn ro Qh x1 x2 x3 ("java/lang/IndexOutOfBoundsException") fS' hc) (cwV 3 hts gL_link_X5_link rfl rfl rfl (by decide +kernel) ⟨Nat.le_of_ble_eq_true rfl, Nat.le_of_ble_eq_true rfl⟩) 5 rfl rfl rfl rfl hl.1 rfl (Nat.le_of_ble_eq_true rfl) dL_link_7 hTS hTZ hK hP hD0 hS hA [0, 1, 2, 3, 4, 5, 6, 7, 8, 9, 10, 11, 12, 13, 14, 15, 16, 17, 18, 19, 20, 21, 22, 23, 24, 25, 26, 27, 28, 29, 30, 31, 32, 33, 34, 35, 36, 37, 38, 39, 40, 41, 42, 43, 44, 45, 46, 47, 48, 49, 50, 51, 52, 53, 54, 55, 56, 57, 58, 59, 60, 61, 62, 63, 64, 65, 66, 67, 68, 69, 70, 71, 72, 73, 74, 75, 76] (by decide +kernel) oC_a oJ_a ⟨Nat.le_of_ble_eq_true rfl, Nat.le_of_ble_eq_true rfl⟩ (fun q9 ce H locs hP hS h1 h2 h3 => ?_)
      refine vx_catch (own := RL) (name := "java/lang/IndexOutOfBoundsException") hown [] ⟨0, 12, 15, 13⟩ [] hex (fun z hz => nomatch hz) rfl (by decide) (hts (.classLink RL 13 "java/lang/IndexOutOfBoundsException") (by decide +kernel)) (hTS.2.1.use _ (List.mem_of_getElem? (i := 4) rfl)) h1 h2 h3 ?_
      refine lv_astore (lv' := [(5, .ref q9), (0, .ref (x0)), (1, .int x1), (2, .int x2), (3, .int x3), (4, .ref (o0))]) hx hb dL_link_15 hl (by decide) rfl (fun ls hl => ?_)
      refine lv_iconst (v := 1) hx hb dL_link_17 (by decide) ?_
      exact fw_iret hx hb hr hlocks hP hS (Nat.le_of_ble_eq_true rfl) (Nat.le_of_ble_eq_true rfl) dL_link_18
    · replace hf := fp_f cE hf
      cases hf
  · try dsimp only at hf
    obtain ⟨hi_1, hf⟩ := ix_of hf
    refine fn_VJ (v := some (.int r_1)) (As := [.int x1, .int x2, .int x3]) (rest := [.int (0 : Int32), .ref (o0)]) (st1 := [.int r_1, .int (0 : Int32), .ref (o0)]) (ws' := ((wLR X x0 hh ht ch tx y hy rP fP rT fT rG fG rL fL rH fH gi di re ti rPT fPT rTT fTT rGT fGT rLT fLT rHT fHT giT diT reT tiT rS fS_1 rB fB rO fO pl fa cn ro Qh) ++ (wOut X o0 fo))) (nL := 6) ⟨hx, hb, hml, hown, hts⟩ (c_X5_link l X x0 hh ht ch tx y hy rP fP rT fT rG fG rL fL rH fH gi di re ti rPT fPT rTT fTT rGT fGT rLT fLT rHT fHT giT diT reT tiT rS fS rB fB rO fO pl fa cn ro Qh x1 x2 x3 r_1 fS_1 hc) (cwV 3 hts gL_link_X5_link rfl rfl rfl (by decide +kernel) ⟨Nat.le_of_ble_eq_true rfl, Nat.le_of_ble_eq_true rfl⟩) 5 rfl rfl rfl rfl hl.1 rfl (Nat.le_of_ble_eq_true rfl) dL_link_7 hK hP hD0 hS hA [0, 1, 2, 3, 4, 5, 6, 7, 8, 9, 10, 11, 12, 13, 14, 15, 16, 17, 18, 19, 20, 21, 22, 23, 24, 25, 26, 27, 28, 29, 30, 31, 32, 33, 34, 35, 36, 37, 38, 39, 40, 41, 42, 43, 44, 45, 46, 47, 48, 49, 50, 51, 52, 53, 54, 55, 56, 57, 58, 59, 60, 61, 62, 63, 64, 65, 66, 67, 68, 69, 70, 71, 72, 73, 74, 75, 76] (by decide +kernel) oC_a oJ_a (wLO_fst.trans wLO_fst.symm) rfl ⟨Nat.zero_le _, Nat.zero_le _⟩ (fun H locs hP hD hS => ?_)
    refine lv_i2l (v := r_1.toInt64) hx hb dL_link_10 rfl ?_
    refine va_last hx hb hK.1 hP hD hS 77 1 (get_last 77 rfl) rfl hi_1 dL_link_11 (fun H locs hP hD hS => ?_)
    rw [set_last 77 rfl] at hP
    obtain ⟨fo_1, efo_1⟩ : ∃ g : Nat → Int64, g = vp_updL fo (0 : Int32).toNatClampNeg r_1.toInt64 := ⟨_, rfl⟩
    replace hf := nm_of efo_1 hf
    rw [← efo_1] at hP
    have hP : va_P X.1 vwCl ((wLR X x0 hh ht ch tx y hy rP fP rT fT rG fG rL fL rH fH gi di re ti rPT fPT rTT fTT rGT fGT rLT fLT rHT fHT giT diT reT tiT rS fS_1 rB fB rO fO pl fa cn ro Qh) ++ (wOut X o0 fo_1)) H := hP
    refine lv_goto (tgt := 19) hx hb dL_link_12 (by decide) ?_
    refine lv_iconst (v := 0) hx hb dL_link_19 (by decide) ?_
    cases hf
    exact fw_iret hx hb hr hlocks hP hS (Nat.le_of_ble_eq_true rfl) (Nat.le_of_ble_eq_true rfl) dL_link_20

def f_L_why (x1 : Int32) (x2 : Int32) (x3 : Int32) (rT : Int32) (fT : (Nat → Int32)) (rG : Int32) (fG : (Nat → Int32)) (rH : Int32) (fH : (Nat → Int32)) (fo : (Nat → Int64)) : Option (Int32 × (Nat → Int64)) :=
  bx (f_X5_why x1 x2 x3 rT fT rG fG rH fH) (fun e_ => if e_ = "java/lang/IndexOutOfBoundsException" then some ((1 : Int32), fo) else if e_ = "java/lang/IllegalArgumentException" then some ((2 : Int32), fo) else none) (fun o_ => ix (0 : Int32) 1 (nm (vp_updL fo (0 : Int32).toNatClampNeg o_.toInt64) (fun fo_1 => some ((0 : Int32), fo_1))))
set_option maxHeartbeats 4000000 in
set_option maxRecDepth 100000 in
theorem c_L_why (l : Launch) (hfl : l.stackTraces = false) (X : cx_G) (x0 : Nat) (hh : (Nat → Nat)) (ht : (Nat → Nat)) (ch : (Nat → Nat)) (tx : (Nat → Nat)) (y : (Nat → Nat)) (hy : (Nat → Nat → Nat)) (o0 : Nat) (rP : Int32) (fP : (Nat → Int32)) (rT : Int32) (fT : (Nat → Int32)) (rG : Int32) (fG : (Nat → Int32)) (rL : Int32) (fL : (Nat → Int32)) (rH : Int32) (fH : (Nat → Int32)) (gi : Int32) (di : Int32) (re : Int32) (ti : Int32) (rPT : Int32) (fPT : (Nat → Int32)) (rTT : Int32) (fTT : (Nat → Int32)) (rGT : Int32) (fGT : (Nat → Int32)) (rLT : Int32) (fLT : (Nat → Int32)) (rHT : Int32) (fHT : (Nat → Int32)) (giT : Int32) (diT : Int32) (reT : Int32) (tiT : Int32) (rS : Int32) (fS : (Nat → Int32)) (rB : Int32) (fB : (Nat → Int32)) (rO : Int32) (fO : (Nat → Int32)) (pl : Int32) (fa : Int32) (cn : Int32) (ro : Nat) (Qh : (Nat → HS)) (fo : (Nat → Int64)) (x1 : Int32) (x2 : Int32) (x3 : Int32) (r : Int32) (fo' : (Nat → Int64)) (hf : f_L_why x1 x2 x3 rT fT rG fG rH fH fo = some (r, fo')) : Fw l yL_why wsL_why ({ frames := 8, cells := 1, slots := 6, locals := 134 } : Room) X [.ref (x0), .int x1, .int x2, .int x3, .ref (o0)] ((wLR X x0 hh ht ch tx y hy rP fP rT fT rG fG rL fL rH fH gi di re ti rPT fPT rTT fTT rGT fGT rLT fLT rHT fHT giT diT reT tiT rS fS rB fB rO fO pl fa cn ro Qh) ++ (wOut X o0 fo)) (some (.int r)) ((wLR X x0 hh ht ch tx y hy rP fP rT fT rG fG rL fL rH fH gi di re ti rPT fPT rTT fTT rGT fGT rLT fLT rHT fHT giT diT reT tiT rS fS rB fB rO fO pl fa cn ro Qh) ++ (wOut X o0 fo')) := by
  refine fw_intro (cc := cL_why) (maxL := 6) (ret := (some .int)) (hh := [(0, 12, 15, 13), (0, 12, 19, 15)]) (by decide) rfl (wLO_fst.trans wLO_fst.symm) (Nat.le_of_ble_eq_true rfl) ?_
  intro p e s m args below meth c A ls hx hb hml hr hts hown hlocks hex hK hP hD0 hS hA hTS hTZ hl
  have hown : s.vm.findClass RL = some m.cls := hown
  have hl : lv_has ls 6 [(0, .ref (x0)), (1, .int x1), (2, .int x2), (3, .int x3), (4, .ref (o0))] := hl
  have hex : c.exceptionTable.toList = [⟨0, 12, 15, 13⟩, ⟨0, 12, 19, 15⟩] := hex.trans rfl
  unfold f_L_why at hf
  refine lv_aload hx hb dL_why_0 (lv_at hl 4 rfl) ?_
  refine lv_iconst (v := 0) hx hb dL_why_2 (by decide) ?_
  refine lv_aload_n hx hb dL_why_3 rfl (lv_at hl 0 rfl) ?_
  refine lv_iload_n hx hb dL_why_4 rfl (lv_at hl 1 rfl) ?_
  refine lv_iload_n hx hb dL_why_5 rfl (lv_at hl 2 rfl) ?_
  refine lv_iload_n hx hb dL_why_6 rfl (lv_at hl 3 rfl) ?_
  rcases bx_of hf with ⟨E_1, hc, hf⟩ | ⟨r_1, hc, hf⟩
  · try dsimp only at hf
    by_cases cE : E_1 = "java/lang/IndexOutOfBoundsException"
    · replace hf := fp_t cE hf
      subst cE
      cases hf
      refine tx_VJ (As := [.int x1, .int x2, .int x3]) (rest := [.int (0 : Int32), .ref (o0)]) (nL := 6) (ws' := ((wLR X x0 hh ht ch tx y hy rP fP rT fT rG fG rL fL rH fH gi di re ti rPT fPT rTT fTT rGT fGT rLT fLT rHT fHT giT diT reT tiT rS fS rB fB rO fO pl fa cn ro Qh) ++ (wOut X o0 fo))) ⟨hx, hb, hml, hown, hts⟩ (c_X5_why_x l hfl X x0 hh ht ch tx y hy rP fP rT fT rG fG rL fL rH fH gi di re ti rPT fPT rTT fTT rGT fGT rLT fLT rHT fHT giT diT reT tiT rS fS rB fB rO fO pl fa cn ro Qh x1 x2 x3 ("java/lang/IndexOutOfBoundsException") hc) (cwV 3 hts gL_why_X5_why rfl rfl rfl (by decide +kernel) ⟨Nat.le_of_ble_eq_true rfl, Nat.le_of_ble_eq_true rfl⟩) 5 rfl rfl rfl rfl hl.1 rfl (Nat.le_of_ble_eq_true rfl) dL_why_7 hTS hTZ hK hP hD0 hS hA [0, 1, 2, 3, 4, 5, 6, 7, 8, 9, 10, 11, 12, 13, 14, 15, 16, 17, 18, 19, 20, 21, 22, 23, 24, 25, 26, 27, 28, 29, 30, 31, 32, 33, 34, 35, 36, 37, 38, 39, 40, 41, 42, 43, 44, 45, 46, 47, 48, 49, 50, 51, 52, 53, 54, 55, 56, 57, 58, 59, 60, 61, 62, 63, 64, 65, 66, 67, 68, 69, 70, 71, 72, 73, 74, 75, 76] (by decide +kernel) oC_a oJ_a ⟨Nat.le_of_ble_eq_true rfl, Nat.le_of_ble_eq_true rfl⟩ (fun q9 ce H locs hP hS h1 h2 h3 => ?_)
      refine vx_catch (own := RL) (name := "java/lang/IndexOutOfBoundsException") hown [] ⟨0, 12, 15, 13⟩ [⟨0, 12, 19, 15⟩] hex (fun z hz => nomatch hz) rfl (by decide) (hts (.classLink RL 13 "java/lang/IndexOutOfBoundsException") (by decide +kernel)) (hTS.2.1.use _ (List.mem_of_getElem? (i := 4) rfl)) h1 h2 h3 ?_
      refine lv_astore (lv' := [(5, .ref q9), (0, .ref (x0)), (1, .int x1), (2, .int x2), (3, .int x3), (4, .ref (o0))]) hx hb dL_why_15 hl (by decide) rfl (fun ls hl => ?_)
      refine lv_iconst (v := 1) hx hb dL_why_17 (by decide) ?_
      exact fw_iret hx hb hr hlocks hP hS (Nat.le_of_ble_eq_true rfl) (Nat.le_of_ble_eq_true rfl) dL_why_18
    · replace hf := fp_f cE hf
      by_cases cE : E_1 = "java/lang/IllegalArgumentException"
      · replace hf := fp_t cE hf
        subst cE
        cases hf
        refine tx_VJ (As := [.int x1, .int x2, .int x3]) (rest := [.int (0 : Int32), .ref (o0)]) (nL := 6) (ws' := ((wLR X x0 hh ht ch tx y hy rP fP rT fT rG fG rL fL rH fH gi di re ti rPT fPT rTT fTT rGT fGT rLT fLT rHT fHT giT diT reT tiT rS fS rB fB rO fO pl fa cn ro Qh) ++ (wOut X o0 fo))) ⟨hx, hb, hml, hown, hts⟩ (c_X5_why_x l hfl X x0 hh ht ch tx y hy rP fP rT fT rG fG rL fL rH fH gi di re ti rPT fPT rTT fTT rGT fGT rLT fLT rHT fHT giT diT reT tiT rS fS rB fB rO fO pl fa cn ro Qh x1 x2 x3 ("java/lang/IllegalArgumentException") hc) (cwV 3 hts gL_why_X5_why rfl rfl rfl (by decide +kernel) ⟨Nat.le_of_ble_eq_true rfl, Nat.le_of_ble_eq_true rfl⟩) 5 rfl rfl rfl rfl hl.1 rfl (Nat.le_of_ble_eq_true rfl) dL_why_7 hTS hTZ hK hP hD0 hS hA [0, 1, 2, 3, 4, 5, 6, 7, 8, 9, 10, 11, 12, 13, 14, 15, 16, 17, 18, 19, 20, 21, 22, 23, 24, 25, 26, 27, 28, 29, 30, 31, 32, 33, 34, 35, 36, 37, 38, 39, 40, 41, 42, 43, 44, 45, 46, 47, 48, 49, 50, 51, 52, 53, 54, 55, 56, 57, 58, 59, 60, 61, 62, 63, 64, 65, 66, 67, 68, 69, 70, 71, 72, 73, 74, 75, 76] (by decide +kernel) oC_a oJ_a ⟨Nat.le_of_ble_eq_true rfl, Nat.le_of_ble_eq_true rfl⟩ (fun q9 ce H locs hP hS h1 h2 h3 => ?_)
        have hpass : ∀ z ∈ ([⟨0, 12, 15, 13⟩] : List ExceptionTableEntry), covers z 7 = false ∨ (z.catchType ≠ 0 ∧ ∃ nm : String, (Cond.classLink RL z.catchType nm).before args s = true ∧ va_Nc "java/lang/IllegalArgumentException" nm s) := by
          intro z hz
          simp only [List.mem_cons, List.not_mem_nil, or_false] at hz
          rcases hz with rfl
          · exact Or.inr ⟨by decide, "java/lang/IndexOutOfBoundsException", hts (.classLink RL 13 "java/lang/IndexOutOfBoundsException") (by decide +kernel), hTS.2.2.1⟩
        refine vx_catch (own := RL) (name := "java/lang/IllegalArgumentException") hown [⟨0, 12, 15, 13⟩] ⟨0, 12, 19, 15⟩ [] hex hpass rfl (by decide) (hts (.classLink RL 15 "java/lang/IllegalArgumentException") (by decide +kernel)) (hTS.2.1.use _ (List.mem_of_getElem? (i := 5) rfl)) h1 h2 h3 ?_
        refine lv_astore (lv' := [(5, .ref q9), (0, .ref (x0)), (1, .int x1), (2, .int x2), (3, .int x3), (4, .ref (o0))]) hx hb dL_why_19 hl (by decide) rfl (fun ls hl => ?_)
        refine lv_iconst (v := 2) hx hb dL_why_21 (by decide) ?_
        exact fw_iret hx hb hr hlocks hP hS (Nat.le_of_ble_eq_true rfl) (Nat.le_of_ble_eq_true rfl) dL_why_22
      · replace hf := fp_f cE hf
        cases hf
  · try dsimp only at hf
    obtain ⟨hi_1, hf⟩ := ix_of hf
    refine fn_V (v := some (.int r_1)) (As := [.int x1, .int x2, .int x3]) (rest := [.int (0 : Int32), .ref (o0)]) (st1 := [.int r_1, .int (0 : Int32), .ref (o0)]) (ws' := ((wLR X x0 hh ht ch tx y hy rP fP rT fT rG fG rL fL rH fH gi di re ti rPT fPT rTT fTT rGT fGT rLT fLT rHT fHT giT diT reT tiT rS fS rB fB rO fO pl fa cn ro Qh) ++ (wOut X o0 fo))) (nL := 6) ⟨hx, hb, hml, hown, hts⟩ (c_X5_why l X x0 hh ht ch tx y hy rP fP rT fT rG fG rL fL rH fH gi di re ti rPT fPT rTT fTT rGT fGT rLT fLT rHT fHT giT diT reT tiT rS fS rB fB rO fO pl fa cn ro Qh x1 x2 x3 r_1 hc) (cwV 3 hts gL_why_X5_why rfl rfl rfl (by decide +kernel) ⟨Nat.le_of_ble_eq_true rfl, Nat.le_of_ble_eq_true rfl⟩) 5 rfl rfl rfl rfl hl.1 rfl (Nat.le_of_ble_eq_true rfl) dL_why_7 hK hP hD0 hS hA [0, 1, 2, 3, 4, 5, 6, 7, 8, 9, 10, 11, 12, 13, 14, 15, 16, 17, 18, 19, 20, 21, 22, 23, 24, 25, 26, 27, 28, 29, 30, 31, 32, 33, 34, 35, 36, 37, 38, 39, 40, 41, 42, 43, 44, 45, 46, 47, 48, 49, 50, 51, 52, 53, 54, 55, 56, 57, 58, 59, 60, 61, 62, 63, 64, 65, 66, 67, 68, 69, 70, 71, 72, 73, 74, 75, 76] (by decide +kernel) oC_a (pt_setid _ _ _ oC_a) rfl ⟨Nat.zero_le _, Nat.zero_le _⟩ (fun H locs hP hD hS => ?_)
    refine lv_i2l (v := r_1.toInt64) hx hb dL_why_10 rfl ?_
    refine va_last hx hb hK.1 hP hD hS 77 1 (get_last 77 rfl) rfl hi_1 dL_why_11 (fun H locs hP hD hS => ?_)
    rw [set_last 77 rfl] at hP
    obtain ⟨fo_1, efo_1⟩ : ∃ g : Nat → Int64, g = vp_updL fo (0 : Int32).toNatClampNeg r_1.toInt64 := ⟨_, rfl⟩
    replace hf := nm_of efo_1 hf
    rw [← efo_1] at hP
    have hP : va_P X.1 vwCl ((wLR X x0 hh ht ch tx y hy rP fP rT fT rG fG rL fL rH fH gi di re ti rPT fPT rTT fTT rGT fGT rLT fLT rHT fHT giT diT reT tiT rS fS rB fB rO fO pl fa cn ro Qh) ++ (wOut X o0 fo_1)) H := hP
    refine lv_goto (tgt := 23) hx hb dL_why_12 (by decide) ?_
    refine lv_iconst (v := 0) hx hb dL_why_23 (by decide) ?_
    cases hf
    exact fw_iret hx hb hr hlocks hP hS (Nat.le_of_ble_eq_true rfl) (Nat.le_of_ble_eq_true rfl) dL_why_24

def f_L_value (x1 : Int32) (rT : Int32) (fT : (Nat → Int32)) (rG : Int32) (fG : (Nat → Int32)) (rL : Int32) (rH : Int32) (fH : (Nat → Int32)) (gi : Int32) (di : Int32) (re : Int32) (ti : Int32) (fo : (Nat → Int64)) : Option (Int32 × (Nat → Int64)) :=
  bx (f_X5_value x1 rT fT rG fG rL rH fH gi di re ti) (fun e_ => if e_ = "java/lang/IllegalArgumentException" then some ((1 : Int32), fo) else none) (fun o_ => ix (0 : Int32) 1 (nm (vp_updL fo (0 : Int32).toNatClampNeg o_.toInt64) (fun fo_1 => some ((0 : Int32), fo_1))))
set_option maxHeartbeats 4000000 in
set_option maxRecDepth 100000 in
theorem c_L_value (l : Launch) (hfl : l.stackTraces = false) (X : cx_G) (x0 : Nat) (hh : (Nat → Nat)) (ht : (Nat → Nat)) (ch : (Nat → Nat)) (tx : (Nat → Nat)) (y : (Nat → Nat)) (hy : (Nat → Nat → Nat)) (o0 : Nat) (rP : Int32) (fP : (Nat → Int32)) (rT : Int32) (fT : (Nat → Int32)) (rG : Int32) (fG : (Nat → Int32)) (rL : Int32) (fL : (Nat → Int32)) (rH : Int32) (fH : (Nat → Int32)) (gi : Int32) (di : Int32) (re : Int32) (ti : Int32) (rPT : Int32) (fPT : (Nat → Int32)) (rTT : Int32) (fTT : (Nat → Int32)) (rGT : Int32) (fGT : (Nat → Int32)) (rLT : Int32) (fLT : (Nat → Int32)) (rHT : Int32) (fHT : (Nat → Int32)) (giT : Int32) (diT : Int32) (reT : Int32) (tiT : Int32) (rS : Int32) (fS : (Nat → Int32)) (rB : Int32) (fB : (Nat → Int32)) (rO : Int32) (fO : (Nat → Int32)) (pl : Int32) (fa : Int32) (cn : Int32) (ro : Nat) (Qh : (Nat → HS)) (fo : (Nat → Int64)) (x1 : Int32) (r : Int32) (fo' : (Nat → Int64)) (hf : f_L_value x1 rT fT rG fG rL rH fH gi di re ti fo = some (r, fo')) : Fw l yL_value wsL_value ({ frames := 8, cells := 1, slots := 6, locals := 133 } : Room) X [.ref (x0), .int x1, .ref (o0)] ((wLR X x0 hh ht ch tx y hy rP fP rT fT rG fG rL fL rH fH gi di re ti rPT fPT rTT fTT rGT fGT rLT fLT rHT fHT giT diT reT tiT rS fS rB fB rO fO pl fa cn ro Qh) ++ (wOut X o0 fo)) (some (.int r)) ((wLR X x0 hh ht ch tx y hy rP fP rT fT rG fG rL fL rH fH gi di re ti rPT fPT rTT fTT rGT fGT rLT fLT rHT fHT giT diT reT tiT rS fS rB fB rO fO pl fa cn ro Qh) ++ (wOut X o0 fo')) := by
  refine fw_intro (cc := cL_value) (maxL := 4) (ret := (some .int)) (hh := [(0, 9, 12, 15)]) (by decide) rfl (wLO_fst.trans wLO_fst.symm) (Nat.le_of_ble_eq_true rfl) ?_
  intro p e s m args below meth c A ls hx hb hml hr hts hown hlocks hex hK hP hD0 hS hA hTS hTZ hl
  have hown : s.vm.findClass RL = some m.cls := hown
  have hl : lv_has ls 4 [(0, .ref (x0)), (1, .int x1), (2, .ref (o0))] := hl
  have hex : c.exceptionTable.toList = [⟨0, 9, 12, 15⟩] := hex.trans rfl
  unfold f_L_value at hf
  refine lv_aload_n hx hb dL_value_0 rfl (lv_at hl 2 rfl) ?_
  refine lv_iconst (v := 0) hx hb dL_value_1 (by decide) ?_
  refine lv_aload_n hx hb dL_value_2 rfl (lv_at hl 0 rfl) ?_
  refine lv_iload_n hx hb dL_value_3 rfl (lv_at hl 1 rfl) ?_
  rcases bx_of hf with ⟨E_1, hc, hf⟩ | ⟨r_1, hc, hf⟩
  · try dsimp only at hf
    by_cases cE : E_1 = "java/lang/IllegalArgumentException"
    · replace hf := fp_t cE hf
      subst cE
      cases hf
      refine tx_VJ (As := [.int x1]) (rest := [.int (0 : Int32), .ref (o0)]) (nL := 4) (ws' := ((wLR X x0 hh ht ch tx y hy rP fP rT fT rG fG rL fL rH fH gi di re ti rPT fPT rTT fTT rGT fGT rLT fLT rHT fHT giT diT reT tiT rS fS rB fB rO fO pl fa cn ro Qh) ++ (wOut X o0 fo))) ⟨hx, hb, hml, hown, hts⟩ (c_X5_value_x l hfl X x0 hh ht ch tx y hy rP fP rT fT rG fG rL fL rH fH gi di re ti rPT fPT rTT fTT rGT fGT rLT fLT rHT fHT giT diT reT tiT rS fS rB fB rO fO pl fa cn ro Qh x1 ("java/lang/IllegalArgumentException") hc) (cwV 1 hts gL_value_X5_value rfl rfl rfl (by decide +kernel) ⟨Nat.le_of_ble_eq_true rfl, Nat.le_of_ble_eq_true rfl⟩) 5 rfl rfl rfl rfl hl.1 rfl (Nat.le_of_ble_eq_true rfl) dL_value_4 hTS hTZ hK hP hD0 hS hA [0, 1, 2, 3, 4, 5, 6, 7, 8, 9, 10, 11, 12, 13, 14, 15, 16, 17, 18, 19, 20, 21, 22, 23, 24, 25, 26, 27, 28, 29, 30, 31, 32, 33, 34, 35, 36, 37, 38, 39, 40, 41, 42, 43, 44, 45, 46, 47, 48, 49, 50, 51, 52, 53, 54, 55, 56, 57, 58, 59, 60, 61, 62, 63, 64, 65, 66, 67, 68, 69, 70, 71, 72, 73, 74, 75, 76] (by decide +kernel) oC_a oJ_a ⟨Nat.le_of_ble_eq_true rfl, Nat.le_of_ble_eq_true rfl⟩ (fun q9 ce H locs hP hS h1 h2 h3 => ?_)
      refine vx_catch (own := RL) (name := "java/lang/IllegalArgumentException") hown [] ⟨0, 9, 12, 15⟩ [] hex (fun z hz => nomatch hz) rfl (by decide) (hts (.classLink RL 15 "java/lang/IllegalArgumentException") (by decide +kernel)) (hTS.2.1.use _ (List.mem_of_getElem? (i := 5) rfl)) h1 h2 h3 ?_
      refine lv_astore_n (lv' := [(3, .ref q9), (0, .ref (x0)), (1, .int x1), (2, .ref (o0))]) hx hb dL_value_12 rfl hl (by decide) rfl (fun ls hl => ?_)
      refine lv_iconst (v := 1) hx hb dL_value_13 (by decide) ?_
      exact fw_iret hx hb hr hlocks hP hS (Nat.le_of_ble_eq_true rfl) (Nat.le_of_ble_eq_true rfl) dL_value_14
    · replace hf := fp_f cE hf
      cases hf
  · try dsimp only at hf
    obtain ⟨hi_1, hf⟩ := ix_of hf
    refine fn_V (v := some (.int r_1)) (As := [.int x1]) (rest := [.int (0 : Int32), .ref (o0)]) (st1 := [.int r_1, .int (0 : Int32), .ref (o0)]) (ws' := ((wLR X x0 hh ht ch tx y hy rP fP rT fT rG fG rL fL rH fH gi di re ti rPT fPT rTT fTT rGT fGT rLT fLT rHT fHT giT diT reT tiT rS fS rB fB rO fO pl fa cn ro Qh) ++ (wOut X o0 fo))) (nL := 4) ⟨hx, hb, hml, hown, hts⟩ (c_X5_value l X x0 hh ht ch tx y hy rP fP rT fT rG fG rL fL rH fH gi di re ti rPT fPT rTT fTT rGT fGT rLT fLT rHT fHT giT diT reT tiT rS fS rB fB rO fO pl fa cn ro Qh x1 r_1 hc) (cwV 1 hts gL_value_X5_value rfl rfl rfl (by decide +kernel) ⟨Nat.le_of_ble_eq_true rfl, Nat.le_of_ble_eq_true rfl⟩) 5 rfl rfl rfl rfl hl.1 rfl (Nat.le_of_ble_eq_true rfl) dL_value_4 hK hP hD0 hS hA [0, 1, 2, 3, 4, 5, 6, 7, 8, 9, 10, 11, 12, 13, 14, 15, 16, 17, 18, 19, 20, 21, 22, 23, 24, 25, 26, 27, 28, 29, 30, 31, 32, 33, 34, 35, 36, 37, 38, 39, 40, 41, 42, 43, 44, 45, 46, 47, 48, 49, 50, 51, 52, 53, 54, 55, 56, 57, 58, 59, 60, 61, 62, 63, 64, 65, 66, 67, 68, 69, 70, 71, 72, 73, 74, 75, 76] (by decide +kernel) oC_a (pt_setid _ _ _ oC_a) rfl ⟨Nat.zero_le _, Nat.zero_le _⟩ (fun H locs hP hD hS => ?_)
    refine lv_i2l (v := r_1.toInt64) hx hb dL_value_7 rfl ?_
    refine va_last hx hb hK.1 hP hD hS 77 1 (get_last 77 rfl) rfl hi_1 dL_value_8 (fun H locs hP hD hS => ?_)
    rw [set_last 77 rfl] at hP
    obtain ⟨fo_1, efo_1⟩ : ∃ g : Nat → Int64, g = vp_updL fo (0 : Int32).toNatClampNeg r_1.toInt64 := ⟨_, rfl⟩
    replace hf := nm_of efo_1 hf
    rw [← efo_1] at hP
    have hP : va_P X.1 vwCl ((wLR X x0 hh ht ch tx y hy rP fP rT fT rG fG rL fL rH fH gi di re ti rPT fPT rTT fTT rGT fGT rLT fLT rHT fHT giT diT reT tiT rS fS rB fB rO fO pl fa cn ro Qh) ++ (wOut X o0 fo_1)) H := hP
    refine lv_goto (tgt := 15) hx hb dL_value_9 (by decide) ?_
    refine lv_iconst (v := 0) hx hb dL_value_15 (by decide) ?_
    cases hf
    exact fw_iret hx hb hr hlocks hP hS (Nat.le_of_ble_eq_true rfl) (Nat.le_of_ble_eq_true rfl) dL_value_16

def f_L_entry (x1 : Int32) (x2 : Int32) (rL : Int32) (fL : (Nat → Int32)) (fo : (Nat → Int64)) : Option (Int32 × (Nat → Int64)) :=
  bx (f_X5_entry x1 x2 rL fL) (fun e_ => if e_ = "java/lang/IndexOutOfBoundsException" then some ((1 : Int32), fo) else if e_ = "java/lang/IllegalArgumentException" then some ((2 : Int32), fo) else none) (fun o_ => ix (0 : Int32) 1 (nm (vp_updL fo (0 : Int32).toNatClampNeg o_.toInt64) (fun fo_1 => some ((0 : Int32), fo_1))))
set_option maxHeartbeats 4000000 in
set_option maxRecDepth 100000 in
theorem c_L_entry (l : Launch) (hfl : l.stackTraces = false) (X : cx_G) (x0 : Nat) (hh : (Nat → Nat)) (ht : (Nat → Nat)) (ch : (Nat → Nat)) (tx : (Nat → Nat)) (y : (Nat → Nat)) (hy : (Nat → Nat → Nat)) (o0 : Nat) (rP : Int32) (fP : (Nat → Int32)) (rT : Int32) (fT : (Nat → Int32)) (rG : Int32) (fG : (Nat → Int32)) (rL : Int32) (fL : (Nat → Int32)) (rH : Int32) (fH : (Nat → Int32)) (gi : Int32) (di : Int32) (re : Int32) (ti : Int32) (rPT : Int32) (fPT : (Nat → Int32)) (rTT : Int32) (fTT : (Nat → Int32)) (rGT : Int32) (fGT : (Nat → Int32)) (rLT : Int32) (fLT : (Nat → Int32)) (rHT : Int32) (fHT : (Nat → Int32)) (giT : Int32) (diT : Int32) (reT : Int32) (tiT : Int32) (rS : Int32) (fS : (Nat → Int32)) (rB : Int32) (fB : (Nat → Int32)) (rO : Int32) (fO : (Nat → Int32)) (pl : Int32) (fa : Int32) (cn : Int32) (ro : Nat) (Qh : (Nat → HS)) (fo : (Nat → Int64)) (x1 : Int32) (x2 : Int32) (r : Int32) (fo' : (Nat → Int64)) (hf : f_L_entry x1 x2 rL fL fo = some (r, fo')) : Fw l yL_entry wsL_entry ({ frames := 8, cells := 1, slots := 6, locals := 134 } : Room) X [.ref (x0), .int x1, .int x2, .ref (o0)] ((wLR X x0 hh ht ch tx y hy rP fP rT fT rG fG rL fL rH fH gi di re ti rPT fPT rTT fTT rGT fGT rLT fLT rHT fHT giT diT reT tiT rS fS rB fB rO fO pl fa cn ro Qh) ++ (wOut X o0 fo)) (some (.int r)) ((wLR X x0 hh ht ch tx y hy rP fP rT fT rG fG rL fL rH fH gi di re ti rPT fPT rTT fTT rGT fGT rLT fLT rHT fHT giT diT reT tiT rS fS rB fB rO fO pl fa cn ro Qh) ++ (wOut X o0 fo')) := by
  refine fw_intro (cc := cL_entry) (maxL := 5) (ret := (some .int)) (hh := [(0, 10, 13, 13), (0, 10, 17, 15)]) (by decide) rfl (wLO_fst.trans wLO_fst.symm) (Nat.le_of_ble_eq_true rfl) ?_
  intro p e s m args below meth c A ls hx hb hml hr hts hown hlocks hex hK hP hD0 hS hA hTS hTZ hl
  have hown : s.vm.findClass RL = some m.cls := hown
  have hl : lv_has ls 5 [(0, .ref (x0)), (1, .int x1), (2, .int x2), (3, .ref (o0))] := hl
  have hex : c.exceptionTable.toList = [⟨0, 10, 13, 13⟩, ⟨0, 10, 17, 15⟩] := hex.trans rfl
  unfold f_L_entry at hf
  refine lv_aload_n hx hb dL_entry_0 rfl (lv_at hl 3 rfl) ?_
  refine lv_iconst (v := 0) hx hb dL_entry_1 (by decide) ?_
  refine lv_aload_n hx hb dL_entry_2 rfl (lv_at hl 0 rfl) ?_
  refine lv_iload_n hx hb dL_entry_3 rfl (lv_at hl 1 rfl) ?_
  refine lv_iload_n hx hb dL_entry_4 rfl (lv_at hl 2 rfl) ?_
  rcases bx_of hf with ⟨E_1, hc, hf⟩ | ⟨r_1, hc, hf⟩
  · try dsimp only at hf
    by_cases cE : E_1 = "java/lang/IndexOutOfBoundsException"
    · replace hf := fp_t cE hf
      subst cE
      cases hf
      refine tx_VJ (As := [.int x1, .int x2]) (rest := [.int (0 : Int32), .ref (o0)]) (nL := 5) (ws' := ((wLR X x0 hh ht ch tx y hy rP fP rT fT rG fG rL fL rH fH gi di re ti rPT fPT rTT fTT rGT fGT rLT fLT rHT fHT giT diT reT tiT rS fS rB fB rO fO pl fa cn ro Qh) ++ (wOut X o0 fo))) ⟨hx, hb, hml, hown, hts⟩ (c_X5_entry_x l hfl X x0 hh ht ch tx y hy rP fP rT fT rG fG rL fL rH fH gi di re ti rPT fPT rTT fTT rGT fGT rLT fLT rHT fHT giT diT reT tiT rS fS rB fB rO fO pl fa cn ro Qh x1 x2 ("java/lang/IndexOutOfBoundsException") hc) (cwV 2 hts gL_entry_X5_entry rfl rfl rfl (by decide +kernel) ⟨Nat.le_of_ble_eq_true rfl, Nat.le_of_ble_eq_true rfl⟩) 5 rfl rfl rfl rfl hl.1 rfl (Nat.le_of_ble_eq_true rfl) dL_entry_5 hTS hTZ hK hP hD0 hS hA [0, 1, 2, 3, 4, 5, 6, 7, 8, 9, 10, 11, 12, 13, 14, 15, 16, 17, 18, 19, 20, 21, 22, 23, 24, 25, 26, 27, 28, 29, 30, 31, 32, 33, 34, 35, 36, 37, 38, 39, 40, 41, 42, 43, 44, 45, 46, 47, 48, 49, 50, 51, 52, 53, 54, 55, 56, 57, 58, 59, 60, 61, 62, 63, 64, 65, 66, 67, 68, 69, 70, 71, 72, 73, 74, 75, 76] (by decide +kernel) oC_a oJ_a ⟨Nat.le_of_ble_eq_true rfl, Nat.le_of_ble_eq_true rfl⟩ (fun q9 ce H locs hP hS h1 h2 h3 => ?_)
      refine vx_catch (own := RL) (name := "java/lang/IndexOutOfBoundsException") hown [] ⟨0, 10, 13, 13⟩ [⟨0, 10, 17, 15⟩] hex (fun z hz => nomatch hz) rfl (by decide) (hts (.classLink RL 13 "java/lang/IndexOutOfBoundsException") (by decide +kernel)) (hTS.2.1.use _ (List.mem_of_getElem? (i := 4) rfl)) h1 h2 h3 ?_
      refine lv_astore (lv' := [(4, .ref q9), (0, .ref (x0)), (1, .int x1), (2, .int x2), (3, .ref (o0))]) hx hb dL_entry_13 hl (by decide) rfl (fun ls hl => ?_)
      refine lv_iconst (v := 1) hx hb dL_entry_15 (by decide) ?_
      exact fw_iret hx hb hr hlocks hP hS (Nat.le_of_ble_eq_true rfl) (Nat.le_of_ble_eq_true rfl) dL_entry_16
    · replace hf := fp_f cE hf
      by_cases cE : E_1 = "java/lang/IllegalArgumentException"
      · replace hf := fp_t cE hf
        subst cE
        cases hf
        refine tx_VJ (As := [.int x1, .int x2]) (rest := [.int (0 : Int32), .ref (o0)]) (nL := 5) (ws' := ((wLR X x0 hh ht ch tx y hy rP fP rT fT rG fG rL fL rH fH gi di re ti rPT fPT rTT fTT rGT fGT rLT fLT rHT fHT giT diT reT tiT rS fS rB fB rO fO pl fa cn ro Qh) ++ (wOut X o0 fo))) ⟨hx, hb, hml, hown, hts⟩ (c_X5_entry_x l hfl X x0 hh ht ch tx y hy rP fP rT fT rG fG rL fL rH fH gi di re ti rPT fPT rTT fTT rGT fGT rLT fLT rHT fHT giT diT reT tiT rS fS rB fB rO fO pl fa cn ro Qh x1 x2 ("java/lang/IllegalArgumentException") hc) (cwV 2 hts gL_entry_X5_entry rfl rfl rfl (by decide +kernel) ⟨Nat.le_of_ble_eq_true rfl, Nat.le_of_ble_eq_true rfl⟩) 5 rfl rfl rfl rfl hl.1 rfl (Nat.le_of_ble_eq_true rfl) dL_entry_5 hTS hTZ hK hP hD0 hS hA [0, 1, 2, 3, 4, 5, 6, 7, 8, 9, 10, 11, 12, 13, 14, 15, 16, 17, 18, 19, 20, 21, 22, 23, 24, 25, 26, 27, 28, 29, 30, 31, 32, 33, 34, 35, 36, 37, 38, 39, 40, 41, 42, 43, 44, 45, 46, 47, 48, 49, 50, 51, 52, 53, 54, 55, 56, 57, 58, 59, 60, 61, 62, 63, 64, 65, 66, 67, 68, 69, 70, 71, 72, 73, 74, 75, 76] (by decide +kernel) oC_a oJ_a ⟨Nat.le_of_ble_eq_true rfl, Nat.le_of_ble_eq_true rfl⟩ (fun q9 ce H locs hP hS h1 h2 h3 => ?_)
        have hpass : ∀ z ∈ ([⟨0, 10, 13, 13⟩] : List ExceptionTableEntry), covers z 5 = false ∨ (z.catchType ≠ 0 ∧ ∃ nm : String, (Cond.classLink RL z.catchType nm).before args s = true ∧ va_Nc "java/lang/IllegalArgumentException" nm s) := by
          intro z hz
          simp only [List.mem_cons, List.not_mem_nil, or_false] at hz
          rcases hz with rfl
          · exact Or.inr ⟨by decide, "java/lang/IndexOutOfBoundsException", hts (.classLink RL 13 "java/lang/IndexOutOfBoundsException") (by decide +kernel), hTS.2.2.1⟩
        refine vx_catch (own := RL) (name := "java/lang/IllegalArgumentException") hown [⟨0, 10, 13, 13⟩] ⟨0, 10, 17, 15⟩ [] hex hpass rfl (by decide) (hts (.classLink RL 15 "java/lang/IllegalArgumentException") (by decide +kernel)) (hTS.2.1.use _ (List.mem_of_getElem? (i := 5) rfl)) h1 h2 h3 ?_
        refine lv_astore (lv' := [(4, .ref q9), (0, .ref (x0)), (1, .int x1), (2, .int x2), (3, .ref (o0))]) hx hb dL_entry_17 hl (by decide) rfl (fun ls hl => ?_)
        refine lv_iconst (v := 2) hx hb dL_entry_19 (by decide) ?_
        exact fw_iret hx hb hr hlocks hP hS (Nat.le_of_ble_eq_true rfl) (Nat.le_of_ble_eq_true rfl) dL_entry_20
      · replace hf := fp_f cE hf
        cases hf
  · try dsimp only at hf
    obtain ⟨hi_1, hf⟩ := ix_of hf
    refine fn_V (v := some (.int r_1)) (As := [.int x1, .int x2]) (rest := [.int (0 : Int32), .ref (o0)]) (st1 := [.int r_1, .int (0 : Int32), .ref (o0)]) (ws' := ((wLR X x0 hh ht ch tx y hy rP fP rT fT rG fG rL fL rH fH gi di re ti rPT fPT rTT fTT rGT fGT rLT fLT rHT fHT giT diT reT tiT rS fS rB fB rO fO pl fa cn ro Qh) ++ (wOut X o0 fo))) (nL := 5) ⟨hx, hb, hml, hown, hts⟩ (c_X5_entry l X x0 hh ht ch tx y hy rP fP rT fT rG fG rL fL rH fH gi di re ti rPT fPT rTT fTT rGT fGT rLT fLT rHT fHT giT diT reT tiT rS fS rB fB rO fO pl fa cn ro Qh x1 x2 r_1 hc) (cwV 2 hts gL_entry_X5_entry rfl rfl rfl (by decide +kernel) ⟨Nat.le_of_ble_eq_true rfl, Nat.le_of_ble_eq_true rfl⟩) 5 rfl rfl rfl rfl hl.1 rfl (Nat.le_of_ble_eq_true rfl) dL_entry_5 hK hP hD0 hS hA [0, 1, 2, 3, 4, 5, 6, 7, 8, 9, 10, 11, 12, 13, 14, 15, 16, 17, 18, 19, 20, 21, 22, 23, 24, 25, 26, 27, 28, 29, 30, 31, 32, 33, 34, 35, 36, 37, 38, 39, 40, 41, 42, 43, 44, 45, 46, 47, 48, 49, 50, 51, 52, 53, 54, 55, 56, 57, 58, 59, 60, 61, 62, 63, 64, 65, 66, 67, 68, 69, 70, 71, 72, 73, 74, 75, 76] (by decide +kernel) oC_a (pt_setid _ _ _ oC_a) rfl ⟨Nat.zero_le _, Nat.zero_le _⟩ (fun H locs hP hD hS => ?_)
    refine lv_i2l (v := r_1.toInt64) hx hb dL_entry_8 rfl ?_
    refine va_last hx hb hK.1 hP hD hS 77 1 (get_last 77 rfl) rfl hi_1 dL_entry_9 (fun H locs hP hD hS => ?_)
    rw [set_last 77 rfl] at hP
    obtain ⟨fo_1, efo_1⟩ : ∃ g : Nat → Int64, g = vp_updL fo (0 : Int32).toNatClampNeg r_1.toInt64 := ⟨_, rfl⟩
    replace hf := nm_of efo_1 hf
    rw [← efo_1] at hP
    have hP : va_P X.1 vwCl ((wLR X x0 hh ht ch tx y hy rP fP rT fT rG fG rL fL rH fH gi di re ti rPT fPT rTT fTT rGT fGT rLT fLT rHT fHT giT diT reT tiT rS fS rB fB rO fO pl fa cn ro Qh) ++ (wOut X o0 fo_1)) H := hP
    refine lv_goto (tgt := 21) hx hb dL_entry_10 (by decide) ?_
    refine lv_iconst (v := 0) hx hb dL_entry_21 (by decide) ?_
    cases hf
    exact fw_iret hx hb hr hlocks hP hS (Nat.le_of_ble_eq_true rfl) (Nat.le_of_ble_eq_true rfl) dL_entry_22

def f_L_lostBy (x1 : Int32) (rP : Int32) (fP : (Nat → Int32)) (rT : Int32) (fT : (Nat → Int32)) (rG : Int32) (fG : (Nat → Int32)) (rL : Int32) (fL : (Nat → Int32)) (rH : Int32) (fH : (Nat → Int32)) (gi : Int32) (di : Int32) (re : Int32) (ti : Int32) (rPT : Int32) (fPT : (Nat → Int32)) (rTT : Int32) (fTT : (Nat → Int32)) (rGT : Int32) (fGT : (Nat → Int32)) (rLT : Int32) (fLT : (Nat → Int32)) (rHT : Int32) (fHT : (Nat → Int32)) (giT : Int32) (diT : Int32) (reT : Int32) (tiT : Int32) (fo : (Nat → Int64)) : Option (Int32 × Int32 × (Nat → Int32) × Int32 × (Nat → Int32) × Int32 × (Nat → Int32) × Int32 × (Nat → Int32) × Int32 × (Nat → Int32) × Int32 × Int32 × Int32 × Int32 × (Nat → Int64)) :=
  bx (f_X5_lostBy x1 rP fP rT fT rG fG rL fL rH fH gi di re ti rPT fPT rTT fTT rGT fGT rLT fLT rHT fHT giT diT reT tiT) (fun e_ => if e_.1 = "java/lang/IndexOutOfBoundsException" then some ((1 : Int32), e_.2.1, e_.2.2.1, e_.2.2.2.1, e_.2.2.2.2.1, e_.2.2.2.2.2.1, e_.2.2.2.2.2.2.1, e_.2.2.2.2.2.2.2.1, e_.2.2.2.2.2.2.2.2.1, e_.2.2.2.2.2.2.2.2.2.1, e_.2.2.2.2.2.2.2.2.2.2.1, e_.2.2.2.2.2.2.2.2.2.2.2.1, e_.2.2.2.2.2.2.2.2.2.2.2.2.1, e_.2.2.2.2.2.2.2.2.2.2.2.2.2.1, e_.2.2.2.2.2.2.2.2.2.2.2.2.2.2, fo) else none) (fun o_ => ix (0 : Int32) 1 (nm (vp_updL fo (0 : Int32).toNatClampNeg o_.1.toInt64) (fun fo_1 => some ((0 : Int32), o_.2.1, o_.2.2.1, o_.2.2.2.1, o_.2.2.2.2.1, o_.2.2.2.2.2.1, o_.2.2.2.2.2.2.1, o_.2.2.2.2.2.2.2.1, o_.2.2.2.2.2.2.2.2.1, o_.2.2.2.2.2.2.2.2.2.1, o_.2.2.2.2.2.2.2.2.2.2.1, o_.2.2.2.2.2.2.2.2.2.2.2.1, o_.2.2.2.2.2.2.2.2.2.2.2.2.1, o_.2.2.2.2.2.2.2.2.2.2.2.2.2.1, o_.2.2.2.2.2.2.2.2.2.2.2.2.2.2, fo_1))))
set_option maxHeartbeats 4000000 in
set_option maxRecDepth 100000 in
theorem c_L_lostBy (l : Launch) (hfl : l.stackTraces = false) (X : cx_G) (x0 : Nat) (hh : (Nat → Nat)) (ht : (Nat → Nat)) (ch : (Nat → Nat)) (tx : (Nat → Nat)) (y : (Nat → Nat)) (hy : (Nat → Nat → Nat)) (o0 : Nat) (rP : Int32) (fP : (Nat → Int32)) (rT : Int32) (fT : (Nat → Int32)) (rG : Int32) (fG : (Nat → Int32)) (rL : Int32) (fL : (Nat → Int32)) (rH : Int32) (fH : (Nat → Int32)) (gi : Int32) (di : Int32) (re : Int32) (ti : Int32) (rPT : Int32) (fPT : (Nat → Int32)) (rTT : Int32) (fTT : (Nat → Int32)) (rGT : Int32) (fGT : (Nat → Int32)) (rLT : Int32) (fLT : (Nat → Int32)) (rHT : Int32) (fHT : (Nat → Int32)) (giT : Int32) (diT : Int32) (reT : Int32) (tiT : Int32) (rS : Int32) (fS : (Nat → Int32)) (rB : Int32) (fB : (Nat → Int32)) (rO : Int32) (fO : (Nat → Int32)) (pl : Int32) (fa : Int32) (cn : Int32) (ro : Nat) (Qh : (Nat → HS)) (fo : (Nat → Int64)) (x1 : Int32) (r : Int32) (rPT' : Int32) (fPT' : (Nat → Int32)) (rTT' : Int32) (fTT' : (Nat → Int32)) (rGT' : Int32) (fGT' : (Nat → Int32)) (rLT' : Int32) (fLT' : (Nat → Int32)) (rHT' : Int32) (fHT' : (Nat → Int32)) (giT' : Int32) (diT' : Int32) (reT' : Int32) (tiT' : Int32) (fo' : (Nat → Int64)) (hf : f_L_lostBy x1 rP fP rT fT rG fG rL fL rH fH gi di re ti rPT fPT rTT fTT rGT fGT rLT fLT rHT fHT giT diT reT tiT fo = some (r, rPT', fPT', rTT', fTT', rGT', fGT', rLT', fLT', rHT', fHT', giT', diT', reT', tiT', fo')) : Fw l yL_lostBy wsL_lostBy ({ frames := 8, cells := 1, slots := 6, locals := 140 } : Room) X [.ref (x0), .int x1, .ref (o0)] ((wLR X x0 hh ht ch tx y hy rP fP rT fT rG fG rL fL rH fH gi di re ti rPT fPT rTT fTT rGT fGT rLT fLT rHT fHT giT diT reT tiT rS fS rB fB rO fO pl fa cn ro Qh) ++ (wOut X o0 fo)) (some (.int r)) ((wLR X x0 hh ht ch tx y hy rP fP rT fT rG fG rL fL rH fH gi di re ti rPT' fPT' rTT' fTT' rGT' fGT' rLT' fLT' rHT' fHT' giT' diT' reT' tiT' rS fS rB fB rO fO pl fa cn ro Qh) ++ (wOut X o0 fo')) := by
  refine fw_intro (cc := cL_lostBy) (maxL := 4) (ret := (some .int)) (hh := [(0, 9, 12, 13)]) (by decide) rfl (wLO_fst.trans wLO_fst.symm) (Nat.le_of_ble_eq_true rfl) ?_
  intro p e s m args below meth c A ls hx hb hml hr hts hown hlocks hex hK hP hD0 hS hA hTS hTZ hl
  have hown : s.vm.findClass RL = some m.cls := hown
  have hl : lv_has ls 4 [(0, .ref (x0)), (1, .int x1), (2, .ref (o0))] := hl
  have hex : c.exceptionTable.toList = [⟨0, 9, 12, 13⟩] := hex.trans rfl
  unfold f_L_lostBy at hf
  refine lv_aload_n hx hb dL_lostBy_0 rfl (lv_at hl 2 rfl) ?_
  refine lv_iconst (v := 0) hx hb dL_lostBy_1 (by decide) ?_
  refine lv_aload_n hx hb dL_lostBy_2 rfl (lv_at hl 0 rfl) ?_
  refine lv_iload_n hx hb dL_lostBy_3 rfl (lv_at hl 1 rfl) ?_
  rcases bx_of hf with ⟨⟨E_1, rPT_1, fPT_1, rTT_1, fTT_1, rGT_1, fGT_1, rLT_1, fLT_1, rHT_1, fHT_1, giT_1, diT_1, reT_1, tiT_1⟩, hc, hf⟩ | ⟨⟨r_1, rPT_1, fPT_1, rTT_1, fTT_1, rGT_1, fGT_1, rLT_1, fLT_1, rHT_1, fHT_1, giT_1, diT_1, reT_1, tiT_1⟩, hc, hf⟩
  · try dsimp only at hf
    by_cases cE : E_1 = "java/lang/IndexOutOfBoundsException"
    · replace hf := fp_t cE hf
      subst cE
      cases hf
      refine tx_VJ (As := [.int x1]) (rest := [.int (0 : Int32), .ref (o0)]) (nL := 4) (ws' := ((wLR X x0 hh ht ch tx y hy rP fP rT fT rG fG rL fL rH fH gi di re ti rPT' fPT' rTT' fTT' rGT' fGT' rLT' fLT' rHT' fHT' giT' diT' reT' tiT' rS fS rB fB rO fO pl fa cn ro Qh) ++ (wOut X o0 fo))) ⟨hx, hb, hml, hown, hts⟩ (c_X5_lostBy_x l hfl X x0 hh ht ch tx y hy rP fP rT fT rG fG rL fL rH fH gi di re ti rPT fPT rTT fTT rGT fGT rLT fLT rHT fHT giT diT reT tiT rS fS rB fB rO fO pl fa cn ro Qh x1 ("java/lang/IndexOutOfBoundsException") rPT' fPT' rTT' fTT' rGT' fGT' rLT' fLT' rHT' fHT' giT' diT' reT' tiT' hc) (cwV 1 hts gL_lostBy_X5_lostBy rfl rfl rfl (by decide +kernel) ⟨Nat.le_of_ble_eq_true rfl, Nat.le_of_ble_eq_true rfl⟩) 5 rfl rfl rfl rfl hl.1 rfl (Nat.le_of_ble_eq_true rfl) dL_lostBy_4 hTS hTZ hK hP hD0 hS hA [0, 1, 2, 3, 4, 5, 6, 7, 8, 9, 10, 11, 12, 13, 14, 15, 16, 17, 18, 19, 20, 21, 22, 23, 24, 25, 26, 27, 28, 29, 30, 31, 32, 33, 34, 35, 36, 37, 38, 39, 40, 41, 42, 43, 44, 45, 46, 47, 48, 49, 50, 51, 52, 53, 54, 55, 56, 57, 58, 59, 60, 61, 62, 63, 64, 65, 66, 67, 68, 69, 70, 71, 72, 73, 74, 75, 76] (by decide +kernel) oC_a oJ_a ⟨Nat.le_of_ble_eq_true rfl, Nat.le_of_ble_eq_true rfl⟩ (fun q9 ce H locs hP hS h1 h2 h3 => ?_)
      refine vx_catch (own := RL) (name := "java/lang/IndexOutOfBoundsException") hown [] ⟨0, 9, 12, 13⟩ [] hex (fun z hz => nomatch hz) rfl (by decide) (hts (.classLink RL 13 "java/lang/IndexOutOfBoundsException") (by decide +kernel)) (hTS.2.1.use _ (List.mem_of_getElem? (i := 4) rfl)) h1 h2 h3 ?_
      refine lv_astore_n (lv' := [(3, .ref q9), (0, .ref (x0)), (1, .int x1), (2, .ref (o0))]) hx hb dL_lostBy_12 rfl hl (by decide) rfl (fun ls hl => ?_)
      refine lv_iconst (v := 1) hx hb dL_lostBy_13 (by decide) ?_
      exact fw_iret hx hb hr hlocks hP hS (Nat.le_of_ble_eq_true rfl) (Nat.le_of_ble_eq_true rfl) dL_lostBy_14
    · replace hf := fp_f cE hf
      cases hf
  · try dsimp only at hf
    obtain ⟨hi_1, hf⟩ := ix_of hf
    refine fn_VJ (v := some (.int r_1)) (As := [.int x1]) (rest := [.int (0 : Int32), .ref (o0)]) (st1 := [.int r_1, .int (0 : Int32), .ref (o0)]) (ws' := ((wLR X x0 hh ht ch tx y hy rP fP rT fT rG fG rL fL rH fH gi di re ti rPT_1 fPT_1 rTT_1 fTT_1 rGT_1 fGT_1 rLT_1 fLT_1 rHT_1 fHT_1 giT_1 diT_1 reT_1 tiT_1 rS fS rB fB rO fO pl fa cn ro Qh) ++ (wOut X o0 fo))) (nL := 4) ⟨hx, hb, hml, hown, hts⟩ (c_X5_lostBy l X x0 hh ht ch tx y hy rP fP rT fT rG fG rL fL rH fH gi di re ti rPT fPT rTT fTT rGT fGT rLT fLT rHT fHT giT diT reT tiT rS fS rB fB rO fO pl fa cn ro Qh x1 r_1 rPT_1 fPT_1 rTT_1 fTT_1 rGT_1 fGT_1 rLT_1 fLT_1 rHT_1 fHT_1 giT_1 diT_1 reT_1 tiT_1 hc) (cwV 1 hts gL_lostBy_X5_lostBy rfl rfl rfl (by decide +kernel) ⟨Nat.le_of_ble_eq_true rfl, Nat.le_of_ble_eq_true rfl⟩) 5 rfl rfl rfl rfl hl.1 rfl (Nat.le_of_ble_eq_true rfl) dL_lostBy_4 hK hP hD0 hS hA [0, 1, 2, 3, 4, 5, 6, 7, 8, 9, 10, 11, 12, 13, 14, 15, 16, 17, 18, 19, 20, 21, 22, 23, 24, 25, 26, 27, 28, 29, 30, 31, 32, 33, 34, 35, 36, 37, 38, 39, 40, 41, 42, 43, 44, 45, 46, 47, 48, 49, 50, 51, 52, 53, 54, 55, 56, 57, 58, 59, 60, 61, 62, 63, 64, 65, 66, 67, 68, 69, 70, 71, 72, 73, 74, 75, 76] (by decide +kernel) oC_a oJ_a (wLO_fst.trans wLO_fst.symm) rfl ⟨Nat.zero_le _, Nat.zero_le _⟩ (fun H locs hP hD hS => ?_)
    refine lv_i2l (v := r_1.toInt64) hx hb dL_lostBy_7 rfl ?_
    refine va_last hx hb hK.1 hP hD hS 77 1 (get_last 77 rfl) rfl hi_1 dL_lostBy_8 (fun H locs hP hD hS => ?_)
    rw [set_last 77 rfl] at hP
    obtain ⟨fo_1, efo_1⟩ : ∃ g : Nat → Int64, g = vp_updL fo (0 : Int32).toNatClampNeg r_1.toInt64 := ⟨_, rfl⟩
    replace hf := nm_of efo_1 hf
    rw [← efo_1] at hP
    have hP : va_P X.1 vwCl ((wLR X x0 hh ht ch tx y hy rP fP rT fT rG fG rL fL rH fH gi di re ti rPT_1 fPT_1 rTT_1 fTT_1 rGT_1 fGT_1 rLT_1 fLT_1 rHT_1 fHT_1 giT_1 diT_1 reT_1 tiT_1 rS fS rB fB rO fO pl fa cn ro Qh) ++ (wOut X o0 fo_1)) H := hP
    refine lv_goto (tgt := 15) hx hb dL_lostBy_9 (by decide) ?_
    refine lv_iconst (v := 0) hx hb dL_lostBy_15 (by decide) ?_
    cases hf
    exact fw_iret hx hb hr hlocks hP hS (Nat.le_of_ble_eq_true rfl) (Nat.le_of_ble_eq_true rfl) dL_lostBy_16

def f_L_seenIn (x1 : Int32) (rP : Int32) (fP : (Nat → Int32)) (rT : Int32) (fT : (Nat → Int32)) (rG : Int32) (fG : (Nat → Int32)) (rL : Int32) (fL : (Nat → Int32)) (rH : Int32) (fH : (Nat → Int32)) (gi : Int32) (di : Int32) (re : Int32) (ti : Int32) (rPT : Int32) (fPT : (Nat → Int32)) (rTT : Int32) (fTT : (Nat → Int32)) (rGT : Int32) (fGT : (Nat → Int32)) (rLT : Int32) (fLT : (Nat → Int32)) (rHT : Int32) (fHT : (Nat → Int32)) (giT : Int32) (diT : Int32) (reT : Int32) (tiT : Int32) (fo : (Nat → Int64)) : Option (Int32 × Int32 × (Nat → Int32) × Int32 × (Nat → Int32) × Int32 × (Nat → Int32) × Int32 × (Nat → Int32) × Int32 × (Nat → Int32) × Int32 × Int32 × Int32 × Int32 × (Nat → Int64)) :=
  bx (f_X5_seenIn x1 rP fP rT fT rG fG rL fL rH fH gi di re ti rPT fPT rTT fTT rGT fGT rLT fLT rHT fHT giT diT reT tiT) (fun e_ => if e_.1 = "java/lang/IllegalArgumentException" then some ((1 : Int32), e_.2.1, e_.2.2.1, e_.2.2.2.1, e_.2.2.2.2.1, e_.2.2.2.2.2.1, e_.2.2.2.2.2.2.1, e_.2.2.2.2.2.2.2.1, e_.2.2.2.2.2.2.2.2.1, e_.2.2.2.2.2.2.2.2.2.1, e_.2.2.2.2.2.2.2.2.2.2.1, e_.2.2.2.2.2.2.2.2.2.2.2.1, e_.2.2.2.2.2.2.2.2.2.2.2.2.1, e_.2.2.2.2.2.2.2.2.2.2.2.2.2.1, e_.2.2.2.2.2.2.2.2.2.2.2.2.2.2, fo) else none) (fun o_ => ix (0 : Int32) 1 (nm (vp_updL fo (0 : Int32).toNatClampNeg o_.1.toInt64) (fun fo_1 => some ((0 : Int32), o_.2.1, o_.2.2.1, o_.2.2.2.1, o_.2.2.2.2.1, o_.2.2.2.2.2.1, o_.2.2.2.2.2.2.1, o_.2.2.2.2.2.2.2.1, o_.2.2.2.2.2.2.2.2.1, o_.2.2.2.2.2.2.2.2.2.1, o_.2.2.2.2.2.2.2.2.2.2.1, o_.2.2.2.2.2.2.2.2.2.2.2.1, o_.2.2.2.2.2.2.2.2.2.2.2.2.1, o_.2.2.2.2.2.2.2.2.2.2.2.2.2.1, o_.2.2.2.2.2.2.2.2.2.2.2.2.2.2, fo_1))))
set_option maxHeartbeats 4000000 in
set_option maxRecDepth 100000 in
theorem c_L_seenIn (l : Launch) (hfl : l.stackTraces = false) (X : cx_G) (x0 : Nat) (hh : (Nat → Nat)) (ht : (Nat → Nat)) (ch : (Nat → Nat)) (tx : (Nat → Nat)) (y : (Nat → Nat)) (hy : (Nat → Nat → Nat)) (o0 : Nat) (rP : Int32) (fP : (Nat → Int32)) (rT : Int32) (fT : (Nat → Int32)) (rG : Int32) (fG : (Nat → Int32)) (rL : Int32) (fL : (Nat → Int32)) (rH : Int32) (fH : (Nat → Int32)) (gi : Int32) (di : Int32) (re : Int32) (ti : Int32) (rPT : Int32) (fPT : (Nat → Int32)) (rTT : Int32) (fTT : (Nat → Int32)) (rGT : Int32) (fGT : (Nat → Int32)) (rLT : Int32) (fLT : (Nat → Int32)) (rHT : Int32) (fHT : (Nat → Int32)) (giT : Int32) (diT : Int32) (reT : Int32) (tiT : Int32) (rS : Int32) (fS : (Nat → Int32)) (rB : Int32) (fB : (Nat → Int32)) (rO : Int32) (fO : (Nat → Int32)) (pl : Int32) (fa : Int32) (cn : Int32) (ro : Nat) (Qh : (Nat → HS)) (fo : (Nat → Int64)) (x1 : Int32) (r : Int32) (rPT' : Int32) (fPT' : (Nat → Int32)) (rTT' : Int32) (fTT' : (Nat → Int32)) (rGT' : Int32) (fGT' : (Nat → Int32)) (rLT' : Int32) (fLT' : (Nat → Int32)) (rHT' : Int32) (fHT' : (Nat → Int32)) (giT' : Int32) (diT' : Int32) (reT' : Int32) (tiT' : Int32) (fo' : (Nat → Int64)) (hf : f_L_seenIn x1 rP fP rT fT rG fG rL fL rH fH gi di re ti rPT fPT rTT fTT rGT fGT rLT fLT rHT fHT giT diT reT tiT fo = some (r, rPT', fPT', rTT', fTT', rGT', fGT', rLT', fLT', rHT', fHT', giT', diT', reT', tiT', fo')) : Fw l yL_seenIn wsL_seenIn ({ frames := 8, cells := 1, slots := 6, locals := 133 } : Room) X [.ref (x0), .int x1, .ref (o0)] ((wLR X x0 hh ht ch tx y hy rP fP rT fT rG fG rL fL rH fH gi di re ti rPT fPT rTT fTT rGT fGT rLT fLT rHT fHT giT diT reT tiT rS fS rB fB rO fO pl fa cn ro Qh) ++ (wOut X o0 fo)) (some (.int r)) ((wLR X x0 hh ht ch tx y hy rP fP rT fT rG fG rL fL rH fH gi di re ti rPT' fPT' rTT' fTT' rGT' fGT' rLT' fLT' rHT' fHT' giT' diT' reT' tiT' rS fS rB fB rO fO pl fa cn ro Qh) ++ (wOut X o0 fo')) := by
  refine fw_intro (cc := cL_seenIn) (maxL := 4) (ret := (some .int)) (hh := [(0, 9, 12, 15)]) (by decide) rfl (wLO_fst.trans wLO_fst.symm) (Nat.le_of_ble_eq_true rfl) ?_
  intro p e s m args below meth c A ls hx hb hml hr hts hown hlocks hex hK hP hD0 hS hA hTS hTZ hl
  have hown : s.vm.findClass RL = some m.cls := hown
  have hl : lv_has ls 4 [(0, .ref (x0)), (1, .int x1), (2, .ref (o0))] := hl
  have hex : c.exceptionTable.toList = [⟨0, 9, 12, 15⟩] := hex.trans rfl
  unfold f_L_seenIn at hf
  refine lv_aload_n hx hb dL_seenIn_0 rfl (lv_at hl 2 rfl) ?_
  refine lv_iconst (v := 0) hx hb dL_seenIn_1 (by decide) ?_
  refine lv_aload_n hx hb dL_seenIn_2 rfl (lv_at hl 0 rfl) ?_
  refine lv_iload_n hx hb dL_seenIn_3 rfl (lv_at hl 1 rfl) ?_
  rcases bx_of hf with ⟨⟨E_1, rPT_1, fPT_1, rTT_1, fTT_1, rGT_1, fGT_1, rLT_1, fLT_1, rHT_1, fHT_1, giT_1, diT_1, reT_1, tiT_1⟩, hc, hf⟩ | ⟨⟨r_1, rPT_1, fPT_1, rTT_1, fTT_1, rGT_1, fGT_1, rLT_1, fLT_1, rHT_1, fHT_1, giT_1, diT_1, reT_1, tiT_1⟩, hc, hf⟩
  · try dsimp only at hf
    by_cases cE : E_1 = "java/lang/IllegalArgumentException"
    · replace hf := fp_t cE hf
      subst cE
      cases hf
      refine tx_VJ (As := [.int x1]) (rest := [.int (0 : Int32), .ref (o0)]) (nL := 4) (ws' := ((wLR X x0 hh ht ch tx y hy rP fP rT fT rG fG rL fL rH fH gi di re ti rPT' fPT' rTT' fTT' rGT' fGT' rLT' fLT' rHT' fHT' giT' diT' reT' tiT' rS fS rB fB rO fO pl fa cn ro Qh) ++ (wOut X o0 fo))) ⟨hx, hb, hml, hown, hts⟩ (c_X5_seenIn_x l hfl X x0 hh ht ch tx y hy rP fP rT fT rG fG rL fL rH fH gi di re ti rPT fPT rTT fTT rGT fGT rLT fLT rHT fHT giT diT reT tiT rS fS rB fB rO fO pl fa cn ro Qh x1 ("java/lang/IllegalArgumentException") rPT' fPT' rTT' fTT' rGT' fGT' rLT' fLT' rHT' fHT' giT' diT' reT' tiT' hc) (cwV 1 hts gL_seenIn_X5_seenIn rfl rfl rfl (by decide +kernel) ⟨Nat.le_of_ble_eq_true rfl, Nat.le_of_ble_eq_true rfl⟩) 5 rfl rfl rfl rfl hl.1 rfl (Nat.le_of_ble_eq_true rfl) dL_seenIn_4 hTS hTZ hK hP hD0 hS hA [0, 1, 2, 3, 4, 5, 6, 7, 8, 9, 10, 11, 12, 13, 14, 15, 16, 17, 18, 19, 20, 21, 22, 23, 24, 25, 26, 27, 28, 29, 30, 31, 32, 33, 34, 35, 36, 37, 38, 39, 40, 41, 42, 43, 44, 45, 46, 47, 48, 49, 50, 51, 52, 53, 54, 55, 56, 57, 58, 59, 60, 61, 62, 63, 64, 65, 66, 67, 68, 69, 70, 71, 72, 73, 74, 75, 76] (by decide +kernel) oC_a oJ_a ⟨Nat.le_of_ble_eq_true rfl, Nat.le_of_ble_eq_true rfl⟩ (fun q9 ce H locs hP hS h1 h2 h3 => ?_)
      refine vx_catch (own := RL) (name := "java/lang/IllegalArgumentException") hown [] ⟨0, 9, 12, 15⟩ [] hex (fun z hz => nomatch hz) rfl (by decide) (hts (.classLink RL 15 "java/lang/IllegalArgumentException") (by decide +kernel)) (hTS.2.1.use _ (List.mem_of_getElem? (i := 5) rfl)) h1 h2 h3 ?_
      refine lv_astore_n (lv' := [(3, .ref q9), (0, .ref (x0)), (1, .int x1), (2, .ref (o0))]) hx hb dL_seenIn_12 rfl hl (by decide) rfl (fun ls hl => ?_)
      refine lv_iconst (v := 1) hx hb dL_seenIn_13 (by decide) ?_
      exact fw_iret hx hb hr hlocks hP hS (Nat.le_of_ble_eq_true rfl) (Nat.le_of_ble_eq_true rfl) dL_seenIn_14
    · replace hf := fp_f cE hf
      cases hf
  · try dsimp only at hf
    obtain ⟨hi_1, hf⟩ := ix_of hf
    refine fn_VJ (v := some (.int r_1)) (As := [.int x1]) (rest := [.int (0 : Int32), .ref (o0)]) (st1 := [.int r_1, .int (0 : Int32), .ref (o0)]) (ws' := ((wLR X x0 hh ht ch tx y hy rP fP rT fT rG fG rL fL rH fH gi di re ti rPT_1 fPT_1 rTT_1 fTT_1 rGT_1 fGT_1 rLT_1 fLT_1 rHT_1 fHT_1 giT_1 diT_1 reT_1 tiT_1 rS fS rB fB rO fO pl fa cn ro Qh) ++ (wOut X o0 fo))) (nL := 4) ⟨hx, hb, hml, hown, hts⟩ (c_X5_seenIn l X x0 hh ht ch tx y hy rP fP rT fT rG fG rL fL rH fH gi di re ti rPT fPT rTT fTT rGT fGT rLT fLT rHT fHT giT diT reT tiT rS fS rB fB rO fO pl fa cn ro Qh x1 r_1 rPT_1 fPT_1 rTT_1 fTT_1 rGT_1 fGT_1 rLT_1 fLT_1 rHT_1 fHT_1 giT_1 diT_1 reT_1 tiT_1 hc) (cwV 1 hts gL_seenIn_X5_seenIn rfl rfl rfl (by decide +kernel) ⟨Nat.le_of_ble_eq_true rfl, Nat.le_of_ble_eq_true rfl⟩) 5 rfl rfl rfl rfl hl.1 rfl (Nat.le_of_ble_eq_true rfl) dL_seenIn_4 hK hP hD0 hS hA [0, 1, 2, 3, 4, 5, 6, 7, 8, 9, 10, 11, 12, 13, 14, 15, 16, 17, 18, 19, 20, 21, 22, 23, 24, 25, 26, 27, 28, 29, 30, 31, 32, 33, 34, 35, 36, 37, 38, 39, 40, 41, 42, 43, 44, 45, 46, 47, 48, 49, 50, 51, 52, 53, 54, 55, 56, 57, 58, 59, 60, 61, 62, 63, 64, 65, 66, 67, 68, 69, 70, 71, 72, 73, 74, 75, 76] (by decide +kernel) oC_a oJ_a (wLO_fst.trans wLO_fst.symm) rfl ⟨Nat.zero_le _, Nat.zero_le _⟩ (fun H locs hP hD hS => ?_)
    refine lv_i2l (v := r_1.toInt64) hx hb dL_seenIn_7 rfl ?_
    refine va_last hx hb hK.1 hP hD hS 77 1 (get_last 77 rfl) rfl hi_1 dL_seenIn_8 (fun H locs hP hD hS => ?_)
    rw [set_last 77 rfl] at hP
    obtain ⟨fo_1, efo_1⟩ : ∃ g : Nat → Int64, g = vp_updL fo (0 : Int32).toNatClampNeg r_1.toInt64 := ⟨_, rfl⟩
    replace hf := nm_of efo_1 hf
    rw [← efo_1] at hP
    have hP : va_P X.1 vwCl ((wLR X x0 hh ht ch tx y hy rP fP rT fT rG fG rL fL rH fH gi di re ti rPT_1 fPT_1 rTT_1 fTT_1 rGT_1 fGT_1 rLT_1 fLT_1 rHT_1 fHT_1 giT_1 diT_1 reT_1 tiT_1 rS fS rB fB rO fO pl fa cn ro Qh) ++ (wOut X o0 fo_1)) H := hP
    refine lv_goto (tgt := 15) hx hb dL_seenIn_9 (by decide) ?_
    refine lv_iconst (v := 0) hx hb dL_seenIn_15 (by decide) ?_
    cases hf
    exact fw_iret hx hb hr hlocks hP hS (Nat.le_of_ble_eq_true rfl) (Nat.le_of_ble_eq_true rfl) dL_seenIn_16

def f_L_gainBy (x1 : Int32) (x2 : Int32) (x3 : Int32) (x4 : Int32) (x5 : Int32) (rP : Int32) (fP : (Nat → Int32)) (rT : Int32) (fT : (Nat → Int32)) (rG : Int32) (fG : (Nat → Int32)) (rL : Int32) (fL : (Nat → Int32)) (rH : Int32) (fH : (Nat → Int32)) (gi : Int32) (di : Int32) (re : Int32) (ti : Int32) (rPT : Int32) (fPT : (Nat → Int32)) (rTT : Int32) (fTT : (Nat → Int32)) (rGT : Int32) (fGT : (Nat → Int32)) (rLT : Int32) (fLT : (Nat → Int32)) (rHT : Int32) (fHT : (Nat → Int32)) (giT : Int32) (diT : Int32) (reT : Int32) (tiT : Int32) (fo : (Nat → Int64)) : Option (Int32 × Int32 × (Nat → Int32) × Int32 × (Nat → Int32) × Int32 × (Nat → Int32) × Int32 × (Nat → Int32) × Int32 × (Nat → Int32) × Int32 × Int32 × Int32 × Int32 × (Nat → Int64)) :=
  bx (f_X5_gainBy x1 x2 x3 x4 x5 rP fP rT fT rG fG rL fL rH fH gi di re ti rPT fPT rTT fTT rGT fGT rLT fLT rHT fHT giT diT reT tiT) (fun e_ => if e_.1 = "java/lang/IndexOutOfBoundsException" then some ((1 : Int32), e_.2.1, e_.2.2.1, e_.2.2.2.1, e_.2.2.2.2.1, e_.2.2.2.2.2.1, e_.2.2.2.2.2.2.1, e_.2.2.2.2.2.2.2.1, e_.2.2.2.2.2.2.2.2.1, e_.2.2.2.2.2.2.2.2.2.1, e_.2.2.2.2.2.2.2.2.2.2.1, e_.2.2.2.2.2.2.2.2.2.2.2.1, e_.2.2.2.2.2.2.2.2.2.2.2.2.1, e_.2.2.2.2.2.2.2.2.2.2.2.2.2.1, e_.2.2.2.2.2.2.2.2.2.2.2.2.2.2, fo) else if e_.1 = "java/lang/IllegalArgumentException" then some ((2 : Int32), e_.2.1, e_.2.2.1, e_.2.2.2.1, e_.2.2.2.2.1, e_.2.2.2.2.2.1, e_.2.2.2.2.2.2.1, e_.2.2.2.2.2.2.2.1, e_.2.2.2.2.2.2.2.2.1, e_.2.2.2.2.2.2.2.2.2.1, e_.2.2.2.2.2.2.2.2.2.2.1, e_.2.2.2.2.2.2.2.2.2.2.2.1, e_.2.2.2.2.2.2.2.2.2.2.2.2.1, e_.2.2.2.2.2.2.2.2.2.2.2.2.2.1, e_.2.2.2.2.2.2.2.2.2.2.2.2.2.2, fo) else none) (fun o_ => ix (0 : Int32) 1 (nm (vp_updL fo (0 : Int32).toNatClampNeg o_.1.toInt64) (fun fo_1 => some ((0 : Int32), o_.2.1, o_.2.2.1, o_.2.2.2.1, o_.2.2.2.2.1, o_.2.2.2.2.2.1, o_.2.2.2.2.2.2.1, o_.2.2.2.2.2.2.2.1, o_.2.2.2.2.2.2.2.2.1, o_.2.2.2.2.2.2.2.2.2.1, o_.2.2.2.2.2.2.2.2.2.2.1, o_.2.2.2.2.2.2.2.2.2.2.2.1, o_.2.2.2.2.2.2.2.2.2.2.2.2.1, o_.2.2.2.2.2.2.2.2.2.2.2.2.2.1, o_.2.2.2.2.2.2.2.2.2.2.2.2.2.2, fo_1))))
set_option maxHeartbeats 4000000 in
set_option maxRecDepth 100000 in
theorem c_L_gainBy (l : Launch) (hfl : l.stackTraces = false) (X : cx_G) (x0 : Nat) (hh : (Nat → Nat)) (ht : (Nat → Nat)) (ch : (Nat → Nat)) (tx : (Nat → Nat)) (y : (Nat → Nat)) (hy : (Nat → Nat → Nat)) (o0 : Nat) (rP : Int32) (fP : (Nat → Int32)) (rT : Int32) (fT : (Nat → Int32)) (rG : Int32) (fG : (Nat → Int32)) (rL : Int32) (fL : (Nat → Int32)) (rH : Int32) (fH : (Nat → Int32)) (gi : Int32) (di : Int32) (re : Int32) (ti : Int32) (rPT : Int32) (fPT : (Nat → Int32)) (rTT : Int32) (fTT : (Nat → Int32)) (rGT : Int32) (fGT : (Nat → Int32)) (rLT : Int32) (fLT : (Nat → Int32)) (rHT : Int32) (fHT : (Nat → Int32)) (giT : Int32) (diT : Int32) (reT : Int32) (tiT : Int32) (rS : Int32) (fS : (Nat → Int32)) (rB : Int32) (fB : (Nat → Int32)) (rO : Int32) (fO : (Nat → Int32)) (pl : Int32) (fa : Int32) (cn : Int32) (ro : Nat) (Qh : (Nat → HS)) (fo : (Nat → Int64)) (x1 : Int32) (x2 : Int32) (x3 : Int32) (x4 : Int32) (x5 : Int32) (r : Int32) (rPT' : Int32) (fPT' : (Nat → Int32)) (rTT' : Int32) (fTT' : (Nat → Int32)) (rGT' : Int32) (fGT' : (Nat → Int32)) (rLT' : Int32) (fLT' : (Nat → Int32)) (rHT' : Int32) (fHT' : (Nat → Int32)) (giT' : Int32) (diT' : Int32) (reT' : Int32) (tiT' : Int32) (fo' : (Nat → Int64)) (hf : f_L_gainBy x1 x2 x3 x4 x5 rP fP rT fT rG fG rL fL rH fH gi di re ti rPT fPT rTT fTT rGT fGT rLT fLT rHT fHT giT diT reT tiT fo = some (r, rPT', fPT', rTT', fTT', rGT', fGT', rLT', fLT', rHT', fHT', giT', diT', reT', tiT', fo')) : Fw l yL_gainBy wsL_gainBy ({ frames := 8, cells := 1, slots := 6, locals := 136 } : Room) X [.ref (x0), .int x1, .int x2, .int x3, .int x4, .int x5, .ref (o0)] ((wLR X x0 hh ht ch tx y hy rP fP rT fT rG fG rL fL rH fH gi di re ti rPT fPT rTT fTT rGT fGT rLT fLT rHT fHT giT diT reT tiT rS fS rB fB rO fO pl fa cn ro Qh) ++ (wOut X o0 fo)) (some (.int r)) ((wLR X x0 hh ht ch tx y hy rP fP rT fT rG fG rL fL rH fH gi di re ti rPT' fPT' rTT' fTT' rGT' fGT' rLT' fLT' rHT' fHT' giT' diT' reT' tiT' rS fS rB fB rO fO pl fa cn ro Qh) ++ (wOut X o0 fo')) := by
  refine fw_intro (cc := cL_gainBy) (maxL := 8) (ret := (some .int)) (hh := [(0, 16, 19, 13), (0, 16, 23, 15)]) (by decide) rfl (wLO_fst.trans wLO_fst.symm) (Nat.le_of_ble_eq_true rfl) ?_
  intro p e s m args below meth c A ls hx hb hml hr hts hown hlocks hex hK hP hD0 hS hA hTS hTZ hl
  have hown : s.vm.findClass RL = some m.cls := hown
  have hl : lv_has ls 8 [(0, .ref (x0)), (1, .int x1), (2, .int x2), (3, .int x3), (4, .int x4), (5, .int x5), (6, .ref (o0))] := hl
  have hex : c.exceptionTable.toList = [⟨0, 16, 19, 13⟩, ⟨0, 16, 23, 15⟩] := hex.trans rfl
  unfold f_L_gainBy at hf
  refine lv_aload hx hb dL_gainBy_0 (lv_at hl 6 rfl) ?_
  refine lv_iconst (v := 0) hx hb dL_gainBy_2 (by decide) ?_
  refine lv_aload_n hx hb dL_gainBy_3 rfl (lv_at hl 0 rfl) ?_
  refine lv_iload_n hx hb dL_gainBy_4 rfl (lv_at hl 1 rfl) ?_
  refine lv_iload_n hx hb dL_gainBy_5 rfl (lv_at hl 2 rfl) ?_
  refine lv_iload_n hx hb dL_gainBy_6 rfl (lv_at hl 3 rfl) ?_
  refine lv_iload hx hb dL_gainBy_7 (lv_at hl 4 rfl) ?_
  refine lv_iload hx hb dL_gainBy_9 (lv_at hl 5 rfl) ?_
  rcases bx_of hf with ⟨⟨E_1, rPT_1, fPT_1, rTT_1, fTT_1, rGT_1, fGT_1, rLT_1, fLT_1, rHT_1, fHT_1, giT_1, diT_1, reT_1, tiT_1⟩, hc, hf⟩ | ⟨⟨r_1, rPT_1, fPT_1, rTT_1, fTT_1, rGT_1, fGT_1, rLT_1, fLT_1, rHT_1, fHT_1, giT_1, diT_1, reT_1, tiT_1⟩, hc, hf⟩
  · try dsimp only at hf
    by_cases cE : E_1 = "java/lang/IndexOutOfBoundsException"
    · replace hf := fp_t cE hf
      subst cE
      cases hf
      refine tx_VJ (As := [.int x1, .int x2, .int x3, .int x4, .int x5]) (rest := [.int (0 : Int32), .ref (o0)]) (nL := 8) (ws' := ((wLR X x0 hh ht ch tx y hy rP fP rT fT rG fG rL fL rH fH gi di re ti rPT' fPT' rTT' fTT' rGT' fGT' rLT' fLT' rHT' fHT' giT' diT' reT' tiT' rS fS rB fB rO fO pl fa cn ro Qh) ++ (wOut X o0 fo))) ⟨hx, hb, hml, hown, hts⟩ (c_X5_gainBy_x l hfl X x0 hh ht ch tx y hy rP fP rT fT rG fG rL fL rH fH gi di re ti rPT fPT rTT fTT rGT fGT rLT fLT rHT fHT giT diT reT tiT rS fS rB fB rO fO pl fa cn ro Qh x1 x2 x3 x4 x5 ("java/lang/IndexOutOfBoundsException") rPT' fPT' rTT' fTT' rGT' fGT' rLT' fLT' rHT' fHT' giT' diT' reT' tiT' hc) (cwV 5 hts gL_gainBy_X5_gainBy rfl rfl rfl (by decide +kernel) ⟨Nat.le_of_ble_eq_true rfl, Nat.le_of_ble_eq_true rfl⟩) 5 rfl rfl rfl rfl hl.1 rfl (Nat.le_of_ble_eq_true rfl) dL_gainBy_11 hTS hTZ hK hP hD0 hS hA [0, 1, 2, 3, 4, 5, 6, 7, 8, 9, 10, 11, 12, 13, 14, 15, 16, 17, 18, 19, 20, 21, 22, 23, 24, 25, 26, 27, 28, 29, 30, 31, 32, 33, 34, 35, 36, 37, 38, 39, 40, 41, 42, 43, 44, 45, 46, 47, 48, 49, 50, 51, 52, 53, 54, 55, 56, 57, 58, 59, 60, 61, 62, 63, 64, 65, 66, 67, 68, 69, 70, 71, 72, 73, 74, 75, 76] (by decide +kernel) oC_a oJ_a ⟨Nat.le_of_ble_eq_true rfl, Nat.le_of_ble_eq_true rfl⟩ (fun q9 ce H locs hP hS h1 h2 h3 => ?_)
      refine vx_catch (own := RL) (name := "java/lang/IndexOutOfBoundsException") hown [] ⟨0, 16, 19, 13⟩ [⟨0, 16, 23, 15⟩] hex (fun z hz => nomatch hz) rfl (by decide) (hts (.classLink RL 13 "java/lang/IndexOutOfBoundsException") (by decide +kernel)) (hTS.2.1.use _ (List.mem_of_getElem? (i := 4) rfl)) h1 h2 h3 ?_
      refine lv_astore (lv' := [(7, .ref q9), (0, .ref (x0)), (1, .int x1), (2, .int x2), (3, .int x3), (4, .int x4), (5, .int x5), (6, .ref (o0))]) hx hb dL_gainBy_19 hl (by decide) rfl (fun ls hl => ?_)
      refine lv_iconst (v := 1) hx hb dL_gainBy_21 (by decide) ?_
      exact fw_iret hx hb hr hlocks hP hS (Nat.le_of_ble_eq_true rfl) (Nat.le_of_ble_eq_true rfl) dL_gainBy_22
    · replace hf := fp_f cE hf
      by_cases cE : E_1 = "java/lang/IllegalArgumentException"
      · replace hf := fp_t cE hf
        subst cE
        cases hf
        refine tx_VJ (As := [.int x1, .int x2, .int x3, .int x4, .int x5]) (rest := [.int (0 : Int32), .ref (o0)]) (nL := 8) (ws' := ((wLR X x0 hh ht ch tx y hy rP fP rT fT rG fG rL fL rH fH gi di re ti rPT' fPT' rTT' fTT' rGT' fGT' rLT' fLT' rHT' fHT' giT' diT' reT' tiT' rS fS rB fB rO fO pl fa cn ro Qh) ++ (wOut X o0 fo))) ⟨hx, hb, hml, hown, hts⟩ (c_X5_gainBy_x l hfl X x0 hh ht ch tx y hy rP fP rT fT rG fG rL fL rH fH gi di re ti rPT fPT rTT fTT rGT fGT rLT fLT rHT fHT giT diT reT tiT rS fS rB fB rO fO pl fa cn ro Qh x1 x2 x3 x4 x5 ("java/lang/IllegalArgumentException") rPT' fPT' rTT' fTT' rGT' fGT' rLT' fLT' rHT' fHT' giT' diT' reT' tiT' hc) (cwV 5 hts gL_gainBy_X5_gainBy rfl rfl rfl (by decide +kernel) ⟨Nat.le_of_ble_eq_true rfl, Nat.le_of_ble_eq_true rfl⟩) 5 rfl rfl rfl rfl hl.1 rfl (Nat.le_of_ble_eq_true rfl) dL_gainBy_11 hTS hTZ hK hP hD0 hS hA [0, 1, 2, 3, 4, 5, 6, 7, 8, 9, 10, 11, 12, 13, 14, 15, 16, 17, 18, 19, 20, 21, 22, 23, 24, 25, 26, 27, 28, 29, 30, 31, 32, 33, 34, 35, 36, 37, 38, 39, 40, 41, 42, 43, 44, 45, 46, 47, 48, 49, 50, 51, 52, 53, 54, 55, 56, 57, 58, 59, 60, 61, 62, 63, 64, 65, 66, 67, 68, 69, 70, 71, 72, 73, 74, 75, 76] (by decide +kernel) oC_a oJ_a ⟨Nat.le_of_ble_eq_true rfl, Nat.le_of_ble_eq_true rfl⟩ (fun q9 ce H locs hP hS h1 h2 h3 => ?_)
        have hpass : ∀ z ∈ ([⟨0, 16, 19, 13⟩] : List ExceptionTableEntry), covers z 11 = false ∨ (z.catchType ≠ 0 ∧ ∃ nm : String, (Cond.classLink RL z.catchType nm).before args s = true ∧ va_Nc "java/lang/IllegalArgumentException" nm s) := by
          intro z hz
          simp only [List.mem_cons, List.not_mem_nil, or_false] at hz
          rcases hz with rfl
          · exact Or.inr ⟨by decide, "java/lang/IndexOutOfBoundsException", hts (.classLink RL 13 "java/lang/IndexOutOfBoundsException") (by decide +kernel), hTS.2.2.1⟩
        refine vx_catch (own := RL) (name := "java/lang/IllegalArgumentException") hown [⟨0, 16, 19, 13⟩] ⟨0, 16, 23, 15⟩ [] hex hpass rfl (by decide) (hts (.classLink RL 15 "java/lang/IllegalArgumentException") (by decide +kernel)) (hTS.2.1.use _ (List.mem_of_getElem? (i := 5) rfl)) h1 h2 h3 ?_
        refine lv_astore (lv' := [(7, .ref q9), (0, .ref (x0)), (1, .int x1), (2, .int x2), (3, .int x3), (4, .int x4), (5, .int x5), (6, .ref (o0))]) hx hb dL_gainBy_23 hl (by decide) rfl (fun ls hl => ?_)
        refine lv_iconst (v := 2) hx hb dL_gainBy_25 (by decide) ?_
        exact fw_iret hx hb hr hlocks hP hS (Nat.le_of_ble_eq_true rfl) (Nat.le_of_ble_eq_true rfl) dL_gainBy_26
      · replace hf := fp_f cE hf
        cases hf
  · try dsimp only at hf
    obtain ⟨hi_1, hf⟩ := ix_of hf
    refine fn_VJ (v := some (.int r_1)) (As := [.int x1, .int x2, .int x3, .int x4, .int x5]) (rest := [.int (0 : Int32), .ref (o0)]) (st1 := [.int r_1, .int (0 : Int32), .ref (o0)]) (ws' := ((wLR X x0 hh ht ch tx y hy rP fP rT fT rG fG rL fL rH fH gi di re ti rPT_1 fPT_1 rTT_1 fTT_1 rGT_1 fGT_1 rLT_1 fLT_1 rHT_1 fHT_1 giT_1 diT_1 reT_1 tiT_1 rS fS rB fB rO fO pl fa cn ro Qh) ++ (wOut X o0 fo))) (nL := 8) ⟨hx, hb, hml, hown, hts⟩ (c_X5_gainBy l X x0 hh ht ch tx y hy rP fP rT fT rG fG rL fL rH fH gi di re ti rPT fPT rTT fTT rGT fGT rLT fLT rHT fHT giT diT reT tiT rS fS rB fB rO fO pl fa cn ro Qh x1 x2 x3 x4 x5 r_1 rPT_1 fPT_1 rTT_1 fTT_1 rGT_1 fGT_1 rLT_1 fLT_1 rHT_1 fHT_1 giT_1 diT_1 reT_1 tiT_1 hc) (cwV 5 hts gL_gainBy_X5_gainBy rfl rfl rfl (by decide +kernel) ⟨Nat.le_of_ble_eq_true rfl, Nat.le_of_ble_eq_true rfl⟩) 5 rfl rfl rfl rfl hl.1 rfl (Nat.le_of_ble_eq_true rfl) dL_gainBy_11 hK hP hD0 hS hA [0, 1, 2, 3, 4, 5, 6, 7, 8, 9, 10, 11, 12, 13, 14, 15, 16, 17, 18, 19, 20, 21, 22, 23, 24, 25, 26, 27, 28, 29, 30, 31, 32, 33, 34, 35, 36, 37, 38, 39, 40, 41, 42, 43, 44, 45, 46, 47, 48, 49, 50, 51, 52, 53, 54, 55, 56, 57, 58, 59, 60, 61, 62, 63, 64, 65, 66, 67, 68, 69, 70, 71, 72, 73, 74, 75, 76] (by decide +kernel) oC_a oJ_a (wLO_fst.trans wLO_fst.symm) rfl ⟨Nat.zero_le _, Nat.zero_le _⟩ (fun H locs hP hD hS => ?_)
    refine lv_i2l (v := r_1.toInt64) hx hb dL_gainBy_14 rfl ?_
    refine va_last hx hb hK.1 hP hD hS 77 1 (get_last 77 rfl) rfl hi_1 dL_gainBy_15 (fun H locs hP hD hS => ?_)
    rw [set_last 77 rfl] at hP
    obtain ⟨fo_1, efo_1⟩ : ∃ g : Nat → Int64, g = vp_updL fo (0 : Int32).toNatClampNeg r_1.toInt64 := ⟨_, rfl⟩
    replace hf := nm_of efo_1 hf
    rw [← efo_1] at hP
    have hP : va_P X.1 vwCl ((wLR X x0 hh ht ch tx y hy rP fP rT fT rG fG rL fL rH fH gi di re ti rPT_1 fPT_1 rTT_1 fTT_1 rGT_1 fGT_1 rLT_1 fLT_1 rHT_1 fHT_1 giT_1 diT_1 reT_1 tiT_1 rS fS rB fB rO fO pl fa cn ro Qh) ++ (wOut X o0 fo_1)) H := hP
    refine lv_goto (tgt := 27) hx hb dL_gainBy_16 (by decide) ?_
    refine lv_iconst (v := 0) hx hb dL_gainBy_27 (by decide) ?_
    cases hf
    exact fw_iret hx hb hr hlocks hP hS (Nat.le_of_ble_eq_true rfl) (Nat.le_of_ble_eq_true rfl) dL_gainBy_28

def f_L_patience (x1 : Int32) (rP : Int32) (fP : (Nat → Int32)) (rG : Int32) (fG : (Nat → Int32)) (fo : (Nat → Int64)) : Option (Int32 × (Nat → Int64)) :=
  bx (f_X5_patience x1 rP fP rG fG) (fun e_ => if e_ = "java/lang/IndexOutOfBoundsException" then some ((1 : Int32), fo) else none) (fun o_ => ix (0 : Int32) 1 (nm (vp_updL fo (0 : Int32).toNatClampNeg o_.toInt64) (fun fo_1 => some ((0 : Int32), fo_1))))
set_option maxHeartbeats 4000000 in
set_option maxRecDepth 100000 in
theorem c_L_patience (l : Launch) (hfl : l.stackTraces = false) (X : cx_G) (x0 : Nat) (hh : (Nat → Nat)) (ht : (Nat → Nat)) (ch : (Nat → Nat)) (tx : (Nat → Nat)) (y : (Nat → Nat)) (hy : (Nat → Nat → Nat)) (o0 : Nat) (rP : Int32) (fP : (Nat → Int32)) (rT : Int32) (fT : (Nat → Int32)) (rG : Int32) (fG : (Nat → Int32)) (rL : Int32) (fL : (Nat → Int32)) (rH : Int32) (fH : (Nat → Int32)) (gi : Int32) (di : Int32) (re : Int32) (ti : Int32) (rPT : Int32) (fPT : (Nat → Int32)) (rTT : Int32) (fTT : (Nat → Int32)) (rGT : Int32) (fGT : (Nat → Int32)) (rLT : Int32) (fLT : (Nat → Int32)) (rHT : Int32) (fHT : (Nat → Int32)) (giT : Int32) (diT : Int32) (reT : Int32) (tiT : Int32) (rS : Int32) (fS : (Nat → Int32)) (rB : Int32) (fB : (Nat → Int32)) (rO : Int32) (fO : (Nat → Int32)) (pl : Int32) (fa : Int32) (cn : Int32) (ro : Nat) (Qh : (Nat → HS)) (fo : (Nat → Int64)) (x1 : Int32) (r : Int32) (fo' : (Nat → Int64)) (hf : f_L_patience x1 rP fP rG fG fo = some (r, fo')) : Fw l yL_patience wsL_patience ({ frames := 8, cells := 1, slots := 6, locals := 131 } : Room) X [.ref (x0), .int x1, .ref (o0)] ((wLR X x0 hh ht ch tx y hy rP fP rT fT rG fG rL fL rH fH gi di re ti rPT fPT rTT fTT rGT fGT rLT fLT rHT fHT giT diT reT tiT rS fS rB fB rO fO pl fa cn ro Qh) ++ (wOut X o0 fo)) (some (.int r)) ((wLR X x0 hh ht ch tx y hy rP fP rT fT rG fG rL fL rH fH gi di re ti rPT fPT rTT fTT rGT fGT rLT fLT rHT fHT giT diT reT tiT rS fS rB fB rO fO pl fa cn ro Qh) ++ (wOut X o0 fo')) := by
  refine fw_intro (cc := cL_patience) (maxL := 4) (ret := (some .int)) (hh := [(0, 9, 12, 13)]) (by decide) rfl (wLO_fst.trans wLO_fst.symm) (Nat.le_of_ble_eq_true rfl) ?_
  intro p e s m args below meth c A ls hx hb hml hr hts hown hlocks hex hK hP hD0 hS hA hTS hTZ hl
  have hown : s.vm.findClass RL = some m.cls := hown
  have hl : lv_has ls 4 [(0, .ref (x0)), (1, .int x1), (2, .ref (o0))] := hl
  have hex : c.exceptionTable.toList = [⟨0, 9, 12, 13⟩] := hex.trans rfl
  unfold f_L_patience at hf
  refine lv_aload_n hx hb dL_patience_0 rfl (lv_at hl 2 rfl) ?_
  refine lv_iconst (v := 0) hx hb dL_patience_1 (by decide) ?_
  refine lv_aload_n hx hb dL_patience_2 rfl (lv_at hl 0 rfl) ?_
  refine lv_iload_n hx hb dL_patience_3 rfl (lv_at hl 1 rfl) ?_
  rcases bx_of hf with ⟨E_1, hc, hf⟩ | ⟨r_1, hc, hf⟩
  · try dsimp only at hf
    by_cases cE : E_1 = "java/lang/IndexOutOfBoundsException"
    · replace hf := fp_t cE hf
      subst cE
      cases hf
      refine tx_VJ (As := [.int x1]) (rest := [.int (0 : Int32), .ref (o0)]) (nL := 4) (ws' := ((wLR X x0 hh ht ch tx y hy rP fP rT fT rG fG rL fL rH fH gi di re ti rPT fPT rTT fTT rGT fGT rLT fLT rHT fHT giT diT reT tiT rS fS rB fB rO fO pl fa cn ro Qh) ++ (wOut X o0 fo))) ⟨hx, hb, hml, hown, hts⟩ (c_X5_patience_x l hfl X x0 hh ht ch tx y hy rP fP rT fT rG fG rL fL rH fH gi di re ti rPT fPT rTT fTT rGT fGT rLT fLT rHT fHT giT diT reT tiT rS fS rB fB rO fO pl fa cn ro Qh x1 ("java/lang/IndexOutOfBoundsException") hc) (cwV 1 hts gL_patience_X5_patience rfl rfl rfl (by decide +kernel) ⟨Nat.le_of_ble_eq_true rfl, Nat.le_of_ble_eq_true rfl⟩) 5 rfl rfl rfl rfl hl.1 rfl (Nat.le_of_ble_eq_true rfl) dL_patience_4 hTS hTZ hK hP hD0 hS hA [0, 1, 2, 3, 4, 5, 6, 7, 8, 9, 10, 11, 12, 13, 14, 15, 16, 17, 18, 19, 20, 21, 22, 23, 24, 25, 26, 27, 28, 29, 30, 31, 32, 33, 34, 35, 36, 37, 38, 39, 40, 41, 42, 43, 44, 45, 46, 47, 48, 49, 50, 51, 52, 53, 54, 55, 56, 57, 58, 59, 60, 61, 62, 63, 64, 65, 66, 67, 68, 69, 70, 71, 72, 73, 74, 75, 76] (by decide +kernel) oC_a oJ_a ⟨Nat.le_of_ble_eq_true rfl, Nat.le_of_ble_eq_true rfl⟩ (fun q9 ce H locs hP hS h1 h2 h3 => ?_)
      refine vx_catch (own := RL) (name := "java/lang/IndexOutOfBoundsException") hown [] ⟨0, 9, 12, 13⟩ [] hex (fun z hz => nomatch hz) rfl (by decide) (hts (.classLink RL 13 "java/lang/IndexOutOfBoundsException") (by decide +kernel)) (hTS.2.1.use _ (List.mem_of_getElem? (i := 4) rfl)) h1 h2 h3 ?_
      refine lv_astore_n (lv' := [(3, .ref q9), (0, .ref (x0)), (1, .int x1), (2, .ref (o0))]) hx hb dL_patience_12 rfl hl (by decide) rfl (fun ls hl => ?_)
      refine lv_iconst (v := 1) hx hb dL_patience_13 (by decide) ?_
      exact fw_iret hx hb hr hlocks hP hS (Nat.le_of_ble_eq_true rfl) (Nat.le_of_ble_eq_true rfl) dL_patience_14
    · replace hf := fp_f cE hf
      cases hf
  · try dsimp only at hf
    obtain ⟨hi_1, hf⟩ := ix_of hf
    refine fn_V (v := some (.int r_1)) (As := [.int x1]) (rest := [.int (0 : Int32), .ref (o0)]) (st1 := [.int r_1, .int (0 : Int32), .ref (o0)]) (ws' := ((wLR X x0 hh ht ch tx y hy rP fP rT fT rG fG rL fL rH fH gi di re ti rPT fPT rTT fTT rGT fGT rLT fLT rHT fHT giT diT reT tiT rS fS rB fB rO fO pl fa cn ro Qh) ++ (wOut X o0 fo))) (nL := 4) ⟨hx, hb, hml, hown, hts⟩ (c_X5_patience l X x0 hh ht ch tx y hy rP fP rT fT rG fG rL fL rH fH gi di re ti rPT fPT rTT fTT rGT fGT rLT fLT rHT fHT giT diT reT tiT rS fS rB fB rO fO pl fa cn ro Qh x1 r_1 hc) (cwV 1 hts gL_patience_X5_patience rfl rfl rfl (by decide +kernel) ⟨Nat.le_of_ble_eq_true rfl, Nat.le_of_ble_eq_true rfl⟩) 5 rfl rfl rfl rfl hl.1 rfl (Nat.le_of_ble_eq_true rfl) dL_patience_4 hK hP hD0 hS hA [0, 1, 2, 3, 4, 5, 6, 7, 8, 9, 10, 11, 12, 13, 14, 15, 16, 17, 18, 19, 20, 21, 22, 23, 24, 25, 26, 27, 28, 29, 30, 31, 32, 33, 34, 35, 36, 37, 38, 39, 40, 41, 42, 43, 44, 45, 46, 47, 48, 49, 50, 51, 52, 53, 54, 55, 56, 57, 58, 59, 60, 61, 62, 63, 64, 65, 66, 67, 68, 69, 70, 71, 72, 73, 74, 75, 76] (by decide +kernel) oC_a (pt_setid _ _ _ oC_a) rfl ⟨Nat.zero_le _, Nat.zero_le _⟩ (fun H locs hP hD hS => ?_)
    refine lv_i2l (v := r_1.toInt64) hx hb dL_patience_7 rfl ?_
    refine va_last hx hb hK.1 hP hD hS 77 1 (get_last 77 rfl) rfl hi_1 dL_patience_8 (fun H locs hP hD hS => ?_)
    rw [set_last 77 rfl] at hP
    obtain ⟨fo_1, efo_1⟩ : ∃ g : Nat → Int64, g = vp_updL fo (0 : Int32).toNatClampNeg r_1.toInt64 := ⟨_, rfl⟩
    replace hf := nm_of efo_1 hf
    rw [← efo_1] at hP
    have hP : va_P X.1 vwCl ((wLR X x0 hh ht ch tx y hy rP fP rT fT rG fG rL fL rH fH gi di re ti rPT fPT rTT fTT rGT fGT rLT fLT rHT fHT giT diT reT tiT rS fS rB fB rO fO pl fa cn ro Qh) ++ (wOut X o0 fo_1)) H := hP
    refine lv_goto (tgt := 15) hx hb dL_patience_9 (by decide) ?_
    refine lv_iconst (v := 0) hx hb dL_patience_15 (by decide) ?_
    cases hf
    exact fw_iret hx hb hr hlocks hP hS (Nat.le_of_ble_eq_true rfl) (Nat.le_of_ble_eq_true rfl) dL_patience_16

def f_L_append (x1 : Int32) (rB : Int32) (fB : (Nat → Int32)) (fo : (Nat → Int64)) : Option (Int32 × Int32 × (Nat → Int32) × (Nat → Int64)) :=
  bx (f_X5_append x1 rB fB) (fun e_ => if e_.1 = "java/lang/IllegalArgumentException" then some ((1 : Int32), e_.2.1, e_.2.2, fo) else if e_.1 = "java/lang/IllegalStateException" then some ((2 : Int32), e_.2.1, e_.2.2, fo) else none) (fun o_ => ix (0 : Int32) 1 (nm (vp_updL fo (0 : Int32).toNatClampNeg o_.1.toInt64) (fun fo_1 => some ((0 : Int32), o_.2.1, o_.2.2, fo_1))))
set_option maxHeartbeats 4000000 in
set_option maxRecDepth 100000 in
theorem c_L_append (l : Launch) (hfl : l.stackTraces = false) (X : cx_G) (x0 : Nat) (hh : (Nat → Nat)) (ht : (Nat → Nat)) (ch : (Nat → Nat)) (tx : (Nat → Nat)) (y : (Nat → Nat)) (hy : (Nat → Nat → Nat)) (o0 : Nat) (rP : Int32) (fP : (Nat → Int32)) (rT : Int32) (fT : (Nat → Int32)) (rG : Int32) (fG : (Nat → Int32)) (rL : Int32) (fL : (Nat → Int32)) (rH : Int32) (fH : (Nat → Int32)) (gi : Int32) (di : Int32) (re : Int32) (ti : Int32) (rPT : Int32) (fPT : (Nat → Int32)) (rTT : Int32) (fTT : (Nat → Int32)) (rGT : Int32) (fGT : (Nat → Int32)) (rLT : Int32) (fLT : (Nat → Int32)) (rHT : Int32) (fHT : (Nat → Int32)) (giT : Int32) (diT : Int32) (reT : Int32) (tiT : Int32) (rS : Int32) (fS : (Nat → Int32)) (rB : Int32) (fB : (Nat → Int32)) (rO : Int32) (fO : (Nat → Int32)) (pl : Int32) (fa : Int32) (cn : Int32) (ro : Nat) (Qh : (Nat → HS)) (fo : (Nat → Int64)) (x1 : Int32) (r : Int32) (rB' : Int32) (fB' : (Nat → Int32)) (fo' : (Nat → Int64)) (hf : f_L_append x1 rB fB fo = some (r, rB', fB', fo')) : Fw l yL_append wsL_append ({ frames := 8, cells := 1, slots := 6, locals := 133 } : Room) X [.ref (x0), .int x1, .ref (o0)] ((wLR X x0 hh ht ch tx y hy rP fP rT fT rG fG rL fL rH fH gi di re ti rPT fPT rTT fTT rGT fGT rLT fLT rHT fHT giT diT reT tiT rS fS rB fB rO fO pl fa cn ro Qh) ++ (wOut X o0 fo)) (some (.int r)) ((wLR X x0 hh ht ch tx y hy rP fP rT fT rG fG rL fL rH fH gi di re ti rPT fPT rTT fTT rGT fGT rLT fLT rHT fHT giT diT reT tiT rS fS rB' fB' rO fO pl fa cn ro Qh) ++ (wOut X o0 fo')) := by
  refine fw_intro (cc := cL_append) (maxL := 4) (ret := (some .int)) (hh := [(0, 9, 12, 15), (0, 9, 15, 17)]) (by decide) rfl (wLO_fst.trans wLO_fst.symm) (Nat.le_of_ble_eq_true rfl) ?_
  intro p e s m args below meth c A ls hx hb hml hr hts hown hlocks hex hK hP hD0 hS hA hTS hTZ hl
  have hown : s.vm.findClass RL = some m.cls := hown
  have hl : lv_has ls 4 [(0, .ref (x0)), (1, .int x1), (2, .ref (o0))] := hl
  have hex : c.exceptionTable.toList = [⟨0, 9, 12, 15⟩, ⟨0, 9, 15, 17⟩] := hex.trans rfl
  unfold f_L_append at hf
  refine lv_aload_n hx hb dL_append_0 rfl (lv_at hl 2 rfl) ?_
  refine lv_iconst (v := 0) hx hb dL_append_1 (by decide) ?_
  refine lv_aload_n hx hb dL_append_2 rfl (lv_at hl 0 rfl) ?_
  refine lv_iload_n hx hb dL_append_3 rfl (lv_at hl 1 rfl) ?_
  rcases bx_of hf with ⟨⟨E_1, rB_1, fB_1⟩, hc, hf⟩ | ⟨⟨r_1, rB_1, fB_1⟩, hc, hf⟩
  · try dsimp only at hf
    by_cases cE : E_1 = "java/lang/IllegalArgumentException"
    · replace hf := fp_t cE hf
      subst cE
      cases hf
      refine tx_VJ (As := [.int x1]) (rest := [.int (0 : Int32), .ref (o0)]) (nL := 4) (ws' := ((wLR X x0 hh ht ch tx y hy rP fP rT fT rG fG rL fL rH fH gi di re ti rPT fPT rTT fTT rGT fGT rLT fLT rHT fHT giT diT reT tiT rS fS rB' fB' rO fO pl fa cn ro Qh) ++ (wOut X o0 fo))) ⟨hx, hb, hml, hown, hts⟩ (c_X5_append_x l hfl X x0 hh ht ch tx y hy rP fP rT fT rG fG rL fL rH fH gi di re ti rPT fPT rTT fTT rGT fGT rLT fLT rHT fHT giT diT reT tiT rS fS rB fB rO fO pl fa cn ro Qh x1 ("java/lang/IllegalArgumentException") rB' fB' hc) (cwV 1 hts gL_append_X5_append rfl rfl rfl (by decide +kernel) ⟨Nat.le_of_ble_eq_true rfl, Nat.le_of_ble_eq_true rfl⟩) 5 rfl rfl rfl rfl hl.1 rfl (Nat.le_of_ble_eq_true rfl) dL_append_4 hTS hTZ hK hP hD0 hS hA [0, 1, 2, 3, 4, 5, 6, 7, 8, 9, 10, 11, 12, 13, 14, 15, 16, 17, 18, 19, 20, 21, 22, 23, 24, 25, 26, 27, 28, 29, 30, 31, 32, 33, 34, 35, 36, 37, 38, 39, 40, 41, 42, 43, 44, 45, 46, 47, 48, 49, 50, 51, 52, 53, 54, 55, 56, 57, 58, 59, 60, 61, 62, 63, 64, 65, 66, 67, 68, 69, 70, 71, 72, 73, 74, 75, 76] (by decide +kernel) oC_a oJ_a ⟨Nat.le_of_ble_eq_true rfl, Nat.le_of_ble_eq_true rfl⟩ (fun q9 ce H locs hP hS h1 h2 h3 => ?_)
      refine vx_catch (own := RL) (name := "java/lang/IllegalArgumentException") hown [] ⟨0, 9, 12, 15⟩ [⟨0, 9, 15, 17⟩] hex (fun z hz => nomatch hz) rfl (by decide) (hts (.classLink RL 15 "java/lang/IllegalArgumentException") (by decide +kernel)) (hTS.2.1.use _ (List.mem_of_getElem? (i := 5) rfl)) h1 h2 h3 ?_
      refine lv_astore_n (lv' := [(3, .ref q9), (0, .ref (x0)), (1, .int x1), (2, .ref (o0))]) hx hb dL_append_12 rfl hl (by decide) rfl (fun ls hl => ?_)
      refine lv_iconst (v := 1) hx hb dL_append_13 (by decide) ?_
      exact fw_iret hx hb hr hlocks hP hS (Nat.le_of_ble_eq_true rfl) (Nat.le_of_ble_eq_true rfl) dL_append_14
    · replace hf := fp_f cE hf
      by_cases cE : E_1 = "java/lang/IllegalStateException"
      · replace hf := fp_t cE hf
        subst cE
        cases hf
        refine tx_VJ (As := [.int x1]) (rest := [.int (0 : Int32), .ref (o0)]) (nL := 4) (ws' := ((wLR X x0 hh ht ch tx y hy rP fP rT fT rG fG rL fL rH fH gi di re ti rPT fPT rTT fTT rGT fGT rLT fLT rHT fHT giT diT reT tiT rS fS rB' fB' rO fO pl fa cn ro Qh) ++ (wOut X o0 fo))) ⟨hx, hb, hml, hown, hts⟩ (c_X5_append_x l hfl X x0 hh ht ch tx y hy rP fP rT fT rG fG rL fL rH fH gi di re ti rPT fPT rTT fTT rGT fGT rLT fLT rHT fHT giT diT reT tiT rS fS rB fB rO fO pl fa cn ro Qh x1 ("java/lang/IllegalStateException") rB' fB' hc) (cwV 1 hts gL_append_X5_append rfl rfl rfl (by decide +kernel) ⟨Nat.le_of_ble_eq_true rfl, Nat.le_of_ble_eq_true rfl⟩) 5 rfl rfl rfl rfl hl.1 rfl (Nat.le_of_ble_eq_true rfl) dL_append_4 hTS hTZ hK hP hD0 hS hA [0, 1, 2, 3, 4, 5, 6, 7, 8, 9, 10, 11, 12, 13, 14, 15, 16, 17, 18, 19, 20, 21, 22, 23, 24, 25, 26, 27, 28, 29, 30, 31, 32, 33, 34, 35, 36, 37, 38, 39, 40, 41, 42, 43, 44, 45, 46, 47, 48, 49, 50, 51, 52, 53, 54, 55, 56, 57, 58, 59, 60, 61, 62, 63, 64, 65, 66, 67, 68, 69, 70, 71, 72, 73, 74, 75, 76] (by decide +kernel) oC_a oJ_a ⟨Nat.le_of_ble_eq_true rfl, Nat.le_of_ble_eq_true rfl⟩ (fun q9 ce H locs hP hS h1 h2 h3 => ?_)
        have hpass : ∀ z ∈ ([⟨0, 9, 12, 15⟩] : List ExceptionTableEntry), covers z 4 = false ∨ (z.catchType ≠ 0 ∧ ∃ nm : String, (Cond.classLink RL z.catchType nm).before args s = true ∧ va_Nc "java/lang/IllegalStateException" nm s) := by
          intro z hz
          simp only [List.mem_cons, List.not_mem_nil, or_false] at hz
          rcases hz with rfl
          · exact Or.inr ⟨by decide, "java/lang/IllegalArgumentException", hts (.classLink RL 15 "java/lang/IllegalArgumentException") (by decide +kernel), hTS.2.2.2.2.1⟩
        refine vx_catch (own := RL) (name := "java/lang/IllegalStateException") hown [⟨0, 9, 12, 15⟩] ⟨0, 9, 15, 17⟩ [] hex hpass rfl (by decide) (hts (.classLink RL 17 "java/lang/IllegalStateException") (by decide +kernel)) (hTS.2.1.use _ (List.mem_of_getElem? (i := 3) rfl)) h1 h2 h3 ?_
        refine lv_astore_n (lv' := [(3, .ref q9), (0, .ref (x0)), (1, .int x1), (2, .ref (o0))]) hx hb dL_append_15 rfl hl (by decide) rfl (fun ls hl => ?_)
        refine lv_iconst (v := 2) hx hb dL_append_16 (by decide) ?_
        exact fw_iret hx hb hr hlocks hP hS (Nat.le_of_ble_eq_true rfl) (Nat.le_of_ble_eq_true rfl) dL_append_17
      · replace hf := fp_f cE hf
        cases hf
  · try dsimp only at hf
    obtain ⟨hi_1, hf⟩ := ix_of hf
    refine fn_VJ (v := some (.int r_1)) (As := [.int x1]) (rest := [.int (0 : Int32), .ref (o0)]) (st1 := [.int r_1, .int (0 : Int32), .ref (o0)]) (ws' := ((wLR X x0 hh ht ch tx y hy rP fP rT fT rG fG rL fL rH fH gi di re ti rPT fPT rTT fTT rGT fGT rLT fLT rHT fHT giT diT reT tiT rS fS rB_1 fB_1 rO fO pl fa cn ro Qh) ++ (wOut X o0 fo))) (nL := 4) ⟨hx, hb, hml, hown, hts⟩ (c_X5_append l X x0 hh ht ch tx y hy rP fP rT fT rG fG rL fL rH fH gi di re ti rPT fPT rTT fTT rGT fGT rLT fLT rHT fHT giT diT reT tiT rS fS rB fB rO fO pl fa cn ro Qh x1 r_1 rB_1 fB_1 hc) (cwV 1 hts gL_append_X5_append rfl rfl rfl (by decide +kernel) ⟨Nat.le_of_ble_eq_true rfl, Nat.le_of_ble_eq_true rfl⟩) 5 rfl rfl rfl rfl hl.1 rfl (Nat.le_of_ble_eq_true rfl) dL_append_4 hK hP hD0 hS hA [0, 1, 2, 3, 4, 5, 6, 7, 8, 9, 10, 11, 12, 13, 14, 15, 16, 17, 18, 19, 20, 21, 22, 23, 24, 25, 26, 27, 28, 29, 30, 31, 32, 33, 34, 35, 36, 37, 38, 39, 40, 41, 42, 43, 44, 45, 46, 47, 48, 49, 50, 51, 52, 53, 54, 55, 56, 57, 58, 59, 60, 61, 62, 63, 64, 65, 66, 67, 68, 69, 70, 71, 72, 73, 74, 75, 76] (by decide +kernel) oC_a oJ_a (wLO_fst.trans wLO_fst.symm) rfl ⟨Nat.zero_le _, Nat.zero_le _⟩ (fun H locs hP hD hS => ?_)
    refine lv_i2l (v := r_1.toInt64) hx hb dL_append_7 rfl ?_
    refine va_last hx hb hK.1 hP hD hS 77 1 (get_last 77 rfl) rfl hi_1 dL_append_8 (fun H locs hP hD hS => ?_)
    rw [set_last 77 rfl] at hP
    obtain ⟨fo_1, efo_1⟩ : ∃ g : Nat → Int64, g = vp_updL fo (0 : Int32).toNatClampNeg r_1.toInt64 := ⟨_, rfl⟩
    replace hf := nm_of efo_1 hf
    rw [← efo_1] at hP
    have hP : va_P X.1 vwCl ((wLR X x0 hh ht ch tx y hy rP fP rT fT rG fG rL fL rH fH gi di re ti rPT fPT rTT fTT rGT fGT rLT fLT rHT fHT giT diT reT tiT rS fS rB_1 fB_1 rO fO pl fa cn ro Qh) ++ (wOut X o0 fo_1)) H := hP
    refine lv_goto (tgt := 18) hx hb dL_append_9 (by decide) ?_
    refine lv_iconst (v := 0) hx hb dL_append_18 (by decide) ?_
    cases hf
    exact fw_iret hx hb hr hlocks hP hS (Nat.le_of_ble_eq_true rfl) (Nat.le_of_ble_eq_true rfl) dL_append_19

def f_L_undo (rP : Int32) (fP : (Nat → Int32)) (rT : Int32) (fT : (Nat → Int32)) (rG : Int32) (fG : (Nat → Int32)) (rL : Int32) (fL : (Nat → Int32)) (rH : Int32) (fH : (Nat → Int32)) (gi : Int32) (di : Int32) (re : Int32) (ti : Int32) (cn : Int32) (ro : Nat) (Qh : (Nat → HS)) (fo : (Nat → Int64)) : Option (Int32 × Int32 × (Nat → Int32) × Int32 × (Nat → Int32) × Int32 × (Nat → Int32) × Int32 × (Nat → Int32) × Int32 × (Nat → Int32) × Int32 × Int32 × Int32 × Int32 × Int32 × (Nat → Int64)) :=
  bx (f_X5_undo rP fP rT fT rG fG rL fL rH fH gi di re ti cn ro Qh) (fun e_ => if e_.1 = "java/lang/IllegalStateException" then some ((1 : Int32), e_.2.1, e_.2.2.1, e_.2.2.2.1, e_.2.2.2.2.1, e_.2.2.2.2.2.1, e_.2.2.2.2.2.2.1, e_.2.2.2.2.2.2.2.1, e_.2.2.2.2.2.2.2.2.1, e_.2.2.2.2.2.2.2.2.2.1, e_.2.2.2.2.2.2.2.2.2.2.1, e_.2.2.2.2.2.2.2.2.2.2.2.1, e_.2.2.2.2.2.2.2.2.2.2.2.2.1, e_.2.2.2.2.2.2.2.2.2.2.2.2.2.1, e_.2.2.2.2.2.2.2.2.2.2.2.2.2.2.1, e_.2.2.2.2.2.2.2.2.2.2.2.2.2.2.2, fo) else none) (fun o_ => ix (0 : Int32) 1 (nm (vp_updL fo (0 : Int32).toNatClampNeg o_.1.toInt64) (fun fo_1 => some ((0 : Int32), o_.2.1, o_.2.2.1, o_.2.2.2.1, o_.2.2.2.2.1, o_.2.2.2.2.2.1, o_.2.2.2.2.2.2.1, o_.2.2.2.2.2.2.2.1, o_.2.2.2.2.2.2.2.2.1, o_.2.2.2.2.2.2.2.2.2.1, o_.2.2.2.2.2.2.2.2.2.2.1, o_.2.2.2.2.2.2.2.2.2.2.2.1, o_.2.2.2.2.2.2.2.2.2.2.2.2.1, o_.2.2.2.2.2.2.2.2.2.2.2.2.2.1, o_.2.2.2.2.2.2.2.2.2.2.2.2.2.2.1, o_.2.2.2.2.2.2.2.2.2.2.2.2.2.2.2, fo_1))))
set_option maxHeartbeats 4000000 in
set_option maxRecDepth 100000 in
theorem c_L_undo (l : Launch) (hfl : l.stackTraces = false) (X : cx_G) (x0 : Nat) (hh : (Nat → Nat)) (ht : (Nat → Nat)) (ch : (Nat → Nat)) (tx : (Nat → Nat)) (y : (Nat → Nat)) (hy : (Nat → Nat → Nat)) (o0 : Nat) (rP : Int32) (fP : (Nat → Int32)) (rT : Int32) (fT : (Nat → Int32)) (rG : Int32) (fG : (Nat → Int32)) (rL : Int32) (fL : (Nat → Int32)) (rH : Int32) (fH : (Nat → Int32)) (gi : Int32) (di : Int32) (re : Int32) (ti : Int32) (rPT : Int32) (fPT : (Nat → Int32)) (rTT : Int32) (fTT : (Nat → Int32)) (rGT : Int32) (fGT : (Nat → Int32)) (rLT : Int32) (fLT : (Nat → Int32)) (rHT : Int32) (fHT : (Nat → Int32)) (giT : Int32) (diT : Int32) (reT : Int32) (tiT : Int32) (rS : Int32) (fS : (Nat → Int32)) (rB : Int32) (fB : (Nat → Int32)) (rO : Int32) (fO : (Nat → Int32)) (pl : Int32) (fa : Int32) (cn : Int32) (ro : Nat) (Qh : (Nat → HS)) (fo : (Nat → Int64)) (r : Int32) (rP' : Int32) (fP' : (Nat → Int32)) (rT' : Int32) (fT' : (Nat → Int32)) (rG' : Int32) (fG' : (Nat → Int32)) (rL' : Int32) (fL' : (Nat → Int32)) (rH' : Int32) (fH' : (Nat → Int32)) (gi' : Int32) (di' : Int32) (re' : Int32) (ti' : Int32) (cn' : Int32) (fo' : (Nat → Int64)) (hf : f_L_undo rP fP rT fT rG fG rL fL rH fH gi di re ti cn ro Qh fo = some (r, rP', fP', rT', fT', rG', fG', rL', fL', rH', fH', gi', di', re', ti', cn', fo')) : Fw l yL_undo wsL_undo ({ frames := 7, cells := 1, slots := 6, locals := 110 } : Room) X [.ref (x0), .ref (o0)] ((wLR X x0 hh ht ch tx y hy rP fP rT fT rG fG rL fL rH fH gi di re ti rPT fPT rTT fTT rGT fGT rLT fLT rHT fHT giT diT reT tiT rS fS rB fB rO fO pl fa cn ro Qh) ++ (wOut X o0 fo)) (some (.int r)) ((wLR X x0 hh ht ch tx y hy rP' fP' rT' fT' rG' fG' rL' fL' rH' fH' gi' di' re' ti' rPT fPT rTT fTT rGT fGT rLT fLT rHT fHT giT diT reT tiT rS fS rB fB rO fO pl fa cn' ro Qh) ++ (wOut X o0 fo')) := by
  refine fw_intro (cc := cL_undo) (maxL := 3) (ret := (some .int)) (hh := [(0, 8, 11, 17)]) (by decide) rfl (wLO_fst.trans wLO_fst.symm) (Nat.le_of_ble_eq_true rfl) ?_
  intro p e s m args below meth c A ls hx hb hml hr hts hown hlocks hex hK hP hD0 hS hA hTS hTZ hl
  have hown : s.vm.findClass RL = some m.cls := hown
  have hl : lv_has ls 3 [(0, .ref (x0)), (1, .ref (o0))] := hl
  have hex : c.exceptionTable.toList = [⟨0, 8, 11, 17⟩] := hex.trans rfl
  unfold f_L_undo at hf
  refine lv_aload_n hx hb dL_undo_0 rfl (lv_at hl 1 rfl) ?_
  refine lv_iconst (v := 0) hx hb dL_undo_1 (by decide) ?_
  refine lv_aload_n hx hb dL_undo_2 rfl (lv_at hl 0 rfl) ?_
  rcases bx_of hf with ⟨⟨E_1, rP_1, fP_1, rT_1, fT_1, rG_1, fG_1, rL_1, fL_1, rH_1, fH_1, gi_1, di_1, re_1, ti_1, cn_1⟩, hc, hf⟩ | ⟨⟨r_1, rP_1, fP_1, rT_1, fT_1, rG_1, fG_1, rL_1, fL_1, rH_1, fH_1, gi_1, di_1, re_1, ti_1, cn_1⟩, hc, hf⟩
  · try dsimp only at hf
    by_cases cE : E_1 = "java/lang/IllegalStateException"
    · replace hf := fp_t cE hf
      subst cE
      cases hf
      refine tx_VJ (As := []) (rest := [.int (0 : Int32), .ref (o0)]) (nL := 3) (ws' := ((wLR X x0 hh ht ch tx y hy rP' fP' rT' fT' rG' fG' rL' fL' rH' fH' gi' di' re' ti' rPT fPT rTT fTT rGT fGT rLT fLT rHT fHT giT diT reT tiT rS fS rB fB rO fO pl fa cn' ro Qh) ++ (wOut X o0 fo))) ⟨hx, hb, hml, hown, hts⟩ (c_X5_undo_x l hfl X x0 hh ht ch tx y hy rP fP rT fT rG fG rL fL rH fH gi di re ti rPT fPT rTT fTT rGT fGT rLT fLT rHT fHT giT diT reT tiT rS fS rB fB rO fO pl fa cn ro Qh ("java/lang/IllegalStateException") rP' fP' rT' fT' rG' fG' rL' fL' rH' fH' gi' di' re' ti' cn' hc) (cwV 0 hts gL_undo_X5_undo rfl rfl rfl (by decide +kernel) ⟨Nat.le_of_ble_eq_true rfl, Nat.le_of_ble_eq_true rfl⟩) 5 rfl rfl rfl rfl hl.1 rfl (Nat.le_of_ble_eq_true rfl) dL_undo_3 hTS hTZ hK hP hD0 hS hA [0, 1, 2, 3, 4, 5, 6, 7, 8, 9, 10, 11, 12, 13, 14, 15, 16, 17, 18, 19, 20, 21, 22, 23, 24, 25, 26, 27, 28, 29, 30, 31, 32, 33, 34, 35, 36, 37, 38, 39, 40, 41, 42, 43, 44, 45, 46, 47, 48, 49, 50, 51, 52, 53, 54, 55, 56, 57, 58, 59, 60, 61, 62, 63, 64, 65, 66, 67, 68, 69, 70, 71, 72, 73, 74, 75, 76] (by decide +kernel) oC_a oJ_a ⟨Nat.le_of_ble_eq_true rfl, Nat.le_of_ble_eq_true rfl⟩ (fun q9 ce H locs hP hS h1 h2 h3 => ?_)
      refine vx_catch (own := RL) (name := "java/lang/IllegalStateException") hown [] ⟨0, 8, 11, 17⟩ [] hex (fun z hz => nomatch hz) rfl (by decide) (hts (.classLink RL 17 "java/lang/IllegalStateException") (by decide +kernel)) (hTS.2.1.use _ (List.mem_of_getElem? (i := 3) rfl)) h1 h2 h3 ?_
      refine lv_astore_n (lv' := [(2, .ref q9), (0, .ref (x0)), (1, .ref (o0))]) hx hb dL_undo_11 rfl hl (by decide) rfl (fun ls hl => ?_)
      refine lv_iconst (v := 1) hx hb dL_undo_12 (by decide) ?_
      exact fw_iret hx hb hr hlocks hP hS (Nat.le_of_ble_eq_true rfl) (Nat.le_of_ble_eq_true rfl) dL_undo_13
    · replace hf := fp_f cE hf
      cases hf
  · try dsimp only at hf
    obtain ⟨hi_1, hf⟩ := ix_of hf
    refine fn_VJ (v := some (.int r_1)) (As := []) (rest := [.int (0 : Int32), .ref (o0)]) (st1 := [.int r_1, .int (0 : Int32), .ref (o0)]) (ws' := ((wLR X x0 hh ht ch tx y hy rP_1 fP_1 rT_1 fT_1 rG_1 fG_1 rL_1 fL_1 rH_1 fH_1 gi_1 di_1 re_1 ti_1 rPT fPT rTT fTT rGT fGT rLT fLT rHT fHT giT diT reT tiT rS fS rB fB rO fO pl fa cn_1 ro Qh) ++ (wOut X o0 fo))) (nL := 3) ⟨hx, hb, hml, hown, hts⟩ (c_X5_undo l X x0 hh ht ch tx y hy rP fP rT fT rG fG rL fL rH fH gi di re ti rPT fPT rTT fTT rGT fGT rLT fLT rHT fHT giT diT reT tiT rS fS rB fB rO fO pl fa cn ro Qh r_1 rP_1 fP_1 rT_1 fT_1 rG_1 fG_1 rL_1 fL_1 rH_1 fH_1 gi_1 di_1 re_1 ti_1 cn_1 hc) (cwV 0 hts gL_undo_X5_undo rfl rfl rfl (by decide +kernel) ⟨Nat.le_of_ble_eq_true rfl, Nat.le_of_ble_eq_true rfl⟩) 5 rfl rfl rfl rfl hl.1 rfl (Nat.le_of_ble_eq_true rfl) dL_undo_3 hK hP hD0 hS hA [0, 1, 2, 3, 4, 5, 6, 7, 8, 9, 10, 11, 12, 13, 14, 15, 16, 17, 18, 19, 20, 21, 22, 23, 24, 25, 26, 27, 28, 29, 30, 31, 32, 33, 34, 35, 36, 37, 38, 39, 40, 41, 42, 43, 44, 45, 46, 47, 48, 49, 50, 51, 52, 53, 54, 55, 56, 57, 58, 59, 60, 61, 62, 63, 64, 65, 66, 67, 68, 69, 70, 71, 72, 73, 74, 75, 76] (by decide +kernel) oC_a oJ_a (wLO_fst.trans wLO_fst.symm) rfl ⟨Nat.zero_le _, Nat.zero_le _⟩ (fun H locs hP hD hS => ?_)
    refine lv_i2l (v := r_1.toInt64) hx hb dL_undo_6 rfl ?_
    refine va_last hx hb hK.1 hP hD hS 77 1 (get_last 77 rfl) rfl hi_1 dL_undo_7 (fun H locs hP hD hS => ?_)
    rw [set_last 77 rfl] at hP
    obtain ⟨fo_1, efo_1⟩ : ∃ g : Nat → Int64, g = vp_updL fo (0 : Int32).toNatClampNeg r_1.toInt64 := ⟨_, rfl⟩
    replace hf := nm_of efo_1 hf
    rw [← efo_1] at hP
    have hP : va_P X.1 vwCl ((wLR X x0 hh ht ch tx y hy rP_1 fP_1 rT_1 fT_1 rG_1 fG_1 rL_1 fL_1 rH_1 fH_1 gi_1 di_1 re_1 ti_1 rPT fPT rTT fTT rGT fGT rLT fLT rHT fHT giT diT reT tiT rS fS rB fB rO fO pl fa cn_1 ro Qh) ++ (wOut X o0 fo_1)) H := hP
    refine lv_goto (tgt := 14) hx hb dL_undo_8 (by decide) ?_
    refine lv_iconst (v := 0) hx hb dL_undo_14 (by decide) ?_
    cases hf
    exact fw_iret hx hb hr hlocks hP hS (Nat.le_of_ble_eq_true rfl) (Nat.le_of_ble_eq_true rfl) dL_undo_15
