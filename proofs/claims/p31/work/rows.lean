section
-- ===== PART A: goes FIRST, ahead of the names: the tables' words, and 'selects' of the private methods out of them =====
/-- a private method of a class that the tables say can be made, by its rows of tables_1 -/
def lw_okq (q : MethodName × Nat) : Prop := (q.1.cls ≠ "java/lang/invoke/MethodHandle" ∧ q.1.cls ≠ "java/lang/invoke/VarHandle") ∧ Cond.instantiable q.1.cls q.2 ∈ tables_1 ∧ Cond.privateMethod q.1 ∈ tables_1 ∧ Cond.instanceMethod q.1 ∈ tables_1
theorem lw_p0 : lw_okq (⟨"java/lang/Throwable", "fillInStackTrace", "(I)Ljava/lang/Throwable;"⟩, 6) := ⟨⟨by decide +kernel, by decide +kernel⟩, List.mem_of_getElem? (i := 208) (by decide +kernel), List.mem_of_getElem? (i := 206) (by decide +kernel), List.mem_of_getElem? (i := 207) (by decide +kernel)⟩
theorem lw_p1 : lw_okq (⟨"LentRights$History", "makeRoom", "()V"⟩, 2) := ⟨⟨by decide +kernel, by decide +kernel⟩, List.mem_of_getElem? (i := 91) (by decide +kernel), List.mem_of_getElem? (i := 284) (by decide +kernel), List.mem_of_getElem? (i := 285) (by decide +kernel)⟩
theorem lw_p2 : lw_okq (⟨"LentRights$House", "settle", "()V"⟩, 9) := ⟨⟨by decide +kernel, by decide +kernel⟩, List.mem_of_getElem? (i := 25) (by decide +kernel), List.mem_of_getElem? (i := 300) (by decide +kernel), List.mem_of_getElem? (i := 301) (by decide +kernel)⟩
theorem lw_p3 : lw_okq (⟨"LentRights$House", "buryDying", "()I"⟩, 9) := ⟨⟨by decide +kernel, by decide +kernel⟩, List.mem_of_getElem? (i := 25) (by decide +kernel), List.mem_of_getElem? (i := 341) (by decide +kernel), List.mem_of_getElem? (i := 342) (by decide +kernel)⟩
theorem lw_p4 : lw_okq (⟨"LentRights$House", "isDying", "(I)Z"⟩, 9) := ⟨⟨by decide +kernel, by decide +kernel⟩, List.mem_of_getElem? (i := 25) (by decide +kernel), List.mem_of_getElem? (i := 345) (by decide +kernel), List.mem_of_getElem? (i := 346) (by decide +kernel)⟩
theorem lw_p5 : lw_okq (⟨"LentRights$House", "enter", "(I)V"⟩, 9) := ⟨⟨by decide +kernel, by decide +kernel⟩, List.mem_of_getElem? (i := 25) (by decide +kernel), List.mem_of_getElem? (i := 349) (by decide +kernel), List.mem_of_getElem? (i := 350) (by decide +kernel)⟩
theorem lw_p6 : lw_okq (⟨"LentRights", "requireThing", "(I)V"⟩, 5) := ⟨⟨by decide +kernel, by decide +kernel⟩, List.mem_of_getElem? (i := 17) (by decide +kernel), List.mem_of_getElem? (i := 368) (by decide +kernel), List.mem_of_getElem? (i := 369) (by decide +kernel)⟩
theorem lw_p7 : lw_okq (⟨"LentRights$House", "calm", "(I)V"⟩, 9) := ⟨⟨by decide +kernel, by decide +kernel⟩, List.mem_of_getElem? (i := 25) (by decide +kernel), List.mem_of_getElem? (i := 399) (by decide +kernel), List.mem_of_getElem? (i := 400) (by decide +kernel)⟩
theorem lw_p8 : lw_okq (⟨"LentRights$House", "holdersOf", "(II)I"⟩, 9) := ⟨⟨by decide +kernel, by decide +kernel⟩, List.mem_of_getElem? (i := 25) (by decide +kernel), List.mem_of_getElem? (i := 414) (by decide +kernel), List.mem_of_getElem? (i := 415) (by decide +kernel)⟩
theorem lw_p9 : lw_okq (⟨"LentRights$House", "countIdleGrants", "()I"⟩, 9) := ⟨⟨by decide +kernel, by decide +kernel⟩, List.mem_of_getElem? (i := 25) (by decide +kernel), List.mem_of_getElem? (i := 462) (by decide +kernel), List.mem_of_getElem? (i := 463) (by decide +kernel)⟩
theorem lw_p10 : lw_okq (⟨"LentRights", "requireGrant", "(I)I"⟩, 5) := ⟨⟨by decide +kernel, by decide +kernel⟩, List.mem_of_getElem? (i := 17) (by decide +kernel), List.mem_of_getElem? (i := 475) (by decide +kernel), List.mem_of_getElem? (i := 476) (by decide +kernel)⟩
theorem lw_p11 : lw_okq (⟨"LentRights$Chains", "isLink", "(LLentRights$House;III)Z"⟩, 1) := ⟨⟨by decide +kernel, by decide +kernel⟩, List.mem_of_getElem? (i := 107) (by decide +kernel), List.mem_of_getElem? (i := 522) (by decide +kernel), List.mem_of_getElem? (i := 523) (by decide +kernel)⟩
theorem lw_p12 : lw_okq (⟨"LentRights$House", "thingsSeenBy", "(I)I"⟩, 9) := ⟨⟨by decide +kernel, by decide +kernel⟩, List.mem_of_getElem? (i := 25) (by decide +kernel), List.mem_of_getElem? (i := 540) (by decide +kernel), List.mem_of_getElem? (i := 541) (by decide +kernel)⟩
theorem lw_p13 : lw_okq (⟨"LentRights", "pairsLostBy", "(I)I"⟩, 5) := ⟨⟨by decide +kernel, by decide +kernel⟩, List.mem_of_getElem? (i := 17) (by decide +kernel), List.mem_of_getElem? (i := 556) (by decide +kernel), List.mem_of_getElem? (i := 557) (by decide +kernel)⟩
theorem lw_p14 : lw_okq (⟨"LentRights$Chains", "lastLink", "(LLentRights$House;III)I"⟩, 1) := ⟨⟨by decide +kernel, by decide +kernel⟩, List.mem_of_getElem? (i := 107) (by decide +kernel), List.mem_of_getElem? (i := 578) (by decide +kernel), List.mem_of_getElem? (i := 579) (by decide +kernel)⟩
theorem lw_p15 : lw_okq (⟨"LentRights$House", "isGrantOf", "(IIII)Z"⟩, 9) := ⟨⟨by decide +kernel, by decide +kernel⟩, List.mem_of_getElem? (i := 25) (by decide +kernel), List.mem_of_getElem? (i := 591) (by decide +kernel), List.mem_of_getElem? (i := 592) (by decide +kernel)⟩
def lw_privs_1 : List (MethodName × Nat) := [(⟨"java/lang/Throwable", "fillInStackTrace", "(I)Ljava/lang/Throwable;"⟩, 6), (⟨"LentRights$History", "makeRoom", "()V"⟩, 2), (⟨"LentRights$House", "settle", "()V"⟩, 9), (⟨"LentRights$House", "buryDying", "()I"⟩, 9), (⟨"LentRights$House", "isDying", "(I)Z"⟩, 9), (⟨"LentRights$House", "enter", "(I)V"⟩, 9), (⟨"LentRights", "requireThing", "(I)V"⟩, 5), (⟨"LentRights$House", "calm", "(I)V"⟩, 9), (⟨"LentRights$House", "holdersOf", "(II)I"⟩, 9), (⟨"LentRights$House", "countIdleGrants", "()I"⟩, 9), (⟨"LentRights", "requireGrant", "(I)I"⟩, 5), (⟨"LentRights$Chains", "isLink", "(LLentRights$House;III)Z"⟩, 1), (⟨"LentRights$House", "thingsSeenBy", "(I)I"⟩, 9), (⟨"LentRights", "pairsLostBy", "(I)I"⟩, 5), (⟨"LentRights$Chains", "lastLink", "(LLentRights$House;III)I"⟩, 1), (⟨"LentRights$House", "isGrantOf", "(IIII)Z"⟩, 9)]
theorem lw_r1 : ∀ q ∈ lw_privs_1, lw_okq q := List.forall_mem_cons.mpr ⟨lw_p0, List.forall_mem_cons.mpr ⟨lw_p1, List.forall_mem_cons.mpr ⟨lw_p2, List.forall_mem_cons.mpr ⟨lw_p3, List.forall_mem_cons.mpr ⟨lw_p4, List.forall_mem_cons.mpr ⟨lw_p5, List.forall_mem_cons.mpr ⟨lw_p6, List.forall_mem_cons.mpr ⟨lw_p7, List.forall_mem_cons.mpr ⟨lw_p8, List.forall_mem_cons.mpr ⟨lw_p9, List.forall_mem_cons.mpr ⟨lw_p10, List.forall_mem_cons.mpr ⟨lw_p11, List.forall_mem_cons.mpr ⟨lw_p12, List.forall_mem_cons.mpr ⟨lw_p13, List.forall_mem_cons.mpr ⟨lw_p14, List.forall_mem_cons.mpr ⟨lw_p15, fun _ h => absurd h List.not_mem_nil⟩⟩⟩⟩⟩⟩⟩⟩⟩⟩⟩⟩⟩⟩⟩⟩
def lw_privs : List (MethodName × Nat) := lw_privs_1
def lw_tbl : List Cond := k2_sels lw_privs ++ tables_1
theorem lw_privs_ok : ∀ q ∈ lw_privs, lw_okq q := lw_r1
/-- the streams that the claim lets the run draw from -/
abbrev lw_cs : List Choice := [Jvm.Choice.named "NaN.bits"]
theorem lw_bits : nanBits ∈ lw_cs := by first | decide | exact List.mem_cons_self | simp [lw_cs, nanBits]
-- ===== end of PART A; then your names; then what follows =====
end
section
/-! ===== BEGIN words of one list among another's, by their places ===== -/
theorem goodIn_r {big : List Cond} (ws : List Cond) (ps : List Nat) (hp : ws = ps.filterMap (fun i => big[i]?)) (h : ws.all goodWord = true) : GoodIn big ws := by
  intro w hw
  have h1 := List.all_eq_true.mp h w hw
  rw [hp] at hw
  obtain ⟨i, -, hi⟩ := List.mem_filterMap.mp hw
  have hm : w ∈ big := by first | exact List.mem_of_getElem? hi | exact List.getElem?_mem hi
  exact ⟨hm, good_of_word h1⟩
theorem goodIn_app {big a b : List Cond} (ha : GoodIn big a) (hb : GoodIn big b) : GoodIn big (a ++ b) := fun w h => (List.mem_append.mp h).elim (ha w) (hb w)
theorem goodIn_ca {big a b : List Cond} {c : Cond} (ha : GoodIn big (c :: a)) (hb : GoodIn big b) : GoodIn big (c :: (a ++ b)) := fun w h => (List.mem_cons.mp h).elim (fun e => ha w (List.mem_cons.mpr (Or.inl e))) (fun h => (List.mem_append.mp h).elim (fun h => ha w (List.mem_cons.mpr (Or.inr h))) (hb w))
theorem goodIn_sub {big ws : List Cond} (hm : ∀ w ∈ ws, w ∈ big) (h : ws.all goodWord = true) : GoodIn big ws := fun w hw => ⟨hm w hw, good_of_word (List.all_eq_true.mp h w hw)⟩
/-! ===== END ===== -/

/-! ===== BEGIN exceptions that leave a method, and their catching by the caller (launches without stack traces) ===== -/
section VXA
/-! The laws vx_back, vx_callV, vx_callS, vx_callSW, vx_throw0, vx_throwS follow proofs of the library, with one case more: JvmDerived/Free/Laws.lean (Back.of_free), Shelf42/LK1.lean (callV, callS), Shelf/KitTraced.lean (throwNew0V, throwNewS). -/
/-- where a method has thrown q: the class by its name, the cell, what was written, the world -/
def vx_T (XC : String → State → State → Prop) (st : State) (q : Addr) (t : State) (mc ms : Nat) (free : Addr → Prop) : Prop :=
  ∃ (E : String) (ce : Cell) (L : List Loc), XC E st t ∧ t.heap[q]? = some ce ∧ ce.vm = .none ∧ st.vm.findClass E = some ce.cls ∧ st.WarmedH t.vm ∧ st.sameButNew ({ t with vm := st.vm } : State) L mc ms ∧ ∀ z ∈ L, free z.base
def vx_Q (Qc : Array Value → State → Outcome → State → Prop) (XC : String → State → State → Prop) (mc ms : Nat) (free : Addr → Prop) : Array Value → State → Outcome → State → Prop := fun a st o t =>
  (Qc a st o t ∧ ∃ L, FrameEnd st o t L mc ms ∧ ∀ q ∈ L, free q.base) ∨ ∃ q, o = .threw q ∧ vx_T XC st q t mc ms free
/-- a callee that returns or throws -/
def vx_Met (l : Launch) (y : MethodName) (ws : List Cond) (rm : Room) (Pc : Array Value → State → Prop) (Qc : Array Value → State → Outcome → State → Prop) (XC : String → State → State → Prop) (mc ms : Nat) (free : Addr → Prop) : Prop :=
  MetFree l y (headSpec ws rm) Pc (fun _ _ _ _ _ => True) (vx_Q Qc XC mc ms free)
def vx_Post (XC : String → State → State → Prop) (mc ms : Nat) (free : Addr → Prop) : Pt → Array Value → Addr → Pt → Prop := fun A a q B =>
  ∃ (g : JFrame) (mk : MethodId) (t : State) (L : List Loc) (E : String) (ce : Cell), B.U.heap = t.heap ∧ B.U.vm = t.vm ∧ XC E (A.U.calling g mk a) t ∧ t.heap[q]? = some ce ∧ ce.vm = .none ∧ A.U.vm.findClass E = some ce.cls ∧ B.locs = A.locs ++ L ∧ (∀ z ∈ L, free z.base) ∧ B.cells = A.cells + mc ∧ B.slots = A.slots + ms
def vx_Back (l : Launch) (R : Room) (p : Program) (e : Env) (below : List Frame) (s : State) (sargs : Array Value) (y : MethodName) (len W9 : Nat)
    (Pre : Pt → Array Value → Prop) (Post : Pt → Array Value → Option Value → Pt → Prop) (PostX : Pt → Array Value → Addr → Pt → Prop) : Prop :=
  ∀ (m : MethodId) (meth : Method) (c : Code) (A : Pt) (g : JFrame) (ig : Instr) (mk : MethodId) (a : Array Value),
    Stand p l e R s m sargs below meth c A.U A.locs A.cells A.slots → g.method = m → g.locals.size = c.maxLocals → decode c.code g.pc = .ok (ig, len) →
    2 * g.monitorRoom + (g.stack.map fun v => v.category).sum ≤ W9 → A.U.methodNamed? y = some mk → Pre A a →
    (∃ (v : Option Value) (B : Pt), Stand p l e R s m sargs below meth c B.U B.locs B.cells B.slots ∧ Post A a v B ∧
      Steps p.tables e below (doInvoke e (A.U.setTop g) [] mk a).1 (B.U.setTop { g with pc := g.pc + len, stack := v.toList ++ g.stack })) ∨
    (∃ (q : Addr) (B : Pt), Stand p l e R s m sargs below meth c B.U B.locs B.cells B.slots ∧ PostX A a q B ∧
      Steps p.tables e below (doInvoke e (A.U.setTop g) [] mk a).1 ((B.U.setTop g).pushFrame (.throwing q)))
section Payer
variable {l : Launch} {R : Room} {p : Program} {e : Env} {below : List Frame} {s : State} {sargs : Array Value} {y : MethodName} {len W9 : Nat}
theorem vx_back {ws : List Cond} {rm : Room} {Pc : Array Value → State → Prop} {Qc : Array Value → State → Outcome → State → Prop} {XC : String → State → State → Prop} {mc ms : Nat} {free : Addr → Prop} {bytes : ByteArray} {maxL : Nat} {ret : Option FieldType}
    (hM : vx_Met l y ws rm Pc Qc XC mc ms free) (hblind : FrameBlind Pc) (hrc : rm.cells = mc) (hrs : rm.slots = ms)
    (hframes : rm.frames + 1 ≤ R.frames) (hlocals : W9 + (maxL + 11) + rm.locals ≤ R.locals)
    (hws : ∀ w ∈ ws, ∀ a' U, s.WarmedH U.vm → w.before a' U = true) (hcode : Cond.code y bytes maxL ret ∈ ws) (hinit : ∀ a' U, s.WarmedH U.vm → (Cond.initialized y.cls).before a' U = true) :
    vx_Back l R p e below s sargs y len W9 (PreOf R mc ms Pc) (PostOf Qc mc ms free) (vx_Post XC mc ms free) := by
  intro m meth c A g ig mk a X hg hsize hdg hW hn hp
  have h1 : (headSpec ws rm).pre.before a A.U = true := atoms_intro fun w hw => hws w hw _ _ X.warmed
  have h2 : (Cond.code y bytes maxL ret).before a A.U = true := hws _ hcode _ _ X.warmed
  have h3 : (Cond.initialized y.cls).before a A.U = true := hinit _ _ X.warmed
  have h4 : A.cells + (headSpec ws rm).room.cells ≤ R.cells := by rw [show (headSpec ws rm).room.cells = mc from hrc]; exact hp.1
  have h5 : A.slots + (headSpec ws rm).room.slots ≤ R.slots := by rw [show (headSpec ws rm).room.slots = ms from hrs]; exact hp.2.1
  have hPc : Pc a (A.U.calling g mk a) := hblind _ _ _ _ hp.2.2
  obtain ⟨U, Ls, c0, s0⟩ := A
  dsimp only [Pt.U, Pt.locs, Pt.cells, Pt.slots] at h1 h2 h3 h4 h5 X hn hPc ⊢
  obtain ⟨methY, cY, hmY, hcY, -, hlY, -, -, -, -⟩ := Cond.code_spec hn h2
  obtain ⟨kY, hkY, -⟩ := className_of_methodNamed hn
  have hinitY : kY.init = .initialized := Cond.initialized_spec (findClass_of_methodNamed hn) hkY h3
  have h : At U g.method c below := by rw [hg]; exact X.here
  have hlocals9 : W9 + (maxL + 11) + (headSpec ws rm).room.locals ≤ R.locals := hlocals
  have happ : (headSpec ws rm).appliesLoose y e.platform (U.calling g mk a) = true :=
    Spec.appliesLoose_calling (g := g) h hdg hn hkY hinitY
      (X.room_calling (g := g) (R' := (headSpec ws rm).room) hsize hmY hcY hframes (by rw [hlY]; omega) h4 h5) h1
  obtain ⟨mid, hmid⟩ := h.above
  have hfr : (U.setTop g).frames = (.java g :: mid) ++ below := by rw [State.frames_setTop' g h.top, hmid]; rfl
  obtain ⟨o, s₂, hsteps, -, hend, hq⟩ := Steps.callFree hM p X.admits X.cas X.clock (acts := []) hfr happ hPc trivial
  have hq' : vx_Q Qc XC mc ms free a (U.calling g mk a) o s₂ := hq
  rw [State.frames_setTop' g h.top] at hend
  obtain ⟨g₀, hg0⟩ := Option.isSome_iff_exists.mp h.top
  obtain ⟨r, hr⟩ := State.topJava?_eq_some.mp hg0
  have hr' : (({ U with heap := s₂.heap, slotsUsed := s₂.slotsUsed } : State).setVm s₂.vm).frames = .java g₀ :: r := hr
  rcases hq' with ⟨hqc, L, hfe, hL⟩ | ⟨q, rfl, E, ce, L, hx, hce, hcv, hcl, hW₂, hsm, hL⟩
  · obtain ⟨⟨v, rfl⟩, hW₂, e2, q2, q3, q4, q5, q6⟩ := id hfe
    have e3 : s₂ = ({ (U.calling g mk a).setFrames s₂.frames with heap := s₂.heap, slotsUsed := s₂.slotsUsed } : State).setVm s₂.vm := by
      have : s₂ = ({ s₂ with vm := (U.calling g mk a).vm } : State).setVm s₂.vm := rfl
      rw [e2] at this
      exact this
    obtain ⟨c₂, i₂, len₂, hc₂, hd₂, hf₂⟩ := hend
    have hW' : U.WarmedH s₂.vm := hW₂
    have hcc : c₂ = c := by
      have h1 : s₂.code? g.method = U.code? g.method := by
        rw [State.code?_eq, State.code?_eq, hW'.alike.method?]
      exact Option.some.inj (hc₂.symm.trans (h1.trans h.code))
    subst hcc
    have hlen : len₂ = len := by rw [hdg] at hd₂; cases hd₂; rfl
    subst hlen
    have hs₂ : s₂ = (({ U with heap := s₂.heap, slotsUsed := s₂.slotsUsed } : State).setVm s₂.vm).setTop { g with pc := g.pc + len₂, stack := v.toList ++ g.stack } := by
      refine e3.trans ?_
      rw [hf₂, State.calling_eq h.top, State.setFrames_setFrames, State.setTop_of_frames _ hr', hr]
      rfl
    have hsame : U.sameButNew ({ U with heap := s₂.heap, slotsUsed := s₂.slotsUsed } : State) L mc ms := by
      refine ⟨?_, q2, q3, q4, q5, q6⟩
      obtain ⟨t, ht, -⟩ := State.frames_cons hr
      show ({ U with heap := s₂.heap, slotsUsed := s₂.slotsUsed } : State) = { U.setFrames U.frames with heap := s₂.heap, slotsUsed := s₂.slotsUsed }
      rw [State.setFrames_self ht]
    subst hg
    refine Or.inl ⟨v, ⟨(({ U with heap := s₂.heap, slotsUsed := s₂.slotsUsed } : State).setVm s₂.vm), Ls ++ L, c0 + mc, s0 + ms⟩,
      ⟨X.admits, X.cas, X.clock, X.frames, X.room, X.hears, X.method, X.code, (X.here.setHeapUsed s₂.heap s₂.slotsUsed).setVm hW'.alike, X.tail, State.WarmedH.trans X.warmed hW', X.limits, X.bytes, X.same.trans (hsame.setVm s.vm)⟩,
      ⟨g, mk, s₂, L, rfl, rfl, hqc, rfl, hL, rfl, rfl⟩, ?_⟩
    show Steps p.tables e below _ ((({ U with heap := s₂.heap, slotsUsed := s₂.slotsUsed } : State).setVm s₂.vm).setTop { g with pc := g.pc + len₂, stack := v.toList ++ g.stack })
    rw [← hs₂]
    exact hsteps
  · obtain ⟨e2, q2, q3, q4, q5, q6⟩ := id hsm
    have e3 : s₂ = ({ (U.calling g mk a).setFrames s₂.frames with heap := s₂.heap, slotsUsed := s₂.slotsUsed } : State).setVm s₂.vm := by
      have : s₂ = ({ s₂ with vm := (U.calling g mk a).vm } : State).setVm s₂.vm := rfl
      rw [e2] at this
      exact this
    have hf₂ : s₂.frames = .throwing q :: .java g :: U.frames.tail := hend
    have hW' : U.WarmedH s₂.vm := hW₂
    have hs₂ : s₂ = ((({ U with heap := s₂.heap, slotsUsed := s₂.slotsUsed } : State).setVm s₂.vm).setTop g).pushFrame (.throwing q) := by
      refine e3.trans ?_
      rw [hf₂, State.calling_eq h.top, State.setFrames_setFrames, State.pushFrame, State.frames_setTop _ hr', State.setTop_of_frames _ hr', State.setFrames_setFrames, hr]
      rfl
    have hsame : U.sameButNew ({ U with heap := s₂.heap, slotsUsed := s₂.slotsUsed } : State) L mc ms := by
      refine ⟨?_, q2, q3, q4, q5, q6⟩
      obtain ⟨t, ht, -⟩ := State.frames_cons hr
      show ({ U with heap := s₂.heap, slotsUsed := s₂.slotsUsed } : State) = { U.setFrames U.frames with heap := s₂.heap, slotsUsed := s₂.slotsUsed }
      rw [State.setFrames_self ht]
    subst hg
    refine Or.inr ⟨q, ⟨(({ U with heap := s₂.heap, slotsUsed := s₂.slotsUsed } : State).setVm s₂.vm), Ls ++ L, c0 + mc, s0 + ms⟩,
      ⟨X.admits, X.cas, X.clock, X.frames, X.room, X.hears, X.method, X.code, (X.here.setHeapUsed s₂.heap s₂.slotsUsed).setVm hW'.alike, X.tail, State.WarmedH.trans X.warmed hW', X.limits, X.bytes, X.same.trans (hsame.setVm s.vm)⟩,
      ⟨g, mk, s₂, L, E, ce, rfl, rfl, hx, hce, hcv, hcl, rfl, hL, rfl, rfl⟩, ?_⟩
    show Steps p.tables e below _ (((({ U with heap := s₂.heap, slotsUsed := s₂.slotsUsed } : State).setVm s₂.vm).setTop g).pushFrame (.throwing q))
    rw [← hs₂]
    exact hsteps
end Payer
section Calls
variable {p : Program} {l : Launch} {e : Env} {R : Room} {s : State} {m : MethodId} {args : Array Value} {below : List Frame} {meth : Method} {c : Code} {T : State} {locs : List Loc} {cells slots : Nat}
theorem vx_callV (X : Stand p l e R s m args below meth c T locs cells slots) (hexec : p.tables.exec = Jvm.exec) {own C : String} {index : Nat} {y : MethodName} {bytes : ByteArray} {maxL : Nat} {ret : Option FieldType}
    (hown : s.vm.findClass own = some m.cls) (hlink : (Cond.methodLink own index y).before args s = true) (hinst : (Cond.instanceMethod y).before args s = true) (hsel : (Cond.selects C y y).before args s = true)
    (hcode : (Cond.code y bytes maxL ret).before args s = true) (hy : y.cls ≠ "java/lang/invoke/MethodHandle" ∧ y.cls ≠ "java/lang/invoke/VarHandle")
    {W9 : Nat} {Pre : Pt → Array Value → Prop} {Post : Pt → Array Value → Option Value → Pt → Prop} {PostX : Pt → Array Value → Addr → Pt → Prop} (hK : vx_Back l R p e below s args y 3 W9 Pre Post PostX)
    {b : Addr} {cellB : Cell} (hcell : T.heap[b]? = some cellB) (hobj : cellB.vm.isStatics = false) (hcls : s.vm.findClass C = some cellB.cls)
    {g : JFrame} (hg : g.method = m) (hsize : g.locals.size = c.maxLocals) {argsL rest : List Value} (hlen : ∀ sig, parseMethodDescriptor y.desc = some sig → argsL.length = sig.parameters.length)
    (hstack : g.stack = argsL.reverse ++ .ref b :: rest) (hW : 2 * g.monitorRoom + (rest.map fun v => v.category).sum ≤ W9) (hdg : decode c.code g.pc = .ok (.invokevirtual index, 3))
    (hpre : ∀ vm₁, s.WarmedH vm₁ → Pre ⟨T.setVm vm₁, locs, cells, slots⟩ (Value.ref b :: argsL).toArray) :
    (∃ (v : Option Value) (vm₁ : Vm) (B : Pt), s.WarmedH vm₁ ∧ Stand p l e R s m args below meth c B.U B.locs B.cells B.slots ∧ Post ⟨T.setVm vm₁, locs, cells, slots⟩ (Value.ref b :: argsL).toArray v B ∧
      ∀ target, Steps p.tables e below (B.U.setTop { g with pc := g.pc + 3, stack := v.toList ++ rest }) target → Steps p.tables e below (T.setTop g) target) ∨
    (∃ (q : Addr) (vm₁ : Vm) (B : Pt), s.WarmedH vm₁ ∧ Stand p l e R s m args below meth c B.U B.locs B.cells B.slots ∧ PostX ⟨T.setVm vm₁, locs, cells, slots⟩ (Value.ref b :: argsL).toArray q B ∧
      Steps p.tables e below (T.setTop g) ((B.U.setTop { g with stack := rest }).pushFrame (.throwing q))) := by
  obtain ⟨mk, methM, hnamed, hmethM, hstM, habM⟩ := Cond.instanceMethod_spec hinst
  obtain ⟨methM', cM, hmethM', -, -, -, -, -, -, hsigM⟩ := Cond.code_spec hnamed hcode
  cases hmethM.symm.trans hmethM'
  obtain ⟨c2, r2, m2, q1, q2, q3, q4, kP, hkP, hkPi⟩ := Cond.selects_spec hsel
  cases hcls.symm.trans q1
  cases (State.methodFound?_of_named hnamed hy).symm.trans q2
  cases hnamed.symm.trans q3
  have hselP : selectMethod e.platform s.vm cellB.cls mk = .method mk := by rw [Launch.admits_selectMethod X.admits]; exact q4
  obtain ⟨vm₁, X₁, hstep₁⟩ := X.invokevirtual hexec hown hlink hnamed hmethM hstM hkP hkPi hy (a := b) (cell := cellB) hcell
    (fun z h => by rw [h] at hobj; cases hobj) hselP hmethM habM hkP hkPi (g := g) hg (argsL := argsL) (rest := rest) (hlen _ hsigM) hstack hdg
  rcases hK m meth c ⟨T.setVm vm₁, locs, cells, slots⟩ { g with stack := rest } (.invokevirtual index) mk (Value.ref b :: argsL).toArray X₁ hg hsize hdg hW (X₁.named hnamed) (hpre vm₁ X₁.warmed) with ⟨v, B, X', hpost, hsteps⟩ | ⟨q, B, X', hpost, hsteps⟩
  · exact Or.inl ⟨v, vm₁, B, X₁.warmed, X', hpost, fun target h => hstep₁ _ fun acts => by rw [doInvoke_state]; exact hsteps.trans h⟩
  · exact Or.inr ⟨q, vm₁, B, X₁.warmed, X', hpost, hstep₁ _ fun acts => by rw [doInvoke_state]; exact hsteps⟩
theorem vx_callS (X : Stand p l e R s m args below meth c T locs cells slots) (hexec : p.tables.exec = Jvm.exec) {own : String} {index : Nat} {y : MethodName} {bytes : ByteArray} {maxL : Nat} {ret : Option FieldType}
    (hown : s.vm.findClass own = some m.cls) (hlink : (Cond.methodLink own index y).before args s = true) (hstat : (Cond.static y).before args s = true) (hinit : (Cond.initialized y.cls).before args s = true)
    (hcode : (Cond.code y bytes maxL ret).before args s = true) (hy : y.cls ≠ "java/lang/invoke/MethodHandle" ∧ y.cls ≠ "java/lang/invoke/VarHandle")
    {W9 : Nat} {Pre : Pt → Array Value → Prop} {Post : Pt → Array Value → Option Value → Pt → Prop} {PostX : Pt → Array Value → Addr → Pt → Prop} (hK : vx_Back l R p e below s args y 3 W9 Pre Post PostX)
    {g : JFrame} (hg : g.method = m) (hsize : g.locals.size = c.maxLocals) {argsL rest : List Value} (hlen : ∀ sig, parseMethodDescriptor y.desc = some sig → argsL.length = sig.parameters.length)
    (hstack : g.stack = argsL.reverse ++ rest) (hW : 2 * g.monitorRoom + (rest.map fun v => v.category).sum ≤ W9) (hdg : decode c.code g.pc = .ok (.invokestatic index, 3))
    (hpre : ∀ vm₁, s.WarmedH vm₁ → Pre ⟨T.setVm vm₁, locs, cells, slots⟩ argsL.toArray) :
    (∃ (v : Option Value) (vm₁ : Vm) (B : Pt), s.WarmedH vm₁ ∧ Stand p l e R s m args below meth c B.U B.locs B.cells B.slots ∧ Post ⟨T.setVm vm₁, locs, cells, slots⟩ argsL.toArray v B ∧
      ∀ target, Steps p.tables e below (B.U.setTop { g with pc := g.pc + 3, stack := v.toList ++ rest }) target → Steps p.tables e below (T.setTop g) target) ∨
    (∃ (q : Addr) (vm₁ : Vm) (B : Pt), s.WarmedH vm₁ ∧ Stand p l e R s m args below meth c B.U B.locs B.cells B.slots ∧ PostX ⟨T.setVm vm₁, locs, cells, slots⟩ argsL.toArray q B ∧
      Steps p.tables e below (T.setTop g) ((B.U.setTop { g with stack := rest }).pushFrame (.throwing q))) := by
  obtain ⟨mk, hnamed⟩ := Cond.code_named hcode
  obtain ⟨methM, cM, hmethM, -, -, -, -, -, -, hsigM⟩ := Cond.code_spec hnamed hcode
  have hstatic : methM.isStatic = true := Cond.static_spec hnamed hmethM hstat
  obtain ⟨kP, hkP, -⟩ := className_of_methodNamed hnamed
  have hinitP : kP.init = .initialized := Cond.initialized_spec (findClass_of_methodNamed hnamed) hkP hinit
  obtain ⟨vm₁, X₁, hstep₁⟩ := X.invokestatic hexec hown hlink hnamed hmethM hstatic hkP hinitP hy (g := g) hg (argsL := argsL) (rest := rest) (hlen _ hsigM) hstack hdg
  rcases hK m meth c ⟨T.setVm vm₁, locs, cells, slots⟩ { g with stack := rest } (.invokestatic index) mk argsL.toArray X₁ hg hsize hdg hW (X₁.named hnamed) (hpre vm₁ X₁.warmed) with ⟨v, B, X', hpost, hsteps⟩ | ⟨q, B, X', hpost, hsteps⟩
  · exact Or.inl ⟨v, vm₁, B, X₁.warmed, X', hpost, fun target h => hstep₁ _ fun acts => by rw [doInvoke_state]; exact hsteps.trans h⟩
  · exact Or.inr ⟨q, vm₁, B, X₁.warmed, X', hpost, hstep₁ _ fun acts => by rw [doInvoke_state]; exact hsteps⟩
end Calls
theorem vx_cls {s : State} {T : State} {vm₁ : Vm} {E : String} {k : ClassId} (hW : s.WarmedH vm₁) (h : (T.setVm vm₁).vm.findClass E = some k) : s.vm.findClass E = some k := by
  have h1 : vm₁.findClass E = some k := h
  rw [hW.alike.findClass] at h1
  exact h1
/-- the method's frame g, with q thrown over it -/
def vx_W (p : Program) (l : Launch) (e : Env) (R : Room) (s : State) (m : MethodId) (args : Array Value) (below : List Frame) (meth : Method) (c : Code) (H : Heap) (locs : List Loc) (cells slots : Nat) (Q : State → Prop) (g : JFrame) (q : Addr) : Prop :=
  ∀ T : State, T.heap = H → Stand p l e R s m args below meth c T locs cells slots → ∃ t, Steps p.tables e below ((T.setTop g).pushFrame (.throwing q)) t ∧ Q t
def vx_Run (p : Program) (l : Launch) (e : Env) (R : Room) (s : State) (m : MethodId) (args : Array Value) (below : List Frame) (meth : Method) (c : Code) (H : Heap) (locs : List Loc) (cells slots mc ms : Nat) (g : JFrame) (rest : List Value) (Qa : State → Outcome → State → Prop) (XC : String → State → State → Prop) (free : Addr → Prop) : Prop :=
  ∀ T : State, T.heap = H → Stand p l e R s m args below meth c T locs cells slots →
    (∃ (v : Option Value) (st₀ t T' : State) (L : List Loc), st₀.heap = H ∧ Stand p l e R s m args below meth c T' (locs ++ L) (cells + mc) (slots + ms) ∧ (∀ q ∈ L, free q.base) ∧ T'.heap = t.heap ∧ T'.vm = t.vm ∧ Qa st₀ (.returned v) t ∧
      Goes p e below T g T' { g with pc := g.pc + 3, stack := v.toList ++ rest }) ∨
    (∃ (q : Addr) (st₀ t T' : State) (L : List Loc) (E : String) (ce : Cell), st₀.heap = H ∧ Stand p l e R s m args below meth c T' (locs ++ L) (cells + mc) (slots + ms) ∧ (∀ z ∈ L, free z.base) ∧ T'.heap = t.heap ∧ T'.vm = t.vm ∧ XC E st₀ t ∧ t.heap[q]? = some ce ∧ ce.vm = .none ∧ s.vm.findClass E = some ce.cls ∧
      Steps p.tables e below (T.setTop g) ((T'.setTop { g with stack := rest }).pushFrame (.throwing q)))
def vx_X {S : Type} (px : S → Prop) (B : String → S → State → Prop) (A : Nat → Prop) : String → State → State → Prop := fun E st t => ∃ u : S, px u ∧ B E u t ∧ va_F A st t
section Runs
variable {p : Program} {l : Launch} {e : Env} {R : Room} {s : State} {m : MethodId} {args : Array Value} {below : List Frame} {meth : Method} {c : Code} {H : Heap} {locs : List Loc} {cells slots : Nat}
variable {y : MethodName} {bytes cc : ByteArray} {maxL nL mc ms n index : Nat} {ret : Option FieldType} {ws : List Cond} {rm : Room} {Pc : Array Value → State → Prop} {Qc : Array Value → State → Outcome → State → Prop} {XC : String → State → State → Prop} {free : Addr → Prop} {Ts : List Cond} {own C : String} {b : Addr} {As rest : List Value} {g : JFrame}
theorem vx_callBack (cb : CallB R s args own index y bytes maxL ret ws rm mc ms n) (hM : vx_Met l y ws rm Pc Qc XC mc ms free) (hbl : FrameBlind Pc) : vx_Back l R p e below s args y 3 8 (PreOf R mc ms Pc) (PostOf Qc mc ms free) (vx_Post XC mc ms free) := by
  obtain ⟨hrc, hrs, hfr, hlo, hws, hcw, -, hini, -⟩ := cb
  exact vx_back (bytes := bytes) (maxL := maxL) (ret := ret) hM hbl hrc hrs hfr hlo hws hcw (fun a' U hW => word_at hW (Or.inl (by first | rfl | simp [Cond.onTables, Cond.keeps, Cond.steady])) hini)
theorem vx_runV (S : CallFix p m c cc nL s args Ts own) (hM : vx_Met l y ws rm Pc Qc XC mc ms free) (cw : CallW R s args own C index y bytes maxL ret ws rm mc ms n) (hp : PreV s H C b Pc As)
    (hg : g.method = m) (hn : As.length = n) (hsize : g.locals.size = nL) (hstack : g.stack = As.reverse ++ .ref b :: rest) (hW : 2 * g.monitorRoom + (rest.map fun v => v.category).sum ≤ 8) (hdg : decode cc g.pc = .ok (.invokevirtual index, 3)) (hf : cells + mc ≤ R.cells ∧ slots + ms ≤ R.slots) :
    vx_Run p l e R s m args below meth c H locs cells slots mc ms g rest (Qc (Value.ref b :: As).toArray) XC free := by
  have hK : vx_Back l R p e below s args y 3 8 (PreOf R mc ms Pc) (PostOf Qc mc ms free) (vx_Post XC mc ms free) := vx_callBack cw.1 hM hp.1
  obtain ⟨⟨-, -, -, -, -, -, hcode, -, hy, hlen, hl⟩, hin, hse⟩ := cw
  obtain ⟨hx, hb, hml, ho, -⟩ := S
  obtain ⟨-, ⟨cellB, hcB, hoB, hclB⟩, hPc⟩ := hp
  intro T hT X
  rcases vx_callV X hx (C := C) (bytes := bytes) (maxL := maxL) (ret := ret) ho hl hin hse hcode hy hK (by rw [hT]; exact hcB) hoB hclB hg (hsize.trans hml.symm) (argsL := As) (rest := rest) (fun sig h => hn.trans (hlen sig h)) hstack hW (by rw [hb]; exact hdg)
    (fun vm₁ hW₁ => ⟨hf.1, hf.2, hPc (T.setVm vm₁) hT hW₁⟩) with ⟨v, vm₁, ⟨U', l2, c2, s2⟩, hW₁, X', ⟨g', mk, t, L, e1, e2, hq, h1, hL, h2, h3⟩, st⟩ | ⟨q, vm₁, ⟨U', l2, c2, s2⟩, hW₁, X', ⟨g', mk, t, L, E, ce, e1, e2, hq, hce, hcv, hcl, h1, hL, h2, h3⟩, st⟩
  · dsimp only [Pt.U, Pt.locs, Pt.cells, Pt.slots] at X' e1 e2 h1 h2 h3 st
    subst h1; subst h2; subst h3
    exact Or.inl ⟨v, (T.setVm vm₁).calling g' mk (Value.ref b :: As).toArray, t, U', L, hT, X', hL, e1, e2, hq, st⟩
  · dsimp only [Pt.U, Pt.locs, Pt.cells, Pt.slots] at X' e1 e2 h1 h2 h3 st hcl
    subst h1; subst h2; subst h3
    exact Or.inr ⟨q, (T.setVm vm₁).calling g' mk (Value.ref b :: As).toArray, t, U', L, E, ce, hT, X', hL, e1, e2, hq, hce, hcv, vx_cls hW₁ hcl, st⟩
theorem vx_runS (S : CallFix p m c cc nL s args Ts own) (hM : vx_Met l y ws rm Pc Qc XC mc ms free) (cw : CallB R s args own index y bytes maxL ret ws rm mc ms n ∧ (Cond.static y).before args s = true) (hp : PreS s H Pc As)
    (hg : g.method = m) (hn : As.length = n) (hsize : g.locals.size = nL) (hstack : g.stack = As.reverse ++ rest) (hW : 2 * g.monitorRoom + (rest.map fun v => v.category).sum ≤ 8) (hdg : decode cc g.pc = .ok (.invokestatic index, 3)) (hf : cells + mc ≤ R.cells ∧ slots + ms ≤ R.slots) :
    vx_Run p l e R s m args below meth c H locs cells slots mc ms g rest (Qc As.toArray) XC free := by
  have hK : vx_Back l R p e below s args y 3 8 (PreOf R mc ms Pc) (PostOf Qc mc ms free) (vx_Post XC mc ms free) := vx_callBack cw.1 hM hp.1
  obtain ⟨⟨-, -, -, -, -, -, hcode, hini, hy, hlen, hl⟩, hstt⟩ := cw
  obtain ⟨hx, hb, hml, ho, -⟩ := S
  intro T hT X
  rcases vx_callS X hx (bytes := bytes) (maxL := maxL) (ret := ret) ho hl hstt hini hcode hy hK hg (hsize.trans hml.symm) (argsL := As) (rest := rest) (fun sig h => hn.trans (hlen sig h)) hstack hW (by rw [hb]; exact hdg)
    (fun vm₁ hW₁ => ⟨hf.1, hf.2, hp.2 (T.setVm vm₁) hT hW₁⟩) with ⟨v, vm₁, ⟨U', l2, c2, s2⟩, hW₁, X', ⟨g', mk, t, L, e1, e2, hq, h1, hL, h2, h3⟩, st⟩ | ⟨q, vm₁, ⟨U', l2, c2, s2⟩, hW₁, X', ⟨g', mk, t, L, E, ce, e1, e2, hq, hce, hcv, hcl, h1, hL, h2, h3⟩, st⟩
  · dsimp only [Pt.U, Pt.locs, Pt.cells, Pt.slots] at X' e1 e2 h1 h2 h3 st
    subst h1; subst h2; subst h3
    exact Or.inl ⟨v, (T.setVm vm₁).calling g' mk As.toArray, t, U', L, hT, X', hL, e1, e2, hq, st⟩
  · dsimp only [Pt.U, Pt.locs, Pt.cells, Pt.slots] at X' e1 e2 h1 h2 h3 st hcl
    subst h1; subst h2; subst h3
    exact Or.inr ⟨q, (T.setVm vm₁).calling g' mk As.toArray, t, U', L, E, ce, hT, X', hL, e1, e2, hq, hce, hcv, vx_cls hW₁ hcl, st⟩
end Runs
section Rows
variable {p : Program} {l : Launch} {e : Env} {R : Room} {s : State} {m : MethodId} {args : Array Value} {below : List Frame} {meth : Method} {c : Code} {H : Heap} {locs : List Loc} {cells slots : Nat} {Q : State → Prop}
variable {mc ms : Nat} {free : Addr → Prop} {A0 A1 : Nat → Prop} {H0 : Heap} {a : Array Value} {pc : Nat} {ls : Array Slot} {st0 rest : List Value}
theorem vx_keep {st₀ t T' : State} {L : List Loc} (h0 : st₀.heap = H) (e1 : T'.heap = t.heap) (hS : va_S A0 H0 H locs) (hA : ∀ q, q < H.size → A1 q → A0 q) (hf : ∀ q, free q → A0 q) (hL : ∀ q ∈ L, free q.base) (hF : va_F A1 st₀ t) :
    H.size ≤ T'.heap.size ∧ (∀ q : Nat, q < H.size → ¬ A1 q → T'.heap[q]? = H[q]?) ∧ va_S A0 H0 T'.heap (locs ++ L) := by
  obtain ⟨hz, hk⟩ := hF
  rw [h0] at hz hk
  exact ⟨by rw [e1]; exact hz, fun q h1 h2 => by rw [e1]; exact hk q h1 h2,
    ⟨Nat.le_trans hS.1 (by rw [e1]; exact hz), fun q h1 h2 => by rw [e1, hk q (Nat.lt_of_lt_of_le h1 hS.1) (fun z => h2 (hA q (Nat.lt_of_lt_of_le h1 hS.1) z))]; exact hS.2.1 q h1 h2, fun q hq => by
      rcases List.mem_append.mp hq with h | h
      · exact hS.2.2 q h
      · exact hf _ (hL q h)⟩⟩
theorem vx_calli {S SX : Type} {post : Int32 → S → Prop} {px : SX → Prop} {B : S → State → Prop} {BX : String → SX → State → Prop} {AX : Nat → Prop} (hr : vx_Run p l e R s m args below meth c H locs cells slots mc ms (F0 m pc ls st0) rest (va_Qi post B A1 a) (vx_X px BX AX) free) (hS : va_S A0 H0 H locs) (hA : ∀ q, q < H.size → A1 q → A0 q) (hf : ∀ q, free q → A0 q) (hAX : ∀ q, q < H.size → AX q → A0 q)
    (kx : ∀ (E : String) (ce : Cell) (q9 : Addr) (u : SX) (t : State) (H1 : Heap) (locs1 : List Loc), t.heap = H1 → s.vm.Alike t.vm → px u → BX E u t → H.size ≤ H1.size → (∀ q : Nat, q < H.size → ¬ AX q → H1[q]? = H[q]?) → va_S A0 H0 H1 locs1 → H1[q9]? = some ce → ce.vm = .none → s.vm.findClass E = some ce.cls → vx_W p l e R s m args below meth c H1 locs1 (cells + mc) (slots + ms) Q (F0 m pc ls rest) q9)
    (kk : ∀ (r : Int32) (u : S) (t : State) (H1 : Heap) (locs1 : List Loc), t.heap = H1 → s.vm.Alike t.vm → post r u → B u t → H.size ≤ H1.size → (∀ q : Nat, q < H.size → ¬ A1 q → H1[q]? = H[q]?) → va_S A0 H0 H1 locs1 → W p l e R s m args below meth c H1 locs1 (cells + mc) (slots + ms) Q (F0 m (pc + 3) ls (.int r :: rest))) : W p l e R s m args below meth c H locs cells slots Q (F0 m pc ls st0) := by
  intro T hT X
  rcases hr T hT X with ⟨v, st₀, t, T', L, h0, X', hL, e1, e2, ⟨⟨r, u, hv, hp, hb⟩, hF⟩, st⟩ | ⟨q, st₀, t, T', L, E, ce, h0, X', hL, e1, e2, ⟨u, hp, hb, hF⟩, hce, hcv, hcl, st⟩
  · cases hv
    obtain ⟨k1, k2, k3⟩ := vx_keep h0 e1 hS hA hf hL hF
    obtain ⟨t2, a1, b1⟩ := kk r u t T'.heap (locs ++ L) e1.symm (by rw [← e2]; exact X'.warmed.alike) hp hb k1 k2 k3 T' rfl X'
    exact ⟨t2, st t2 a1, b1⟩
  · obtain ⟨k1, k2, k3⟩ := vx_keep h0 e1 hS hAX hf hL hF
    obtain ⟨t2, a1, b1⟩ := kx E ce q u t T'.heap (locs ++ L) e1.symm (by rw [← e2]; exact X'.warmed.alike) hp hb k1 k2 k3 (by rw [e1]; exact hce) hcv hcl T' rfl X'
    exact ⟨t2, st.trans a1, b1⟩
theorem vx_calll {S SX : Type} {post : Int64 → S → Prop} {px : SX → Prop} {B : S → State → Prop} {BX : String → SX → State → Prop} {AX : Nat → Prop} (hr : vx_Run p l e R s m args below meth c H locs cells slots mc ms (F0 m pc ls st0) rest (va_Ql post B A1 a) (vx_X px BX AX) free) (hS : va_S A0 H0 H locs) (hA : ∀ q, q < H.size → A1 q → A0 q) (hf : ∀ q, free q → A0 q) (hAX : ∀ q, q < H.size → AX q → A0 q)
    (kx : ∀ (E : String) (ce : Cell) (q9 : Addr) (u : SX) (t : State) (H1 : Heap) (locs1 : List Loc), t.heap = H1 → s.vm.Alike t.vm → px u → BX E u t → H.size ≤ H1.size → (∀ q : Nat, q < H.size → ¬ AX q → H1[q]? = H[q]?) → va_S A0 H0 H1 locs1 → H1[q9]? = some ce → ce.vm = .none → s.vm.findClass E = some ce.cls → vx_W p l e R s m args below meth c H1 locs1 (cells + mc) (slots + ms) Q (F0 m pc ls rest) q9)
    (kk : ∀ (r : Int64) (u : S) (t : State) (H1 : Heap) (locs1 : List Loc), t.heap = H1 → s.vm.Alike t.vm → post r u → B u t → H.size ≤ H1.size → (∀ q : Nat, q < H.size → ¬ A1 q → H1[q]? = H[q]?) → va_S A0 H0 H1 locs1 → W p l e R s m args below meth c H1 locs1 (cells + mc) (slots + ms) Q (F0 m (pc + 3) ls (.long r :: rest))) : W p l e R s m args below meth c H locs cells slots Q (F0 m pc ls st0) := by
  intro T hT X
  rcases hr T hT X with ⟨v, st₀, t, T', L, h0, X', hL, e1, e2, ⟨⟨r, u, hv, hp, hb⟩, hF⟩, st⟩ | ⟨q, st₀, t, T', L, E, ce, h0, X', hL, e1, e2, ⟨u, hp, hb, hF⟩, hce, hcv, hcl, st⟩
  · cases hv
    obtain ⟨k1, k2, k3⟩ := vx_keep h0 e1 hS hA hf hL hF
    obtain ⟨t2, a1, b1⟩ := kk r u t T'.heap (locs ++ L) e1.symm (by rw [← e2]; exact X'.warmed.alike) hp hb k1 k2 k3 T' rfl X'
    exact ⟨t2, st t2 a1, b1⟩
  · obtain ⟨k1, k2, k3⟩ := vx_keep h0 e1 hS hAX hf hL hF
    obtain ⟨t2, a1, b1⟩ := kx E ce q u t T'.heap (locs ++ L) e1.symm (by rw [← e2]; exact X'.warmed.alike) hp hb k1 k2 k3 (by rw [e1]; exact hce) hcv hcl T' rfl X'
    exact ⟨t2, st.trans a1, b1⟩
theorem vx_callf {S SX : Type} {post : UInt32 → S → Prop} {px : SX → Prop} {B : S → State → Prop} {BX : String → SX → State → Prop} {AX : Nat → Prop} (hr : vx_Run p l e R s m args below meth c H locs cells slots mc ms (F0 m pc ls st0) rest (va_Qf post B A1 a) (vx_X px BX AX) free) (hS : va_S A0 H0 H locs) (hA : ∀ q, q < H.size → A1 q → A0 q) (hf : ∀ q, free q → A0 q) (hAX : ∀ q, q < H.size → AX q → A0 q)
    (kx : ∀ (E : String) (ce : Cell) (q9 : Addr) (u : SX) (t : State) (H1 : Heap) (locs1 : List Loc), t.heap = H1 → s.vm.Alike t.vm → px u → BX E u t → H.size ≤ H1.size → (∀ q : Nat, q < H.size → ¬ AX q → H1[q]? = H[q]?) → va_S A0 H0 H1 locs1 → H1[q9]? = some ce → ce.vm = .none → s.vm.findClass E = some ce.cls → vx_W p l e R s m args below meth c H1 locs1 (cells + mc) (slots + ms) Q (F0 m pc ls rest) q9)
    (kk : ∀ (r : UInt32) (u : S) (t : State) (H1 : Heap) (locs1 : List Loc), t.heap = H1 → s.vm.Alike t.vm → post r u → B u t → H.size ≤ H1.size → (∀ q : Nat, q < H.size → ¬ A1 q → H1[q]? = H[q]?) → va_S A0 H0 H1 locs1 → W p l e R s m args below meth c H1 locs1 (cells + mc) (slots + ms) Q (F0 m (pc + 3) ls (.float r :: rest))) : W p l e R s m args below meth c H locs cells slots Q (F0 m pc ls st0) := by
  intro T hT X
  rcases hr T hT X with ⟨v, st₀, t, T', L, h0, X', hL, e1, e2, ⟨⟨r, u, hv, hp, hb⟩, hF⟩, st⟩ | ⟨q, st₀, t, T', L, E, ce, h0, X', hL, e1, e2, ⟨u, hp, hb, hF⟩, hce, hcv, hcl, st⟩
  · cases hv
    obtain ⟨k1, k2, k3⟩ := vx_keep h0 e1 hS hA hf hL hF
    obtain ⟨t2, a1, b1⟩ := kk r u t T'.heap (locs ++ L) e1.symm (by rw [← e2]; exact X'.warmed.alike) hp hb k1 k2 k3 T' rfl X'
    exact ⟨t2, st t2 a1, b1⟩
  · obtain ⟨k1, k2, k3⟩ := vx_keep h0 e1 hS hAX hf hL hF
    obtain ⟨t2, a1, b1⟩ := kx E ce q u t T'.heap (locs ++ L) e1.symm (by rw [← e2]; exact X'.warmed.alike) hp hb k1 k2 k3 (by rw [e1]; exact hce) hcv hcl T' rfl X'
    exact ⟨t2, st.trans a1, b1⟩
theorem vx_calld {S SX : Type} {post : UInt64 → S → Prop} {px : SX → Prop} {B : S → State → Prop} {BX : String → SX → State → Prop} {AX : Nat → Prop} (hr : vx_Run p l e R s m args below meth c H locs cells slots mc ms (F0 m pc ls st0) rest (va_Qd post B A1 a) (vx_X px BX AX) free) (hS : va_S A0 H0 H locs) (hA : ∀ q, q < H.size → A1 q → A0 q) (hf : ∀ q, free q → A0 q) (hAX : ∀ q, q < H.size → AX q → A0 q)
    (kx : ∀ (E : String) (ce : Cell) (q9 : Addr) (u : SX) (t : State) (H1 : Heap) (locs1 : List Loc), t.heap = H1 → s.vm.Alike t.vm → px u → BX E u t → H.size ≤ H1.size → (∀ q : Nat, q < H.size → ¬ AX q → H1[q]? = H[q]?) → va_S A0 H0 H1 locs1 → H1[q9]? = some ce → ce.vm = .none → s.vm.findClass E = some ce.cls → vx_W p l e R s m args below meth c H1 locs1 (cells + mc) (slots + ms) Q (F0 m pc ls rest) q9)
    (kk : ∀ (r : UInt64) (u : S) (t : State) (H1 : Heap) (locs1 : List Loc), t.heap = H1 → s.vm.Alike t.vm → post r u → B u t → H.size ≤ H1.size → (∀ q : Nat, q < H.size → ¬ A1 q → H1[q]? = H[q]?) → va_S A0 H0 H1 locs1 → W p l e R s m args below meth c H1 locs1 (cells + mc) (slots + ms) Q (F0 m (pc + 3) ls (.double r :: rest))) : W p l e R s m args below meth c H locs cells slots Q (F0 m pc ls st0) := by
  intro T hT X
  rcases hr T hT X with ⟨v, st₀, t, T', L, h0, X', hL, e1, e2, ⟨⟨r, u, hv, hp, hb⟩, hF⟩, st⟩ | ⟨q, st₀, t, T', L, E, ce, h0, X', hL, e1, e2, ⟨u, hp, hb, hF⟩, hce, hcv, hcl, st⟩
  · cases hv
    obtain ⟨k1, k2, k3⟩ := vx_keep h0 e1 hS hA hf hL hF
    obtain ⟨t2, a1, b1⟩ := kk r u t T'.heap (locs ++ L) e1.symm (by rw [← e2]; exact X'.warmed.alike) hp hb k1 k2 k3 T' rfl X'
    exact ⟨t2, st t2 a1, b1⟩
  · obtain ⟨k1, k2, k3⟩ := vx_keep h0 e1 hS hAX hf hL hF
    obtain ⟨t2, a1, b1⟩ := kx E ce q u t T'.heap (locs ++ L) e1.symm (by rw [← e2]; exact X'.warmed.alike) hp hb k1 k2 k3 (by rw [e1]; exact hce) hcv hcl T' rfl X'
    exact ⟨t2, st.trans a1, b1⟩
theorem vx_callv {S SX : Type} {post : S → Prop} {px : SX → Prop} {B : S → State → Prop} {BX : String → SX → State → Prop} {AX : Nat → Prop} (hr : vx_Run p l e R s m args below meth c H locs cells slots mc ms (F0 m pc ls st0) rest (va_Qv post B A1 a) (vx_X px BX AX) free) (hS : va_S A0 H0 H locs) (hA : ∀ q, q < H.size → A1 q → A0 q) (hf : ∀ q, free q → A0 q) (hAX : ∀ q, q < H.size → AX q → A0 q)
    (kx : ∀ (E : String) (ce : Cell) (q9 : Addr) (u : SX) (t : State) (H1 : Heap) (locs1 : List Loc), t.heap = H1 → s.vm.Alike t.vm → px u → BX E u t → H.size ≤ H1.size → (∀ q : Nat, q < H.size → ¬ AX q → H1[q]? = H[q]?) → va_S A0 H0 H1 locs1 → H1[q9]? = some ce → ce.vm = .none → s.vm.findClass E = some ce.cls → vx_W p l e R s m args below meth c H1 locs1 (cells + mc) (slots + ms) Q (F0 m pc ls rest) q9)
    (kk : ∀ (u : S) (t : State) (H1 : Heap) (locs1 : List Loc), t.heap = H1 → s.vm.Alike t.vm → post u → B u t → H.size ≤ H1.size → (∀ q : Nat, q < H.size → ¬ A1 q → H1[q]? = H[q]?) → va_S A0 H0 H1 locs1 → W p l e R s m args below meth c H1 locs1 (cells + mc) (slots + ms) Q (F0 m (pc + 3) ls (rest))) : W p l e R s m args below meth c H locs cells slots Q (F0 m pc ls st0) := by
  intro T hT X
  rcases hr T hT X with ⟨v, st₀, t, T', L, h0, X', hL, e1, e2, ⟨⟨u, hv, hp, hb⟩, hF⟩, st⟩ | ⟨q, st₀, t, T', L, E, ce, h0, X', hL, e1, e2, ⟨u, hp, hb, hF⟩, hce, hcv, hcl, st⟩
  · cases hv
    obtain ⟨k1, k2, k3⟩ := vx_keep h0 e1 hS hA hf hL hF
    obtain ⟨t2, a1, b1⟩ := kk u t T'.heap (locs ++ L) e1.symm (by rw [← e2]; exact X'.warmed.alike) hp hb k1 k2 k3 T' rfl X'
    exact ⟨t2, st t2 a1, b1⟩
  · obtain ⟨k1, k2, k3⟩ := vx_keep h0 e1 hS hAX hf hL hF
    obtain ⟨t2, a1, b1⟩ := kx E ce q u t T'.heap (locs ++ L) e1.symm (by rw [← e2]; exact X'.warmed.alike) hp hb k1 k2 k3 (by rw [e1]; exact hce) hcv hcl T' rfl X'
    exact ⟨t2, st.trans a1, b1⟩
/-- caught by the row x of this method's table; the rows ahead don't take it -/
theorem vx_catch {own name : String} {E : String} {ce : Cell} {q : Addr} (hown : s.vm.findClass own = some m.cls) (pre : List ExceptionTableEntry) (x : ExceptionTableEntry) (suf : List ExceptionTableEntry) (hsplit : c.exceptionTable.toList = pre ++ x :: suf)
    (hpass : ∀ z ∈ pre, covers z pc = false ∨ (z.catchType ≠ 0 ∧ ∃ nm : String, (Cond.classLink own z.catchType nm).before args s = true ∧ va_Nc E nm s)) (hx : covers x pc = true) (h0 : x.catchType ≠ 0)
    (hlink : (Cond.classLink own x.catchType name).before args s = true) (hcast : (Cond.castable E name).before args s = true) (hcell : H[q]? = some ce) (hv : ce.vm = .none) (hcl : s.vm.findClass E = some ce.cls)
    (kk : W p l e R s m args below meth c H locs cells slots Q (F0 m x.handlerPc ls [.ref q])) : vx_W p l e R s m args below meth c H locs cells slots Q (F0 m pc ls rest) q := by
  intro T hT X
  have hpl : e.platform.magicAccessors = ({} : Platform).magicAccessors := by rw [X.admits.platform]
  obtain ⟨c3, c4, hc3, hc4, hasg⟩ := Cond.castable_spec hcast
  cases Option.some.inj (hc3.symm.trans hcl)
  obtain ⟨c5, hc5, hcl5⟩ := Cond.classLink_spec hown hlink e.platform hpl
  cases Option.some.inj (hc4.symm.trans hc5)
  obtain ⟨vm', X', st⟩ := X.thenCaughtThrough q (g := F0 m pc ls rest) rfl (Steps.refl _) (by rw [hT]; exact hcell) (by rw [hv]; rfl) (by obtain ⟨k9, h9, -⟩ := Vm.findClass_spec hcl; exact ⟨k9, h9⟩) pre x suf hsplit
    (fun z hz => by
      rcases hpass z hz with h | ⟨hz0, nm, hl1, hn1⟩
      · exact Or.inl h
      · obtain ⟨c6, hc6, hcl6⟩ := Cond.classLink_spec hown hl1 e.platform hpl
        obtain ⟨a8, b8, h1, h2, h3⟩ := hn1
        cases Option.some.inj (h1.symm.trans hcl)
        cases Option.some.inj (h2.symm.trans hc6)
        exact Or.inr ⟨hz0, _, hcl6, h3⟩) hx (Or.inr ⟨h0, c4, hcl5, hasg⟩)
  obtain ⟨t, a1, b1⟩ := kk (T.setVm vm') hT X'
  exact ⟨t, st.trans a1, b1⟩
end Rows
section Ends
variable {p : Program} {l : Launch} {e : Env} {R : Room} {s : State} {m : MethodId} {args : Array Value} {below : List Frame} {meth : Method} {c : Code} {H : Heap} {locs : List Loc} {cells slots : Nat} {Q : State → Prop}
variable {mc ms : Nat} {free : Addr → Prop} {A0 A1 : Nat → Prop} {H0 : Heap} {a : Array Value} {ls : Array Slot} {st0 rest : List Value}
variable {Qc : Array Value → State → Outcome → State → Prop} {XC : String → State → State → Prop}
/-- what a body that may throw owes at its end -/
def vx_MQ (below : List Frame) (Qc : Array Value → State → Outcome → State → Prop) (XC : String → State → State → Prop) (a : Array Value) (s : State) (mc ms : Nat) (free : Addr → Prop) : State → Prop := fun t =>
  ∃ o, t.status = .running ∧ Ended t below o ∧ vx_Q Qc XC mc ms free a s o t
theorem vx_ret {g : JFrame} {mc ms : Nat} (k : W p l e R s m args below meth c H locs cells slots (MQ below Qc args s mc ms free) g) : W p l e R s m args below meth c H locs cells slots (vx_MQ below Qc XC args s mc ms free) g := by
  intro T hT X
  obtain ⟨t, a1, o, b1, b2, b3, b4⟩ := k T hT X
  exact ⟨t, a1, o, b1, b2, Or.inl ⟨b3, b4⟩⟩
/-- not caught here: it goes on to the caller -/
theorem vx_widen {g : JFrame} {q : Addr} {k n : Nat} (h1 : cells ≤ k) (h2 : slots ≤ n) (kk : vx_W p l e R s m args below meth c H locs k n Q g q) : vx_W p l e R s m args below meth c H locs cells slots Q g q := fun T hT X => kk T hT (stand_widen X h1 h2)
theorem vx_out {pc : Nat} {E : String} {ce : Cell} {q : Addr} {mc ms : Nat} (hout : ∀ x ∈ c.exceptionTable.toList, covers x pc = false) (hlocks : meth.locks = false) (hcell : H[q]? = some ce) (hv : ce.vm = .none) (hcl : s.vm.findClass E = some ce.cls)
    (hx : ∀ t : State, t.heap = H → s.vm.Alike t.vm → XC E s t) (hf : ∀ z ∈ locs, free z.base) (hc : cells ≤ mc) (hs : slots ≤ ms) :
    vx_W p l e R s m args below meth c H locs cells slots (vx_MQ below Qc XC args s mc ms free) (F0 m pc ls rest) q := by
  intro T hT X
  obtain ⟨st1, hrun, hend, hW, hsm⟩ := X.leaveThrown q (g := F0 m pc ls rest) rfl rfl rfl hout hlocks
  have hcell9 : (T.setFrames (.throwing q :: below)).heap[q]? = some ce := by
    show T.heap[q]? = some ce
    rw [hT]; exact hcell
  exact ⟨_, st1, .threw q, hrun, hend, Or.inr ⟨q, rfl, E, ce, locs, hx _ hT hW.alike, hcell9, hv, hcl, hW, hsm.mono hc hs, hf⟩⟩
theorem vx_frame {U : State} {k n : Nat} (h : s.sameButNew ({ U with vm := s.vm } : State) locs k n) : s.heap.size ≤ U.heap.size ∧ ∀ q : Nat, q < s.heap.size → (∀ z ∈ locs, z.base ≠ q) → U.heap[q]? = s.heap[q]? := by
  obtain ⟨-, h2, -, -, -, h6⟩ := h
  refine ⟨h2, fun q hq hz => ?_⟩
  obtain ⟨c9, e1, e2, e3, e4⟩ := h6 q _ (Array.getElem?_eq_getElem hq)
  have hs : c9.slots = (s.heap[q]).slots := Array.ext_getElem? fun i => e4 i fun hm => hz _ hm rfl
  have h9 : c9 = s.heap[q] := by
    rw [hs] at e2
    exact e2
  have e5 : U.heap[q]? = some c9 := e1
  rw [e5, h9, Array.getElem?_eq_getElem hq]
/-- the words of a throw but the four that speak of the heap -/
def vx_no (w : Cond) : Bool := decide (w ≠ .isRef (.static Bundle.tN "UNASSIGNED_STACK" Bundle.steD)) && decide (w ≠ .isRef (.static Bundle.tN "SUPPRESSED_SENTINEL" Bundle.listD)) && decide (w ≠ .laysStatic Bundle.tN "UNASSIGNED_STACK" Bundle.steD) && decide (w ≠ .laysStatic Bundle.tN "SUPPRESSED_SENTINEL" Bundle.listD)
def vx_at0 (own : String) (ic : Nat) (X : String) (names : List String) : List Cond := (Bundle.ownAtoms0 own ic X names).filter vx_no
def vx_atS (own : String) (ic : Nat) (X : String) (names : List String) : List Cond := (Bundle.ownAtoms own ic X names).filter vx_no
/-- a word that the tables alone decide, or a good one -/
def vx_ot (w : Cond) : Bool := w.onTables || goodWord w
theorem vx_ot_at {args a' : Array Value} {s U : State} {w : Cond} (hW : s.WarmedH U.vm) (hvm : s.vm = U.vm) (hg : vx_ot w = true) (h : w.before args s = true) : w.before a' U = true := by
  simp only [vx_ot, Bool.or_eq_true] at hg
  rcases hg with hg | hg
  · exact va_tabs hg hvm h
  · exact word_at hW (good_of_word hg) h
/-- a list's words: the good ones out of the method's own list, the others by premises of their own -/
theorem vx_hat {args : Array Value} {s : State} {L B : List Cond} (h1 : ∀ w ∈ L.filter goodWord, w.before args s = true) (h2 : ∀ w ∈ L.filter (fun w => !goodWord w), w ∈ B) (h3 : ∀ w ∈ B, w.before args s = true) : ∀ w ∈ L, w.before args s = true := by
  intro w hw
  by_cases g : goodWord w = true
  · exact h1 w (List.mem_filter.mpr ⟨hw, g⟩)
  · refine h3 w (h2 w (List.mem_filter.mpr ⟨hw, ?_⟩))
    show (!goodWord w) = true
    cases hgw : goodWord w
    · rfl
    · exact absurd hgw g
theorem vx_c {args : Array Value} {s : State} {w : Cond} {B : List Cond} (h : w.before args s = true) (t : ∀ w ∈ B, w.before args s = true) : ∀ w' ∈ w :: B, w'.before args s = true := fun w' h' => (List.mem_cons.mp h').elim (fun e => by rw [e]; exact h) (t w')
theorem vx_n {args : Array Value} {s : State} : ∀ w ∈ ([] : List Cond), w.before args s = true := fun _ h => nomatch h
theorem vx_own {args : Array Value} {s : State} {L : List Cond} (h1 : ∀ w ∈ L.filter vx_no, w.before args s = true)
    (hU : (Cond.isRef (.static Bundle.tN "UNASSIGNED_STACK" Bundle.steD)).before args s = true) (hN : (Cond.isRef (.static Bundle.tN "SUPPRESSED_SENTINEL" Bundle.listD)).before args s = true)
    (lU : (Cond.laysStatic Bundle.tN "UNASSIGNED_STACK" Bundle.steD).before args s = true) (lN : (Cond.laysStatic Bundle.tN "SUPPRESSED_SENTINEL" Bundle.listD).before args s = true) : ∀ w ∈ L, w.before args s = true := by
  intro w hw
  by_cases e1 : w = .isRef (.static Bundle.tN "UNASSIGNED_STACK" Bundle.steD)
  · rw [e1]; exact hU
  · by_cases e2 : w = .isRef (.static Bundle.tN "SUPPRESSED_SENTINEL" Bundle.listD)
    · rw [e2]; exact hN
    · by_cases e3 : w = .laysStatic Bundle.tN "UNASSIGNED_STACK" Bundle.steD
      · rw [e3]; exact lU
      · by_cases e4 : w = .laysStatic Bundle.tN "SUPPRESSED_SENTINEL" Bundle.listD
        · rw [e4]; exact lN
        · exact h1 w (List.mem_filter.mpr ⟨hw, by unfold vx_no; rw [decide_eq_true e1, decide_eq_true e2, decide_eq_true e3, decide_eq_true e4]; rfl⟩)
/-- where a static field lies, its class's statics cell in H -/
def vx_L (C n d : String) (A : Nat → Prop) (U : State) (H : Heap) : Prop := ∃ (c : ClassId) (k : Class) (i : Nat) (f : Field) (a : Nat) (cell : Cell), U.vm.findClass C = some c ∧ U.fieldFound? C n d = some (c, k, i, f) ∧ f.isStatic = true ∧ k.statics = some a ∧ H[a]? = some cell ∧ cell.vm.isStatics = true ∧ cell.cls = c ∧ f.slot < cell.slots.size ∧ k.staticTypes[f.slot]? = some f.type ∧ ¬ A a
theorem vx_L.moved {C n d : String} {A : Nat → Prop} {u U : State} {H : Heap} (hvm : u.vm.Alike U.vm) (h : vx_L C n d A u H) : vx_L C n d A U H := by
  obtain ⟨c, k, i, f, a, cell, h1, h2, h3, h4, h5, h6, h7, h8, h9, h10⟩ := h
  obtain ⟨k', hi', he⟩ := State.fieldFound?_setVm hvm h2
  exact ⟨c, k', i, f, a, cell, by rw [hvm.findClass]; exact h1, hi', h3, by rw [he]; exact h4, h5, h6, h7, h8, by rw [he]; exact h9, h10⟩
theorem vx_L.kept {C n d : String} {A : Nat → Prop} {U : State} {H H1 : Heap} (h : vx_L C n d A U H) (hq : ∀ a : Nat, a < H.size → ¬ A a → H1[a]? = H[a]?) : vx_L C n d A U H1 := by
  obtain ⟨c, k, i, f, a, cell, h1, h2, h3, h4, h5, h6, h7, h8, h9, h10⟩ := h
  exact ⟨c, k, i, f, a, cell, h1, h2, h3, h4, by rw [hq a (Array.getElem?_eq_some_iff.mp h5).1 h10]; exact h5, h6, h7, h8, h9, h10⟩
theorem vx_L.narrow {C n d : String} {A B : Nat → Prop} {U : State} {H : Heap} (h : vx_L C n d A U H) (hAB : ∀ q, B q → A q) : vx_L C n d B U H := by
  obtain ⟨c, k, i, f, a, cell, h1, h2, h3, h4, h5, h6, h7, h8, h9, h10⟩ := h
  exact ⟨c, k, i, f, a, cell, h1, h2, h3, h4, h5, h6, h7, h8, h9, fun z => h10 (hAB _ z)⟩
theorem vx_L.word {C n d : String} {A : Nat → Prop} {s : State} {args : Array Value} (h : vx_L C n d A s s.heap) : (Cond.laysStatic C n d).before args s = true := by
  obtain ⟨c, k, i, f, a, cell, h1, h2, h3, h4, h5, h6, h7, h8, h9, -⟩ := h
  show (Cond.laysStatic C n d).holds args s none s [] = true
  exact Cond.laysStatic_of h1 h2 h3 h4 h5 h6 h7 h8 h9
/-- .. and what it holds: null or some reference -/
def vx_Zq (C n d : String) (A : Nat → Prop) (U : State) (H : Heap) : Prop := va_Zq C n d A U H ∧ vx_L C n d A U H
theorem vx_Zq.moved {C n d : String} {A : Nat → Prop} {u U : State} {H : Heap} (hvm : u.vm.Alike U.vm) (h : vx_Zq C n d A u H) : vx_Zq C n d A U H := ⟨va_Zq.moved hvm h.1, vx_L.moved hvm h.2⟩
theorem vx_Zq.kept {C n d : String} {A : Nat → Prop} {U : State} {H H1 : Heap} (h : vx_Zq C n d A U H) (hq : ∀ a : Nat, a < H.size → ¬ A a → H1[a]? = H[a]?) : vx_Zq C n d A U H1 := ⟨va_Zq.kept h.1 hq, vx_L.kept h.2 hq⟩
theorem vx_Zq.narrow {C n d : String} {A B : Nat → Prop} {U : State} {H : Heap} (h : vx_Zq C n d A U H) (hAB : ∀ q, B q → A q) : vx_Zq C n d B U H := ⟨va_Zq.narrow h.1 hAB, vx_L.narrow h.2 hAB⟩
theorem vx_Zqof {args : Array Value} {s : State} {C n d : String} {A : Nat → Prop} (hl : (Cond.laysStatic C n d).before args s = true) (hini : (Cond.initialized C).before args s = true) (h : (Cond.isRef (.static C n d)).before args s = true) (hA : ∀ a : Nat, a < s.heap.size → ¬ A a) : vx_Zq C n d A s s.heap := by
  refine ⟨va_Zqof hl hini h hA, ?_⟩
  obtain ⟨c, k, i, f, a, cell, h1, h2, h3, h4, h5, h6, h7, h8, h9⟩ := Cond.laysStatic_spec hl
  exact ⟨c, k, i, f, a, cell, h1, h2, h3, h4, h5, h6, h7, h8, h9, hA a (Array.getElem?_eq_some_iff.mp h5).1⟩
theorem vx_isRef {C n d : String} {v : Value} {A : Nat → Prop} {s : State} {args : Array Value} (h : va_Z C n d v A s s.heap) (hv : v.isRef = true) : (Cond.isRef (.static C n d)).before args s = true := by
  obtain ⟨cf, kf, fi, f, a, cell, h1, h2, h3, h4, h5, h6, h7, -⟩ := h
  have he : (Term.static C n d).eval args s none [] s = some v := by
    simp [Term.eval, State.fieldNamed?, h1, h2, h4, h5, h6, h7]
  simp only [Cond.before, Cond.holds, Cond.value, he]
  cases v <;> simp_all [Value.isRef]
theorem vx_isRefq {C n d : String} {A : Nat → Prop} {s : State} {args : Array Value} (h : va_Zq C n d A s s.heap) : (Cond.isRef (.static C n d)).before args s = true := by
  rcases h with h | ⟨t, h⟩
  · exact vx_isRef h rfl
  · exact vx_isRef h rfl
/-- the same frame, seen from here: as if the method were called anew in this heap -/
theorem vx_rebase {T : State} (X : Stand p l e R s m args below meth c T locs cells slots) {R' : Room} (hf : R'.frames ≤ R.frames) (hl : R'.locals ≤ R.locals) (hc : cells + R'.cells ≤ R.cells) (hs : slots + R'.slots ≤ R.slots) :
    Stand p l e R' ((T.setVm s.vm).setFrames (.invoking m args :: below)) m args below meth c T [] 0 0 := by
  have htop : (T.setVm s.vm).topJava?.isSome := X.here.top
  have hF : ((T.setVm s.vm).setFrames (.invoking m args :: below)).frames = .invoking m args :: below := State.frames_setFrames _ (State.cur_lt_of_top htop)
  obtain ⟨g₀, hg0⟩ := Option.isSome_iff_exists.mp htop
  obtain ⟨r, hr⟩ := State.topJava?_eq_some.mp hg0
  have hl9 : e.platform.stackLimits (T.setVm s.vm).me = e.platform.stackLimits s.me := X.limits
  have hb9 : (T.setVm s.vm).me.stackBytes = s.me.stackBytes := X.bytes
  refine ⟨X.admits, X.cas, X.clock, hF, ?_, X.hears, X.method, X.code, X.here, X.tail, X.warmed, ?_, ?_, ?_⟩
  · have h := X.room
    have hU : ((T.setVm s.vm).setFrames (.invoking m args :: below)).localsInUse = s.localsInUse := by
      rw [State.localsInUse_invoking hF (meth := meth) (c := c) X.method X.code, State.localsInUse_invoking X.frames X.method X.code]
    simp only [State.hasRoom, Bool.and_eq_true, decide_eq_true_eq] at h ⊢
    obtain ⟨⟨⟨⟨h1, h2, h3, h4, h5, h6⟩, h7⟩, h8⟩, h9⟩ := h
    rw [X.frames, List.length_cons] at h2 h3
    have q1 := X.heapSize
    have q2 := X.used
    simp only [hF, hU, List.length_cons, State.stackLimits_setFrames, State.stackBytes_setFrames, hl9, hb9]
    refine ⟨⟨⟨⟨by omega, by omega, by omega, by omega, by omega, h6⟩, ?_⟩, ?_⟩, X.book⟩
    · show T.heap.size + R'.cells ≤ e.platform.maxCells
      omega
    · show T.slotsUsed + R'.slots ≤ e.platform.maxSlots
      omega
  · rw [State.stackLimits_setFrames]; rfl
  · rw [State.stackBytes_setFrames]; rfl
  · refine ⟨?_, Nat.le_refl _, Nat.le_refl _, ?_, ?_, fun a c9 h9 => ⟨c9, h9, rfl, rfl, fun _ _ => rfl⟩⟩
    · obtain ⟨t, ht, -⟩ := State.frames_cons hr
      show T.setVm s.vm = { ((T.setVm s.vm).setFrames (.invoking m args :: below)).setFrames (T.setVm s.vm).frames with heap := T.heap, slotsUsed := T.slotsUsed }
      rw [State.setFrames_setFrames, State.setFrames_self ht]
      rfl
    · show T.slotsUsed = T.slotsUsed + ((T.heap.toList.drop T.heap.size).map (·.slots.size)).sum
      rw [List.drop_eq_nil_of_le (Nat.le_of_eq Array.length_toList)]
      rfl
    · show ((T.heap.toList.drop T.heap.size).map (·.slots.size)).sum ≤ 0
      rw [List.drop_eq_nil_of_le (Nat.le_of_eq Array.length_toList)]
      exact Nat.le_refl _
/-- 'throw new E()': new; dup; invokespecial; athrow -/
theorem vx_throw0 {cc : ByteArray} {pc : Nat} (hexec : p.tables.exec = Jvm.exec) (hb : c.code = cc) (hl : l.stackTraces = false) {own cls : String} {names : List String} {ik ic mc ms : Nat} {A : Nat → Prop}
    (hown : s.vm.findClass own = some m.cls) (hcls : Bundle.fit cls = true) (hnames : ∀ n ∈ names, Bundle.fit n = true)
    (hk : (Cond.classLink own ik cls).before args s = true) (hini : (Cond.initialized cls).before args s = true) (hat : ∀ w ∈ vx_at0 own ic cls names, w.before args s = true)
    (hgood : ∀ w ∈ Cond.classLink own ik cls :: Cond.initialized cls :: vx_at0 own ic cls names, vx_ot w = true)
    (hU : vx_Zq Bundle.tN "UNASSIGNED_STACK" Bundle.steD A s s.heap) (hN : vx_Zq Bundle.tN "SUPPRESSED_SENTINEL" Bundle.listD A s s.heap) (hS : va_S A s.heap H locs) (hsize : ls.size = c.maxLocals)
    (d0 : decode cc pc = .ok (.new ik, 3)) (d3 : decode cc (pc + 3) = .ok (.dup, 1)) (d4 : decode cc (pc + 4) = .ok (.invokespecial ic, 3)) (d7 : decode cc (pc + 7) = .ok (.athrow, 1))
    (hout : ∀ x ∈ c.exceptionTable.toList, covers x (pc + 7) = false)
    (hRframes : names.length + 3 < R.frames) (hRlocals : (rest.map fun v => v.category).sum + (13 * (names.length + 1) + 42) ≤ R.locals) (hRcells : cells + 1 ≤ R.cells) (hRslots : slots + 6 ≤ R.slots) (hlocks : meth.locks = false)
    (hx : ∀ t : State, s.vm.Alike t.vm → H.size ≤ t.heap.size → (∀ q : Nat, q < H.size → t.heap[q]? = H[q]?) → XC cls s t)
    (hf : ∀ z ∈ locs, free z.base) (hc : cells + 1 ≤ mc) (hs : slots + 6 ≤ ms) :
    W p l e R s m args below meth c H locs cells slots (vx_MQ below Qc XC args s mc ms free) (F0 m pc ls rest) := by
  intro T hT X
  have htr : e.platform.stackTraces = false := (show e.platform.stackTraces = l.stackTraces by rw [X.admits.platform]).trans hl
  have Y := vx_rebase X (R' := { frames := R.frames, locals := R.locals, cells := 1, slots := 6 }) (Nat.le_refl _) (Nat.le_refl _) hRcells hRslots
  obtain ⟨s', hA⟩ : ∃ z, z = (T.setVm s.vm).setFrames (.invoking m args :: below) := ⟨_, rfl⟩
  rw [← hA] at Y
  have hvm : s'.vm = s.vm := by rw [hA]; rfl
  have hhp : s'.heap = H := by rw [hA]; exact hT
  have hW0 : s.WarmedH s'.vm := by rw [hvm]; exact State.WarmedH.refl s
  have hat' : ∀ w ∈ vx_at0 own ic cls names, w.before args s' = true := fun w hw => vx_ot_at hW0 hvm.symm (hgood w (List.mem_cons_of_mem _ (List.mem_cons_of_mem _ hw))) (hat w hw)
  have hk' : (Cond.classLink own ik cls).before args s' = true := vx_ot_at hW0 hvm.symm (hgood _ List.mem_cons_self) hk
  have hini' : (Cond.initialized cls).before args s' = true := vx_ot_at hW0 hvm.symm (hgood _ (List.mem_cons_of_mem _ List.mem_cons_self)) hini
  have hU' : vx_Zq Bundle.tN "UNASSIGNED_STACK" Bundle.steD A s' s'.heap := by rw [hhp]; exact vx_Zq.moved hW0.alike (hU.kept hS.2.1)
  have hN' : vx_Zq Bundle.tN "SUPPRESSED_SENTINEL" Bundle.listD A s' s'.heap := by rw [hhp]; exact vx_Zq.moved hW0.alike (hN.kept hS.2.1)
  have h : ∀ w ∈ Bundle.ownAtoms0 own ic cls names, w.before args s' = true := vx_own hat' (vx_isRefq hU'.1) (vx_isRefq hN'.1) hU'.2.word hN'.2.word
  have hown' : s'.vm.findClass own = some m.cls := by rw [hvm]; exact hown
  have hins : (Cond.instantiable cls 6).before args s' = true := h _ (by simp [Bundle.ownAtoms0])
  obtain ⟨vm₁, cX, kX, hfX, hkX, -, -, X₁, st1⟩ := Y.newCold hexec (own := own) (C := cls) (index := ik) (n := 6) hown' hk' hins hini'
    (g := F0 m pc ls rest) rfl (by rw [hb]; exact d0) (Nat.le_refl _) (Nat.le_refl _)
  generalize hT1 : (T.setVm vm₁).pushCell { cls := cX, slots := kX.instanceTypes.map defaultValue, vm := .none } = T1 at X₁ st1
  have hcat : (Value.ref T.heap.size).category = 1 := rfl
  have hcellA : T1.heap[T.heap.size]? = some (freshCell cX kX) := by rw [← hT1]; exact State.heap_pushCell_size _ _
  have d3' : decode c.code (pc + 3) = .ok (.dup, 1) := by rw [hb]; exact d3
  obtain ⟨U, hsteps, hrun, hend, hW, hsame, ce, hce, hO⟩ := X₁.ctorThrow0 hexec htr (own := own) (cls := cls) (names := names) (ic := ic) hown' hcls hnames h (fun x hx => nomatch hx) hfX hkX hcellA (by rw [hhp, hT]; exact Nat.le_refl _)
    (g := { method := m, pc := pc + 4, locals := ls, stack := .ref T.heap.size :: .ref T.heap.size :: rest, locked := none }) rfl hsize rfl rfl (rest := rest) rfl
    (by rw [hb]; exact d4) (by rw [hb]; exact d7) hout hRframes (by simp only [List.map_cons, List.sum_cons, hcat]; omega) hlocks
  obtain ⟨f1, f2⟩ := vx_frame hsame
  rw [hhp] at f1 f2
  have hWs : s.WarmedH U.vm := State.WarmedH.trans hW0 hW
  have hcl : s.vm.findClass cls = some ce.cls := by
    have h9 := hO.cls
    rw [hvm] at h9
    exact h9
  have hall : s.sameButNew ({ U with vm := s.vm } : State) locs mc ms := by
    subst hA
    obtain ⟨e1, e2⟩ := hsame
    rw [State.setFrames_setFrames] at e1
    have h2 : (T.setVm s.vm).sameButNew ({ U with vm := s.vm } : State) [] (0 + 1) (0 + 6) := ⟨e1, e2⟩
    have h3 := X.same.trans h2
    rw [List.append_nil] at h3
    exact h3.mono hc hs
  refine ⟨U, ?_, .threw T.heap.size, hrun, hend, Or.inr ⟨T.heap.size, rfl, cls, ce, locs, hx U hWs.alike f1 (fun q hq => f2 q hq (fun z hz => nomatch hz)), hce, hO.vm, hcl, hWs, hall, hf⟩⟩
  refine st1 _ ?_
  show Steps p.tables e below (T1.setTop { method := m, pc := pc + 3, locals := ls, stack := .ref T.heap.size :: rest, locked := none }) _
  jvm_step X₁.here [X₁.here.top, hexec, d3', Value.category]
  exact hsteps
/-- 'throw new E("text")': new; dup; ldc; invokespecial; athrow -/
theorem vx_throwS {cc : ByteArray} {pc : Nat} (hexec : p.tables.exec = Jvm.exec) (hb : c.code = cc) (hl : l.stackTraces = false) {own cls text : String} {names : List String} {ik is ic mc ms sa : Nat} {A : Nat → Prop}
    (hown : s.vm.findClass own = some m.cls) (hcls : Bundle.fit cls = true) (hnames : ∀ n ∈ names, Bundle.fit n = true)
    (hk : (Cond.classLink own ik cls).before args s = true) (hini : (Cond.initialized cls).before args s = true) (hstr : vk_R own is text sa s) (hat : ∀ w ∈ vx_atS own ic cls names, w.before args s = true)
    (hgood : ∀ w ∈ Cond.classLink own ik cls :: Cond.initialized cls :: vx_atS own ic cls names, vx_ot w = true)
    (hU : vx_Zq Bundle.tN "UNASSIGNED_STACK" Bundle.steD A s s.heap) (hN : vx_Zq Bundle.tN "SUPPRESSED_SENTINEL" Bundle.listD A s s.heap) (hS : va_S A s.heap H locs) (hsize : ls.size = c.maxLocals)
    (d0 : decode cc pc = .ok (.new ik, 3)) (d3 : decode cc (pc + 3) = .ok (.dup, 1)) (d4 : decode cc (pc + 4) = .ok (.ldc is, 2)) (d6 : decode cc (pc + 6) = .ok (.invokespecial ic, 3)) (d9 : decode cc (pc + 9) = .ok (.athrow, 1))
    (hout : ∀ x ∈ c.exceptionTable.toList, covers x (pc + 9) = false)
    (hRframes : names.length + 3 < R.frames) (hRlocals : (rest.map fun v => v.category).sum + (13 * (names.length + 1) + 43) ≤ R.locals) (hRcells : cells + 1 ≤ R.cells) (hRslots : slots + 6 ≤ R.slots) (hlocks : meth.locks = false)
    (hx : ∀ t : State, s.vm.Alike t.vm → H.size ≤ t.heap.size → (∀ q : Nat, q < H.size → t.heap[q]? = H[q]?) → XC cls s t)
    (hf : ∀ z ∈ locs, free z.base) (hc : cells + 1 ≤ mc) (hs : slots + 6 ≤ ms) :
    W p l e R s m args below meth c H locs cells slots (vx_MQ below Qc XC args s mc ms free) (F0 m pc ls rest) := by
  intro T hT X
  have htr : e.platform.stackTraces = false := (show e.platform.stackTraces = l.stackTraces by rw [X.admits.platform]).trans hl
  have Y := vx_rebase X (R' := { frames := R.frames, locals := R.locals, cells := 1, slots := 6 }) (Nat.le_refl _) (Nat.le_refl _) hRcells hRslots
  obtain ⟨s', hA⟩ : ∃ z, z = (T.setVm s.vm).setFrames (.invoking m args :: below) := ⟨_, rfl⟩
  rw [← hA] at Y
  have hvm : s'.vm = s.vm := by rw [hA]; rfl
  have hhp : s'.heap = H := by rw [hA]; exact hT
  have hW0 : s.WarmedH s'.vm := by rw [hvm]; exact State.WarmedH.refl s
  have hat' : ∀ w ∈ vx_atS own ic cls names, w.before args s' = true := fun w hw => vx_ot_at hW0 hvm.symm (hgood w (List.mem_cons_of_mem _ (List.mem_cons_of_mem _ hw))) (hat w hw)
  have hk' : (Cond.classLink own ik cls).before args s' = true := vx_ot_at hW0 hvm.symm (hgood _ List.mem_cons_self) hk
  have hini' : (Cond.initialized cls).before args s' = true := vx_ot_at hW0 hvm.symm (hgood _ (List.mem_cons_of_mem _ List.mem_cons_self)) hini
  have hU' : vx_Zq Bundle.tN "UNASSIGNED_STACK" Bundle.steD A s' s'.heap := by rw [hhp]; exact vx_Zq.moved hW0.alike (hU.kept hS.2.1)
  have hN' : vx_Zq Bundle.tN "SUPPRESSED_SENTINEL" Bundle.listD A s' s'.heap := by rw [hhp]; exact vx_Zq.moved hW0.alike (hN.kept hS.2.1)
  have h : ∀ w ∈ Bundle.ownAtoms own ic cls names, w.before args s' = true := vx_own hat' (vx_isRefq hU'.1) (vx_isRefq hN'.1) hU'.2.word hN'.2.word
  have hown' : s'.vm.findClass own = some m.cls := by rw [hvm]; exact hown
  have hins : (Cond.instantiable cls 6).before args s' = true := h _ (by simp [Bundle.ownAtoms])
  obtain ⟨vm₁, cX, kX, hfX, hkX, -, -, X₁, st1⟩ := Y.newCold hexec (own := own) (C := cls) (index := ik) (n := 6) hown' hk' hins hini'
    (g := F0 m pc ls rest) rfl (by rw [hb]; exact d0) (Nat.le_refl _) (Nat.le_refl _)
  generalize hT1 : (T.setVm vm₁).pushCell { cls := cX, slots := kX.instanceTypes.map defaultValue, vm := .none } = T1 at X₁ st1
  have hcat : (Value.ref T.heap.size).category = 1 := rfl
  have hcellA : T1.heap[T.heap.size]? = some (freshCell cX kX) := by rw [← hT1]; exact State.heap_pushCell_size _ _
  have d3' : decode c.code (pc + 3) = .ok (.dup, 1) := by rw [hb]; exact d3
  have d4' : decode c.code (pc + 4) = .ok (.ldc is, 2) := by rw [hb]; exact d4
  have hstr' : vk_R own is text sa s' := vk_R.warm hW0 hstr
  obtain ⟨U, hsteps, hrun, hend, hW, hsame, ce, hce, hO⟩ := X₁.ctorThrowS hexec htr (own := own) (cls := cls) (names := names) (ic := ic) hown' hcls hnames h (fun x hx => nomatch hx) hfX hkX hcellA (by rw [hhp, hT]; exact Nat.le_refl _) (msg := .ref sa) rfl
    (g := { method := m, pc := pc + 6, locals := ls, stack := .ref sa :: .ref T.heap.size :: .ref T.heap.size :: rest, locked := none }) rfl hsize rfl rfl (rest := rest) rfl
    (by rw [hb]; exact d6) (by rw [hb]; exact d9) hout hRframes (by simp only [List.map_cons, List.sum_cons, hcat]; omega) hlocks
  obtain ⟨f1, f2⟩ := vx_frame hsame
  rw [hhp] at f1 f2
  have hWs : s.WarmedH U.vm := State.WarmedH.trans hW0 hW
  have hcl : s.vm.findClass cls = some ce.cls := by
    have h9 := hO.cls
    rw [hvm] at h9
    exact h9
  have hall : s.sameButNew ({ U with vm := s.vm } : State) locs mc ms := by
    subst hA
    obtain ⟨e1, e2⟩ := hsame
    rw [State.setFrames_setFrames] at e1
    have h2 : (T.setVm s.vm).sameButNew ({ U with vm := s.vm } : State) [] (0 + 1) (0 + 6) := ⟨e1, e2⟩
    have h3 := X.same.trans h2
    rw [List.append_nil] at h3
    exact h3.mono hc hs
  refine ⟨U, ?_, .threw T.heap.size, hrun, hend, Or.inr ⟨T.heap.size, rfl, cls, ce, locs, hx U hWs.alike f1 (fun q hq => f2 q hq (fun z hz => nomatch hz)), hce, hO.vm, hcl, hWs, hall, hf⟩⟩
  refine st1 _ ?_
  show Steps p.tables e below (T1.setTop { method := m, pc := pc + 3, locals := ls, stack := .ref T.heap.size :: rest, locked := none }) _
  jvm_step X₁.here [X₁.here.top, hexec, d3', Value.category]
  exact X₁.ldcString hexec (own := own) (text := text) (index := is) (a := sa) hown' hstr'.1 hstr'.2
    (g := { method := m, pc := pc + 4, locals := ls, stack := .ref T.heap.size :: .ref T.heap.size :: rest, locked := none }) rfl d4' _ hsteps
/-- 'throw new E("text")', the text by a wide index -/
theorem vx_throwSW {cc : ByteArray} {pc : Nat} (hexec : p.tables.exec = Jvm.exec) (hb : c.code = cc) (hl : l.stackTraces = false) {own cls text : String} {names : List String} {ik is ic mc ms sa : Nat} {A : Nat → Prop}
    (hown : s.vm.findClass own = some m.cls) (hcls : Bundle.fit cls = true) (hnames : ∀ n ∈ names, Bundle.fit n = true)
    (hk : (Cond.classLink own ik cls).before args s = true) (hini : (Cond.initialized cls).before args s = true) (hstr : vk_R own is text sa s) (hat : ∀ w ∈ vx_atS own ic cls names, w.before args s = true)
    (hgood : ∀ w ∈ Cond.classLink own ik cls :: Cond.initialized cls :: vx_atS own ic cls names, vx_ot w = true)
    (hU : vx_Zq Bundle.tN "UNASSIGNED_STACK" Bundle.steD A s s.heap) (hN : vx_Zq Bundle.tN "SUPPRESSED_SENTINEL" Bundle.listD A s s.heap) (hS : va_S A s.heap H locs) (hsize : ls.size = c.maxLocals)
    (d0 : decode cc pc = .ok (.new ik, 3)) (d3 : decode cc (pc + 3) = .ok (.dup, 1)) (d4 : decode cc (pc + 4) = .ok (.ldc_w is, 3)) (d7 : decode cc (pc + 7) = .ok (.invokespecial ic, 3)) (d10 : decode cc (pc + 10) = .ok (.athrow, 1))
    (hout : ∀ x ∈ c.exceptionTable.toList, covers x (pc + 10) = false)
    (hRframes : names.length + 3 < R.frames) (hRlocals : (rest.map fun v => v.category).sum + (13 * (names.length + 1) + 43) ≤ R.locals) (hRcells : cells + 1 ≤ R.cells) (hRslots : slots + 6 ≤ R.slots) (hlocks : meth.locks = false)
    (hx : ∀ t : State, s.vm.Alike t.vm → H.size ≤ t.heap.size → (∀ q : Nat, q < H.size → t.heap[q]? = H[q]?) → XC cls s t)
    (hf : ∀ z ∈ locs, free z.base) (hc : cells + 1 ≤ mc) (hs : slots + 6 ≤ ms) :
    W p l e R s m args below meth c H locs cells slots (vx_MQ below Qc XC args s mc ms free) (F0 m pc ls rest) := by
  intro T hT X
  have htr : e.platform.stackTraces = false := (show e.platform.stackTraces = l.stackTraces by rw [X.admits.platform]).trans hl
  have Y := vx_rebase X (R' := { frames := R.frames, locals := R.locals, cells := 1, slots := 6 }) (Nat.le_refl _) (Nat.le_refl _) hRcells hRslots
  obtain ⟨s', hA⟩ : ∃ z, z = (T.setVm s.vm).setFrames (.invoking m args :: below) := ⟨_, rfl⟩
  rw [← hA] at Y
  have hvm : s'.vm = s.vm := by rw [hA]; rfl
  have hhp : s'.heap = H := by rw [hA]; exact hT
  have hW0 : s.WarmedH s'.vm := by rw [hvm]; exact State.WarmedH.refl s
  have hat' : ∀ w ∈ vx_atS own ic cls names, w.before args s' = true := fun w hw => vx_ot_at hW0 hvm.symm (hgood w (List.mem_cons_of_mem _ (List.mem_cons_of_mem _ hw))) (hat w hw)
  have hk' : (Cond.classLink own ik cls).before args s' = true := vx_ot_at hW0 hvm.symm (hgood _ List.mem_cons_self) hk
  have hini' : (Cond.initialized cls).before args s' = true := vx_ot_at hW0 hvm.symm (hgood _ (List.mem_cons_of_mem _ List.mem_cons_self)) hini
  have hU' : vx_Zq Bundle.tN "UNASSIGNED_STACK" Bundle.steD A s' s'.heap := by rw [hhp]; exact vx_Zq.moved hW0.alike (hU.kept hS.2.1)
  have hN' : vx_Zq Bundle.tN "SUPPRESSED_SENTINEL" Bundle.listD A s' s'.heap := by rw [hhp]; exact vx_Zq.moved hW0.alike (hN.kept hS.2.1)
  have h : ∀ w ∈ Bundle.ownAtoms own ic cls names, w.before args s' = true := vx_own hat' (vx_isRefq hU'.1) (vx_isRefq hN'.1) hU'.2.word hN'.2.word
  have hown' : s'.vm.findClass own = some m.cls := by rw [hvm]; exact hown
  have hins : (Cond.instantiable cls 6).before args s' = true := h _ (by simp [Bundle.ownAtoms])
  obtain ⟨vm₁, cX, kX, hfX, hkX, -, -, X₁, st1⟩ := Y.newCold hexec (own := own) (C := cls) (index := ik) (n := 6) hown' hk' hins hini'
    (g := F0 m pc ls rest) rfl (by rw [hb]; exact d0) (Nat.le_refl _) (Nat.le_refl _)
  generalize hT1 : (T.setVm vm₁).pushCell { cls := cX, slots := kX.instanceTypes.map defaultValue, vm := .none } = T1 at X₁ st1
  have hcat : (Value.ref T.heap.size).category = 1 := rfl
  have hcellA : T1.heap[T.heap.size]? = some (freshCell cX kX) := by rw [← hT1]; exact State.heap_pushCell_size _ _
  have d3' : decode c.code (pc + 3) = .ok (.dup, 1) := by rw [hb]; exact d3
  have d4' : decode c.code (pc + 4) = .ok (.ldc_w is, 3) := by rw [hb]; exact d4
  have hstr' : vk_R own is text sa s' := vk_R.warm hW0 hstr
  obtain ⟨U, hsteps, hrun, hend, hW, hsame, ce, hce, hO⟩ := X₁.ctorThrowS hexec htr (own := own) (cls := cls) (names := names) (ic := ic) hown' hcls hnames h (fun x hx => nomatch hx) hfX hkX hcellA (by rw [hhp, hT]; exact Nat.le_refl _) (msg := .ref sa) rfl
    (g := { method := m, pc := pc + 7, locals := ls, stack := .ref sa :: .ref T.heap.size :: .ref T.heap.size :: rest, locked := none }) rfl hsize rfl rfl (rest := rest) rfl
    (by rw [hb]; exact d7) (by rw [hb]; exact d10) hout hRframes (by simp only [List.map_cons, List.sum_cons, hcat]; omega) hlocks
  obtain ⟨f1, f2⟩ := vx_frame hsame
  rw [hhp] at f1 f2
  have hWs : s.WarmedH U.vm := State.WarmedH.trans hW0 hW
  have hcl : s.vm.findClass cls = some ce.cls := by
    have h9 := hO.cls
    rw [hvm] at h9
    exact h9
  have hall : s.sameButNew ({ U with vm := s.vm } : State) locs mc ms := by
    subst hA
    obtain ⟨e1, e2⟩ := hsame
    rw [State.setFrames_setFrames] at e1
    have h2 : (T.setVm s.vm).sameButNew ({ U with vm := s.vm } : State) [] (0 + 1) (0 + 6) := ⟨e1, e2⟩
    have h3 := X.same.trans h2
    rw [List.append_nil] at h3
    exact h3.mono hc hs
  refine ⟨U, ?_, .threw T.heap.size, hrun, hend, Or.inr ⟨T.heap.size, rfl, cls, ce, locs, hx U hWs.alike f1 (fun q hq => f2 q hq (fun z hz => nomatch hz)), hce, hO.vm, hcl, hWs, hall, hf⟩⟩
  refine st1 _ ?_
  show Steps p.tables e below (T1.setTop { method := m, pc := pc + 3, locals := ls, stack := .ref T.heap.size :: rest, locked := none }) _
  jvm_step X₁.here [X₁.here.top, hexec, d3', Value.category]
  exact X₁.ldcStringW hexec (own := own) (text := text) (index := is) (a := sa) hown' hstr'.1 hstr'.2
    (g := { method := m, pc := pc + 4, locals := ls, stack := .ref T.heap.size :: .ref T.heap.size :: rest, locked := none }) rfl d4' _ hsteps
end Ends
section Bodies
variable {l : Launch}
theorem vx_ofW {y : MethodName} {ws ws' : List Cond} {rm : Room} {Pc : Array Value → State → Prop} {Qc : Array Value → State → Outcome → State → Prop} {XC : String → State → State → Prop} {mc ms : Nat} {free : Addr → Prop} {cc : ByteArray} {maxL : Nat} {ret : Option FieldType}
    (hy : plainName y.cls = true) (hw : ws = Cond.code y cc maxL ret :: ws')
    (body : ∀ p e s m args below meth c s₁, BodyLoose p l y (headSpec ws rm) cc maxL ret e s m args below meth c s₁ → c.maxLocals = maxL → (∀ x ∈ c.exceptionTable.toList, False) → Pc args s →
      W p l e (headSpec ws rm).room s m args below meth c s.heap [] 0 0 (vx_MQ below Qc XC args s mc ms free) (entryFrame m args maxL)) : vx_Met l y ws rm Pc Qc XC mc ms free := by
  refine MetFree.of_bodyS (code := cc) (maxLocals := maxL) (ret := ret) hy ?_ ?_
  · intro args s m h hn
    obtain ⟨meth, c, h1, h2, h3, h4, h5, h6, -, -⟩ := Cond.code_spec hn (atoms_spec (ws := ws) h _ (by rw [hw]; exact List.mem_cons_self))
    exact ⟨meth, c, h1, h2, h3, h4, h5, h6⟩
  · intro p e s m args below meth c s₁ B hml hP _
    have hh0 : s₁.heap = s.heap := by rw [B.state]; rfl
    have ht : ∀ x ∈ c.exceptionTable.toList, False := by
      obtain ⟨meth9, c9, h1, h2, -, -, -, -, h7, -⟩ := Cond.code_spec B.named (atoms_spec (ws := ws) B.pre _ (by rw [hw]; exact List.mem_cons_self))
      cases Option.some.inj (h1.symm.trans B.method)
      cases Option.some.inj (h2.symm.trans (Stand.of_body B).code)
      intro x hx
      rw [Array.isEmpty_iff.mp h7] at hx
      cases hx
    obtain ⟨t, a1, o, b1, b2, b3⟩ := body p e s m args below meth c s₁ B hml ht hP s₁ hh0 (Stand.of_body B)
    exact ⟨t, o, a1, b1, b2, b3⟩
/-- the table of a body with handlers -/
theorem vx_table {p : Program} {x y : MethodName} {S : Spec} {cc bytes : ByteArray} {maxL maxL' : Nat} {ret ret' : Option FieldType} {e : Env} {s s₁ : State} {m : MethodId} {args : Array Value} {below : List Frame} {meth : Method} {c : Code} {hh : List (Nat × Nat × Nat × Nat)}
    (B : BodyLoose p l y S cc maxL ret e s m args below meth c s₁) (h : (Cond.codeWith y bytes maxL' ret' hh).before args s = true) : c.exceptionTable.toList = tableOf hh := by
  obtain ⟨m9, meth9, c9, hn9, h1, h2, -, -, h6, -⟩ := Cond.codeWith_spec h
  cases Option.some.inj (hn9.symm.trans B.named)
  cases Option.some.inj (h1.symm.trans B.method)
  cases Option.some.inj (h2.symm.trans (Stand.of_body B).code)
  rw [← h6, table_eq]
end Bodies
end VXA
/-! ===== END ===== -/
/-! ===== BEGIN a static call of a method with an exception table ===== -/
section VXS
variable {p : Program} {l : Launch} {e : Env} {R : Room} {s : State} {m : MethodId} {args : Array Value} {below : List Frame} {meth : Method} {c : Code} {T : State} {H : Heap} {locs : List Loc} {cells slots : Nat}
abbrev vx_CSW (R : Room) (s : State) (args : Array Value) (own : String) (index : Nat) (y : MethodName) (bytes : ByteArray) (maxL : Nat) (ret : Option FieldType) (hh : List (Nat × Nat × Nat × Nat)) (ws : List Cond) (rm : Room) (mc ms n : Nat) : Prop :=
  (rm.cells = mc ∧ rm.slots = ms ∧ rm.frames + 1 ≤ R.frames ∧ 8 + (maxL + 11) + rm.locals ≤ R.locals ∧ (∀ w ∈ ws, ∀ (a' : Array Value) (U : State), s.WarmedH U.vm → w.before a' U = true) ∧ Cond.codeWith y bytes maxL ret hh ∈ ws) ∧
  (Cond.codeWith y bytes maxL ret hh).before args s = true ∧ (Cond.initialized y.cls).before args s = true ∧ (y.cls ≠ "java/lang/invoke/MethodHandle" ∧ y.cls ≠ "java/lang/invoke/VarHandle") ∧
  (∀ sig, parseMethodDescriptor y.desc = some sig → n = sig.parameters.length) ∧ (Cond.methodLink own index y).before args s = true ∧ (Cond.static y).before args s = true
theorem vx_cwSW {own : String} {index maxL mc ms : Nat} {y : MethodName} {bytes : ByteArray} {ret : Option FieldType} {hh : List (Nat × Nat × Nat × Nat)} {Ts ws ws' : List Cond} {rm : Room} (n : Nat) (ht : ∀ w ∈ Ts, w.before args s = true) (hT : GoodIn Ts (va_wsS own index y ws)) (hw : ws = Cond.codeWith y bytes maxL ret hh :: ws') (hrc : rm.cells = mc) (hrs : rm.slots = ms)
    (hd : y.cls ≠ "java/lang/invoke/MethodHandle" ∧ y.cls ≠ "java/lang/invoke/VarHandle" ∧ (parseMethodDescriptor y.desc).map (fun d => d.parameters.length) = some n) (hR : rm.frames + 1 ≤ R.frames ∧ 8 + (maxL + 11) + rm.locals ≤ R.locals) :
    vx_CSW R s args own index y bytes maxL ret hh ws rm mc ms n := by
  have ok : ∀ w ∈ va_wsS own index y ws, w.before args s = true := fun w h => ht w (hT w h).1
  have hG : GoodIn Ts ws := fun w h => hT w (by unfold va_wsS; exact List.mem_append_right _ h)
  have hc : Cond.codeWith y bytes maxL ret hh ∈ ws := by rw [hw]; exact List.mem_cons_self
  refine ⟨⟨hrc, hrs, hR.1, hR.2, pay_in ht hG, hc⟩, ht _ (hG _ hc).1, ok _ (by simp [va_wsS]), ⟨hd.1, hd.2.1⟩, fun sig h => ?_, ok _ (by simp [va_wsS]), ok _ (by simp [va_wsS])⟩
  have h2 := hd.2.2
  rw [h] at h2
  exact (Option.some.inj h2).symm
theorem vx_callSW (X : Stand p l e R s m args below meth c T locs cells slots) (hexec : p.tables.exec = Jvm.exec) {own : String} {index : Nat} {y : MethodName} {bytes : ByteArray} {maxL : Nat} {ret : Option FieldType} {hh : List (Nat × Nat × Nat × Nat)}
    (hown : s.vm.findClass own = some m.cls) (hlink : (Cond.methodLink own index y).before args s = true) (hstat : (Cond.static y).before args s = true) (hinit : (Cond.initialized y.cls).before args s = true)
    (hcode : (Cond.codeWith y bytes maxL ret hh).before args s = true) (hy : y.cls ≠ "java/lang/invoke/MethodHandle" ∧ y.cls ≠ "java/lang/invoke/VarHandle")
    {W9 : Nat} {Pre : Pt → Array Value → Prop} {Post : Pt → Array Value → Option Value → Pt → Prop} (hK : Back l R p e below s args y 3 W9 Pre Post)
    {g : JFrame} (hg : g.method = m) (hsize : g.locals.size = c.maxLocals) {argsL rest : List Value} (hlen : ∀ sig, parseMethodDescriptor y.desc = some sig → argsL.length = sig.parameters.length)
    (hstack : g.stack = argsL.reverse ++ rest) (hW : 2 * g.monitorRoom + (rest.map fun v => v.category).sum ≤ W9) (hdg : decode c.code g.pc = .ok (.invokestatic index, 3))
    (hpre : ∀ vm₁, s.WarmedH vm₁ → Pre ⟨T.setVm vm₁, locs, cells, slots⟩ argsL.toArray) :
    ∃ (v : Option Value) (vm₁ : Vm) (B : Pt), s.WarmedH vm₁ ∧ Stand p l e R s m args below meth c B.U B.locs B.cells B.slots ∧ Post ⟨T.setVm vm₁, locs, cells, slots⟩ argsL.toArray v B ∧
      ∀ target, Steps p.tables e below (B.U.setTop { g with pc := g.pc + 3, stack := v.toList ++ rest }) target → Steps p.tables e below (T.setTop g) target := by
  obtain ⟨mk, methM, cM, hnamed, hmethM, -, -, -, -, -, -, hsigM⟩ := Cond.codeWith_spec hcode
  have hstatic : methM.isStatic = true := Cond.static_spec hnamed hmethM hstat
  obtain ⟨kP, hkP, -⟩ := className_of_methodNamed hnamed
  have hinitP : kP.init = .initialized := Cond.initialized_spec (findClass_of_methodNamed hnamed) hkP hinit
  obtain ⟨vm₁, X₁, hstep₁⟩ := X.invokestatic hexec hown hlink hnamed hmethM hstatic hkP hinitP hy (g := g) hg (argsL := argsL) (rest := rest) (hlen _ hsigM) hstack hdg
  obtain ⟨v, B, X', hpost, hsteps⟩ := hK m meth c ⟨T.setVm vm₁, locs, cells, slots⟩ { g with stack := rest } (.invokestatic index) mk argsL.toArray X₁ hg hsize hdg hW (X₁.named hnamed) (hpre vm₁ X₁.warmed)
  exact ⟨v, vm₁, B, X₁.warmed, X', hpost, fun target h => hstep₁ _ fun acts => by rw [doInvoke_state]; exact hsteps.trans h⟩
theorem vx_runSW {y : MethodName} {bytes cc : ByteArray} {maxL nL mc ms n index : Nat} {ret : Option FieldType} {hh : List (Nat × Nat × Nat × Nat)} {ws : List Cond} {rm : Room} {Pc : Array Value → State → Prop} {Qc : Array Value → State → Outcome → State → Prop} {free : Addr → Prop} {Ts : List Cond} {own : String} {As rest : List Value} {g : JFrame}
    (S : CallFix p m c cc nL s args Ts own) (hM : Met l y ws rm Pc Qc mc ms free) (cw : vx_CSW R s args own index y bytes maxL ret hh ws rm mc ms n) (hp : PreS s H Pc As)
    (hg : g.method = m) (hn : As.length = n) (hsize : g.locals.size = nL) (hstack : g.stack = As.reverse ++ rest) (hW : 2 * g.monitorRoom + (rest.map fun v => v.category).sum ≤ 8) (hdg : decode cc g.pc = .ok (.invokestatic index, 3)) (hf : cells + mc ≤ R.cells ∧ slots + ms ≤ R.slots) :
    va_Run p l e R s m args below meth c H locs cells slots mc ms g rest (Qc As.toArray) (free) := by
  obtain ⟨⟨hrc, hrs, hfr, hlo, hws, hcw⟩, hcode, hini, hy, hlen, hl, hstt⟩ := cw
  have hK : Back l R p e below s args y 3 8 (PreOf R mc ms Pc) (PostOf Qc mc ms free) := va_backW (hh := hh) (bytes := bytes) (maxL := maxL) (ret := ret) hM hp.1 hrc hrs hfr hlo hws hcw (fun a' U hW => word_at hW (Or.inl (by first | rfl | simp [Cond.onTables, Cond.keeps, Cond.steady])) hini)
  obtain ⟨hx, hb, hml, ho, -⟩ := S
  intro T hT X
  obtain ⟨v, vm₁, ⟨U', l2, c2, s2⟩, hW₁, X', ⟨g', mk, t, L, e1, e2, hq, h1, hL, h2, h3⟩, st⟩ := vx_callSW X hx (hh := hh) (bytes := bytes) (maxL := maxL) (ret := ret) ho hl hstt hini hcode hy hK hg (hsize.trans hml.symm) (argsL := As) (rest := rest) (fun sig h => hn.trans (hlen sig h)) hstack hW (by rw [hb]; exact hdg)
    (fun vm₁ hW₁ => ⟨hf.1, hf.2, hp.2 (T.setVm vm₁) hT hW₁⟩)
  dsimp only [Pt.U, Pt.locs, Pt.cells, Pt.slots] at X' e1 e2 h1 h2 h3 st
  subst h1; subst h2; subst h3
  exact ⟨v, (T.setVm vm₁).calling g' mk As.toArray, t, U', L, hT, X', hL, e1, e2, hq, st⟩
/-- not caught here, past rows that name other classes: it goes on to the caller -/
theorem vx_outP {p : Program} {l : Launch} {e : Env} {R : Room} {s : State} {m : MethodId} {args : Array Value} {below : List Frame} {meth : Method} {c : Code} {H : Heap} {locs : List Loc} {cells slots : Nat} {free : Addr → Prop} {ls : Array Slot} {rest : List Value} {Qc : Array Value → State → Outcome → State → Prop} {XC : String → State → State → Prop}
    {pc : Nat} {own E : String} {ce : Cell} {q : Addr} {mc ms : Nat} (hown : s.vm.findClass own = some m.cls) (hlocks : meth.locks = false)
    (hpass : ∀ z ∈ c.exceptionTable.toList, covers z pc = false ∨ (z.catchType ≠ 0 ∧ ∃ nm : String, (Cond.classLink own z.catchType nm).before args s = true ∧ va_Nc E nm s)) (hcell : H[q]? = some ce) (hv : ce.vm = .none) (hcl : s.vm.findClass E = some ce.cls)
    (hx : ∀ t : State, t.heap = H → s.vm.Alike t.vm → XC E s t) (hf : ∀ z ∈ locs, free z.base) (hc : cells ≤ mc) (hs : slots ≤ ms) :
    vx_W p l e R s m args below meth c H locs cells slots (vx_MQ below Qc XC args s mc ms free) (F0 m pc ls rest) q := by
  intro T hT X
  have hpl : e.platform.magicAccessors = ({} : Platform).magicAccessors := by rw [X.admits.platform]
  obtain ⟨vm', hW', X', st⟩ := X.outThrough hlocks q (g := F0 m pc ls rest) rfl rfl rfl (cell := ce) (by rw [hT]; exact hcell) (by rw [hv]; rfl)
    (by obtain ⟨k9, h9, -⟩ := Vm.findClass_spec hcl; exact ⟨k9, h9⟩) (fun z hz => by
      rcases hpass z hz with h | ⟨hz0, nm, hl1, hn1⟩
      · exact Or.inl h
      · obtain ⟨c6, hc6, hcl6⟩ := Cond.classLink_spec hown hl1 e.platform hpl
        obtain ⟨a8, b8, h1, h2, h3⟩ := hn1
        cases Option.some.inj (h1.symm.trans hcl)
        cases Option.some.inj (h2.symm.trans hc6)
        exact Or.inr ⟨hz0, _, hcl6, h3⟩)
  obtain ⟨g₀, hfr⟩ := X'.frames_eq
  have hcell9 : ((T.setVm vm').setFrames (.throwing q :: below)).heap[q]? = some ce := by
    show T.heap[q]? = some ce
    rw [hT]; exact hcell
  have hend : Ended ((T.setVm vm').setFrames (.throwing q :: below)) below (.threw q) := State.frames_setFrames _ (State.cur_lt_of_frames hfr)
  refine ⟨(T.setVm vm').setFrames (.throwing q :: below), ?_, .threw q, X'.here.running, hend, Or.inr ⟨q, rfl, E, ce, locs, hx _ hT (X'.ends _).1.alike, hcell9, hv, hcl, (X'.ends _).1, (X'.ends _).2.mono hc hs, hf⟩⟩
  rw [X.pushThrowing_eq]
  exact st
/-- a thing of a world lies in the heap -/
theorem vx_lt {D : va_G} {cl : List vw_C} {ws : va_W} {H1 : Heap} (h : va_P D cl ws H1) {k : Nat} {q : Nat × va_E} (hk : ws[k]? = some q) : q.1 < H1.size := (h k q hk).lt
end VXS
/-! ===== END ===== -/
/-! ===== BEGIN methods with a table of their own: called by a name, returning or throwing ===== -/
section VXH
/-! vx_backW, vx_callVX, vx_callSX, vx_callVW, vx_runVW, vx_runVX, vx_runSX, vx_ofWH follow the same proofs as their sisters above (Free/Laws.lean, Shelf42/LK1.lean); vx_outP calls Shelf42/NT130.lean (outThrough). -/
section
variable {l : Launch} {R : Room} {p : Program} {e : Env} {below : List Frame} {s : State} {sargs : Array Value} {y : MethodName} {len W9 : Nat}
theorem vx_backW {ws : List Cond} {rm : Room} {Pc : Array Value → State → Prop} {Qc : Array Value → State → Outcome → State → Prop} {XC : String → State → State → Prop} {mc ms : Nat} {free : Addr → Prop} {bytes : ByteArray} {maxL : Nat} {ret : Option FieldType} {hh : List (Nat × Nat × Nat × Nat)}
    (hM : vx_Met l y ws rm Pc Qc XC mc ms free) (hblind : FrameBlind Pc) (hrc : rm.cells = mc) (hrs : rm.slots = ms)
    (hframes : rm.frames + 1 ≤ R.frames) (hlocals : W9 + (maxL + 11) + rm.locals ≤ R.locals)
    (hws : ∀ w ∈ ws, ∀ a' U, s.WarmedH U.vm → w.before a' U = true) (hcode : Cond.codeWith y bytes maxL ret hh ∈ ws) (hinit : ∀ a' U, s.WarmedH U.vm → (Cond.initialized y.cls).before a' U = true) :
    vx_Back l R p e below s sargs y len W9 (PreOf R mc ms Pc) (PostOf Qc mc ms free) (vx_Post XC mc ms free) := by
  intro m meth c A g ig mk a X hg hsize hdg hW hn hp
  have h1 : (headSpec ws rm).pre.before a A.U = true := atoms_intro fun w hw => hws w hw _ _ X.warmed
  have h2 : (Cond.codeWith y bytes maxL ret hh).before a A.U = true := hws _ hcode _ _ X.warmed
  have h3 : (Cond.initialized y.cls).before a A.U = true := hinit _ _ X.warmed
  have h4 : A.cells + (headSpec ws rm).room.cells ≤ R.cells := by rw [show (headSpec ws rm).room.cells = mc from hrc]; exact hp.1
  have h5 : A.slots + (headSpec ws rm).room.slots ≤ R.slots := by rw [show (headSpec ws rm).room.slots = ms from hrs]; exact hp.2.1
  have hPc : Pc a (A.U.calling g mk a) := hblind _ _ _ _ hp.2.2
  obtain ⟨U, Ls, c0, s0⟩ := A
  dsimp only [Pt.U, Pt.locs, Pt.cells, Pt.slots] at h1 h2 h3 h4 h5 X hn hPc ⊢
  obtain ⟨m9, methY, cY, hn9, hmY, hcY, -, hlY, -⟩ := Cond.codeWith_spec h2
  cases Option.some.inj (hn9.symm.trans hn)
  obtain ⟨kY, hkY, -⟩ := className_of_methodNamed hn
  have hinitY : kY.init = .initialized := Cond.initialized_spec (findClass_of_methodNamed hn) hkY h3
  have h : At U g.method c below := by rw [hg]; exact X.here
  have hlocals9 : W9 + (maxL + 11) + (headSpec ws rm).room.locals ≤ R.locals := hlocals
  have happ : (headSpec ws rm).appliesLoose y e.platform (U.calling g mk a) = true :=
    Spec.appliesLoose_calling (g := g) h hdg hn hkY hinitY
      (X.room_calling (g := g) (R' := (headSpec ws rm).room) hsize hmY hcY hframes (by rw [hlY]; omega) h4 h5) h1
  obtain ⟨mid, hmid⟩ := h.above
  have hfr : (U.setTop g).frames = (.java g :: mid) ++ below := by rw [State.frames_setTop' g h.top, hmid]; rfl
  obtain ⟨o, s₂, hsteps, -, hend, hq⟩ := Steps.callFree hM p X.admits X.cas X.clock (acts := []) hfr happ hPc trivial
  have hq' : vx_Q Qc XC mc ms free a (U.calling g mk a) o s₂ := hq
  rw [State.frames_setTop' g h.top] at hend
  obtain ⟨g₀, hg0⟩ := Option.isSome_iff_exists.mp h.top
  obtain ⟨r, hr⟩ := State.topJava?_eq_some.mp hg0
  have hr' : (({ U with heap := s₂.heap, slotsUsed := s₂.slotsUsed } : State).setVm s₂.vm).frames = .java g₀ :: r := hr
  rcases hq' with ⟨hqc, L, hfe, hL⟩ | ⟨q, rfl, E, ce, L, hx, hce, hcv, hcl, hW₂, hsm, hL⟩
  · obtain ⟨⟨v, rfl⟩, hW₂, e2, q2, q3, q4, q5, q6⟩ := id hfe
    have e3 : s₂ = ({ (U.calling g mk a).setFrames s₂.frames with heap := s₂.heap, slotsUsed := s₂.slotsUsed } : State).setVm s₂.vm := by
      have : s₂ = ({ s₂ with vm := (U.calling g mk a).vm } : State).setVm s₂.vm := rfl
      rw [e2] at this
      exact this
    obtain ⟨c₂, i₂, len₂, hc₂, hd₂, hf₂⟩ := hend
    have hW' : U.WarmedH s₂.vm := hW₂
    have hcc : c₂ = c := by
      have h1 : s₂.code? g.method = U.code? g.method := by
        rw [State.code?_eq, State.code?_eq, hW'.alike.method?]
      exact Option.some.inj (hc₂.symm.trans (h1.trans h.code))
    subst hcc
    have hlen : len₂ = len := by rw [hdg] at hd₂; cases hd₂; rfl
    subst hlen
    have hs₂ : s₂ = (({ U with heap := s₂.heap, slotsUsed := s₂.slotsUsed } : State).setVm s₂.vm).setTop { g with pc := g.pc + len₂, stack := v.toList ++ g.stack } := by
      refine e3.trans ?_
      rw [hf₂, State.calling_eq h.top, State.setFrames_setFrames, State.setTop_of_frames _ hr', hr]
      rfl
    have hsame : U.sameButNew ({ U with heap := s₂.heap, slotsUsed := s₂.slotsUsed } : State) L mc ms := by
      refine ⟨?_, q2, q3, q4, q5, q6⟩
      obtain ⟨t, ht, -⟩ := State.frames_cons hr
      show ({ U with heap := s₂.heap, slotsUsed := s₂.slotsUsed } : State) = { U.setFrames U.frames with heap := s₂.heap, slotsUsed := s₂.slotsUsed }
      rw [State.setFrames_self ht]
    subst hg
    refine Or.inl ⟨v, ⟨(({ U with heap := s₂.heap, slotsUsed := s₂.slotsUsed } : State).setVm s₂.vm), Ls ++ L, c0 + mc, s0 + ms⟩,
      ⟨X.admits, X.cas, X.clock, X.frames, X.room, X.hears, X.method, X.code, (X.here.setHeapUsed s₂.heap s₂.slotsUsed).setVm hW'.alike, X.tail, State.WarmedH.trans X.warmed hW', X.limits, X.bytes, X.same.trans (hsame.setVm s.vm)⟩,
      ⟨g, mk, s₂, L, rfl, rfl, hqc, rfl, hL, rfl, rfl⟩, ?_⟩
    show Steps p.tables e below _ ((({ U with heap := s₂.heap, slotsUsed := s₂.slotsUsed } : State).setVm s₂.vm).setTop { g with pc := g.pc + len₂, stack := v.toList ++ g.stack })
    rw [← hs₂]
    exact hsteps
  · obtain ⟨e2, q2, q3, q4, q5, q6⟩ := id hsm
    have e3 : s₂ = ({ (U.calling g mk a).setFrames s₂.frames with heap := s₂.heap, slotsUsed := s₂.slotsUsed } : State).setVm s₂.vm := by
      have : s₂ = ({ s₂ with vm := (U.calling g mk a).vm } : State).setVm s₂.vm := rfl
      rw [e2] at this
      exact this
    have hf₂ : s₂.frames = .throwing q :: .java g :: U.frames.tail := hend
    have hW' : U.WarmedH s₂.vm := hW₂
    have hs₂ : s₂ = ((({ U with heap := s₂.heap, slotsUsed := s₂.slotsUsed } : State).setVm s₂.vm).setTop g).pushFrame (.throwing q) := by
      refine e3.trans ?_
      rw [hf₂, State.calling_eq h.top, State.setFrames_setFrames, State.pushFrame, State.frames_setTop _ hr', State.setTop_of_frames _ hr', State.setFrames_setFrames, hr]
      rfl
    have hsame : U.sameButNew ({ U with heap := s₂.heap, slotsUsed := s₂.slotsUsed } : State) L mc ms := by
      refine ⟨?_, q2, q3, q4, q5, q6⟩
      obtain ⟨t, ht, -⟩ := State.frames_cons hr
      show ({ U with heap := s₂.heap, slotsUsed := s₂.slotsUsed } : State) = { U.setFrames U.frames with heap := s₂.heap, slotsUsed := s₂.slotsUsed }
      rw [State.setFrames_self ht]
    subst hg
    refine Or.inr ⟨q, ⟨(({ U with heap := s₂.heap, slotsUsed := s₂.slotsUsed } : State).setVm s₂.vm), Ls ++ L, c0 + mc, s0 + ms⟩,
      ⟨X.admits, X.cas, X.clock, X.frames, X.room, X.hears, X.method, X.code, (X.here.setHeapUsed s₂.heap s₂.slotsUsed).setVm hW'.alike, X.tail, State.WarmedH.trans X.warmed hW', X.limits, X.bytes, X.same.trans (hsame.setVm s.vm)⟩,
      ⟨g, mk, s₂, L, E, ce, rfl, rfl, hx, hce, hcv, hcl, rfl, hL, rfl, rfl⟩, ?_⟩
    show Steps p.tables e below _ (((({ U with heap := s₂.heap, slotsUsed := s₂.slotsUsed } : State).setVm s₂.vm).setTop g).pushFrame (.throwing q))
    rw [← hs₂]
    exact hsteps
end
variable {p : Program} {l : Launch} {e : Env} {R : Room} {s : State} {m : MethodId} {args : Array Value} {below : List Frame} {meth : Method} {c : Code} {T : State} {H : Heap} {locs : List Loc} {cells slots : Nat}
theorem vx_callVX (X : Stand p l e R s m args below meth c T locs cells slots) (hexec : p.tables.exec = Jvm.exec) {own C : String} {index : Nat} {y : MethodName} {bytes : ByteArray} {maxL : Nat} {ret : Option FieldType} {hh : List (Nat × Nat × Nat × Nat)}
    (hown : s.vm.findClass own = some m.cls) (hlink : (Cond.methodLink own index y).before args s = true) (hinst : (Cond.instanceMethod y).before args s = true) (hsel : (Cond.selects C y y).before args s = true)
    (hcode : (Cond.codeWith y bytes maxL ret hh).before args s = true) (hy : y.cls ≠ "java/lang/invoke/MethodHandle" ∧ y.cls ≠ "java/lang/invoke/VarHandle")
    {W9 : Nat} {Pre : Pt → Array Value → Prop} {Post : Pt → Array Value → Option Value → Pt → Prop} {PostX : Pt → Array Value → Addr → Pt → Prop} (hK : vx_Back l R p e below s args y 3 W9 Pre Post PostX)
    {b : Addr} {cellB : Cell} (hcell : T.heap[b]? = some cellB) (hobj : cellB.vm.isStatics = false) (hcls : s.vm.findClass C = some cellB.cls)
    {g : JFrame} (hg : g.method = m) (hsize : g.locals.size = c.maxLocals) {argsL rest : List Value} (hlen : ∀ sig, parseMethodDescriptor y.desc = some sig → argsL.length = sig.parameters.length)
    (hstack : g.stack = argsL.reverse ++ .ref b :: rest) (hW : 2 * g.monitorRoom + (rest.map fun v => v.category).sum ≤ W9) (hdg : decode c.code g.pc = .ok (.invokevirtual index, 3))
    (hpre : ∀ vm₁, s.WarmedH vm₁ → Pre ⟨T.setVm vm₁, locs, cells, slots⟩ (Value.ref b :: argsL).toArray) :
    (∃ (v : Option Value) (vm₁ : Vm) (B : Pt), s.WarmedH vm₁ ∧ Stand p l e R s m args below meth c B.U B.locs B.cells B.slots ∧ Post ⟨T.setVm vm₁, locs, cells, slots⟩ (Value.ref b :: argsL).toArray v B ∧
      ∀ target, Steps p.tables e below (B.U.setTop { g with pc := g.pc + 3, stack := v.toList ++ rest }) target → Steps p.tables e below (T.setTop g) target) ∨
    (∃ (q : Addr) (vm₁ : Vm) (B : Pt), s.WarmedH vm₁ ∧ Stand p l e R s m args below meth c B.U B.locs B.cells B.slots ∧ PostX ⟨T.setVm vm₁, locs, cells, slots⟩ (Value.ref b :: argsL).toArray q B ∧
      Steps p.tables e below (T.setTop g) ((B.U.setTop { g with stack := rest }).pushFrame (.throwing q))) := by
  obtain ⟨mk, methM, hnamed, hmethM, hstM, habM⟩ := Cond.instanceMethod_spec hinst
  obtain ⟨m8, methM', cM, hn8, hmethM', -, -, -, -, -, -, hsigM⟩ := Cond.codeWith_spec hcode
  cases Option.some.inj (hn8.symm.trans hnamed)
  cases hmethM.symm.trans hmethM'
  obtain ⟨c2, r2, m2, q1, q2, q3, q4, kP, hkP, hkPi⟩ := Cond.selects_spec hsel
  cases hcls.symm.trans q1
  cases (State.methodFound?_of_named hnamed hy).symm.trans q2
  cases hnamed.symm.trans q3
  have hselP : selectMethod e.platform s.vm cellB.cls mk = .method mk := by rw [Launch.admits_selectMethod X.admits]; exact q4
  obtain ⟨vm₁, X₁, hstep₁⟩ := X.invokevirtual hexec hown hlink hnamed hmethM hstM hkP hkPi hy (a := b) (cell := cellB) hcell
    (fun z h => by rw [h] at hobj; cases hobj) hselP hmethM habM hkP hkPi (g := g) hg (argsL := argsL) (rest := rest) (hlen _ hsigM) hstack hdg
  rcases hK m meth c ⟨T.setVm vm₁, locs, cells, slots⟩ { g with stack := rest } (.invokevirtual index) mk (Value.ref b :: argsL).toArray X₁ hg hsize hdg hW (X₁.named hnamed) (hpre vm₁ X₁.warmed) with ⟨v, B, X', hpost, hsteps⟩ | ⟨q, B, X', hpost, hsteps⟩
  · exact Or.inl ⟨v, vm₁, B, X₁.warmed, X', hpost, fun target h => hstep₁ _ fun acts => by rw [doInvoke_state]; exact hsteps.trans h⟩
  · exact Or.inr ⟨q, vm₁, B, X₁.warmed, X', hpost, hstep₁ _ fun acts => by rw [doInvoke_state]; exact hsteps⟩
theorem vx_callSX (X : Stand p l e R s m args below meth c T locs cells slots) (hexec : p.tables.exec = Jvm.exec) {own : String} {index : Nat} {y : MethodName} {bytes : ByteArray} {maxL : Nat} {ret : Option FieldType} {hh : List (Nat × Nat × Nat × Nat)}
    (hown : s.vm.findClass own = some m.cls) (hlink : (Cond.methodLink own index y).before args s = true) (hstat : (Cond.static y).before args s = true) (hinit : (Cond.initialized y.cls).before args s = true)
    (hcode : (Cond.codeWith y bytes maxL ret hh).before args s = true) (hy : y.cls ≠ "java/lang/invoke/MethodHandle" ∧ y.cls ≠ "java/lang/invoke/VarHandle")
    {W9 : Nat} {Pre : Pt → Array Value → Prop} {Post : Pt → Array Value → Option Value → Pt → Prop} {PostX : Pt → Array Value → Addr → Pt → Prop} (hK : vx_Back l R p e below s args y 3 W9 Pre Post PostX)
    {g : JFrame} (hg : g.method = m) (hsize : g.locals.size = c.maxLocals) {argsL rest : List Value} (hlen : ∀ sig, parseMethodDescriptor y.desc = some sig → argsL.length = sig.parameters.length)
    (hstack : g.stack = argsL.reverse ++ rest) (hW : 2 * g.monitorRoom + (rest.map fun v => v.category).sum ≤ W9) (hdg : decode c.code g.pc = .ok (.invokestatic index, 3))
    (hpre : ∀ vm₁, s.WarmedH vm₁ → Pre ⟨T.setVm vm₁, locs, cells, slots⟩ argsL.toArray) :
    (∃ (v : Option Value) (vm₁ : Vm) (B : Pt), s.WarmedH vm₁ ∧ Stand p l e R s m args below meth c B.U B.locs B.cells B.slots ∧ Post ⟨T.setVm vm₁, locs, cells, slots⟩ argsL.toArray v B ∧
      ∀ target, Steps p.tables e below (B.U.setTop { g with pc := g.pc + 3, stack := v.toList ++ rest }) target → Steps p.tables e below (T.setTop g) target) ∨
    (∃ (q : Addr) (vm₁ : Vm) (B : Pt), s.WarmedH vm₁ ∧ Stand p l e R s m args below meth c B.U B.locs B.cells B.slots ∧ PostX ⟨T.setVm vm₁, locs, cells, slots⟩ argsL.toArray q B ∧
      Steps p.tables e below (T.setTop g) ((B.U.setTop { g with stack := rest }).pushFrame (.throwing q))) := by
  obtain ⟨mk, methM, cM, hnamed, hmethM, -, -, -, -, -, -, hsigM⟩ := Cond.codeWith_spec hcode
  have hstatic : methM.isStatic = true := Cond.static_spec hnamed hmethM hstat
  obtain ⟨kP, hkP, -⟩ := className_of_methodNamed hnamed
  have hinitP : kP.init = .initialized := Cond.initialized_spec (findClass_of_methodNamed hnamed) hkP hinit
  obtain ⟨vm₁, X₁, hstep₁⟩ := X.invokestatic hexec hown hlink hnamed hmethM hstatic hkP hinitP hy (g := g) hg (argsL := argsL) (rest := rest) (hlen _ hsigM) hstack hdg
  rcases hK m meth c ⟨T.setVm vm₁, locs, cells, slots⟩ { g with stack := rest } (.invokestatic index) mk argsL.toArray X₁ hg hsize hdg hW (X₁.named hnamed) (hpre vm₁ X₁.warmed) with ⟨v, B, X', hpost, hsteps⟩ | ⟨q, B, X', hpost, hsteps⟩
  · exact Or.inl ⟨v, vm₁, B, X₁.warmed, X', hpost, fun target h => hstep₁ _ fun acts => by rw [doInvoke_state]; exact hsteps.trans h⟩
  · exact Or.inr ⟨q, vm₁, B, X₁.warmed, X', hpost, hstep₁ _ fun acts => by rw [doInvoke_state]; exact hsteps⟩
theorem vx_callVW (X : Stand p l e R s m args below meth c T locs cells slots) (hexec : p.tables.exec = Jvm.exec) {own C : String} {index : Nat} {y : MethodName} {bytes : ByteArray} {maxL : Nat} {ret : Option FieldType} {hh : List (Nat × Nat × Nat × Nat)}
    (hown : s.vm.findClass own = some m.cls) (hlink : (Cond.methodLink own index y).before args s = true) (hinst : (Cond.instanceMethod y).before args s = true) (hsel : (Cond.selects C y y).before args s = true)
    (hcode : (Cond.codeWith y bytes maxL ret hh).before args s = true) (hy : y.cls ≠ "java/lang/invoke/MethodHandle" ∧ y.cls ≠ "java/lang/invoke/VarHandle")
    {W9 : Nat} {Pre : Pt → Array Value → Prop} {Post : Pt → Array Value → Option Value → Pt → Prop} (hK : Back l R p e below s args y 3 W9 Pre Post)
    {b : Addr} {cellB : Cell} (hcell : T.heap[b]? = some cellB) (hobj : cellB.vm.isStatics = false) (hcls : s.vm.findClass C = some cellB.cls)
    {g : JFrame} (hg : g.method = m) (hsize : g.locals.size = c.maxLocals) {argsL rest : List Value} (hlen : ∀ sig, parseMethodDescriptor y.desc = some sig → argsL.length = sig.parameters.length)
    (hstack : g.stack = argsL.reverse ++ .ref b :: rest) (hW : 2 * g.monitorRoom + (rest.map fun v => v.category).sum ≤ W9) (hdg : decode c.code g.pc = .ok (.invokevirtual index, 3))
    (hpre : ∀ vm₁, s.WarmedH vm₁ → Pre ⟨T.setVm vm₁, locs, cells, slots⟩ (Value.ref b :: argsL).toArray) :
    ∃ (v : Option Value) (vm₁ : Vm) (B : Pt), s.WarmedH vm₁ ∧ Stand p l e R s m args below meth c B.U B.locs B.cells B.slots ∧ Post ⟨T.setVm vm₁, locs, cells, slots⟩ (Value.ref b :: argsL).toArray v B ∧
      ∀ target, Steps p.tables e below (B.U.setTop { g with pc := g.pc + 3, stack := v.toList ++ rest }) target → Steps p.tables e below (T.setTop g) target := by
  obtain ⟨mk, methM, hnamed, hmethM, hstM, habM⟩ := Cond.instanceMethod_spec hinst
  obtain ⟨m8, methM', cM, hn8, hmethM', -, -, -, -, -, -, hsigM⟩ := Cond.codeWith_spec hcode
  cases Option.some.inj (hn8.symm.trans hnamed)
  cases hmethM.symm.trans hmethM'
  obtain ⟨c2, r2, m2, q1, q2, q3, q4, kP, hkP, hkPi⟩ := Cond.selects_spec hsel
  cases hcls.symm.trans q1
  cases (State.methodFound?_of_named hnamed hy).symm.trans q2
  cases hnamed.symm.trans q3
  have hselP : selectMethod e.platform s.vm cellB.cls mk = .method mk := by rw [Launch.admits_selectMethod X.admits]; exact q4
  obtain ⟨vm₁, X₁, hstep₁⟩ := X.invokevirtual hexec hown hlink hnamed hmethM hstM hkP hkPi hy (a := b) (cell := cellB) hcell
    (fun z h => by rw [h] at hobj; cases hobj) hselP hmethM habM hkP hkPi (g := g) hg (argsL := argsL) (rest := rest) (hlen _ hsigM) hstack hdg
  obtain ⟨v, B, X', hpost, hsteps⟩ := hK m meth c ⟨T.setVm vm₁, locs, cells, slots⟩ { g with stack := rest } (.invokevirtual index) mk (Value.ref b :: argsL).toArray X₁ hg hsize hdg hW (X₁.named hnamed) (hpre vm₁ X₁.warmed)
  exact ⟨v, vm₁, B, X₁.warmed, X', hpost, fun target h => hstep₁ _ fun acts => by rw [doInvoke_state]; exact hsteps.trans h⟩
abbrev vx_CVW (R : Room) (s : State) (args : Array Value) (own C : String) (index : Nat) (y : MethodName) (bytes : ByteArray) (maxL : Nat) (ret : Option FieldType) (hh : List (Nat × Nat × Nat × Nat)) (ws : List Cond) (rm : Room) (mc ms n : Nat) : Prop :=
  (rm.cells = mc ∧ rm.slots = ms ∧ rm.frames + 1 ≤ R.frames ∧ 8 + (maxL + 11) + rm.locals ≤ R.locals ∧ (∀ w ∈ ws, ∀ (a' : Array Value) (U : State), s.WarmedH U.vm → w.before a' U = true) ∧ Cond.codeWith y bytes maxL ret hh ∈ ws) ∧
  (Cond.codeWith y bytes maxL ret hh).before args s = true ∧ (Cond.initialized y.cls).before args s = true ∧ (y.cls ≠ "java/lang/invoke/MethodHandle" ∧ y.cls ≠ "java/lang/invoke/VarHandle") ∧
  (∀ sig, parseMethodDescriptor y.desc = some sig → n = sig.parameters.length) ∧ (Cond.methodLink own index y).before args s = true ∧ (Cond.instanceMethod y).before args s = true ∧ (Cond.selects C y y).before args s = true
theorem vx_cwVW {own C : String} {index maxL mc ms : Nat} {y : MethodName} {bytes : ByteArray} {ret : Option FieldType} {hh : List (Nat × Nat × Nat × Nat)} {Ts ws ws' : List Cond} {rm : Room} (n : Nat) (ht : ∀ w ∈ Ts, w.before args s = true) (hT : GoodIn Ts (wsV own index C y ws)) (hw : ws = Cond.codeWith y bytes maxL ret hh :: ws') (hrc : rm.cells = mc) (hrs : rm.slots = ms)
    (hd : y.cls = C ∧ y.cls ≠ "java/lang/invoke/MethodHandle" ∧ y.cls ≠ "java/lang/invoke/VarHandle" ∧ (parseMethodDescriptor y.desc).map (fun d => d.parameters.length) = some n) (hR : rm.frames + 1 ≤ R.frames ∧ 8 + (maxL + 11) + rm.locals ≤ R.locals) :
    vx_CVW R s args own C index y bytes maxL ret hh ws rm mc ms n := by
  obtain ⟨hC, hd⟩ := hd
  subst hC
  have ok : ∀ w ∈ wsV own index y.cls y ws, w.before args s = true := fun w h => ht w (hT w h).1
  have hG : GoodIn Ts ws := fun w h => hT w (by unfold wsV; exact List.mem_append_right _ h)
  have hc : Cond.codeWith y bytes maxL ret hh ∈ ws := by rw [hw]; exact List.mem_cons_self
  refine ⟨⟨hrc, hrs, hR.1, hR.2, pay_in ht hG, hc⟩, ht _ (hG _ hc).1, ok _ (by simp [wsV]), ⟨hd.1, hd.2.1⟩, fun sig h => ?_, ok _ (by simp [wsV]), ok _ (by simp [wsV]), ok _ (by simp [wsV])⟩
  have h2 := hd.2.2
  rw [h] at h2
  exact (Option.some.inj h2).symm
theorem vx_runVW {y : MethodName} {bytes cc : ByteArray} {maxL nL mc ms n index : Nat} {ret : Option FieldType} {hh : List (Nat × Nat × Nat × Nat)} {ws : List Cond} {rm : Room} {Pc : Array Value → State → Prop} {Qc : Array Value → State → Outcome → State → Prop} {free : Addr → Prop} {Ts : List Cond} {own C : String} {b : Addr} {As rest : List Value} {g : JFrame}
    (S : CallFix p m c cc nL s args Ts own) (hM : Met l y ws rm Pc Qc mc ms free) (cw : vx_CVW R s args own C index y bytes maxL ret hh ws rm mc ms n) (hp : PreV s H C b Pc As)
    (hg : g.method = m) (hn : As.length = n) (hsize : g.locals.size = nL) (hstack : g.stack = As.reverse ++ .ref b :: rest) (hW : 2 * g.monitorRoom + (rest.map fun v => v.category).sum ≤ 8) (hdg : decode cc g.pc = .ok (.invokevirtual index, 3)) (hf : cells + mc ≤ R.cells ∧ slots + ms ≤ R.slots) :
    va_Run p l e R s m args below meth c H locs cells slots mc ms g rest (Qc (Value.ref b :: As).toArray) free := by
  obtain ⟨⟨hrc, hrs, hfr, hlo, hws, hcw⟩, hcode, hini, hy, hlen, hl, hin, hse⟩ := cw
  have hK : Back l R p e below s args y 3 8 (PreOf R mc ms Pc) (PostOf Qc mc ms free) := va_backW (hh := hh) (bytes := bytes) (maxL := maxL) (ret := ret) hM hp.1 hrc hrs hfr hlo hws hcw (fun a' U hW => word_at hW (Or.inl (by first | rfl | simp [Cond.onTables, Cond.keeps, Cond.steady])) hini)
  obtain ⟨hx, hb, hml, ho, -⟩ := S
  obtain ⟨-, ⟨cellB, hcB, hoB, hclB⟩, hPc⟩ := hp
  intro T hT X
  obtain ⟨v, vm₁, ⟨U', l2, c2, s2⟩, hW₁, X', ⟨g', mk, t, L, e1, e2, hq, h1, hL, h2, h3⟩, st⟩ := vx_callVW X hx (C := C) (hh := hh) (bytes := bytes) (maxL := maxL) (ret := ret) ho hl hin hse hcode hy hK (by rw [hT]; exact hcB) hoB hclB hg (hsize.trans hml.symm) (argsL := As) (rest := rest) (fun sig h => hn.trans (hlen sig h)) hstack hW (by rw [hb]; exact hdg)
    (fun vm₁ hW₁ => ⟨hf.1, hf.2, hPc (T.setVm vm₁) hT hW₁⟩)
  dsimp only [Pt.U, Pt.locs, Pt.cells, Pt.slots] at X' e1 e2 h1 h2 h3 st
  subst h1; subst h2; subst h3
  exact ⟨v, (T.setVm vm₁).calling g' mk (Value.ref b :: As).toArray, t, U', L, hT, X', hL, e1, e2, hq, st⟩
section
variable {y : MethodName} {bytes cc : ByteArray} {maxL nL mc ms n index : Nat} {ret : Option FieldType} {ws : List Cond} {rm : Room} {Pc : Array Value → State → Prop} {Qc : Array Value → State → Outcome → State → Prop} {XC : String → State → State → Prop} {free : Addr → Prop} {Ts : List Cond} {own C : String} {b : Addr} {As rest : List Value} {g : JFrame}
theorem vx_runVX {hh : List (Nat × Nat × Nat × Nat)} (S : CallFix p m c cc nL s args Ts own) (hM : vx_Met l y ws rm Pc Qc XC mc ms free) (cw : vx_CVW R s args own C index y bytes maxL ret hh ws rm mc ms n) (hp : PreV s H C b Pc As)
    (hg : g.method = m) (hn : As.length = n) (hsize : g.locals.size = nL) (hstack : g.stack = As.reverse ++ .ref b :: rest) (hW : 2 * g.monitorRoom + (rest.map fun v => v.category).sum ≤ 8) (hdg : decode cc g.pc = .ok (.invokevirtual index, 3)) (hf : cells + mc ≤ R.cells ∧ slots + ms ≤ R.slots) :
    vx_Run p l e R s m args below meth c H locs cells slots mc ms g rest (Qc (Value.ref b :: As).toArray) XC free := by
  obtain ⟨⟨hrc, hrs, hfr, hlo, hws, hcw⟩, hcode, hini, hy, hlen, hl, hin, hse⟩ := cw
  have hK : vx_Back l R p e below s args y 3 8 (PreOf R mc ms Pc) (PostOf Qc mc ms free) (vx_Post XC mc ms free) := vx_backW (hh := hh) (bytes := bytes) (maxL := maxL) (ret := ret) hM hp.1 hrc hrs hfr hlo hws hcw (fun a' U hW => word_at hW (Or.inl (by first | rfl | simp [Cond.onTables, Cond.keeps, Cond.steady])) hini)
  obtain ⟨hx, hb, hml, ho, -⟩ := S
  obtain ⟨-, ⟨cellB, hcB, hoB, hclB⟩, hPc⟩ := hp
  intro T hT X
  rcases vx_callVX X hx (C := C) (hh := hh) (bytes := bytes) (maxL := maxL) (ret := ret) ho hl hin hse hcode hy hK (by rw [hT]; exact hcB) hoB hclB hg (hsize.trans hml.symm) (argsL := As) (rest := rest) (fun sig h => hn.trans (hlen sig h)) hstack hW (by rw [hb]; exact hdg)
    (fun vm₁ hW₁ => ⟨hf.1, hf.2, hPc (T.setVm vm₁) hT hW₁⟩) with ⟨v, vm₁, ⟨U', l2, c2, s2⟩, hW₁, X', ⟨g', mk, t, L, e1, e2, hq, h1, hL, h2, h3⟩, st⟩ | ⟨q, vm₁, ⟨U', l2, c2, s2⟩, hW₁, X', ⟨g', mk, t, L, E, ce, e1, e2, hq, hce, hcv, hcl, h1, hL, h2, h3⟩, st⟩
  · dsimp only [Pt.U, Pt.locs, Pt.cells, Pt.slots] at X' e1 e2 h1 h2 h3 st
    subst h1; subst h2; subst h3
    exact Or.inl ⟨v, (T.setVm vm₁).calling g' mk (Value.ref b :: As).toArray, t, U', L, hT, X', hL, e1, e2, hq, st⟩
  · dsimp only [Pt.U, Pt.locs, Pt.cells, Pt.slots] at X' e1 e2 h1 h2 h3 st hcl
    subst h1; subst h2; subst h3
    exact Or.inr ⟨q, (T.setVm vm₁).calling g' mk (Value.ref b :: As).toArray, t, U', L, E, ce, hT, X', hL, e1, e2, hq, hce, hcv, vx_cls hW₁ hcl, st⟩
theorem vx_runSX {hh : List (Nat × Nat × Nat × Nat)} (S : CallFix p m c cc nL s args Ts own) (hM : vx_Met l y ws rm Pc Qc XC mc ms free) (cw : vx_CSW R s args own index y bytes maxL ret hh ws rm mc ms n) (hp : PreS s H Pc As)
    (hg : g.method = m) (hn : As.length = n) (hsize : g.locals.size = nL) (hstack : g.stack = As.reverse ++ rest) (hW : 2 * g.monitorRoom + (rest.map fun v => v.category).sum ≤ 8) (hdg : decode cc g.pc = .ok (.invokestatic index, 3)) (hf : cells + mc ≤ R.cells ∧ slots + ms ≤ R.slots) :
    vx_Run p l e R s m args below meth c H locs cells slots mc ms g rest (Qc As.toArray) XC free := by
  obtain ⟨⟨hrc, hrs, hfr, hlo, hws, hcw⟩, hcode, hini, hy, hlen, hl, hstt⟩ := cw
  have hK : vx_Back l R p e below s args y 3 8 (PreOf R mc ms Pc) (PostOf Qc mc ms free) (vx_Post XC mc ms free) := vx_backW (hh := hh) (bytes := bytes) (maxL := maxL) (ret := ret) hM hp.1 hrc hrs hfr hlo hws hcw (fun a' U hW => word_at hW (Or.inl (by first | rfl | simp [Cond.onTables, Cond.keeps, Cond.steady])) hini)
  obtain ⟨hx, hb, hml, ho, -⟩ := S
  intro T hT X
  rcases vx_callSX X hx (hh := hh) (bytes := bytes) (maxL := maxL) (ret := ret) ho hl hstt hini hcode hy hK hg (hsize.trans hml.symm) (argsL := As) (rest := rest) (fun sig h => hn.trans (hlen sig h)) hstack hW (by rw [hb]; exact hdg)
    (fun vm₁ hW₁ => ⟨hf.1, hf.2, hp.2 (T.setVm vm₁) hT hW₁⟩) with ⟨v, vm₁, ⟨U', l2, c2, s2⟩, hW₁, X', ⟨g', mk, t, L, e1, e2, hq, h1, hL, h2, h3⟩, st⟩ | ⟨q, vm₁, ⟨U', l2, c2, s2⟩, hW₁, X', ⟨g', mk, t, L, E, ce, e1, e2, hq, hce, hcv, hcl, h1, hL, h2, h3⟩, st⟩
  · dsimp only [Pt.U, Pt.locs, Pt.cells, Pt.slots] at X' e1 e2 h1 h2 h3 st
    subst h1; subst h2; subst h3
    exact Or.inl ⟨v, (T.setVm vm₁).calling g' mk As.toArray, t, U', L, hT, X', hL, e1, e2, hq, st⟩
  · dsimp only [Pt.U, Pt.locs, Pt.cells, Pt.slots] at X' e1 e2 h1 h2 h3 st hcl
    subst h1; subst h2; subst h3
    exact Or.inr ⟨q, (T.setVm vm₁).calling g' mk As.toArray, t, U', L, E, ce, hT, X', hL, e1, e2, hq, hce, hcv, vx_cls hW₁ hcl, st⟩
end
end VXH
theorem vx_ofWH {l : Launch} {y : MethodName} {ws ws' : List Cond} {rm : Room} {Pc : Array Value → State → Prop} {Qc : Array Value → State → Outcome → State → Prop} {XC : String → State → State → Prop} {mc ms : Nat} {free : Addr → Prop} {cc : ByteArray} {maxL : Nat} {ret : Option FieldType} {hh : List (Nat × Nat × Nat × Nat)}
    (hy : plainName y.cls = true) (hw : ws = Cond.codeWith y cc maxL ret hh :: ws')
    (body : ∀ p e s m args below meth c s₁, BodyLoose p l y (headSpec ws rm) cc maxL ret e s m args below meth c s₁ → c.maxLocals = maxL → Pc args s →
      W p l e (headSpec ws rm).room s m args below meth c s.heap [] 0 0 (vx_MQ below Qc XC args s mc ms free) (entryFrame m args maxL)) : vx_Met l y ws rm Pc Qc XC mc ms free := by
  refine MetFree.of_bodyS (code := cc) (maxLocals := maxL) (ret := ret) hy ?_ ?_
  · intro args s m h hn
    obtain ⟨m9, meth, c, hn9, h1, h2, h3, h4, -, h5, h6, -⟩ := Cond.codeWith_spec (atoms_spec (ws := ws) h _ (by rw [hw]; exact List.mem_cons_self))
    cases hn.symm.trans hn9
    exact ⟨meth, c, h1, h2, h3, h4, h5, h6⟩
  · intro p e s m args below meth c s₁ B hml hP _
    have hh0 : s₁.heap = s.heap := by rw [B.state]; rfl
    obtain ⟨t, a1, o, b1, b2, b3⟩ := body p e s m args below meth c s₁ B hml hP s₁ hh0 (Stand.of_body B)
    exact ⟨t, o, a1, b1, b2, b3⟩
/-! ===== END ===== -/

/-- NoSuchElementException's own constructor hands on by its entry ix, not by 7 -/
def vy_ownAtoms (own : String) (ic : Nat) (X : String) (ix : Nat) (rx : ByteArray) (Y : String) (r : List String) : List Cond :=
  Bundle.throwableAtoms ++ Bundle.throwableSAtoms ++ (Bundle.passSAtoms X Y ix rx ++ Bundle.chainSAtoms Y r) ++
  [.methodLink own ic (Bundle.initS X), .instantiable X 6, .castable X X, .selects X Bundle.tFill0 Bundle.tFill0, .selects X Bundle.tFill Bundle.tFill,
   .lays X Bundle.tN "cause" "Ljava/lang/Throwable;", .lays X Bundle.tN "stackTrace" Bundle.steD, .lays X Bundle.tN "suppressedExceptions" Bundle.listD, .lays X Bundle.tN "detailMessage" "Ljava/lang/String;",
   .isRef (.static Bundle.tN "UNASSIGNED_STACK" Bundle.steD), .isRef (.static Bundle.tN "SUPPRESSED_SENTINEL" Bundle.listD),
   .fieldLink Bundle.tN 198 Bundle.tN "backtrace" "Ljava/lang/Object;", .lays Bundle.tN Bundle.tN "backtrace" "Ljava/lang/Object;", .lays X Bundle.tN "backtrace" "Ljava/lang/Object;"]
def vy_atS (own : String) (ic : Nat) (X : String) (ix : Nat) (rx : ByteArray) (Y : String) (r : List String) : List Cond := (vy_ownAtoms own ic X ix rx Y r).filter vx_no
theorem mem_r {big : List Cond} (ws : List Cond) (ps : List Nat) (hp : ws = ps.filterMap (fun i => big[i]?)) : ∀ w ∈ ws, w ∈ big := by
  intro w hw
  rw [hp] at hw
  obtain ⟨i, -, hi⟩ := List.mem_filterMap.mp hw
  first | exact List.mem_of_getElem? hi | exact List.getElem?_mem hi
theorem mem_ap {big a b : List Cond} (ha : ∀ w ∈ a, w ∈ big) (hb : ∀ w ∈ b, w ∈ big) : ∀ w ∈ a ++ b, w ∈ big := fun w h => (List.mem_append.mp h).elim (ha w) (hb w)
end
section
/-! ===== BEGIN printed: names, fields, word lists, decode rows ===== -/
def RX0 : String := "LentRights$Chains"
def TX0 : u_T := fun k => match k with
  | _ => ("LentRights$Chains", "steps", "LLentRights$Table;", true)
def tyX0 : Nat → FieldType := fun k => match k with
  | _ => .object "LentRights$Table"
abbrev wsX00 : List Cond := u_ws RX0 TX0 1
theorem nmX0 : ∀ a, a < 1 → ∀ b, b < 1 → a ≠ b → (TX0 a).2.1 ≠ (TX0 b).2.1 := by decide +kernel
theorem tyX0_ok : ∀ k, k < 1 → parseFieldDescriptor (TX0 k).2.2.1 = some (tyX0 k) := by decide +kernel
abbrev cX0_init : ByteArray := prog_2_method_1_code
def yX0_init : MethodName := ⟨RX0, "<init>", "()V"⟩
abbrev cX0_stepsTo : ByteArray := prog_2_method_2_code
def yX0_stepsTo : MethodName := ⟨RX0, "stepsTo", "(I)I"⟩
abbrev cX0_measure : ByteArray := prog_2_method_3_code
def yX0_measure : MethodName := ⟨RX0, "measure", "(LLentRights$House;I)V"⟩
abbrev cX0_numberAt : ByteArray := prog_2_method_4_code
def yX0_numberAt : MethodName := ⟨RX0, "numberAt", "(LLentRights$House;III)I"⟩
abbrev cX0_lastLink : ByteArray := prog_2_method_5_code
def yX0_lastLink : MethodName := ⟨RX0, "lastLink", "(LLentRights$House;III)I"⟩
abbrev cX0_isLink : ByteArray := prog_2_method_6_code
def yX0_isLink : MethodName := ⟨RX0, "isLink", "(LLentRights$House;III)Z"⟩
def RX1 : String := "LentRights$History"
def TX1 : u_T := fun k => match k with
  | 0 => ("LentRights$History", "states", "[LLentRights$House;", true)
  | _ => ("LentRights$History", "count", "I", false)
def tyX1 : Nat → FieldType := fun k => match k with
  | 0 => .array (.object "LentRights$House")
  | _ => .int
abbrev wsX10 : List Cond := u_ws RX1 TX1 2
theorem nmX1 : ∀ a, a < 2 → ∀ b, b < 2 → a ≠ b → (TX1 a).2.1 ≠ (TX1 b).2.1 := by decide +kernel
theorem tyX1_ok : ∀ k, k < 2 → parseFieldDescriptor (TX1 k).2.2.1 = some (tyX1 k) := by decide +kernel
abbrev cX1_init : ByteArray := prog_3_method_1_code
def yX1_init : MethodName := ⟨RX1, "<init>", "()V"⟩
abbrev cX1_keep : ByteArray := prog_3_method_3_code
def yX1_keep : MethodName := ⟨RX1, "keep", "(LLentRights$House;)V"⟩
abbrev cX1_makeRoom : ByteArray := prog_3_method_5_code
def yX1_makeRoom : MethodName := ⟨RX1, "makeRoom", "()V"⟩
def RX2 : String := "LentRights$House"
def TX2 : u_T := fun k => match k with
  | 0 => ("LentRights$House", "persons", "LLentRights$Table;", true)
  | 1 => ("LentRights$House", "things", "LLentRights$Table;", true)
  | 2 => ("LentRights$House", "grants", "LLentRights$Table;", true)
  | 3 => ("LentRights$House", "log", "LLentRights$Table;", true)
  | 4 => ("LentRights$House", "held", "LLentRights$Table;", true)
  | 5 => ("LentRights$House", "given", "I", false)
  | 6 => ("LentRights$House", "died", "I", false)
  | 7 => ("LentRights$House", "revoked", "I", false)
  | _ => ("LentRights$House", "time", "I", false)
def tyX2 : Nat → FieldType := fun k => match k with
  | 0 => .object "LentRights$Table"
  | 1 => .object "LentRights$Table"
  | 2 => .object "LentRights$Table"
  | 3 => .object "LentRights$Table"
  | 4 => .object "LentRights$Table"
  | 5 => .int
  | 6 => .int
  | 7 => .int
  | _ => .int
abbrev wsX20 : List Cond := u_ws RX2 TX2 9
theorem nmX2 : ∀ a, a < 9 → ∀ b, b < 9 → a ≠ b → (TX2 a).2.1 ≠ (TX2 b).2.1 := by decide +kernel
theorem tyX2_ok : ∀ k, k < 9 → parseFieldDescriptor (TX2 k).2.2.1 = some (tyX2 k) := by decide +kernel
abbrev cX2_init : ByteArray := prog_4_method_1_code
def yX2_init : MethodName := ⟨RX2, "<init>", "()V"⟩
abbrev cX2_takeOver : ByteArray := prog_4_method_2_code
def yX2_takeOver : MethodName := ⟨RX2, "takeOver", "(LLentRights$House;)V"⟩
abbrev cX2_takeIn : ByteArray := prog_4_method_3_code
def yX2_takeIn : MethodName := ⟨RX2, "takeIn", "(II)I"⟩
abbrev cX2_changeThing : ByteArray := prog_4_method_4_code
def yX2_changeThing : MethodName := ⟨RX2, "changeThing", "(III)I"⟩
abbrev cX2_faultOfGrant : ByteArray := prog_4_method_5_code
def yX2_faultOfGrant : MethodName := ⟨RX2, "faultOfGrant", "(IIIII)I"⟩
abbrev cX2_lend : ByteArray := prog_4_method_6_code
def yX2_lend : MethodName := ⟨RX2, "lend", "(IIIII)I"⟩
abbrev cX2_changeMood : ByteArray := prog_4_method_8_code
def yX2_changeMood : MethodName := ⟨RX2, "changeMood", "(II)I"⟩
abbrev cX2_hasTimeFor : ByteArray := prog_4_method_9_code
def yX2_hasTimeFor : MethodName := ⟨RX2, "hasTimeFor", "(I)Z"⟩
abbrev cX2_letPass : ByteArray := prog_4_method_10_code
def yX2_letPass : MethodName := ⟨RX2, "letPass", "(I)I"⟩
abbrev cX2_rightsOf : ByteArray := prog_4_method_11_code
def yX2_rightsOf : MethodName := ⟨RX2, "rightsOf", "(II)I"⟩
abbrev cX2_placeOf : ByteArray := prog_4_method_12_code
def yX2_placeOf : MethodName := ⟨RX2, "placeOf", "(I)I"⟩
abbrev cX2_passedOn : ByteArray := prog_4_method_13_code
def yX2_passedOn : MethodName := ⟨RX2, "passedOn", "(I)I"⟩
abbrev cX2_countPairs : ByteArray := prog_4_method_14_code
def yX2_countPairs : MethodName := ⟨RX2, "countPairs", "()I"⟩
abbrev cX2_greatestThreshold : ByteArray := prog_4_method_15_code
def yX2_greatestThreshold : MethodName := ⟨RX2, "greatestThreshold", "(I)I"⟩
abbrev cX2_aboutPerson : ByteArray := prog_4_method_16_code
def yX2_aboutPerson : MethodName := ⟨RX2, "aboutPerson", "(II)I"⟩
abbrev cX2_aboutThing : ByteArray := prog_4_method_17_code
def yX2_aboutThing : MethodName := ⟨RX2, "aboutThing", "(II)I"⟩
abbrev cX2_aboutGrant : ByteArray := prog_4_method_18_code
def yX2_aboutGrant : MethodName := ⟨RX2, "aboutGrant", "(II)I"⟩
abbrev cX2_aboutHouse : ByteArray := prog_4_method_20_code
def yX2_aboutHouse : MethodName := ⟨RX2, "aboutHouse", "(I)I"⟩
abbrev cX2_reasonAgainst : ByteArray := prog_4_method_21_code
def yX2_reasonAgainst : MethodName := ⟨RX2, "reasonAgainst", "(III)I"⟩
abbrev cX2_isGrantOf : ByteArray := prog_4_method_22_code
def yX2_isGrantOf : MethodName := ⟨RX2, "isGrantOf", "(IIII)Z"⟩
abbrev cX2_settle : ByteArray := prog_4_method_23_code
def yX2_settle : MethodName := ⟨RX2, "settle", "()V"⟩
abbrev cX2_calm : ByteArray := prog_4_method_24_code
def yX2_calm : MethodName := ⟨RX2, "calm", "(I)V"⟩
abbrev cX2_buryDying : ByteArray := prog_4_method_25_code
def yX2_buryDying : MethodName := ⟨RX2, "buryDying", "()I"⟩
abbrev cX2_isDying : ByteArray := prog_4_method_26_code
def yX2_isDying : MethodName := ⟨RX2, "isDying", "(I)Z"⟩
abbrev cX2_enter : ByteArray := prog_4_method_27_code
def yX2_enter : MethodName := ⟨RX2, "enter", "(I)V"⟩
abbrev cX2_thingsSeenBy : ByteArray := prog_4_method_28_code
def yX2_thingsSeenBy : MethodName := ⟨RX2, "thingsSeenBy", "(I)I"⟩
abbrev cX2_holdersOf : ByteArray := prog_4_method_29_code
def yX2_holdersOf : MethodName := ⟨RX2, "holdersOf", "(II)I"⟩
abbrev cX2_countIdleGrants : ByteArray := prog_4_method_30_code
def yX2_countIdleGrants : MethodName := ⟨RX2, "countIdleGrants", "()I"⟩
abbrev cX2_countEqual : ByteArray := prog_4_method_31_code
def yX2_countEqual : MethodName := ⟨RX2, "countEqual", "(LLentRights$Table;II)I"⟩
def RX3 : String := "LentRights$Table"
def TX3 : u_T := fun k => match k with
  | 0 => ("LentRights$Table", "limit", "I", true)
  | 1 => ("LentRights$Table", "columns", "I", true)
  | 2 => ("LentRights$Table", "cells", "[I", true)
  | _ => ("LentRights$Table", "rows", "I", false)
def tyX3 : Nat → FieldType := fun k => match k with
  | 0 => .int
  | 1 => .int
  | 2 => .array .int
  | _ => .int
abbrev wsX30 : List Cond := u_ws RX3 TX3 4
theorem nmX3 : ∀ a, a < 4 → ∀ b, b < 4 → a ≠ b → (TX3 a).2.1 ≠ (TX3 b).2.1 := by decide +kernel
theorem tyX3_ok : ∀ k, k < 4 → parseFieldDescriptor (TX3 k).2.2.1 = some (tyX3 k) := by decide +kernel
abbrev cX3_init : ByteArray := prog_5_method_1_code
def yX3_init : MethodName := ⟨RX3, "<init>", "(II)V"⟩
abbrev cX3_rows : ByteArray := prog_5_method_2_code
def yX3_rows : MethodName := ⟨RX3, "rows", "()I"⟩
abbrev cX3_has : ByteArray := prog_5_method_3_code
def yX3_has : MethodName := ⟨RX3, "has", "(I)Z"⟩
abbrev cX3_isFull : ByteArray := prog_5_method_4_code
def yX3_isFull : MethodName := ⟨RX3, "isFull", "()Z"⟩
abbrev cX3_at : ByteArray := prog_5_method_5_code
def yX3_at : MethodName := ⟨RX3, "at", "(II)I"⟩
abbrev cX3_put : ByteArray := prog_5_method_6_code
def yX3_put : MethodName := ⟨RX3, "put", "(III)V"⟩
abbrev cX3_addRow : ByteArray := prog_5_method_7_code
def yX3_addRow : MethodName := ⟨RX3, "addRow", "()I"⟩
abbrev cX3_drop : ByteArray := prog_5_method_8_code
def yX3_drop : MethodName := ⟨RX3, "drop", "(I)V"⟩
abbrev cX3_takeOver : ByteArray := prog_5_method_10_code
def yX3_takeOver : MethodName := ⟨RX3, "takeOver", "(LLentRights$Table;)V"⟩
def RX4 : String := "LentRights$Text"
def TX4 : u_T := fun k => match k with
  | 0 => ("LentRights$Text", "bytes", "LLentRights$Table;", true)
  | 1 => ("LentRights$Text", "orders", "LLentRights$Table;", true)
  | 2 => ("LentRights$Text", "place", "I", false)
  | _ => ("LentRights$Text", "fault", "I", false)
def tyX4 : Nat → FieldType := fun k => match k with
  | 0 => .object "LentRights$Table"
  | 1 => .object "LentRights$Table"
  | 2 => .int
  | _ => .int
abbrev wsX40 : List Cond := u_ws RX4 TX4 4
theorem nmX4 : ∀ a, a < 4 → ∀ b, b < 4 → a ≠ b → (TX4 a).2.1 ≠ (TX4 b).2.1 := by decide +kernel
theorem tyX4_ok : ∀ k, k < 4 → parseFieldDescriptor (TX4 k).2.2.1 = some (tyX4 k) := by decide +kernel
abbrev cX4_init : ByteArray := prog_6_method_1_code
def yX4_init : MethodName := ⟨RX4, "<init>", "()V"⟩
def RX5 : String := "LentRights"
def TX5 : u_T := fun k => match k with
  | 0 => ("LentRights", "house", "LLentRights$House;", true)
  | 1 => ("LentRights", "trial", "LLentRights$House;", true)
  | 2 => ("LentRights", "history", "LLentRights$History;", true)
  | 3 => ("LentRights", "chains", "LLentRights$Chains;", true)
  | _ => ("LentRights", "text", "LLentRights$Text;", true)
def tyX5 : Nat → FieldType := fun k => match k with
  | 0 => .object "LentRights$House"
  | 1 => .object "LentRights$House"
  | 2 => .object "LentRights$History"
  | 3 => .object "LentRights$Chains"
  | _ => .object "LentRights$Text"
abbrev wsX50 : List Cond := u_ws RX5 TX5 5
theorem nmX5 : ∀ a, a < 5 → ∀ b, b < 5 → a ≠ b → (TX5 a).2.1 ≠ (TX5 b).2.1 := by decide +kernel
theorem tyX5_ok : ∀ k, k < 5 → parseFieldDescriptor (TX5 k).2.2.1 = some (tyX5 k) := by decide +kernel
abbrev cX5_init : ByteArray := prog_1_method_1_code
def yX5_init : MethodName := ⟨RX5, "<init>", "()V"⟩
abbrev cX5_addThing : ByteArray := prog_1_method_2_code
def yX5_addThing : MethodName := ⟨RX5, "addThing", "(II)I"⟩
abbrev cX5_setMask : ByteArray := prog_1_method_3_code
def yX5_setMask : MethodName := ⟨RX5, "setMask", "(II)I"⟩
abbrev cX5_setBase : ByteArray := prog_1_method_4_code
def yX5_setBase : MethodName := ⟨RX5, "setBase", "(II)I"⟩
abbrev cX5_give : ByteArray := prog_1_method_5_code
def yX5_give : MethodName := ⟨RX5, "give", "(II)I"⟩
abbrev cX5_grant : ByteArray := prog_1_method_6_code
def yX5_grant : MethodName := ⟨RX5, "grant", "(IIIII)I"⟩
abbrev cX5_cheer : ByteArray := prog_1_method_8_code
def yX5_cheer : MethodName := ⟨RX5, "cheer", "(II)I"⟩
abbrev cX5_pass : ByteArray := prog_1_method_9_code
def yX5_pass : MethodName := ⟨RX5, "pass", "(I)I"⟩
abbrev cX5_held : ByteArray := prog_1_method_10_code
def yX5_held : MethodName := ⟨RX5, "held", "(II)I"⟩
abbrev cX5_person : ByteArray := prog_1_method_11_code
def yX5_person : MethodName := ⟨RX5, "person", "(II)I"⟩
abbrev cX5_thing : ByteArray := prog_1_method_12_code
def yX5_thing : MethodName := ⟨RX5, "thing", "(II)I"⟩
abbrev cX5_grantOf : ByteArray := prog_1_method_13_code
def yX5_grantOf : MethodName := ⟨RX5, "grantOf", "(II)I"⟩
abbrev cX5_chain : ByteArray := prog_1_method_14_code
def yX5_chain : MethodName := ⟨RX5, "chain", "(II)I"⟩
abbrev cX5_link : ByteArray := prog_1_method_15_code
def yX5_link : MethodName := ⟨RX5, "link", "(III)I"⟩
abbrev cX5_why : ByteArray := prog_1_method_16_code
def yX5_why : MethodName := ⟨RX5, "why", "(III)I"⟩
abbrev cX5_value : ByteArray := prog_1_method_17_code
def yX5_value : MethodName := ⟨RX5, "value", "(I)I"⟩
abbrev cX5_lostBy : ByteArray := prog_1_method_19_code
def yX5_lostBy : MethodName := ⟨RX5, "lostBy", "(I)I"⟩
abbrev cX5_seenIn : ByteArray := prog_1_method_21_code
def yX5_seenIn : MethodName := ⟨RX5, "seenIn", "(I)I"⟩
abbrev cX5_gainBy : ByteArray := prog_1_method_22_code
def yX5_gainBy : MethodName := ⟨RX5, "gainBy", "(IIIII)I"⟩
abbrev cX5_patience : ByteArray := prog_1_method_23_code
def yX5_patience : MethodName := ⟨RX5, "patience", "(I)I"⟩
abbrev cX5_meanChain : ByteArray := prog_1_method_24_code
def yX5_meanChain : MethodName := ⟨RX5, "meanChain", "()D"⟩
abbrev cX5_pairsLostBy : ByteArray := prog_1_method_34_code
def yX5_pairsLostBy : MethodName := ⟨RX5, "pairsLostBy", "(I)I"⟩
abbrev cX5_requireFit : ByteArray := prog_1_method_39_code
def yX5_requireFit : MethodName := ⟨RX5, "requireFit", "(I)V"⟩
abbrev cX5_requireGrant : ByteArray := prog_1_method_40_code
def yX5_requireGrant : MethodName := ⟨RX5, "requireGrant", "(I)I"⟩
abbrev cX5_requireThing : ByteArray := prog_1_method_41_code
def yX5_requireThing : MethodName := ⟨RX5, "requireThing", "(I)V"⟩
abbrev cX5_requirePerson : ByteArray := prog_1_method_42_code
def yX5_requirePerson : MethodName := ⟨RX5, "requirePerson", "(I)V"⟩
abbrev cX5_requireMask : ByteArray := prog_1_method_43_code
def yX5_requireMask : MethodName := ⟨RX5, "requireMask", "(I)V"⟩
abbrev cX5_requireRange : ByteArray := prog_1_method_44_code
def yX5_requireRange : MethodName := ⟨RX5, "requireRange", "(III)V"⟩
abbrev cX5_isPerson : ByteArray := prog_1_method_45_code
def yX5_isPerson : MethodName := ⟨RX5, "isPerson", "(I)Z"⟩
abbrev cX5_isBetween : ByteArray := prog_1_method_46_code
def yX5_isBetween : MethodName := ⟨RX5, "isBetween", "(III)Z"⟩
def RX6 : String := "LentRightsModel"
def TX6 : u_T := fun k => match k with
  | _ => ("", "", "", false)
def tyX6 : Nat → FieldType := fun k => match k with
  | _ => .int
abbrev wsX60 : List Cond := u_ws RX6 TX6 0
theorem nmX6 : ∀ a, a < 0 → ∀ b, b < 0 → a ≠ b → (TX6 a).2.1 ≠ (TX6 b).2.1 := by decide +kernel
theorem tyX6_ok : ∀ k, k < 0 → parseFieldDescriptor (TX6 k).2.2.1 = some (tyX6 k) := by decide +kernel
def RJx145de : String := "java/io/Serializable"
def TJx145de : u_T := fun k => match k with
  | _ => ("", "", "", false)
def tyJx145de : Nat → FieldType := fun k => match k with
  | _ => .int
abbrev wsJx145de0 : List Cond := u_ws RJx145de TJx145de 0
theorem nmJx145de : ∀ a, a < 0 → ∀ b, b < 0 → a ≠ b → (TJx145de a).2.1 ≠ (TJx145de b).2.1 := by decide +kernel
theorem tyJx145de_ok : ∀ k, k < 0 → parseFieldDescriptor (TJx145de k).2.2.1 = some (tyJx145de k) := by decide +kernel
def RJ6 : String := "java/lang/Integer"
def TJ6 : u_T := fun k => match k with
  | _ => ("", "", "", false)
def tyJ6 : Nat → FieldType := fun k => match k with
  | _ => .int
abbrev wsJ60 : List Cond := u_ws RJ6 TJ6 0
theorem nmJ6 : ∀ a, a < 0 → ∀ b, b < 0 → a ≠ b → (TJ6 a).2.1 ≠ (TJ6 b).2.1 := by decide +kernel
theorem tyJ6_ok : ∀ k, k < 0 → parseFieldDescriptor (TJ6 k).2.2.1 = some (tyJ6 k) := by decide +kernel
abbrev cJ6_bitCount_0f7a4 : ByteArray := prog_14_method_49_code
def yJ6_bitCount_0f7a4 : MethodName := ⟨RJ6, "bitCount", "(I)I"⟩
def RJ9 : String := "java/lang/Math"
def TJ9 : u_T := fun k => match k with
  | _ => ("", "", "", false)
def tyJ9 : Nat → FieldType := fun k => match k with
  | _ => .int
abbrev wsJ90 : List Cond := u_ws RJ9 TJ9 0
theorem nmJ9 : ∀ a, a < 0 → ∀ b, b < 0 → a ≠ b → (TJ9 a).2.1 ≠ (TJ9 b).2.1 := by decide +kernel
theorem tyJ9_ok : ∀ k, k < 0 → parseFieldDescriptor (TJ9 k).2.2.1 = some (tyJ9 k) := by decide +kernel
abbrev cJ9_max_7cf53 : ByteArray := prog_15_method_65_code
def yJ9_max_7cf53 : MethodName := ⟨RJ9, "max", "(II)I"⟩
abbrev cJ9_min_7cf53 : ByteArray := prog_15_method_69_code
def yJ9_min_7cf53 : MethodName := ⟨RJ9, "min", "(II)I"⟩
def RJ0 : String := "java/lang/String"
def TJ0 : u_T := fun k => match k with
  | _ => ("", "", "", false)
def tyJ0 : Nat → FieldType := fun k => match k with
  | _ => .int
abbrev wsJ00 : List Cond := u_ws RJ0 TJ0 0
theorem nmJ0 : ∀ a, a < 0 → ∀ b, b < 0 → a ≠ b → (TJ0 a).2.1 ≠ (TJ0 b).2.1 := by decide +kernel
theorem tyJ0_ok : ∀ k, k < 0 → parseFieldDescriptor (TJ0 k).2.2.1 = some (tyJ0 k) := by decide +kernel
def RL : String := "LentRightsLaw"
abbrev cL_cell : ByteArray := method_2_code
def yL_cell : MethodName := ⟨RL, "cell", "([II)I"⟩
abbrev cL_up : ByteArray := method_3_code
def yL_up : MethodName := ⟨RL, "up", "(II)I"⟩
abbrev cL_isStep : ByteArray := method_4_code
def yL_isStep : MethodName := ⟨RL, "isStep", "(LLentRights;LLentRights;I)Z"⟩
abbrev cL_areAlike : ByteArray := method_5_code
def yL_areAlike : MethodName := ⟨RL, "areAlike", "(LLentRights;LLentRights;)Z"⟩
abbrev cL_isSound : ByteArray := method_6_code
def yL_isSound : MethodName := ⟨RL, "isSound", "(LLentRights;)Z"⟩
abbrev cL_law : ByteArray := code
def yL_law : MethodName := ⟨RL, "law", "([I)Z"⟩
def wsX3_init : List Cond := .code yX3_init cX3_init 3 none :: ([.methodLink RX3 3 objectInit, .instanceMethod objectInit, .code objectInit ⟨#[0xb1]⟩ 1 none, .fieldLink RX3 9 "LentRights$Table" "limit" "I", .fieldLink RX3 15 "LentRights$Table" "columns" "I", .arrayClass .int, .fieldLink RX3 18 "LentRights$Table" "cells" "[I"] ++ wsX30)
def wsX3_addRow : List Cond := .code yX3_addRow cX3_addRow 1 (some .int) :: ([.fieldLink RX3 22 "LentRights$Table" "rows" "I", .fieldLink RX3 9 "LentRights$Table" "limit" "I"] ++ wsX30)
def wsX0_init : List Cond := .code yX0_init cX0_init 1 none :: ([.methodLink RX0 3 objectInit, .instanceMethod objectInit, .code objectInit ⟨#[0xb1]⟩ 1 none, .classLink RX0 9 RX3, .instantiable RX3 4, .initialized RX3, .fieldLink RX0 14 "LentRights$Chains" "steps" "LLentRights$Table;", .methodLink RX0 11 yX3_init, .instanceMethod yX3_init, .code yX3_init cX3_init 3 none, .methodLink RX3 3 objectInit, .fieldLink RX3 9 "LentRights$Table" "limit" "I", .fieldLink RX3 15 "LentRights$Table" "columns" "I", .arrayClass .int, .fieldLink RX3 18 "LentRights$Table" "cells" "[I", .methodLink RX0 20 yX3_addRow, .instanceMethod yX3_addRow, .selects RX3 yX3_addRow yX3_addRow, .code yX3_addRow cX3_addRow 1 (some .int), .fieldLink RX3 22 "LentRights$Table" "rows" "I"] ++ wsX30 ++ wsX00)
def wsX3_at : List Cond := .code yX3_at cX3_at 5 (some .int) :: ([.fieldLink RX3 22 "LentRights$Table" "rows" "I", .fieldLink RX3 15 "LentRights$Table" "columns" "I", .fieldLink RX3 18 "LentRights$Table" "cells" "[I"] ++ wsX30)
def wsX0_stepsTo : List Cond := .code yX0_stepsTo cX0_stepsTo 2 (some .int) :: ([.fieldLink RX0 14 "LentRights$Chains" "steps" "LLentRights$Table;", .methodLink RX0 24 yX3_at, .instanceMethod yX3_at, .selects RX3 yX3_at yX3_at, .initialized RX3, .code yX3_at cX3_at 5 (some .int), .fieldLink RX3 22 "LentRights$Table" "rows" "I", .fieldLink RX3 15 "LentRights$Table" "columns" "I", .fieldLink RX3 18 "LentRights$Table" "cells" "[I"] ++ wsX00 ++ wsX30)
def wsX3_put : List Cond := .code yX3_put cX3_put 6 none :: ([.fieldLink RX3 22 "LentRights$Table" "rows" "I", .fieldLink RX3 15 "LentRights$Table" "columns" "I", .fieldLink RX3 18 "LentRights$Table" "cells" "[I"] ++ wsX30)
def wsX3_rows : List Cond := .code yX3_rows cX3_rows 1 (some .int) :: ([.fieldLink RX3 22 "LentRights$Table" "rows" "I"] ++ wsX30)
def wsX2_passedOn : List Cond := .code yX2_passedOn cX2_passedOn 4 (some .int) :: ([.fieldLink RX2 23 "LentRights$House" "grants" "LLentRights$Table;", .fieldLink RX2 29 "LentRights$House" "held" "LLentRights$Table;", .fieldLink RX2 20 "LentRights$House" "things" "LLentRights$Table;", .methodLink RX2 60 yX3_at, .instanceMethod yX3_at, .selects RX3 yX3_at yX3_at, .initialized RX3, .code yX3_at cX3_at 5 (some .int), .fieldLink RX3 22 "LentRights$Table" "rows" "I", .fieldLink RX3 15 "LentRights$Table" "columns" "I", .fieldLink RX3 18 "LentRights$Table" "cells" "[I"] ++ wsX20 ++ wsX30)
def wsX0_isLink : List Cond := .code yX0_isLink cX0_isLink 5 (some .boolean) :: ([.fieldLink RX0 37 "LentRights$House" "grants" "LLentRights$Table;", .methodLink RX0 24 yX3_at, .instanceMethod yX3_at, .selects RX3 yX3_at yX3_at, .initialized RX3, .code yX3_at cX3_at 5 (some .int), .fieldLink RX3 22 "LentRights$Table" "rows" "I", .fieldLink RX3 15 "LentRights$Table" "columns" "I", .fieldLink RX3 18 "LentRights$Table" "cells" "[I", .methodLink RX0 43 yX0_stepsTo, .instanceMethod yX0_stepsTo, .selects RX0 yX0_stepsTo yX0_stepsTo, .initialized RX0, .code yX0_stepsTo cX0_stepsTo 2 (some .int), .fieldLink RX0 14 "LentRights$Chains" "steps" "LLentRights$Table;", .methodLink RX0 55 yX2_passedOn, .instanceMethod yX2_passedOn, .selects RX2 yX2_passedOn yX2_passedOn, .initialized RX2, .code yX2_passedOn cX2_passedOn 4 (some .int), .fieldLink RX2 23 "LentRights$House" "grants" "LLentRights$Table;", .fieldLink RX2 29 "LentRights$House" "held" "LLentRights$Table;", .fieldLink RX2 20 "LentRights$House" "things" "LLentRights$Table;", .methodLink RX2 60 yX3_at] ++ wsX20 ++ wsX30 ++ wsX00)
def wsX0_measure_r1 : List Cond := [Cond.fieldLink RX0 14 "LentRights$Chains" "steps" "LLentRights$Table;", Cond.fieldLink RX0 28 "LentRights$House" "things" "LLentRights$Table;", Cond.fieldLink RX0 37 "LentRights$House" "grants" "LLentRights$Table;", Cond.methodLink RX0 24 yX3_at, Cond.instanceMethod yX3_at, Cond.selects RX3 yX3_at yX3_at, Cond.initialized RX3, Cond.code yX3_at cX3_at 5 (some .int), Cond.fieldLink RX3 22 "LentRights$Table" "rows" "I", Cond.fieldLink RX3 15 "LentRights$Table" "columns" "I", Cond.fieldLink RX3 18 "LentRights$Table" "cells" "[I", Cond.methodLink RX0 33 yX3_put, Cond.instanceMethod yX3_put, Cond.selects RX3 yX3_put yX3_put, Cond.code yX3_put cX3_put 6 none, Cond.methodLink RX0 40 yX3_rows, Cond.instanceMethod yX3_rows, Cond.selects RX3 yX3_rows yX3_rows, Cond.code yX3_rows cX3_rows 1 (some .int), Cond.methodLink RX0 43 yX0_stepsTo, Cond.instanceMethod yX0_stepsTo, Cond.selects RX0 yX0_stepsTo yX0_stepsTo, Cond.initialized RX0, Cond.code yX0_stepsTo cX0_stepsTo 2 (some .int)]
def wsX0_measure_r2 : List Cond := [Cond.methodLink RX0 47 yX0_isLink, Cond.instanceMethod yX0_isLink, Cond.selects RX0 yX0_isLink yX0_isLink, Cond.code yX0_isLink cX0_isLink 5 (some .boolean), Cond.methodLink RX0 55 yX2_passedOn, Cond.instanceMethod yX2_passedOn, Cond.selects RX2 yX2_passedOn yX2_passedOn, Cond.initialized RX2, Cond.code yX2_passedOn cX2_passedOn 4 (some .int), Cond.fieldLink RX2 23 "LentRights$House" "grants" "LLentRights$Table;", Cond.fieldLink RX2 29 "LentRights$House" "held" "LLentRights$Table;", Cond.fieldLink RX2 20 "LentRights$House" "things" "LLentRights$Table;", Cond.methodLink RX2 60 yX3_at]
def wsX0_measure : List Cond := .code yX0_measure cX0_measure 7 none :: ((wsX0_measure_r1 ++ wsX0_measure_r2) ++ wsX00 ++ wsX20 ++ wsX30)
def wsX0_lastLink_r1 : List Cond := [Cond.fieldLink RX0 37 "LentRights$House" "grants" "LLentRights$Table;", Cond.methodLink RX0 40 yX3_rows, Cond.instanceMethod yX3_rows, Cond.selects RX3 yX3_rows yX3_rows, Cond.initialized RX3, Cond.code yX3_rows cX3_rows 1 (some .int), Cond.fieldLink RX3 22 "LentRights$Table" "rows" "I", Cond.methodLink RX0 24 yX3_at, Cond.instanceMethod yX3_at, Cond.selects RX3 yX3_at yX3_at, Cond.code yX3_at cX3_at 5 (some .int), Cond.fieldLink RX3 15 "LentRights$Table" "columns" "I", Cond.fieldLink RX3 18 "LentRights$Table" "cells" "[I", Cond.methodLink RX0 47 yX0_isLink, Cond.instanceMethod yX0_isLink, Cond.selects RX0 yX0_isLink yX0_isLink, Cond.initialized RX0, Cond.code yX0_isLink cX0_isLink 5 (some .boolean), Cond.methodLink RX0 43 yX0_stepsTo, Cond.instanceMethod yX0_stepsTo, Cond.selects RX0 yX0_stepsTo yX0_stepsTo, Cond.code yX0_stepsTo cX0_stepsTo 2 (some .int), Cond.fieldLink RX0 14 "LentRights$Chains" "steps" "LLentRights$Table;", Cond.methodLink RX0 55 yX2_passedOn]
def wsX0_lastLink_r2 : List Cond := [Cond.instanceMethod yX2_passedOn, Cond.selects RX2 yX2_passedOn yX2_passedOn, Cond.initialized RX2, Cond.code yX2_passedOn cX2_passedOn 4 (some .int), Cond.fieldLink RX2 23 "LentRights$House" "grants" "LLentRights$Table;", Cond.fieldLink RX2 29 "LentRights$House" "held" "LLentRights$Table;", Cond.fieldLink RX2 20 "LentRights$House" "things" "LLentRights$Table;", Cond.methodLink RX2 60 yX3_at]
def wsX0_lastLink : List Cond := .code yX0_lastLink cX0_lastLink 7 (some .int) :: ((wsX0_lastLink_r1 ++ wsX0_lastLink_r2) ++ wsX20 ++ wsX30 ++ wsX00)
def wsX0_numberAt_r1 : List Cond := [Cond.fieldLink RX0 37 "LentRights$House" "grants" "LLentRights$Table;", Cond.methodLink RX0 43 yX0_stepsTo, Cond.instanceMethod yX0_stepsTo, Cond.selects RX0 yX0_stepsTo yX0_stepsTo, Cond.initialized RX0, Cond.code yX0_stepsTo cX0_stepsTo 2 (some .int), Cond.fieldLink RX0 14 "LentRights$Chains" "steps" "LLentRights$Table;", Cond.methodLink RX0 24 yX3_at, Cond.instanceMethod yX3_at, Cond.selects RX3 yX3_at yX3_at, Cond.initialized RX3, Cond.code yX3_at cX3_at 5 (some .int), Cond.fieldLink RX3 22 "LentRights$Table" "rows" "I", Cond.fieldLink RX3 15 "LentRights$Table" "columns" "I", Cond.fieldLink RX3 18 "LentRights$Table" "cells" "[I", Cond.methodLink RX0 51 yX0_lastLink, Cond.instanceMethod yX0_lastLink, Cond.selects RX0 yX0_lastLink yX0_lastLink, Cond.code yX0_lastLink cX0_lastLink 7 (some .int), Cond.methodLink RX0 40 yX3_rows, Cond.instanceMethod yX3_rows, Cond.selects RX3 yX3_rows yX3_rows, Cond.code yX3_rows cX3_rows 1 (some .int), Cond.methodLink RX0 47 yX0_isLink]
def wsX0_numberAt_r2 : List Cond := [Cond.instanceMethod yX0_isLink, Cond.selects RX0 yX0_isLink yX0_isLink, Cond.code yX0_isLink cX0_isLink 5 (some .boolean), Cond.methodLink RX0 55 yX2_passedOn, Cond.instanceMethod yX2_passedOn, Cond.selects RX2 yX2_passedOn yX2_passedOn, Cond.initialized RX2, Cond.code yX2_passedOn cX2_passedOn 4 (some .int), Cond.fieldLink RX2 23 "LentRights$House" "grants" "LLentRights$Table;", Cond.fieldLink RX2 29 "LentRights$House" "held" "LLentRights$Table;", Cond.fieldLink RX2 20 "LentRights$House" "things" "LLentRights$Table;", Cond.methodLink RX2 60 yX3_at]
def wsX0_numberAt : List Cond := .code yX0_numberAt cX0_numberAt 9 (some .int) :: ((wsX0_numberAt_r1 ++ wsX0_numberAt_r2) ++ wsX20 ++ wsX00 ++ wsX30)
def wsX2_init_r1 : List Cond := [Cond.methodLink RX2 3 objectInit, Cond.instanceMethod objectInit, Cond.code objectInit ⟨#[0xb1]⟩ 1 none, Cond.classLink RX2 9 RX3, Cond.instantiable RX3 4, Cond.initialized RX3, Cond.fieldLink RX2 14 "LentRights$House" "persons" "LLentRights$Table;", Cond.fieldLink RX2 20 "LentRights$House" "things" "LLentRights$Table;", Cond.fieldLink RX2 23 "LentRights$House" "grants" "LLentRights$Table;", Cond.fieldLink RX2 26 "LentRights$House" "log" "LLentRights$Table;", Cond.fieldLink RX2 29 "LentRights$House" "held" "LLentRights$Table;", Cond.methodLink RX2 11 yX3_init, Cond.instanceMethod yX3_init, Cond.code yX3_init cX3_init 3 none, Cond.methodLink RX3 3 objectInit, Cond.fieldLink RX3 9 "LentRights$Table" "limit" "I", Cond.fieldLink RX3 15 "LentRights$Table" "columns" "I", Cond.arrayClass .int, Cond.fieldLink RX3 18 "LentRights$Table" "cells" "[I", Cond.methodLink RX2 32 yX3_addRow, Cond.instanceMethod yX3_addRow, Cond.selects RX3 yX3_addRow yX3_addRow, Cond.code yX3_addRow cX3_addRow 1 (some .int), Cond.fieldLink RX3 22 "LentRights$Table" "rows" "I"]
def wsX2_init_r2 : List Cond := [Cond.methodLink RX2 36 yX3_put, Cond.instanceMethod yX3_put, Cond.selects RX3 yX3_put yX3_put, Cond.code yX3_put cX3_put 6 none]
def wsX2_init : List Cond := .code yX2_init cX2_init 2 none :: ((wsX2_init_r1 ++ wsX2_init_r2) ++ wsX30 ++ wsX20)
def wsX1_init_r1 : List Cond := [Cond.methodLink RX1 3 objectInit, Cond.instanceMethod objectInit, Cond.code objectInit ⟨#[0xb1]⟩ 1 none, Cond.classLink RX1 9 RX2, Cond.fieldLink RX1 11 "LentRights$History" "states" "[LLentRights$House;", Cond.instantiable RX2 9, Cond.initialized RX2, Cond.methodLink RX1 17 yX2_init, Cond.instanceMethod yX2_init, Cond.code yX2_init cX2_init 2 none, Cond.methodLink RX2 3 objectInit, Cond.classLink RX2 9 RX3, Cond.instantiable RX3 4, Cond.initialized RX3, Cond.fieldLink RX2 14 "LentRights$House" "persons" "LLentRights$Table;", Cond.fieldLink RX2 20 "LentRights$House" "things" "LLentRights$Table;", Cond.fieldLink RX2 23 "LentRights$House" "grants" "LLentRights$Table;", Cond.fieldLink RX2 26 "LentRights$House" "log" "LLentRights$Table;", Cond.fieldLink RX2 29 "LentRights$House" "held" "LLentRights$Table;", Cond.methodLink RX2 11 yX3_init, Cond.instanceMethod yX3_init, Cond.code yX3_init cX3_init 3 none, Cond.methodLink RX3 3 objectInit, Cond.fieldLink RX3 9 "LentRights$Table" "limit" "I"]
def wsX1_init_r2 : List Cond := [Cond.fieldLink RX3 15 "LentRights$Table" "columns" "I", Cond.arrayClass .int, Cond.fieldLink RX3 18 "LentRights$Table" "cells" "[I", Cond.methodLink RX2 32 yX3_addRow, Cond.instanceMethod yX3_addRow, Cond.selects RX3 yX3_addRow yX3_addRow, Cond.code yX3_addRow cX3_addRow 1 (some .int), Cond.fieldLink RX3 22 "LentRights$Table" "rows" "I", Cond.methodLink RX2 36 yX3_put, Cond.instanceMethod yX3_put, Cond.selects RX3 yX3_put yX3_put, Cond.code yX3_put cX3_put 6 none]
def wsX1_init : List Cond := .code yX1_init cX1_init 2 none :: ((wsX1_init_r1 ++ wsX1_init_r2) ++ wsX10 ++ wsX20 ++ wsX30)
def wsX1_makeRoom : List Cond := .code yX1_makeRoom cX1_makeRoom 3 none :: ([.fieldLink RX1 11 "LentRights$History" "states" "[LLentRights$House;", .fieldLink RX1 18 "LentRights$History" "count" "I"] ++ wsX10)
def wsX3_takeOver : List Cond := .code yX3_takeOver cX3_takeOver 4 none :: ([.fieldLink RX3 22 "LentRights$Table" "rows" "I", .fieldLink RX3 9 "LentRights$Table" "limit" "I", .fieldLink RX3 15 "LentRights$Table" "columns" "I", .fieldLink RX3 18 "LentRights$Table" "cells" "[I"] ++ wsX30)
def wsX2_takeOver : List Cond := .code yX2_takeOver cX2_takeOver 2 none :: ([.fieldLink RX2 14 "LentRights$House" "persons" "LLentRights$Table;", .fieldLink RX2 20 "LentRights$House" "things" "LLentRights$Table;", .fieldLink RX2 23 "LentRights$House" "grants" "LLentRights$Table;", .fieldLink RX2 26 "LentRights$House" "log" "LLentRights$Table;", .fieldLink RX2 29 "LentRights$House" "held" "LLentRights$Table;", .fieldLink RX2 44 "LentRights$House" "given" "I", .fieldLink RX2 48 "LentRights$House" "died" "I", .fieldLink RX2 51 "LentRights$House" "revoked" "I", .fieldLink RX2 54 "LentRights$House" "time" "I", .methodLink RX2 40 yX3_takeOver, .instanceMethod yX3_takeOver, .selects RX3 yX3_takeOver yX3_takeOver, .initialized RX3, .code yX3_takeOver cX3_takeOver 4 none, .fieldLink RX3 22 "LentRights$Table" "rows" "I", .fieldLink RX3 9 "LentRights$Table" "limit" "I", .fieldLink RX3 15 "LentRights$Table" "columns" "I", .fieldLink RX3 18 "LentRights$Table" "cells" "[I"] ++ wsX20 ++ wsX30)
def wsX1_keep_r1 : List Cond := [Cond.fieldLink RX1 18 "LentRights$History" "count" "I", Cond.fieldLink RX1 11 "LentRights$History" "states" "[LLentRights$House;", Cond.methodLink RX1 22 yX1_makeRoom, Cond.instanceMethod yX1_makeRoom, Cond.selects RX1 yX1_makeRoom yX1_makeRoom, Cond.initialized RX1, Cond.code yX1_makeRoom cX1_makeRoom 3 none, Cond.methodLink RX1 25 yX2_takeOver, Cond.instanceMethod yX2_takeOver, Cond.selects RX2 yX2_takeOver yX2_takeOver, Cond.initialized RX2, Cond.code yX2_takeOver cX2_takeOver 2 none, Cond.fieldLink RX2 14 "LentRights$House" "persons" "LLentRights$Table;", Cond.fieldLink RX2 20 "LentRights$House" "things" "LLentRights$Table;", Cond.fieldLink RX2 23 "LentRights$House" "grants" "LLentRights$Table;", Cond.fieldLink RX2 26 "LentRights$House" "log" "LLentRights$Table;", Cond.fieldLink RX2 29 "LentRights$House" "held" "LLentRights$Table;", Cond.fieldLink RX2 44 "LentRights$House" "given" "I", Cond.fieldLink RX2 48 "LentRights$House" "died" "I", Cond.fieldLink RX2 51 "LentRights$House" "revoked" "I", Cond.fieldLink RX2 54 "LentRights$House" "time" "I", Cond.methodLink RX2 40 yX3_takeOver, Cond.instanceMethod yX3_takeOver, Cond.selects RX3 yX3_takeOver yX3_takeOver]
def wsX1_keep_r2 : List Cond := [Cond.initialized RX3, Cond.code yX3_takeOver cX3_takeOver 4 none, Cond.fieldLink RX3 22 "LentRights$Table" "rows" "I", Cond.fieldLink RX3 9 "LentRights$Table" "limit" "I", Cond.fieldLink RX3 15 "LentRights$Table" "columns" "I", Cond.fieldLink RX3 18 "LentRights$Table" "cells" "[I"]
def wsX1_keep : List Cond := .code yX1_keep cX1_keep 2 none :: ((wsX1_keep_r1 ++ wsX1_keep_r2) ++ wsX10 ++ wsX20 ++ wsX30)
def wsX2_settle : List Cond := .code yX2_settle cX2_settle 8 none :: ([.fieldLink RX2 20 "LentRights$House" "things" "LLentRights$Table;", .fieldLink RX2 29 "LentRights$House" "held" "LLentRights$Table;", .fieldLink RX2 23 "LentRights$House" "grants" "LLentRights$Table;", .methodLink RX2 104 yX3_rows, .instanceMethod yX3_rows, .selects RX3 yX3_rows yX3_rows, .initialized RX3, .code yX3_rows cX3_rows 1 (some .int), .fieldLink RX3 22 "LentRights$Table" "rows" "I", .methodLink RX2 60 yX3_at, .instanceMethod yX3_at, .selects RX3 yX3_at yX3_at, .code yX3_at cX3_at 5 (some .int), .fieldLink RX3 15 "LentRights$Table" "columns" "I", .fieldLink RX3 18 "LentRights$Table" "cells" "[I", .methodLink RX2 36 yX3_put, .instanceMethod yX3_put, .selects RX3 yX3_put yX3_put, .code yX3_put cX3_put 6 none, .methodLink RX2 123 yX2_passedOn, .instanceMethod yX2_passedOn, .selects RX2 yX2_passedOn yX2_passedOn, .initialized RX2, .code yX2_passedOn cX2_passedOn 4 (some .int)] ++ wsX20 ++ wsX30)
def wsX2_takeIn_r1 : List Cond := [Cond.fieldLink RX2 20 "LentRights$House" "things" "LLentRights$Table;", Cond.fieldLink RX2 29 "LentRights$House" "held" "LLentRights$Table;", Cond.methodLink RX2 32 yX3_addRow, Cond.instanceMethod yX3_addRow, Cond.selects RX3 yX3_addRow yX3_addRow, Cond.initialized RX3, Cond.code yX3_addRow cX3_addRow 1 (some .int), Cond.fieldLink RX3 22 "LentRights$Table" "rows" "I", Cond.fieldLink RX3 9 "LentRights$Table" "limit" "I", Cond.methodLink RX2 36 yX3_put, Cond.instanceMethod yX3_put, Cond.selects RX3 yX3_put yX3_put, Cond.code yX3_put cX3_put 6 none, Cond.fieldLink RX3 15 "LentRights$Table" "columns" "I", Cond.fieldLink RX3 18 "LentRights$Table" "cells" "[I", Cond.methodLink RX2 57 yX2_settle, Cond.instanceMethod yX2_settle, Cond.selects RX2 yX2_settle yX2_settle, Cond.initialized RX2, Cond.code yX2_settle cX2_settle 8 none, Cond.fieldLink RX2 23 "LentRights$House" "grants" "LLentRights$Table;", Cond.methodLink RX2 104 yX3_rows, Cond.instanceMethod yX3_rows, Cond.selects RX3 yX3_rows yX3_rows]
def wsX2_takeIn_r2 : List Cond := [Cond.code yX3_rows cX3_rows 1 (some .int), Cond.methodLink RX2 60 yX3_at, Cond.instanceMethod yX3_at, Cond.selects RX3 yX3_at yX3_at, Cond.code yX3_at cX3_at 5 (some .int), Cond.methodLink RX2 123 yX2_passedOn, Cond.instanceMethod yX2_passedOn, Cond.selects RX2 yX2_passedOn yX2_passedOn, Cond.code yX2_passedOn cX2_passedOn 4 (some .int)]
def wsX2_takeIn : List Cond := .code yX2_takeIn cX2_takeIn 4 (some .int) :: ((wsX2_takeIn_r1 ++ wsX2_takeIn_r2) ++ wsX20 ++ wsX30)
def wsX2_changeThing_r1 : List Cond := [Cond.fieldLink RX2 20 "LentRights$House" "things" "LLentRights$Table;", Cond.methodLink RX2 60 yX3_at, Cond.instanceMethod yX3_at, Cond.selects RX3 yX3_at yX3_at, Cond.initialized RX3, Cond.code yX3_at cX3_at 5 (some .int), Cond.fieldLink RX3 22 "LentRights$Table" "rows" "I", Cond.fieldLink RX3 15 "LentRights$Table" "columns" "I", Cond.fieldLink RX3 18 "LentRights$Table" "cells" "[I", Cond.methodLink RX2 36 yX3_put, Cond.instanceMethod yX3_put, Cond.selects RX3 yX3_put yX3_put, Cond.code yX3_put cX3_put 6 none, Cond.methodLink RX2 57 yX2_settle, Cond.instanceMethod yX2_settle, Cond.selects RX2 yX2_settle yX2_settle, Cond.initialized RX2, Cond.code yX2_settle cX2_settle 8 none, Cond.fieldLink RX2 29 "LentRights$House" "held" "LLentRights$Table;", Cond.fieldLink RX2 23 "LentRights$House" "grants" "LLentRights$Table;", Cond.methodLink RX2 104 yX3_rows, Cond.instanceMethod yX3_rows, Cond.selects RX3 yX3_rows yX3_rows, Cond.code yX3_rows cX3_rows 1 (some .int)]
def wsX2_changeThing_r2 : List Cond := [Cond.methodLink RX2 123 yX2_passedOn, Cond.instanceMethod yX2_passedOn, Cond.selects RX2 yX2_passedOn yX2_passedOn, Cond.code yX2_passedOn cX2_passedOn 4 (some .int)]
def wsX2_changeThing : List Cond := .code yX2_changeThing cX2_changeThing 5 (some .int) :: ((wsX2_changeThing_r1 ++ wsX2_changeThing_r2) ++ wsX20 ++ wsX30)
def wsX5_isBetween : List Cond := .code yX5_isBetween cX5_isBetween 3 (some .boolean) :: ([])
def wsX5_isPerson : List Cond := .code yX5_isPerson cX5_isPerson 1 (some .boolean) :: ([.methodLink RX5 267 yX5_isBetween, .static yX5_isBetween, .initialized RX5, .code yX5_isBetween cX5_isBetween 3 (some .boolean)])
def wsX3_has : List Cond := .code yX3_has cX3_has 2 (some .boolean) :: ([.fieldLink RX3 22 "LentRights$Table" "rows" "I"] ++ wsX30)
def wsX2_rightsOf : List Cond := .code yX2_rightsOf cX2_rightsOf 3 (some .int) :: ([.fieldLink RX2 29 "LentRights$House" "held" "LLentRights$Table;", .methodLink RX2 60 yX3_at, .instanceMethod yX3_at, .selects RX3 yX3_at yX3_at, .initialized RX3, .code yX3_at cX3_at 5 (some .int), .fieldLink RX3 22 "LentRights$Table" "rows" "I", .fieldLink RX3 15 "LentRights$Table" "columns" "I", .fieldLink RX3 18 "LentRights$Table" "cells" "[I"] ++ wsX20 ++ wsX30)
def wsX3_isFull : List Cond := .code yX3_isFull cX3_isFull 1 (some .boolean) :: ([.fieldLink RX3 22 "LentRights$Table" "rows" "I", .fieldLink RX3 9 "LentRights$Table" "limit" "I"] ++ wsX30)
def wsX2_faultOfGrant_r1 : List Cond := [Cond.fieldLink RX2 20 "LentRights$House" "things" "LLentRights$Table;", Cond.fieldLink RX2 14 "LentRights$House" "persons" "LLentRights$Table;", Cond.fieldLink RX2 23 "LentRights$House" "grants" "LLentRights$Table;", Cond.static yX5_isPerson, Cond.initialized RX5, Cond.code yX5_isPerson cX5_isPerson 1 (some .boolean), Cond.methodLink RX5 267 yX5_isBetween, Cond.static yX5_isBetween, Cond.code yX5_isBetween cX5_isBetween 3 (some .boolean), Cond.methodLink RX2 68 yX3_has, Cond.instanceMethod yX3_has, Cond.selects RX3 yX3_has yX3_has, Cond.initialized RX3, Cond.code yX3_has cX3_has 2 (some .boolean), Cond.fieldLink RX3 22 "LentRights$Table" "rows" "I", Cond.methodLink RX2 75 yX2_rightsOf, Cond.instanceMethod yX2_rightsOf, Cond.selects RX2 yX2_rightsOf yX2_rightsOf, Cond.initialized RX2, Cond.code yX2_rightsOf cX2_rightsOf 3 (some .int), Cond.fieldLink RX2 29 "LentRights$House" "held" "LLentRights$Table;", Cond.methodLink RX2 60 yX3_at, Cond.instanceMethod yX3_at, Cond.selects RX3 yX3_at yX3_at]
def wsX2_faultOfGrant_r2 : List Cond := [Cond.code yX3_at cX3_at 5 (some .int), Cond.fieldLink RX3 15 "LentRights$Table" "columns" "I", Cond.fieldLink RX3 18 "LentRights$Table" "cells" "[I", Cond.methodLink RX2 78 yX3_isFull, Cond.instanceMethod yX3_isFull, Cond.selects RX3 yX3_isFull yX3_isFull, Cond.code yX3_isFull cX3_isFull 1 (some .boolean), Cond.fieldLink RX3 9 "LentRights$Table" "limit" "I"]
def wsX2_faultOfGrant : List Cond := .code yX2_faultOfGrant cX2_faultOfGrant 10 (some .int) :: ((wsX2_faultOfGrant_r1 ++ wsX2_faultOfGrant_r2) ++ wsX20 ++ wsX30)
def wsX2_lend_r1 : List Cond := [Cond.fieldLink RX2 44 "LentRights$House" "given" "I", Cond.fieldLink RX2 23 "LentRights$House" "grants" "LLentRights$Table;", Cond.methodLink RX2 32 yX3_addRow, Cond.instanceMethod yX3_addRow, Cond.selects RX3 yX3_addRow yX3_addRow, Cond.initialized RX3, Cond.code yX3_addRow cX3_addRow 1 (some .int), Cond.fieldLink RX3 22 "LentRights$Table" "rows" "I", Cond.fieldLink RX3 9 "LentRights$Table" "limit" "I", Cond.methodLink RX2 36 yX3_put, Cond.instanceMethod yX3_put, Cond.selects RX3 yX3_put yX3_put, Cond.code yX3_put cX3_put 6 none, Cond.fieldLink RX3 15 "LentRights$Table" "columns" "I", Cond.fieldLink RX3 18 "LentRights$Table" "cells" "[I", Cond.methodLink RX2 57 yX2_settle, Cond.instanceMethod yX2_settle, Cond.selects RX2 yX2_settle yX2_settle, Cond.initialized RX2, Cond.code yX2_settle cX2_settle 8 none, Cond.fieldLink RX2 20 "LentRights$House" "things" "LLentRights$Table;", Cond.fieldLink RX2 29 "LentRights$House" "held" "LLentRights$Table;", Cond.methodLink RX2 104 yX3_rows, Cond.instanceMethod yX3_rows]
def wsX2_lend_r2 : List Cond := [Cond.selects RX3 yX3_rows yX3_rows, Cond.code yX3_rows cX3_rows 1 (some .int), Cond.methodLink RX2 60 yX3_at, Cond.instanceMethod yX3_at, Cond.selects RX3 yX3_at yX3_at, Cond.code yX3_at cX3_at 5 (some .int), Cond.methodLink RX2 123 yX2_passedOn, Cond.instanceMethod yX2_passedOn, Cond.selects RX2 yX2_passedOn yX2_passedOn, Cond.code yX2_passedOn cX2_passedOn 4 (some .int)]
def wsX2_lend : List Cond := .code yX2_lend cX2_lend 8 (some .int) :: ((wsX2_lend_r1 ++ wsX2_lend_r2) ++ wsX20 ++ wsX30)
def wsX2_isDying : List Cond := .code yX2_isDying cX2_isDying 2 (some .boolean) :: ([.fieldLink RX2 14 "LentRights$House" "persons" "LLentRights$Table;", .fieldLink RX2 23 "LentRights$House" "grants" "LLentRights$Table;", .methodLink RX2 60 yX3_at, .instanceMethod yX3_at, .selects RX3 yX3_at yX3_at, .initialized RX3, .code yX3_at cX3_at 5 (some .int), .fieldLink RX3 22 "LentRights$Table" "rows" "I", .fieldLink RX3 15 "LentRights$Table" "columns" "I", .fieldLink RX3 18 "LentRights$Table" "cells" "[I"] ++ wsX20 ++ wsX30)
def wsX3_drop : List Cond := .code yX3_drop cX3_drop 5 none :: ([.fieldLink RX3 22 "LentRights$Table" "rows" "I", .fieldLink RX3 15 "LentRights$Table" "columns" "I", .fieldLink RX3 18 "LentRights$Table" "cells" "[I"] ++ wsX30)
def wsX2_enter_r1 : List Cond := [Cond.fieldLink RX2 26 "LentRights$House" "log" "LLentRights$Table;", Cond.fieldLink RX2 23 "LentRights$House" "grants" "LLentRights$Table;", Cond.fieldLink RX2 54 "LentRights$House" "time" "I", Cond.methodLink RX2 78 yX3_isFull, Cond.instanceMethod yX3_isFull, Cond.selects RX3 yX3_isFull yX3_isFull, Cond.initialized RX3, Cond.code yX3_isFull cX3_isFull 1 (some .boolean), Cond.fieldLink RX3 22 "LentRights$Table" "rows" "I", Cond.fieldLink RX3 9 "LentRights$Table" "limit" "I", Cond.methodLink RX2 85 yX3_drop, Cond.instanceMethod yX3_drop, Cond.selects RX3 yX3_drop yX3_drop, Cond.code yX3_drop cX3_drop 5 none, Cond.fieldLink RX3 15 "LentRights$Table" "columns" "I", Cond.fieldLink RX3 18 "LentRights$Table" "cells" "[I", Cond.methodLink RX2 32 yX3_addRow, Cond.instanceMethod yX3_addRow, Cond.selects RX3 yX3_addRow yX3_addRow, Cond.code yX3_addRow cX3_addRow 1 (some .int), Cond.methodLink RX2 60 yX3_at, Cond.instanceMethod yX3_at, Cond.selects RX3 yX3_at yX3_at, Cond.code yX3_at cX3_at 5 (some .int)]
def wsX2_enter_r2 : List Cond := [Cond.methodLink RX2 36 yX3_put, Cond.instanceMethod yX3_put, Cond.selects RX3 yX3_put yX3_put, Cond.code yX3_put cX3_put 6 none]
def wsX2_enter : List Cond := .code yX2_enter cX2_enter 3 none :: ((wsX2_enter_r1 ++ wsX2_enter_r2) ++ wsX20 ++ wsX30)
def wsX2_buryDying_r1 : List Cond := [Cond.fieldLink RX2 23 "LentRights$House" "grants" "LLentRights$Table;", Cond.fieldLink RX2 48 "LentRights$House" "died" "I", Cond.methodLink RX2 104 yX3_rows, Cond.instanceMethod yX3_rows, Cond.selects RX3 yX3_rows yX3_rows, Cond.initialized RX3, Cond.code yX3_rows cX3_rows 1 (some .int), Cond.fieldLink RX3 22 "LentRights$Table" "rows" "I", Cond.methodLink RX2 133 yX2_isDying, Cond.instanceMethod yX2_isDying, Cond.selects RX2 yX2_isDying yX2_isDying, Cond.initialized RX2, Cond.code yX2_isDying cX2_isDying 2 (some .boolean), Cond.fieldLink RX2 14 "LentRights$House" "persons" "LLentRights$Table;", Cond.methodLink RX2 60 yX3_at, Cond.instanceMethod yX3_at, Cond.selects RX3 yX3_at yX3_at, Cond.code yX3_at cX3_at 5 (some .int), Cond.fieldLink RX3 15 "LentRights$Table" "columns" "I", Cond.fieldLink RX3 18 "LentRights$Table" "cells" "[I", Cond.methodLink RX2 136 yX2_enter, Cond.instanceMethod yX2_enter, Cond.selects RX2 yX2_enter yX2_enter, Cond.code yX2_enter cX2_enter 3 none]
def wsX2_buryDying_r2 : List Cond := [Cond.fieldLink RX2 26 "LentRights$House" "log" "LLentRights$Table;", Cond.fieldLink RX2 54 "LentRights$House" "time" "I", Cond.methodLink RX2 78 yX3_isFull, Cond.instanceMethod yX3_isFull, Cond.selects RX3 yX3_isFull yX3_isFull, Cond.code yX3_isFull cX3_isFull 1 (some .boolean), Cond.fieldLink RX3 9 "LentRights$Table" "limit" "I", Cond.methodLink RX2 85 yX3_drop, Cond.instanceMethod yX3_drop, Cond.selects RX3 yX3_drop yX3_drop, Cond.code yX3_drop cX3_drop 5 none, Cond.methodLink RX2 32 yX3_addRow, Cond.instanceMethod yX3_addRow, Cond.selects RX3 yX3_addRow yX3_addRow, Cond.code yX3_addRow cX3_addRow 1 (some .int), Cond.methodLink RX2 36 yX3_put, Cond.instanceMethod yX3_put, Cond.selects RX3 yX3_put yX3_put, Cond.code yX3_put cX3_put 6 none]
def wsX2_buryDying : List Cond := .code yX2_buryDying cX2_buryDying 3 (some .int) :: ((wsX2_buryDying_r1 ++ wsX2_buryDying_r2) ++ wsX20 ++ wsX30)
def wsX2_changeMood_r1 : List Cond := [Cond.fieldLink RX2 14 "LentRights$House" "persons" "LLentRights$Table;", Cond.methodLink RX2 89 Lib.Math.min.name, Cond.static Lib.Math.min.name, Cond.initialized "java/lang/Math", Cond.code Lib.Math.min.name Lib.Math.min.code 2 (some .int), Cond.methodLink RX2 94 Lib.Math.max.name, Cond.static Lib.Math.max.name, Cond.code Lib.Math.max.name Lib.Math.max.code 2 (some .int), Cond.methodLink RX2 60 yX3_at, Cond.instanceMethod yX3_at, Cond.selects RX3 yX3_at yX3_at, Cond.initialized RX3, Cond.code yX3_at cX3_at 5 (some .int), Cond.fieldLink RX3 22 "LentRights$Table" "rows" "I", Cond.fieldLink RX3 15 "LentRights$Table" "columns" "I", Cond.fieldLink RX3 18 "LentRights$Table" "cells" "[I", Cond.methodLink RX2 36 yX3_put, Cond.instanceMethod yX3_put, Cond.selects RX3 yX3_put yX3_put, Cond.code yX3_put cX3_put 6 none, Cond.methodLink RX2 97 yX2_buryDying, Cond.instanceMethod yX2_buryDying, Cond.selects RX2 yX2_buryDying yX2_buryDying, Cond.initialized RX2]
def wsX2_changeMood_r2 : List Cond := [Cond.code yX2_buryDying cX2_buryDying 3 (some .int), Cond.fieldLink RX2 23 "LentRights$House" "grants" "LLentRights$Table;", Cond.fieldLink RX2 48 "LentRights$House" "died" "I", Cond.methodLink RX2 104 yX3_rows, Cond.instanceMethod yX3_rows, Cond.selects RX3 yX3_rows yX3_rows, Cond.code yX3_rows cX3_rows 1 (some .int), Cond.methodLink RX2 133 yX2_isDying, Cond.instanceMethod yX2_isDying, Cond.selects RX2 yX2_isDying yX2_isDying, Cond.code yX2_isDying cX2_isDying 2 (some .boolean), Cond.methodLink RX2 136 yX2_enter, Cond.instanceMethod yX2_enter, Cond.selects RX2 yX2_enter yX2_enter, Cond.code yX2_enter cX2_enter 3 none, Cond.fieldLink RX2 26 "LentRights$House" "log" "LLentRights$Table;", Cond.fieldLink RX2 54 "LentRights$House" "time" "I", Cond.methodLink RX2 78 yX3_isFull, Cond.instanceMethod yX3_isFull, Cond.selects RX3 yX3_isFull yX3_isFull, Cond.code yX3_isFull cX3_isFull 1 (some .boolean), Cond.fieldLink RX3 9 "LentRights$Table" "limit" "I", Cond.methodLink RX2 85 yX3_drop, Cond.instanceMethod yX3_drop]
def wsX2_changeMood_r3 : List Cond := [Cond.selects RX3 yX3_drop yX3_drop, Cond.code yX3_drop cX3_drop 5 none, Cond.methodLink RX2 32 yX3_addRow, Cond.instanceMethod yX3_addRow, Cond.selects RX3 yX3_addRow yX3_addRow, Cond.code yX3_addRow cX3_addRow 1 (some .int), Cond.methodLink RX2 57 yX2_settle, Cond.instanceMethod yX2_settle, Cond.selects RX2 yX2_settle yX2_settle, Cond.code yX2_settle cX2_settle 8 none, Cond.fieldLink RX2 20 "LentRights$House" "things" "LLentRights$Table;", Cond.fieldLink RX2 29 "LentRights$House" "held" "LLentRights$Table;", Cond.methodLink RX2 123 yX2_passedOn, Cond.instanceMethod yX2_passedOn, Cond.selects RX2 yX2_passedOn yX2_passedOn, Cond.code yX2_passedOn cX2_passedOn 4 (some .int)]
def wsX2_changeMood : List Cond := .code yX2_changeMood cX2_changeMood 5 (some .int) :: ((wsX2_changeMood_r1 ++ (wsX2_changeMood_r2 ++ wsX2_changeMood_r3)) ++ wsX20 ++ wsX30)
def wsX2_hasTimeFor : List Cond := .code yX2_hasTimeFor cX2_hasTimeFor 2 (some .boolean) :: ([.fieldLink RX2 54 "LentRights$House" "time" "I", .constant RX2 100 (100000)] ++ wsX20)
def wsX2_calm : List Cond := .code yX2_calm cX2_calm 4 none :: ([.fieldLink RX2 14 "LentRights$House" "persons" "LLentRights$Table;", .methodLink RX2 60 yX3_at, .instanceMethod yX3_at, .selects RX3 yX3_at yX3_at, .initialized RX3, .code yX3_at cX3_at 5 (some .int), .fieldLink RX3 22 "LentRights$Table" "rows" "I", .fieldLink RX3 15 "LentRights$Table" "columns" "I", .fieldLink RX3 18 "LentRights$Table" "cells" "[I", .methodLink RX2 36 yX3_put, .instanceMethod yX3_put, .selects RX3 yX3_put yX3_put, .code yX3_put cX3_put 6 none] ++ wsX20 ++ wsX30)
def wsX2_letPass_r1 : List Cond := [Cond.fieldLink RX2 54 "LentRights$House" "time" "I", Cond.methodLink RX2 101 yX2_calm, Cond.instanceMethod yX2_calm, Cond.selects RX2 yX2_calm yX2_calm, Cond.initialized RX2, Cond.code yX2_calm cX2_calm 4 none, Cond.fieldLink RX2 14 "LentRights$House" "persons" "LLentRights$Table;", Cond.methodLink RX2 60 yX3_at, Cond.instanceMethod yX3_at, Cond.selects RX3 yX3_at yX3_at, Cond.initialized RX3, Cond.code yX3_at cX3_at 5 (some .int), Cond.fieldLink RX3 22 "LentRights$Table" "rows" "I", Cond.fieldLink RX3 15 "LentRights$Table" "columns" "I", Cond.fieldLink RX3 18 "LentRights$Table" "cells" "[I", Cond.methodLink RX2 36 yX3_put, Cond.instanceMethod yX3_put, Cond.selects RX3 yX3_put yX3_put, Cond.code yX3_put cX3_put 6 none, Cond.methodLink RX2 97 yX2_buryDying, Cond.instanceMethod yX2_buryDying, Cond.selects RX2 yX2_buryDying yX2_buryDying, Cond.code yX2_buryDying cX2_buryDying 3 (some .int), Cond.fieldLink RX2 23 "LentRights$House" "grants" "LLentRights$Table;"]
def wsX2_letPass_r2 : List Cond := [Cond.fieldLink RX2 48 "LentRights$House" "died" "I", Cond.methodLink RX2 104 yX3_rows, Cond.instanceMethod yX3_rows, Cond.selects RX3 yX3_rows yX3_rows, Cond.code yX3_rows cX3_rows 1 (some .int), Cond.methodLink RX2 133 yX2_isDying, Cond.instanceMethod yX2_isDying, Cond.selects RX2 yX2_isDying yX2_isDying, Cond.code yX2_isDying cX2_isDying 2 (some .boolean), Cond.methodLink RX2 136 yX2_enter, Cond.instanceMethod yX2_enter, Cond.selects RX2 yX2_enter yX2_enter, Cond.code yX2_enter cX2_enter 3 none, Cond.fieldLink RX2 26 "LentRights$House" "log" "LLentRights$Table;", Cond.methodLink RX2 78 yX3_isFull, Cond.instanceMethod yX3_isFull, Cond.selects RX3 yX3_isFull yX3_isFull, Cond.code yX3_isFull cX3_isFull 1 (some .boolean), Cond.fieldLink RX3 9 "LentRights$Table" "limit" "I", Cond.methodLink RX2 85 yX3_drop, Cond.instanceMethod yX3_drop, Cond.selects RX3 yX3_drop yX3_drop, Cond.code yX3_drop cX3_drop 5 none, Cond.methodLink RX2 32 yX3_addRow]
def wsX2_letPass_r3 : List Cond := [Cond.instanceMethod yX3_addRow, Cond.selects RX3 yX3_addRow yX3_addRow, Cond.code yX3_addRow cX3_addRow 1 (some .int), Cond.methodLink RX2 57 yX2_settle, Cond.instanceMethod yX2_settle, Cond.selects RX2 yX2_settle yX2_settle, Cond.code yX2_settle cX2_settle 8 none, Cond.fieldLink RX2 20 "LentRights$House" "things" "LLentRights$Table;", Cond.fieldLink RX2 29 "LentRights$House" "held" "LLentRights$Table;", Cond.methodLink RX2 123 yX2_passedOn, Cond.instanceMethod yX2_passedOn, Cond.selects RX2 yX2_passedOn yX2_passedOn, Cond.code yX2_passedOn cX2_passedOn 4 (some .int)]
def wsX2_letPass : List Cond := .code yX2_letPass cX2_letPass 5 (some .int) :: ((wsX2_letPass_r1 ++ (wsX2_letPass_r2 ++ wsX2_letPass_r3)) ++ wsX20 ++ wsX30)
def wsX2_placeOf : List Cond := .code yX2_placeOf cX2_placeOf 3 (some .int) :: ([.fieldLink RX2 23 "LentRights$House" "grants" "LLentRights$Table;", .methodLink RX2 104 yX3_rows, .instanceMethod yX3_rows, .selects RX3 yX3_rows yX3_rows, .initialized RX3, .code yX3_rows cX3_rows 1 (some .int), .fieldLink RX3 22 "LentRights$Table" "rows" "I", .methodLink RX2 60 yX3_at, .instanceMethod yX3_at, .selects RX3 yX3_at yX3_at, .code yX3_at cX3_at 5 (some .int), .fieldLink RX3 15 "LentRights$Table" "columns" "I", .fieldLink RX3 18 "LentRights$Table" "cells" "[I"] ++ wsX20 ++ wsX30)
def wsX2_holdersOf : List Cond := .code yX2_holdersOf cX2_holdersOf 5 (some .int) :: ([.fieldLink RX2 29 "LentRights$House" "held" "LLentRights$Table;", .methodLink RX2 60 yX3_at, .instanceMethod yX3_at, .selects RX3 yX3_at yX3_at, .initialized RX3, .code yX3_at cX3_at 5 (some .int), .fieldLink RX3 22 "LentRights$Table" "rows" "I", .fieldLink RX3 15 "LentRights$Table" "columns" "I", .fieldLink RX3 18 "LentRights$Table" "cells" "[I"] ++ wsX20 ++ wsX30)
def wsJ6_bitCount_0f7a4 : List Cond := .code yJ6_bitCount_0f7a4 cJ6_bitCount_0f7a4 1 (some .int) :: ([.constant RJ6 265 (1431655765), .constant RJ6 266 (858993459), .constant RJ6 267 (252645135)])
def wsX2_countPairs_r1 : List Cond := [Cond.fieldLink RX2 20 "LentRights$House" "things" "LLentRights$Table;", Cond.methodLink RX2 104 yX3_rows, Cond.instanceMethod yX3_rows, Cond.selects RX3 yX3_rows yX3_rows, Cond.initialized RX3, Cond.code yX3_rows cX3_rows 1 (some .int), Cond.fieldLink RX3 22 "LentRights$Table" "rows" "I", Cond.methodLink RX2 107 yX2_holdersOf, Cond.instanceMethod yX2_holdersOf, Cond.selects RX2 yX2_holdersOf yX2_holdersOf, Cond.initialized RX2, Cond.code yX2_holdersOf cX2_holdersOf 5 (some .int), Cond.fieldLink RX2 29 "LentRights$House" "held" "LLentRights$Table;", Cond.methodLink RX2 60 yX3_at, Cond.instanceMethod yX3_at, Cond.selects RX3 yX3_at yX3_at, Cond.code yX3_at cX3_at 5 (some .int), Cond.fieldLink RX3 15 "LentRights$Table" "columns" "I", Cond.fieldLink RX3 18 "LentRights$Table" "cells" "[I", Cond.methodLink RX2 110 yJ6_bitCount_0f7a4, Cond.static yJ6_bitCount_0f7a4, Cond.initialized RJ6, Cond.code yJ6_bitCount_0f7a4 cJ6_bitCount_0f7a4 1 (some .int), Cond.constant RJ6 265 (1431655765)]
def wsX2_countPairs_r2 : List Cond := [Cond.constant RJ6 266 (858993459), Cond.constant RJ6 267 (252645135)]
def wsX2_countPairs : List Cond := .code yX2_countPairs cX2_countPairs 3 (some .int) :: ((wsX2_countPairs_r1 ++ wsX2_countPairs_r2) ++ wsX20 ++ wsX30)
def wsX2_greatestThreshold : List Cond := .code yX2_greatestThreshold cX2_greatestThreshold 4 (some .int) :: ([.fieldLink RX2 23 "LentRights$House" "grants" "LLentRights$Table;", .methodLink RX2 94 Lib.Math.max.name, .static Lib.Math.max.name, .initialized "java/lang/Math", .code Lib.Math.max.name Lib.Math.max.code 2 (some .int), .methodLink RX2 104 yX3_rows, .instanceMethod yX3_rows, .selects RX3 yX3_rows yX3_rows, .initialized RX3, .code yX3_rows cX3_rows 1 (some .int), .fieldLink RX3 22 "LentRights$Table" "rows" "I", .methodLink RX2 60 yX3_at, .instanceMethod yX3_at, .selects RX3 yX3_at yX3_at, .code yX3_at cX3_at 5 (some .int), .fieldLink RX3 15 "LentRights$Table" "columns" "I", .fieldLink RX3 18 "LentRights$Table" "cells" "[I"] ++ wsX20 ++ wsX30)
def wsX2_countEqual : List Cond := .code yX2_countEqual cX2_countEqual 5 (some .int) :: ([.methodLink RX2 104 yX3_rows, .instanceMethod yX3_rows, .selects RX3 yX3_rows yX3_rows, .initialized RX3, .code yX3_rows cX3_rows 1 (some .int), .fieldLink RX3 22 "LentRights$Table" "rows" "I", .methodLink RX2 60 yX3_at, .instanceMethod yX3_at, .selects RX3 yX3_at yX3_at, .code yX3_at cX3_at 5 (some .int), .fieldLink RX3 15 "LentRights$Table" "columns" "I", .fieldLink RX3 18 "LentRights$Table" "cells" "[I"] ++ wsX30)
def wsX2_thingsSeenBy : List Cond := .code yX2_thingsSeenBy cX2_thingsSeenBy 4 (some .int) :: ([.fieldLink RX2 20 "LentRights$House" "things" "LLentRights$Table;", .fieldLink RX2 29 "LentRights$House" "held" "LLentRights$Table;", .methodLink RX2 104 yX3_rows, .instanceMethod yX3_rows, .selects RX3 yX3_rows yX3_rows, .initialized RX3, .code yX3_rows cX3_rows 1 (some .int), .fieldLink RX3 22 "LentRights$Table" "rows" "I", .methodLink RX2 60 yX3_at, .instanceMethod yX3_at, .selects RX3 yX3_at yX3_at, .code yX3_at cX3_at 5 (some .int), .fieldLink RX3 15 "LentRights$Table" "columns" "I", .fieldLink RX3 18 "LentRights$Table" "cells" "[I"] ++ wsX20 ++ wsX30)
def wsX2_aboutPerson_r1 : List Cond := [Cond.fieldLink RX2 14 "LentRights$House" "persons" "LLentRights$Table;", Cond.fieldLink RX2 20 "LentRights$House" "things" "LLentRights$Table;", Cond.fieldLink RX2 23 "LentRights$House" "grants" "LLentRights$Table;", Cond.methodLink RX2 60 yX3_at, Cond.instanceMethod yX3_at, Cond.selects RX3 yX3_at yX3_at, Cond.initialized RX3, Cond.code yX3_at cX3_at 5 (some .int), Cond.fieldLink RX3 22 "LentRights$Table" "rows" "I", Cond.fieldLink RX3 15 "LentRights$Table" "columns" "I", Cond.fieldLink RX3 18 "LentRights$Table" "cells" "[I", Cond.methodLink RX2 116 yX2_countEqual, Cond.static yX2_countEqual, Cond.initialized RX2, Cond.code yX2_countEqual cX2_countEqual 5 (some .int), Cond.methodLink RX2 104 yX3_rows, Cond.instanceMethod yX3_rows, Cond.selects RX3 yX3_rows yX3_rows, Cond.code yX3_rows cX3_rows 1 (some .int), Cond.methodLink RX2 120 yX2_thingsSeenBy, Cond.instanceMethod yX2_thingsSeenBy, Cond.selects RX2 yX2_thingsSeenBy yX2_thingsSeenBy, Cond.code yX2_thingsSeenBy cX2_thingsSeenBy 4 (some .int), Cond.fieldLink RX2 29 "LentRights$House" "held" "LLentRights$Table;"]
def wsX2_aboutPerson_r2 : List Cond := [Cond.methodLink RX2 110 yJ6_bitCount_0f7a4, Cond.static yJ6_bitCount_0f7a4, Cond.initialized RJ6, Cond.code yJ6_bitCount_0f7a4 cJ6_bitCount_0f7a4 1 (some .int), Cond.constant RJ6 265 (1431655765), Cond.constant RJ6 266 (858993459), Cond.constant RJ6 267 (252645135)]
def wsX2_aboutPerson : List Cond := .code yX2_aboutPerson cX2_aboutPerson 3 (some .int) :: ((wsX2_aboutPerson_r1 ++ wsX2_aboutPerson_r2) ++ wsX20 ++ wsX30)
def wsX2_aboutThing : List Cond := .code yX2_aboutThing cX2_aboutThing 3 (some .int) :: ([.fieldLink RX2 20 "LentRights$House" "things" "LLentRights$Table;", .fieldLink RX2 23 "LentRights$House" "grants" "LLentRights$Table;", .methodLink RX2 60 yX3_at, .instanceMethod yX3_at, .selects RX3 yX3_at yX3_at, .initialized RX3, .code yX3_at cX3_at 5 (some .int), .fieldLink RX3 22 "LentRights$Table" "rows" "I", .fieldLink RX3 15 "LentRights$Table" "columns" "I", .fieldLink RX3 18 "LentRights$Table" "cells" "[I", .methodLink RX2 116 yX2_countEqual, .static yX2_countEqual, .initialized RX2, .code yX2_countEqual cX2_countEqual 5 (some .int), .methodLink RX2 104 yX3_rows, .instanceMethod yX3_rows, .selects RX3 yX3_rows yX3_rows, .code yX3_rows cX3_rows 1 (some .int), .methodLink RX2 107 yX2_holdersOf, .instanceMethod yX2_holdersOf, .selects RX2 yX2_holdersOf yX2_holdersOf, .code yX2_holdersOf cX2_holdersOf 5 (some .int), .fieldLink RX2 29 "LentRights$House" "held" "LLentRights$Table;"] ++ wsX20 ++ wsX30)
def wsX2_aboutGrant : List Cond := .code yX2_aboutGrant cX2_aboutGrant 3 (some .int) :: ([.fieldLink RX2 23 "LentRights$House" "grants" "LLentRights$Table;", .methodLink RX2 60 yX3_at, .instanceMethod yX3_at, .selects RX3 yX3_at yX3_at, .initialized RX3, .code yX3_at cX3_at 5 (some .int), .fieldLink RX3 22 "LentRights$Table" "rows" "I", .fieldLink RX3 15 "LentRights$Table" "columns" "I", .fieldLink RX3 18 "LentRights$Table" "cells" "[I", .methodLink RX2 123 yX2_passedOn, .instanceMethod yX2_passedOn, .selects RX2 yX2_passedOn yX2_passedOn, .initialized RX2, .code yX2_passedOn cX2_passedOn 4 (some .int), .fieldLink RX2 29 "LentRights$House" "held" "LLentRights$Table;", .fieldLink RX2 20 "LentRights$House" "things" "LLentRights$Table;"] ++ wsX20 ++ wsX30)
def wsX2_countIdleGrants : List Cond := .code yX2_countIdleGrants cX2_countIdleGrants 3 (some .int) :: ([.fieldLink RX2 23 "LentRights$House" "grants" "LLentRights$Table;", .methodLink RX2 104 yX3_rows, .instanceMethod yX3_rows, .selects RX3 yX3_rows yX3_rows, .initialized RX3, .code yX3_rows cX3_rows 1 (some .int), .fieldLink RX3 22 "LentRights$Table" "rows" "I", .methodLink RX2 123 yX2_passedOn, .instanceMethod yX2_passedOn, .selects RX2 yX2_passedOn yX2_passedOn, .initialized RX2, .code yX2_passedOn cX2_passedOn 4 (some .int), .fieldLink RX2 29 "LentRights$House" "held" "LLentRights$Table;", .fieldLink RX2 20 "LentRights$House" "things" "LLentRights$Table;", .methodLink RX2 60 yX3_at, .instanceMethod yX3_at, .selects RX3 yX3_at yX3_at, .code yX3_at cX3_at 5 (some .int), .fieldLink RX3 15 "LentRights$Table" "columns" "I", .fieldLink RX3 18 "LentRights$Table" "cells" "[I"] ++ wsX20 ++ wsX30)
def wsX2_aboutHouse_r1 : List Cond := [Cond.fieldLink RX2 20 "LentRights$House" "things" "LLentRights$Table;", Cond.fieldLink RX2 23 "LentRights$House" "grants" "LLentRights$Table;", Cond.fieldLink RX2 44 "LentRights$House" "given" "I", Cond.fieldLink RX2 48 "LentRights$House" "died" "I", Cond.fieldLink RX2 51 "LentRights$House" "revoked" "I", Cond.fieldLink RX2 54 "LentRights$House" "time" "I", Cond.fieldLink RX2 26 "LentRights$House" "log" "LLentRights$Table;", Cond.methodLink RX2 104 yX3_rows, Cond.instanceMethod yX3_rows, Cond.selects RX3 yX3_rows yX3_rows, Cond.initialized RX3, Cond.code yX3_rows cX3_rows 1 (some .int), Cond.fieldLink RX3 22 "LentRights$Table" "rows" "I", Cond.methodLink RX2 82 yX2_countPairs, Cond.instanceMethod yX2_countPairs, Cond.selects RX2 yX2_countPairs yX2_countPairs, Cond.initialized RX2, Cond.code yX2_countPairs cX2_countPairs 3 (some .int), Cond.methodLink RX2 107 yX2_holdersOf, Cond.instanceMethod yX2_holdersOf, Cond.selects RX2 yX2_holdersOf yX2_holdersOf, Cond.code yX2_holdersOf cX2_holdersOf 5 (some .int), Cond.fieldLink RX2 29 "LentRights$House" "held" "LLentRights$Table;", Cond.methodLink RX2 60 yX3_at]
def wsX2_aboutHouse_r2 : List Cond := [Cond.instanceMethod yX3_at, Cond.selects RX3 yX3_at yX3_at, Cond.code yX3_at cX3_at 5 (some .int), Cond.fieldLink RX3 15 "LentRights$Table" "columns" "I", Cond.fieldLink RX3 18 "LentRights$Table" "cells" "[I", Cond.methodLink RX2 110 yJ6_bitCount_0f7a4, Cond.static yJ6_bitCount_0f7a4, Cond.initialized RJ6, Cond.code yJ6_bitCount_0f7a4 cJ6_bitCount_0f7a4 1 (some .int), Cond.constant RJ6 265 (1431655765), Cond.constant RJ6 266 (858993459), Cond.constant RJ6 267 (252645135), Cond.methodLink RX2 126 yX2_countIdleGrants, Cond.instanceMethod yX2_countIdleGrants, Cond.selects RX2 yX2_countIdleGrants yX2_countIdleGrants, Cond.code yX2_countIdleGrants cX2_countIdleGrants 3 (some .int), Cond.methodLink RX2 123 yX2_passedOn, Cond.instanceMethod yX2_passedOn, Cond.selects RX2 yX2_passedOn yX2_passedOn, Cond.code yX2_passedOn cX2_passedOn 4 (some .int)]
def wsX2_aboutHouse : List Cond := .code yX2_aboutHouse cX2_aboutHouse 2 (some .int) :: ((wsX2_aboutHouse_r1 ++ wsX2_aboutHouse_r2) ++ wsX20 ++ wsX30)
def wsX2_isGrantOf : List Cond := .code yX2_isGrantOf cX2_isGrantOf 5 (some .boolean) :: ([.fieldLink RX2 23 "LentRights$House" "grants" "LLentRights$Table;", .methodLink RX2 60 yX3_at, .instanceMethod yX3_at, .selects RX3 yX3_at yX3_at, .initialized RX3, .code yX3_at cX3_at 5 (some .int), .fieldLink RX3 22 "LentRights$Table" "rows" "I", .fieldLink RX3 15 "LentRights$Table" "columns" "I", .fieldLink RX3 18 "LentRights$Table" "cells" "[I"] ++ wsX20 ++ wsX30)
def wsX2_reasonAgainst_r1 : List Cond := [Cond.fieldLink RX2 20 "LentRights$House" "things" "LLentRights$Table;", Cond.fieldLink RX2 23 "LentRights$House" "grants" "LLentRights$Table;", Cond.methodLink RX2 94 Lib.Math.max.name, Cond.static Lib.Math.max.name, Cond.initialized "java/lang/Math", Cond.code Lib.Math.max.name Lib.Math.max.code 2 (some .int), Cond.methodLink RX2 75 yX2_rightsOf, Cond.instanceMethod yX2_rightsOf, Cond.selects RX2 yX2_rightsOf yX2_rightsOf, Cond.initialized RX2, Cond.code yX2_rightsOf cX2_rightsOf 3 (some .int), Cond.fieldLink RX2 29 "LentRights$House" "held" "LLentRights$Table;", Cond.methodLink RX2 60 yX3_at, Cond.instanceMethod yX3_at, Cond.selects RX3 yX3_at yX3_at, Cond.initialized RX3, Cond.code yX3_at cX3_at 5 (some .int), Cond.fieldLink RX3 22 "LentRights$Table" "rows" "I", Cond.fieldLink RX3 15 "LentRights$Table" "columns" "I", Cond.fieldLink RX3 18 "LentRights$Table" "cells" "[I", Cond.methodLink RX2 104 yX3_rows, Cond.instanceMethod yX3_rows, Cond.selects RX3 yX3_rows yX3_rows, Cond.code yX3_rows cX3_rows 1 (some .int)]
def wsX2_reasonAgainst_r2 : List Cond := [Cond.methodLink RX2 129 yX2_isGrantOf, Cond.instanceMethod yX2_isGrantOf, Cond.selects RX2 yX2_isGrantOf yX2_isGrantOf, Cond.code yX2_isGrantOf cX2_isGrantOf 5 (some .boolean)]
def wsX2_reasonAgainst : List Cond := .code yX2_reasonAgainst cX2_reasonAgainst 7 (some .int) :: ((wsX2_reasonAgainst_r1 ++ wsX2_reasonAgainst_r2) ++ wsX20 ++ wsX30)
def wsX4_init : List Cond := .code yX4_init cX4_init 1 none :: ([.methodLink RX4 3 objectInit, .instanceMethod objectInit, .code objectInit ⟨#[0xb1]⟩ 1 none, .classLink RX4 9 RX3, .instantiable RX3 4, .initialized RX3, .fieldLink RX4 14 "LentRights$Text" "bytes" "LLentRights$Table;", .fieldLink RX4 20 "LentRights$Text" "orders" "LLentRights$Table;", .fieldLink RX4 23 "LentRights$Text" "fault" "I", .methodLink RX4 11 yX3_init, .instanceMethod yX3_init, .code yX3_init cX3_init 3 none, .methodLink RX3 3 objectInit, .fieldLink RX3 9 "LentRights$Table" "limit" "I", .fieldLink RX3 15 "LentRights$Table" "columns" "I", .arrayClass .int, .fieldLink RX3 18 "LentRights$Table" "cells" "[I"] ++ wsX30 ++ wsX40)
def wsX5_init_r1 : List Cond := [Cond.methodLink RX5 1 objectInit, Cond.instanceMethod objectInit, Cond.code objectInit ⟨#[0xb1]⟩ 1 none, Cond.classLink RX5 7 RX2, Cond.instantiable RX2 9, Cond.initialized RX2, Cond.fieldLink RX5 10 "LentRights" "house" "LLentRights$House;", Cond.fieldLink RX5 16 "LentRights" "trial" "LLentRights$House;", Cond.classLink RX5 19 RX1, Cond.instantiable RX1 2, Cond.initialized RX1, Cond.fieldLink RX5 22 "LentRights" "history" "LLentRights$History;", Cond.classLink RX5 26 RX0, Cond.instantiable RX0 1, Cond.initialized RX0, Cond.fieldLink RX5 29 "LentRights" "chains" "LLentRights$Chains;", Cond.classLink RX5 33 RX4, Cond.instantiable RX4 4, Cond.initialized RX4, Cond.fieldLink RX5 36 "LentRights" "text" "LLentRights$Text;", Cond.methodLink RX5 9 yX2_init, Cond.instanceMethod yX2_init, Cond.code yX2_init cX2_init 2 none, Cond.methodLink RX2 3 objectInit]
def wsX5_init_r2 : List Cond := [Cond.classLink RX2 9 RX3, Cond.instantiable RX3 4, Cond.initialized RX3, Cond.fieldLink RX2 14 "LentRights$House" "persons" "LLentRights$Table;", Cond.fieldLink RX2 20 "LentRights$House" "things" "LLentRights$Table;", Cond.fieldLink RX2 23 "LentRights$House" "grants" "LLentRights$Table;", Cond.fieldLink RX2 26 "LentRights$House" "log" "LLentRights$Table;", Cond.fieldLink RX2 29 "LentRights$House" "held" "LLentRights$Table;", Cond.methodLink RX2 11 yX3_init, Cond.instanceMethod yX3_init, Cond.code yX3_init cX3_init 3 none, Cond.methodLink RX3 3 objectInit, Cond.fieldLink RX3 9 "LentRights$Table" "limit" "I", Cond.fieldLink RX3 15 "LentRights$Table" "columns" "I", Cond.arrayClass .int, Cond.fieldLink RX3 18 "LentRights$Table" "cells" "[I", Cond.methodLink RX2 32 yX3_addRow, Cond.instanceMethod yX3_addRow, Cond.selects RX3 yX3_addRow yX3_addRow, Cond.code yX3_addRow cX3_addRow 1 (some .int), Cond.fieldLink RX3 22 "LentRights$Table" "rows" "I", Cond.methodLink RX2 36 yX3_put, Cond.instanceMethod yX3_put, Cond.selects RX3 yX3_put yX3_put]
def wsX5_init_r3 : List Cond := [Cond.code yX3_put cX3_put 6 none, Cond.methodLink RX5 21 yX1_init, Cond.instanceMethod yX1_init, Cond.code yX1_init cX1_init 2 none, Cond.methodLink RX1 3 objectInit, Cond.classLink RX1 9 RX2, Cond.fieldLink RX1 11 "LentRights$History" "states" "[LLentRights$House;", Cond.methodLink RX1 17 yX2_init, Cond.methodLink RX5 28 yX0_init, Cond.instanceMethod yX0_init, Cond.code yX0_init cX0_init 1 none, Cond.methodLink RX0 3 objectInit, Cond.classLink RX0 9 RX3, Cond.fieldLink RX0 14 "LentRights$Chains" "steps" "LLentRights$Table;", Cond.methodLink RX0 11 yX3_init, Cond.methodLink RX0 20 yX3_addRow, Cond.methodLink RX5 35 yX4_init, Cond.instanceMethod yX4_init, Cond.code yX4_init cX4_init 1 none, Cond.methodLink RX4 3 objectInit, Cond.classLink RX4 9 RX3, Cond.fieldLink RX4 14 "LentRights$Text" "bytes" "LLentRights$Table;", Cond.fieldLink RX4 20 "LentRights$Text" "orders" "LLentRights$Table;", Cond.fieldLink RX4 23 "LentRights$Text" "fault" "I"]
def wsX5_init_r4 : List Cond := [Cond.methodLink RX4 11 yX3_init]
def wsX5_init : List Cond := .code yX5_init cX5_init 1 none :: ((wsX5_init_r1 ++ (wsX5_init_r2 ++ (wsX5_init_r3 ++ wsX5_init_r4))) ++ wsX20 ++ wsX50 ++ wsX10 ++ wsX00 ++ wsX40 ++ wsX30)
def wsX5_requirePerson : List Cond := .code yX5_requirePerson cX5_requirePerson 1 none :: ([.classLink RX5 142 "java/lang/IndexOutOfBoundsException", .initialized "java/lang/IndexOutOfBoundsException", .methodLink RX5 262 yX5_isPerson, .static yX5_isPerson, .initialized RX5, .code yX5_isPerson cX5_isPerson 1 (some .boolean), .methodLink RX5 267 yX5_isBetween, .static yX5_isBetween, .code yX5_isBetween cX5_isBetween 3 (some .boolean)] ++ (vx_atS RX5 146 "java/lang/IndexOutOfBoundsException" ["java/lang/RuntimeException", "java/lang/Exception"]).filter goodWord)
def wsX5_requireRange : List Cond := .code yX5_requireRange cX5_requireRange 3 none :: ([.classLink RX5 151 "java/lang/IllegalArgumentException", .initialized "java/lang/IllegalArgumentException", .methodLink RX5 267 yX5_isBetween, .static yX5_isBetween, .initialized RX5, .code yX5_isBetween cX5_isBetween 3 (some .boolean)] ++ (vx_atS RX5 155 "java/lang/IllegalArgumentException" ["java/lang/RuntimeException", "java/lang/Exception"]).filter goodWord)
def wsX5_requireMask : List Cond := .code yX5_requireMask cX5_requireMask 1 none :: ([.methodLink RX5 79 yX5_requireRange, .static yX5_requireRange, .initialized RX5, .code yX5_requireRange cX5_requireRange 3 none, .classLink RX5 151 "java/lang/IllegalArgumentException", .initialized "java/lang/IllegalArgumentException", .methodLink RX5 267 yX5_isBetween, .static yX5_isBetween, .code yX5_isBetween cX5_isBetween 3 (some .boolean)] ++ (vx_atS RX5 155 "java/lang/IllegalArgumentException" ["java/lang/RuntimeException", "java/lang/Exception"]).filter goodWord)
def wsX5_addThing_r1 : List Cond := [Cond.classLink RX5 57 "java/lang/IllegalStateException", Cond.initialized "java/lang/IllegalStateException", Cond.fieldLink RX5 10 "LentRights" "house" "LLentRights$House;", Cond.fieldLink RX5 47 "LentRights$House" "things" "LLentRights$Table;", Cond.fieldLink RX5 22 "LentRights" "history" "LLentRights$History;", Cond.methodLink RX5 40 yX5_requirePerson, Cond.static yX5_requirePerson, Cond.initialized RX5, Cond.code yX5_requirePerson cX5_requirePerson 1 none, Cond.classLink RX5 142 "java/lang/IndexOutOfBoundsException", Cond.initialized "java/lang/IndexOutOfBoundsException", Cond.methodLink RX5 262 yX5_isPerson, Cond.static yX5_isPerson, Cond.code yX5_isPerson cX5_isPerson 1 (some .boolean), Cond.methodLink RX5 267 yX5_isBetween, Cond.static yX5_isBetween, Cond.code yX5_isBetween cX5_isBetween 3 (some .boolean), Cond.methodLink RX5 44 yX5_requireMask, Cond.static yX5_requireMask, Cond.code yX5_requireMask cX5_requireMask 1 none, Cond.methodLink RX5 79 yX5_requireRange, Cond.static yX5_requireRange, Cond.code yX5_requireRange cX5_requireRange 3 none, Cond.classLink RX5 151 "java/lang/IllegalArgumentException"]
def wsX5_addThing_r2 : List Cond := [Cond.initialized "java/lang/IllegalArgumentException", Cond.methodLink RX5 51 yX3_isFull, Cond.instanceMethod yX3_isFull, Cond.selects RX3 yX3_isFull yX3_isFull, Cond.initialized RX3, Cond.code yX3_isFull cX3_isFull 1 (some .boolean), Cond.fieldLink RX3 22 "LentRights$Table" "rows" "I", Cond.fieldLink RX3 9 "LentRights$Table" "limit" "I", Cond.methodLink RX5 64 yX1_keep, Cond.instanceMethod yX1_keep, Cond.selects RX1 yX1_keep yX1_keep, Cond.initialized RX1, Cond.code yX1_keep cX1_keep 2 none, Cond.fieldLink RX1 18 "LentRights$History" "count" "I", Cond.fieldLink RX1 11 "LentRights$History" "states" "[LLentRights$House;", Cond.methodLink RX1 22 yX1_makeRoom, Cond.instanceMethod yX1_makeRoom, Cond.selects RX1 yX1_makeRoom yX1_makeRoom, Cond.code yX1_makeRoom cX1_makeRoom 3 none, Cond.methodLink RX1 25 yX2_takeOver, Cond.instanceMethod yX2_takeOver, Cond.selects RX2 yX2_takeOver yX2_takeOver, Cond.initialized RX2, Cond.code yX2_takeOver cX2_takeOver 2 none]
def wsX5_addThing_r3 : List Cond := [Cond.fieldLink RX2 14 "LentRights$House" "persons" "LLentRights$Table;", Cond.fieldLink RX2 20 "LentRights$House" "things" "LLentRights$Table;", Cond.fieldLink RX2 23 "LentRights$House" "grants" "LLentRights$Table;", Cond.fieldLink RX2 26 "LentRights$House" "log" "LLentRights$Table;", Cond.fieldLink RX2 29 "LentRights$House" "held" "LLentRights$Table;", Cond.fieldLink RX2 44 "LentRights$House" "given" "I", Cond.fieldLink RX2 48 "LentRights$House" "died" "I", Cond.fieldLink RX2 51 "LentRights$House" "revoked" "I", Cond.fieldLink RX2 54 "LentRights$House" "time" "I", Cond.methodLink RX2 40 yX3_takeOver, Cond.instanceMethod yX3_takeOver, Cond.selects RX3 yX3_takeOver yX3_takeOver, Cond.code yX3_takeOver cX3_takeOver 4 none, Cond.fieldLink RX3 15 "LentRights$Table" "columns" "I", Cond.fieldLink RX3 18 "LentRights$Table" "cells" "[I", Cond.methodLink RX5 68 yX2_takeIn, Cond.instanceMethod yX2_takeIn, Cond.selects RX2 yX2_takeIn yX2_takeIn, Cond.code yX2_takeIn cX2_takeIn 4 (some .int), Cond.methodLink RX2 32 yX3_addRow, Cond.instanceMethod yX3_addRow, Cond.selects RX3 yX3_addRow yX3_addRow, Cond.code yX3_addRow cX3_addRow 1 (some .int), Cond.methodLink RX2 36 yX3_put]
def wsX5_addThing_r4 : List Cond := [Cond.instanceMethod yX3_put, Cond.selects RX3 yX3_put yX3_put, Cond.code yX3_put cX3_put 6 none, Cond.methodLink RX2 57 yX2_settle, Cond.instanceMethod yX2_settle, Cond.selects RX2 yX2_settle yX2_settle, Cond.code yX2_settle cX2_settle 8 none, Cond.methodLink RX2 104 yX3_rows, Cond.instanceMethod yX3_rows, Cond.selects RX3 yX3_rows yX3_rows, Cond.code yX3_rows cX3_rows 1 (some .int), Cond.methodLink RX2 60 yX3_at, Cond.instanceMethod yX3_at, Cond.selects RX3 yX3_at yX3_at, Cond.code yX3_at cX3_at 5 (some .int), Cond.methodLink RX2 123 yX2_passedOn, Cond.instanceMethod yX2_passedOn, Cond.selects RX2 yX2_passedOn yX2_passedOn, Cond.code yX2_passedOn cX2_passedOn 4 (some .int)]
def wsX5_addThing : List Cond := .code yX5_addThing cX5_addThing 3 (some .int) :: ((wsX5_addThing_r1 ++ (wsX5_addThing_r2 ++ (wsX5_addThing_r3 ++ wsX5_addThing_r4))) ++ wsX50 ++ wsX20 ++ wsX30 ++ wsX10 ++ (vx_atS RX5 61 "java/lang/IllegalStateException" ["java/lang/RuntimeException", "java/lang/Exception"]).filter goodWord ++ (vx_atS RX5 146 "java/lang/IndexOutOfBoundsException" ["java/lang/RuntimeException", "java/lang/Exception"]).filter goodWord ++ (vx_atS RX5 155 "java/lang/IllegalArgumentException" ["java/lang/RuntimeException", "java/lang/Exception"]).filter goodWord)
def wsX5_requireThing : List Cond := .code yX5_requireThing cX5_requireThing 2 none :: ([.classLink RX5 142 "java/lang/IndexOutOfBoundsException", .initialized "java/lang/IndexOutOfBoundsException", .fieldLink RX5 10 "LentRights" "house" "LLentRights$House;", .fieldLink RX5 47 "LentRights$House" "things" "LLentRights$Table;", .methodLink RX5 257 yX3_has, .instanceMethod yX3_has, .selects RX3 yX3_has yX3_has, .initialized RX3, .code yX3_has cX3_has 2 (some .boolean), .fieldLink RX3 22 "LentRights$Table" "rows" "I"] ++ wsX50 ++ wsX20 ++ wsX30 ++ (vx_atS RX5 146 "java/lang/IndexOutOfBoundsException" ["java/lang/RuntimeException", "java/lang/Exception"]).filter goodWord)
def wsX5_setMask_r1 : List Cond := [Cond.fieldLink RX5 22 "LentRights" "history" "LLentRights$History;", Cond.fieldLink RX5 10 "LentRights" "house" "LLentRights$House;", Cond.methodLink RX5 72 yX5_requireThing, Cond.instanceMethod yX5_requireThing, Cond.selects RX5 yX5_requireThing yX5_requireThing, Cond.initialized RX5, Cond.code yX5_requireThing cX5_requireThing 2 none, Cond.classLink RX5 142 "java/lang/IndexOutOfBoundsException", Cond.initialized "java/lang/IndexOutOfBoundsException", Cond.fieldLink RX5 47 "LentRights$House" "things" "LLentRights$Table;", Cond.methodLink RX5 257 yX3_has, Cond.instanceMethod yX3_has, Cond.selects RX3 yX3_has yX3_has, Cond.initialized RX3, Cond.code yX3_has cX3_has 2 (some .boolean), Cond.fieldLink RX3 22 "LentRights$Table" "rows" "I", Cond.methodLink RX5 44 yX5_requireMask, Cond.static yX5_requireMask, Cond.code yX5_requireMask cX5_requireMask 1 none, Cond.methodLink RX5 79 yX5_requireRange, Cond.static yX5_requireRange, Cond.code yX5_requireRange cX5_requireRange 3 none, Cond.classLink RX5 151 "java/lang/IllegalArgumentException", Cond.initialized "java/lang/IllegalArgumentException"]
def wsX5_setMask_r2 : List Cond := [Cond.methodLink RX5 267 yX5_isBetween, Cond.static yX5_isBetween, Cond.code yX5_isBetween cX5_isBetween 3 (some .boolean), Cond.methodLink RX5 64 yX1_keep, Cond.instanceMethod yX1_keep, Cond.selects RX1 yX1_keep yX1_keep, Cond.initialized RX1, Cond.code yX1_keep cX1_keep 2 none, Cond.fieldLink RX1 18 "LentRights$History" "count" "I", Cond.fieldLink RX1 11 "LentRights$History" "states" "[LLentRights$House;", Cond.methodLink RX1 22 yX1_makeRoom, Cond.instanceMethod yX1_makeRoom, Cond.selects RX1 yX1_makeRoom yX1_makeRoom, Cond.code yX1_makeRoom cX1_makeRoom 3 none, Cond.methodLink RX1 25 yX2_takeOver, Cond.instanceMethod yX2_takeOver, Cond.selects RX2 yX2_takeOver yX2_takeOver, Cond.initialized RX2, Cond.code yX2_takeOver cX2_takeOver 2 none, Cond.fieldLink RX2 14 "LentRights$House" "persons" "LLentRights$Table;", Cond.fieldLink RX2 20 "LentRights$House" "things" "LLentRights$Table;", Cond.fieldLink RX2 23 "LentRights$House" "grants" "LLentRights$Table;", Cond.fieldLink RX2 26 "LentRights$House" "log" "LLentRights$Table;", Cond.fieldLink RX2 29 "LentRights$House" "held" "LLentRights$Table;"]
def wsX5_setMask_r3 : List Cond := [Cond.fieldLink RX2 44 "LentRights$House" "given" "I", Cond.fieldLink RX2 48 "LentRights$House" "died" "I", Cond.fieldLink RX2 51 "LentRights$House" "revoked" "I", Cond.fieldLink RX2 54 "LentRights$House" "time" "I", Cond.methodLink RX2 40 yX3_takeOver, Cond.instanceMethod yX3_takeOver, Cond.selects RX3 yX3_takeOver yX3_takeOver, Cond.code yX3_takeOver cX3_takeOver 4 none, Cond.fieldLink RX3 9 "LentRights$Table" "limit" "I", Cond.fieldLink RX3 15 "LentRights$Table" "columns" "I", Cond.fieldLink RX3 18 "LentRights$Table" "cells" "[I", Cond.methodLink RX5 75 yX2_changeThing, Cond.instanceMethod yX2_changeThing, Cond.selects RX2 yX2_changeThing yX2_changeThing, Cond.code yX2_changeThing cX2_changeThing 5 (some .int), Cond.methodLink RX2 60 yX3_at, Cond.instanceMethod yX3_at, Cond.selects RX3 yX3_at yX3_at, Cond.code yX3_at cX3_at 5 (some .int), Cond.methodLink RX2 36 yX3_put, Cond.instanceMethod yX3_put, Cond.selects RX3 yX3_put yX3_put, Cond.code yX3_put cX3_put 6 none, Cond.methodLink RX2 57 yX2_settle]
def wsX5_setMask_r4 : List Cond := [Cond.instanceMethod yX2_settle, Cond.selects RX2 yX2_settle yX2_settle, Cond.code yX2_settle cX2_settle 8 none, Cond.methodLink RX2 104 yX3_rows, Cond.instanceMethod yX3_rows, Cond.selects RX3 yX3_rows yX3_rows, Cond.code yX3_rows cX3_rows 1 (some .int), Cond.methodLink RX2 123 yX2_passedOn, Cond.instanceMethod yX2_passedOn, Cond.selects RX2 yX2_passedOn yX2_passedOn, Cond.code yX2_passedOn cX2_passedOn 4 (some .int)]
def wsX5_setMask : List Cond := .code yX5_setMask cX5_setMask 3 (some .int) :: ((wsX5_setMask_r1 ++ (wsX5_setMask_r2 ++ (wsX5_setMask_r3 ++ wsX5_setMask_r4))) ++ wsX50 ++ wsX20 ++ wsX30 ++ wsX10 ++ (vx_atS RX5 146 "java/lang/IndexOutOfBoundsException" ["java/lang/RuntimeException", "java/lang/Exception"]).filter goodWord ++ (vx_atS RX5 155 "java/lang/IllegalArgumentException" ["java/lang/RuntimeException", "java/lang/Exception"]).filter goodWord)
def wsX5_setBase_r1 : List Cond := [Cond.fieldLink RX5 22 "LentRights" "history" "LLentRights$History;", Cond.fieldLink RX5 10 "LentRights" "house" "LLentRights$House;", Cond.fieldLink RX5 83 "LentRights$House" "persons" "LLentRights$Table;", Cond.methodLink RX5 40 yX5_requirePerson, Cond.static yX5_requirePerson, Cond.initialized RX5, Cond.code yX5_requirePerson cX5_requirePerson 1 none, Cond.classLink RX5 142 "java/lang/IndexOutOfBoundsException", Cond.initialized "java/lang/IndexOutOfBoundsException", Cond.methodLink RX5 262 yX5_isPerson, Cond.static yX5_isPerson, Cond.code yX5_isPerson cX5_isPerson 1 (some .boolean), Cond.methodLink RX5 267 yX5_isBetween, Cond.static yX5_isBetween, Cond.code yX5_isBetween cX5_isBetween 3 (some .boolean), Cond.methodLink RX5 79 yX5_requireRange, Cond.static yX5_requireRange, Cond.code yX5_requireRange cX5_requireRange 3 none, Cond.classLink RX5 151 "java/lang/IllegalArgumentException", Cond.initialized "java/lang/IllegalArgumentException", Cond.methodLink RX5 64 yX1_keep, Cond.instanceMethod yX1_keep, Cond.selects RX1 yX1_keep yX1_keep, Cond.initialized RX1]
def wsX5_setBase_r2 : List Cond := [Cond.code yX1_keep cX1_keep 2 none, Cond.fieldLink RX1 18 "LentRights$History" "count" "I", Cond.fieldLink RX1 11 "LentRights$History" "states" "[LLentRights$House;", Cond.methodLink RX1 22 yX1_makeRoom, Cond.instanceMethod yX1_makeRoom, Cond.selects RX1 yX1_makeRoom yX1_makeRoom, Cond.code yX1_makeRoom cX1_makeRoom 3 none, Cond.methodLink RX1 25 yX2_takeOver, Cond.instanceMethod yX2_takeOver, Cond.selects RX2 yX2_takeOver yX2_takeOver, Cond.initialized RX2, Cond.code yX2_takeOver cX2_takeOver 2 none, Cond.fieldLink RX2 14 "LentRights$House" "persons" "LLentRights$Table;", Cond.fieldLink RX2 20 "LentRights$House" "things" "LLentRights$Table;", Cond.fieldLink RX2 23 "LentRights$House" "grants" "LLentRights$Table;", Cond.fieldLink RX2 26 "LentRights$House" "log" "LLentRights$Table;", Cond.fieldLink RX2 29 "LentRights$House" "held" "LLentRights$Table;", Cond.fieldLink RX2 44 "LentRights$House" "given" "I", Cond.fieldLink RX2 48 "LentRights$House" "died" "I", Cond.fieldLink RX2 51 "LentRights$House" "revoked" "I", Cond.fieldLink RX2 54 "LentRights$House" "time" "I", Cond.methodLink RX2 40 yX3_takeOver, Cond.instanceMethod yX3_takeOver, Cond.selects RX3 yX3_takeOver yX3_takeOver]
def wsX5_setBase_r3 : List Cond := [Cond.initialized RX3, Cond.code yX3_takeOver cX3_takeOver 4 none, Cond.fieldLink RX3 22 "LentRights$Table" "rows" "I", Cond.fieldLink RX3 9 "LentRights$Table" "limit" "I", Cond.fieldLink RX3 15 "LentRights$Table" "columns" "I", Cond.fieldLink RX3 18 "LentRights$Table" "cells" "[I", Cond.methodLink RX5 86 yX3_at, Cond.instanceMethod yX3_at, Cond.selects RX3 yX3_at yX3_at, Cond.code yX3_at cX3_at 5 (some .int), Cond.methodLink RX5 89 yX3_put, Cond.instanceMethod yX3_put, Cond.selects RX3 yX3_put yX3_put, Cond.code yX3_put cX3_put 6 none]
def wsX5_setBase : List Cond := .code yX5_setBase cX5_setBase 4 (some .int) :: ((wsX5_setBase_r1 ++ (wsX5_setBase_r2 ++ wsX5_setBase_r3)) ++ wsX50 ++ wsX20 ++ wsX10 ++ wsX30 ++ (vx_atS RX5 146 "java/lang/IndexOutOfBoundsException" ["java/lang/RuntimeException", "java/lang/Exception"]).filter goodWord ++ (vx_atS RX5 155 "java/lang/IllegalArgumentException" ["java/lang/RuntimeException", "java/lang/Exception"]).filter goodWord)
def wsX5_give_r1 : List Cond := [Cond.fieldLink RX5 22 "LentRights" "history" "LLentRights$History;", Cond.fieldLink RX5 10 "LentRights" "house" "LLentRights$House;", Cond.methodLink RX5 40 yX5_requirePerson, Cond.static yX5_requirePerson, Cond.initialized RX5, Cond.code yX5_requirePerson cX5_requirePerson 1 none, Cond.classLink RX5 142 "java/lang/IndexOutOfBoundsException", Cond.initialized "java/lang/IndexOutOfBoundsException", Cond.methodLink RX5 262 yX5_isPerson, Cond.static yX5_isPerson, Cond.code yX5_isPerson cX5_isPerson 1 (some .boolean), Cond.methodLink RX5 267 yX5_isBetween, Cond.static yX5_isBetween, Cond.code yX5_isBetween cX5_isBetween 3 (some .boolean), Cond.methodLink RX5 72 yX5_requireThing, Cond.instanceMethod yX5_requireThing, Cond.selects RX5 yX5_requireThing yX5_requireThing, Cond.code yX5_requireThing cX5_requireThing 2 none, Cond.fieldLink RX5 47 "LentRights$House" "things" "LLentRights$Table;", Cond.methodLink RX5 257 yX3_has, Cond.instanceMethod yX3_has, Cond.selects RX3 yX3_has yX3_has, Cond.initialized RX3, Cond.code yX3_has cX3_has 2 (some .boolean)]
def wsX5_give_r2 : List Cond := [Cond.fieldLink RX3 22 "LentRights$Table" "rows" "I", Cond.methodLink RX5 64 yX1_keep, Cond.instanceMethod yX1_keep, Cond.selects RX1 yX1_keep yX1_keep, Cond.initialized RX1, Cond.code yX1_keep cX1_keep 2 none, Cond.fieldLink RX1 18 "LentRights$History" "count" "I", Cond.fieldLink RX1 11 "LentRights$History" "states" "[LLentRights$House;", Cond.methodLink RX1 22 yX1_makeRoom, Cond.instanceMethod yX1_makeRoom, Cond.selects RX1 yX1_makeRoom yX1_makeRoom, Cond.code yX1_makeRoom cX1_makeRoom 3 none, Cond.methodLink RX1 25 yX2_takeOver, Cond.instanceMethod yX2_takeOver, Cond.selects RX2 yX2_takeOver yX2_takeOver, Cond.initialized RX2, Cond.code yX2_takeOver cX2_takeOver 2 none, Cond.fieldLink RX2 14 "LentRights$House" "persons" "LLentRights$Table;", Cond.fieldLink RX2 20 "LentRights$House" "things" "LLentRights$Table;", Cond.fieldLink RX2 23 "LentRights$House" "grants" "LLentRights$Table;", Cond.fieldLink RX2 26 "LentRights$House" "log" "LLentRights$Table;", Cond.fieldLink RX2 29 "LentRights$House" "held" "LLentRights$Table;", Cond.fieldLink RX2 44 "LentRights$House" "given" "I", Cond.fieldLink RX2 48 "LentRights$House" "died" "I"]
def wsX5_give_r3 : List Cond := [Cond.fieldLink RX2 51 "LentRights$House" "revoked" "I", Cond.fieldLink RX2 54 "LentRights$House" "time" "I", Cond.methodLink RX2 40 yX3_takeOver, Cond.instanceMethod yX3_takeOver, Cond.selects RX3 yX3_takeOver yX3_takeOver, Cond.code yX3_takeOver cX3_takeOver 4 none, Cond.fieldLink RX3 9 "LentRights$Table" "limit" "I", Cond.fieldLink RX3 15 "LentRights$Table" "columns" "I", Cond.fieldLink RX3 18 "LentRights$Table" "cells" "[I", Cond.methodLink RX5 75 yX2_changeThing, Cond.instanceMethod yX2_changeThing, Cond.selects RX2 yX2_changeThing yX2_changeThing, Cond.code yX2_changeThing cX2_changeThing 5 (some .int), Cond.methodLink RX2 60 yX3_at, Cond.instanceMethod yX3_at, Cond.selects RX3 yX3_at yX3_at, Cond.code yX3_at cX3_at 5 (some .int), Cond.methodLink RX2 36 yX3_put, Cond.instanceMethod yX3_put, Cond.selects RX3 yX3_put yX3_put, Cond.code yX3_put cX3_put 6 none, Cond.methodLink RX2 57 yX2_settle, Cond.instanceMethod yX2_settle, Cond.selects RX2 yX2_settle yX2_settle]
def wsX5_give_r4 : List Cond := [Cond.code yX2_settle cX2_settle 8 none, Cond.methodLink RX2 104 yX3_rows, Cond.instanceMethod yX3_rows, Cond.selects RX3 yX3_rows yX3_rows, Cond.code yX3_rows cX3_rows 1 (some .int), Cond.methodLink RX2 123 yX2_passedOn, Cond.instanceMethod yX2_passedOn, Cond.selects RX2 yX2_passedOn yX2_passedOn, Cond.code yX2_passedOn cX2_passedOn 4 (some .int)]
def wsX5_give : List Cond := .code yX5_give cX5_give 3 (some .int) :: ((wsX5_give_r1 ++ (wsX5_give_r2 ++ (wsX5_give_r3 ++ wsX5_give_r4))) ++ wsX50 ++ wsX20 ++ wsX30 ++ wsX10 ++ (vx_atS RX5 146 "java/lang/IndexOutOfBoundsException" ["java/lang/RuntimeException", "java/lang/Exception"]).filter goodWord)
def wsX5_requireFit : List Cond := .code yX5_requireFit cX5_requireFit 1 none :: ([.classLink RX5 142 "java/lang/IndexOutOfBoundsException", .initialized "java/lang/IndexOutOfBoundsException", .classLink RX5 151 "java/lang/IllegalArgumentException", .initialized "java/lang/IllegalArgumentException"] ++ (vx_atS RX5 146 "java/lang/IndexOutOfBoundsException" ["java/lang/RuntimeException", "java/lang/Exception"]).filter goodWord ++ (vx_atS RX5 155 "java/lang/IllegalArgumentException" ["java/lang/RuntimeException", "java/lang/Exception"]).filter goodWord)
def wsX5_grant_r1 : List Cond := [Cond.classLink RX5 57 "java/lang/IllegalStateException", Cond.initialized "java/lang/IllegalStateException", Cond.fieldLink RX5 10 "LentRights" "house" "LLentRights$House;", Cond.fieldLink RX5 22 "LentRights" "history" "LLentRights$History;", Cond.methodLink RX5 92 yX2_faultOfGrant, Cond.instanceMethod yX2_faultOfGrant, Cond.selects RX2 yX2_faultOfGrant yX2_faultOfGrant, Cond.initialized RX2, Cond.code yX2_faultOfGrant cX2_faultOfGrant 10 (some .int), Cond.fieldLink RX2 20 "LentRights$House" "things" "LLentRights$Table;", Cond.fieldLink RX2 14 "LentRights$House" "persons" "LLentRights$Table;", Cond.fieldLink RX2 23 "LentRights$House" "grants" "LLentRights$Table;", Cond.static yX5_isPerson, Cond.initialized RX5, Cond.code yX5_isPerson cX5_isPerson 1 (some .boolean), Cond.methodLink RX5 267 yX5_isBetween, Cond.static yX5_isBetween, Cond.code yX5_isBetween cX5_isBetween 3 (some .boolean), Cond.methodLink RX2 68 yX3_has, Cond.instanceMethod yX3_has, Cond.selects RX3 yX3_has yX3_has, Cond.initialized RX3, Cond.code yX3_has cX3_has 2 (some .boolean), Cond.fieldLink RX3 22 "LentRights$Table" "rows" "I"]
def wsX5_grant_r2 : List Cond := [Cond.methodLink RX2 75 yX2_rightsOf, Cond.instanceMethod yX2_rightsOf, Cond.selects RX2 yX2_rightsOf yX2_rightsOf, Cond.code yX2_rightsOf cX2_rightsOf 3 (some .int), Cond.fieldLink RX2 29 "LentRights$House" "held" "LLentRights$Table;", Cond.methodLink RX2 60 yX3_at, Cond.instanceMethod yX3_at, Cond.selects RX3 yX3_at yX3_at, Cond.code yX3_at cX3_at 5 (some .int), Cond.fieldLink RX3 15 "LentRights$Table" "columns" "I", Cond.fieldLink RX3 18 "LentRights$Table" "cells" "[I", Cond.methodLink RX2 78 yX3_isFull, Cond.instanceMethod yX3_isFull, Cond.selects RX3 yX3_isFull yX3_isFull, Cond.code yX3_isFull cX3_isFull 1 (some .boolean), Cond.fieldLink RX3 9 "LentRights$Table" "limit" "I", Cond.methodLink RX5 96 yX5_requireFit, Cond.static yX5_requireFit, Cond.code yX5_requireFit cX5_requireFit 1 none, Cond.classLink RX5 142 "java/lang/IndexOutOfBoundsException", Cond.initialized "java/lang/IndexOutOfBoundsException", Cond.classLink RX5 151 "java/lang/IllegalArgumentException", Cond.initialized "java/lang/IllegalArgumentException", Cond.methodLink RX5 64 yX1_keep]
def wsX5_grant_r3 : List Cond := [Cond.instanceMethod yX1_keep, Cond.selects RX1 yX1_keep yX1_keep, Cond.initialized RX1, Cond.code yX1_keep cX1_keep 2 none, Cond.fieldLink RX1 18 "LentRights$History" "count" "I", Cond.fieldLink RX1 11 "LentRights$History" "states" "[LLentRights$House;", Cond.methodLink RX1 22 yX1_makeRoom, Cond.instanceMethod yX1_makeRoom, Cond.selects RX1 yX1_makeRoom yX1_makeRoom, Cond.code yX1_makeRoom cX1_makeRoom 3 none, Cond.methodLink RX1 25 yX2_takeOver, Cond.instanceMethod yX2_takeOver, Cond.selects RX2 yX2_takeOver yX2_takeOver, Cond.code yX2_takeOver cX2_takeOver 2 none, Cond.fieldLink RX2 26 "LentRights$House" "log" "LLentRights$Table;", Cond.fieldLink RX2 44 "LentRights$House" "given" "I", Cond.fieldLink RX2 48 "LentRights$House" "died" "I", Cond.fieldLink RX2 51 "LentRights$House" "revoked" "I", Cond.fieldLink RX2 54 "LentRights$House" "time" "I", Cond.methodLink RX2 40 yX3_takeOver, Cond.instanceMethod yX3_takeOver, Cond.selects RX3 yX3_takeOver yX3_takeOver, Cond.code yX3_takeOver cX3_takeOver 4 none, Cond.methodLink RX5 101 yX2_lend]
def wsX5_grant_r4 : List Cond := [Cond.instanceMethod yX2_lend, Cond.selects RX2 yX2_lend yX2_lend, Cond.code yX2_lend cX2_lend 8 (some .int), Cond.methodLink RX2 32 yX3_addRow, Cond.instanceMethod yX3_addRow, Cond.selects RX3 yX3_addRow yX3_addRow, Cond.code yX3_addRow cX3_addRow 1 (some .int), Cond.methodLink RX2 36 yX3_put, Cond.instanceMethod yX3_put, Cond.selects RX3 yX3_put yX3_put, Cond.code yX3_put cX3_put 6 none, Cond.methodLink RX2 57 yX2_settle, Cond.instanceMethod yX2_settle, Cond.selects RX2 yX2_settle yX2_settle, Cond.code yX2_settle cX2_settle 8 none, Cond.methodLink RX2 104 yX3_rows, Cond.instanceMethod yX3_rows, Cond.selects RX3 yX3_rows yX3_rows, Cond.code yX3_rows cX3_rows 1 (some .int), Cond.methodLink RX2 123 yX2_passedOn, Cond.instanceMethod yX2_passedOn, Cond.selects RX2 yX2_passedOn yX2_passedOn, Cond.code yX2_passedOn cX2_passedOn 4 (some .int)]
def wsX5_grant : List Cond := .code yX5_grant cX5_grant 7 (some .int) :: ((wsX5_grant_r1 ++ (wsX5_grant_r2 ++ (wsX5_grant_r3 ++ wsX5_grant_r4))) ++ wsX50 ++ wsX20 ++ wsX30 ++ wsX10 ++ (vx_atS RX5 61 "java/lang/IllegalStateException" ["java/lang/RuntimeException", "java/lang/Exception"]).filter goodWord ++ (vx_atS RX5 146 "java/lang/IndexOutOfBoundsException" ["java/lang/RuntimeException", "java/lang/Exception"]).filter goodWord ++ (vx_atS RX5 155 "java/lang/IllegalArgumentException" ["java/lang/RuntimeException", "java/lang/Exception"]).filter goodWord)
def wsX5_cheer_r1 : List Cond := [Cond.fieldLink RX5 22 "LentRights" "history" "LLentRights$History;", Cond.fieldLink RX5 10 "LentRights" "house" "LLentRights$House;", Cond.methodLink RX5 40 yX5_requirePerson, Cond.static yX5_requirePerson, Cond.initialized RX5, Cond.code yX5_requirePerson cX5_requirePerson 1 none, Cond.classLink RX5 142 "java/lang/IndexOutOfBoundsException", Cond.initialized "java/lang/IndexOutOfBoundsException", Cond.methodLink RX5 262 yX5_isPerson, Cond.static yX5_isPerson, Cond.code yX5_isPerson cX5_isPerson 1 (some .boolean), Cond.methodLink RX5 267 yX5_isBetween, Cond.static yX5_isBetween, Cond.code yX5_isBetween cX5_isBetween 3 (some .boolean), Cond.methodLink RX5 79 yX5_requireRange, Cond.static yX5_requireRange, Cond.code yX5_requireRange cX5_requireRange 3 none, Cond.classLink RX5 151 "java/lang/IllegalArgumentException", Cond.initialized "java/lang/IllegalArgumentException", Cond.methodLink RX5 64 yX1_keep, Cond.instanceMethod yX1_keep, Cond.selects RX1 yX1_keep yX1_keep, Cond.initialized RX1, Cond.code yX1_keep cX1_keep 2 none]
def wsX5_cheer_r2 : List Cond := [Cond.fieldLink RX1 18 "LentRights$History" "count" "I", Cond.fieldLink RX1 11 "LentRights$History" "states" "[LLentRights$House;", Cond.methodLink RX1 22 yX1_makeRoom, Cond.instanceMethod yX1_makeRoom, Cond.selects RX1 yX1_makeRoom yX1_makeRoom, Cond.code yX1_makeRoom cX1_makeRoom 3 none, Cond.methodLink RX1 25 yX2_takeOver, Cond.instanceMethod yX2_takeOver, Cond.selects RX2 yX2_takeOver yX2_takeOver, Cond.initialized RX2, Cond.code yX2_takeOver cX2_takeOver 2 none, Cond.fieldLink RX2 14 "LentRights$House" "persons" "LLentRights$Table;", Cond.fieldLink RX2 20 "LentRights$House" "things" "LLentRights$Table;", Cond.fieldLink RX2 23 "LentRights$House" "grants" "LLentRights$Table;", Cond.fieldLink RX2 26 "LentRights$House" "log" "LLentRights$Table;", Cond.fieldLink RX2 29 "LentRights$House" "held" "LLentRights$Table;", Cond.fieldLink RX2 44 "LentRights$House" "given" "I", Cond.fieldLink RX2 48 "LentRights$House" "died" "I", Cond.fieldLink RX2 51 "LentRights$House" "revoked" "I", Cond.fieldLink RX2 54 "LentRights$House" "time" "I", Cond.methodLink RX2 40 yX3_takeOver, Cond.instanceMethod yX3_takeOver, Cond.selects RX3 yX3_takeOver yX3_takeOver, Cond.initialized RX3]
def wsX5_cheer_r3 : List Cond := [Cond.code yX3_takeOver cX3_takeOver 4 none, Cond.fieldLink RX3 22 "LentRights$Table" "rows" "I", Cond.fieldLink RX3 9 "LentRights$Table" "limit" "I", Cond.fieldLink RX3 15 "LentRights$Table" "columns" "I", Cond.fieldLink RX3 18 "LentRights$Table" "cells" "[I", Cond.methodLink RX5 111 yX2_changeMood, Cond.instanceMethod yX2_changeMood, Cond.selects RX2 yX2_changeMood yX2_changeMood, Cond.code yX2_changeMood cX2_changeMood 5 (some .int), Cond.methodLink RX2 89 Lib.Math.min.name, Cond.static Lib.Math.min.name, Cond.initialized "java/lang/Math", Cond.code Lib.Math.min.name Lib.Math.min.code 2 (some .int), Cond.methodLink RX2 94 Lib.Math.max.name, Cond.static Lib.Math.max.name, Cond.code Lib.Math.max.name Lib.Math.max.code 2 (some .int), Cond.methodLink RX2 60 yX3_at, Cond.instanceMethod yX3_at, Cond.selects RX3 yX3_at yX3_at, Cond.code yX3_at cX3_at 5 (some .int), Cond.methodLink RX2 36 yX3_put, Cond.instanceMethod yX3_put, Cond.selects RX3 yX3_put yX3_put, Cond.code yX3_put cX3_put 6 none]
def wsX5_cheer_r4 : List Cond := [Cond.methodLink RX2 97 yX2_buryDying, Cond.instanceMethod yX2_buryDying, Cond.selects RX2 yX2_buryDying yX2_buryDying, Cond.code yX2_buryDying cX2_buryDying 3 (some .int), Cond.methodLink RX2 104 yX3_rows, Cond.instanceMethod yX3_rows, Cond.selects RX3 yX3_rows yX3_rows, Cond.code yX3_rows cX3_rows 1 (some .int), Cond.methodLink RX2 133 yX2_isDying, Cond.instanceMethod yX2_isDying, Cond.selects RX2 yX2_isDying yX2_isDying, Cond.code yX2_isDying cX2_isDying 2 (some .boolean), Cond.methodLink RX2 136 yX2_enter, Cond.instanceMethod yX2_enter, Cond.selects RX2 yX2_enter yX2_enter, Cond.code yX2_enter cX2_enter 3 none, Cond.methodLink RX2 78 yX3_isFull, Cond.instanceMethod yX3_isFull, Cond.selects RX3 yX3_isFull yX3_isFull, Cond.code yX3_isFull cX3_isFull 1 (some .boolean), Cond.methodLink RX2 85 yX3_drop, Cond.instanceMethod yX3_drop, Cond.selects RX3 yX3_drop yX3_drop, Cond.code yX3_drop cX3_drop 5 none]
def wsX5_cheer_r5 : List Cond := [Cond.methodLink RX2 32 yX3_addRow, Cond.instanceMethod yX3_addRow, Cond.selects RX3 yX3_addRow yX3_addRow, Cond.code yX3_addRow cX3_addRow 1 (some .int), Cond.methodLink RX2 57 yX2_settle, Cond.instanceMethod yX2_settle, Cond.selects RX2 yX2_settle yX2_settle, Cond.code yX2_settle cX2_settle 8 none, Cond.methodLink RX2 123 yX2_passedOn, Cond.instanceMethod yX2_passedOn, Cond.selects RX2 yX2_passedOn yX2_passedOn, Cond.code yX2_passedOn cX2_passedOn 4 (some .int)]
def wsX5_cheer : List Cond := .code yX5_cheer cX5_cheer 3 (some .int) :: ((wsX5_cheer_r1 ++ (wsX5_cheer_r2 ++ (wsX5_cheer_r3 ++ (wsX5_cheer_r4 ++ wsX5_cheer_r5)))) ++ wsX50 ++ wsX10 ++ wsX20 ++ wsX30 ++ (vx_atS RX5 146 "java/lang/IndexOutOfBoundsException" ["java/lang/RuntimeException", "java/lang/Exception"]).filter goodWord ++ (vx_atS RX5 155 "java/lang/IllegalArgumentException" ["java/lang/RuntimeException", "java/lang/Exception"]).filter goodWord)
def wsX5_pass_r1 : List Cond := [Cond.classLink RX5 57 "java/lang/IllegalStateException", Cond.initialized "java/lang/IllegalStateException", Cond.fieldLink RX5 10 "LentRights" "house" "LLentRights$House;", Cond.fieldLink RX5 22 "LentRights" "history" "LLentRights$History;", Cond.methodLink RX5 79 yX5_requireRange, Cond.static yX5_requireRange, Cond.initialized RX5, Cond.code yX5_requireRange cX5_requireRange 3 none, Cond.classLink RX5 151 "java/lang/IllegalArgumentException", Cond.initialized "java/lang/IllegalArgumentException", Cond.methodLink RX5 267 yX5_isBetween, Cond.static yX5_isBetween, Cond.code yX5_isBetween cX5_isBetween 3 (some .boolean), Cond.methodLink RX5 114 yX2_hasTimeFor, Cond.instanceMethod yX2_hasTimeFor, Cond.selects RX2 yX2_hasTimeFor yX2_hasTimeFor, Cond.initialized RX2, Cond.code yX2_hasTimeFor cX2_hasTimeFor 2 (some .boolean), Cond.fieldLink RX2 54 "LentRights$House" "time" "I", Cond.constant RX2 100 (100000), Cond.methodLink RX5 64 yX1_keep, Cond.instanceMethod yX1_keep, Cond.selects RX1 yX1_keep yX1_keep, Cond.initialized RX1]
def wsX5_pass_r2 : List Cond := [Cond.code yX1_keep cX1_keep 2 none, Cond.fieldLink RX1 18 "LentRights$History" "count" "I", Cond.fieldLink RX1 11 "LentRights$History" "states" "[LLentRights$House;", Cond.methodLink RX1 22 yX1_makeRoom, Cond.instanceMethod yX1_makeRoom, Cond.selects RX1 yX1_makeRoom yX1_makeRoom, Cond.code yX1_makeRoom cX1_makeRoom 3 none, Cond.methodLink RX1 25 yX2_takeOver, Cond.instanceMethod yX2_takeOver, Cond.selects RX2 yX2_takeOver yX2_takeOver, Cond.code yX2_takeOver cX2_takeOver 2 none, Cond.fieldLink RX2 14 "LentRights$House" "persons" "LLentRights$Table;", Cond.fieldLink RX2 20 "LentRights$House" "things" "LLentRights$Table;", Cond.fieldLink RX2 23 "LentRights$House" "grants" "LLentRights$Table;", Cond.fieldLink RX2 26 "LentRights$House" "log" "LLentRights$Table;", Cond.fieldLink RX2 29 "LentRights$House" "held" "LLentRights$Table;", Cond.fieldLink RX2 44 "LentRights$House" "given" "I", Cond.fieldLink RX2 48 "LentRights$House" "died" "I", Cond.fieldLink RX2 51 "LentRights$House" "revoked" "I", Cond.methodLink RX2 40 yX3_takeOver, Cond.instanceMethod yX3_takeOver, Cond.selects RX3 yX3_takeOver yX3_takeOver, Cond.initialized RX3, Cond.code yX3_takeOver cX3_takeOver 4 none]
def wsX5_pass_r3 : List Cond := [Cond.fieldLink RX3 22 "LentRights$Table" "rows" "I", Cond.fieldLink RX3 9 "LentRights$Table" "limit" "I", Cond.fieldLink RX3 15 "LentRights$Table" "columns" "I", Cond.fieldLink RX3 18 "LentRights$Table" "cells" "[I", Cond.methodLink RX5 120 yX2_letPass, Cond.instanceMethod yX2_letPass, Cond.selects RX2 yX2_letPass yX2_letPass, Cond.code yX2_letPass cX2_letPass 5 (some .int), Cond.methodLink RX2 101 yX2_calm, Cond.instanceMethod yX2_calm, Cond.selects RX2 yX2_calm yX2_calm, Cond.code yX2_calm cX2_calm 4 none, Cond.methodLink RX2 60 yX3_at, Cond.instanceMethod yX3_at, Cond.selects RX3 yX3_at yX3_at, Cond.code yX3_at cX3_at 5 (some .int), Cond.methodLink RX2 36 yX3_put, Cond.instanceMethod yX3_put, Cond.selects RX3 yX3_put yX3_put, Cond.code yX3_put cX3_put 6 none, Cond.methodLink RX2 97 yX2_buryDying, Cond.instanceMethod yX2_buryDying, Cond.selects RX2 yX2_buryDying yX2_buryDying, Cond.code yX2_buryDying cX2_buryDying 3 (some .int)]
def wsX5_pass_r4 : List Cond := [Cond.methodLink RX2 104 yX3_rows, Cond.instanceMethod yX3_rows, Cond.selects RX3 yX3_rows yX3_rows, Cond.code yX3_rows cX3_rows 1 (some .int), Cond.methodLink RX2 133 yX2_isDying, Cond.instanceMethod yX2_isDying, Cond.selects RX2 yX2_isDying yX2_isDying, Cond.code yX2_isDying cX2_isDying 2 (some .boolean), Cond.methodLink RX2 136 yX2_enter, Cond.instanceMethod yX2_enter, Cond.selects RX2 yX2_enter yX2_enter, Cond.code yX2_enter cX2_enter 3 none, Cond.methodLink RX2 78 yX3_isFull, Cond.instanceMethod yX3_isFull, Cond.selects RX3 yX3_isFull yX3_isFull, Cond.code yX3_isFull cX3_isFull 1 (some .boolean), Cond.methodLink RX2 85 yX3_drop, Cond.instanceMethod yX3_drop, Cond.selects RX3 yX3_drop yX3_drop, Cond.code yX3_drop cX3_drop 5 none, Cond.methodLink RX2 32 yX3_addRow, Cond.instanceMethod yX3_addRow, Cond.selects RX3 yX3_addRow yX3_addRow, Cond.code yX3_addRow cX3_addRow 1 (some .int)]
def wsX5_pass_r5 : List Cond := [Cond.methodLink RX2 57 yX2_settle, Cond.instanceMethod yX2_settle, Cond.selects RX2 yX2_settle yX2_settle, Cond.code yX2_settle cX2_settle 8 none, Cond.methodLink RX2 123 yX2_passedOn, Cond.instanceMethod yX2_passedOn, Cond.selects RX2 yX2_passedOn yX2_passedOn, Cond.code yX2_passedOn cX2_passedOn 4 (some .int)]
def wsX5_pass : List Cond := .code yX5_pass cX5_pass 2 (some .int) :: ((wsX5_pass_r1 ++ (wsX5_pass_r2 ++ (wsX5_pass_r3 ++ (wsX5_pass_r4 ++ wsX5_pass_r5)))) ++ wsX50 ++ wsX20 ++ wsX10 ++ wsX30 ++ (vx_atS RX5 61 "java/lang/IllegalStateException" ["java/lang/RuntimeException", "java/lang/Exception"]).filter goodWord ++ (vx_atS RX5 155 "java/lang/IllegalArgumentException" ["java/lang/RuntimeException", "java/lang/Exception"]).filter goodWord)
def wsX5_held_r1 : List Cond := [Cond.fieldLink RX5 10 "LentRights" "house" "LLentRights$House;", Cond.methodLink RX5 40 yX5_requirePerson, Cond.static yX5_requirePerson, Cond.initialized RX5, Cond.code yX5_requirePerson cX5_requirePerson 1 none, Cond.classLink RX5 142 "java/lang/IndexOutOfBoundsException", Cond.initialized "java/lang/IndexOutOfBoundsException", Cond.methodLink RX5 262 yX5_isPerson, Cond.static yX5_isPerson, Cond.code yX5_isPerson cX5_isPerson 1 (some .boolean), Cond.methodLink RX5 267 yX5_isBetween, Cond.static yX5_isBetween, Cond.code yX5_isBetween cX5_isBetween 3 (some .boolean), Cond.methodLink RX5 72 yX5_requireThing, Cond.instanceMethod yX5_requireThing, Cond.selects RX5 yX5_requireThing yX5_requireThing, Cond.code yX5_requireThing cX5_requireThing 2 none, Cond.fieldLink RX5 47 "LentRights$House" "things" "LLentRights$Table;", Cond.methodLink RX5 257 yX3_has, Cond.instanceMethod yX3_has, Cond.selects RX3 yX3_has yX3_has, Cond.initialized RX3, Cond.code yX3_has cX3_has 2 (some .boolean), Cond.fieldLink RX3 22 "LentRights$Table" "rows" "I"]
def wsX5_held_r2 : List Cond := [Cond.methodLink RX5 123 yX2_rightsOf, Cond.instanceMethod yX2_rightsOf, Cond.selects RX2 yX2_rightsOf yX2_rightsOf, Cond.initialized RX2, Cond.code yX2_rightsOf cX2_rightsOf 3 (some .int), Cond.fieldLink RX2 29 "LentRights$House" "held" "LLentRights$Table;", Cond.methodLink RX2 60 yX3_at, Cond.instanceMethod yX3_at, Cond.selects RX3 yX3_at yX3_at, Cond.code yX3_at cX3_at 5 (some .int), Cond.fieldLink RX3 15 "LentRights$Table" "columns" "I", Cond.fieldLink RX3 18 "LentRights$Table" "cells" "[I"]
def wsX5_held : List Cond := .code yX5_held cX5_held 3 (some .int) :: ((wsX5_held_r1 ++ wsX5_held_r2) ++ wsX50 ++ wsX20 ++ wsX30 ++ (vx_atS RX5 146 "java/lang/IndexOutOfBoundsException" ["java/lang/RuntimeException", "java/lang/Exception"]).filter goodWord)
def wsX5_person_r1 : List Cond := [Cond.fieldLink RX5 10 "LentRights" "house" "LLentRights$House;", Cond.methodLink RX5 40 yX5_requirePerson, Cond.static yX5_requirePerson, Cond.initialized RX5, Cond.code yX5_requirePerson cX5_requirePerson 1 none, Cond.classLink RX5 142 "java/lang/IndexOutOfBoundsException", Cond.initialized "java/lang/IndexOutOfBoundsException", Cond.methodLink RX5 262 yX5_isPerson, Cond.static yX5_isPerson, Cond.code yX5_isPerson cX5_isPerson 1 (some .boolean), Cond.methodLink RX5 267 yX5_isBetween, Cond.static yX5_isBetween, Cond.code yX5_isBetween cX5_isBetween 3 (some .boolean), Cond.methodLink RX5 79 yX5_requireRange, Cond.static yX5_requireRange, Cond.code yX5_requireRange cX5_requireRange 3 none, Cond.classLink RX5 151 "java/lang/IllegalArgumentException", Cond.initialized "java/lang/IllegalArgumentException", Cond.methodLink RX5 126 yX2_aboutPerson, Cond.instanceMethod yX2_aboutPerson, Cond.selects RX2 yX2_aboutPerson yX2_aboutPerson, Cond.initialized RX2, Cond.code yX2_aboutPerson cX2_aboutPerson 3 (some .int), Cond.fieldLink RX2 14 "LentRights$House" "persons" "LLentRights$Table;"]
def wsX5_person_r2 : List Cond := [Cond.fieldLink RX2 20 "LentRights$House" "things" "LLentRights$Table;", Cond.fieldLink RX2 23 "LentRights$House" "grants" "LLentRights$Table;", Cond.methodLink RX2 60 yX3_at, Cond.instanceMethod yX3_at, Cond.selects RX3 yX3_at yX3_at, Cond.initialized RX3, Cond.code yX3_at cX3_at 5 (some .int), Cond.fieldLink RX3 22 "LentRights$Table" "rows" "I", Cond.fieldLink RX3 15 "LentRights$Table" "columns" "I", Cond.fieldLink RX3 18 "LentRights$Table" "cells" "[I", Cond.methodLink RX2 116 yX2_countEqual, Cond.static yX2_countEqual, Cond.code yX2_countEqual cX2_countEqual 5 (some .int), Cond.methodLink RX2 104 yX3_rows, Cond.instanceMethod yX3_rows, Cond.selects RX3 yX3_rows yX3_rows, Cond.code yX3_rows cX3_rows 1 (some .int), Cond.methodLink RX2 120 yX2_thingsSeenBy, Cond.instanceMethod yX2_thingsSeenBy, Cond.selects RX2 yX2_thingsSeenBy yX2_thingsSeenBy, Cond.code yX2_thingsSeenBy cX2_thingsSeenBy 4 (some .int), Cond.fieldLink RX2 29 "LentRights$House" "held" "LLentRights$Table;", Cond.methodLink RX2 110 yJ6_bitCount_0f7a4, Cond.static yJ6_bitCount_0f7a4]
def wsX5_person_r3 : List Cond := [Cond.initialized RJ6, Cond.code yJ6_bitCount_0f7a4 cJ6_bitCount_0f7a4 1 (some .int), Cond.constant RJ6 265 (1431655765), Cond.constant RJ6 266 (858993459), Cond.constant RJ6 267 (252645135)]
def wsX5_person : List Cond := .code yX5_person cX5_person 3 (some .int) :: ((wsX5_person_r1 ++ (wsX5_person_r2 ++ wsX5_person_r3)) ++ wsX50 ++ wsX20 ++ wsX30 ++ (vx_atS RX5 146 "java/lang/IndexOutOfBoundsException" ["java/lang/RuntimeException", "java/lang/Exception"]).filter goodWord ++ (vx_atS RX5 155 "java/lang/IllegalArgumentException" ["java/lang/RuntimeException", "java/lang/Exception"]).filter goodWord)
def wsX5_thing_r1 : List Cond := [Cond.fieldLink RX5 10 "LentRights" "house" "LLentRights$House;", Cond.methodLink RX5 72 yX5_requireThing, Cond.instanceMethod yX5_requireThing, Cond.selects RX5 yX5_requireThing yX5_requireThing, Cond.initialized RX5, Cond.code yX5_requireThing cX5_requireThing 2 none, Cond.classLink RX5 142 "java/lang/IndexOutOfBoundsException", Cond.initialized "java/lang/IndexOutOfBoundsException", Cond.fieldLink RX5 47 "LentRights$House" "things" "LLentRights$Table;", Cond.methodLink RX5 257 yX3_has, Cond.instanceMethod yX3_has, Cond.selects RX3 yX3_has yX3_has, Cond.initialized RX3, Cond.code yX3_has cX3_has 2 (some .boolean), Cond.fieldLink RX3 22 "LentRights$Table" "rows" "I", Cond.methodLink RX5 79 yX5_requireRange, Cond.static yX5_requireRange, Cond.code yX5_requireRange cX5_requireRange 3 none, Cond.classLink RX5 151 "java/lang/IllegalArgumentException", Cond.initialized "java/lang/IllegalArgumentException", Cond.methodLink RX5 267 yX5_isBetween, Cond.static yX5_isBetween, Cond.code yX5_isBetween cX5_isBetween 3 (some .boolean), Cond.methodLink RX5 129 yX2_aboutThing]
def wsX5_thing_r2 : List Cond := [Cond.instanceMethod yX2_aboutThing, Cond.selects RX2 yX2_aboutThing yX2_aboutThing, Cond.initialized RX2, Cond.code yX2_aboutThing cX2_aboutThing 3 (some .int), Cond.fieldLink RX2 20 "LentRights$House" "things" "LLentRights$Table;", Cond.fieldLink RX2 23 "LentRights$House" "grants" "LLentRights$Table;", Cond.methodLink RX2 60 yX3_at, Cond.instanceMethod yX3_at, Cond.selects RX3 yX3_at yX3_at, Cond.code yX3_at cX3_at 5 (some .int), Cond.fieldLink RX3 15 "LentRights$Table" "columns" "I", Cond.fieldLink RX3 18 "LentRights$Table" "cells" "[I", Cond.methodLink RX2 116 yX2_countEqual, Cond.static yX2_countEqual, Cond.code yX2_countEqual cX2_countEqual 5 (some .int), Cond.methodLink RX2 104 yX3_rows, Cond.instanceMethod yX3_rows, Cond.selects RX3 yX3_rows yX3_rows, Cond.code yX3_rows cX3_rows 1 (some .int), Cond.methodLink RX2 107 yX2_holdersOf, Cond.instanceMethod yX2_holdersOf, Cond.selects RX2 yX2_holdersOf yX2_holdersOf, Cond.code yX2_holdersOf cX2_holdersOf 5 (some .int), Cond.fieldLink RX2 29 "LentRights$House" "held" "LLentRights$Table;"]
def wsX5_thing : List Cond := .code yX5_thing cX5_thing 3 (some .int) :: ((wsX5_thing_r1 ++ wsX5_thing_r2) ++ wsX50 ++ wsX20 ++ wsX30 ++ (vx_atS RX5 146 "java/lang/IndexOutOfBoundsException" ["java/lang/RuntimeException", "java/lang/Exception"]).filter goodWord ++ (vx_atS RX5 155 "java/lang/IllegalArgumentException" ["java/lang/RuntimeException", "java/lang/Exception"]).filter goodWord)
def wsX5_requireGrant : List Cond := .code yX5_requireGrant cX5_requireGrant 3 (some .int) :: ([.classLink RX5 252 "java/util/NoSuchElementException", .initialized "java/util/NoSuchElementException", .fieldLink RX5 10 "LentRights" "house" "LLentRights$House;", .methodLink RX5 245 yX2_placeOf, .instanceMethod yX2_placeOf, .selects RX2 yX2_placeOf yX2_placeOf, .initialized RX2, .code yX2_placeOf cX2_placeOf 3 (some .int), .fieldLink RX2 23 "LentRights$House" "grants" "LLentRights$Table;", .methodLink RX2 104 yX3_rows, .instanceMethod yX3_rows, .selects RX3 yX3_rows yX3_rows, .initialized RX3, .code yX3_rows cX3_rows 1 (some .int), .fieldLink RX3 22 "LentRights$Table" "rows" "I", .methodLink RX2 60 yX3_at, .instanceMethod yX3_at, .selects RX3 yX3_at yX3_at, .code yX3_at cX3_at 5 (some .int), .fieldLink RX3 15 "LentRights$Table" "columns" "I", .fieldLink RX3 18 "LentRights$Table" "cells" "[I"] ++ wsX50 ++ wsX20 ++ wsX30 ++ (vy_atS RX5 256 "java/util/NoSuchElementException" 13 prog_19_method_4_code "java/lang/RuntimeException" ["java/lang/Exception"]).filter goodWord)
def wsX5_grantOf_r1 : List Cond := [Cond.fieldLink RX5 10 "LentRights" "house" "LLentRights$House;", Cond.methodLink RX5 104 yX5_requireGrant, Cond.instanceMethod yX5_requireGrant, Cond.selects RX5 yX5_requireGrant yX5_requireGrant, Cond.initialized RX5, Cond.code yX5_requireGrant cX5_requireGrant 3 (some .int), Cond.classLink RX5 252 "java/util/NoSuchElementException", Cond.initialized "java/util/NoSuchElementException", Cond.methodLink RX5 245 yX2_placeOf, Cond.instanceMethod yX2_placeOf, Cond.selects RX2 yX2_placeOf yX2_placeOf, Cond.initialized RX2, Cond.code yX2_placeOf cX2_placeOf 3 (some .int), Cond.fieldLink RX2 23 "LentRights$House" "grants" "LLentRights$Table;", Cond.methodLink RX2 104 yX3_rows, Cond.instanceMethod yX3_rows, Cond.selects RX3 yX3_rows yX3_rows, Cond.initialized RX3, Cond.code yX3_rows cX3_rows 1 (some .int), Cond.fieldLink RX3 22 "LentRights$Table" "rows" "I", Cond.methodLink RX2 60 yX3_at, Cond.instanceMethod yX3_at, Cond.selects RX3 yX3_at yX3_at, Cond.code yX3_at cX3_at 5 (some .int)]
def wsX5_grantOf_r2 : List Cond := [Cond.fieldLink RX3 15 "LentRights$Table" "columns" "I", Cond.fieldLink RX3 18 "LentRights$Table" "cells" "[I", Cond.methodLink RX5 79 yX5_requireRange, Cond.static yX5_requireRange, Cond.code yX5_requireRange cX5_requireRange 3 none, Cond.classLink RX5 151 "java/lang/IllegalArgumentException", Cond.initialized "java/lang/IllegalArgumentException", Cond.methodLink RX5 267 yX5_isBetween, Cond.static yX5_isBetween, Cond.code yX5_isBetween cX5_isBetween 3 (some .boolean), Cond.methodLink RX5 132 yX2_aboutGrant, Cond.instanceMethod yX2_aboutGrant, Cond.selects RX2 yX2_aboutGrant yX2_aboutGrant, Cond.code yX2_aboutGrant cX2_aboutGrant 3 (some .int), Cond.methodLink RX2 123 yX2_passedOn, Cond.instanceMethod yX2_passedOn, Cond.selects RX2 yX2_passedOn yX2_passedOn, Cond.code yX2_passedOn cX2_passedOn 4 (some .int), Cond.fieldLink RX2 29 "LentRights$House" "held" "LLentRights$Table;", Cond.fieldLink RX2 20 "LentRights$House" "things" "LLentRights$Table;"]
def wsX5_grantOf : List Cond := .code yX5_grantOf cX5_grantOf 4 (some .int) :: ((wsX5_grantOf_r1 ++ wsX5_grantOf_r2) ++ wsX50 ++ wsX20 ++ wsX30 ++ (vy_atS RX5 256 "java/util/NoSuchElementException" 13 prog_19_method_4_code "java/lang/RuntimeException" ["java/lang/Exception"]).filter goodWord ++ (vx_atS RX5 155 "java/lang/IllegalArgumentException" ["java/lang/RuntimeException", "java/lang/Exception"]).filter goodWord)
def wsX5_chain_r1 : List Cond := [Cond.fieldLink RX5 29 "LentRights" "chains" "LLentRights$Chains;", Cond.fieldLink RX5 10 "LentRights" "house" "LLentRights$House;", Cond.methodLink RX5 40 yX5_requirePerson, Cond.static yX5_requirePerson, Cond.initialized RX5, Cond.code yX5_requirePerson cX5_requirePerson 1 none, Cond.classLink RX5 142 "java/lang/IndexOutOfBoundsException", Cond.initialized "java/lang/IndexOutOfBoundsException", Cond.methodLink RX5 262 yX5_isPerson, Cond.static yX5_isPerson, Cond.code yX5_isPerson cX5_isPerson 1 (some .boolean), Cond.methodLink RX5 267 yX5_isBetween, Cond.static yX5_isBetween, Cond.code yX5_isBetween cX5_isBetween 3 (some .boolean), Cond.methodLink RX5 72 yX5_requireThing, Cond.instanceMethod yX5_requireThing, Cond.selects RX5 yX5_requireThing yX5_requireThing, Cond.code yX5_requireThing cX5_requireThing 2 none, Cond.fieldLink RX5 47 "LentRights$House" "things" "LLentRights$Table;", Cond.methodLink RX5 257 yX3_has, Cond.instanceMethod yX3_has, Cond.selects RX3 yX3_has yX3_has, Cond.initialized RX3, Cond.code yX3_has cX3_has 2 (some .boolean)]
def wsX5_chain_r2 : List Cond := [Cond.fieldLink RX3 22 "LentRights$Table" "rows" "I", Cond.methodLink RX5 135 yX0_measure, Cond.instanceMethod yX0_measure, Cond.selects RX0 yX0_measure yX0_measure, Cond.initialized RX0, Cond.code yX0_measure cX0_measure 7 none, Cond.fieldLink RX0 14 "LentRights$Chains" "steps" "LLentRights$Table;", Cond.fieldLink RX0 28 "LentRights$House" "things" "LLentRights$Table;", Cond.fieldLink RX0 37 "LentRights$House" "grants" "LLentRights$Table;", Cond.methodLink RX0 24 yX3_at, Cond.instanceMethod yX3_at, Cond.selects RX3 yX3_at yX3_at, Cond.code yX3_at cX3_at 5 (some .int), Cond.fieldLink RX3 15 "LentRights$Table" "columns" "I", Cond.fieldLink RX3 18 "LentRights$Table" "cells" "[I", Cond.methodLink RX0 33 yX3_put, Cond.instanceMethod yX3_put, Cond.selects RX3 yX3_put yX3_put, Cond.code yX3_put cX3_put 6 none, Cond.methodLink RX0 40 yX3_rows, Cond.instanceMethod yX3_rows, Cond.selects RX3 yX3_rows yX3_rows, Cond.code yX3_rows cX3_rows 1 (some .int), Cond.methodLink RX0 43 yX0_stepsTo]
def wsX5_chain_r3 : List Cond := [Cond.instanceMethod yX0_stepsTo, Cond.selects RX0 yX0_stepsTo yX0_stepsTo, Cond.code yX0_stepsTo cX0_stepsTo 2 (some .int), Cond.methodLink RX0 47 yX0_isLink, Cond.instanceMethod yX0_isLink, Cond.selects RX0 yX0_isLink yX0_isLink, Cond.code yX0_isLink cX0_isLink 5 (some .boolean), Cond.methodLink RX0 55 yX2_passedOn, Cond.instanceMethod yX2_passedOn, Cond.selects RX2 yX2_passedOn yX2_passedOn, Cond.initialized RX2, Cond.code yX2_passedOn cX2_passedOn 4 (some .int), Cond.fieldLink RX2 23 "LentRights$House" "grants" "LLentRights$Table;", Cond.fieldLink RX2 29 "LentRights$House" "held" "LLentRights$Table;", Cond.fieldLink RX2 20 "LentRights$House" "things" "LLentRights$Table;", Cond.methodLink RX2 60 yX3_at, Cond.methodLink RX5 139 yX0_stepsTo]
def wsX5_chain : List Cond := .code yX5_chain cX5_chain 3 (some .int) :: ((wsX5_chain_r1 ++ (wsX5_chain_r2 ++ wsX5_chain_r3)) ++ wsX50 ++ wsX20 ++ wsX30 ++ wsX00 ++ (vx_atS RX5 146 "java/lang/IndexOutOfBoundsException" ["java/lang/RuntimeException", "java/lang/Exception"]).filter goodWord)
def wsX5_link_r1 : List Cond := [Cond.classLink RX5 142 "java/lang/IndexOutOfBoundsException", Cond.initialized "java/lang/IndexOutOfBoundsException", Cond.fieldLink RX5 29 "LentRights" "chains" "LLentRights$Chains;", Cond.fieldLink RX5 10 "LentRights" "house" "LLentRights$House;", Cond.methodLink RX5 40 yX5_requirePerson, Cond.static yX5_requirePerson, Cond.initialized RX5, Cond.code yX5_requirePerson cX5_requirePerson 1 none, Cond.methodLink RX5 262 yX5_isPerson, Cond.static yX5_isPerson, Cond.code yX5_isPerson cX5_isPerson 1 (some .boolean), Cond.methodLink RX5 267 yX5_isBetween, Cond.static yX5_isBetween, Cond.code yX5_isBetween cX5_isBetween 3 (some .boolean), Cond.methodLink RX5 72 yX5_requireThing, Cond.instanceMethod yX5_requireThing, Cond.selects RX5 yX5_requireThing yX5_requireThing, Cond.code yX5_requireThing cX5_requireThing 2 none, Cond.fieldLink RX5 47 "LentRights$House" "things" "LLentRights$Table;", Cond.methodLink RX5 257 yX3_has, Cond.instanceMethod yX3_has, Cond.selects RX3 yX3_has yX3_has, Cond.initialized RX3, Cond.code yX3_has cX3_has 2 (some .boolean)]
def wsX5_link_r2 : List Cond := [Cond.fieldLink RX3 22 "LentRights$Table" "rows" "I", Cond.methodLink RX5 135 yX0_measure, Cond.instanceMethod yX0_measure, Cond.selects RX0 yX0_measure yX0_measure, Cond.initialized RX0, Cond.code yX0_measure cX0_measure 7 none, Cond.fieldLink RX0 14 "LentRights$Chains" "steps" "LLentRights$Table;", Cond.fieldLink RX0 28 "LentRights$House" "things" "LLentRights$Table;", Cond.fieldLink RX0 37 "LentRights$House" "grants" "LLentRights$Table;", Cond.methodLink RX0 24 yX3_at, Cond.instanceMethod yX3_at, Cond.selects RX3 yX3_at yX3_at, Cond.code yX3_at cX3_at 5 (some .int), Cond.fieldLink RX3 15 "LentRights$Table" "columns" "I", Cond.fieldLink RX3 18 "LentRights$Table" "cells" "[I", Cond.methodLink RX0 33 yX3_put, Cond.instanceMethod yX3_put, Cond.selects RX3 yX3_put yX3_put, Cond.code yX3_put cX3_put 6 none, Cond.methodLink RX0 40 yX3_rows, Cond.instanceMethod yX3_rows, Cond.selects RX3 yX3_rows yX3_rows, Cond.code yX3_rows cX3_rows 1 (some .int), Cond.methodLink RX0 43 yX0_stepsTo]
def wsX5_link_r3 : List Cond := [Cond.instanceMethod yX0_stepsTo, Cond.selects RX0 yX0_stepsTo yX0_stepsTo, Cond.code yX0_stepsTo cX0_stepsTo 2 (some .int), Cond.methodLink RX0 47 yX0_isLink, Cond.instanceMethod yX0_isLink, Cond.selects RX0 yX0_isLink yX0_isLink, Cond.code yX0_isLink cX0_isLink 5 (some .boolean), Cond.methodLink RX0 55 yX2_passedOn, Cond.instanceMethod yX2_passedOn, Cond.selects RX2 yX2_passedOn yX2_passedOn, Cond.initialized RX2, Cond.code yX2_passedOn cX2_passedOn 4 (some .int), Cond.fieldLink RX2 23 "LentRights$House" "grants" "LLentRights$Table;", Cond.fieldLink RX2 29 "LentRights$House" "held" "LLentRights$Table;", Cond.fieldLink RX2 20 "LentRights$House" "things" "LLentRights$Table;", Cond.methodLink RX2 60 yX3_at, Cond.methodLink RX5 139 yX0_stepsTo, Cond.methodLink RX5 147 yX0_numberAt, Cond.instanceMethod yX0_numberAt, Cond.selects RX0 yX0_numberAt yX0_numberAt, Cond.code yX0_numberAt cX0_numberAt 9 (some .int), Cond.methodLink RX0 51 yX0_lastLink, Cond.instanceMethod yX0_lastLink, Cond.selects RX0 yX0_lastLink yX0_lastLink]
def wsX5_link_r4 : List Cond := [Cond.code yX0_lastLink cX0_lastLink 7 (some .int)]
def wsX5_link : List Cond := .code yX5_link cX5_link 4 (some .int) :: ((wsX5_link_r1 ++ (wsX5_link_r2 ++ (wsX5_link_r3 ++ wsX5_link_r4))) ++ wsX50 ++ wsX20 ++ wsX30 ++ wsX00 ++ (vx_atS RX5 146 "java/lang/IndexOutOfBoundsException" ["java/lang/RuntimeException", "java/lang/Exception"]).filter goodWord)
def wsX5_why_r1 : List Cond := [Cond.classLink RX5 151 "java/lang/IllegalArgumentException", Cond.initialized "java/lang/IllegalArgumentException", Cond.fieldLink RX5 10 "LentRights" "house" "LLentRights$House;", Cond.methodLink RX5 40 yX5_requirePerson, Cond.static yX5_requirePerson, Cond.initialized RX5, Cond.code yX5_requirePerson cX5_requirePerson 1 none, Cond.classLink RX5 142 "java/lang/IndexOutOfBoundsException", Cond.initialized "java/lang/IndexOutOfBoundsException", Cond.methodLink RX5 262 yX5_isPerson, Cond.static yX5_isPerson, Cond.code yX5_isPerson cX5_isPerson 1 (some .boolean), Cond.methodLink RX5 267 yX5_isBetween, Cond.static yX5_isBetween, Cond.code yX5_isBetween cX5_isBetween 3 (some .boolean), Cond.methodLink RX5 72 yX5_requireThing, Cond.instanceMethod yX5_requireThing, Cond.selects RX5 yX5_requireThing yX5_requireThing, Cond.code yX5_requireThing cX5_requireThing 2 none, Cond.fieldLink RX5 47 "LentRights$House" "things" "LLentRights$Table;", Cond.methodLink RX5 257 yX3_has, Cond.instanceMethod yX3_has, Cond.selects RX3 yX3_has yX3_has, Cond.initialized RX3]
def wsX5_why_r2 : List Cond := [Cond.code yX3_has cX3_has 2 (some .boolean), Cond.fieldLink RX3 22 "LentRights$Table" "rows" "I", Cond.methodLink RX5 156 yX2_reasonAgainst, Cond.instanceMethod yX2_reasonAgainst, Cond.selects RX2 yX2_reasonAgainst yX2_reasonAgainst, Cond.initialized RX2, Cond.code yX2_reasonAgainst cX2_reasonAgainst 7 (some .int), Cond.fieldLink RX2 20 "LentRights$House" "things" "LLentRights$Table;", Cond.fieldLink RX2 23 "LentRights$House" "grants" "LLentRights$Table;", Cond.methodLink RX2 94 Lib.Math.max.name, Cond.static Lib.Math.max.name, Cond.initialized "java/lang/Math", Cond.code Lib.Math.max.name Lib.Math.max.code 2 (some .int), Cond.methodLink RX2 75 yX2_rightsOf, Cond.instanceMethod yX2_rightsOf, Cond.selects RX2 yX2_rightsOf yX2_rightsOf, Cond.code yX2_rightsOf cX2_rightsOf 3 (some .int), Cond.fieldLink RX2 29 "LentRights$House" "held" "LLentRights$Table;", Cond.methodLink RX2 60 yX3_at, Cond.instanceMethod yX3_at, Cond.selects RX3 yX3_at yX3_at, Cond.code yX3_at cX3_at 5 (some .int), Cond.fieldLink RX3 15 "LentRights$Table" "columns" "I", Cond.fieldLink RX3 18 "LentRights$Table" "cells" "[I"]
def wsX5_why_r3 : List Cond := [Cond.methodLink RX2 104 yX3_rows, Cond.instanceMethod yX3_rows, Cond.selects RX3 yX3_rows yX3_rows, Cond.code yX3_rows cX3_rows 1 (some .int), Cond.methodLink RX2 129 yX2_isGrantOf, Cond.instanceMethod yX2_isGrantOf, Cond.selects RX2 yX2_isGrantOf yX2_isGrantOf, Cond.code yX2_isGrantOf cX2_isGrantOf 5 (some .boolean)]
def wsX5_why : List Cond := .code yX5_why cX5_why 4 (some .int) :: ((wsX5_why_r1 ++ (wsX5_why_r2 ++ wsX5_why_r3)) ++ wsX50 ++ wsX20 ++ wsX30 ++ (vx_atS RX5 155 "java/lang/IllegalArgumentException" ["java/lang/RuntimeException", "java/lang/Exception"]).filter goodWord ++ (vx_atS RX5 146 "java/lang/IndexOutOfBoundsException" ["java/lang/RuntimeException", "java/lang/Exception"]).filter goodWord)
def wsX5_value_r1 : List Cond := [Cond.fieldLink RX5 10 "LentRights" "house" "LLentRights$House;", Cond.methodLink RX5 79 yX5_requireRange, Cond.static yX5_requireRange, Cond.initialized RX5, Cond.code yX5_requireRange cX5_requireRange 3 none, Cond.classLink RX5 151 "java/lang/IllegalArgumentException", Cond.initialized "java/lang/IllegalArgumentException", Cond.methodLink RX5 267 yX5_isBetween, Cond.static yX5_isBetween, Cond.code yX5_isBetween cX5_isBetween 3 (some .boolean), Cond.methodLink RX5 159 yX2_aboutHouse, Cond.instanceMethod yX2_aboutHouse, Cond.selects RX2 yX2_aboutHouse yX2_aboutHouse, Cond.initialized RX2, Cond.code yX2_aboutHouse cX2_aboutHouse 2 (some .int), Cond.fieldLink RX2 20 "LentRights$House" "things" "LLentRights$Table;", Cond.fieldLink RX2 23 "LentRights$House" "grants" "LLentRights$Table;", Cond.fieldLink RX2 44 "LentRights$House" "given" "I", Cond.fieldLink RX2 48 "LentRights$House" "died" "I", Cond.fieldLink RX2 51 "LentRights$House" "revoked" "I", Cond.fieldLink RX2 54 "LentRights$House" "time" "I", Cond.fieldLink RX2 26 "LentRights$House" "log" "LLentRights$Table;", Cond.methodLink RX2 104 yX3_rows, Cond.instanceMethod yX3_rows]
def wsX5_value_r2 : List Cond := [Cond.selects RX3 yX3_rows yX3_rows, Cond.initialized RX3, Cond.code yX3_rows cX3_rows 1 (some .int), Cond.fieldLink RX3 22 "LentRights$Table" "rows" "I", Cond.methodLink RX2 82 yX2_countPairs, Cond.instanceMethod yX2_countPairs, Cond.selects RX2 yX2_countPairs yX2_countPairs, Cond.code yX2_countPairs cX2_countPairs 3 (some .int), Cond.methodLink RX2 107 yX2_holdersOf, Cond.instanceMethod yX2_holdersOf, Cond.selects RX2 yX2_holdersOf yX2_holdersOf, Cond.code yX2_holdersOf cX2_holdersOf 5 (some .int), Cond.fieldLink RX2 29 "LentRights$House" "held" "LLentRights$Table;", Cond.methodLink RX2 60 yX3_at, Cond.instanceMethod yX3_at, Cond.selects RX3 yX3_at yX3_at, Cond.code yX3_at cX3_at 5 (some .int), Cond.fieldLink RX3 15 "LentRights$Table" "columns" "I", Cond.fieldLink RX3 18 "LentRights$Table" "cells" "[I", Cond.methodLink RX2 110 yJ6_bitCount_0f7a4, Cond.static yJ6_bitCount_0f7a4, Cond.initialized RJ6, Cond.code yJ6_bitCount_0f7a4 cJ6_bitCount_0f7a4 1 (some .int), Cond.constant RJ6 265 (1431655765)]
def wsX5_value_r3 : List Cond := [Cond.constant RJ6 266 (858993459), Cond.constant RJ6 267 (252645135), Cond.methodLink RX2 126 yX2_countIdleGrants, Cond.instanceMethod yX2_countIdleGrants, Cond.selects RX2 yX2_countIdleGrants yX2_countIdleGrants, Cond.code yX2_countIdleGrants cX2_countIdleGrants 3 (some .int), Cond.methodLink RX2 123 yX2_passedOn, Cond.instanceMethod yX2_passedOn, Cond.selects RX2 yX2_passedOn yX2_passedOn, Cond.code yX2_passedOn cX2_passedOn 4 (some .int)]
def wsX5_value : List Cond := .code yX5_value cX5_value 2 (some .int) :: ((wsX5_value_r1 ++ (wsX5_value_r2 ++ wsX5_value_r3)) ++ wsX50 ++ wsX20 ++ wsX30 ++ (vx_atS RX5 155 "java/lang/IllegalArgumentException" ["java/lang/RuntimeException", "java/lang/Exception"]).filter goodWord)
def wsX5_pairsLostBy_r1 : List Cond := [Cond.fieldLink RX5 16 "LentRights" "trial" "LLentRights$House;", Cond.fieldLink RX5 10 "LentRights" "house" "LLentRights$House;", Cond.methodLink RX5 177 yX2_takeOver, Cond.instanceMethod yX2_takeOver, Cond.selects RX2 yX2_takeOver yX2_takeOver, Cond.initialized RX2, Cond.code yX2_takeOver cX2_takeOver 2 none, Cond.fieldLink RX2 14 "LentRights$House" "persons" "LLentRights$Table;", Cond.fieldLink RX2 20 "LentRights$House" "things" "LLentRights$Table;", Cond.fieldLink RX2 23 "LentRights$House" "grants" "LLentRights$Table;", Cond.fieldLink RX2 26 "LentRights$House" "log" "LLentRights$Table;", Cond.fieldLink RX2 29 "LentRights$House" "held" "LLentRights$Table;", Cond.fieldLink RX2 44 "LentRights$House" "given" "I", Cond.fieldLink RX2 48 "LentRights$House" "died" "I", Cond.fieldLink RX2 51 "LentRights$House" "revoked" "I", Cond.fieldLink RX2 54 "LentRights$House" "time" "I", Cond.methodLink RX2 40 yX3_takeOver, Cond.instanceMethod yX3_takeOver, Cond.selects RX3 yX3_takeOver yX3_takeOver, Cond.initialized RX3, Cond.code yX3_takeOver cX3_takeOver 4 none, Cond.fieldLink RX3 22 "LentRights$Table" "rows" "I", Cond.fieldLink RX3 9 "LentRights$Table" "limit" "I", Cond.fieldLink RX3 15 "LentRights$Table" "columns" "I"]
def wsX5_pairsLostBy_r2 : List Cond := [Cond.fieldLink RX3 18 "LentRights$Table" "cells" "[I", Cond.methodLink RX5 111 yX2_changeMood, Cond.instanceMethod yX2_changeMood, Cond.selects RX2 yX2_changeMood yX2_changeMood, Cond.code yX2_changeMood cX2_changeMood 5 (some .int), Cond.methodLink RX2 89 Lib.Math.min.name, Cond.static Lib.Math.min.name, Cond.initialized "java/lang/Math", Cond.code Lib.Math.min.name Lib.Math.min.code 2 (some .int), Cond.methodLink RX2 94 Lib.Math.max.name, Cond.static Lib.Math.max.name, Cond.code Lib.Math.max.name Lib.Math.max.code 2 (some .int), Cond.methodLink RX2 60 yX3_at, Cond.instanceMethod yX3_at, Cond.selects RX3 yX3_at yX3_at, Cond.code yX3_at cX3_at 5 (some .int), Cond.methodLink RX2 36 yX3_put, Cond.instanceMethod yX3_put, Cond.selects RX3 yX3_put yX3_put, Cond.code yX3_put cX3_put 6 none, Cond.methodLink RX2 97 yX2_buryDying, Cond.instanceMethod yX2_buryDying, Cond.selects RX2 yX2_buryDying yX2_buryDying, Cond.code yX2_buryDying cX2_buryDying 3 (some .int)]
def wsX5_pairsLostBy_r3 : List Cond := [Cond.methodLink RX2 104 yX3_rows, Cond.instanceMethod yX3_rows, Cond.selects RX3 yX3_rows yX3_rows, Cond.code yX3_rows cX3_rows 1 (some .int), Cond.methodLink RX2 133 yX2_isDying, Cond.instanceMethod yX2_isDying, Cond.selects RX2 yX2_isDying yX2_isDying, Cond.code yX2_isDying cX2_isDying 2 (some .boolean), Cond.methodLink RX2 136 yX2_enter, Cond.instanceMethod yX2_enter, Cond.selects RX2 yX2_enter yX2_enter, Cond.code yX2_enter cX2_enter 3 none, Cond.methodLink RX2 78 yX3_isFull, Cond.instanceMethod yX3_isFull, Cond.selects RX3 yX3_isFull yX3_isFull, Cond.code yX3_isFull cX3_isFull 1 (some .boolean), Cond.methodLink RX2 85 yX3_drop, Cond.instanceMethod yX3_drop, Cond.selects RX3 yX3_drop yX3_drop, Cond.code yX3_drop cX3_drop 5 none, Cond.methodLink RX2 32 yX3_addRow, Cond.instanceMethod yX3_addRow, Cond.selects RX3 yX3_addRow yX3_addRow, Cond.code yX3_addRow cX3_addRow 1 (some .int)]
def wsX5_pairsLostBy_r4 : List Cond := [Cond.methodLink RX2 57 yX2_settle, Cond.instanceMethod yX2_settle, Cond.selects RX2 yX2_settle yX2_settle, Cond.code yX2_settle cX2_settle 8 none, Cond.methodLink RX2 123 yX2_passedOn, Cond.instanceMethod yX2_passedOn, Cond.selects RX2 yX2_passedOn yX2_passedOn, Cond.code yX2_passedOn cX2_passedOn 4 (some .int), Cond.methodLink RX5 180 yX2_countPairs, Cond.instanceMethod yX2_countPairs, Cond.selects RX2 yX2_countPairs yX2_countPairs, Cond.code yX2_countPairs cX2_countPairs 3 (some .int), Cond.methodLink RX2 107 yX2_holdersOf, Cond.instanceMethod yX2_holdersOf, Cond.selects RX2 yX2_holdersOf yX2_holdersOf, Cond.code yX2_holdersOf cX2_holdersOf 5 (some .int), Cond.methodLink RX2 110 yJ6_bitCount_0f7a4, Cond.static yJ6_bitCount_0f7a4, Cond.initialized RJ6, Cond.code yJ6_bitCount_0f7a4 cJ6_bitCount_0f7a4 1 (some .int), Cond.constant RJ6 265 (1431655765), Cond.constant RJ6 266 (858993459), Cond.constant RJ6 267 (252645135)]
def wsX5_pairsLostBy : List Cond := .code yX5_pairsLostBy cX5_pairsLostBy 2 (some .int) :: ((wsX5_pairsLostBy_r1 ++ (wsX5_pairsLostBy_r2 ++ (wsX5_pairsLostBy_r3 ++ wsX5_pairsLostBy_r4))) ++ wsX50 ++ wsX20 ++ wsX30)
def wsX5_lostBy_r1 : List Cond := [Cond.methodLink RX5 40 yX5_requirePerson, Cond.static yX5_requirePerson, Cond.initialized RX5, Cond.code yX5_requirePerson cX5_requirePerson 1 none, Cond.classLink RX5 142 "java/lang/IndexOutOfBoundsException", Cond.initialized "java/lang/IndexOutOfBoundsException", Cond.methodLink RX5 262 yX5_isPerson, Cond.static yX5_isPerson, Cond.code yX5_isPerson cX5_isPerson 1 (some .boolean), Cond.methodLink RX5 267 yX5_isBetween, Cond.static yX5_isBetween, Cond.code yX5_isBetween cX5_isBetween 3 (some .boolean), Cond.methodLink RX5 174 yX5_pairsLostBy, Cond.instanceMethod yX5_pairsLostBy, Cond.selects RX5 yX5_pairsLostBy yX5_pairsLostBy, Cond.code yX5_pairsLostBy cX5_pairsLostBy 2 (some .int), Cond.fieldLink RX5 16 "LentRights" "trial" "LLentRights$House;", Cond.fieldLink RX5 10 "LentRights" "house" "LLentRights$House;", Cond.methodLink RX5 177 yX2_takeOver, Cond.instanceMethod yX2_takeOver, Cond.selects RX2 yX2_takeOver yX2_takeOver, Cond.initialized RX2, Cond.code yX2_takeOver cX2_takeOver 2 none, Cond.fieldLink RX2 14 "LentRights$House" "persons" "LLentRights$Table;"]
def wsX5_lostBy_r2 : List Cond := [Cond.fieldLink RX2 20 "LentRights$House" "things" "LLentRights$Table;", Cond.fieldLink RX2 23 "LentRights$House" "grants" "LLentRights$Table;", Cond.fieldLink RX2 26 "LentRights$House" "log" "LLentRights$Table;", Cond.fieldLink RX2 29 "LentRights$House" "held" "LLentRights$Table;", Cond.fieldLink RX2 44 "LentRights$House" "given" "I", Cond.fieldLink RX2 48 "LentRights$House" "died" "I", Cond.fieldLink RX2 51 "LentRights$House" "revoked" "I", Cond.fieldLink RX2 54 "LentRights$House" "time" "I", Cond.methodLink RX2 40 yX3_takeOver, Cond.instanceMethod yX3_takeOver, Cond.selects RX3 yX3_takeOver yX3_takeOver, Cond.initialized RX3, Cond.code yX3_takeOver cX3_takeOver 4 none, Cond.fieldLink RX3 22 "LentRights$Table" "rows" "I", Cond.fieldLink RX3 9 "LentRights$Table" "limit" "I", Cond.fieldLink RX3 15 "LentRights$Table" "columns" "I", Cond.fieldLink RX3 18 "LentRights$Table" "cells" "[I", Cond.methodLink RX5 111 yX2_changeMood, Cond.instanceMethod yX2_changeMood, Cond.selects RX2 yX2_changeMood yX2_changeMood, Cond.code yX2_changeMood cX2_changeMood 5 (some .int), Cond.methodLink RX2 89 Lib.Math.min.name, Cond.static Lib.Math.min.name, Cond.initialized "java/lang/Math"]
def wsX5_lostBy_r3 : List Cond := [Cond.code Lib.Math.min.name Lib.Math.min.code 2 (some .int), Cond.methodLink RX2 94 Lib.Math.max.name, Cond.static Lib.Math.max.name, Cond.code Lib.Math.max.name Lib.Math.max.code 2 (some .int), Cond.methodLink RX2 60 yX3_at, Cond.instanceMethod yX3_at, Cond.selects RX3 yX3_at yX3_at, Cond.code yX3_at cX3_at 5 (some .int), Cond.methodLink RX2 36 yX3_put, Cond.instanceMethod yX3_put, Cond.selects RX3 yX3_put yX3_put, Cond.code yX3_put cX3_put 6 none, Cond.methodLink RX2 97 yX2_buryDying, Cond.instanceMethod yX2_buryDying, Cond.selects RX2 yX2_buryDying yX2_buryDying, Cond.code yX2_buryDying cX2_buryDying 3 (some .int), Cond.methodLink RX2 104 yX3_rows, Cond.instanceMethod yX3_rows, Cond.selects RX3 yX3_rows yX3_rows, Cond.code yX3_rows cX3_rows 1 (some .int), Cond.methodLink RX2 133 yX2_isDying, Cond.instanceMethod yX2_isDying, Cond.selects RX2 yX2_isDying yX2_isDying, Cond.code yX2_isDying cX2_isDying 2 (some .boolean)]
def wsX5_lostBy_r4 : List Cond := [Cond.methodLink RX2 136 yX2_enter, Cond.instanceMethod yX2_enter, Cond.selects RX2 yX2_enter yX2_enter, Cond.code yX2_enter cX2_enter 3 none, Cond.methodLink RX2 78 yX3_isFull, Cond.instanceMethod yX3_isFull, Cond.selects RX3 yX3_isFull yX3_isFull, Cond.code yX3_isFull cX3_isFull 1 (some .boolean), Cond.methodLink RX2 85 yX3_drop, Cond.instanceMethod yX3_drop, Cond.selects RX3 yX3_drop yX3_drop, Cond.code yX3_drop cX3_drop 5 none, Cond.methodLink RX2 32 yX3_addRow, Cond.instanceMethod yX3_addRow, Cond.selects RX3 yX3_addRow yX3_addRow, Cond.code yX3_addRow cX3_addRow 1 (some .int), Cond.methodLink RX2 57 yX2_settle, Cond.instanceMethod yX2_settle, Cond.selects RX2 yX2_settle yX2_settle, Cond.code yX2_settle cX2_settle 8 none, Cond.methodLink RX2 123 yX2_passedOn, Cond.instanceMethod yX2_passedOn, Cond.selects RX2 yX2_passedOn yX2_passedOn, Cond.code yX2_passedOn cX2_passedOn 4 (some .int)]
def wsX5_lostBy_r5 : List Cond := [Cond.methodLink RX5 180 yX2_countPairs, Cond.instanceMethod yX2_countPairs, Cond.selects RX2 yX2_countPairs yX2_countPairs, Cond.code yX2_countPairs cX2_countPairs 3 (some .int), Cond.methodLink RX2 107 yX2_holdersOf, Cond.instanceMethod yX2_holdersOf, Cond.selects RX2 yX2_holdersOf yX2_holdersOf, Cond.code yX2_holdersOf cX2_holdersOf 5 (some .int), Cond.methodLink RX2 110 yJ6_bitCount_0f7a4, Cond.static yJ6_bitCount_0f7a4, Cond.initialized RJ6, Cond.code yJ6_bitCount_0f7a4 cJ6_bitCount_0f7a4 1 (some .int), Cond.constant RJ6 265 (1431655765), Cond.constant RJ6 266 (858993459), Cond.constant RJ6 267 (252645135)]
def wsX5_lostBy : List Cond := .code yX5_lostBy cX5_lostBy 2 (some .int) :: ((wsX5_lostBy_r1 ++ (wsX5_lostBy_r2 ++ (wsX5_lostBy_r3 ++ (wsX5_lostBy_r4 ++ wsX5_lostBy_r5)))) ++ wsX50 ++ wsX20 ++ wsX30 ++ (vx_atS RX5 146 "java/lang/IndexOutOfBoundsException" ["java/lang/RuntimeException", "java/lang/Exception"]).filter goodWord)
def wsX5_seenIn_r1 : List Cond := [Cond.fieldLink RX5 16 "LentRights" "trial" "LLentRights$House;", Cond.fieldLink RX5 10 "LentRights" "house" "LLentRights$House;", Cond.methodLink RX5 79 yX5_requireRange, Cond.static yX5_requireRange, Cond.initialized RX5, Cond.code yX5_requireRange cX5_requireRange 3 none, Cond.classLink RX5 151 "java/lang/IllegalArgumentException", Cond.initialized "java/lang/IllegalArgumentException", Cond.methodLink RX5 267 yX5_isBetween, Cond.static yX5_isBetween, Cond.code yX5_isBetween cX5_isBetween 3 (some .boolean), Cond.methodLink RX5 177 yX2_takeOver, Cond.instanceMethod yX2_takeOver, Cond.selects RX2 yX2_takeOver yX2_takeOver, Cond.initialized RX2, Cond.code yX2_takeOver cX2_takeOver 2 none, Cond.fieldLink RX2 14 "LentRights$House" "persons" "LLentRights$Table;", Cond.fieldLink RX2 20 "LentRights$House" "things" "LLentRights$Table;", Cond.fieldLink RX2 23 "LentRights$House" "grants" "LLentRights$Table;", Cond.fieldLink RX2 26 "LentRights$House" "log" "LLentRights$Table;", Cond.fieldLink RX2 29 "LentRights$House" "held" "LLentRights$Table;", Cond.fieldLink RX2 44 "LentRights$House" "given" "I", Cond.fieldLink RX2 48 "LentRights$House" "died" "I", Cond.fieldLink RX2 51 "LentRights$House" "revoked" "I"]
def wsX5_seenIn_r2 : List Cond := [Cond.fieldLink RX2 54 "LentRights$House" "time" "I", Cond.methodLink RX2 40 yX3_takeOver, Cond.instanceMethod yX3_takeOver, Cond.selects RX3 yX3_takeOver yX3_takeOver, Cond.initialized RX3, Cond.code yX3_takeOver cX3_takeOver 4 none, Cond.fieldLink RX3 22 "LentRights$Table" "rows" "I", Cond.fieldLink RX3 9 "LentRights$Table" "limit" "I", Cond.fieldLink RX3 15 "LentRights$Table" "columns" "I", Cond.fieldLink RX3 18 "LentRights$Table" "cells" "[I", Cond.methodLink RX5 120 yX2_letPass, Cond.instanceMethod yX2_letPass, Cond.selects RX2 yX2_letPass yX2_letPass, Cond.code yX2_letPass cX2_letPass 5 (some .int), Cond.methodLink RX2 101 yX2_calm, Cond.instanceMethod yX2_calm, Cond.selects RX2 yX2_calm yX2_calm, Cond.code yX2_calm cX2_calm 4 none, Cond.methodLink RX2 60 yX3_at, Cond.instanceMethod yX3_at, Cond.selects RX3 yX3_at yX3_at, Cond.code yX3_at cX3_at 5 (some .int), Cond.methodLink RX2 36 yX3_put, Cond.instanceMethod yX3_put]
def wsX5_seenIn_r3 : List Cond := [Cond.selects RX3 yX3_put yX3_put, Cond.code yX3_put cX3_put 6 none, Cond.methodLink RX2 97 yX2_buryDying, Cond.instanceMethod yX2_buryDying, Cond.selects RX2 yX2_buryDying yX2_buryDying, Cond.code yX2_buryDying cX2_buryDying 3 (some .int), Cond.methodLink RX2 104 yX3_rows, Cond.instanceMethod yX3_rows, Cond.selects RX3 yX3_rows yX3_rows, Cond.code yX3_rows cX3_rows 1 (some .int), Cond.methodLink RX2 133 yX2_isDying, Cond.instanceMethod yX2_isDying, Cond.selects RX2 yX2_isDying yX2_isDying, Cond.code yX2_isDying cX2_isDying 2 (some .boolean), Cond.methodLink RX2 136 yX2_enter, Cond.instanceMethod yX2_enter, Cond.selects RX2 yX2_enter yX2_enter, Cond.code yX2_enter cX2_enter 3 none, Cond.methodLink RX2 78 yX3_isFull, Cond.instanceMethod yX3_isFull, Cond.selects RX3 yX3_isFull yX3_isFull, Cond.code yX3_isFull cX3_isFull 1 (some .boolean), Cond.methodLink RX2 85 yX3_drop, Cond.instanceMethod yX3_drop]
def wsX5_seenIn_r4 : List Cond := [Cond.selects RX3 yX3_drop yX3_drop, Cond.code yX3_drop cX3_drop 5 none, Cond.methodLink RX2 32 yX3_addRow, Cond.instanceMethod yX3_addRow, Cond.selects RX3 yX3_addRow yX3_addRow, Cond.code yX3_addRow cX3_addRow 1 (some .int), Cond.methodLink RX2 57 yX2_settle, Cond.instanceMethod yX2_settle, Cond.selects RX2 yX2_settle yX2_settle, Cond.code yX2_settle cX2_settle 8 none, Cond.methodLink RX2 123 yX2_passedOn, Cond.instanceMethod yX2_passedOn, Cond.selects RX2 yX2_passedOn yX2_passedOn, Cond.code yX2_passedOn cX2_passedOn 4 (some .int), Cond.methodLink RX5 180 yX2_countPairs, Cond.instanceMethod yX2_countPairs, Cond.selects RX2 yX2_countPairs yX2_countPairs, Cond.code yX2_countPairs cX2_countPairs 3 (some .int), Cond.methodLink RX2 107 yX2_holdersOf, Cond.instanceMethod yX2_holdersOf, Cond.selects RX2 yX2_holdersOf yX2_holdersOf, Cond.code yX2_holdersOf cX2_holdersOf 5 (some .int), Cond.methodLink RX2 110 yJ6_bitCount_0f7a4, Cond.static yJ6_bitCount_0f7a4]
def wsX5_seenIn_r5 : List Cond := [Cond.initialized RJ6, Cond.code yJ6_bitCount_0f7a4 cJ6_bitCount_0f7a4 1 (some .int), Cond.constant RJ6 265 (1431655765), Cond.constant RJ6 266 (858993459), Cond.constant RJ6 267 (252645135)]
def wsX5_seenIn : List Cond := .code yX5_seenIn cX5_seenIn 2 (some .int) :: ((wsX5_seenIn_r1 ++ (wsX5_seenIn_r2 ++ (wsX5_seenIn_r3 ++ (wsX5_seenIn_r4 ++ wsX5_seenIn_r5)))) ++ wsX50 ++ wsX20 ++ wsX30 ++ (vx_atS RX5 155 "java/lang/IllegalArgumentException" ["java/lang/RuntimeException", "java/lang/Exception"]).filter goodWord)
def wsX5_gainBy_r1 : List Cond := [Cond.fieldLink RX5 10 "LentRights" "house" "LLentRights$House;", Cond.fieldLink RX5 16 "LentRights" "trial" "LLentRights$House;", Cond.methodLink RX5 92 yX2_faultOfGrant, Cond.instanceMethod yX2_faultOfGrant, Cond.selects RX2 yX2_faultOfGrant yX2_faultOfGrant, Cond.initialized RX2, Cond.code yX2_faultOfGrant cX2_faultOfGrant 10 (some .int), Cond.fieldLink RX2 20 "LentRights$House" "things" "LLentRights$Table;", Cond.fieldLink RX2 14 "LentRights$House" "persons" "LLentRights$Table;", Cond.fieldLink RX2 23 "LentRights$House" "grants" "LLentRights$Table;", Cond.static yX5_isPerson, Cond.initialized RX5, Cond.code yX5_isPerson cX5_isPerson 1 (some .boolean), Cond.methodLink RX5 267 yX5_isBetween, Cond.static yX5_isBetween, Cond.code yX5_isBetween cX5_isBetween 3 (some .boolean), Cond.methodLink RX2 68 yX3_has, Cond.instanceMethod yX3_has, Cond.selects RX3 yX3_has yX3_has, Cond.initialized RX3, Cond.code yX3_has cX3_has 2 (some .boolean), Cond.fieldLink RX3 22 "LentRights$Table" "rows" "I", Cond.methodLink RX2 75 yX2_rightsOf, Cond.instanceMethod yX2_rightsOf]
def wsX5_gainBy_r2 : List Cond := [Cond.selects RX2 yX2_rightsOf yX2_rightsOf, Cond.code yX2_rightsOf cX2_rightsOf 3 (some .int), Cond.fieldLink RX2 29 "LentRights$House" "held" "LLentRights$Table;", Cond.methodLink RX2 60 yX3_at, Cond.instanceMethod yX3_at, Cond.selects RX3 yX3_at yX3_at, Cond.code yX3_at cX3_at 5 (some .int), Cond.fieldLink RX3 15 "LentRights$Table" "columns" "I", Cond.fieldLink RX3 18 "LentRights$Table" "cells" "[I", Cond.methodLink RX2 78 yX3_isFull, Cond.instanceMethod yX3_isFull, Cond.selects RX3 yX3_isFull yX3_isFull, Cond.code yX3_isFull cX3_isFull 1 (some .boolean), Cond.fieldLink RX3 9 "LentRights$Table" "limit" "I", Cond.methodLink RX5 96 yX5_requireFit, Cond.static yX5_requireFit, Cond.code yX5_requireFit cX5_requireFit 1 none, Cond.classLink RX5 142 "java/lang/IndexOutOfBoundsException", Cond.initialized "java/lang/IndexOutOfBoundsException", Cond.classLink RX5 151 "java/lang/IllegalArgumentException", Cond.initialized "java/lang/IllegalArgumentException", Cond.methodLink RX5 177 yX2_takeOver, Cond.instanceMethod yX2_takeOver, Cond.selects RX2 yX2_takeOver yX2_takeOver]
def wsX5_gainBy_r3 : List Cond := [Cond.code yX2_takeOver cX2_takeOver 2 none, Cond.fieldLink RX2 26 "LentRights$House" "log" "LLentRights$Table;", Cond.fieldLink RX2 44 "LentRights$House" "given" "I", Cond.fieldLink RX2 48 "LentRights$House" "died" "I", Cond.fieldLink RX2 51 "LentRights$House" "revoked" "I", Cond.fieldLink RX2 54 "LentRights$House" "time" "I", Cond.methodLink RX2 40 yX3_takeOver, Cond.instanceMethod yX3_takeOver, Cond.selects RX3 yX3_takeOver yX3_takeOver, Cond.code yX3_takeOver cX3_takeOver 4 none, Cond.methodLink RX5 101 yX2_lend, Cond.instanceMethod yX2_lend, Cond.selects RX2 yX2_lend yX2_lend, Cond.code yX2_lend cX2_lend 8 (some .int), Cond.methodLink RX2 32 yX3_addRow, Cond.instanceMethod yX3_addRow, Cond.selects RX3 yX3_addRow yX3_addRow, Cond.code yX3_addRow cX3_addRow 1 (some .int), Cond.methodLink RX2 36 yX3_put, Cond.instanceMethod yX3_put, Cond.selects RX3 yX3_put yX3_put, Cond.code yX3_put cX3_put 6 none, Cond.methodLink RX2 57 yX2_settle, Cond.instanceMethod yX2_settle]
def wsX5_gainBy_r4 : List Cond := [Cond.selects RX2 yX2_settle yX2_settle, Cond.code yX2_settle cX2_settle 8 none, Cond.methodLink RX2 104 yX3_rows, Cond.instanceMethod yX3_rows, Cond.selects RX3 yX3_rows yX3_rows, Cond.code yX3_rows cX3_rows 1 (some .int), Cond.methodLink RX2 123 yX2_passedOn, Cond.instanceMethod yX2_passedOn, Cond.selects RX2 yX2_passedOn yX2_passedOn, Cond.code yX2_passedOn cX2_passedOn 4 (some .int), Cond.methodLink RX5 180 yX2_countPairs, Cond.instanceMethod yX2_countPairs, Cond.selects RX2 yX2_countPairs yX2_countPairs, Cond.code yX2_countPairs cX2_countPairs 3 (some .int), Cond.methodLink RX2 107 yX2_holdersOf, Cond.instanceMethod yX2_holdersOf, Cond.selects RX2 yX2_holdersOf yX2_holdersOf, Cond.code yX2_holdersOf cX2_holdersOf 5 (some .int), Cond.methodLink RX2 110 yJ6_bitCount_0f7a4, Cond.static yJ6_bitCount_0f7a4, Cond.initialized RJ6, Cond.code yJ6_bitCount_0f7a4 cJ6_bitCount_0f7a4 1 (some .int), Cond.constant RJ6 265 (1431655765), Cond.constant RJ6 266 (858993459)]
def wsX5_gainBy_r5 : List Cond := [Cond.constant RJ6 267 (252645135)]
def wsX5_gainBy : List Cond := .code yX5_gainBy cX5_gainBy 7 (some .int) :: ((wsX5_gainBy_r1 ++ (wsX5_gainBy_r2 ++ (wsX5_gainBy_r3 ++ (wsX5_gainBy_r4 ++ wsX5_gainBy_r5)))) ++ wsX50 ++ wsX20 ++ wsX30 ++ (vx_atS RX5 146 "java/lang/IndexOutOfBoundsException" ["java/lang/RuntimeException", "java/lang/Exception"]).filter goodWord ++ (vx_atS RX5 155 "java/lang/IllegalArgumentException" ["java/lang/RuntimeException", "java/lang/Exception"]).filter goodWord)
def wsX5_patience_r1 : List Cond := [Cond.fieldLink RX5 10 "LentRights" "house" "LLentRights$House;", Cond.fieldLink RX5 83 "LentRights$House" "persons" "LLentRights$Table;", Cond.methodLink RX5 40 yX5_requirePerson, Cond.static yX5_requirePerson, Cond.initialized RX5, Cond.code yX5_requirePerson cX5_requirePerson 1 none, Cond.classLink RX5 142 "java/lang/IndexOutOfBoundsException", Cond.initialized "java/lang/IndexOutOfBoundsException", Cond.methodLink RX5 262 yX5_isPerson, Cond.static yX5_isPerson, Cond.code yX5_isPerson cX5_isPerson 1 (some .boolean), Cond.methodLink RX5 267 yX5_isBetween, Cond.static yX5_isBetween, Cond.code yX5_isBetween cX5_isBetween 3 (some .boolean), Cond.methodLink RX5 86 yX3_at, Cond.instanceMethod yX3_at, Cond.selects RX3 yX3_at yX3_at, Cond.initialized RX3, Cond.code yX3_at cX3_at 5 (some .int), Cond.fieldLink RX3 22 "LentRights$Table" "rows" "I", Cond.fieldLink RX3 15 "LentRights$Table" "columns" "I", Cond.fieldLink RX3 18 "LentRights$Table" "cells" "[I", Cond.methodLink RX5 183 yX2_greatestThreshold, Cond.instanceMethod yX2_greatestThreshold]
def wsX5_patience_r2 : List Cond := [Cond.selects RX2 yX2_greatestThreshold yX2_greatestThreshold, Cond.initialized RX2, Cond.code yX2_greatestThreshold cX2_greatestThreshold 4 (some .int), Cond.fieldLink RX2 23 "LentRights$House" "grants" "LLentRights$Table;", Cond.methodLink RX2 94 Lib.Math.max.name, Cond.static Lib.Math.max.name, Cond.initialized "java/lang/Math", Cond.code Lib.Math.max.name Lib.Math.max.code 2 (some .int), Cond.methodLink RX2 104 yX3_rows, Cond.instanceMethod yX3_rows, Cond.selects RX3 yX3_rows yX3_rows, Cond.code yX3_rows cX3_rows 1 (some .int), Cond.methodLink RX2 60 yX3_at]
def wsX5_patience : List Cond := .code yX5_patience cX5_patience 2 (some .int) :: ((wsX5_patience_r1 ++ wsX5_patience_r2) ++ wsX50 ++ wsX20 ++ wsX30 ++ (vx_atS RX5 146 "java/lang/IndexOutOfBoundsException" ["java/lang/RuntimeException", "java/lang/Exception"]).filter goodWord)
def wsX5_meanChain_r1 : List Cond := [Cond.fieldLink RX5 10 "LentRights" "house" "LLentRights$House;", Cond.fieldLink RX5 47 "LentRights$House" "things" "LLentRights$Table;", Cond.fieldLink RX5 29 "LentRights" "chains" "LLentRights$Chains;", Cond.methodLink RX5 165 yX3_rows, Cond.instanceMethod yX3_rows, Cond.selects RX3 yX3_rows yX3_rows, Cond.initialized RX3, Cond.code yX3_rows cX3_rows 1 (some .int), Cond.fieldLink RX3 22 "LentRights$Table" "rows" "I", Cond.methodLink RX5 135 yX0_measure, Cond.instanceMethod yX0_measure, Cond.selects RX0 yX0_measure yX0_measure, Cond.initialized RX0, Cond.code yX0_measure cX0_measure 7 none, Cond.fieldLink RX0 14 "LentRights$Chains" "steps" "LLentRights$Table;", Cond.fieldLink RX0 28 "LentRights$House" "things" "LLentRights$Table;", Cond.fieldLink RX0 37 "LentRights$House" "grants" "LLentRights$Table;", Cond.methodLink RX0 24 yX3_at, Cond.instanceMethod yX3_at, Cond.selects RX3 yX3_at yX3_at, Cond.code yX3_at cX3_at 5 (some .int), Cond.fieldLink RX3 15 "LentRights$Table" "columns" "I", Cond.fieldLink RX3 18 "LentRights$Table" "cells" "[I", Cond.methodLink RX0 33 yX3_put]
def wsX5_meanChain_r2 : List Cond := [Cond.instanceMethod yX3_put, Cond.selects RX3 yX3_put yX3_put, Cond.code yX3_put cX3_put 6 none, Cond.methodLink RX0 40 yX3_rows, Cond.methodLink RX0 43 yX0_stepsTo, Cond.instanceMethod yX0_stepsTo, Cond.selects RX0 yX0_stepsTo yX0_stepsTo, Cond.code yX0_stepsTo cX0_stepsTo 2 (some .int), Cond.methodLink RX0 47 yX0_isLink, Cond.instanceMethod yX0_isLink, Cond.selects RX0 yX0_isLink yX0_isLink, Cond.code yX0_isLink cX0_isLink 5 (some .boolean), Cond.methodLink RX0 55 yX2_passedOn, Cond.instanceMethod yX2_passedOn, Cond.selects RX2 yX2_passedOn yX2_passedOn, Cond.initialized RX2, Cond.code yX2_passedOn cX2_passedOn 4 (some .int), Cond.fieldLink RX2 23 "LentRights$House" "grants" "LLentRights$Table;", Cond.fieldLink RX2 29 "LentRights$House" "held" "LLentRights$Table;", Cond.fieldLink RX2 20 "LentRights$House" "things" "LLentRights$Table;", Cond.methodLink RX2 60 yX3_at, Cond.methodLink RX5 139 yX0_stepsTo]
def wsX5_meanChain : List Cond := .code yX5_meanChain cX5_meanChain 6 (some .double) :: ((wsX5_meanChain_r1 ++ wsX5_meanChain_r2) ++ wsX50 ++ wsX20 ++ wsX30 ++ wsX00)
def wsJ9_max_7cf53 : List Cond := .code yJ9_max_7cf53 cJ9_max_7cf53 2 (some .int) :: ([])
def wsJ9_min_7cf53 : List Cond := .code yJ9_min_7cf53 cJ9_min_7cf53 2 (some .int) :: ([])
def wsL_cell : List Cond := .code yL_cell cL_cell 2 (some .int) :: ([.constant RL 7 (1359893119)])
def wsL_up : List Cond := .code yL_up cL_up 2 (some .int) :: ([.constant RL 8 (2147483647)])
def wsL_isStep_r1 : List Cond := [Cond.methodLink RL 9 yL_up, Cond.static yL_up, Cond.initialized RL, Cond.code yL_up cL_up 2 (some .int), Cond.constant RL 8 (2147483647), Cond.methodLink RL 15 yX5_cheer, Cond.instanceMethod yX5_cheer, Cond.selects RX5 yX5_cheer yX5_cheer, Cond.initialized RX5, Cond.code yX5_cheer cX5_cheer 3 (some .int), Cond.fieldLink RX5 22 "LentRights" "history" "LLentRights$History;", Cond.fieldLink RX5 10 "LentRights" "house" "LLentRights$House;", Cond.methodLink RX5 40 yX5_requirePerson, Cond.static yX5_requirePerson, Cond.code yX5_requirePerson cX5_requirePerson 1 none, Cond.classLink RX5 142 "java/lang/IndexOutOfBoundsException", Cond.initialized "java/lang/IndexOutOfBoundsException", Cond.methodLink RX5 262 yX5_isPerson, Cond.static yX5_isPerson, Cond.code yX5_isPerson cX5_isPerson 1 (some .boolean), Cond.methodLink RX5 267 yX5_isBetween, Cond.static yX5_isBetween, Cond.code yX5_isBetween cX5_isBetween 3 (some .boolean), Cond.methodLink RX5 79 yX5_requireRange]
def wsL_isStep_r2 : List Cond := [Cond.static yX5_requireRange, Cond.code yX5_requireRange cX5_requireRange 3 none, Cond.classLink RX5 151 "java/lang/IllegalArgumentException", Cond.initialized "java/lang/IllegalArgumentException", Cond.methodLink RX5 64 yX1_keep, Cond.instanceMethod yX1_keep, Cond.selects RX1 yX1_keep yX1_keep, Cond.initialized RX1, Cond.code yX1_keep cX1_keep 2 none, Cond.fieldLink RX1 18 "LentRights$History" "count" "I", Cond.fieldLink RX1 11 "LentRights$History" "states" "[LLentRights$House;", Cond.methodLink RX1 22 yX1_makeRoom, Cond.instanceMethod yX1_makeRoom, Cond.selects RX1 yX1_makeRoom yX1_makeRoom, Cond.code yX1_makeRoom cX1_makeRoom 3 none, Cond.methodLink RX1 25 yX2_takeOver, Cond.instanceMethod yX2_takeOver, Cond.selects RX2 yX2_takeOver yX2_takeOver, Cond.initialized RX2, Cond.code yX2_takeOver cX2_takeOver 2 none, Cond.fieldLink RX2 14 "LentRights$House" "persons" "LLentRights$Table;", Cond.fieldLink RX2 20 "LentRights$House" "things" "LLentRights$Table;", Cond.fieldLink RX2 23 "LentRights$House" "grants" "LLentRights$Table;", Cond.fieldLink RX2 26 "LentRights$House" "log" "LLentRights$Table;"]
def wsL_isStep_r3 : List Cond := [Cond.fieldLink RX2 29 "LentRights$House" "held" "LLentRights$Table;", Cond.fieldLink RX2 44 "LentRights$House" "given" "I", Cond.fieldLink RX2 48 "LentRights$House" "died" "I", Cond.fieldLink RX2 51 "LentRights$House" "revoked" "I", Cond.fieldLink RX2 54 "LentRights$House" "time" "I", Cond.methodLink RX2 40 yX3_takeOver, Cond.instanceMethod yX3_takeOver, Cond.selects RX3 yX3_takeOver yX3_takeOver, Cond.initialized RX3, Cond.code yX3_takeOver cX3_takeOver 4 none, Cond.fieldLink RX3 22 "LentRights$Table" "rows" "I", Cond.fieldLink RX3 9 "LentRights$Table" "limit" "I", Cond.fieldLink RX3 15 "LentRights$Table" "columns" "I", Cond.fieldLink RX3 18 "LentRights$Table" "cells" "[I", Cond.methodLink RX5 111 yX2_changeMood, Cond.instanceMethod yX2_changeMood, Cond.selects RX2 yX2_changeMood yX2_changeMood, Cond.code yX2_changeMood cX2_changeMood 5 (some .int), Cond.methodLink RX2 89 Lib.Math.min.name, Cond.static Lib.Math.min.name, Cond.initialized "java/lang/Math", Cond.code Lib.Math.min.name Lib.Math.min.code 2 (some .int), Cond.methodLink RX2 94 Lib.Math.max.name, Cond.static Lib.Math.max.name]
def wsL_isStep_r4 : List Cond := [Cond.code Lib.Math.max.name Lib.Math.max.code 2 (some .int), Cond.methodLink RX2 60 yX3_at, Cond.instanceMethod yX3_at, Cond.selects RX3 yX3_at yX3_at, Cond.code yX3_at cX3_at 5 (some .int), Cond.methodLink RX2 36 yX3_put, Cond.instanceMethod yX3_put, Cond.selects RX3 yX3_put yX3_put, Cond.code yX3_put cX3_put 6 none, Cond.methodLink RX2 97 yX2_buryDying, Cond.instanceMethod yX2_buryDying, Cond.selects RX2 yX2_buryDying yX2_buryDying, Cond.code yX2_buryDying cX2_buryDying 3 (some .int), Cond.methodLink RX2 104 yX3_rows, Cond.instanceMethod yX3_rows, Cond.selects RX3 yX3_rows yX3_rows, Cond.code yX3_rows cX3_rows 1 (some .int), Cond.methodLink RX2 133 yX2_isDying, Cond.instanceMethod yX2_isDying, Cond.selects RX2 yX2_isDying yX2_isDying, Cond.code yX2_isDying cX2_isDying 2 (some .boolean), Cond.methodLink RX2 136 yX2_enter, Cond.instanceMethod yX2_enter, Cond.selects RX2 yX2_enter yX2_enter]
def wsL_isStep_r5 : List Cond := [Cond.code yX2_enter cX2_enter 3 none, Cond.methodLink RX2 78 yX3_isFull, Cond.instanceMethod yX3_isFull, Cond.selects RX3 yX3_isFull yX3_isFull, Cond.code yX3_isFull cX3_isFull 1 (some .boolean), Cond.methodLink RX2 85 yX3_drop, Cond.instanceMethod yX3_drop, Cond.selects RX3 yX3_drop yX3_drop, Cond.code yX3_drop cX3_drop 5 none, Cond.methodLink RX2 32 yX3_addRow, Cond.instanceMethod yX3_addRow, Cond.selects RX3 yX3_addRow yX3_addRow, Cond.code yX3_addRow cX3_addRow 1 (some .int), Cond.methodLink RX2 57 yX2_settle, Cond.instanceMethod yX2_settle, Cond.selects RX2 yX2_settle yX2_settle, Cond.code yX2_settle cX2_settle 8 none, Cond.methodLink RX2 123 yX2_passedOn, Cond.instanceMethod yX2_passedOn, Cond.selects RX2 yX2_passedOn yX2_passedOn, Cond.code yX2_passedOn cX2_passedOn 4 (some .int), Cond.methodLink RL 20 yX5_setBase, Cond.instanceMethod yX5_setBase, Cond.selects RX5 yX5_setBase yX5_setBase]
def wsL_isStep_r6 : List Cond := [Cond.code yX5_setBase cX5_setBase 4 (some .int), Cond.fieldLink RX5 83 "LentRights$House" "persons" "LLentRights$Table;", Cond.methodLink RX5 86 yX3_at, Cond.methodLink RX5 89 yX3_put, Cond.methodLink RL 23 yX5_setMask, Cond.instanceMethod yX5_setMask, Cond.selects RX5 yX5_setMask yX5_setMask, Cond.code yX5_setMask cX5_setMask 3 (some .int), Cond.methodLink RX5 72 yX5_requireThing, Cond.instanceMethod yX5_requireThing, Cond.selects RX5 yX5_requireThing yX5_requireThing, Cond.code yX5_requireThing cX5_requireThing 2 none, Cond.fieldLink RX5 47 "LentRights$House" "things" "LLentRights$Table;", Cond.methodLink RX5 257 yX3_has, Cond.instanceMethod yX3_has, Cond.selects RX3 yX3_has yX3_has, Cond.code yX3_has cX3_has 2 (some .boolean), Cond.methodLink RX5 44 yX5_requireMask, Cond.static yX5_requireMask, Cond.code yX5_requireMask cX5_requireMask 1 none, Cond.methodLink RX5 75 yX2_changeThing, Cond.instanceMethod yX2_changeThing, Cond.selects RX2 yX2_changeThing yX2_changeThing, Cond.code yX2_changeThing cX2_changeThing 5 (some .int)]
def wsL_isStep_r7 : List Cond := [Cond.methodLink RL 26 yX5_give, Cond.instanceMethod yX5_give, Cond.selects RX5 yX5_give yX5_give, Cond.code yX5_give cX5_give 3 (some .int), Cond.methodLink RL 29 yX5_pass, Cond.instanceMethod yX5_pass, Cond.selects RX5 yX5_pass yX5_pass, Cond.code yX5_pass cX5_pass 2 (some .int), Cond.classLink RX5 57 "java/lang/IllegalStateException", Cond.initialized "java/lang/IllegalStateException", Cond.methodLink RX5 114 yX2_hasTimeFor, Cond.instanceMethod yX2_hasTimeFor, Cond.selects RX2 yX2_hasTimeFor yX2_hasTimeFor, Cond.code yX2_hasTimeFor cX2_hasTimeFor 2 (some .boolean), Cond.constant RX2 100 (100000), Cond.methodLink RX5 120 yX2_letPass, Cond.instanceMethod yX2_letPass, Cond.selects RX2 yX2_letPass yX2_letPass, Cond.code yX2_letPass cX2_letPass 5 (some .int), Cond.methodLink RX2 101 yX2_calm, Cond.instanceMethod yX2_calm, Cond.selects RX2 yX2_calm yX2_calm, Cond.code yX2_calm cX2_calm 4 none, Cond.methodLink RL 33 yX5_thing]
def wsL_isStep_r8 : List Cond := [Cond.instanceMethod yX5_thing, Cond.selects RX5 yX5_thing yX5_thing, Cond.code yX5_thing cX5_thing 3 (some .int), Cond.methodLink RX5 129 yX2_aboutThing, Cond.instanceMethod yX2_aboutThing, Cond.selects RX2 yX2_aboutThing yX2_aboutThing, Cond.code yX2_aboutThing cX2_aboutThing 3 (some .int), Cond.methodLink RX2 116 yX2_countEqual, Cond.static yX2_countEqual, Cond.code yX2_countEqual cX2_countEqual 5 (some .int), Cond.methodLink RX2 107 yX2_holdersOf, Cond.instanceMethod yX2_holdersOf, Cond.selects RX2 yX2_holdersOf yX2_holdersOf, Cond.code yX2_holdersOf cX2_holdersOf 5 (some .int), Cond.methodLink RL 36 yX5_gainBy, Cond.instanceMethod yX5_gainBy, Cond.selects RX5 yX5_gainBy yX5_gainBy, Cond.code yX5_gainBy cX5_gainBy 7 (some .int), Cond.fieldLink RX5 16 "LentRights" "trial" "LLentRights$House;", Cond.methodLink RX5 92 yX2_faultOfGrant, Cond.instanceMethod yX2_faultOfGrant, Cond.selects RX2 yX2_faultOfGrant yX2_faultOfGrant, Cond.code yX2_faultOfGrant cX2_faultOfGrant 10 (some .int), Cond.methodLink RX2 68 yX3_has]
def wsL_isStep_r9 : List Cond := [Cond.methodLink RX2 75 yX2_rightsOf, Cond.instanceMethod yX2_rightsOf, Cond.selects RX2 yX2_rightsOf yX2_rightsOf, Cond.code yX2_rightsOf cX2_rightsOf 3 (some .int), Cond.methodLink RX5 96 yX5_requireFit, Cond.static yX5_requireFit, Cond.code yX5_requireFit cX5_requireFit 1 none, Cond.methodLink RX5 177 yX2_takeOver, Cond.methodLink RX5 101 yX2_lend, Cond.instanceMethod yX2_lend, Cond.selects RX2 yX2_lend yX2_lend, Cond.code yX2_lend cX2_lend 8 (some .int), Cond.methodLink RX5 180 yX2_countPairs, Cond.instanceMethod yX2_countPairs, Cond.selects RX2 yX2_countPairs yX2_countPairs, Cond.code yX2_countPairs cX2_countPairs 3 (some .int), Cond.methodLink RX2 110 yJ6_bitCount_0f7a4, Cond.static yJ6_bitCount_0f7a4, Cond.initialized RJ6, Cond.code yJ6_bitCount_0f7a4 cJ6_bitCount_0f7a4 1 (some .int), Cond.constant RJ6 265 (1431655765), Cond.constant RJ6 266 (858993459), Cond.constant RJ6 267 (252645135), Cond.methodLink RL 40 yX5_value]
def wsL_isStep_r10 : List Cond := [Cond.instanceMethod yX5_value, Cond.selects RX5 yX5_value yX5_value, Cond.code yX5_value cX5_value 2 (some .int), Cond.methodLink RX5 159 yX2_aboutHouse, Cond.instanceMethod yX2_aboutHouse, Cond.selects RX2 yX2_aboutHouse yX2_aboutHouse, Cond.code yX2_aboutHouse cX2_aboutHouse 2 (some .int), Cond.methodLink RX2 82 yX2_countPairs, Cond.methodLink RX2 126 yX2_countIdleGrants, Cond.instanceMethod yX2_countIdleGrants, Cond.selects RX2 yX2_countIdleGrants yX2_countIdleGrants, Cond.code yX2_countIdleGrants cX2_countIdleGrants 3 (some .int), Cond.methodLink RL 43 yX5_grant, Cond.instanceMethod yX5_grant, Cond.selects RX5 yX5_grant yX5_grant, Cond.code yX5_grant cX5_grant 7 (some .int), Cond.methodLink RL 46 yX5_grantOf, Cond.instanceMethod yX5_grantOf, Cond.selects RX5 yX5_grantOf yX5_grantOf, Cond.code yX5_grantOf cX5_grantOf 4 (some .int), Cond.methodLink RX5 104 yX5_requireGrant, Cond.instanceMethod yX5_requireGrant, Cond.selects RX5 yX5_requireGrant yX5_requireGrant, Cond.code yX5_requireGrant cX5_requireGrant 3 (some .int)]
def wsL_isStep_r11 : List Cond := [Cond.classLink RX5 252 "java/util/NoSuchElementException", Cond.initialized "java/util/NoSuchElementException", Cond.methodLink RX5 245 yX2_placeOf, Cond.instanceMethod yX2_placeOf, Cond.selects RX2 yX2_placeOf yX2_placeOf, Cond.code yX2_placeOf cX2_placeOf 3 (some .int), Cond.methodLink RX5 132 yX2_aboutGrant, Cond.instanceMethod yX2_aboutGrant, Cond.selects RX2 yX2_aboutGrant yX2_aboutGrant, Cond.code yX2_aboutGrant cX2_aboutGrant 3 (some .int)]
def wsL_isStep : List Cond := .code yL_isStep cL_isStep 14 (some .boolean) :: ((wsL_isStep_r1 ++ (wsL_isStep_r2 ++ (wsL_isStep_r3 ++ (wsL_isStep_r4 ++ (wsL_isStep_r5 ++ (wsL_isStep_r6 ++ (wsL_isStep_r7 ++ (wsL_isStep_r8 ++ (wsL_isStep_r9 ++ (wsL_isStep_r10 ++ wsL_isStep_r11)))))))))) ++ wsX50 ++ wsX10 ++ wsX20 ++ wsX30 ++ (vx_atS RX5 146 "java/lang/IndexOutOfBoundsException" ["java/lang/RuntimeException", "java/lang/Exception"]).filter goodWord ++ (vx_atS RX5 155 "java/lang/IllegalArgumentException" ["java/lang/RuntimeException", "java/lang/Exception"]).filter goodWord ++ (vx_atS RX5 61 "java/lang/IllegalStateException" ["java/lang/RuntimeException", "java/lang/Exception"]).filter goodWord ++ (vy_atS RX5 256 "java/util/NoSuchElementException" 13 prog_19_method_4_code "java/lang/RuntimeException" ["java/lang/Exception"]).filter goodWord)
def wsL_areAlike_r1 : List Cond := [Cond.methodLink RL 49 yX5_meanChain, Cond.instanceMethod yX5_meanChain, Cond.selects RX5 yX5_meanChain yX5_meanChain, Cond.initialized RX5, Cond.code yX5_meanChain cX5_meanChain 6 (some .double), Cond.fieldLink RX5 10 "LentRights" "house" "LLentRights$House;", Cond.fieldLink RX5 47 "LentRights$House" "things" "LLentRights$Table;", Cond.fieldLink RX5 29 "LentRights" "chains" "LLentRights$Chains;", Cond.methodLink RX5 165 yX3_rows, Cond.instanceMethod yX3_rows, Cond.selects RX3 yX3_rows yX3_rows, Cond.initialized RX3, Cond.code yX3_rows cX3_rows 1 (some .int), Cond.fieldLink RX3 22 "LentRights$Table" "rows" "I", Cond.methodLink RX5 135 yX0_measure, Cond.instanceMethod yX0_measure, Cond.selects RX0 yX0_measure yX0_measure, Cond.initialized RX0, Cond.code yX0_measure cX0_measure 7 none, Cond.fieldLink RX0 14 "LentRights$Chains" "steps" "LLentRights$Table;", Cond.fieldLink RX0 28 "LentRights$House" "things" "LLentRights$Table;", Cond.fieldLink RX0 37 "LentRights$House" "grants" "LLentRights$Table;", Cond.methodLink RX0 24 yX3_at, Cond.instanceMethod yX3_at]
def wsL_areAlike_r2 : List Cond := [Cond.selects RX3 yX3_at yX3_at, Cond.code yX3_at cX3_at 5 (some .int), Cond.fieldLink RX3 15 "LentRights$Table" "columns" "I", Cond.fieldLink RX3 18 "LentRights$Table" "cells" "[I", Cond.methodLink RX0 33 yX3_put, Cond.instanceMethod yX3_put, Cond.selects RX3 yX3_put yX3_put, Cond.code yX3_put cX3_put 6 none, Cond.methodLink RX0 40 yX3_rows, Cond.methodLink RX0 43 yX0_stepsTo, Cond.instanceMethod yX0_stepsTo, Cond.selects RX0 yX0_stepsTo yX0_stepsTo, Cond.code yX0_stepsTo cX0_stepsTo 2 (some .int), Cond.methodLink RX0 47 yX0_isLink, Cond.instanceMethod yX0_isLink, Cond.selects RX0 yX0_isLink yX0_isLink, Cond.code yX0_isLink cX0_isLink 5 (some .boolean), Cond.methodLink RX0 55 yX2_passedOn, Cond.instanceMethod yX2_passedOn, Cond.selects RX2 yX2_passedOn yX2_passedOn, Cond.initialized RX2, Cond.code yX2_passedOn cX2_passedOn 4 (some .int), Cond.fieldLink RX2 23 "LentRights$House" "grants" "LLentRights$Table;", Cond.fieldLink RX2 29 "LentRights$House" "held" "LLentRights$Table;"]
def wsL_areAlike_r3 : List Cond := [Cond.fieldLink RX2 20 "LentRights$House" "things" "LLentRights$Table;", Cond.methodLink RX2 60 yX3_at, Cond.methodLink RX5 139 yX0_stepsTo, Cond.methodLink RL 53 yX5_seenIn, Cond.instanceMethod yX5_seenIn, Cond.selects RX5 yX5_seenIn yX5_seenIn, Cond.code yX5_seenIn cX5_seenIn 2 (some .int), Cond.fieldLink RX5 16 "LentRights" "trial" "LLentRights$House;", Cond.methodLink RX5 79 yX5_requireRange, Cond.static yX5_requireRange, Cond.code yX5_requireRange cX5_requireRange 3 none, Cond.classLink RX5 151 "java/lang/IllegalArgumentException", Cond.initialized "java/lang/IllegalArgumentException", Cond.methodLink RX5 267 yX5_isBetween, Cond.static yX5_isBetween, Cond.code yX5_isBetween cX5_isBetween 3 (some .boolean), Cond.methodLink RX5 177 yX2_takeOver, Cond.instanceMethod yX2_takeOver, Cond.selects RX2 yX2_takeOver yX2_takeOver, Cond.code yX2_takeOver cX2_takeOver 2 none, Cond.fieldLink RX2 14 "LentRights$House" "persons" "LLentRights$Table;", Cond.fieldLink RX2 26 "LentRights$House" "log" "LLentRights$Table;", Cond.fieldLink RX2 44 "LentRights$House" "given" "I", Cond.fieldLink RX2 48 "LentRights$House" "died" "I"]
def wsL_areAlike_r4 : List Cond := [Cond.fieldLink RX2 51 "LentRights$House" "revoked" "I", Cond.fieldLink RX2 54 "LentRights$House" "time" "I", Cond.methodLink RX2 40 yX3_takeOver, Cond.instanceMethod yX3_takeOver, Cond.selects RX3 yX3_takeOver yX3_takeOver, Cond.code yX3_takeOver cX3_takeOver 4 none, Cond.fieldLink RX3 9 "LentRights$Table" "limit" "I", Cond.methodLink RX5 120 yX2_letPass, Cond.instanceMethod yX2_letPass, Cond.selects RX2 yX2_letPass yX2_letPass, Cond.code yX2_letPass cX2_letPass 5 (some .int), Cond.methodLink RX2 101 yX2_calm, Cond.instanceMethod yX2_calm, Cond.selects RX2 yX2_calm yX2_calm, Cond.code yX2_calm cX2_calm 4 none, Cond.methodLink RX2 36 yX3_put, Cond.methodLink RX2 97 yX2_buryDying, Cond.instanceMethod yX2_buryDying, Cond.selects RX2 yX2_buryDying yX2_buryDying, Cond.code yX2_buryDying cX2_buryDying 3 (some .int), Cond.methodLink RX2 104 yX3_rows, Cond.methodLink RX2 133 yX2_isDying, Cond.instanceMethod yX2_isDying, Cond.selects RX2 yX2_isDying yX2_isDying]
def wsL_areAlike_r5 : List Cond := [Cond.code yX2_isDying cX2_isDying 2 (some .boolean), Cond.methodLink RX2 136 yX2_enter, Cond.instanceMethod yX2_enter, Cond.selects RX2 yX2_enter yX2_enter, Cond.code yX2_enter cX2_enter 3 none, Cond.methodLink RX2 78 yX3_isFull, Cond.instanceMethod yX3_isFull, Cond.selects RX3 yX3_isFull yX3_isFull, Cond.code yX3_isFull cX3_isFull 1 (some .boolean), Cond.methodLink RX2 85 yX3_drop, Cond.instanceMethod yX3_drop, Cond.selects RX3 yX3_drop yX3_drop, Cond.code yX3_drop cX3_drop 5 none, Cond.methodLink RX2 32 yX3_addRow, Cond.instanceMethod yX3_addRow, Cond.selects RX3 yX3_addRow yX3_addRow, Cond.code yX3_addRow cX3_addRow 1 (some .int), Cond.methodLink RX2 57 yX2_settle, Cond.instanceMethod yX2_settle, Cond.selects RX2 yX2_settle yX2_settle, Cond.code yX2_settle cX2_settle 8 none, Cond.methodLink RX2 123 yX2_passedOn, Cond.methodLink RX5 180 yX2_countPairs, Cond.instanceMethod yX2_countPairs]
def wsL_areAlike_r6 : List Cond := [Cond.selects RX2 yX2_countPairs yX2_countPairs, Cond.code yX2_countPairs cX2_countPairs 3 (some .int), Cond.methodLink RX2 107 yX2_holdersOf, Cond.instanceMethod yX2_holdersOf, Cond.selects RX2 yX2_holdersOf yX2_holdersOf, Cond.code yX2_holdersOf cX2_holdersOf 5 (some .int), Cond.methodLink RX2 110 yJ6_bitCount_0f7a4, Cond.static yJ6_bitCount_0f7a4, Cond.initialized RJ6, Cond.code yJ6_bitCount_0f7a4 cJ6_bitCount_0f7a4 1 (some .int), Cond.constant RJ6 265 (1431655765), Cond.constant RJ6 266 (858993459), Cond.constant RJ6 267 (252645135), Cond.methodLink RL 40 yX5_value, Cond.instanceMethod yX5_value, Cond.selects RX5 yX5_value yX5_value, Cond.code yX5_value cX5_value 2 (some .int), Cond.methodLink RX5 159 yX2_aboutHouse, Cond.instanceMethod yX2_aboutHouse, Cond.selects RX2 yX2_aboutHouse yX2_aboutHouse, Cond.code yX2_aboutHouse cX2_aboutHouse 2 (some .int), Cond.methodLink RX2 82 yX2_countPairs, Cond.methodLink RX2 126 yX2_countIdleGrants, Cond.instanceMethod yX2_countIdleGrants]
def wsL_areAlike_r7 : List Cond := [Cond.selects RX2 yX2_countIdleGrants yX2_countIdleGrants, Cond.code yX2_countIdleGrants cX2_countIdleGrants 3 (some .int), Cond.methodLink RL 56 yX5_person, Cond.instanceMethod yX5_person, Cond.selects RX5 yX5_person yX5_person, Cond.code yX5_person cX5_person 3 (some .int), Cond.methodLink RX5 40 yX5_requirePerson, Cond.static yX5_requirePerson, Cond.code yX5_requirePerson cX5_requirePerson 1 none, Cond.classLink RX5 142 "java/lang/IndexOutOfBoundsException", Cond.initialized "java/lang/IndexOutOfBoundsException", Cond.methodLink RX5 262 yX5_isPerson, Cond.static yX5_isPerson, Cond.code yX5_isPerson cX5_isPerson 1 (some .boolean), Cond.methodLink RX5 126 yX2_aboutPerson, Cond.instanceMethod yX2_aboutPerson, Cond.selects RX2 yX2_aboutPerson yX2_aboutPerson, Cond.code yX2_aboutPerson cX2_aboutPerson 3 (some .int), Cond.methodLink RX2 116 yX2_countEqual, Cond.static yX2_countEqual, Cond.code yX2_countEqual cX2_countEqual 5 (some .int), Cond.methodLink RX2 120 yX2_thingsSeenBy, Cond.instanceMethod yX2_thingsSeenBy, Cond.selects RX2 yX2_thingsSeenBy yX2_thingsSeenBy]
def wsL_areAlike_r8 : List Cond := [Cond.code yX2_thingsSeenBy cX2_thingsSeenBy 4 (some .int), Cond.methodLink RL 59 yX5_patience, Cond.instanceMethod yX5_patience, Cond.selects RX5 yX5_patience yX5_patience, Cond.code yX5_patience cX5_patience 2 (some .int), Cond.fieldLink RX5 83 "LentRights$House" "persons" "LLentRights$Table;", Cond.methodLink RX5 86 yX3_at, Cond.methodLink RX5 183 yX2_greatestThreshold, Cond.instanceMethod yX2_greatestThreshold, Cond.selects RX2 yX2_greatestThreshold yX2_greatestThreshold, Cond.code yX2_greatestThreshold cX2_greatestThreshold 4 (some .int), Cond.methodLink RX2 94 Lib.Math.max.name, Cond.static Lib.Math.max.name, Cond.initialized "java/lang/Math", Cond.code Lib.Math.max.name Lib.Math.max.code 2 (some .int), Cond.methodLink RL 62 yX5_lostBy, Cond.instanceMethod yX5_lostBy, Cond.selects RX5 yX5_lostBy yX5_lostBy, Cond.code yX5_lostBy cX5_lostBy 2 (some .int), Cond.methodLink RX5 174 yX5_pairsLostBy, Cond.instanceMethod yX5_pairsLostBy, Cond.selects RX5 yX5_pairsLostBy yX5_pairsLostBy, Cond.code yX5_pairsLostBy cX5_pairsLostBy 2 (some .int), Cond.methodLink RX5 111 yX2_changeMood]
def wsL_areAlike_r9 : List Cond := [Cond.instanceMethod yX2_changeMood, Cond.selects RX2 yX2_changeMood yX2_changeMood, Cond.code yX2_changeMood cX2_changeMood 5 (some .int), Cond.methodLink RX2 89 Lib.Math.min.name, Cond.static Lib.Math.min.name, Cond.code Lib.Math.min.name Lib.Math.min.code 2 (some .int), Cond.methodLink RL 65 yX5_chain, Cond.instanceMethod yX5_chain, Cond.selects RX5 yX5_chain yX5_chain, Cond.code yX5_chain cX5_chain 3 (some .int), Cond.methodLink RX5 72 yX5_requireThing, Cond.instanceMethod yX5_requireThing, Cond.selects RX5 yX5_requireThing yX5_requireThing, Cond.code yX5_requireThing cX5_requireThing 2 none, Cond.methodLink RX5 257 yX3_has, Cond.instanceMethod yX3_has, Cond.selects RX3 yX3_has yX3_has, Cond.code yX3_has cX3_has 2 (some .boolean), Cond.methodLink RL 68 yX5_held, Cond.instanceMethod yX5_held, Cond.selects RX5 yX5_held yX5_held, Cond.code yX5_held cX5_held 3 (some .int), Cond.methodLink RX5 123 yX2_rightsOf, Cond.instanceMethod yX2_rightsOf]
def wsL_areAlike_r10 : List Cond := [Cond.selects RX2 yX2_rightsOf yX2_rightsOf, Cond.code yX2_rightsOf cX2_rightsOf 3 (some .int), Cond.methodLink RL 71 yX5_link, Cond.instanceMethod yX5_link, Cond.selects RX5 yX5_link yX5_link, Cond.code yX5_link cX5_link 4 (some .int), Cond.methodLink RX5 147 yX0_numberAt, Cond.instanceMethod yX0_numberAt, Cond.selects RX0 yX0_numberAt yX0_numberAt, Cond.code yX0_numberAt cX0_numberAt 9 (some .int), Cond.methodLink RX0 51 yX0_lastLink, Cond.instanceMethod yX0_lastLink, Cond.selects RX0 yX0_lastLink yX0_lastLink, Cond.code yX0_lastLink cX0_lastLink 7 (some .int), Cond.methodLink RL 75 yX5_why, Cond.instanceMethod yX5_why, Cond.selects RX5 yX5_why yX5_why, Cond.code yX5_why cX5_why 4 (some .int), Cond.methodLink RX5 156 yX2_reasonAgainst, Cond.instanceMethod yX2_reasonAgainst, Cond.selects RX2 yX2_reasonAgainst yX2_reasonAgainst, Cond.code yX2_reasonAgainst cX2_reasonAgainst 7 (some .int), Cond.methodLink RX2 75 yX2_rightsOf, Cond.methodLink RX2 129 yX2_isGrantOf]
def wsL_areAlike_r11 : List Cond := [Cond.instanceMethod yX2_isGrantOf, Cond.selects RX2 yX2_isGrantOf yX2_isGrantOf, Cond.code yX2_isGrantOf cX2_isGrantOf 5 (some .boolean)]
def wsL_areAlike : List Cond := .code yL_areAlike cL_areAlike 6 (some .boolean) :: ((wsL_areAlike_r1 ++ (wsL_areAlike_r2 ++ (wsL_areAlike_r3 ++ (wsL_areAlike_r4 ++ (wsL_areAlike_r5 ++ (wsL_areAlike_r6 ++ (wsL_areAlike_r7 ++ (wsL_areAlike_r8 ++ (wsL_areAlike_r9 ++ (wsL_areAlike_r10 ++ wsL_areAlike_r11)))))))))) ++ wsX50 ++ wsX20 ++ wsX30 ++ wsX00 ++ (vx_atS RX5 155 "java/lang/IllegalArgumentException" ["java/lang/RuntimeException", "java/lang/Exception"]).filter goodWord ++ (vx_atS RX5 146 "java/lang/IndexOutOfBoundsException" ["java/lang/RuntimeException", "java/lang/Exception"]).filter goodWord)
def wsL_isSound_r1 : List Cond := [Cond.methodLink RL 68 yX5_held, Cond.instanceMethod yX5_held, Cond.selects RX5 yX5_held yX5_held, Cond.initialized RX5, Cond.code yX5_held cX5_held 3 (some .int), Cond.fieldLink RX5 10 "LentRights" "house" "LLentRights$House;", Cond.methodLink RX5 40 yX5_requirePerson, Cond.static yX5_requirePerson, Cond.code yX5_requirePerson cX5_requirePerson 1 none, Cond.classLink RX5 142 "java/lang/IndexOutOfBoundsException", Cond.initialized "java/lang/IndexOutOfBoundsException", Cond.methodLink RX5 262 yX5_isPerson, Cond.static yX5_isPerson, Cond.code yX5_isPerson cX5_isPerson 1 (some .boolean), Cond.methodLink RX5 267 yX5_isBetween, Cond.static yX5_isBetween, Cond.code yX5_isBetween cX5_isBetween 3 (some .boolean), Cond.methodLink RX5 72 yX5_requireThing, Cond.instanceMethod yX5_requireThing, Cond.selects RX5 yX5_requireThing yX5_requireThing, Cond.code yX5_requireThing cX5_requireThing 2 none, Cond.fieldLink RX5 47 "LentRights$House" "things" "LLentRights$Table;", Cond.methodLink RX5 257 yX3_has, Cond.instanceMethod yX3_has]
def wsL_isSound_r2 : List Cond := [Cond.selects RX3 yX3_has yX3_has, Cond.initialized RX3, Cond.code yX3_has cX3_has 2 (some .boolean), Cond.fieldLink RX3 22 "LentRights$Table" "rows" "I", Cond.methodLink RX5 123 yX2_rightsOf, Cond.instanceMethod yX2_rightsOf, Cond.selects RX2 yX2_rightsOf yX2_rightsOf, Cond.initialized RX2, Cond.code yX2_rightsOf cX2_rightsOf 3 (some .int), Cond.fieldLink RX2 29 "LentRights$House" "held" "LLentRights$Table;", Cond.methodLink RX2 60 yX3_at, Cond.instanceMethod yX3_at, Cond.selects RX3 yX3_at yX3_at, Cond.code yX3_at cX3_at 5 (some .int), Cond.fieldLink RX3 15 "LentRights$Table" "columns" "I", Cond.fieldLink RX3 18 "LentRights$Table" "cells" "[I", Cond.methodLink RL 33 yX5_thing, Cond.instanceMethod yX5_thing, Cond.selects RX5 yX5_thing yX5_thing, Cond.code yX5_thing cX5_thing 3 (some .int), Cond.methodLink RX5 79 yX5_requireRange, Cond.static yX5_requireRange, Cond.code yX5_requireRange cX5_requireRange 3 none, Cond.classLink RX5 151 "java/lang/IllegalArgumentException"]
def wsL_isSound_r3 : List Cond := [Cond.initialized "java/lang/IllegalArgumentException", Cond.methodLink RX5 129 yX2_aboutThing, Cond.instanceMethod yX2_aboutThing, Cond.selects RX2 yX2_aboutThing yX2_aboutThing, Cond.code yX2_aboutThing cX2_aboutThing 3 (some .int), Cond.fieldLink RX2 20 "LentRights$House" "things" "LLentRights$Table;", Cond.fieldLink RX2 23 "LentRights$House" "grants" "LLentRights$Table;", Cond.methodLink RX2 116 yX2_countEqual, Cond.static yX2_countEqual, Cond.code yX2_countEqual cX2_countEqual 5 (some .int), Cond.methodLink RX2 104 yX3_rows, Cond.instanceMethod yX3_rows, Cond.selects RX3 yX3_rows yX3_rows, Cond.code yX3_rows cX3_rows 1 (some .int), Cond.methodLink RX2 107 yX2_holdersOf, Cond.instanceMethod yX2_holdersOf, Cond.selects RX2 yX2_holdersOf yX2_holdersOf, Cond.code yX2_holdersOf cX2_holdersOf 5 (some .int), Cond.methodLink RL 75 yX5_why, Cond.instanceMethod yX5_why, Cond.selects RX5 yX5_why yX5_why, Cond.code yX5_why cX5_why 4 (some .int), Cond.methodLink RX5 156 yX2_reasonAgainst, Cond.instanceMethod yX2_reasonAgainst]
def wsL_isSound_r4 : List Cond := [Cond.selects RX2 yX2_reasonAgainst yX2_reasonAgainst, Cond.code yX2_reasonAgainst cX2_reasonAgainst 7 (some .int), Cond.methodLink RX2 94 Lib.Math.max.name, Cond.static Lib.Math.max.name, Cond.initialized "java/lang/Math", Cond.code Lib.Math.max.name Lib.Math.max.code 2 (some .int), Cond.methodLink RX2 75 yX2_rightsOf, Cond.methodLink RX2 129 yX2_isGrantOf, Cond.instanceMethod yX2_isGrantOf, Cond.selects RX2 yX2_isGrantOf yX2_isGrantOf, Cond.code yX2_isGrantOf cX2_isGrantOf 5 (some .boolean), Cond.methodLink RL 65 yX5_chain, Cond.instanceMethod yX5_chain, Cond.selects RX5 yX5_chain yX5_chain, Cond.code yX5_chain cX5_chain 3 (some .int), Cond.fieldLink RX5 29 "LentRights" "chains" "LLentRights$Chains;", Cond.methodLink RX5 135 yX0_measure, Cond.instanceMethod yX0_measure, Cond.selects RX0 yX0_measure yX0_measure, Cond.initialized RX0, Cond.code yX0_measure cX0_measure 7 none, Cond.fieldLink RX0 14 "LentRights$Chains" "steps" "LLentRights$Table;", Cond.fieldLink RX0 28 "LentRights$House" "things" "LLentRights$Table;", Cond.fieldLink RX0 37 "LentRights$House" "grants" "LLentRights$Table;"]
def wsL_isSound_r5 : List Cond := [Cond.methodLink RX0 24 yX3_at, Cond.methodLink RX0 33 yX3_put, Cond.instanceMethod yX3_put, Cond.selects RX3 yX3_put yX3_put, Cond.code yX3_put cX3_put 6 none, Cond.methodLink RX0 40 yX3_rows, Cond.methodLink RX0 43 yX0_stepsTo, Cond.instanceMethod yX0_stepsTo, Cond.selects RX0 yX0_stepsTo yX0_stepsTo, Cond.code yX0_stepsTo cX0_stepsTo 2 (some .int), Cond.methodLink RX0 47 yX0_isLink, Cond.instanceMethod yX0_isLink, Cond.selects RX0 yX0_isLink yX0_isLink, Cond.code yX0_isLink cX0_isLink 5 (some .boolean), Cond.methodLink RX0 55 yX2_passedOn, Cond.instanceMethod yX2_passedOn, Cond.selects RX2 yX2_passedOn yX2_passedOn, Cond.code yX2_passedOn cX2_passedOn 4 (some .int), Cond.methodLink RX5 139 yX0_stepsTo, Cond.methodLink RL 40 yX5_value, Cond.instanceMethod yX5_value, Cond.selects RX5 yX5_value yX5_value, Cond.code yX5_value cX5_value 2 (some .int), Cond.methodLink RX5 159 yX2_aboutHouse]
def wsL_isSound_r6 : List Cond := [Cond.instanceMethod yX2_aboutHouse, Cond.selects RX2 yX2_aboutHouse yX2_aboutHouse, Cond.code yX2_aboutHouse cX2_aboutHouse 2 (some .int), Cond.fieldLink RX2 44 "LentRights$House" "given" "I", Cond.fieldLink RX2 48 "LentRights$House" "died" "I", Cond.fieldLink RX2 51 "LentRights$House" "revoked" "I", Cond.fieldLink RX2 54 "LentRights$House" "time" "I", Cond.fieldLink RX2 26 "LentRights$House" "log" "LLentRights$Table;", Cond.methodLink RX2 82 yX2_countPairs, Cond.instanceMethod yX2_countPairs, Cond.selects RX2 yX2_countPairs yX2_countPairs, Cond.code yX2_countPairs cX2_countPairs 3 (some .int), Cond.methodLink RX2 110 yJ6_bitCount_0f7a4, Cond.static yJ6_bitCount_0f7a4, Cond.initialized RJ6, Cond.code yJ6_bitCount_0f7a4 cJ6_bitCount_0f7a4 1 (some .int), Cond.constant RJ6 265 (1431655765), Cond.constant RJ6 266 (858993459), Cond.constant RJ6 267 (252645135), Cond.methodLink RX2 126 yX2_countIdleGrants, Cond.instanceMethod yX2_countIdleGrants, Cond.selects RX2 yX2_countIdleGrants yX2_countIdleGrants, Cond.code yX2_countIdleGrants cX2_countIdleGrants 3 (some .int), Cond.methodLink RX2 123 yX2_passedOn]
def wsL_isSound_r7 : List Cond := [Cond.methodLink RL 53 yX5_seenIn, Cond.instanceMethod yX5_seenIn, Cond.selects RX5 yX5_seenIn yX5_seenIn, Cond.code yX5_seenIn cX5_seenIn 2 (some .int), Cond.fieldLink RX5 16 "LentRights" "trial" "LLentRights$House;", Cond.methodLink RX5 177 yX2_takeOver, Cond.instanceMethod yX2_takeOver, Cond.selects RX2 yX2_takeOver yX2_takeOver, Cond.code yX2_takeOver cX2_takeOver 2 none, Cond.fieldLink RX2 14 "LentRights$House" "persons" "LLentRights$Table;", Cond.methodLink RX2 40 yX3_takeOver, Cond.instanceMethod yX3_takeOver, Cond.selects RX3 yX3_takeOver yX3_takeOver, Cond.code yX3_takeOver cX3_takeOver 4 none, Cond.fieldLink RX3 9 "LentRights$Table" "limit" "I", Cond.methodLink RX5 120 yX2_letPass, Cond.instanceMethod yX2_letPass, Cond.selects RX2 yX2_letPass yX2_letPass, Cond.code yX2_letPass cX2_letPass 5 (some .int), Cond.methodLink RX2 101 yX2_calm, Cond.instanceMethod yX2_calm, Cond.selects RX2 yX2_calm yX2_calm, Cond.code yX2_calm cX2_calm 4 none, Cond.methodLink RX2 36 yX3_put]
def wsL_isSound_r8 : List Cond := [Cond.methodLink RX2 97 yX2_buryDying, Cond.instanceMethod yX2_buryDying, Cond.selects RX2 yX2_buryDying yX2_buryDying, Cond.code yX2_buryDying cX2_buryDying 3 (some .int), Cond.methodLink RX2 133 yX2_isDying, Cond.instanceMethod yX2_isDying, Cond.selects RX2 yX2_isDying yX2_isDying, Cond.code yX2_isDying cX2_isDying 2 (some .boolean), Cond.methodLink RX2 136 yX2_enter, Cond.instanceMethod yX2_enter, Cond.selects RX2 yX2_enter yX2_enter, Cond.code yX2_enter cX2_enter 3 none, Cond.methodLink RX2 78 yX3_isFull, Cond.instanceMethod yX3_isFull, Cond.selects RX3 yX3_isFull yX3_isFull, Cond.code yX3_isFull cX3_isFull 1 (some .boolean), Cond.methodLink RX2 85 yX3_drop, Cond.instanceMethod yX3_drop, Cond.selects RX3 yX3_drop yX3_drop, Cond.code yX3_drop cX3_drop 5 none, Cond.methodLink RX2 32 yX3_addRow, Cond.instanceMethod yX3_addRow, Cond.selects RX3 yX3_addRow yX3_addRow, Cond.code yX3_addRow cX3_addRow 1 (some .int)]
def wsL_isSound_r9 : List Cond := [Cond.methodLink RX2 57 yX2_settle, Cond.instanceMethod yX2_settle, Cond.selects RX2 yX2_settle yX2_settle, Cond.code yX2_settle cX2_settle 8 none, Cond.methodLink RX5 180 yX2_countPairs]
def wsL_isSound : List Cond := .code yL_isSound cL_isSound 7 (some .boolean) :: ((wsL_isSound_r1 ++ (wsL_isSound_r2 ++ (wsL_isSound_r3 ++ (wsL_isSound_r4 ++ (wsL_isSound_r5 ++ (wsL_isSound_r6 ++ (wsL_isSound_r7 ++ (wsL_isSound_r8 ++ wsL_isSound_r9)))))))) ++ wsX50 ++ wsX20 ++ wsX30 ++ wsX00 ++ (vx_atS RX5 146 "java/lang/IndexOutOfBoundsException" ["java/lang/RuntimeException", "java/lang/Exception"]).filter goodWord ++ (vx_atS RX5 155 "java/lang/IllegalArgumentException" ["java/lang/RuntimeException", "java/lang/Exception"]).filter goodWord)
def wsL_law0_r1 : List Cond := [Cond.classLink RL 16 RX5, Cond.instantiable RX5 5, Cond.initialized RX5, Cond.methodLink RL 78 yX5_init, Cond.instanceMethod yX5_init, Cond.code yX5_init cX5_init 1 none, Cond.methodLink RX5 1 objectInit, Cond.instanceMethod objectInit, Cond.code objectInit ⟨#[0xb1]⟩ 1 none, Cond.classLink RX5 7 RX2, Cond.instantiable RX2 9, Cond.initialized RX2, Cond.fieldLink RX5 10 "LentRights" "house" "LLentRights$House;", Cond.fieldLink RX5 16 "LentRights" "trial" "LLentRights$House;", Cond.classLink RX5 19 RX1, Cond.instantiable RX1 2, Cond.initialized RX1, Cond.fieldLink RX5 22 "LentRights" "history" "LLentRights$History;", Cond.classLink RX5 26 RX0, Cond.instantiable RX0 1, Cond.initialized RX0, Cond.fieldLink RX5 29 "LentRights" "chains" "LLentRights$Chains;", Cond.classLink RX5 33 RX4, Cond.instantiable RX4 4]
def wsL_law0_r2 : List Cond := [Cond.initialized RX4, Cond.fieldLink RX5 36 "LentRights" "text" "LLentRights$Text;", Cond.methodLink RX5 9 yX2_init, Cond.instanceMethod yX2_init, Cond.code yX2_init cX2_init 2 none, Cond.methodLink RX2 3 objectInit, Cond.classLink RX2 9 RX3, Cond.instantiable RX3 4, Cond.initialized RX3, Cond.fieldLink RX2 14 "LentRights$House" "persons" "LLentRights$Table;", Cond.fieldLink RX2 20 "LentRights$House" "things" "LLentRights$Table;", Cond.fieldLink RX2 23 "LentRights$House" "grants" "LLentRights$Table;", Cond.fieldLink RX2 26 "LentRights$House" "log" "LLentRights$Table;", Cond.fieldLink RX2 29 "LentRights$House" "held" "LLentRights$Table;", Cond.methodLink RX2 11 yX3_init, Cond.instanceMethod yX3_init, Cond.code yX3_init cX3_init 3 none, Cond.methodLink RX3 3 objectInit, Cond.fieldLink RX3 9 "LentRights$Table" "limit" "I", Cond.fieldLink RX3 15 "LentRights$Table" "columns" "I", Cond.arrayClass .int, Cond.fieldLink RX3 18 "LentRights$Table" "cells" "[I", Cond.methodLink RX2 32 yX3_addRow, Cond.instanceMethod yX3_addRow]
def wsL_law0_r3 : List Cond := [Cond.selects RX3 yX3_addRow yX3_addRow, Cond.code yX3_addRow cX3_addRow 1 (some .int), Cond.fieldLink RX3 22 "LentRights$Table" "rows" "I", Cond.methodLink RX2 36 yX3_put, Cond.instanceMethod yX3_put, Cond.selects RX3 yX3_put yX3_put, Cond.code yX3_put cX3_put 6 none, Cond.methodLink RX5 21 yX1_init, Cond.instanceMethod yX1_init, Cond.code yX1_init cX1_init 2 none, Cond.methodLink RX1 3 objectInit, Cond.classLink RX1 9 RX2, Cond.fieldLink RX1 11 "LentRights$History" "states" "[LLentRights$House;", Cond.methodLink RX1 17 yX2_init, Cond.methodLink RX5 28 yX0_init, Cond.instanceMethod yX0_init, Cond.code yX0_init cX0_init 1 none, Cond.methodLink RX0 3 objectInit, Cond.classLink RX0 9 RX3, Cond.fieldLink RX0 14 "LentRights$Chains" "steps" "LLentRights$Table;", Cond.methodLink RX0 11 yX3_init, Cond.methodLink RX0 20 yX3_addRow, Cond.methodLink RX5 35 yX4_init, Cond.instanceMethod yX4_init]
def wsL_law0_r4 : List Cond := [Cond.code yX4_init cX4_init 1 none, Cond.methodLink RX4 3 objectInit, Cond.classLink RX4 9 RX3, Cond.fieldLink RX4 14 "LentRights$Text" "bytes" "LLentRights$Table;", Cond.fieldLink RX4 20 "LentRights$Text" "orders" "LLentRights$Table;", Cond.fieldLink RX4 23 "LentRights$Text" "fault" "I", Cond.methodLink RX4 11 yX3_init, Cond.methodLink RL 79 yL_cell, Cond.static yL_cell, Cond.initialized RL, Cond.code yL_cell cL_cell 2 (some .int), Cond.constant RL 7 (1359893119), Cond.methodLink RL 9 yL_up, Cond.static yL_up, Cond.code yL_up cL_up 2 (some .int), Cond.constant RL 8 (2147483647), Cond.methodLink RL 83 yX5_addThing, Cond.instanceMethod yX5_addThing, Cond.selects RX5 yX5_addThing yX5_addThing, Cond.code yX5_addThing cX5_addThing 3 (some .int), Cond.classLink RX5 57 "java/lang/IllegalStateException", Cond.initialized "java/lang/IllegalStateException", Cond.fieldLink RX5 47 "LentRights$House" "things" "LLentRights$Table;", Cond.methodLink RX5 40 yX5_requirePerson]
def wsL_law0_r5 : List Cond := [Cond.static yX5_requirePerson, Cond.code yX5_requirePerson cX5_requirePerson 1 none, Cond.classLink RX5 142 "java/lang/IndexOutOfBoundsException", Cond.initialized "java/lang/IndexOutOfBoundsException", Cond.methodLink RX5 262 yX5_isPerson, Cond.static yX5_isPerson, Cond.code yX5_isPerson cX5_isPerson 1 (some .boolean), Cond.methodLink RX5 267 yX5_isBetween, Cond.static yX5_isBetween, Cond.code yX5_isBetween cX5_isBetween 3 (some .boolean), Cond.methodLink RX5 44 yX5_requireMask, Cond.static yX5_requireMask, Cond.code yX5_requireMask cX5_requireMask 1 none, Cond.methodLink RX5 79 yX5_requireRange, Cond.static yX5_requireRange, Cond.code yX5_requireRange cX5_requireRange 3 none, Cond.classLink RX5 151 "java/lang/IllegalArgumentException", Cond.initialized "java/lang/IllegalArgumentException", Cond.methodLink RX5 51 yX3_isFull, Cond.instanceMethod yX3_isFull, Cond.selects RX3 yX3_isFull yX3_isFull, Cond.code yX3_isFull cX3_isFull 1 (some .boolean), Cond.methodLink RX5 64 yX1_keep, Cond.instanceMethod yX1_keep]
def wsL_law0_r6 : List Cond := [Cond.selects RX1 yX1_keep yX1_keep, Cond.code yX1_keep cX1_keep 2 none, Cond.fieldLink RX1 18 "LentRights$History" "count" "I", Cond.methodLink RX1 22 yX1_makeRoom, Cond.instanceMethod yX1_makeRoom, Cond.selects RX1 yX1_makeRoom yX1_makeRoom, Cond.code yX1_makeRoom cX1_makeRoom 3 none, Cond.methodLink RX1 25 yX2_takeOver, Cond.instanceMethod yX2_takeOver, Cond.selects RX2 yX2_takeOver yX2_takeOver, Cond.code yX2_takeOver cX2_takeOver 2 none, Cond.fieldLink RX2 44 "LentRights$House" "given" "I", Cond.fieldLink RX2 48 "LentRights$House" "died" "I", Cond.fieldLink RX2 51 "LentRights$House" "revoked" "I", Cond.fieldLink RX2 54 "LentRights$House" "time" "I", Cond.methodLink RX2 40 yX3_takeOver, Cond.instanceMethod yX3_takeOver, Cond.selects RX3 yX3_takeOver yX3_takeOver, Cond.code yX3_takeOver cX3_takeOver 4 none, Cond.methodLink RX5 68 yX2_takeIn, Cond.instanceMethod yX2_takeIn, Cond.selects RX2 yX2_takeIn yX2_takeIn, Cond.code yX2_takeIn cX2_takeIn 4 (some .int), Cond.methodLink RX2 57 yX2_settle]
def wsL_law0_r7 : List Cond := [Cond.instanceMethod yX2_settle, Cond.selects RX2 yX2_settle yX2_settle, Cond.code yX2_settle cX2_settle 8 none, Cond.methodLink RX2 104 yX3_rows, Cond.instanceMethod yX3_rows, Cond.selects RX3 yX3_rows yX3_rows, Cond.code yX3_rows cX3_rows 1 (some .int), Cond.methodLink RX2 60 yX3_at, Cond.instanceMethod yX3_at, Cond.selects RX3 yX3_at yX3_at, Cond.code yX3_at cX3_at 5 (some .int), Cond.methodLink RX2 123 yX2_passedOn, Cond.instanceMethod yX2_passedOn, Cond.selects RX2 yX2_passedOn yX2_passedOn, Cond.code yX2_passedOn cX2_passedOn 4 (some .int), Cond.methodLink RL 86 yL_isStep, Cond.static yL_isStep, Cond.code yL_isStep cL_isStep 14 (some .boolean), Cond.methodLink RL 15 yX5_cheer, Cond.instanceMethod yX5_cheer, Cond.selects RX5 yX5_cheer yX5_cheer, Cond.code yX5_cheer cX5_cheer 3 (some .int), Cond.methodLink RX5 111 yX2_changeMood, Cond.instanceMethod yX2_changeMood]
def wsL_law0_r8 : List Cond := [Cond.selects RX2 yX2_changeMood yX2_changeMood, Cond.code yX2_changeMood cX2_changeMood 5 (some .int), Cond.methodLink RX2 89 Lib.Math.min.name, Cond.static Lib.Math.min.name, Cond.initialized "java/lang/Math", Cond.code Lib.Math.min.name Lib.Math.min.code 2 (some .int), Cond.methodLink RX2 94 Lib.Math.max.name, Cond.static Lib.Math.max.name, Cond.code Lib.Math.max.name Lib.Math.max.code 2 (some .int), Cond.methodLink RX2 97 yX2_buryDying, Cond.instanceMethod yX2_buryDying, Cond.selects RX2 yX2_buryDying yX2_buryDying, Cond.code yX2_buryDying cX2_buryDying 3 (some .int), Cond.methodLink RX2 133 yX2_isDying, Cond.instanceMethod yX2_isDying, Cond.selects RX2 yX2_isDying yX2_isDying, Cond.code yX2_isDying cX2_isDying 2 (some .boolean), Cond.methodLink RX2 136 yX2_enter, Cond.instanceMethod yX2_enter, Cond.selects RX2 yX2_enter yX2_enter, Cond.code yX2_enter cX2_enter 3 none, Cond.methodLink RX2 78 yX3_isFull, Cond.methodLink RX2 85 yX3_drop, Cond.instanceMethod yX3_drop]
def wsL_law0_r9 : List Cond := [Cond.selects RX3 yX3_drop yX3_drop, Cond.code yX3_drop cX3_drop 5 none, Cond.methodLink RL 20 yX5_setBase, Cond.instanceMethod yX5_setBase, Cond.selects RX5 yX5_setBase yX5_setBase, Cond.code yX5_setBase cX5_setBase 4 (some .int), Cond.fieldLink RX5 83 "LentRights$House" "persons" "LLentRights$Table;", Cond.methodLink RX5 86 yX3_at, Cond.methodLink RX5 89 yX3_put, Cond.methodLink RL 23 yX5_setMask, Cond.instanceMethod yX5_setMask, Cond.selects RX5 yX5_setMask yX5_setMask, Cond.code yX5_setMask cX5_setMask 3 (some .int), Cond.methodLink RX5 72 yX5_requireThing, Cond.instanceMethod yX5_requireThing, Cond.selects RX5 yX5_requireThing yX5_requireThing, Cond.code yX5_requireThing cX5_requireThing 2 none, Cond.methodLink RX5 257 yX3_has, Cond.instanceMethod yX3_has, Cond.selects RX3 yX3_has yX3_has, Cond.code yX3_has cX3_has 2 (some .boolean), Cond.methodLink RX5 75 yX2_changeThing, Cond.instanceMethod yX2_changeThing, Cond.selects RX2 yX2_changeThing yX2_changeThing]
def wsL_law0_r10 : List Cond := [Cond.code yX2_changeThing cX2_changeThing 5 (some .int), Cond.methodLink RL 26 yX5_give, Cond.instanceMethod yX5_give, Cond.selects RX5 yX5_give yX5_give, Cond.code yX5_give cX5_give 3 (some .int), Cond.methodLink RL 29 yX5_pass, Cond.instanceMethod yX5_pass, Cond.selects RX5 yX5_pass yX5_pass, Cond.code yX5_pass cX5_pass 2 (some .int), Cond.methodLink RX5 114 yX2_hasTimeFor, Cond.instanceMethod yX2_hasTimeFor, Cond.selects RX2 yX2_hasTimeFor yX2_hasTimeFor, Cond.code yX2_hasTimeFor cX2_hasTimeFor 2 (some .boolean), Cond.constant RX2 100 (100000), Cond.methodLink RX5 120 yX2_letPass, Cond.instanceMethod yX2_letPass, Cond.selects RX2 yX2_letPass yX2_letPass, Cond.code yX2_letPass cX2_letPass 5 (some .int), Cond.methodLink RX2 101 yX2_calm, Cond.instanceMethod yX2_calm, Cond.selects RX2 yX2_calm yX2_calm, Cond.code yX2_calm cX2_calm 4 none, Cond.methodLink RL 33 yX5_thing, Cond.instanceMethod yX5_thing]
def wsL_law0_r11 : List Cond := [Cond.selects RX5 yX5_thing yX5_thing, Cond.code yX5_thing cX5_thing 3 (some .int), Cond.methodLink RX5 129 yX2_aboutThing, Cond.instanceMethod yX2_aboutThing, Cond.selects RX2 yX2_aboutThing yX2_aboutThing, Cond.code yX2_aboutThing cX2_aboutThing 3 (some .int), Cond.methodLink RX2 116 yX2_countEqual, Cond.static yX2_countEqual, Cond.code yX2_countEqual cX2_countEqual 5 (some .int), Cond.methodLink RX2 107 yX2_holdersOf, Cond.instanceMethod yX2_holdersOf, Cond.selects RX2 yX2_holdersOf yX2_holdersOf, Cond.code yX2_holdersOf cX2_holdersOf 5 (some .int), Cond.methodLink RL 36 yX5_gainBy, Cond.instanceMethod yX5_gainBy, Cond.selects RX5 yX5_gainBy yX5_gainBy, Cond.code yX5_gainBy cX5_gainBy 7 (some .int), Cond.methodLink RX5 92 yX2_faultOfGrant, Cond.instanceMethod yX2_faultOfGrant, Cond.selects RX2 yX2_faultOfGrant yX2_faultOfGrant, Cond.code yX2_faultOfGrant cX2_faultOfGrant 10 (some .int), Cond.methodLink RX2 68 yX3_has, Cond.methodLink RX2 75 yX2_rightsOf, Cond.instanceMethod yX2_rightsOf]
def wsL_law0_r12 : List Cond := [Cond.selects RX2 yX2_rightsOf yX2_rightsOf, Cond.code yX2_rightsOf cX2_rightsOf 3 (some .int), Cond.methodLink RX5 96 yX5_requireFit, Cond.static yX5_requireFit, Cond.code yX5_requireFit cX5_requireFit 1 none, Cond.methodLink RX5 177 yX2_takeOver, Cond.methodLink RX5 101 yX2_lend, Cond.instanceMethod yX2_lend, Cond.selects RX2 yX2_lend yX2_lend, Cond.code yX2_lend cX2_lend 8 (some .int), Cond.methodLink RX5 180 yX2_countPairs, Cond.instanceMethod yX2_countPairs, Cond.selects RX2 yX2_countPairs yX2_countPairs, Cond.code yX2_countPairs cX2_countPairs 3 (some .int), Cond.methodLink RX2 110 yJ6_bitCount_0f7a4, Cond.static yJ6_bitCount_0f7a4, Cond.initialized RJ6, Cond.code yJ6_bitCount_0f7a4 cJ6_bitCount_0f7a4 1 (some .int), Cond.constant RJ6 265 (1431655765), Cond.constant RJ6 266 (858993459), Cond.constant RJ6 267 (252645135), Cond.methodLink RL 40 yX5_value, Cond.instanceMethod yX5_value, Cond.selects RX5 yX5_value yX5_value]
def wsL_law0_r13 : List Cond := [Cond.code yX5_value cX5_value 2 (some .int), Cond.methodLink RX5 159 yX2_aboutHouse, Cond.instanceMethod yX2_aboutHouse, Cond.selects RX2 yX2_aboutHouse yX2_aboutHouse, Cond.code yX2_aboutHouse cX2_aboutHouse 2 (some .int), Cond.methodLink RX2 82 yX2_countPairs, Cond.methodLink RX2 126 yX2_countIdleGrants, Cond.instanceMethod yX2_countIdleGrants, Cond.selects RX2 yX2_countIdleGrants yX2_countIdleGrants, Cond.code yX2_countIdleGrants cX2_countIdleGrants 3 (some .int), Cond.methodLink RL 43 yX5_grant, Cond.instanceMethod yX5_grant, Cond.selects RX5 yX5_grant yX5_grant, Cond.code yX5_grant cX5_grant 7 (some .int), Cond.methodLink RL 46 yX5_grantOf, Cond.instanceMethod yX5_grantOf, Cond.selects RX5 yX5_grantOf yX5_grantOf, Cond.code yX5_grantOf cX5_grantOf 4 (some .int), Cond.methodLink RX5 104 yX5_requireGrant, Cond.instanceMethod yX5_requireGrant, Cond.selects RX5 yX5_requireGrant yX5_requireGrant, Cond.code yX5_requireGrant cX5_requireGrant 3 (some .int), Cond.classLink RX5 252 "java/util/NoSuchElementException", Cond.initialized "java/util/NoSuchElementException"]
def wsL_law0_r14 : List Cond := [Cond.methodLink RX5 245 yX2_placeOf, Cond.instanceMethod yX2_placeOf, Cond.selects RX2 yX2_placeOf yX2_placeOf, Cond.code yX2_placeOf cX2_placeOf 3 (some .int), Cond.methodLink RX5 132 yX2_aboutGrant, Cond.instanceMethod yX2_aboutGrant, Cond.selects RX2 yX2_aboutGrant yX2_aboutGrant, Cond.code yX2_aboutGrant cX2_aboutGrant 3 (some .int), Cond.methodLink RL 90 yL_areAlike, Cond.static yL_areAlike, Cond.code yL_areAlike cL_areAlike 6 (some .boolean), Cond.methodLink RL 49 yX5_meanChain, Cond.instanceMethod yX5_meanChain, Cond.selects RX5 yX5_meanChain yX5_meanChain, Cond.code yX5_meanChain cX5_meanChain 6 (some .double), Cond.methodLink RX5 165 yX3_rows, Cond.methodLink RX5 135 yX0_measure, Cond.instanceMethod yX0_measure, Cond.selects RX0 yX0_measure yX0_measure, Cond.code yX0_measure cX0_measure 7 none, Cond.fieldLink RX0 28 "LentRights$House" "things" "LLentRights$Table;", Cond.fieldLink RX0 37 "LentRights$House" "grants" "LLentRights$Table;", Cond.methodLink RX0 24 yX3_at, Cond.methodLink RX0 33 yX3_put]
def wsL_law0_r15 : List Cond := [Cond.methodLink RX0 40 yX3_rows, Cond.methodLink RX0 43 yX0_stepsTo, Cond.instanceMethod yX0_stepsTo, Cond.selects RX0 yX0_stepsTo yX0_stepsTo, Cond.code yX0_stepsTo cX0_stepsTo 2 (some .int), Cond.methodLink RX0 47 yX0_isLink, Cond.instanceMethod yX0_isLink, Cond.selects RX0 yX0_isLink yX0_isLink, Cond.code yX0_isLink cX0_isLink 5 (some .boolean), Cond.methodLink RX0 55 yX2_passedOn, Cond.methodLink RX5 139 yX0_stepsTo, Cond.methodLink RL 53 yX5_seenIn, Cond.instanceMethod yX5_seenIn, Cond.selects RX5 yX5_seenIn yX5_seenIn, Cond.code yX5_seenIn cX5_seenIn 2 (some .int), Cond.methodLink RL 56 yX5_person, Cond.instanceMethod yX5_person, Cond.selects RX5 yX5_person yX5_person, Cond.code yX5_person cX5_person 3 (some .int), Cond.methodLink RX5 126 yX2_aboutPerson, Cond.instanceMethod yX2_aboutPerson, Cond.selects RX2 yX2_aboutPerson yX2_aboutPerson, Cond.code yX2_aboutPerson cX2_aboutPerson 3 (some .int), Cond.methodLink RX2 120 yX2_thingsSeenBy]
def wsL_law0_r16 : List Cond := [Cond.instanceMethod yX2_thingsSeenBy, Cond.selects RX2 yX2_thingsSeenBy yX2_thingsSeenBy, Cond.code yX2_thingsSeenBy cX2_thingsSeenBy 4 (some .int), Cond.methodLink RL 59 yX5_patience, Cond.instanceMethod yX5_patience, Cond.selects RX5 yX5_patience yX5_patience, Cond.code yX5_patience cX5_patience 2 (some .int), Cond.methodLink RX5 183 yX2_greatestThreshold, Cond.instanceMethod yX2_greatestThreshold, Cond.selects RX2 yX2_greatestThreshold yX2_greatestThreshold, Cond.code yX2_greatestThreshold cX2_greatestThreshold 4 (some .int), Cond.methodLink RL 62 yX5_lostBy, Cond.instanceMethod yX5_lostBy, Cond.selects RX5 yX5_lostBy yX5_lostBy, Cond.code yX5_lostBy cX5_lostBy 2 (some .int), Cond.methodLink RX5 174 yX5_pairsLostBy, Cond.instanceMethod yX5_pairsLostBy, Cond.selects RX5 yX5_pairsLostBy yX5_pairsLostBy, Cond.code yX5_pairsLostBy cX5_pairsLostBy 2 (some .int), Cond.methodLink RL 65 yX5_chain, Cond.instanceMethod yX5_chain, Cond.selects RX5 yX5_chain yX5_chain, Cond.code yX5_chain cX5_chain 3 (some .int), Cond.methodLink RL 68 yX5_held]
def wsL_law0_r17 : List Cond := [Cond.instanceMethod yX5_held, Cond.selects RX5 yX5_held yX5_held, Cond.code yX5_held cX5_held 3 (some .int), Cond.methodLink RX5 123 yX2_rightsOf, Cond.methodLink RL 71 yX5_link, Cond.instanceMethod yX5_link, Cond.selects RX5 yX5_link yX5_link, Cond.code yX5_link cX5_link 4 (some .int), Cond.methodLink RX5 147 yX0_numberAt, Cond.instanceMethod yX0_numberAt, Cond.selects RX0 yX0_numberAt yX0_numberAt, Cond.code yX0_numberAt cX0_numberAt 9 (some .int), Cond.methodLink RX0 51 yX0_lastLink, Cond.instanceMethod yX0_lastLink, Cond.selects RX0 yX0_lastLink yX0_lastLink, Cond.code yX0_lastLink cX0_lastLink 7 (some .int), Cond.methodLink RL 75 yX5_why, Cond.instanceMethod yX5_why, Cond.selects RX5 yX5_why yX5_why, Cond.code yX5_why cX5_why 4 (some .int), Cond.methodLink RX5 156 yX2_reasonAgainst, Cond.instanceMethod yX2_reasonAgainst, Cond.selects RX2 yX2_reasonAgainst yX2_reasonAgainst, Cond.code yX2_reasonAgainst cX2_reasonAgainst 7 (some .int)]
def wsL_law0_r18 : List Cond := [Cond.methodLink RX2 129 yX2_isGrantOf, Cond.instanceMethod yX2_isGrantOf, Cond.selects RX2 yX2_isGrantOf yX2_isGrantOf, Cond.code yX2_isGrantOf cX2_isGrantOf 5 (some .boolean), Cond.methodLink RL 94 yL_isSound, Cond.static yL_isSound, Cond.code yL_isSound cL_isSound 7 (some .boolean)]
def wsL_law0 : List Cond := (wsL_law0_r1 ++ (wsL_law0_r2 ++ (wsL_law0_r3 ++ (wsL_law0_r4 ++ (wsL_law0_r5 ++ (wsL_law0_r6 ++ (wsL_law0_r7 ++ (wsL_law0_r8 ++ (wsL_law0_r9 ++ (wsL_law0_r10 ++ (wsL_law0_r11 ++ (wsL_law0_r12 ++ (wsL_law0_r13 ++ (wsL_law0_r14 ++ (wsL_law0_r15 ++ (wsL_law0_r16 ++ (wsL_law0_r17 ++ wsL_law0_r18))))))))))))))))) ++ wsX50 ++ wsX20 ++ wsX10 ++ wsX00 ++ wsX40 ++ wsX30 ++ ([] : List Cond)
def wsL_law : List Cond := wsL_law0 ++ (vx_atS RX5 61 "java/lang/IllegalStateException" ["java/lang/RuntimeException", "java/lang/Exception"]).filter goodWord ++ (vx_atS RX5 146 "java/lang/IndexOutOfBoundsException" ["java/lang/RuntimeException", "java/lang/Exception"]).filter goodWord ++ (vx_atS RX5 155 "java/lang/IllegalArgumentException" ["java/lang/RuntimeException", "java/lang/Exception"]).filter goodWord ++ (vy_atS RX5 256 "java/util/NoSuchElementException" 13 prog_19_method_4_code "java/lang/RuntimeException" ["java/lang/Exception"]).filter goodWord
set_option maxRecDepth 20000 in
theorem wsL_law0_m1 : ∀ w ∈ wsL_law0_r1, w ∈ lw_tbl := mem_r _ [32, 33, 17, 34, 35, 36, 37, 38, 39, 40, 41, 18, 155, 156, 106, 107, 20, 157, 122, 123, 21, 158, 135, 136] (by decide +kernel)
set_option maxRecDepth 20000 in
theorem wsL_law0_m2 : ∀ w ∈ wsL_law0_r2, w ∈ lw_tbl := mem_r _ [22, 159, 42, 43, 44, 45, 46, 47, 19, 74, 76, 79, 81, 82, 48, 49, 50, 51, 52, 53, 65, 54, 66, 67] (by decide +kernel)
set_option maxRecDepth 20000 in
theorem wsL_law0_m3 : ∀ w ∈ wsL_law0_r3, w ∈ lw_tbl := mem_r _ [68, 69, 55, 70, 71, 72, 73, 108, 109, 110, 111, 112, 115, 114, 124, 125, 126, 127, 128, 131, 129, 130, 137, 138] (by decide +kernel)
set_option maxRecDepth 20000 in
theorem wsL_law0_m4 : ∀ w ∈ wsL_law0_r4, w ∈ lw_tbl := mem_r _ [139, 140, 141, 143, 144, 145, 142, 331, 332, 16, 333, 334, 335, 336, 337, 338, 171, 172, 173, 174, 279, 28, 77, 175] (by decide +kernel)
set_option maxRecDepth 20000 in
theorem wsL_law0_m5 : ∀ w ∈ wsL_law0_r5, w ∈ lw_tbl := mem_r _ [176, 177, 184, 26, 178, 179, 180, 181, 182, 183, 253, 254, 255, 256, 257, 258, 259, 27, 275, 276, 277, 278, 295, 296] (by decide +kernel)
set_option maxRecDepth 20000 in
theorem wsL_law0_m6 : ∀ w ∈ wsL_law0_r6, w ∈ lw_tbl := mem_r _ [297, 298, 116, 299, 301, 1, 302, 303, 304, 305, 306, 83, 84, 85, 86, 307, 308, 309, 310, 311, 312, 313, 314, 315] (by decide +kernel)
set_option maxRecDepth 20000 in
theorem wsL_law0_m7 : ∀ w ∈ wsL_law0_r7, w ∈ lw_tbl := mem_r _ [317, 2, 318, 319, 320, 321, 322, 323, 324, 325, 326, 327, 328, 329, 330, 339, 340, 341, 342, 343, 344, 345, 346, 347] (by decide +kernel)
set_option maxRecDepth 20000 in
theorem wsL_law0_m8 : ∀ w ∈ wsL_law0_r8, w ∈ lw_tbl := mem_r _ [348, 349, 350, 351, 29, 352, 353, 354, 355, 356, 358, 3, 359, 360, 362, 4, 363, 364, 366, 5, 367, 368, 369, 370] (by decide +kernel)
set_option maxRecDepth 20000 in
theorem wsL_law0_m9 : ∀ w ∈ wsL_law0_r9, w ∈ lw_tbl := mem_r _ [371, 372, 373, 374, 375, 376, 75, 377, 378, 379, 380, 381, 382, 383, 385, 6, 386, 387, 388, 389, 390, 392, 393, 394] (by decide +kernel)
set_option maxRecDepth 20000 in
theorem wsL_law0_m10 : ∀ w ∈ wsL_law0_r10, w ∈ lw_tbl := mem_r _ [395, 396, 397, 398, 399, 400, 401, 402, 403, 404, 405, 406, 407, 408, 410, 411, 412, 413, 414, 416, 7, 417, 418, 419] (by decide +kernel)
set_option maxRecDepth 20000 in
theorem wsL_law0_m11 : ∀ w ∈ wsL_law0_r11, w ∈ lw_tbl := mem_r _ [420, 421, 422, 423, 424, 425, 426, 427, 428, 429, 431, 8, 432, 433, 434, 435, 436, 437, 438, 439, 440, 442, 444, 445] (by decide +kernel)
set_option maxRecDepth 20000 in
theorem wsL_law0_m12 : ∀ w ∈ wsL_law0_r12, w ∈ lw_tbl := mem_r _ [446, 447, 448, 449, 450, 453, 454, 455, 456, 457, 458, 459, 460, 461, 462, 463, 30, 464, 465, 466, 467, 468, 469, 470] (by decide +kernel)
set_option maxRecDepth 20000 in
theorem wsL_law0_m13 : ∀ w ∈ wsL_law0_r13, w ∈ lw_tbl := mem_r _ [471, 472, 473, 474, 475, 476, 477, 479, 9, 480, 481, 482, 483, 484, 486, 487, 488, 489, 490, 492, 10, 493, 498, 31] (by decide +kernel)
set_option maxRecDepth 20000 in
theorem wsL_law0_m14 : ∀ w ∈ wsL_law0_r14, w ∈ lw_tbl := mem_r _ [494, 495, 496, 497, 514, 515, 516, 517, 518, 519, 520, 521, 522, 523, 524, 525, 526, 527, 528, 529, 78, 80, 530, 531] (by decide +kernel)
set_option maxRecDepth 20000 in
theorem wsL_law0_m15 : ∀ w ∈ wsL_law0_r15, w ∈ lw_tbl := mem_r _ [532, 533, 534, 535, 536, 537, 539, 11, 540, 541, 542, 543, 544, 545, 546, 547, 548, 549, 550, 551, 552, 553, 554, 555] (by decide +kernel)
set_option maxRecDepth 20000 in
theorem wsL_law0_m16 : ∀ w ∈ wsL_law0_r16, w ∈ lw_tbl := mem_r _ [557, 12, 558, 559, 560, 561, 562, 563, 564, 565, 566, 567, 568, 569, 570, 571, 573, 13, 574, 575, 576, 577, 578, 579] (by decide +kernel)
set_option maxRecDepth 20000 in
theorem wsL_law0_m17 : ∀ w ∈ wsL_law0_r17, w ∈ lw_tbl := mem_r _ [580, 581, 582, 583, 584, 585, 586, 587, 589, 590, 591, 592, 593, 595, 14, 596, 597, 598, 599, 600, 602, 603, 604, 605] (by decide +kernel)
set_option maxRecDepth 20000 in
theorem wsL_law0_m18 : ∀ w ∈ wsL_law0_r18, w ∈ lw_tbl := mem_r _ [606, 608, 15, 609, 610, 611, 612] (by decide +kernel)
set_option maxRecDepth 20000 in
theorem wmX5 : ∀ w ∈ wsX50, w ∈ lw_tbl := mem_r _ [160, 162, 164, 166, 168] (by decide +kernel)
set_option maxRecDepth 20000 in
theorem wmX2 : ∀ w ∈ wsX20, w ∈ lw_tbl := mem_r _ [87, 89, 91, 93, 95, 97, 99, 101, 103] (by decide +kernel)
set_option maxRecDepth 20000 in
theorem wmX1 : ∀ w ∈ wsX10, w ∈ lw_tbl := mem_r _ [117, 119] (by decide +kernel)
set_option maxRecDepth 20000 in
theorem wmX0 : ∀ w ∈ wsX00, w ∈ lw_tbl := mem_r _ [132] (by decide +kernel)
set_option maxRecDepth 20000 in
theorem wmX4 : ∀ w ∈ wsX40, w ∈ lw_tbl := mem_r _ [146, 148, 150, 152] (by decide +kernel)
set_option maxRecDepth 20000 in
theorem wmX3 : ∀ w ∈ wsX30, w ∈ lw_tbl := mem_r _ [56, 58, 60, 62] (by decide +kernel)
theorem wsL_law_in0 : ∀ w ∈ wsL_law0, w ∈ lw_tbl := mem_ap (mem_ap (mem_ap (mem_ap (mem_ap (mem_ap (mem_ap (mem_ap wsL_law0_m1 (mem_ap wsL_law0_m2 (mem_ap wsL_law0_m3 (mem_ap wsL_law0_m4 (mem_ap wsL_law0_m5 (mem_ap wsL_law0_m6 (mem_ap wsL_law0_m7 (mem_ap wsL_law0_m8 (mem_ap wsL_law0_m9 (mem_ap wsL_law0_m10 (mem_ap wsL_law0_m11 (mem_ap wsL_law0_m12 (mem_ap wsL_law0_m13 (mem_ap wsL_law0_m14 (mem_ap wsL_law0_m15 (mem_ap wsL_law0_m16 (mem_ap wsL_law0_m17 (wsL_law0_m18)))))))))))))))))) wmX5) wmX2) wmX1) wmX0) wmX4) wmX3) (fun _ h => nomatch h)
theorem wsL_law_x0 : ∀ w ∈ (vx_atS RX5 61 "java/lang/IllegalStateException" ["java/lang/RuntimeException", "java/lang/Exception"]).filter goodWord, w ∈ lw_tbl := by decide +kernel
theorem wsL_law_x1 : ∀ w ∈ (vx_atS RX5 146 "java/lang/IndexOutOfBoundsException" ["java/lang/RuntimeException", "java/lang/Exception"]).filter goodWord, w ∈ lw_tbl := by decide +kernel
theorem wsL_law_x2 : ∀ w ∈ (vx_atS RX5 155 "java/lang/IllegalArgumentException" ["java/lang/RuntimeException", "java/lang/Exception"]).filter goodWord, w ∈ lw_tbl := by decide +kernel
theorem wsL_law_x3 : ∀ w ∈ (vy_atS RX5 256 "java/util/NoSuchElementException" 13 prog_19_method_4_code "java/lang/RuntimeException" ["java/lang/Exception"]).filter goodWord, w ∈ lw_tbl := by decide +kernel
theorem wsL_law_in : ∀ w ∈ wsL_law, w ∈ lw_tbl := fun w h => (List.mem_append.mp h).elim (fun h => (List.mem_append.mp h).elim (fun h => (List.mem_append.mp h).elim (fun h => (List.mem_append.mp h).elim (fun h => wsL_law_in0 w h) (fun h => wsL_law_x0 w h)) (fun h => wsL_law_x1 w h)) (fun h => wsL_law_x2 w h)) (fun h => wsL_law_x3 w h)
theorem inlX0 : ∀ w ∈ wsX00, w ∈ wsL_law := fun _ h => List.mem_append_left _ (List.mem_append_left _ (List.mem_append_left _ (List.mem_append_left _ (List.mem_append_left _ (List.mem_append_left _ (List.mem_append_left _ (List.mem_append_right _ h)))))))
theorem inX0 : ∀ w ∈ wsX00, w ∈ lw_tbl := fun w h => wsL_law_in w (inlX0 w h)
theorem inlX1 : ∀ w ∈ wsX10, w ∈ wsL_law := fun _ h => List.mem_append_left _ (List.mem_append_left _ (List.mem_append_left _ (List.mem_append_left _ (List.mem_append_left _ (List.mem_append_left _ (List.mem_append_left _ (List.mem_append_left _ (List.mem_append_right _ h))))))))
theorem inX1 : ∀ w ∈ wsX10, w ∈ lw_tbl := fun w h => wsL_law_in w (inlX1 w h)
theorem inlX2 : ∀ w ∈ wsX20, w ∈ wsL_law := fun _ h => List.mem_append_left _ (List.mem_append_left _ (List.mem_append_left _ (List.mem_append_left _ (List.mem_append_left _ (List.mem_append_left _ (List.mem_append_left _ (List.mem_append_left _ (List.mem_append_left _ (List.mem_append_right _ h)))))))))
theorem inX2 : ∀ w ∈ wsX20, w ∈ lw_tbl := fun w h => wsL_law_in w (inlX2 w h)
theorem inlX3 : ∀ w ∈ wsX30, w ∈ wsL_law := fun _ h => List.mem_append_left _ (List.mem_append_left _ (List.mem_append_left _ (List.mem_append_left _ (List.mem_append_left _ (List.mem_append_right _ h)))))
theorem inX3 : ∀ w ∈ wsX30, w ∈ lw_tbl := fun w h => wsL_law_in w (inlX3 w h)
theorem inlX4 : ∀ w ∈ wsX40, w ∈ wsL_law := fun _ h => List.mem_append_left _ (List.mem_append_left _ (List.mem_append_left _ (List.mem_append_left _ (List.mem_append_left _ (List.mem_append_left _ (List.mem_append_right _ h))))))
theorem inX4 : ∀ w ∈ wsX40, w ∈ lw_tbl := fun w h => wsL_law_in w (inlX4 w h)
theorem inlX5 : ∀ w ∈ wsX50, w ∈ wsL_law := fun _ h => List.mem_append_left _ (List.mem_append_left _ (List.mem_append_left _ (List.mem_append_left _ (List.mem_append_left _ (List.mem_append_left _ (List.mem_append_left _ (List.mem_append_left _ (List.mem_append_left _ (List.mem_append_left _ (List.mem_append_right _ h))))))))))
theorem inX5 : ∀ w ∈ wsX50, w ∈ lw_tbl := fun w h => wsL_law_in w (inlX5 w h)
theorem inX6 : ∀ w ∈ wsX60, w ∈ lw_tbl := by decide +kernel
theorem inJx145de : ∀ w ∈ wsJx145de0, w ∈ lw_tbl := by decide +kernel
theorem inJ6 : ∀ w ∈ wsJ60, w ∈ lw_tbl := by decide +kernel
theorem inJ9 : ∀ w ∈ wsJ90, w ∈ lw_tbl := by decide +kernel
theorem inJ0 : ∀ w ∈ wsJ00, w ∈ lw_tbl := by decide +kernel
end
section
abbrev vwCl : List vw_C := [(RX0, TX0, 1), (RX1, TX1, 2), (RX2, TX2, 9), (RX3, TX3, 4), (RX4, TX4, 4), (RX5, TX5, 5)]
set_option maxRecDepth 20000 in
theorem ggX0_init_X3_init : GoodIn wsX0_init wsX3_init := goodIn_r _ [10, 11, 2, 3, 12, 13, 14, 15, 21, 22, 23, 24] (by decide +kernel) (by decide +kernel)
set_option maxRecDepth 20000 in
theorem gX0_init_X3_init : GoodIn wsX0_init (wsX3_init) := ggX0_init_X3_init
set_option maxRecDepth 20000 in
theorem ggX0_init_X3_addRow : GoodIn wsX0_init wsX3_addRow := goodIn_r _ [19, 20, 12, 21, 22, 23, 24] (by decide +kernel) (by decide +kernel)
set_option maxRecDepth 20000 in
theorem gX0_init_X3_addRow : GoodIn wsX0_init (wsV RX0 20 RX3 yX3_addRow wsX3_addRow) := goodIn_app (goodIn_of _ (by decide +kernel)) ggX0_init_X3_addRow
theorem dX0_init_0 : decode cX0_init 0 = .ok (.aload_n 0, 1) := by decide +kernel
theorem dX0_init_1 : decode cX0_init 1 = .ok (.invokespecial 3, 3) := by decide +kernel
theorem dX0_init_4 : decode cX0_init 4 = .ok (.aload_n 0, 1) := by decide +kernel
theorem dX0_init_5 : decode cX0_init 5 = .ok (.new 9, 3) := by decide +kernel
theorem dX0_init_8 : decode cX0_init 8 = .ok (.dup, 1) := by decide +kernel
theorem dX0_init_9 : decode cX0_init 9 = .ok (.iconst 1, 1) := by decide +kernel
theorem dX0_init_10 : decode cX0_init 10 = .ok (.bipush 10, 2) := by decide +kernel
theorem dX0_init_12 : decode cX0_init 12 = .ok (.invokespecial 11, 3) := by decide +kernel
theorem dX0_init_15 : decode cX0_init 15 = .ok (.putfield 14, 3) := by decide +kernel
theorem dX0_init_18 : decode cX0_init 18 = .ok (.aload_n 0, 1) := by decide +kernel
theorem dX0_init_19 : decode cX0_init 19 = .ok (.getfield 14, 3) := by decide +kernel
theorem dX0_init_22 : decode cX0_init 22 = .ok (.invokevirtual 20, 3) := by decide +kernel
theorem dX0_init_25 : decode cX0_init 25 = .ok (.pop, 1) := by decide +kernel
theorem dX0_init_26 : decode cX0_init 26 = .ok (.return_, 1) := by decide +kernel
set_option maxRecDepth 20000 in
theorem ggX0_stepsTo_X3_at : GoodIn wsX0_stepsTo wsX3_at := goodIn_r _ [6, 7, 8, 9, 11, 12, 13, 14] (by decide +kernel) (by decide +kernel)
set_option maxRecDepth 20000 in
theorem gX0_stepsTo_X3_at : GoodIn wsX0_stepsTo (wsV RX0 24 RX3 yX3_at wsX3_at) := goodIn_app (goodIn_of _ (by decide +kernel)) ggX0_stepsTo_X3_at
theorem dX0_stepsTo_0 : decode cX0_stepsTo 0 = .ok (.aload_n 0, 1) := by decide +kernel
theorem dX0_stepsTo_1 : decode cX0_stepsTo 1 = .ok (.getfield 14, 3) := by decide +kernel
theorem dX0_stepsTo_4 : decode cX0_stepsTo 4 = .ok (.iconst 0, 1) := by decide +kernel
theorem dX0_stepsTo_5 : decode cX0_stepsTo 5 = .ok (.iload_n 1, 1) := by decide +kernel
theorem dX0_stepsTo_6 : decode cX0_stepsTo 6 = .ok (.invokevirtual 24, 3) := by decide +kernel
theorem dX0_stepsTo_9 : decode cX0_stepsTo 9 = .ok (.ireturn, 1) := by decide +kernel
set_option maxRecDepth 20000 in
theorem ggX0_measure_X3_at : GoodIn wsX0_measure wsX3_at := goodIn_r _ [8, 9, 10, 11, 48, 49, 50, 51] (by decide +kernel) (by decide +kernel)
set_option maxRecDepth 20000 in
theorem gX0_measure_X3_at : GoodIn wsX0_measure (wsV RX0 24 RX3 yX3_at wsX3_at) := goodIn_app (goodIn_of _ (by decide +kernel)) ggX0_measure_X3_at
set_option maxRecDepth 20000 in
theorem ggX0_measure_X3_put : GoodIn wsX0_measure wsX3_put := goodIn_r _ [15, 9, 10, 11, 48, 49, 50, 51] (by decide +kernel) (by decide +kernel)
set_option maxRecDepth 20000 in
theorem gX0_measure_X3_put : GoodIn wsX0_measure (wsV RX0 33 RX3 yX3_put wsX3_put) := goodIn_app (goodIn_of _ (by decide +kernel)) ggX0_measure_X3_put
set_option maxRecDepth 20000 in
theorem ggX0_measure_X3_rows : GoodIn wsX0_measure wsX3_rows := goodIn_r _ [19, 9, 48, 49, 50, 51] (by decide +kernel) (by decide +kernel)
set_option maxRecDepth 20000 in
theorem gX0_measure_X3_rows : GoodIn wsX0_measure (wsV RX0 40 RX3 yX3_rows wsX3_rows) := goodIn_app (goodIn_of _ (by decide +kernel)) ggX0_measure_X3_rows
set_option maxRecDepth 20000 in
theorem ggX0_measure_X0_stepsTo : GoodIn wsX0_measure wsX0_stepsTo := goodIn_r _ [24, 1, 4, 5, 6, 7, 8, 9, 10, 11, 38, 48, 49, 50, 51] (by decide +kernel) (by decide +kernel)
set_option maxRecDepth 20000 in
theorem gX0_measure_X0_stepsTo : GoodIn wsX0_measure (wsV RX0 43 RX0 yX0_stepsTo wsX0_stepsTo) := goodIn_app (goodIn_of _ (by decide +kernel)) ggX0_measure_X0_stepsTo
set_option maxRecDepth 20000 in
theorem ggX0_measure_X0_isLink : GoodIn wsX0_measure wsX0_isLink := goodIn_r _ [28, 3, 4, 5, 6, 7, 8, 9, 10, 11, 20, 21, 22, 23, 24, 1, 29, 30, 31, 32, 33, 34, 35, 36, 37, 39, 40, 41, 42, 43, 44, 45, 46, 47, 48, 49, 50, 51, 38] (by decide +kernel) (by decide +kernel)
set_option maxRecDepth 20000 in
theorem gX0_measure_X0_isLink : GoodIn wsX0_measure (wsV RX0 47 RX0 yX0_isLink wsX0_isLink) := goodIn_app (goodIn_of _ (by decide +kernel)) ggX0_measure_X0_isLink
theorem dX0_measure_0 : decode cX0_measure 0 = .ok (.iconst 0, 1) := by decide +kernel
theorem dX0_measure_1 : decode cX0_measure 1 = .ok (.istore_n 3, 1) := by decide +kernel
theorem dX0_measure_2 : decode cX0_measure 2 = .ok (.iload_n 3, 1) := by decide +kernel
theorem dX0_measure_3 : decode cX0_measure 3 = .ok (.bipush 10, 2) := by decide +kernel
theorem dX0_measure_5 : decode cX0_measure 5 = .ok (.if_icmp .ge 36, 3) := by decide +kernel
theorem dX0_measure_8 : decode cX0_measure 8 = .ok (.aload_n 0, 1) := by decide +kernel
theorem dX0_measure_9 : decode cX0_measure 9 = .ok (.getfield 14, 3) := by decide +kernel
theorem dX0_measure_12 : decode cX0_measure 12 = .ok (.iconst 0, 1) := by decide +kernel
theorem dX0_measure_13 : decode cX0_measure 13 = .ok (.iload_n 3, 1) := by decide +kernel
theorem dX0_measure_14 : decode cX0_measure 14 = .ok (.iload_n 3, 1) := by decide +kernel
theorem dX0_measure_15 : decode cX0_measure 15 = .ok (.aload_n 1, 1) := by decide +kernel
theorem dX0_measure_16 : decode cX0_measure 16 = .ok (.getfield 28, 3) := by decide +kernel
theorem dX0_measure_19 : decode cX0_measure 19 = .ok (.iload_n 2, 1) := by decide +kernel
theorem dX0_measure_20 : decode cX0_measure 20 = .ok (.iconst 0, 1) := by decide +kernel
theorem dX0_measure_21 : decode cX0_measure 21 = .ok (.invokevirtual 24, 3) := by decide +kernel
theorem dX0_measure_24 : decode cX0_measure 24 = .ok (.if_icmp .ne 7, 3) := by decide +kernel
theorem dX0_measure_27 : decode cX0_measure 27 = .ok (.iconst 0, 1) := by decide +kernel
theorem dX0_measure_28 : decode cX0_measure 28 = .ok (.goto 4, 3) := by decide +kernel
theorem dX0_measure_31 : decode cX0_measure 31 = .ok (.iconst (-1), 1) := by decide +kernel
theorem dX0_measure_32 : decode cX0_measure 32 = .ok (.invokevirtual 33, 3) := by decide +kernel
theorem dX0_measure_35 : decode cX0_measure 35 = .ok (.iinc 3 1, 3) := by decide +kernel
theorem dX0_measure_38 : decode cX0_measure 38 = .ok (.goto (-36), 3) := by decide +kernel
theorem dX0_measure_41 : decode cX0_measure 41 = .ok (.iconst 1, 1) := by decide +kernel
theorem dX0_measure_42 : decode cX0_measure 42 = .ok (.istore_n 3, 1) := by decide +kernel
theorem dX0_measure_43 : decode cX0_measure 43 = .ok (.iconst 1, 1) := by decide +kernel
theorem dX0_measure_44 : decode cX0_measure 44 = .ok (.istore 4, 2) := by decide +kernel
theorem dX0_measure_46 : decode cX0_measure 46 = .ok (.iload 4, 2) := by decide +kernel
theorem dX0_measure_48 : decode cX0_measure 48 = .ok (.bipush 10, 2) := by decide +kernel
theorem dX0_measure_50 : decode cX0_measure 50 = .ok (.if_icmp .ge 85, 3) := by decide +kernel
theorem dX0_measure_53 : decode cX0_measure 53 = .ok (.iload_n 3, 1) := by decide +kernel
theorem dX0_measure_54 : decode cX0_measure 54 = .ok (.ifCond .eq 81, 3) := by decide +kernel
theorem dX0_measure_57 : decode cX0_measure 57 = .ok (.iconst 0, 1) := by decide +kernel
theorem dX0_measure_58 : decode cX0_measure 58 = .ok (.istore_n 3, 1) := by decide +kernel
theorem dX0_measure_59 : decode cX0_measure 59 = .ok (.iconst 0, 1) := by decide +kernel
theorem dX0_measure_60 : decode cX0_measure 60 = .ok (.istore 5, 2) := by decide +kernel
theorem dX0_measure_62 : decode cX0_measure 62 = .ok (.iload 5, 2) := by decide +kernel
theorem dX0_measure_64 : decode cX0_measure 64 = .ok (.aload_n 1, 1) := by decide +kernel
theorem dX0_measure_65 : decode cX0_measure 65 = .ok (.getfield 37, 3) := by decide +kernel
theorem dX0_measure_68 : decode cX0_measure 68 = .ok (.invokevirtual 40, 3) := by decide +kernel
theorem dX0_measure_71 : decode cX0_measure 71 = .ok (.if_icmp .ge 58, 3) := by decide +kernel
theorem dX0_measure_74 : decode cX0_measure 74 = .ok (.aload_n 1, 1) := by decide +kernel
theorem dX0_measure_75 : decode cX0_measure 75 = .ok (.getfield 37, 3) := by decide +kernel
theorem dX0_measure_78 : decode cX0_measure 78 = .ok (.iload 5, 2) := by decide +kernel
theorem dX0_measure_80 : decode cX0_measure 80 = .ok (.iconst 1, 1) := by decide +kernel
theorem dX0_measure_81 : decode cX0_measure 81 = .ok (.invokevirtual 24, 3) := by decide +kernel
theorem dX0_measure_84 : decode cX0_measure 84 = .ok (.istore 6, 2) := by decide +kernel
theorem dX0_measure_86 : decode cX0_measure 86 = .ok (.aload_n 0, 1) := by decide +kernel
theorem dX0_measure_87 : decode cX0_measure 87 = .ok (.iload 6, 2) := by decide +kernel
theorem dX0_measure_89 : decode cX0_measure 89 = .ok (.invokevirtual 43, 3) := by decide +kernel
theorem dX0_measure_92 : decode cX0_measure 92 = .ok (.iconst (-1), 1) := by decide +kernel
theorem dX0_measure_93 : decode cX0_measure 93 = .ok (.if_icmp .ne 30, 3) := by decide +kernel
theorem dX0_measure_96 : decode cX0_measure 96 = .ok (.aload_n 0, 1) := by decide +kernel
theorem dX0_measure_97 : decode cX0_measure 97 = .ok (.aload_n 1, 1) := by decide +kernel
theorem dX0_measure_98 : decode cX0_measure 98 = .ok (.iload 5, 2) := by decide +kernel
theorem dX0_measure_100 : decode cX0_measure 100 = .ok (.iload_n 2, 1) := by decide +kernel
theorem dX0_measure_101 : decode cX0_measure 101 = .ok (.iload 4, 2) := by decide +kernel
theorem dX0_measure_103 : decode cX0_measure 103 = .ok (.invokevirtual 47, 3) := by decide +kernel
theorem dX0_measure_106 : decode cX0_measure 106 = .ok (.ifCond .eq 17, 3) := by decide +kernel
theorem dX0_measure_109 : decode cX0_measure 109 = .ok (.aload_n 0, 1) := by decide +kernel
theorem dX0_measure_110 : decode cX0_measure 110 = .ok (.getfield 14, 3) := by decide +kernel
theorem dX0_measure_113 : decode cX0_measure 113 = .ok (.iconst 0, 1) := by decide +kernel
theorem dX0_measure_114 : decode cX0_measure 114 = .ok (.iload 6, 2) := by decide +kernel
theorem dX0_measure_116 : decode cX0_measure 116 = .ok (.iload 4, 2) := by decide +kernel
theorem dX0_measure_118 : decode cX0_measure 118 = .ok (.invokevirtual 33, 3) := by decide +kernel
theorem dX0_measure_121 : decode cX0_measure 121 = .ok (.iconst 1, 1) := by decide +kernel
theorem dX0_measure_122 : decode cX0_measure 122 = .ok (.istore_n 3, 1) := by decide +kernel
theorem dX0_measure_123 : decode cX0_measure 123 = .ok (.iinc 5 1, 3) := by decide +kernel
theorem dX0_measure_126 : decode cX0_measure 126 = .ok (.goto (-64), 3) := by decide +kernel
theorem dX0_measure_129 : decode cX0_measure 129 = .ok (.iinc 4 1, 3) := by decide +kernel
theorem dX0_measure_132 : decode cX0_measure 132 = .ok (.goto (-86), 3) := by decide +kernel
theorem dX0_measure_135 : decode cX0_measure 135 = .ok (.return_, 1) := by decide +kernel
set_option maxRecDepth 20000 in
theorem ggX0_numberAt_X0_stepsTo : GoodIn wsX0_numberAt wsX0_stepsTo := goodIn_r _ [6, 7, 8, 9, 10, 11, 12, 13, 14, 15, 46, 47, 48, 49, 50] (by decide +kernel) (by decide +kernel)
set_option maxRecDepth 20000 in
theorem gX0_numberAt_X0_stepsTo : GoodIn wsX0_numberAt (wsV RX0 43 RX0 yX0_stepsTo wsX0_stepsTo) := goodIn_app (goodIn_of _ (by decide +kernel)) ggX0_numberAt_X0_stepsTo
set_option maxRecDepth 20000 in
theorem ggX0_numberAt_X0_lastLink : GoodIn wsX0_numberAt wsX0_lastLink := goodIn_r _ [19, 1, 20, 21, 22, 11, 23, 13, 8, 9, 10, 12, 14, 15, 24, 25, 26, 5, 27, 2, 3, 4, 6, 7, 28, 29, 30, 31, 32, 33, 34, 35, 36, 37, 38, 39, 40, 41, 42, 43, 44, 45, 47, 48, 49, 50, 46] (by decide +kernel) (by decide +kernel)
set_option maxRecDepth 20000 in
theorem gX0_numberAt_X0_lastLink : GoodIn wsX0_numberAt (wsV RX0 51 RX0 yX0_lastLink wsX0_lastLink) := goodIn_app (goodIn_of _ (by decide +kernel)) ggX0_numberAt_X0_lastLink
set_option maxRecDepth 20000 in
theorem ggX0_numberAt_X3_at : GoodIn wsX0_numberAt wsX3_at := goodIn_r _ [12, 13, 14, 15, 47, 48, 49, 50] (by decide +kernel) (by decide +kernel)
set_option maxRecDepth 20000 in
theorem gX0_numberAt_X3_at : GoodIn wsX0_numberAt (wsV RX0 24 RX3 yX3_at wsX3_at) := goodIn_app (goodIn_of _ (by decide +kernel)) ggX0_numberAt_X3_at
theorem dX0_numberAt_0 : decode cX0_numberAt 0 = .ok (.iconst (-1), 1) := by decide +kernel
theorem dX0_numberAt_1 : decode cX0_numberAt 1 = .ok (.istore 5, 2) := by decide +kernel
theorem dX0_numberAt_3 : decode cX0_numberAt 3 = .ok (.iload_n 2, 1) := by decide +kernel
theorem dX0_numberAt_4 : decode cX0_numberAt 4 = .ok (.istore 6, 2) := by decide +kernel
theorem dX0_numberAt_6 : decode cX0_numberAt 6 = .ok (.aload_n 0, 1) := by decide +kernel
theorem dX0_numberAt_7 : decode cX0_numberAt 7 = .ok (.iload_n 2, 1) := by decide +kernel
theorem dX0_numberAt_8 : decode cX0_numberAt 8 = .ok (.invokevirtual 43, 3) := by decide +kernel
theorem dX0_numberAt_11 : decode cX0_numberAt 11 = .ok (.istore 7, 2) := by decide +kernel
theorem dX0_numberAt_13 : decode cX0_numberAt 13 = .ok (.iload 7, 2) := by decide +kernel
theorem dX0_numberAt_15 : decode cX0_numberAt 15 = .ok (.iload 4, 2) := by decide +kernel
theorem dX0_numberAt_17 : decode cX0_numberAt 17 = .ok (.if_icmp .le 50, 3) := by decide +kernel
theorem dX0_numberAt_20 : decode cX0_numberAt 20 = .ok (.iload 7, 2) := by decide +kernel
theorem dX0_numberAt_22 : decode cX0_numberAt 22 = .ok (.ifCond .le 45, 3) := by decide +kernel
theorem dX0_numberAt_25 : decode cX0_numberAt 25 = .ok (.aload_n 0, 1) := by decide +kernel
theorem dX0_numberAt_26 : decode cX0_numberAt 26 = .ok (.aload_n 1, 1) := by decide +kernel
theorem dX0_numberAt_27 : decode cX0_numberAt 27 = .ok (.iload 6, 2) := by decide +kernel
theorem dX0_numberAt_29 : decode cX0_numberAt 29 = .ok (.iload_n 3, 1) := by decide +kernel
theorem dX0_numberAt_30 : decode cX0_numberAt 30 = .ok (.iload 7, 2) := by decide +kernel
theorem dX0_numberAt_32 : decode cX0_numberAt 32 = .ok (.invokevirtual 51, 3) := by decide +kernel
theorem dX0_numberAt_35 : decode cX0_numberAt 35 = .ok (.istore 8, 2) := by decide +kernel
theorem dX0_numberAt_37 : decode cX0_numberAt 37 = .ok (.aload_n 1, 1) := by decide +kernel
theorem dX0_numberAt_38 : decode cX0_numberAt 38 = .ok (.getfield 37, 3) := by decide +kernel
theorem dX0_numberAt_41 : decode cX0_numberAt 41 = .ok (.iload 8, 2) := by decide +kernel
theorem dX0_numberAt_43 : decode cX0_numberAt 43 = .ok (.iconst 5, 1) := by decide +kernel
theorem dX0_numberAt_44 : decode cX0_numberAt 44 = .ok (.invokevirtual 24, 3) := by decide +kernel
theorem dX0_numberAt_47 : decode cX0_numberAt 47 = .ok (.istore 5, 2) := by decide +kernel
theorem dX0_numberAt_49 : decode cX0_numberAt 49 = .ok (.aload_n 1, 1) := by decide +kernel
theorem dX0_numberAt_50 : decode cX0_numberAt 50 = .ok (.getfield 37, 3) := by decide +kernel
theorem dX0_numberAt_53 : decode cX0_numberAt 53 = .ok (.iload 8, 2) := by decide +kernel
theorem dX0_numberAt_55 : decode cX0_numberAt 55 = .ok (.iconst 0, 1) := by decide +kernel
theorem dX0_numberAt_56 : decode cX0_numberAt 56 = .ok (.invokevirtual 24, 3) := by decide +kernel
theorem dX0_numberAt_59 : decode cX0_numberAt 59 = .ok (.istore 6, 2) := by decide +kernel
theorem dX0_numberAt_61 : decode cX0_numberAt 61 = .ok (.iinc 7 (-1), 3) := by decide +kernel
theorem dX0_numberAt_64 : decode cX0_numberAt 64 = .ok (.goto (-51), 3) := by decide +kernel
theorem dX0_numberAt_67 : decode cX0_numberAt 67 = .ok (.iload 5, 2) := by decide +kernel
theorem dX0_numberAt_69 : decode cX0_numberAt 69 = .ok (.ireturn, 1) := by decide +kernel
set_option maxRecDepth 20000 in
theorem ggX0_lastLink_X3_rows : GoodIn wsX0_lastLink wsX3_rows := goodIn_r _ [6, 7, 42, 43, 44, 45] (by decide +kernel) (by decide +kernel)
set_option maxRecDepth 20000 in
theorem gX0_lastLink_X3_rows : GoodIn wsX0_lastLink (wsV RX0 40 RX3 yX3_rows wsX3_rows) := goodIn_app (goodIn_of _ (by decide +kernel)) ggX0_lastLink_X3_rows
set_option maxRecDepth 20000 in
theorem ggX0_lastLink_X3_at : GoodIn wsX0_lastLink wsX3_at := goodIn_r _ [11, 7, 12, 13, 42, 43, 44, 45] (by decide +kernel) (by decide +kernel)
set_option maxRecDepth 20000 in
theorem gX0_lastLink_X3_at : GoodIn wsX0_lastLink (wsV RX0 24 RX3 yX3_at wsX3_at) := goodIn_app (goodIn_of _ (by decide +kernel)) ggX0_lastLink_X3_at
set_option maxRecDepth 20000 in
theorem ggX0_lastLink_X0_isLink : GoodIn wsX0_lastLink wsX0_isLink := goodIn_r _ [18, 1, 8, 9, 10, 5, 11, 7, 12, 13, 19, 20, 21, 17, 22, 23, 24, 25, 26, 27, 28, 29, 30, 31, 32, 33, 34, 35, 36, 37, 38, 39, 40, 41, 42, 43, 44, 45, 46] (by decide +kernel) (by decide +kernel)
set_option maxRecDepth 20000 in
theorem gX0_lastLink_X0_isLink : GoodIn wsX0_lastLink (wsV RX0 47 RX0 yX0_isLink wsX0_isLink) := goodIn_app (goodIn_of _ (by decide +kernel)) ggX0_lastLink_X0_isLink
theorem dX0_lastLink_0 : decode cX0_lastLink 0 = .ok (.iconst 0, 1) := by decide +kernel
theorem dX0_lastLink_1 : decode cX0_lastLink 1 = .ok (.istore 5, 2) := by decide +kernel
theorem dX0_lastLink_3 : decode cX0_lastLink 3 = .ok (.iload 5, 2) := by decide +kernel
theorem dX0_lastLink_5 : decode cX0_lastLink 5 = .ok (.aload_n 1, 1) := by decide +kernel
theorem dX0_lastLink_6 : decode cX0_lastLink 6 = .ok (.getfield 37, 3) := by decide +kernel
theorem dX0_lastLink_9 : decode cX0_lastLink 9 = .ok (.invokevirtual 40, 3) := by decide +kernel
theorem dX0_lastLink_12 : decode cX0_lastLink 12 = .ok (.if_icmp .ge 51, 3) := by decide +kernel
theorem dX0_lastLink_15 : decode cX0_lastLink 15 = .ok (.aload_n 1, 1) := by decide +kernel
theorem dX0_lastLink_16 : decode cX0_lastLink 16 = .ok (.getfield 37, 3) := by decide +kernel
theorem dX0_lastLink_19 : decode cX0_lastLink 19 = .ok (.iload 5, 2) := by decide +kernel
theorem dX0_lastLink_21 : decode cX0_lastLink 21 = .ok (.iconst 1, 1) := by decide +kernel
theorem dX0_lastLink_22 : decode cX0_lastLink 22 = .ok (.invokevirtual 24, 3) := by decide +kernel
theorem dX0_lastLink_25 : decode cX0_lastLink 25 = .ok (.iload_n 2, 1) := by decide +kernel
theorem dX0_lastLink_26 : decode cX0_lastLink 26 = .ok (.if_icmp .ne 7, 3) := by decide +kernel
theorem dX0_lastLink_29 : decode cX0_lastLink 29 = .ok (.iconst 1, 1) := by decide +kernel
theorem dX0_lastLink_30 : decode cX0_lastLink 30 = .ok (.goto 4, 3) := by decide +kernel
theorem dX0_lastLink_33 : decode cX0_lastLink 33 = .ok (.iconst 0, 1) := by decide +kernel
theorem dX0_lastLink_34 : decode cX0_lastLink 34 = .ok (.istore 6, 2) := by decide +kernel
theorem dX0_lastLink_36 : decode cX0_lastLink 36 = .ok (.iload 6, 2) := by decide +kernel
theorem dX0_lastLink_38 : decode cX0_lastLink 38 = .ok (.ifCond .eq 19, 3) := by decide +kernel
theorem dX0_lastLink_41 : decode cX0_lastLink 41 = .ok (.aload_n 0, 1) := by decide +kernel
theorem dX0_lastLink_42 : decode cX0_lastLink 42 = .ok (.aload_n 1, 1) := by decide +kernel
theorem dX0_lastLink_43 : decode cX0_lastLink 43 = .ok (.iload 5, 2) := by decide +kernel
theorem dX0_lastLink_45 : decode cX0_lastLink 45 = .ok (.iload_n 3, 1) := by decide +kernel
theorem dX0_lastLink_46 : decode cX0_lastLink 46 = .ok (.iload 4, 2) := by decide +kernel
theorem dX0_lastLink_48 : decode cX0_lastLink 48 = .ok (.invokevirtual 47, 3) := by decide +kernel
theorem dX0_lastLink_51 : decode cX0_lastLink 51 = .ok (.ifCond .eq 6, 3) := by decide +kernel
theorem dX0_lastLink_54 : decode cX0_lastLink 54 = .ok (.iload 5, 2) := by decide +kernel
theorem dX0_lastLink_56 : decode cX0_lastLink 56 = .ok (.ireturn, 1) := by decide +kernel
theorem dX0_lastLink_57 : decode cX0_lastLink 57 = .ok (.iinc 5 1, 3) := by decide +kernel
theorem dX0_lastLink_60 : decode cX0_lastLink 60 = .ok (.goto (-57), 3) := by decide +kernel
theorem dX0_lastLink_63 : decode cX0_lastLink 63 = .ok (.iconst (-1), 1) := by decide +kernel
theorem dX0_lastLink_64 : decode cX0_lastLink 64 = .ok (.ireturn, 1) := by decide +kernel
set_option maxRecDepth 20000 in
theorem ggX0_isLink_X3_at : GoodIn wsX0_isLink wsX3_at := goodIn_r _ [6, 7, 8, 9, 34, 35, 36, 37] (by decide +kernel) (by decide +kernel)
set_option maxRecDepth 20000 in
theorem gX0_isLink_X3_at : GoodIn wsX0_isLink (wsV RX0 24 RX3 yX3_at wsX3_at) := goodIn_app (goodIn_of _ (by decide +kernel)) ggX0_isLink_X3_at
set_option maxRecDepth 20000 in
theorem ggX0_isLink_X0_stepsTo : GoodIn wsX0_isLink wsX0_stepsTo := goodIn_r _ [14, 15, 2, 3, 4, 5, 6, 7, 8, 9, 38, 34, 35, 36, 37] (by decide +kernel) (by decide +kernel)
set_option maxRecDepth 20000 in
theorem gX0_isLink_X0_stepsTo : GoodIn wsX0_isLink (wsV RX0 43 RX0 yX0_stepsTo wsX0_stepsTo) := goodIn_app (goodIn_of _ (by decide +kernel)) ggX0_isLink_X0_stepsTo
set_option maxRecDepth 20000 in
theorem ggX0_isLink_X2_passedOn : GoodIn wsX0_isLink wsX2_passedOn := goodIn_r _ [20, 21, 22, 23, 24, 3, 4, 5, 6, 7, 8, 9, 25, 26, 27, 28, 29, 30, 31, 32, 33, 34, 35, 36, 37] (by decide +kernel) (by decide +kernel)
set_option maxRecDepth 20000 in
theorem gX0_isLink_X2_passedOn : GoodIn wsX0_isLink (wsV RX0 55 RX2 yX2_passedOn wsX2_passedOn) := goodIn_app (goodIn_of _ (by decide +kernel)) ggX0_isLink_X2_passedOn
theorem dX0_isLink_0 : decode cX0_isLink 0 = .ok (.aload_n 1, 1) := by decide +kernel
theorem dX0_isLink_1 : decode cX0_isLink 1 = .ok (.getfield 37, 3) := by decide +kernel
theorem dX0_isLink_4 : decode cX0_isLink 4 = .ok (.iload_n 2, 1) := by decide +kernel
theorem dX0_isLink_5 : decode cX0_isLink 5 = .ok (.iconst 2, 1) := by decide +kernel
theorem dX0_isLink_6 : decode cX0_isLink 6 = .ok (.invokevirtual 24, 3) := by decide +kernel
theorem dX0_isLink_9 : decode cX0_isLink 9 = .ok (.iload_n 3, 1) := by decide +kernel
theorem dX0_isLink_10 : decode cX0_isLink 10 = .ok (.if_icmp .ne 37, 3) := by decide +kernel
theorem dX0_isLink_13 : decode cX0_isLink 13 = .ok (.aload_n 0, 1) := by decide +kernel
theorem dX0_isLink_14 : decode cX0_isLink 14 = .ok (.aload_n 1, 1) := by decide +kernel
theorem dX0_isLink_15 : decode cX0_isLink 15 = .ok (.getfield 37, 3) := by decide +kernel
theorem dX0_isLink_18 : decode cX0_isLink 18 = .ok (.iload_n 2, 1) := by decide +kernel
theorem dX0_isLink_19 : decode cX0_isLink 19 = .ok (.iconst 0, 1) := by decide +kernel
theorem dX0_isLink_20 : decode cX0_isLink 20 = .ok (.invokevirtual 24, 3) := by decide +kernel
theorem dX0_isLink_23 : decode cX0_isLink 23 = .ok (.invokevirtual 43, 3) := by decide +kernel
theorem dX0_isLink_26 : decode cX0_isLink 26 = .ok (.iload 4, 2) := by decide +kernel
theorem dX0_isLink_28 : decode cX0_isLink 28 = .ok (.iconst 1, 1) := by decide +kernel
theorem dX0_isLink_29 : decode cX0_isLink 29 = .ok (.isub, 1) := by decide +kernel
theorem dX0_isLink_30 : decode cX0_isLink 30 = .ok (.if_icmp .ne 17, 3) := by decide +kernel
theorem dX0_isLink_33 : decode cX0_isLink 33 = .ok (.aload_n 1, 1) := by decide +kernel
theorem dX0_isLink_34 : decode cX0_isLink 34 = .ok (.iload_n 2, 1) := by decide +kernel
theorem dX0_isLink_35 : decode cX0_isLink 35 = .ok (.invokevirtual 55, 3) := by decide +kernel
theorem dX0_isLink_38 : decode cX0_isLink 38 = .ok (.iconst 1, 1) := by decide +kernel
theorem dX0_isLink_39 : decode cX0_isLink 39 = .ok (.iand, 1) := by decide +kernel
theorem dX0_isLink_40 : decode cX0_isLink 40 = .ok (.ifCond .eq 7, 3) := by decide +kernel
theorem dX0_isLink_43 : decode cX0_isLink 43 = .ok (.iconst 1, 1) := by decide +kernel
theorem dX0_isLink_44 : decode cX0_isLink 44 = .ok (.goto 4, 3) := by decide +kernel
theorem dX0_isLink_47 : decode cX0_isLink 47 = .ok (.iconst 0, 1) := by decide +kernel
theorem dX0_isLink_48 : decode cX0_isLink 48 = .ok (.ireturn, 1) := by decide +kernel
set_option maxRecDepth 20000 in
theorem ggX1_init_X2_init : GoodIn wsX1_init wsX2_init := goodIn_r _ [10, 11, 2, 3, 12, 13, 14, 15, 16, 17, 18, 19, 20, 21, 22, 23, 24, 25, 26, 27, 28, 29, 30, 31, 32, 33, 34, 35, 36, 48, 49, 50, 51, 39, 40, 41, 42, 43, 44, 45, 46, 47] (by decide +kernel) (by decide +kernel)
set_option maxRecDepth 20000 in
theorem gX1_init_X2_init : GoodIn wsX1_init (wsX2_init) := ggX1_init_X2_init
theorem dX1_init_0 : decode cX1_init 0 = .ok (.aload_n 0, 1) := by decide +kernel
theorem dX1_init_1 : decode cX1_init 1 = .ok (.invokespecial 3, 3) := by decide +kernel
theorem dX1_init_4 : decode cX1_init 4 = .ok (.aload_n 0, 1) := by decide +kernel
theorem dX1_init_5 : decode cX1_init 5 = .ok (.iconst 4, 1) := by decide +kernel
theorem dX1_init_6 : decode cX1_init 6 = .ok (.anewarray 9, 3) := by decide +kernel
theorem dX1_init_9 : decode cX1_init 9 = .ok (.putfield 11, 3) := by decide +kernel
theorem dX1_init_12 : decode cX1_init 12 = .ok (.iconst 0, 1) := by decide +kernel
theorem dX1_init_13 : decode cX1_init 13 = .ok (.istore_n 1, 1) := by decide +kernel
theorem dX1_init_14 : decode cX1_init 14 = .ok (.iload_n 1, 1) := by decide +kernel
theorem dX1_init_15 : decode cX1_init 15 = .ok (.aload_n 0, 1) := by decide +kernel
theorem dX1_init_16 : decode cX1_init 16 = .ok (.getfield 11, 3) := by decide +kernel
theorem dX1_init_19 : decode cX1_init 19 = .ok (.arraylength, 1) := by decide +kernel
theorem dX1_init_20 : decode cX1_init 20 = .ok (.if_icmp .ge 22, 3) := by decide +kernel
theorem dX1_init_23 : decode cX1_init 23 = .ok (.aload_n 0, 1) := by decide +kernel
theorem dX1_init_24 : decode cX1_init 24 = .ok (.getfield 11, 3) := by decide +kernel
theorem dX1_init_27 : decode cX1_init 27 = .ok (.iload_n 1, 1) := by decide +kernel
theorem dX1_init_28 : decode cX1_init 28 = .ok (.new 9, 3) := by decide +kernel
theorem dX1_init_31 : decode cX1_init 31 = .ok (.dup, 1) := by decide +kernel
theorem dX1_init_32 : decode cX1_init 32 = .ok (.invokespecial 17, 3) := by decide +kernel
theorem dX1_init_35 : decode cX1_init 35 = .ok (.aastore, 1) := by decide +kernel
theorem dX1_init_36 : decode cX1_init 36 = .ok (.iinc 1 1, 3) := by decide +kernel
theorem dX1_init_39 : decode cX1_init 39 = .ok (.goto (-25), 3) := by decide +kernel
theorem dX1_init_42 : decode cX1_init 42 = .ok (.return_, 1) := by decide +kernel
set_option maxRecDepth 20000 in
theorem ggX1_keep_X1_makeRoom : GoodIn wsX1_keep wsX1_makeRoom := goodIn_r _ [7, 2, 1, 31, 32] (by decide +kernel) (by decide +kernel)
set_option maxRecDepth 20000 in
theorem gX1_keep_X1_makeRoom : GoodIn wsX1_keep (wsV RX1 22 RX1 yX1_makeRoom wsX1_makeRoom) := goodIn_app (goodIn_of _ (by decide +kernel)) ggX1_keep_X1_makeRoom
set_option maxRecDepth 20000 in
theorem ggX1_keep_X2_takeOver : GoodIn wsX1_keep wsX2_takeOver := goodIn_r _ [12, 13, 14, 15, 16, 17, 18, 19, 20, 21, 22, 23, 24, 25, 26, 27, 28, 29, 30, 33, 34, 35, 36, 37, 38, 39, 40, 41, 42, 43, 44, 45] (by decide +kernel) (by decide +kernel)
set_option maxRecDepth 20000 in
theorem gX1_keep_X2_takeOver : GoodIn wsX1_keep (wsV RX1 25 RX2 yX2_takeOver wsX2_takeOver) := goodIn_app (goodIn_of _ (by decide +kernel)) ggX1_keep_X2_takeOver
theorem dX1_keep_0 : decode cX1_keep 0 = .ok (.aload_n 0, 1) := by decide +kernel
theorem dX1_keep_1 : decode cX1_keep 1 = .ok (.getfield 18, 3) := by decide +kernel
theorem dX1_keep_4 : decode cX1_keep 4 = .ok (.aload_n 0, 1) := by decide +kernel
theorem dX1_keep_5 : decode cX1_keep 5 = .ok (.getfield 11, 3) := by decide +kernel
theorem dX1_keep_8 : decode cX1_keep 8 = .ok (.arraylength, 1) := by decide +kernel
theorem dX1_keep_9 : decode cX1_keep 9 = .ok (.if_icmp .lt 7, 3) := by decide +kernel
theorem dX1_keep_12 : decode cX1_keep 12 = .ok (.aload_n 0, 1) := by decide +kernel
theorem dX1_keep_13 : decode cX1_keep 13 = .ok (.invokevirtual 22, 3) := by decide +kernel
theorem dX1_keep_16 : decode cX1_keep 16 = .ok (.aload_n 0, 1) := by decide +kernel
theorem dX1_keep_17 : decode cX1_keep 17 = .ok (.getfield 18, 3) := by decide +kernel
theorem dX1_keep_20 : decode cX1_keep 20 = .ok (.ifCond .lt 50, 3) := by decide +kernel
theorem dX1_keep_23 : decode cX1_keep 23 = .ok (.aload_n 0, 1) := by decide +kernel
theorem dX1_keep_24 : decode cX1_keep 24 = .ok (.getfield 18, 3) := by decide +kernel
theorem dX1_keep_27 : decode cX1_keep 27 = .ok (.aload_n 0, 1) := by decide +kernel
theorem dX1_keep_28 : decode cX1_keep 28 = .ok (.getfield 11, 3) := by decide +kernel
theorem dX1_keep_31 : decode cX1_keep 31 = .ok (.arraylength, 1) := by decide +kernel
theorem dX1_keep_32 : decode cX1_keep 32 = .ok (.if_icmp .ge 38, 3) := by decide +kernel
theorem dX1_keep_35 : decode cX1_keep 35 = .ok (.aload_n 0, 1) := by decide +kernel
theorem dX1_keep_36 : decode cX1_keep 36 = .ok (.getfield 11, 3) := by decide +kernel
theorem dX1_keep_39 : decode cX1_keep 39 = .ok (.aload_n 0, 1) := by decide +kernel
theorem dX1_keep_40 : decode cX1_keep 40 = .ok (.getfield 18, 3) := by decide +kernel
theorem dX1_keep_43 : decode cX1_keep 43 = .ok (.aaload, 1) := by decide +kernel
theorem dX1_keep_44 : decode cX1_keep 44 = .ok (.ifnull 26, 3) := by decide +kernel
theorem dX1_keep_47 : decode cX1_keep 47 = .ok (.aload_n 0, 1) := by decide +kernel
theorem dX1_keep_48 : decode cX1_keep 48 = .ok (.getfield 11, 3) := by decide +kernel
theorem dX1_keep_51 : decode cX1_keep 51 = .ok (.aload_n 0, 1) := by decide +kernel
theorem dX1_keep_52 : decode cX1_keep 52 = .ok (.getfield 18, 3) := by decide +kernel
theorem dX1_keep_55 : decode cX1_keep 55 = .ok (.aaload, 1) := by decide +kernel
theorem dX1_keep_56 : decode cX1_keep 56 = .ok (.aload_n 1, 1) := by decide +kernel
theorem dX1_keep_57 : decode cX1_keep 57 = .ok (.invokevirtual 25, 3) := by decide +kernel
theorem dX1_keep_60 : decode cX1_keep 60 = .ok (.aload_n 0, 1) := by decide +kernel
theorem dX1_keep_61 : decode cX1_keep 61 = .ok (.dup, 1) := by decide +kernel
theorem dX1_keep_62 : decode cX1_keep 62 = .ok (.getfield 18, 3) := by decide +kernel
theorem dX1_keep_65 : decode cX1_keep 65 = .ok (.iconst 1, 1) := by decide +kernel
theorem dX1_keep_66 : decode cX1_keep 66 = .ok (.iadd, 1) := by decide +kernel
theorem dX1_keep_67 : decode cX1_keep 67 = .ok (.putfield 18, 3) := by decide +kernel
theorem dX1_keep_70 : decode cX1_keep 70 = .ok (.return_, 1) := by decide +kernel
theorem dX1_makeRoom_0 : decode cX1_makeRoom 0 = .ok (.aload_n 0, 1) := by decide +kernel
theorem dX1_makeRoom_1 : decode cX1_makeRoom 1 = .ok (.getfield 11, 3) := by decide +kernel
theorem dX1_makeRoom_4 : decode cX1_makeRoom 4 = .ok (.arraylength, 1) := by decide +kernel
theorem dX1_makeRoom_5 : decode cX1_makeRoom 5 = .ok (.ifCond .ne 4, 3) := by decide +kernel
theorem dX1_makeRoom_8 : decode cX1_makeRoom 8 = .ok (.return_, 1) := by decide +kernel
theorem dX1_makeRoom_9 : decode cX1_makeRoom 9 = .ok (.aload_n 0, 1) := by decide +kernel
theorem dX1_makeRoom_10 : decode cX1_makeRoom 10 = .ok (.getfield 11, 3) := by decide +kernel
theorem dX1_makeRoom_13 : decode cX1_makeRoom 13 = .ok (.iconst 0, 1) := by decide +kernel
theorem dX1_makeRoom_14 : decode cX1_makeRoom 14 = .ok (.aaload, 1) := by decide +kernel
theorem dX1_makeRoom_15 : decode cX1_makeRoom 15 = .ok (.astore_n 1, 1) := by decide +kernel
theorem dX1_makeRoom_16 : decode cX1_makeRoom 16 = .ok (.iconst 1, 1) := by decide +kernel
theorem dX1_makeRoom_17 : decode cX1_makeRoom 17 = .ok (.istore_n 2, 1) := by decide +kernel
theorem dX1_makeRoom_18 : decode cX1_makeRoom 18 = .ok (.iload_n 2, 1) := by decide +kernel
theorem dX1_makeRoom_19 : decode cX1_makeRoom 19 = .ok (.aload_n 0, 1) := by decide +kernel
theorem dX1_makeRoom_20 : decode cX1_makeRoom 20 = .ok (.getfield 11, 3) := by decide +kernel
theorem dX1_makeRoom_23 : decode cX1_makeRoom 23 = .ok (.arraylength, 1) := by decide +kernel
theorem dX1_makeRoom_24 : decode cX1_makeRoom 24 = .ok (.if_icmp .ge 23, 3) := by decide +kernel
theorem dX1_makeRoom_27 : decode cX1_makeRoom 27 = .ok (.aload_n 0, 1) := by decide +kernel
theorem dX1_makeRoom_28 : decode cX1_makeRoom 28 = .ok (.getfield 11, 3) := by decide +kernel
theorem dX1_makeRoom_31 : decode cX1_makeRoom 31 = .ok (.iload_n 2, 1) := by decide +kernel
theorem dX1_makeRoom_32 : decode cX1_makeRoom 32 = .ok (.iconst 1, 1) := by decide +kernel
theorem dX1_makeRoom_33 : decode cX1_makeRoom 33 = .ok (.isub, 1) := by decide +kernel
theorem dX1_makeRoom_34 : decode cX1_makeRoom 34 = .ok (.aload_n 0, 1) := by decide +kernel
theorem dX1_makeRoom_35 : decode cX1_makeRoom 35 = .ok (.getfield 11, 3) := by decide +kernel
theorem dX1_makeRoom_38 : decode cX1_makeRoom 38 = .ok (.iload_n 2, 1) := by decide +kernel
theorem dX1_makeRoom_39 : decode cX1_makeRoom 39 = .ok (.aaload, 1) := by decide +kernel
theorem dX1_makeRoom_40 : decode cX1_makeRoom 40 = .ok (.aastore, 1) := by decide +kernel
theorem dX1_makeRoom_41 : decode cX1_makeRoom 41 = .ok (.iinc 2 1, 3) := by decide +kernel
theorem dX1_makeRoom_44 : decode cX1_makeRoom 44 = .ok (.goto (-26), 3) := by decide +kernel
theorem dX1_makeRoom_47 : decode cX1_makeRoom 47 = .ok (.aload_n 0, 1) := by decide +kernel
theorem dX1_makeRoom_48 : decode cX1_makeRoom 48 = .ok (.getfield 11, 3) := by decide +kernel
theorem dX1_makeRoom_51 : decode cX1_makeRoom 51 = .ok (.aload_n 0, 1) := by decide +kernel
theorem dX1_makeRoom_52 : decode cX1_makeRoom 52 = .ok (.getfield 11, 3) := by decide +kernel
theorem dX1_makeRoom_55 : decode cX1_makeRoom 55 = .ok (.arraylength, 1) := by decide +kernel
theorem dX1_makeRoom_56 : decode cX1_makeRoom 56 = .ok (.iconst 1, 1) := by decide +kernel
theorem dX1_makeRoom_57 : decode cX1_makeRoom 57 = .ok (.isub, 1) := by decide +kernel
theorem dX1_makeRoom_58 : decode cX1_makeRoom 58 = .ok (.aload_n 1, 1) := by decide +kernel
theorem dX1_makeRoom_59 : decode cX1_makeRoom 59 = .ok (.aastore, 1) := by decide +kernel
theorem dX1_makeRoom_60 : decode cX1_makeRoom 60 = .ok (.aload_n 0, 1) := by decide +kernel
theorem dX1_makeRoom_61 : decode cX1_makeRoom 61 = .ok (.aload_n 0, 1) := by decide +kernel
theorem dX1_makeRoom_62 : decode cX1_makeRoom 62 = .ok (.getfield 11, 3) := by decide +kernel
theorem dX1_makeRoom_65 : decode cX1_makeRoom 65 = .ok (.arraylength, 1) := by decide +kernel
theorem dX1_makeRoom_66 : decode cX1_makeRoom 66 = .ok (.iconst 1, 1) := by decide +kernel
theorem dX1_makeRoom_67 : decode cX1_makeRoom 67 = .ok (.isub, 1) := by decide +kernel
theorem dX1_makeRoom_68 : decode cX1_makeRoom 68 = .ok (.putfield 18, 3) := by decide +kernel
theorem dX1_makeRoom_71 : decode cX1_makeRoom 71 = .ok (.return_, 1) := by decide +kernel
set_option maxRecDepth 20000 in
theorem ggX2_init_X3_init : GoodIn wsX2_init wsX3_init := goodIn_r _ [14, 15, 2, 3, 16, 17, 18, 19, 29, 30, 31, 32] (by decide +kernel) (by decide +kernel)
set_option maxRecDepth 20000 in
theorem gX2_init_X3_init : GoodIn wsX2_init (wsX3_init) := ggX2_init_X3_init
set_option maxRecDepth 20000 in
theorem ggX2_init_X3_addRow : GoodIn wsX2_init wsX3_addRow := goodIn_r _ [23, 24, 16, 29, 30, 31, 32] (by decide +kernel) (by decide +kernel)
set_option maxRecDepth 20000 in
theorem gX2_init_X3_addRow : GoodIn wsX2_init (wsV RX2 32 RX3 yX3_addRow wsX3_addRow) := goodIn_app (goodIn_of _ (by decide +kernel)) ggX2_init_X3_addRow
set_option maxRecDepth 20000 in
theorem ggX2_init_X3_put : GoodIn wsX2_init wsX3_put := goodIn_r _ [28, 24, 17, 19, 29, 30, 31, 32] (by decide +kernel) (by decide +kernel)
set_option maxRecDepth 20000 in
theorem gX2_init_X3_put : GoodIn wsX2_init (wsV RX2 36 RX3 yX3_put wsX3_put) := goodIn_app (goodIn_of _ (by decide +kernel)) ggX2_init_X3_put
theorem dX2_init_0 : decode cX2_init 0 = .ok (.aload_n 0, 1) := by decide +kernel
theorem dX2_init_1 : decode cX2_init 1 = .ok (.invokespecial 3, 3) := by decide +kernel
theorem dX2_init_4 : decode cX2_init 4 = .ok (.aload_n 0, 1) := by decide +kernel
theorem dX2_init_5 : decode cX2_init 5 = .ok (.new 9, 3) := by decide +kernel
theorem dX2_init_8 : decode cX2_init 8 = .ok (.dup, 1) := by decide +kernel
theorem dX2_init_9 : decode cX2_init 9 = .ok (.bipush 10, 2) := by decide +kernel
theorem dX2_init_11 : decode cX2_init 11 = .ok (.iconst 2, 1) := by decide +kernel
theorem dX2_init_12 : decode cX2_init 12 = .ok (.invokespecial 11, 3) := by decide +kernel
theorem dX2_init_15 : decode cX2_init 15 = .ok (.putfield 14, 3) := by decide +kernel
theorem dX2_init_18 : decode cX2_init 18 = .ok (.aload_n 0, 1) := by decide +kernel
theorem dX2_init_19 : decode cX2_init 19 = .ok (.new 9, 3) := by decide +kernel
theorem dX2_init_22 : decode cX2_init 22 = .ok (.dup, 1) := by decide +kernel
theorem dX2_init_23 : decode cX2_init 23 = .ok (.bipush 8, 2) := by decide +kernel
theorem dX2_init_25 : decode cX2_init 25 = .ok (.iconst 2, 1) := by decide +kernel
theorem dX2_init_26 : decode cX2_init 26 = .ok (.invokespecial 11, 3) := by decide +kernel
theorem dX2_init_29 : decode cX2_init 29 = .ok (.putfield 20, 3) := by decide +kernel
theorem dX2_init_32 : decode cX2_init 32 = .ok (.aload_n 0, 1) := by decide +kernel
theorem dX2_init_33 : decode cX2_init 33 = .ok (.new 9, 3) := by decide +kernel
theorem dX2_init_36 : decode cX2_init 36 = .ok (.dup, 1) := by decide +kernel
theorem dX2_init_37 : decode cX2_init 37 = .ok (.bipush 40, 2) := by decide +kernel
theorem dX2_init_39 : decode cX2_init 39 = .ok (.bipush 6, 2) := by decide +kernel
theorem dX2_init_41 : decode cX2_init 41 = .ok (.invokespecial 11, 3) := by decide +kernel
theorem dX2_init_44 : decode cX2_init 44 = .ok (.putfield 23, 3) := by decide +kernel
theorem dX2_init_47 : decode cX2_init 47 = .ok (.aload_n 0, 1) := by decide +kernel
theorem dX2_init_48 : decode cX2_init 48 = .ok (.new 9, 3) := by decide +kernel
theorem dX2_init_51 : decode cX2_init 51 = .ok (.dup, 1) := by decide +kernel
theorem dX2_init_52 : decode cX2_init 52 = .ok (.bipush 12, 2) := by decide +kernel
theorem dX2_init_54 : decode cX2_init 54 = .ok (.iconst 3, 1) := by decide +kernel
theorem dX2_init_55 : decode cX2_init 55 = .ok (.invokespecial 11, 3) := by decide +kernel
theorem dX2_init_58 : decode cX2_init 58 = .ok (.putfield 26, 3) := by decide +kernel
theorem dX2_init_61 : decode cX2_init 61 = .ok (.aload_n 0, 1) := by decide +kernel
theorem dX2_init_62 : decode cX2_init 62 = .ok (.new 9, 3) := by decide +kernel
theorem dX2_init_65 : decode cX2_init 65 = .ok (.dup, 1) := by decide +kernel
theorem dX2_init_66 : decode cX2_init 66 = .ok (.bipush 8, 2) := by decide +kernel
theorem dX2_init_68 : decode cX2_init 68 = .ok (.bipush 10, 2) := by decide +kernel
theorem dX2_init_70 : decode cX2_init 70 = .ok (.invokespecial 11, 3) := by decide +kernel
theorem dX2_init_73 : decode cX2_init 73 = .ok (.putfield 29, 3) := by decide +kernel
theorem dX2_init_76 : decode cX2_init 76 = .ok (.iconst 0, 1) := by decide +kernel
theorem dX2_init_77 : decode cX2_init 77 = .ok (.istore_n 1, 1) := by decide +kernel
theorem dX2_init_78 : decode cX2_init 78 = .ok (.iload_n 1, 1) := by decide +kernel
theorem dX2_init_79 : decode cX2_init 79 = .ok (.bipush 10, 2) := by decide +kernel
theorem dX2_init_81 : decode cX2_init 81 = .ok (.if_icmp .ge 39, 3) := by decide +kernel
theorem dX2_init_84 : decode cX2_init 84 = .ok (.aload_n 0, 1) := by decide +kernel
theorem dX2_init_85 : decode cX2_init 85 = .ok (.getfield 14, 3) := by decide +kernel
theorem dX2_init_88 : decode cX2_init 88 = .ok (.invokevirtual 32, 3) := by decide +kernel
theorem dX2_init_91 : decode cX2_init 91 = .ok (.pop, 1) := by decide +kernel
theorem dX2_init_92 : decode cX2_init 92 = .ok (.aload_n 0, 1) := by decide +kernel
theorem dX2_init_93 : decode cX2_init 93 = .ok (.getfield 14, 3) := by decide +kernel
theorem dX2_init_96 : decode cX2_init 96 = .ok (.iload_n 1, 1) := by decide +kernel
theorem dX2_init_97 : decode cX2_init 97 = .ok (.iconst 0, 1) := by decide +kernel
theorem dX2_init_98 : decode cX2_init 98 = .ok (.bipush 60, 2) := by decide +kernel
theorem dX2_init_100 : decode cX2_init 100 = .ok (.invokevirtual 36, 3) := by decide +kernel
theorem dX2_init_103 : decode cX2_init 103 = .ok (.aload_n 0, 1) := by decide +kernel
theorem dX2_init_104 : decode cX2_init 104 = .ok (.getfield 14, 3) := by decide +kernel
theorem dX2_init_107 : decode cX2_init 107 = .ok (.iload_n 1, 1) := by decide +kernel
theorem dX2_init_108 : decode cX2_init 108 = .ok (.iconst 1, 1) := by decide +kernel
theorem dX2_init_109 : decode cX2_init 109 = .ok (.bipush 60, 2) := by decide +kernel
theorem dX2_init_111 : decode cX2_init 111 = .ok (.invokevirtual 36, 3) := by decide +kernel
theorem dX2_init_114 : decode cX2_init 114 = .ok (.iinc 1 1, 3) := by decide +kernel
theorem dX2_init_117 : decode cX2_init 117 = .ok (.goto (-39), 3) := by decide +kernel
theorem dX2_init_120 : decode cX2_init 120 = .ok (.return_, 1) := by decide +kernel
set_option maxRecDepth 20000 in
theorem ggX2_takeOver_X3_takeOver : GoodIn wsX2_takeOver wsX3_takeOver := goodIn_r _ [14, 15, 16, 17, 18, 28, 29, 30, 31] (by decide +kernel) (by decide +kernel)
set_option maxRecDepth 20000 in
theorem gX2_takeOver_X3_takeOver : GoodIn wsX2_takeOver (wsV RX2 40 RX3 yX3_takeOver wsX3_takeOver) := goodIn_app (goodIn_of _ (by decide +kernel)) ggX2_takeOver_X3_takeOver
theorem dX2_takeOver_0 : decode cX2_takeOver 0 = .ok (.aload_n 0, 1) := by decide +kernel
theorem dX2_takeOver_1 : decode cX2_takeOver 1 = .ok (.getfield 14, 3) := by decide +kernel
theorem dX2_takeOver_4 : decode cX2_takeOver 4 = .ok (.aload_n 1, 1) := by decide +kernel
theorem dX2_takeOver_5 : decode cX2_takeOver 5 = .ok (.getfield 14, 3) := by decide +kernel
theorem dX2_takeOver_8 : decode cX2_takeOver 8 = .ok (.invokevirtual 40, 3) := by decide +kernel
theorem dX2_takeOver_11 : decode cX2_takeOver 11 = .ok (.aload_n 0, 1) := by decide +kernel
theorem dX2_takeOver_12 : decode cX2_takeOver 12 = .ok (.getfield 20, 3) := by decide +kernel
theorem dX2_takeOver_15 : decode cX2_takeOver 15 = .ok (.aload_n 1, 1) := by decide +kernel
theorem dX2_takeOver_16 : decode cX2_takeOver 16 = .ok (.getfield 20, 3) := by decide +kernel
theorem dX2_takeOver_19 : decode cX2_takeOver 19 = .ok (.invokevirtual 40, 3) := by decide +kernel
theorem dX2_takeOver_22 : decode cX2_takeOver 22 = .ok (.aload_n 0, 1) := by decide +kernel
theorem dX2_takeOver_23 : decode cX2_takeOver 23 = .ok (.getfield 23, 3) := by decide +kernel
theorem dX2_takeOver_26 : decode cX2_takeOver 26 = .ok (.aload_n 1, 1) := by decide +kernel
theorem dX2_takeOver_27 : decode cX2_takeOver 27 = .ok (.getfield 23, 3) := by decide +kernel
theorem dX2_takeOver_30 : decode cX2_takeOver 30 = .ok (.invokevirtual 40, 3) := by decide +kernel
theorem dX2_takeOver_33 : decode cX2_takeOver 33 = .ok (.aload_n 0, 1) := by decide +kernel
theorem dX2_takeOver_34 : decode cX2_takeOver 34 = .ok (.getfield 26, 3) := by decide +kernel
theorem dX2_takeOver_37 : decode cX2_takeOver 37 = .ok (.aload_n 1, 1) := by decide +kernel
theorem dX2_takeOver_38 : decode cX2_takeOver 38 = .ok (.getfield 26, 3) := by decide +kernel
theorem dX2_takeOver_41 : decode cX2_takeOver 41 = .ok (.invokevirtual 40, 3) := by decide +kernel
theorem dX2_takeOver_44 : decode cX2_takeOver 44 = .ok (.aload_n 0, 1) := by decide +kernel
theorem dX2_takeOver_45 : decode cX2_takeOver 45 = .ok (.getfield 29, 3) := by decide +kernel
theorem dX2_takeOver_48 : decode cX2_takeOver 48 = .ok (.aload_n 1, 1) := by decide +kernel
theorem dX2_takeOver_49 : decode cX2_takeOver 49 = .ok (.getfield 29, 3) := by decide +kernel
theorem dX2_takeOver_52 : decode cX2_takeOver 52 = .ok (.invokevirtual 40, 3) := by decide +kernel
theorem dX2_takeOver_55 : decode cX2_takeOver 55 = .ok (.aload_n 0, 1) := by decide +kernel
theorem dX2_takeOver_56 : decode cX2_takeOver 56 = .ok (.aload_n 1, 1) := by decide +kernel
theorem dX2_takeOver_57 : decode cX2_takeOver 57 = .ok (.getfield 44, 3) := by decide +kernel
theorem dX2_takeOver_60 : decode cX2_takeOver 60 = .ok (.putfield 44, 3) := by decide +kernel
theorem dX2_takeOver_63 : decode cX2_takeOver 63 = .ok (.aload_n 0, 1) := by decide +kernel
theorem dX2_takeOver_64 : decode cX2_takeOver 64 = .ok (.aload_n 1, 1) := by decide +kernel
theorem dX2_takeOver_65 : decode cX2_takeOver 65 = .ok (.getfield 48, 3) := by decide +kernel
theorem dX2_takeOver_68 : decode cX2_takeOver 68 = .ok (.putfield 48, 3) := by decide +kernel
theorem dX2_takeOver_71 : decode cX2_takeOver 71 = .ok (.aload_n 0, 1) := by decide +kernel
theorem dX2_takeOver_72 : decode cX2_takeOver 72 = .ok (.aload_n 1, 1) := by decide +kernel
theorem dX2_takeOver_73 : decode cX2_takeOver 73 = .ok (.getfield 51, 3) := by decide +kernel
theorem dX2_takeOver_76 : decode cX2_takeOver 76 = .ok (.putfield 51, 3) := by decide +kernel
theorem dX2_takeOver_79 : decode cX2_takeOver 79 = .ok (.aload_n 0, 1) := by decide +kernel
theorem dX2_takeOver_80 : decode cX2_takeOver 80 = .ok (.aload_n 1, 1) := by decide +kernel
theorem dX2_takeOver_81 : decode cX2_takeOver 81 = .ok (.getfield 54, 3) := by decide +kernel
theorem dX2_takeOver_84 : decode cX2_takeOver 84 = .ok (.putfield 54, 3) := by decide +kernel
theorem dX2_takeOver_87 : decode cX2_takeOver 87 = .ok (.return_, 1) := by decide +kernel
set_option maxRecDepth 20000 in
theorem ggX2_takeIn_X3_addRow : GoodIn wsX2_takeIn wsX3_addRow := goodIn_r _ [7, 8, 9, 43, 44, 45, 46] (by decide +kernel) (by decide +kernel)
set_option maxRecDepth 20000 in
theorem gX2_takeIn_X3_addRow : GoodIn wsX2_takeIn (wsV RX2 32 RX3 yX3_addRow wsX3_addRow) := goodIn_app (goodIn_of _ (by decide +kernel)) ggX2_takeIn_X3_addRow
set_option maxRecDepth 20000 in
theorem ggX2_takeIn_X3_put : GoodIn wsX2_takeIn wsX3_put := goodIn_r _ [13, 8, 14, 15, 43, 44, 45, 46] (by decide +kernel) (by decide +kernel)
set_option maxRecDepth 20000 in
theorem gX2_takeIn_X3_put : GoodIn wsX2_takeIn (wsV RX2 36 RX3 yX3_put wsX3_put) := goodIn_app (goodIn_of _ (by decide +kernel)) ggX2_takeIn_X3_put
set_option maxRecDepth 20000 in
theorem ggX2_takeIn_X2_settle : GoodIn wsX2_takeIn wsX2_settle := goodIn_r _ [20, 1, 2, 21, 22, 23, 24, 6, 25, 8, 26, 27, 28, 29, 14, 15, 10, 11, 12, 13, 30, 31, 32, 19, 33, 34, 35, 36, 37, 38, 39, 40, 41, 42, 43, 44, 45, 46] (by decide +kernel) (by decide +kernel)
set_option maxRecDepth 20000 in
theorem gX2_takeIn_X2_settle : GoodIn wsX2_takeIn (wsV RX2 57 RX2 yX2_settle wsX2_settle) := goodIn_app (goodIn_of _ (by decide +kernel)) ggX2_takeIn_X2_settle
theorem dX2_takeIn_0 : decode cX2_takeIn 0 = .ok (.aload_n 0, 1) := by decide +kernel
theorem dX2_takeIn_1 : decode cX2_takeIn 1 = .ok (.getfield 20, 3) := by decide +kernel
theorem dX2_takeIn_4 : decode cX2_takeIn 4 = .ok (.invokevirtual 32, 3) := by decide +kernel
theorem dX2_takeIn_7 : decode cX2_takeIn 7 = .ok (.istore_n 3, 1) := by decide +kernel
theorem dX2_takeIn_8 : decode cX2_takeIn 8 = .ok (.aload_n 0, 1) := by decide +kernel
theorem dX2_takeIn_9 : decode cX2_takeIn 9 = .ok (.getfield 20, 3) := by decide +kernel
theorem dX2_takeIn_12 : decode cX2_takeIn 12 = .ok (.iload_n 3, 1) := by decide +kernel
theorem dX2_takeIn_13 : decode cX2_takeIn 13 = .ok (.iconst 0, 1) := by decide +kernel
theorem dX2_takeIn_14 : decode cX2_takeIn 14 = .ok (.iload_n 1, 1) := by decide +kernel
theorem dX2_takeIn_15 : decode cX2_takeIn 15 = .ok (.invokevirtual 36, 3) := by decide +kernel
theorem dX2_takeIn_18 : decode cX2_takeIn 18 = .ok (.aload_n 0, 1) := by decide +kernel
theorem dX2_takeIn_19 : decode cX2_takeIn 19 = .ok (.getfield 20, 3) := by decide +kernel
theorem dX2_takeIn_22 : decode cX2_takeIn 22 = .ok (.iload_n 3, 1) := by decide +kernel
theorem dX2_takeIn_23 : decode cX2_takeIn 23 = .ok (.iconst 1, 1) := by decide +kernel
theorem dX2_takeIn_24 : decode cX2_takeIn 24 = .ok (.iload_n 2, 1) := by decide +kernel
theorem dX2_takeIn_25 : decode cX2_takeIn 25 = .ok (.invokevirtual 36, 3) := by decide +kernel
theorem dX2_takeIn_28 : decode cX2_takeIn 28 = .ok (.aload_n 0, 1) := by decide +kernel
theorem dX2_takeIn_29 : decode cX2_takeIn 29 = .ok (.getfield 29, 3) := by decide +kernel
theorem dX2_takeIn_32 : decode cX2_takeIn 32 = .ok (.invokevirtual 32, 3) := by decide +kernel
theorem dX2_takeIn_35 : decode cX2_takeIn 35 = .ok (.pop, 1) := by decide +kernel
theorem dX2_takeIn_36 : decode cX2_takeIn 36 = .ok (.aload_n 0, 1) := by decide +kernel
theorem dX2_takeIn_37 : decode cX2_takeIn 37 = .ok (.invokevirtual 57, 3) := by decide +kernel
theorem dX2_takeIn_40 : decode cX2_takeIn 40 = .ok (.iload_n 3, 1) := by decide +kernel
theorem dX2_takeIn_41 : decode cX2_takeIn 41 = .ok (.ireturn, 1) := by decide +kernel
set_option maxRecDepth 20000 in
theorem ggX2_changeThing_X3_at : GoodIn wsX2_changeThing wsX3_at := goodIn_r _ [6, 7, 8, 9, 38, 39, 40, 41] (by decide +kernel) (by decide +kernel)
set_option maxRecDepth 20000 in
theorem gX2_changeThing_X3_at : GoodIn wsX2_changeThing (wsV RX2 60 RX3 yX3_at wsX3_at) := goodIn_app (goodIn_of _ (by decide +kernel)) ggX2_changeThing_X3_at
set_option maxRecDepth 20000 in
theorem ggX2_changeThing_X3_put : GoodIn wsX2_changeThing wsX3_put := goodIn_r _ [13, 7, 8, 9, 38, 39, 40, 41] (by decide +kernel) (by decide +kernel)
set_option maxRecDepth 20000 in
theorem gX2_changeThing_X3_put : GoodIn wsX2_changeThing (wsV RX2 36 RX3 yX3_put wsX3_put) := goodIn_app (goodIn_of _ (by decide +kernel)) ggX2_changeThing_X3_put
set_option maxRecDepth 20000 in
theorem ggX2_changeThing_X2_settle : GoodIn wsX2_changeThing wsX2_settle := goodIn_r _ [18, 1, 19, 20, 21, 22, 23, 5, 24, 7, 2, 3, 4, 6, 8, 9, 10, 11, 12, 13, 25, 26, 27, 17, 28, 29, 30, 31, 32, 33, 34, 35, 36, 37, 38, 39, 40, 41] (by decide +kernel) (by decide +kernel)
set_option maxRecDepth 20000 in
theorem gX2_changeThing_X2_settle : GoodIn wsX2_changeThing (wsV RX2 57 RX2 yX2_settle wsX2_settle) := goodIn_app (goodIn_of _ (by decide +kernel)) ggX2_changeThing_X2_settle
theorem dX2_changeThing_0 : decode cX2_changeThing 0 = .ok (.aload_n 0, 1) := by decide +kernel
theorem dX2_changeThing_1 : decode cX2_changeThing 1 = .ok (.getfield 20, 3) := by decide +kernel
theorem dX2_changeThing_4 : decode cX2_changeThing 4 = .ok (.iload_n 1, 1) := by decide +kernel
theorem dX2_changeThing_5 : decode cX2_changeThing 5 = .ok (.iload_n 2, 1) := by decide +kernel
theorem dX2_changeThing_6 : decode cX2_changeThing 6 = .ok (.invokevirtual 60, 3) := by decide +kernel
theorem dX2_changeThing_9 : decode cX2_changeThing 9 = .ok (.istore 4, 2) := by decide +kernel
theorem dX2_changeThing_11 : decode cX2_changeThing 11 = .ok (.aload_n 0, 1) := by decide +kernel
theorem dX2_changeThing_12 : decode cX2_changeThing 12 = .ok (.getfield 20, 3) := by decide +kernel
theorem dX2_changeThing_15 : decode cX2_changeThing 15 = .ok (.iload_n 1, 1) := by decide +kernel
theorem dX2_changeThing_16 : decode cX2_changeThing 16 = .ok (.iload_n 2, 1) := by decide +kernel
theorem dX2_changeThing_17 : decode cX2_changeThing 17 = .ok (.iload_n 3, 1) := by decide +kernel
theorem dX2_changeThing_18 : decode cX2_changeThing 18 = .ok (.invokevirtual 36, 3) := by decide +kernel
theorem dX2_changeThing_21 : decode cX2_changeThing 21 = .ok (.aload_n 0, 1) := by decide +kernel
theorem dX2_changeThing_22 : decode cX2_changeThing 22 = .ok (.invokevirtual 57, 3) := by decide +kernel
theorem dX2_changeThing_25 : decode cX2_changeThing 25 = .ok (.iload 4, 2) := by decide +kernel
theorem dX2_changeThing_27 : decode cX2_changeThing 27 = .ok (.ireturn, 1) := by decide +kernel
set_option maxRecDepth 20000 in
theorem ggX2_faultOfGrant_X5_isPerson : GoodIn wsX2_faultOfGrant wsX5_isPerson := goodIn_r _ [6, 7, 8, 5, 9] (by decide +kernel) (by decide +kernel)
set_option maxRecDepth 20000 in
theorem gX2_faultOfGrant_X5_isPerson_n64 : GoodIn wsX2_faultOfGrant (wsX5_isPerson) := ggX2_faultOfGrant_X5_isPerson
set_option maxRecDepth 20000 in
theorem ggX2_faultOfGrant_X3_has : GoodIn wsX2_faultOfGrant wsX3_has := goodIn_r _ [14, 15, 42, 43, 44, 45] (by decide +kernel) (by decide +kernel)
set_option maxRecDepth 20000 in
theorem gX2_faultOfGrant_X3_has : GoodIn wsX2_faultOfGrant (wsV RX2 68 RX3 yX3_has wsX3_has) := goodIn_app (goodIn_of _ (by decide +kernel)) ggX2_faultOfGrant_X3_has
end
section
set_option maxRecDepth 20000 in
theorem ggX2_faultOfGrant_X5_isBetween : GoodIn wsX2_faultOfGrant wsX5_isBetween := goodIn_r _ [9] (by decide +kernel) (by decide +kernel)
set_option maxRecDepth 20000 in
theorem gX2_faultOfGrant_X5_isBetween_n71 : GoodIn wsX2_faultOfGrant (wsX5_isBetween) := ggX2_faultOfGrant_X5_isBetween
set_option maxRecDepth 20000 in
theorem ggX2_faultOfGrant_X2_rightsOf : GoodIn wsX2_faultOfGrant wsX2_rightsOf := goodIn_r _ [20, 21, 22, 23, 24, 13, 25, 15, 26, 27, 33, 34, 35, 36, 37, 38, 39, 40, 41, 42, 43, 44, 45] (by decide +kernel) (by decide +kernel)
set_option maxRecDepth 20000 in
theorem gX2_faultOfGrant_X2_rightsOf : GoodIn wsX2_faultOfGrant (wsV RX2 75 RX2 yX2_rightsOf wsX2_rightsOf) := goodIn_app (goodIn_of _ (by decide +kernel)) ggX2_faultOfGrant_X2_rightsOf
set_option maxRecDepth 20000 in
theorem ggX2_faultOfGrant_X3_at : GoodIn wsX2_faultOfGrant wsX3_at := goodIn_r _ [25, 15, 26, 27, 42, 43, 44, 45] (by decide +kernel) (by decide +kernel)
set_option maxRecDepth 20000 in
theorem gX2_faultOfGrant_X3_at : GoodIn wsX2_faultOfGrant (wsV RX2 60 RX3 yX3_at wsX3_at) := goodIn_app (goodIn_of _ (by decide +kernel)) ggX2_faultOfGrant_X3_at
set_option maxRecDepth 20000 in
theorem ggX2_faultOfGrant_X3_isFull : GoodIn wsX2_faultOfGrant wsX3_isFull := goodIn_r _ [31, 15, 32, 42, 43, 44, 45] (by decide +kernel) (by decide +kernel)
set_option maxRecDepth 20000 in
theorem gX2_faultOfGrant_X3_isFull : GoodIn wsX2_faultOfGrant (wsV RX2 78 RX3 yX3_isFull wsX3_isFull) := goodIn_app (goodIn_of _ (by decide +kernel)) ggX2_faultOfGrant_X3_isFull
theorem dX2_faultOfGrant_0 : decode cX2_faultOfGrant 0 = .ok (.iload_n 1, 1) := by decide +kernel
theorem dX2_faultOfGrant_1 : decode cX2_faultOfGrant 1 = .ok (.invokestatic 64, 3) := by decide +kernel
theorem dX2_faultOfGrant_4 : decode cX2_faultOfGrant 4 = .ok (.ifCond .eq 21, 3) := by decide +kernel
theorem dX2_faultOfGrant_7 : decode cX2_faultOfGrant 7 = .ok (.iload_n 2, 1) := by decide +kernel
theorem dX2_faultOfGrant_8 : decode cX2_faultOfGrant 8 = .ok (.invokestatic 64, 3) := by decide +kernel
theorem dX2_faultOfGrant_11 : decode cX2_faultOfGrant 11 = .ok (.ifCond .eq 14, 3) := by decide +kernel
theorem dX2_faultOfGrant_14 : decode cX2_faultOfGrant 14 = .ok (.aload_n 0, 1) := by decide +kernel
theorem dX2_faultOfGrant_15 : decode cX2_faultOfGrant 15 = .ok (.getfield 20, 3) := by decide +kernel
theorem dX2_faultOfGrant_18 : decode cX2_faultOfGrant 18 = .ok (.iload_n 3, 1) := by decide +kernel
theorem dX2_faultOfGrant_19 : decode cX2_faultOfGrant 19 = .ok (.invokevirtual 68, 3) := by decide +kernel
theorem dX2_faultOfGrant_22 : decode cX2_faultOfGrant 22 = .ok (.ifCond .ne 5, 3) := by decide +kernel
theorem dX2_faultOfGrant_25 : decode cX2_faultOfGrant 25 = .ok (.iconst 1, 1) := by decide +kernel
theorem dX2_faultOfGrant_26 : decode cX2_faultOfGrant 26 = .ok (.ireturn, 1) := by decide +kernel
theorem dX2_faultOfGrant_27 : decode cX2_faultOfGrant 27 = .ok (.iload 4, 2) := by decide +kernel
theorem dX2_faultOfGrant_29 : decode cX2_faultOfGrant 29 = .ok (.iconst 1, 1) := by decide +kernel
theorem dX2_faultOfGrant_30 : decode cX2_faultOfGrant 30 = .ok (.bipush 7, 2) := by decide +kernel
theorem dX2_faultOfGrant_32 : decode cX2_faultOfGrant 32 = .ok (.invokestatic 71, 3) := by decide +kernel
theorem dX2_faultOfGrant_35 : decode cX2_faultOfGrant 35 = .ok (.ifCond .eq 18, 3) := by decide +kernel
theorem dX2_faultOfGrant_38 : decode cX2_faultOfGrant 38 = .ok (.iload 5, 2) := by decide +kernel
theorem dX2_faultOfGrant_40 : decode cX2_faultOfGrant 40 = .ok (.iconst 0, 1) := by decide +kernel
theorem dX2_faultOfGrant_41 : decode cX2_faultOfGrant 41 = .ok (.bipush 100, 2) := by decide +kernel
theorem dX2_faultOfGrant_43 : decode cX2_faultOfGrant 43 = .ok (.invokestatic 71, 3) := by decide +kernel
theorem dX2_faultOfGrant_46 : decode cX2_faultOfGrant 46 = .ok (.ifCond .eq 7, 3) := by decide +kernel
theorem dX2_faultOfGrant_49 : decode cX2_faultOfGrant 49 = .ok (.iconst 1, 1) := by decide +kernel
theorem dX2_faultOfGrant_50 : decode cX2_faultOfGrant 50 = .ok (.goto 4, 3) := by decide +kernel
theorem dX2_faultOfGrant_53 : decode cX2_faultOfGrant 53 = .ok (.iconst 0, 1) := by decide +kernel
theorem dX2_faultOfGrant_54 : decode cX2_faultOfGrant 54 = .ok (.istore 6, 2) := by decide +kernel
theorem dX2_faultOfGrant_56 : decode cX2_faultOfGrant 56 = .ok (.iload 6, 2) := by decide +kernel
theorem dX2_faultOfGrant_58 : decode cX2_faultOfGrant 58 = .ok (.ifCond .eq 8, 3) := by decide +kernel
theorem dX2_faultOfGrant_61 : decode cX2_faultOfGrant 61 = .ok (.iload_n 1, 1) := by decide +kernel
theorem dX2_faultOfGrant_62 : decode cX2_faultOfGrant 62 = .ok (.iload_n 2, 1) := by decide +kernel
theorem dX2_faultOfGrant_63 : decode cX2_faultOfGrant 63 = .ok (.if_icmp .ne 5, 3) := by decide +kernel
theorem dX2_faultOfGrant_66 : decode cX2_faultOfGrant 66 = .ok (.iconst 2, 1) := by decide +kernel
theorem dX2_faultOfGrant_67 : decode cX2_faultOfGrant 67 = .ok (.ireturn, 1) := by decide +kernel
theorem dX2_faultOfGrant_68 : decode cX2_faultOfGrant 68 = .ok (.iload 4, 2) := by decide +kernel
theorem dX2_faultOfGrant_70 : decode cX2_faultOfGrant 70 = .ok (.iconst 4, 1) := by decide +kernel
theorem dX2_faultOfGrant_71 : decode cX2_faultOfGrant 71 = .ok (.ior, 1) := by decide +kernel
theorem dX2_faultOfGrant_72 : decode cX2_faultOfGrant 72 = .ok (.istore 7, 2) := by decide +kernel
theorem dX2_faultOfGrant_74 : decode cX2_faultOfGrant 74 = .ok (.aload_n 0, 1) := by decide +kernel
theorem dX2_faultOfGrant_75 : decode cX2_faultOfGrant 75 = .ok (.iload_n 1, 1) := by decide +kernel
theorem dX2_faultOfGrant_76 : decode cX2_faultOfGrant 76 = .ok (.iload_n 3, 1) := by decide +kernel
theorem dX2_faultOfGrant_77 : decode cX2_faultOfGrant 77 = .ok (.invokevirtual 75, 3) := by decide +kernel
theorem dX2_faultOfGrant_80 : decode cX2_faultOfGrant 80 = .ok (.iload 7, 2) := by decide +kernel
theorem dX2_faultOfGrant_82 : decode cX2_faultOfGrant 82 = .ok (.iand, 1) := by decide +kernel
theorem dX2_faultOfGrant_83 : decode cX2_faultOfGrant 83 = .ok (.iload 7, 2) := by decide +kernel
theorem dX2_faultOfGrant_85 : decode cX2_faultOfGrant 85 = .ok (.if_icmp .ne 7, 3) := by decide +kernel
theorem dX2_faultOfGrant_88 : decode cX2_faultOfGrant 88 = .ok (.iconst 1, 1) := by decide +kernel
theorem dX2_faultOfGrant_89 : decode cX2_faultOfGrant 89 = .ok (.goto 4, 3) := by decide +kernel
theorem dX2_faultOfGrant_92 : decode cX2_faultOfGrant 92 = .ok (.iconst 0, 1) := by decide +kernel
theorem dX2_faultOfGrant_93 : decode cX2_faultOfGrant 93 = .ok (.istore 8, 2) := by decide +kernel
theorem dX2_faultOfGrant_95 : decode cX2_faultOfGrant 95 = .ok (.aload_n 0, 1) := by decide +kernel
theorem dX2_faultOfGrant_96 : decode cX2_faultOfGrant 96 = .ok (.getfield 14, 3) := by decide +kernel
theorem dX2_faultOfGrant_99 : decode cX2_faultOfGrant 99 = .ok (.iload_n 1, 1) := by decide +kernel
theorem dX2_faultOfGrant_100 : decode cX2_faultOfGrant 100 = .ok (.iconst 0, 1) := by decide +kernel
theorem dX2_faultOfGrant_101 : decode cX2_faultOfGrant 101 = .ok (.invokevirtual 60, 3) := by decide +kernel
theorem dX2_faultOfGrant_104 : decode cX2_faultOfGrant 104 = .ok (.iload 5, 2) := by decide +kernel
theorem dX2_faultOfGrant_106 : decode cX2_faultOfGrant 106 = .ok (.if_icmp .lt 7, 3) := by decide +kernel
theorem dX2_faultOfGrant_109 : decode cX2_faultOfGrant 109 = .ok (.iconst 1, 1) := by decide +kernel
theorem dX2_faultOfGrant_110 : decode cX2_faultOfGrant 110 = .ok (.goto 4, 3) := by decide +kernel
theorem dX2_faultOfGrant_113 : decode cX2_faultOfGrant 113 = .ok (.iconst 0, 1) := by decide +kernel
theorem dX2_faultOfGrant_114 : decode cX2_faultOfGrant 114 = .ok (.istore 9, 2) := by decide +kernel
theorem dX2_faultOfGrant_116 : decode cX2_faultOfGrant 116 = .ok (.iload 8, 2) := by decide +kernel
theorem dX2_faultOfGrant_118 : decode cX2_faultOfGrant 118 = .ok (.ifCond .eq 22, 3) := by decide +kernel
theorem dX2_faultOfGrant_121 : decode cX2_faultOfGrant 121 = .ok (.iload 9, 2) := by decide +kernel
theorem dX2_faultOfGrant_123 : decode cX2_faultOfGrant 123 = .ok (.ifCond .eq 17, 3) := by decide +kernel
theorem dX2_faultOfGrant_126 : decode cX2_faultOfGrant 126 = .ok (.aload_n 0, 1) := by decide +kernel
theorem dX2_faultOfGrant_127 : decode cX2_faultOfGrant 127 = .ok (.getfield 23, 3) := by decide +kernel
theorem dX2_faultOfGrant_130 : decode cX2_faultOfGrant 130 = .ok (.invokevirtual 78, 3) := by decide +kernel
theorem dX2_faultOfGrant_133 : decode cX2_faultOfGrant 133 = .ok (.ifCond .ne 7, 3) := by decide +kernel
theorem dX2_faultOfGrant_136 : decode cX2_faultOfGrant 136 = .ok (.iconst 0, 1) := by decide +kernel
theorem dX2_faultOfGrant_137 : decode cX2_faultOfGrant 137 = .ok (.goto 4, 3) := by decide +kernel
theorem dX2_faultOfGrant_140 : decode cX2_faultOfGrant 140 = .ok (.iconst 3, 1) := by decide +kernel
theorem dX2_faultOfGrant_141 : decode cX2_faultOfGrant 141 = .ok (.ireturn, 1) := by decide +kernel
set_option maxRecDepth 20000 in
theorem ggX2_lend_X3_addRow : GoodIn wsX2_lend wsX3_addRow := goodIn_r _ [7, 8, 9, 44, 45, 46, 47] (by decide +kernel) (by decide +kernel)
set_option maxRecDepth 20000 in
theorem gX2_lend_X3_addRow : GoodIn wsX2_lend (wsV RX2 32 RX3 yX3_addRow wsX3_addRow) := goodIn_app (goodIn_of _ (by decide +kernel)) ggX2_lend_X3_addRow
set_option maxRecDepth 20000 in
theorem ggX2_lend_X3_put : GoodIn wsX2_lend wsX3_put := goodIn_r _ [13, 8, 14, 15, 44, 45, 46, 47] (by decide +kernel) (by decide +kernel)
set_option maxRecDepth 20000 in
theorem gX2_lend_X3_put : GoodIn wsX2_lend (wsV RX2 36 RX3 yX3_put wsX3_put) := goodIn_app (goodIn_of _ (by decide +kernel)) ggX2_lend_X3_put
set_option maxRecDepth 20000 in
theorem ggX2_lend_X2_settle : GoodIn wsX2_lend wsX2_settle := goodIn_r _ [20, 21, 22, 2, 23, 24, 25, 6, 26, 8, 27, 28, 29, 30, 14, 15, 10, 11, 12, 13, 31, 32, 33, 19, 34, 35, 36, 37, 38, 39, 40, 41, 42, 43, 44, 45, 46, 47] (by decide +kernel) (by decide +kernel)
set_option maxRecDepth 20000 in
theorem gX2_lend_X2_settle : GoodIn wsX2_lend (wsV RX2 57 RX2 yX2_settle wsX2_settle) := goodIn_app (goodIn_of _ (by decide +kernel)) ggX2_lend_X2_settle
theorem dX2_lend_0 : decode cX2_lend 0 = .ok (.aload_n 0, 1) := by decide +kernel
theorem dX2_lend_1 : decode cX2_lend 1 = .ok (.getfield 44, 3) := by decide +kernel
theorem dX2_lend_4 : decode cX2_lend 4 = .ok (.istore 6, 2) := by decide +kernel
theorem dX2_lend_6 : decode cX2_lend 6 = .ok (.aload_n 0, 1) := by decide +kernel
theorem dX2_lend_7 : decode cX2_lend 7 = .ok (.getfield 23, 3) := by decide +kernel
theorem dX2_lend_10 : decode cX2_lend 10 = .ok (.invokevirtual 32, 3) := by decide +kernel
theorem dX2_lend_13 : decode cX2_lend 13 = .ok (.istore 7, 2) := by decide +kernel
theorem dX2_lend_15 : decode cX2_lend 15 = .ok (.aload_n 0, 1) := by decide +kernel
theorem dX2_lend_16 : decode cX2_lend 16 = .ok (.getfield 23, 3) := by decide +kernel
theorem dX2_lend_19 : decode cX2_lend 19 = .ok (.iload 7, 2) := by decide +kernel
theorem dX2_lend_21 : decode cX2_lend 21 = .ok (.iconst 0, 1) := by decide +kernel
theorem dX2_lend_22 : decode cX2_lend 22 = .ok (.iload_n 1, 1) := by decide +kernel
theorem dX2_lend_23 : decode cX2_lend 23 = .ok (.invokevirtual 36, 3) := by decide +kernel
theorem dX2_lend_26 : decode cX2_lend 26 = .ok (.aload_n 0, 1) := by decide +kernel
theorem dX2_lend_27 : decode cX2_lend 27 = .ok (.getfield 23, 3) := by decide +kernel
theorem dX2_lend_30 : decode cX2_lend 30 = .ok (.iload 7, 2) := by decide +kernel
theorem dX2_lend_32 : decode cX2_lend 32 = .ok (.iconst 1, 1) := by decide +kernel
theorem dX2_lend_33 : decode cX2_lend 33 = .ok (.iload_n 2, 1) := by decide +kernel
theorem dX2_lend_34 : decode cX2_lend 34 = .ok (.invokevirtual 36, 3) := by decide +kernel
theorem dX2_lend_37 : decode cX2_lend 37 = .ok (.aload_n 0, 1) := by decide +kernel
theorem dX2_lend_38 : decode cX2_lend 38 = .ok (.getfield 23, 3) := by decide +kernel
theorem dX2_lend_41 : decode cX2_lend 41 = .ok (.iload 7, 2) := by decide +kernel
theorem dX2_lend_43 : decode cX2_lend 43 = .ok (.iconst 2, 1) := by decide +kernel
theorem dX2_lend_44 : decode cX2_lend 44 = .ok (.iload_n 3, 1) := by decide +kernel
theorem dX2_lend_45 : decode cX2_lend 45 = .ok (.invokevirtual 36, 3) := by decide +kernel
theorem dX2_lend_48 : decode cX2_lend 48 = .ok (.aload_n 0, 1) := by decide +kernel
theorem dX2_lend_49 : decode cX2_lend 49 = .ok (.getfield 23, 3) := by decide +kernel
theorem dX2_lend_52 : decode cX2_lend 52 = .ok (.iload 7, 2) := by decide +kernel
theorem dX2_lend_54 : decode cX2_lend 54 = .ok (.iconst 3, 1) := by decide +kernel
theorem dX2_lend_55 : decode cX2_lend 55 = .ok (.iload 4, 2) := by decide +kernel
theorem dX2_lend_57 : decode cX2_lend 57 = .ok (.invokevirtual 36, 3) := by decide +kernel
theorem dX2_lend_60 : decode cX2_lend 60 = .ok (.aload_n 0, 1) := by decide +kernel
theorem dX2_lend_61 : decode cX2_lend 61 = .ok (.getfield 23, 3) := by decide +kernel
theorem dX2_lend_64 : decode cX2_lend 64 = .ok (.iload 7, 2) := by decide +kernel
theorem dX2_lend_66 : decode cX2_lend 66 = .ok (.iconst 4, 1) := by decide +kernel
theorem dX2_lend_67 : decode cX2_lend 67 = .ok (.iload 5, 2) := by decide +kernel
theorem dX2_lend_69 : decode cX2_lend 69 = .ok (.invokevirtual 36, 3) := by decide +kernel
theorem dX2_lend_72 : decode cX2_lend 72 = .ok (.aload_n 0, 1) := by decide +kernel
theorem dX2_lend_73 : decode cX2_lend 73 = .ok (.getfield 23, 3) := by decide +kernel
theorem dX2_lend_76 : decode cX2_lend 76 = .ok (.iload 7, 2) := by decide +kernel
theorem dX2_lend_78 : decode cX2_lend 78 = .ok (.iconst 5, 1) := by decide +kernel
theorem dX2_lend_79 : decode cX2_lend 79 = .ok (.iload 6, 2) := by decide +kernel
theorem dX2_lend_81 : decode cX2_lend 81 = .ok (.invokevirtual 36, 3) := by decide +kernel
theorem dX2_lend_84 : decode cX2_lend 84 = .ok (.aload_n 0, 1) := by decide +kernel
theorem dX2_lend_85 : decode cX2_lend 85 = .ok (.dup, 1) := by decide +kernel
theorem dX2_lend_86 : decode cX2_lend 86 = .ok (.getfield 44, 3) := by decide +kernel
theorem dX2_lend_89 : decode cX2_lend 89 = .ok (.iconst 1, 1) := by decide +kernel
theorem dX2_lend_90 : decode cX2_lend 90 = .ok (.iadd, 1) := by decide +kernel
theorem dX2_lend_91 : decode cX2_lend 91 = .ok (.putfield 44, 3) := by decide +kernel
theorem dX2_lend_94 : decode cX2_lend 94 = .ok (.aload_n 0, 1) := by decide +kernel
theorem dX2_lend_95 : decode cX2_lend 95 = .ok (.invokevirtual 57, 3) := by decide +kernel
theorem dX2_lend_98 : decode cX2_lend 98 = .ok (.iload 6, 2) := by decide +kernel
theorem dX2_lend_100 : decode cX2_lend 100 = .ok (.ireturn, 1) := by decide +kernel
set_option maxRecDepth 20000 in
theorem ggX2_changeMood_X3_at : GoodIn wsX2_changeMood wsX3_at := goodIn_r _ [13, 14, 15, 16, 74, 75, 76, 77] (by decide +kernel) (by decide +kernel)
set_option maxRecDepth 20000 in
theorem gX2_changeMood_X3_at : GoodIn wsX2_changeMood (wsV RX2 60 RX3 yX3_at wsX3_at) := goodIn_app (goodIn_of _ (by decide +kernel)) ggX2_changeMood_X3_at
set_option maxRecDepth 20000 in
theorem ggX2_changeMood_X3_put : GoodIn wsX2_changeMood wsX3_put := goodIn_r _ [20, 14, 15, 16, 74, 75, 76, 77] (by decide +kernel) (by decide +kernel)
set_option maxRecDepth 20000 in
theorem gX2_changeMood_X3_put : GoodIn wsX2_changeMood (wsV RX2 36 RX3 yX3_put wsX3_put) := goodIn_app (goodIn_of _ (by decide +kernel)) ggX2_changeMood_X3_put
set_option maxRecDepth 20000 in
theorem ggX2_changeMood_X2_buryDying : GoodIn wsX2_changeMood wsX2_buryDying := goodIn_r _ [25, 26, 27, 28, 29, 30, 12, 31, 14, 32, 33, 34, 24, 35, 1, 9, 10, 11, 13, 15, 16, 36, 37, 38, 39, 40, 41, 42, 43, 44, 45, 46, 47, 48, 49, 50, 51, 52, 53, 54, 17, 18, 19, 20, 65, 66, 67, 68, 69, 70, 71, 72, 73, 74, 75, 76, 77] (by decide +kernel) (by decide +kernel)
set_option maxRecDepth 20000 in
theorem gX2_changeMood_X2_buryDying : GoodIn wsX2_changeMood (wsV RX2 97 RX2 yX2_buryDying wsX2_buryDying) := goodIn_app (goodIn_of _ (by decide +kernel)) ggX2_changeMood_X2_buryDying
set_option maxRecDepth 20000 in
theorem ggX2_changeMood_X2_settle : GoodIn wsX2_changeMood wsX2_settle := goodIn_r _ [58, 59, 60, 26, 28, 29, 30, 12, 31, 14, 9, 10, 11, 13, 15, 16, 17, 18, 19, 20, 61, 62, 63, 24, 64, 65, 66, 67, 68, 69, 70, 71, 72, 73, 74, 75, 76, 77] (by decide +kernel) (by decide +kernel)
set_option maxRecDepth 20000 in
theorem gX2_changeMood_X2_settle : GoodIn wsX2_changeMood (wsV RX2 57 RX2 yX2_settle wsX2_settle) := goodIn_app (goodIn_of _ (by decide +kernel)) ggX2_changeMood_X2_settle
theorem dX2_changeMood_0 : decode cX2_changeMood 0 = .ok (.aload_n 0, 1) := by decide +kernel
theorem dX2_changeMood_1 : decode cX2_changeMood 1 = .ok (.getfield 14, 3) := by decide +kernel
theorem dX2_changeMood_4 : decode cX2_changeMood 4 = .ok (.iload_n 1, 1) := by decide +kernel
theorem dX2_changeMood_5 : decode cX2_changeMood 5 = .ok (.iconst 0, 1) := by decide +kernel
theorem dX2_changeMood_6 : decode cX2_changeMood 6 = .ok (.invokevirtual 60, 3) := by decide +kernel
theorem dX2_changeMood_9 : decode cX2_changeMood 9 = .ok (.iload_n 2, 1) := by decide +kernel
theorem dX2_changeMood_10 : decode cX2_changeMood 10 = .ok (.iadd, 1) := by decide +kernel
theorem dX2_changeMood_11 : decode cX2_changeMood 11 = .ok (.istore_n 3, 1) := by decide +kernel
theorem dX2_changeMood_12 : decode cX2_changeMood 12 = .ok (.iconst 0, 1) := by decide +kernel
theorem dX2_changeMood_13 : decode cX2_changeMood 13 = .ok (.bipush 100, 2) := by decide +kernel
theorem dX2_changeMood_15 : decode cX2_changeMood 15 = .ok (.iload_n 3, 1) := by decide +kernel
theorem dX2_changeMood_16 : decode cX2_changeMood 16 = .ok (.invokestatic 89, 3) := by decide +kernel
theorem dX2_changeMood_19 : decode cX2_changeMood 19 = .ok (.invokestatic 94, 3) := by decide +kernel
theorem dX2_changeMood_22 : decode cX2_changeMood 22 = .ok (.istore 4, 2) := by decide +kernel
theorem dX2_changeMood_24 : decode cX2_changeMood 24 = .ok (.aload_n 0, 1) := by decide +kernel
theorem dX2_changeMood_25 : decode cX2_changeMood 25 = .ok (.getfield 14, 3) := by decide +kernel
theorem dX2_changeMood_28 : decode cX2_changeMood 28 = .ok (.iload_n 1, 1) := by decide +kernel
theorem dX2_changeMood_29 : decode cX2_changeMood 29 = .ok (.iconst 0, 1) := by decide +kernel
theorem dX2_changeMood_30 : decode cX2_changeMood 30 = .ok (.iload 4, 2) := by decide +kernel
theorem dX2_changeMood_32 : decode cX2_changeMood 32 = .ok (.invokevirtual 36, 3) := by decide +kernel
theorem dX2_changeMood_35 : decode cX2_changeMood 35 = .ok (.aload_n 0, 1) := by decide +kernel
theorem dX2_changeMood_36 : decode cX2_changeMood 36 = .ok (.invokevirtual 97, 3) := by decide +kernel
theorem dX2_changeMood_39 : decode cX2_changeMood 39 = .ok (.ifCond .le 7, 3) := by decide +kernel
theorem dX2_changeMood_42 : decode cX2_changeMood 42 = .ok (.aload_n 0, 1) := by decide +kernel
theorem dX2_changeMood_43 : decode cX2_changeMood 43 = .ok (.invokevirtual 57, 3) := by decide +kernel
theorem dX2_changeMood_46 : decode cX2_changeMood 46 = .ok (.iload 4, 2) := by decide +kernel
theorem dX2_changeMood_48 : decode cX2_changeMood 48 = .ok (.ireturn, 1) := by decide +kernel
theorem dX2_hasTimeFor_0 : decode cX2_hasTimeFor 0 = .ok (.aload_n 0, 1) := by decide +kernel
theorem dX2_hasTimeFor_1 : decode cX2_hasTimeFor 1 = .ok (.getfield 54, 3) := by decide +kernel
theorem dX2_hasTimeFor_4 : decode cX2_hasTimeFor 4 = .ok (.iload_n 1, 1) := by decide +kernel
theorem dX2_hasTimeFor_5 : decode cX2_hasTimeFor 5 = .ok (.iadd, 1) := by decide +kernel
theorem dX2_hasTimeFor_6 : decode cX2_hasTimeFor 6 = .ok (.ldc 100, 2) := by decide +kernel
theorem dX2_hasTimeFor_8 : decode cX2_hasTimeFor 8 = .ok (.if_icmp .gt 7, 3) := by decide +kernel
theorem dX2_hasTimeFor_11 : decode cX2_hasTimeFor 11 = .ok (.iconst 1, 1) := by decide +kernel
theorem dX2_hasTimeFor_12 : decode cX2_hasTimeFor 12 = .ok (.goto 4, 3) := by decide +kernel
theorem dX2_hasTimeFor_15 : decode cX2_hasTimeFor 15 = .ok (.iconst 0, 1) := by decide +kernel
theorem dX2_hasTimeFor_16 : decode cX2_hasTimeFor 16 = .ok (.ireturn, 1) := by decide +kernel
set_option maxRecDepth 20000 in
theorem ggX2_letPass_X2_calm : GoodIn wsX2_letPass wsX2_calm := goodIn_r _ [6, 7, 8, 9, 10, 11, 12, 13, 14, 15, 16, 17, 18, 19, 62, 63, 64, 65, 66, 67, 68, 69, 70, 71, 72, 73, 74] (by decide +kernel) (by decide +kernel)
set_option maxRecDepth 20000 in
theorem gX2_letPass_X2_calm : GoodIn wsX2_letPass (wsV RX2 101 RX2 yX2_calm wsX2_calm) := goodIn_app (goodIn_of _ (by decide +kernel)) ggX2_letPass_X2_calm
set_option maxRecDepth 20000 in
theorem ggX2_letPass_X2_buryDying : GoodIn wsX2_letPass wsX2_buryDying := goodIn_r _ [23, 24, 25, 26, 27, 28, 11, 29, 13, 30, 31, 32, 5, 33, 7, 8, 9, 10, 12, 14, 15, 34, 35, 36, 37, 38, 1, 39, 40, 41, 42, 43, 44, 45, 46, 47, 48, 49, 50, 51, 16, 17, 18, 19, 62, 63, 64, 65, 66, 67, 68, 69, 70, 71, 72, 73, 74] (by decide +kernel) (by decide +kernel)
set_option maxRecDepth 20000 in
theorem gX2_letPass_X2_buryDying : GoodIn wsX2_letPass (wsV RX2 97 RX2 yX2_buryDying wsX2_buryDying) := goodIn_app (goodIn_of _ (by decide +kernel)) ggX2_letPass_X2_buryDying
set_option maxRecDepth 20000 in
theorem ggX2_letPass_X2_settle : GoodIn wsX2_letPass wsX2_settle := goodIn_r _ [55, 56, 57, 24, 26, 27, 28, 11, 29, 13, 8, 9, 10, 12, 14, 15, 16, 17, 18, 19, 58, 59, 60, 5, 61, 62, 63, 64, 65, 66, 67, 68, 69, 70, 71, 72, 73, 74] (by decide +kernel) (by decide +kernel)
set_option maxRecDepth 20000 in
theorem gX2_letPass_X2_settle : GoodIn wsX2_letPass (wsV RX2 57 RX2 yX2_settle wsX2_settle) := goodIn_app (goodIn_of _ (by decide +kernel)) ggX2_letPass_X2_settle
theorem dX2_letPass_0 : decode cX2_letPass 0 = .ok (.iconst 0, 1) := by decide +kernel
theorem dX2_letPass_1 : decode cX2_letPass 1 = .ok (.istore_n 2, 1) := by decide +kernel
theorem dX2_letPass_2 : decode cX2_letPass 2 = .ok (.iconst 0, 1) := by decide +kernel
theorem dX2_letPass_3 : decode cX2_letPass 3 = .ok (.istore_n 3, 1) := by decide +kernel
theorem dX2_letPass_4 : decode cX2_letPass 4 = .ok (.iload_n 3, 1) := by decide +kernel
theorem dX2_letPass_5 : decode cX2_letPass 5 = .ok (.iload_n 1, 1) := by decide +kernel
theorem dX2_letPass_6 : decode cX2_letPass 6 = .ok (.if_icmp .ge 48, 3) := by decide +kernel
theorem dX2_letPass_9 : decode cX2_letPass 9 = .ok (.iconst 0, 1) := by decide +kernel
theorem dX2_letPass_10 : decode cX2_letPass 10 = .ok (.istore 4, 2) := by decide +kernel
theorem dX2_letPass_12 : decode cX2_letPass 12 = .ok (.iload 4, 2) := by decide +kernel
theorem dX2_letPass_14 : decode cX2_letPass 14 = .ok (.bipush 10, 2) := by decide +kernel
theorem dX2_letPass_16 : decode cX2_letPass 16 = .ok (.if_icmp .ge 15, 3) := by decide +kernel
theorem dX2_letPass_19 : decode cX2_letPass 19 = .ok (.aload_n 0, 1) := by decide +kernel
theorem dX2_letPass_20 : decode cX2_letPass 20 = .ok (.iload 4, 2) := by decide +kernel
theorem dX2_letPass_22 : decode cX2_letPass 22 = .ok (.invokevirtual 101, 3) := by decide +kernel
theorem dX2_letPass_25 : decode cX2_letPass 25 = .ok (.iinc 4 1, 3) := by decide +kernel
theorem dX2_letPass_28 : decode cX2_letPass 28 = .ok (.goto (-16), 3) := by decide +kernel
theorem dX2_letPass_31 : decode cX2_letPass 31 = .ok (.aload_n 0, 1) := by decide +kernel
theorem dX2_letPass_32 : decode cX2_letPass 32 = .ok (.dup, 1) := by decide +kernel
theorem dX2_letPass_33 : decode cX2_letPass 33 = .ok (.getfield 54, 3) := by decide +kernel
theorem dX2_letPass_36 : decode cX2_letPass 36 = .ok (.iconst 1, 1) := by decide +kernel
theorem dX2_letPass_37 : decode cX2_letPass 37 = .ok (.iadd, 1) := by decide +kernel
theorem dX2_letPass_38 : decode cX2_letPass 38 = .ok (.putfield 54, 3) := by decide +kernel
theorem dX2_letPass_41 : decode cX2_letPass 41 = .ok (.iload_n 2, 1) := by decide +kernel
theorem dX2_letPass_42 : decode cX2_letPass 42 = .ok (.aload_n 0, 1) := by decide +kernel
theorem dX2_letPass_43 : decode cX2_letPass 43 = .ok (.invokevirtual 97, 3) := by decide +kernel
theorem dX2_letPass_46 : decode cX2_letPass 46 = .ok (.iadd, 1) := by decide +kernel
theorem dX2_letPass_47 : decode cX2_letPass 47 = .ok (.istore_n 2, 1) := by decide +kernel
theorem dX2_letPass_48 : decode cX2_letPass 48 = .ok (.iinc 3 1, 3) := by decide +kernel
theorem dX2_letPass_51 : decode cX2_letPass 51 = .ok (.goto (-47), 3) := by decide +kernel
theorem dX2_letPass_54 : decode cX2_letPass 54 = .ok (.iload_n 2, 1) := by decide +kernel
theorem dX2_letPass_55 : decode cX2_letPass 55 = .ok (.ifCond .le 7, 3) := by decide +kernel
theorem dX2_letPass_58 : decode cX2_letPass 58 = .ok (.aload_n 0, 1) := by decide +kernel
theorem dX2_letPass_59 : decode cX2_letPass 59 = .ok (.invokevirtual 57, 3) := by decide +kernel
theorem dX2_letPass_62 : decode cX2_letPass 62 = .ok (.iload_n 2, 1) := by decide +kernel
theorem dX2_letPass_63 : decode cX2_letPass 63 = .ok (.ireturn, 1) := by decide +kernel
set_option maxRecDepth 20000 in
theorem ggX2_rightsOf_X3_at : GoodIn wsX2_rightsOf wsX3_at := goodIn_r _ [6, 7, 8, 9, 19, 20, 21, 22] (by decide +kernel) (by decide +kernel)
set_option maxRecDepth 20000 in
theorem gX2_rightsOf_X3_at : GoodIn wsX2_rightsOf (wsV RX2 60 RX3 yX3_at wsX3_at) := goodIn_app (goodIn_of _ (by decide +kernel)) ggX2_rightsOf_X3_at
theorem dX2_rightsOf_0 : decode cX2_rightsOf 0 = .ok (.aload_n 0, 1) := by decide +kernel
theorem dX2_rightsOf_1 : decode cX2_rightsOf 1 = .ok (.getfield 29, 3) := by decide +kernel
theorem dX2_rightsOf_4 : decode cX2_rightsOf 4 = .ok (.iload_n 2, 1) := by decide +kernel
theorem dX2_rightsOf_5 : decode cX2_rightsOf 5 = .ok (.iload_n 1, 1) := by decide +kernel
theorem dX2_rightsOf_6 : decode cX2_rightsOf 6 = .ok (.invokevirtual 60, 3) := by decide +kernel
theorem dX2_rightsOf_9 : decode cX2_rightsOf 9 = .ok (.ireturn, 1) := by decide +kernel
set_option maxRecDepth 20000 in
theorem ggX2_placeOf_X3_rows : GoodIn wsX2_placeOf wsX3_rows := goodIn_r _ [6, 7, 23, 24, 25, 26] (by decide +kernel) (by decide +kernel)
set_option maxRecDepth 20000 in
theorem gX2_placeOf_X3_rows : GoodIn wsX2_placeOf (wsV RX2 104 RX3 yX3_rows wsX3_rows) := goodIn_app (goodIn_of _ (by decide +kernel)) ggX2_placeOf_X3_rows
set_option maxRecDepth 20000 in
theorem ggX2_placeOf_X3_at : GoodIn wsX2_placeOf wsX3_at := goodIn_r _ [11, 7, 12, 13, 23, 24, 25, 26] (by decide +kernel) (by decide +kernel)
set_option maxRecDepth 20000 in
theorem gX2_placeOf_X3_at : GoodIn wsX2_placeOf (wsV RX2 60 RX3 yX3_at wsX3_at) := goodIn_app (goodIn_of _ (by decide +kernel)) ggX2_placeOf_X3_at
theorem dX2_placeOf_0 : decode cX2_placeOf 0 = .ok (.iconst 0, 1) := by decide +kernel
theorem dX2_placeOf_1 : decode cX2_placeOf 1 = .ok (.istore_n 2, 1) := by decide +kernel
theorem dX2_placeOf_2 : decode cX2_placeOf 2 = .ok (.iload_n 2, 1) := by decide +kernel
theorem dX2_placeOf_3 : decode cX2_placeOf 3 = .ok (.aload_n 0, 1) := by decide +kernel
theorem dX2_placeOf_4 : decode cX2_placeOf 4 = .ok (.getfield 23, 3) := by decide +kernel
theorem dX2_placeOf_7 : decode cX2_placeOf 7 = .ok (.invokevirtual 104, 3) := by decide +kernel
theorem dX2_placeOf_10 : decode cX2_placeOf 10 = .ok (.if_icmp .ge 24, 3) := by decide +kernel
theorem dX2_placeOf_13 : decode cX2_placeOf 13 = .ok (.aload_n 0, 1) := by decide +kernel
theorem dX2_placeOf_14 : decode cX2_placeOf 14 = .ok (.getfield 23, 3) := by decide +kernel
theorem dX2_placeOf_17 : decode cX2_placeOf 17 = .ok (.iload_n 2, 1) := by decide +kernel
theorem dX2_placeOf_18 : decode cX2_placeOf 18 = .ok (.iconst 5, 1) := by decide +kernel
theorem dX2_placeOf_19 : decode cX2_placeOf 19 = .ok (.invokevirtual 60, 3) := by decide +kernel
theorem dX2_placeOf_22 : decode cX2_placeOf 22 = .ok (.iload_n 1, 1) := by decide +kernel
theorem dX2_placeOf_23 : decode cX2_placeOf 23 = .ok (.if_icmp .ne 5, 3) := by decide +kernel
theorem dX2_placeOf_26 : decode cX2_placeOf 26 = .ok (.iload_n 2, 1) := by decide +kernel
theorem dX2_placeOf_27 : decode cX2_placeOf 27 = .ok (.ireturn, 1) := by decide +kernel
theorem dX2_placeOf_28 : decode cX2_placeOf 28 = .ok (.iinc 2 1, 3) := by decide +kernel
theorem dX2_placeOf_31 : decode cX2_placeOf 31 = .ok (.goto (-29), 3) := by decide +kernel
theorem dX2_placeOf_34 : decode cX2_placeOf 34 = .ok (.iconst (-1), 1) := by decide +kernel
theorem dX2_placeOf_35 : decode cX2_placeOf 35 = .ok (.ireturn, 1) := by decide +kernel
set_option maxRecDepth 20000 in
theorem ggX2_passedOn_X3_at : GoodIn wsX2_passedOn wsX3_at := goodIn_r _ [8, 9, 10, 11, 21, 22, 23, 24] (by decide +kernel) (by decide +kernel)
set_option maxRecDepth 20000 in
theorem gX2_passedOn_X3_at : GoodIn wsX2_passedOn (wsV RX2 60 RX3 yX3_at wsX3_at) := goodIn_app (goodIn_of _ (by decide +kernel)) ggX2_passedOn_X3_at
theorem dX2_passedOn_0 : decode cX2_passedOn 0 = .ok (.aload_n 0, 1) := by decide +kernel
theorem dX2_passedOn_1 : decode cX2_passedOn 1 = .ok (.getfield 23, 3) := by decide +kernel
theorem dX2_passedOn_4 : decode cX2_passedOn 4 = .ok (.iload_n 1, 1) := by decide +kernel
theorem dX2_passedOn_5 : decode cX2_passedOn 5 = .ok (.iconst 2, 1) := by decide +kernel
theorem dX2_passedOn_6 : decode cX2_passedOn 6 = .ok (.invokevirtual 60, 3) := by decide +kernel
theorem dX2_passedOn_9 : decode cX2_passedOn 9 = .ok (.istore_n 2, 1) := by decide +kernel
theorem dX2_passedOn_10 : decode cX2_passedOn 10 = .ok (.aload_n 0, 1) := by decide +kernel
theorem dX2_passedOn_11 : decode cX2_passedOn 11 = .ok (.getfield 29, 3) := by decide +kernel
theorem dX2_passedOn_14 : decode cX2_passedOn 14 = .ok (.iload_n 2, 1) := by decide +kernel
theorem dX2_passedOn_15 : decode cX2_passedOn 15 = .ok (.aload_n 0, 1) := by decide +kernel
theorem dX2_passedOn_16 : decode cX2_passedOn 16 = .ok (.getfield 23, 3) := by decide +kernel
theorem dX2_passedOn_19 : decode cX2_passedOn 19 = .ok (.iload_n 1, 1) := by decide +kernel
theorem dX2_passedOn_20 : decode cX2_passedOn 20 = .ok (.iconst 0, 1) := by decide +kernel
theorem dX2_passedOn_21 : decode cX2_passedOn 21 = .ok (.invokevirtual 60, 3) := by decide +kernel
theorem dX2_passedOn_24 : decode cX2_passedOn 24 = .ok (.invokevirtual 60, 3) := by decide +kernel
theorem dX2_passedOn_27 : decode cX2_passedOn 27 = .ok (.istore_n 3, 1) := by decide +kernel
theorem dX2_passedOn_28 : decode cX2_passedOn 28 = .ok (.iload_n 3, 1) := by decide +kernel
theorem dX2_passedOn_29 : decode cX2_passedOn 29 = .ok (.iconst 4, 1) := by decide +kernel
theorem dX2_passedOn_30 : decode cX2_passedOn 30 = .ok (.iand, 1) := by decide +kernel
theorem dX2_passedOn_31 : decode cX2_passedOn 31 = .ok (.ifCond .ne 5, 3) := by decide +kernel
theorem dX2_passedOn_34 : decode cX2_passedOn 34 = .ok (.iconst 0, 1) := by decide +kernel
theorem dX2_passedOn_35 : decode cX2_passedOn 35 = .ok (.ireturn, 1) := by decide +kernel
theorem dX2_passedOn_36 : decode cX2_passedOn 36 = .ok (.aload_n 0, 1) := by decide +kernel
theorem dX2_passedOn_37 : decode cX2_passedOn 37 = .ok (.getfield 23, 3) := by decide +kernel
theorem dX2_passedOn_40 : decode cX2_passedOn 40 = .ok (.iload_n 1, 1) := by decide +kernel
theorem dX2_passedOn_41 : decode cX2_passedOn 41 = .ok (.iconst 3, 1) := by decide +kernel
theorem dX2_passedOn_42 : decode cX2_passedOn 42 = .ok (.invokevirtual 60, 3) := by decide +kernel
theorem dX2_passedOn_45 : decode cX2_passedOn 45 = .ok (.iload_n 3, 1) := by decide +kernel
theorem dX2_passedOn_46 : decode cX2_passedOn 46 = .ok (.iand, 1) := by decide +kernel
theorem dX2_passedOn_47 : decode cX2_passedOn 47 = .ok (.aload_n 0, 1) := by decide +kernel
theorem dX2_passedOn_48 : decode cX2_passedOn 48 = .ok (.getfield 20, 3) := by decide +kernel
theorem dX2_passedOn_51 : decode cX2_passedOn 51 = .ok (.iload_n 2, 1) := by decide +kernel
theorem dX2_passedOn_52 : decode cX2_passedOn 52 = .ok (.iconst 1, 1) := by decide +kernel
theorem dX2_passedOn_53 : decode cX2_passedOn 53 = .ok (.invokevirtual 60, 3) := by decide +kernel
theorem dX2_passedOn_56 : decode cX2_passedOn 56 = .ok (.iand, 1) := by decide +kernel
theorem dX2_passedOn_57 : decode cX2_passedOn 57 = .ok (.ireturn, 1) := by decide +kernel
set_option maxRecDepth 20000 in
theorem ggX2_countPairs_X3_rows : GoodIn wsX2_countPairs wsX3_rows := goodIn_r _ [6, 7, 36, 37, 38, 39] (by decide +kernel) (by decide +kernel)
set_option maxRecDepth 20000 in
theorem gX2_countPairs_X3_rows : GoodIn wsX2_countPairs (wsV RX2 104 RX3 yX3_rows wsX3_rows) := goodIn_app (goodIn_of _ (by decide +kernel)) ggX2_countPairs_X3_rows
set_option maxRecDepth 20000 in
theorem ggX2_countPairs_X2_holdersOf : GoodIn wsX2_countPairs wsX2_holdersOf := goodIn_r _ [12, 13, 14, 15, 16, 5, 17, 7, 18, 19, 27, 28, 29, 30, 31, 32, 33, 34, 35, 36, 37, 38, 39] (by decide +kernel) (by decide +kernel)
set_option maxRecDepth 20000 in
theorem gX2_countPairs_X2_holdersOf : GoodIn wsX2_countPairs (wsV RX2 107 RX2 yX2_holdersOf wsX2_holdersOf) := goodIn_app (goodIn_of _ (by decide +kernel)) ggX2_countPairs_X2_holdersOf
set_option maxRecDepth 20000 in
theorem ggX2_countPairs_J6_bitCount_0f7a4 : GoodIn wsX2_countPairs wsJ6_bitCount_0f7a4 := goodIn_r _ [23, 24, 25, 26] (by decide +kernel) (by decide +kernel)
set_option maxRecDepth 20000 in
theorem gX2_countPairs_J6_bitCount_0f7a4 : GoodIn wsX2_countPairs (va_wsS RX2 110 yJ6_bitCount_0f7a4 wsJ6_bitCount_0f7a4) := goodIn_app (goodIn_of _ (by decide +kernel)) ggX2_countPairs_J6_bitCount_0f7a4
theorem dX2_countPairs_0 : decode cX2_countPairs 0 = .ok (.iconst 0, 1) := by decide +kernel
theorem dX2_countPairs_1 : decode cX2_countPairs 1 = .ok (.istore_n 1, 1) := by decide +kernel
theorem dX2_countPairs_2 : decode cX2_countPairs 2 = .ok (.iconst 0, 1) := by decide +kernel
theorem dX2_countPairs_3 : decode cX2_countPairs 3 = .ok (.istore_n 2, 1) := by decide +kernel
theorem dX2_countPairs_4 : decode cX2_countPairs 4 = .ok (.iload_n 2, 1) := by decide +kernel
theorem dX2_countPairs_5 : decode cX2_countPairs 5 = .ok (.aload_n 0, 1) := by decide +kernel
theorem dX2_countPairs_6 : decode cX2_countPairs 6 = .ok (.getfield 20, 3) := by decide +kernel
theorem dX2_countPairs_9 : decode cX2_countPairs 9 = .ok (.invokevirtual 104, 3) := by decide +kernel
theorem dX2_countPairs_12 : decode cX2_countPairs 12 = .ok (.if_icmp .ge 21, 3) := by decide +kernel
theorem dX2_countPairs_15 : decode cX2_countPairs 15 = .ok (.iload_n 1, 1) := by decide +kernel
theorem dX2_countPairs_16 : decode cX2_countPairs 16 = .ok (.aload_n 0, 1) := by decide +kernel
theorem dX2_countPairs_17 : decode cX2_countPairs 17 = .ok (.iload_n 2, 1) := by decide +kernel
theorem dX2_countPairs_18 : decode cX2_countPairs 18 = .ok (.iconst 1, 1) := by decide +kernel
theorem dX2_countPairs_19 : decode cX2_countPairs 19 = .ok (.invokevirtual 107, 3) := by decide +kernel
theorem dX2_countPairs_22 : decode cX2_countPairs 22 = .ok (.invokestatic 110, 3) := by decide +kernel
theorem dX2_countPairs_25 : decode cX2_countPairs 25 = .ok (.iadd, 1) := by decide +kernel
theorem dX2_countPairs_26 : decode cX2_countPairs 26 = .ok (.istore_n 1, 1) := by decide +kernel
theorem dX2_countPairs_27 : decode cX2_countPairs 27 = .ok (.iinc 2 1, 3) := by decide +kernel
theorem dX2_countPairs_30 : decode cX2_countPairs 30 = .ok (.goto (-26), 3) := by decide +kernel
theorem dX2_countPairs_33 : decode cX2_countPairs 33 = .ok (.iload_n 1, 1) := by decide +kernel
theorem dX2_countPairs_34 : decode cX2_countPairs 34 = .ok (.ireturn, 1) := by decide +kernel
set_option maxRecDepth 20000 in
theorem ggX2_greatestThreshold_X3_rows : GoodIn wsX2_greatestThreshold wsX3_rows := goodIn_r _ [10, 11, 27, 28, 29, 30] (by decide +kernel) (by decide +kernel)
set_option maxRecDepth 20000 in
theorem gX2_greatestThreshold_X3_rows : GoodIn wsX2_greatestThreshold (wsV RX2 104 RX3 yX3_rows wsX3_rows) := goodIn_app (goodIn_of _ (by decide +kernel)) ggX2_greatestThreshold_X3_rows
set_option maxRecDepth 20000 in
theorem ggX2_greatestThreshold_X3_at : GoodIn wsX2_greatestThreshold wsX3_at := goodIn_r _ [15, 11, 16, 17, 27, 28, 29, 30] (by decide +kernel) (by decide +kernel)
set_option maxRecDepth 20000 in
theorem gX2_greatestThreshold_X3_at : GoodIn wsX2_greatestThreshold (wsV RX2 60 RX3 yX3_at wsX3_at) := goodIn_app (goodIn_of _ (by decide +kernel)) ggX2_greatestThreshold_X3_at
theorem dX2_greatestThreshold_0 : decode cX2_greatestThreshold 0 = .ok (.iconst 0, 1) := by decide +kernel
theorem dX2_greatestThreshold_1 : decode cX2_greatestThreshold 1 = .ok (.istore_n 2, 1) := by decide +kernel
theorem dX2_greatestThreshold_2 : decode cX2_greatestThreshold 2 = .ok (.iconst 0, 1) := by decide +kernel
theorem dX2_greatestThreshold_3 : decode cX2_greatestThreshold 3 = .ok (.istore_n 3, 1) := by decide +kernel
theorem dX2_greatestThreshold_4 : decode cX2_greatestThreshold 4 = .ok (.iload_n 3, 1) := by decide +kernel
theorem dX2_greatestThreshold_5 : decode cX2_greatestThreshold 5 = .ok (.aload_n 0, 1) := by decide +kernel
theorem dX2_greatestThreshold_6 : decode cX2_greatestThreshold 6 = .ok (.getfield 23, 3) := by decide +kernel
theorem dX2_greatestThreshold_9 : decode cX2_greatestThreshold 9 = .ok (.invokevirtual 104, 3) := by decide +kernel
theorem dX2_greatestThreshold_12 : decode cX2_greatestThreshold 12 = .ok (.if_icmp .ge 36, 3) := by decide +kernel
theorem dX2_greatestThreshold_15 : decode cX2_greatestThreshold 15 = .ok (.aload_n 0, 1) := by decide +kernel
theorem dX2_greatestThreshold_16 : decode cX2_greatestThreshold 16 = .ok (.getfield 23, 3) := by decide +kernel
theorem dX2_greatestThreshold_19 : decode cX2_greatestThreshold 19 = .ok (.iload_n 3, 1) := by decide +kernel
theorem dX2_greatestThreshold_20 : decode cX2_greatestThreshold 20 = .ok (.iconst 0, 1) := by decide +kernel
theorem dX2_greatestThreshold_21 : decode cX2_greatestThreshold 21 = .ok (.invokevirtual 60, 3) := by decide +kernel
theorem dX2_greatestThreshold_24 : decode cX2_greatestThreshold 24 = .ok (.iload_n 1, 1) := by decide +kernel
theorem dX2_greatestThreshold_25 : decode cX2_greatestThreshold 25 = .ok (.if_icmp .ne 17, 3) := by decide +kernel
theorem dX2_greatestThreshold_28 : decode cX2_greatestThreshold 28 = .ok (.iload_n 2, 1) := by decide +kernel
theorem dX2_greatestThreshold_29 : decode cX2_greatestThreshold 29 = .ok (.aload_n 0, 1) := by decide +kernel
theorem dX2_greatestThreshold_30 : decode cX2_greatestThreshold 30 = .ok (.getfield 23, 3) := by decide +kernel
theorem dX2_greatestThreshold_33 : decode cX2_greatestThreshold 33 = .ok (.iload_n 3, 1) := by decide +kernel
theorem dX2_greatestThreshold_34 : decode cX2_greatestThreshold 34 = .ok (.iconst 4, 1) := by decide +kernel
theorem dX2_greatestThreshold_35 : decode cX2_greatestThreshold 35 = .ok (.invokevirtual 60, 3) := by decide +kernel
theorem dX2_greatestThreshold_38 : decode cX2_greatestThreshold 38 = .ok (.invokestatic 94, 3) := by decide +kernel
theorem dX2_greatestThreshold_41 : decode cX2_greatestThreshold 41 = .ok (.istore_n 2, 1) := by decide +kernel
theorem dX2_greatestThreshold_42 : decode cX2_greatestThreshold 42 = .ok (.iinc 3 1, 3) := by decide +kernel
theorem dX2_greatestThreshold_45 : decode cX2_greatestThreshold 45 = .ok (.goto (-41), 3) := by decide +kernel
theorem dX2_greatestThreshold_48 : decode cX2_greatestThreshold 48 = .ok (.iload_n 2, 1) := by decide +kernel
theorem dX2_greatestThreshold_49 : decode cX2_greatestThreshold 49 = .ok (.ireturn, 1) := by decide +kernel
set_option maxRecDepth 20000 in
theorem ggX2_aboutPerson_X3_at : GoodIn wsX2_aboutPerson wsX3_at := goodIn_r _ [8, 9, 10, 11, 41, 42, 43, 44] (by decide +kernel) (by decide +kernel)
set_option maxRecDepth 20000 in
theorem gX2_aboutPerson_X3_at : GoodIn wsX2_aboutPerson (wsV RX2 60 RX3 yX3_at wsX3_at) := goodIn_app (goodIn_of _ (by decide +kernel)) ggX2_aboutPerson_X3_at
set_option maxRecDepth 20000 in
theorem ggX2_aboutPerson_X2_countEqual : GoodIn wsX2_aboutPerson wsX2_countEqual := goodIn_r _ [15, 16, 17, 18, 7, 19, 9, 4, 5, 6, 8, 10, 11, 41, 42, 43, 44] (by decide +kernel) (by decide +kernel)
set_option maxRecDepth 20000 in
theorem gX2_aboutPerson_X2_countEqual : GoodIn wsX2_aboutPerson (va_wsS RX2 116 yX2_countEqual wsX2_countEqual) := goodIn_app (goodIn_of _ (by decide +kernel)) ggX2_aboutPerson_X2_countEqual
set_option maxRecDepth 20000 in
theorem ggX2_aboutPerson_X2_thingsSeenBy : GoodIn wsX2_aboutPerson wsX2_thingsSeenBy := goodIn_r _ [23, 2, 24, 16, 17, 18, 7, 19, 9, 4, 5, 6, 8, 10, 11, 32, 33, 34, 35, 36, 37, 38, 39, 40, 41, 42, 43, 44] (by decide +kernel) (by decide +kernel)
set_option maxRecDepth 20000 in
theorem gX2_aboutPerson_X2_thingsSeenBy : GoodIn wsX2_aboutPerson (wsV RX2 120 RX2 yX2_thingsSeenBy wsX2_thingsSeenBy) := goodIn_app (goodIn_of _ (by decide +kernel)) ggX2_aboutPerson_X2_thingsSeenBy
set_option maxRecDepth 20000 in
theorem ggX2_aboutPerson_J6_bitCount_0f7a4 : GoodIn wsX2_aboutPerson wsJ6_bitCount_0f7a4 := goodIn_r _ [28, 29, 30, 31] (by decide +kernel) (by decide +kernel)
set_option maxRecDepth 20000 in
theorem gX2_aboutPerson_J6_bitCount_0f7a4 : GoodIn wsX2_aboutPerson (va_wsS RX2 110 yJ6_bitCount_0f7a4 wsJ6_bitCount_0f7a4) := goodIn_app (goodIn_of _ (by decide +kernel)) ggX2_aboutPerson_J6_bitCount_0f7a4
theorem dX2_aboutPerson_0 : decode cX2_aboutPerson 0 = .ok (.iload_n 2, 1) := by decide +kernel
theorem dX2_aboutPerson_1 : decode cX2_aboutPerson 1 = .ok (.tableswitch 98 0 5 #[39, 49, 59, 69, 78, 88], 39) := by decide +kernel
theorem dX2_aboutPerson_40 : decode cX2_aboutPerson 40 = .ok (.aload_n 0, 1) := by decide +kernel
theorem dX2_aboutPerson_41 : decode cX2_aboutPerson 41 = .ok (.getfield 14, 3) := by decide +kernel
theorem dX2_aboutPerson_44 : decode cX2_aboutPerson 44 = .ok (.iload_n 1, 1) := by decide +kernel
theorem dX2_aboutPerson_45 : decode cX2_aboutPerson 45 = .ok (.iconst 0, 1) := by decide +kernel
theorem dX2_aboutPerson_46 : decode cX2_aboutPerson 46 = .ok (.invokevirtual 60, 3) := by decide +kernel
theorem dX2_aboutPerson_49 : decode cX2_aboutPerson 49 = .ok (.ireturn, 1) := by decide +kernel
theorem dX2_aboutPerson_50 : decode cX2_aboutPerson 50 = .ok (.aload_n 0, 1) := by decide +kernel
theorem dX2_aboutPerson_51 : decode cX2_aboutPerson 51 = .ok (.getfield 14, 3) := by decide +kernel
theorem dX2_aboutPerson_54 : decode cX2_aboutPerson 54 = .ok (.iload_n 1, 1) := by decide +kernel
theorem dX2_aboutPerson_55 : decode cX2_aboutPerson 55 = .ok (.iconst 1, 1) := by decide +kernel
theorem dX2_aboutPerson_56 : decode cX2_aboutPerson 56 = .ok (.invokevirtual 60, 3) := by decide +kernel
theorem dX2_aboutPerson_59 : decode cX2_aboutPerson 59 = .ok (.ireturn, 1) := by decide +kernel
theorem dX2_aboutPerson_60 : decode cX2_aboutPerson 60 = .ok (.aload_n 0, 1) := by decide +kernel
theorem dX2_aboutPerson_61 : decode cX2_aboutPerson 61 = .ok (.getfield 20, 3) := by decide +kernel
theorem dX2_aboutPerson_64 : decode cX2_aboutPerson 64 = .ok (.iconst 0, 1) := by decide +kernel
theorem dX2_aboutPerson_65 : decode cX2_aboutPerson 65 = .ok (.iload_n 1, 1) := by decide +kernel
theorem dX2_aboutPerson_66 : decode cX2_aboutPerson 66 = .ok (.invokestatic 116, 3) := by decide +kernel
theorem dX2_aboutPerson_69 : decode cX2_aboutPerson 69 = .ok (.ireturn, 1) := by decide +kernel
theorem dX2_aboutPerson_70 : decode cX2_aboutPerson 70 = .ok (.aload_n 0, 1) := by decide +kernel
theorem dX2_aboutPerson_71 : decode cX2_aboutPerson 71 = .ok (.iload_n 1, 1) := by decide +kernel
theorem dX2_aboutPerson_72 : decode cX2_aboutPerson 72 = .ok (.invokevirtual 120, 3) := by decide +kernel
theorem dX2_aboutPerson_75 : decode cX2_aboutPerson 75 = .ok (.invokestatic 110, 3) := by decide +kernel
theorem dX2_aboutPerson_78 : decode cX2_aboutPerson 78 = .ok (.ireturn, 1) := by decide +kernel
theorem dX2_aboutPerson_79 : decode cX2_aboutPerson 79 = .ok (.aload_n 0, 1) := by decide +kernel
theorem dX2_aboutPerson_80 : decode cX2_aboutPerson 80 = .ok (.getfield 23, 3) := by decide +kernel
theorem dX2_aboutPerson_83 : decode cX2_aboutPerson 83 = .ok (.iconst 0, 1) := by decide +kernel
theorem dX2_aboutPerson_84 : decode cX2_aboutPerson 84 = .ok (.iload_n 1, 1) := by decide +kernel
theorem dX2_aboutPerson_85 : decode cX2_aboutPerson 85 = .ok (.invokestatic 116, 3) := by decide +kernel
theorem dX2_aboutPerson_88 : decode cX2_aboutPerson 88 = .ok (.ireturn, 1) := by decide +kernel
theorem dX2_aboutPerson_89 : decode cX2_aboutPerson 89 = .ok (.aload_n 0, 1) := by decide +kernel
theorem dX2_aboutPerson_90 : decode cX2_aboutPerson 90 = .ok (.getfield 23, 3) := by decide +kernel
theorem dX2_aboutPerson_93 : decode cX2_aboutPerson 93 = .ok (.iconst 1, 1) := by decide +kernel
theorem dX2_aboutPerson_94 : decode cX2_aboutPerson 94 = .ok (.iload_n 1, 1) := by decide +kernel
theorem dX2_aboutPerson_95 : decode cX2_aboutPerson 95 = .ok (.invokestatic 116, 3) := by decide +kernel
theorem dX2_aboutPerson_98 : decode cX2_aboutPerson 98 = .ok (.ireturn, 1) := by decide +kernel
theorem dX2_aboutPerson_99 : decode cX2_aboutPerson 99 = .ok (.aload_n 0, 1) := by decide +kernel
theorem dX2_aboutPerson_100 : decode cX2_aboutPerson 100 = .ok (.iload_n 1, 1) := by decide +kernel
theorem dX2_aboutPerson_101 : decode cX2_aboutPerson 101 = .ok (.invokevirtual 120, 3) := by decide +kernel
theorem dX2_aboutPerson_104 : decode cX2_aboutPerson 104 = .ok (.ireturn, 1) := by decide +kernel
set_option maxRecDepth 20000 in
theorem ggX2_aboutThing_X3_at : GoodIn wsX2_aboutThing wsX3_at := goodIn_r _ [7, 8, 9, 10, 33, 34, 35, 36] (by decide +kernel) (by decide +kernel)
set_option maxRecDepth 20000 in
theorem gX2_aboutThing_X3_at : GoodIn wsX2_aboutThing (wsV RX2 60 RX3 yX3_at wsX3_at) := goodIn_app (goodIn_of _ (by decide +kernel)) ggX2_aboutThing_X3_at
set_option maxRecDepth 20000 in
theorem ggX2_aboutThing_X2_countEqual : GoodIn wsX2_aboutThing wsX2_countEqual := goodIn_r _ [14, 15, 16, 17, 6, 18, 8, 3, 4, 5, 7, 9, 10, 33, 34, 35, 36] (by decide +kernel) (by decide +kernel)
set_option maxRecDepth 20000 in
theorem gX2_aboutThing_X2_countEqual : GoodIn wsX2_aboutThing (va_wsS RX2 116 yX2_countEqual wsX2_countEqual) := goodIn_app (goodIn_of _ (by decide +kernel)) ggX2_aboutThing_X2_countEqual
set_option maxRecDepth 20000 in
theorem ggX2_aboutThing_X2_holdersOf : GoodIn wsX2_aboutThing wsX2_holdersOf := goodIn_r _ [22, 23, 3, 4, 5, 6, 7, 8, 9, 10, 24, 25, 26, 27, 28, 29, 30, 31, 32, 33, 34, 35, 36] (by decide +kernel) (by decide +kernel)
set_option maxRecDepth 20000 in
theorem gX2_aboutThing_X2_holdersOf : GoodIn wsX2_aboutThing (wsV RX2 107 RX2 yX2_holdersOf wsX2_holdersOf) := goodIn_app (goodIn_of _ (by decide +kernel)) ggX2_aboutThing_X2_holdersOf
theorem dX2_aboutThing_0 : decode cX2_aboutThing 0 = .ok (.iload_n 2, 1) := by decide +kernel
theorem dX2_aboutThing_1 : decode cX2_aboutThing 1 = .ok (.tableswitch 79 0 4 #[35, 45, 55, 65, 72], 35) := by decide +kernel
theorem dX2_aboutThing_36 : decode cX2_aboutThing 36 = .ok (.aload_n 0, 1) := by decide +kernel
theorem dX2_aboutThing_37 : decode cX2_aboutThing 37 = .ok (.getfield 20, 3) := by decide +kernel
theorem dX2_aboutThing_40 : decode cX2_aboutThing 40 = .ok (.iload_n 1, 1) := by decide +kernel
theorem dX2_aboutThing_41 : decode cX2_aboutThing 41 = .ok (.iconst 0, 1) := by decide +kernel
theorem dX2_aboutThing_42 : decode cX2_aboutThing 42 = .ok (.invokevirtual 60, 3) := by decide +kernel
theorem dX2_aboutThing_45 : decode cX2_aboutThing 45 = .ok (.ireturn, 1) := by decide +kernel
theorem dX2_aboutThing_46 : decode cX2_aboutThing 46 = .ok (.aload_n 0, 1) := by decide +kernel
theorem dX2_aboutThing_47 : decode cX2_aboutThing 47 = .ok (.getfield 20, 3) := by decide +kernel
theorem dX2_aboutThing_50 : decode cX2_aboutThing 50 = .ok (.iload_n 1, 1) := by decide +kernel
theorem dX2_aboutThing_51 : decode cX2_aboutThing 51 = .ok (.iconst 1, 1) := by decide +kernel
theorem dX2_aboutThing_52 : decode cX2_aboutThing 52 = .ok (.invokevirtual 60, 3) := by decide +kernel
theorem dX2_aboutThing_55 : decode cX2_aboutThing 55 = .ok (.ireturn, 1) := by decide +kernel
theorem dX2_aboutThing_56 : decode cX2_aboutThing 56 = .ok (.aload_n 0, 1) := by decide +kernel
theorem dX2_aboutThing_57 : decode cX2_aboutThing 57 = .ok (.getfield 23, 3) := by decide +kernel
theorem dX2_aboutThing_60 : decode cX2_aboutThing 60 = .ok (.iconst 2, 1) := by decide +kernel
theorem dX2_aboutThing_61 : decode cX2_aboutThing 61 = .ok (.iload_n 1, 1) := by decide +kernel
theorem dX2_aboutThing_62 : decode cX2_aboutThing 62 = .ok (.invokestatic 116, 3) := by decide +kernel
theorem dX2_aboutThing_65 : decode cX2_aboutThing 65 = .ok (.ireturn, 1) := by decide +kernel
theorem dX2_aboutThing_66 : decode cX2_aboutThing 66 = .ok (.aload_n 0, 1) := by decide +kernel
theorem dX2_aboutThing_67 : decode cX2_aboutThing 67 = .ok (.iload_n 1, 1) := by decide +kernel
theorem dX2_aboutThing_68 : decode cX2_aboutThing 68 = .ok (.iconst 1, 1) := by decide +kernel
theorem dX2_aboutThing_69 : decode cX2_aboutThing 69 = .ok (.invokevirtual 107, 3) := by decide +kernel
theorem dX2_aboutThing_72 : decode cX2_aboutThing 72 = .ok (.ireturn, 1) := by decide +kernel
theorem dX2_aboutThing_73 : decode cX2_aboutThing 73 = .ok (.aload_n 0, 1) := by decide +kernel
theorem dX2_aboutThing_74 : decode cX2_aboutThing 74 = .ok (.iload_n 1, 1) := by decide +kernel
theorem dX2_aboutThing_75 : decode cX2_aboutThing 75 = .ok (.iconst 2, 1) := by decide +kernel
theorem dX2_aboutThing_76 : decode cX2_aboutThing 76 = .ok (.invokevirtual 107, 3) := by decide +kernel
theorem dX2_aboutThing_79 : decode cX2_aboutThing 79 = .ok (.ireturn, 1) := by decide +kernel
theorem dX2_aboutThing_80 : decode cX2_aboutThing 80 = .ok (.aload_n 0, 1) := by decide +kernel
theorem dX2_aboutThing_81 : decode cX2_aboutThing 81 = .ok (.iload_n 1, 1) := by decide +kernel
theorem dX2_aboutThing_82 : decode cX2_aboutThing 82 = .ok (.iconst 4, 1) := by decide +kernel
theorem dX2_aboutThing_83 : decode cX2_aboutThing 83 = .ok (.invokevirtual 107, 3) := by decide +kernel
theorem dX2_aboutThing_86 : decode cX2_aboutThing 86 = .ok (.ireturn, 1) := by decide +kernel
set_option maxRecDepth 20000 in
theorem ggX2_aboutGrant_X3_at : GoodIn wsX2_aboutGrant wsX3_at := goodIn_r _ [6, 7, 8, 9, 26, 27, 28, 29] (by decide +kernel) (by decide +kernel)
set_option maxRecDepth 20000 in
theorem gX2_aboutGrant_X3_at : GoodIn wsX2_aboutGrant (wsV RX2 60 RX3 yX3_at wsX3_at) := goodIn_app (goodIn_of _ (by decide +kernel)) ggX2_aboutGrant_X3_at
set_option maxRecDepth 20000 in
theorem ggX2_aboutGrant_X2_passedOn : GoodIn wsX2_aboutGrant wsX2_passedOn := goodIn_r _ [14, 1, 15, 16, 2, 3, 4, 5, 6, 7, 8, 9, 17, 18, 19, 20, 21, 22, 23, 24, 25, 26, 27, 28, 29] (by decide +kernel) (by decide +kernel)
set_option maxRecDepth 20000 in
theorem gX2_aboutGrant_X2_passedOn : GoodIn wsX2_aboutGrant (wsV RX2 123 RX2 yX2_passedOn wsX2_passedOn) := goodIn_app (goodIn_of _ (by decide +kernel)) ggX2_aboutGrant_X2_passedOn
theorem dX2_aboutGrant_0 : decode cX2_aboutGrant 0 = .ok (.iload_n 2, 1) := by decide +kernel
theorem dX2_aboutGrant_1 : decode cX2_aboutGrant 1 = .ok (.iconst 4, 1) := by decide +kernel
theorem dX2_aboutGrant_2 : decode cX2_aboutGrant 2 = .ok (.if_icmp .gt 15, 3) := by decide +kernel
theorem dX2_aboutGrant_5 : decode cX2_aboutGrant 5 = .ok (.aload_n 0, 1) := by decide +kernel
theorem dX2_aboutGrant_6 : decode cX2_aboutGrant 6 = .ok (.getfield 23, 3) := by decide +kernel
theorem dX2_aboutGrant_9 : decode cX2_aboutGrant 9 = .ok (.iload_n 1, 1) := by decide +kernel
theorem dX2_aboutGrant_10 : decode cX2_aboutGrant 10 = .ok (.iload_n 2, 1) := by decide +kernel
theorem dX2_aboutGrant_11 : decode cX2_aboutGrant 11 = .ok (.invokevirtual 60, 3) := by decide +kernel
theorem dX2_aboutGrant_14 : decode cX2_aboutGrant 14 = .ok (.goto 8, 3) := by decide +kernel
theorem dX2_aboutGrant_17 : decode cX2_aboutGrant 17 = .ok (.aload_n 0, 1) := by decide +kernel
theorem dX2_aboutGrant_18 : decode cX2_aboutGrant 18 = .ok (.iload_n 1, 1) := by decide +kernel
theorem dX2_aboutGrant_19 : decode cX2_aboutGrant 19 = .ok (.invokevirtual 123, 3) := by decide +kernel
theorem dX2_aboutGrant_22 : decode cX2_aboutGrant 22 = .ok (.ireturn, 1) := by decide +kernel
set_option maxRecDepth 20000 in
theorem ggX2_aboutHouse_X3_rows : GoodIn wsX2_aboutHouse wsX3_rows := goodIn_r _ [12, 13, 54, 55, 56, 57] (by decide +kernel) (by decide +kernel)
set_option maxRecDepth 20000 in
theorem gX2_aboutHouse_X3_rows : GoodIn wsX2_aboutHouse (wsV RX2 104 RX3 yX3_rows wsX3_rows) := goodIn_app (goodIn_of _ (by decide +kernel)) ggX2_aboutHouse_X3_rows
set_option maxRecDepth 20000 in
theorem ggX2_aboutHouse_X2_countPairs : GoodIn wsX2_aboutHouse wsX2_countPairs := goodIn_r _ [18, 1, 8, 9, 10, 11, 12, 13, 19, 20, 21, 17, 22, 23, 24, 25, 26, 27, 28, 29, 30, 31, 32, 33, 34, 35, 36, 45, 46, 47, 48, 49, 50, 51, 52, 53, 54, 55, 56, 57] (by decide +kernel) (by decide +kernel)
set_option maxRecDepth 20000 in
theorem gX2_aboutHouse_X2_countPairs : GoodIn wsX2_aboutHouse (wsV RX2 82 RX2 yX2_countPairs wsX2_countPairs) := goodIn_app (goodIn_of _ (by decide +kernel)) ggX2_aboutHouse_X2_countPairs
set_option maxRecDepth 20000 in
theorem ggX2_aboutHouse_X2_countIdleGrants : GoodIn wsX2_aboutHouse wsX2_countIdleGrants := goodIn_r _ [40, 2, 8, 9, 10, 11, 12, 13, 41, 42, 43, 17, 44, 23, 1, 24, 25, 26, 27, 28, 29, 45, 46, 47, 48, 49, 50, 51, 52, 53, 54, 55, 56, 57] (by decide +kernel) (by decide +kernel)
set_option maxRecDepth 20000 in
theorem gX2_aboutHouse_X2_countIdleGrants : GoodIn wsX2_aboutHouse (wsV RX2 126 RX2 yX2_countIdleGrants wsX2_countIdleGrants) := goodIn_app (goodIn_of _ (by decide +kernel)) ggX2_aboutHouse_X2_countIdleGrants
theorem dX2_aboutHouse_0 : decode cX2_aboutHouse 0 = .ok (.iload_n 1, 1) := by decide +kernel
theorem dX2_aboutHouse_1 : decode cX2_aboutHouse 1 = .ok (.tableswitch 93 0 7 #[47, 55, 63, 68, 73, 78, 83, 88], 47) := by decide +kernel
theorem dX2_aboutHouse_48 : decode cX2_aboutHouse 48 = .ok (.aload_n 0, 1) := by decide +kernel
theorem dX2_aboutHouse_49 : decode cX2_aboutHouse 49 = .ok (.getfield 20, 3) := by decide +kernel
theorem dX2_aboutHouse_52 : decode cX2_aboutHouse 52 = .ok (.invokevirtual 104, 3) := by decide +kernel
theorem dX2_aboutHouse_55 : decode cX2_aboutHouse 55 = .ok (.ireturn, 1) := by decide +kernel
theorem dX2_aboutHouse_56 : decode cX2_aboutHouse 56 = .ok (.aload_n 0, 1) := by decide +kernel
theorem dX2_aboutHouse_57 : decode cX2_aboutHouse 57 = .ok (.getfield 23, 3) := by decide +kernel
theorem dX2_aboutHouse_60 : decode cX2_aboutHouse 60 = .ok (.invokevirtual 104, 3) := by decide +kernel
theorem dX2_aboutHouse_63 : decode cX2_aboutHouse 63 = .ok (.ireturn, 1) := by decide +kernel
theorem dX2_aboutHouse_64 : decode cX2_aboutHouse 64 = .ok (.aload_n 0, 1) := by decide +kernel
theorem dX2_aboutHouse_65 : decode cX2_aboutHouse 65 = .ok (.getfield 44, 3) := by decide +kernel
theorem dX2_aboutHouse_68 : decode cX2_aboutHouse 68 = .ok (.ireturn, 1) := by decide +kernel
theorem dX2_aboutHouse_69 : decode cX2_aboutHouse 69 = .ok (.aload_n 0, 1) := by decide +kernel
theorem dX2_aboutHouse_70 : decode cX2_aboutHouse 70 = .ok (.getfield 48, 3) := by decide +kernel
theorem dX2_aboutHouse_73 : decode cX2_aboutHouse 73 = .ok (.ireturn, 1) := by decide +kernel
theorem dX2_aboutHouse_74 : decode cX2_aboutHouse 74 = .ok (.aload_n 0, 1) := by decide +kernel
theorem dX2_aboutHouse_75 : decode cX2_aboutHouse 75 = .ok (.getfield 51, 3) := by decide +kernel
theorem dX2_aboutHouse_78 : decode cX2_aboutHouse 78 = .ok (.ireturn, 1) := by decide +kernel
theorem dX2_aboutHouse_79 : decode cX2_aboutHouse 79 = .ok (.aload_n 0, 1) := by decide +kernel
theorem dX2_aboutHouse_80 : decode cX2_aboutHouse 80 = .ok (.getfield 54, 3) := by decide +kernel
theorem dX2_aboutHouse_83 : decode cX2_aboutHouse 83 = .ok (.ireturn, 1) := by decide +kernel
theorem dX2_aboutHouse_84 : decode cX2_aboutHouse 84 = .ok (.aload_n 0, 1) := by decide +kernel
theorem dX2_aboutHouse_85 : decode cX2_aboutHouse 85 = .ok (.invokevirtual 82, 3) := by decide +kernel
theorem dX2_aboutHouse_88 : decode cX2_aboutHouse 88 = .ok (.ireturn, 1) := by decide +kernel
theorem dX2_aboutHouse_89 : decode cX2_aboutHouse 89 = .ok (.aload_n 0, 1) := by decide +kernel
theorem dX2_aboutHouse_90 : decode cX2_aboutHouse 90 = .ok (.invokevirtual 126, 3) := by decide +kernel
theorem dX2_aboutHouse_93 : decode cX2_aboutHouse 93 = .ok (.ireturn, 1) := by decide +kernel
theorem dX2_aboutHouse_94 : decode cX2_aboutHouse 94 = .ok (.aload_n 0, 1) := by decide +kernel
theorem dX2_aboutHouse_95 : decode cX2_aboutHouse 95 = .ok (.getfield 26, 3) := by decide +kernel
theorem dX2_aboutHouse_98 : decode cX2_aboutHouse 98 = .ok (.invokevirtual 104, 3) := by decide +kernel
theorem dX2_aboutHouse_101 : decode cX2_aboutHouse 101 = .ok (.ireturn, 1) := by decide +kernel
end
section
set_option maxRecDepth 20000 in
theorem ggX2_reasonAgainst_X2_rightsOf : GoodIn wsX2_reasonAgainst wsX2_rightsOf := goodIn_r _ [11, 12, 13, 14, 15, 16, 17, 18, 19, 20, 29, 30, 31, 32, 33, 34, 35, 36, 37, 38, 39, 40, 41] (by decide +kernel) (by decide +kernel)
set_option maxRecDepth 20000 in
theorem gX2_reasonAgainst_X2_rightsOf : GoodIn wsX2_reasonAgainst (wsV RX2 75 RX2 yX2_rightsOf wsX2_rightsOf) := goodIn_app (goodIn_of _ (by decide +kernel)) ggX2_reasonAgainst_X2_rightsOf
set_option maxRecDepth 20000 in
theorem ggX2_reasonAgainst_X3_at : GoodIn wsX2_reasonAgainst wsX3_at := goodIn_r _ [17, 18, 19, 20, 38, 39, 40, 41] (by decide +kernel) (by decide +kernel)
set_option maxRecDepth 20000 in
theorem gX2_reasonAgainst_X3_at : GoodIn wsX2_reasonAgainst (wsV RX2 60 RX3 yX3_at wsX3_at) := goodIn_app (goodIn_of _ (by decide +kernel)) ggX2_reasonAgainst_X3_at
set_option maxRecDepth 20000 in
theorem ggX2_reasonAgainst_X3_rows : GoodIn wsX2_reasonAgainst wsX3_rows := goodIn_r _ [24, 18, 38, 39, 40, 41] (by decide +kernel) (by decide +kernel)
set_option maxRecDepth 20000 in
theorem gX2_reasonAgainst_X3_rows : GoodIn wsX2_reasonAgainst (wsV RX2 104 RX3 yX3_rows wsX3_rows) := goodIn_app (goodIn_of _ (by decide +kernel)) ggX2_reasonAgainst_X3_rows
set_option maxRecDepth 20000 in
theorem ggX2_reasonAgainst_X2_isGrantOf : GoodIn wsX2_reasonAgainst wsX2_isGrantOf := goodIn_r _ [28, 2, 13, 14, 15, 16, 17, 18, 19, 20, 29, 30, 31, 32, 33, 34, 35, 36, 37, 38, 39, 40, 41] (by decide +kernel) (by decide +kernel)
set_option maxRecDepth 20000 in
theorem gX2_reasonAgainst_X2_isGrantOf : GoodIn wsX2_reasonAgainst (wsV RX2 129 RX2 yX2_isGrantOf wsX2_isGrantOf) := goodIn_app (goodIn_of _ (by decide +kernel)) ggX2_reasonAgainst_X2_isGrantOf
theorem dX2_reasonAgainst_0 : decode cX2_reasonAgainst 0 = .ok (.aload_n 0, 1) := by decide +kernel
theorem dX2_reasonAgainst_1 : decode cX2_reasonAgainst 1 = .ok (.iload_n 1, 1) := by decide +kernel
theorem dX2_reasonAgainst_2 : decode cX2_reasonAgainst 2 = .ok (.iload_n 2, 1) := by decide +kernel
theorem dX2_reasonAgainst_3 : decode cX2_reasonAgainst 3 = .ok (.invokevirtual 75, 3) := by decide +kernel
theorem dX2_reasonAgainst_6 : decode cX2_reasonAgainst 6 = .ok (.iload_n 3, 1) := by decide +kernel
theorem dX2_reasonAgainst_7 : decode cX2_reasonAgainst 7 = .ok (.iand, 1) := by decide +kernel
theorem dX2_reasonAgainst_8 : decode cX2_reasonAgainst 8 = .ok (.ifCond .eq 5, 3) := by decide +kernel
theorem dX2_reasonAgainst_11 : decode cX2_reasonAgainst 11 = .ok (.iconst 0, 1) := by decide +kernel
theorem dX2_reasonAgainst_12 : decode cX2_reasonAgainst 12 = .ok (.ireturn, 1) := by decide +kernel
theorem dX2_reasonAgainst_13 : decode cX2_reasonAgainst 13 = .ok (.aload_n 0, 1) := by decide +kernel
theorem dX2_reasonAgainst_14 : decode cX2_reasonAgainst 14 = .ok (.getfield 20, 3) := by decide +kernel
theorem dX2_reasonAgainst_17 : decode cX2_reasonAgainst 17 = .ok (.iload_n 2, 1) := by decide +kernel
theorem dX2_reasonAgainst_18 : decode cX2_reasonAgainst 18 = .ok (.iconst 1, 1) := by decide +kernel
theorem dX2_reasonAgainst_19 : decode cX2_reasonAgainst 19 = .ok (.invokevirtual 60, 3) := by decide +kernel
theorem dX2_reasonAgainst_22 : decode cX2_reasonAgainst 22 = .ok (.iload_n 3, 1) := by decide +kernel
theorem dX2_reasonAgainst_23 : decode cX2_reasonAgainst 23 = .ok (.iand, 1) := by decide +kernel
theorem dX2_reasonAgainst_24 : decode cX2_reasonAgainst 24 = .ok (.ifCond .ne 5, 3) := by decide +kernel
theorem dX2_reasonAgainst_27 : decode cX2_reasonAgainst 27 = .ok (.iconst 1, 1) := by decide +kernel
theorem dX2_reasonAgainst_28 : decode cX2_reasonAgainst 28 = .ok (.ireturn, 1) := by decide +kernel
theorem dX2_reasonAgainst_29 : decode cX2_reasonAgainst 29 = .ok (.iconst 2, 1) := by decide +kernel
theorem dX2_reasonAgainst_30 : decode cX2_reasonAgainst 30 = .ok (.istore 4, 2) := by decide +kernel
theorem dX2_reasonAgainst_32 : decode cX2_reasonAgainst 32 = .ok (.iconst 0, 1) := by decide +kernel
theorem dX2_reasonAgainst_33 : decode cX2_reasonAgainst 33 = .ok (.istore 5, 2) := by decide +kernel
theorem dX2_reasonAgainst_35 : decode cX2_reasonAgainst 35 = .ok (.iload 5, 2) := by decide +kernel
theorem dX2_reasonAgainst_37 : decode cX2_reasonAgainst 37 = .ok (.aload_n 0, 1) := by decide +kernel
theorem dX2_reasonAgainst_38 : decode cX2_reasonAgainst 38 = .ok (.getfield 23, 3) := by decide +kernel
theorem dX2_reasonAgainst_41 : decode cX2_reasonAgainst 41 = .ok (.invokevirtual 104, 3) := by decide +kernel
theorem dX2_reasonAgainst_44 : decode cX2_reasonAgainst 44 = .ok (.if_icmp .ge 57, 3) := by decide +kernel
theorem dX2_reasonAgainst_47 : decode cX2_reasonAgainst 47 = .ok (.aload_n 0, 1) := by decide +kernel
theorem dX2_reasonAgainst_48 : decode cX2_reasonAgainst 48 = .ok (.iload 5, 2) := by decide +kernel
theorem dX2_reasonAgainst_50 : decode cX2_reasonAgainst 50 = .ok (.iload_n 1, 1) := by decide +kernel
theorem dX2_reasonAgainst_51 : decode cX2_reasonAgainst 51 = .ok (.iload_n 2, 1) := by decide +kernel
theorem dX2_reasonAgainst_52 : decode cX2_reasonAgainst 52 = .ok (.iload_n 3, 1) := by decide +kernel
theorem dX2_reasonAgainst_53 : decode cX2_reasonAgainst 53 = .ok (.invokevirtual 129, 3) := by decide +kernel
theorem dX2_reasonAgainst_56 : decode cX2_reasonAgainst 56 = .ok (.ifCond .eq 39, 3) := by decide +kernel
theorem dX2_reasonAgainst_59 : decode cX2_reasonAgainst 59 = .ok (.aload_n 0, 1) := by decide +kernel
theorem dX2_reasonAgainst_60 : decode cX2_reasonAgainst 60 = .ok (.aload_n 0, 1) := by decide +kernel
theorem dX2_reasonAgainst_61 : decode cX2_reasonAgainst 61 = .ok (.getfield 23, 3) := by decide +kernel
theorem dX2_reasonAgainst_64 : decode cX2_reasonAgainst 64 = .ok (.iload 5, 2) := by decide +kernel
theorem dX2_reasonAgainst_66 : decode cX2_reasonAgainst 66 = .ok (.iconst 0, 1) := by decide +kernel
theorem dX2_reasonAgainst_67 : decode cX2_reasonAgainst 67 = .ok (.invokevirtual 60, 3) := by decide +kernel
theorem dX2_reasonAgainst_70 : decode cX2_reasonAgainst 70 = .ok (.iload_n 2, 1) := by decide +kernel
theorem dX2_reasonAgainst_71 : decode cX2_reasonAgainst 71 = .ok (.invokevirtual 75, 3) := by decide +kernel
theorem dX2_reasonAgainst_74 : decode cX2_reasonAgainst 74 = .ok (.istore 6, 2) := by decide +kernel
theorem dX2_reasonAgainst_76 : decode cX2_reasonAgainst 76 = .ok (.iload 4, 2) := by decide +kernel
theorem dX2_reasonAgainst_78 : decode cX2_reasonAgainst 78 = .ok (.iload 6, 2) := by decide +kernel
theorem dX2_reasonAgainst_80 : decode cX2_reasonAgainst 80 = .ok (.iconst 4, 1) := by decide +kernel
theorem dX2_reasonAgainst_81 : decode cX2_reasonAgainst 81 = .ok (.iand, 1) := by decide +kernel
theorem dX2_reasonAgainst_82 : decode cX2_reasonAgainst 82 = .ok (.ifCond .ne 7, 3) := by decide +kernel
theorem dX2_reasonAgainst_85 : decode cX2_reasonAgainst 85 = .ok (.iconst 3, 1) := by decide +kernel
theorem dX2_reasonAgainst_86 : decode cX2_reasonAgainst 86 = .ok (.goto 4, 3) := by decide +kernel
theorem dX2_reasonAgainst_89 : decode cX2_reasonAgainst 89 = .ok (.iconst 4, 1) := by decide +kernel
theorem dX2_reasonAgainst_90 : decode cX2_reasonAgainst 90 = .ok (.invokestatic 94, 3) := by decide +kernel
theorem dX2_reasonAgainst_93 : decode cX2_reasonAgainst 93 = .ok (.istore 4, 2) := by decide +kernel
theorem dX2_reasonAgainst_95 : decode cX2_reasonAgainst 95 = .ok (.iinc 5 1, 3) := by decide +kernel
theorem dX2_reasonAgainst_98 : decode cX2_reasonAgainst 98 = .ok (.goto (-63), 3) := by decide +kernel
theorem dX2_reasonAgainst_101 : decode cX2_reasonAgainst 101 = .ok (.iload 4, 2) := by decide +kernel
theorem dX2_reasonAgainst_103 : decode cX2_reasonAgainst 103 = .ok (.ireturn, 1) := by decide +kernel
set_option maxRecDepth 20000 in
theorem ggX2_isGrantOf_X3_at : GoodIn wsX2_isGrantOf wsX3_at := goodIn_r _ [6, 7, 8, 9, 19, 20, 21, 22] (by decide +kernel) (by decide +kernel)
set_option maxRecDepth 20000 in
theorem gX2_isGrantOf_X3_at : GoodIn wsX2_isGrantOf (wsV RX2 60 RX3 yX3_at wsX3_at) := goodIn_app (goodIn_of _ (by decide +kernel)) ggX2_isGrantOf_X3_at
theorem dX2_isGrantOf_0 : decode cX2_isGrantOf 0 = .ok (.aload_n 0, 1) := by decide +kernel
theorem dX2_isGrantOf_1 : decode cX2_isGrantOf 1 = .ok (.getfield 23, 3) := by decide +kernel
theorem dX2_isGrantOf_4 : decode cX2_isGrantOf 4 = .ok (.iload_n 1, 1) := by decide +kernel
theorem dX2_isGrantOf_5 : decode cX2_isGrantOf 5 = .ok (.iconst 1, 1) := by decide +kernel
theorem dX2_isGrantOf_6 : decode cX2_isGrantOf 6 = .ok (.invokevirtual 60, 3) := by decide +kernel
theorem dX2_isGrantOf_9 : decode cX2_isGrantOf 9 = .ok (.iload_n 2, 1) := by decide +kernel
theorem dX2_isGrantOf_10 : decode cX2_isGrantOf 10 = .ok (.if_icmp .ne 35, 3) := by decide +kernel
theorem dX2_isGrantOf_13 : decode cX2_isGrantOf 13 = .ok (.aload_n 0, 1) := by decide +kernel
theorem dX2_isGrantOf_14 : decode cX2_isGrantOf 14 = .ok (.getfield 23, 3) := by decide +kernel
theorem dX2_isGrantOf_17 : decode cX2_isGrantOf 17 = .ok (.iload_n 1, 1) := by decide +kernel
theorem dX2_isGrantOf_18 : decode cX2_isGrantOf 18 = .ok (.iconst 2, 1) := by decide +kernel
theorem dX2_isGrantOf_19 : decode cX2_isGrantOf 19 = .ok (.invokevirtual 60, 3) := by decide +kernel
theorem dX2_isGrantOf_22 : decode cX2_isGrantOf 22 = .ok (.iload_n 3, 1) := by decide +kernel
theorem dX2_isGrantOf_23 : decode cX2_isGrantOf 23 = .ok (.if_icmp .ne 22, 3) := by decide +kernel
theorem dX2_isGrantOf_26 : decode cX2_isGrantOf 26 = .ok (.aload_n 0, 1) := by decide +kernel
theorem dX2_isGrantOf_27 : decode cX2_isGrantOf 27 = .ok (.getfield 23, 3) := by decide +kernel
theorem dX2_isGrantOf_30 : decode cX2_isGrantOf 30 = .ok (.iload_n 1, 1) := by decide +kernel
theorem dX2_isGrantOf_31 : decode cX2_isGrantOf 31 = .ok (.iconst 3, 1) := by decide +kernel
theorem dX2_isGrantOf_32 : decode cX2_isGrantOf 32 = .ok (.invokevirtual 60, 3) := by decide +kernel
theorem dX2_isGrantOf_35 : decode cX2_isGrantOf 35 = .ok (.iload 4, 2) := by decide +kernel
theorem dX2_isGrantOf_37 : decode cX2_isGrantOf 37 = .ok (.iand, 1) := by decide +kernel
theorem dX2_isGrantOf_38 : decode cX2_isGrantOf 38 = .ok (.ifCond .eq 7, 3) := by decide +kernel
theorem dX2_isGrantOf_41 : decode cX2_isGrantOf 41 = .ok (.iconst 1, 1) := by decide +kernel
theorem dX2_isGrantOf_42 : decode cX2_isGrantOf 42 = .ok (.goto 4, 3) := by decide +kernel
theorem dX2_isGrantOf_45 : decode cX2_isGrantOf 45 = .ok (.iconst 0, 1) := by decide +kernel
theorem dX2_isGrantOf_46 : decode cX2_isGrantOf 46 = .ok (.ireturn, 1) := by decide +kernel
set_option maxRecDepth 20000 in
theorem ggX2_settle_X3_rows : GoodIn wsX2_settle wsX3_rows := goodIn_r _ [8, 9, 34, 35, 36, 37] (by decide +kernel) (by decide +kernel)
set_option maxRecDepth 20000 in
theorem gX2_settle_X3_rows : GoodIn wsX2_settle (wsV RX2 104 RX3 yX3_rows wsX3_rows) := goodIn_app (goodIn_of _ (by decide +kernel)) ggX2_settle_X3_rows
set_option maxRecDepth 20000 in
theorem ggX2_settle_X3_at : GoodIn wsX2_settle wsX3_at := goodIn_r _ [13, 9, 14, 15, 34, 35, 36, 37] (by decide +kernel) (by decide +kernel)
set_option maxRecDepth 20000 in
theorem gX2_settle_X3_at : GoodIn wsX2_settle (wsV RX2 60 RX3 yX3_at wsX3_at) := goodIn_app (goodIn_of _ (by decide +kernel)) ggX2_settle_X3_at
set_option maxRecDepth 20000 in
theorem ggX2_settle_X3_put : GoodIn wsX2_settle wsX3_put := goodIn_r _ [19, 9, 14, 15, 34, 35, 36, 37] (by decide +kernel) (by decide +kernel)
set_option maxRecDepth 20000 in
theorem gX2_settle_X3_put : GoodIn wsX2_settle (wsV RX2 36 RX3 yX3_put wsX3_put) := goodIn_app (goodIn_of _ (by decide +kernel)) ggX2_settle_X3_put
set_option maxRecDepth 20000 in
theorem ggX2_settle_X2_passedOn : GoodIn wsX2_settle wsX2_passedOn := goodIn_r _ [24, 3, 2, 1, 10, 11, 12, 7, 13, 9, 14, 15, 25, 26, 27, 28, 29, 30, 31, 32, 33, 34, 35, 36, 37] (by decide +kernel) (by decide +kernel)
set_option maxRecDepth 20000 in
theorem gX2_settle_X2_passedOn : GoodIn wsX2_settle (wsV RX2 123 RX2 yX2_passedOn wsX2_passedOn) := goodIn_app (goodIn_of _ (by decide +kernel)) ggX2_settle_X2_passedOn
theorem dX2_settle_0 : decode cX2_settle 0 = .ok (.iconst 0, 1) := by decide +kernel
theorem dX2_settle_1 : decode cX2_settle 1 = .ok (.istore_n 1, 1) := by decide +kernel
theorem dX2_settle_2 : decode cX2_settle 2 = .ok (.iload_n 1, 1) := by decide +kernel
theorem dX2_settle_3 : decode cX2_settle 3 = .ok (.aload_n 0, 1) := by decide +kernel
theorem dX2_settle_4 : decode cX2_settle 4 = .ok (.getfield 20, 3) := by decide +kernel
theorem dX2_settle_7 : decode cX2_settle 7 = .ok (.invokevirtual 104, 3) := by decide +kernel
theorem dX2_settle_10 : decode cX2_settle 10 = .ok (.if_icmp .ge 51, 3) := by decide +kernel
theorem dX2_settle_13 : decode cX2_settle 13 = .ok (.iconst 0, 1) := by decide +kernel
theorem dX2_settle_14 : decode cX2_settle 14 = .ok (.istore_n 2, 1) := by decide +kernel
theorem dX2_settle_15 : decode cX2_settle 15 = .ok (.iload_n 2, 1) := by decide +kernel
theorem dX2_settle_16 : decode cX2_settle 16 = .ok (.bipush 10, 2) := by decide +kernel
theorem dX2_settle_18 : decode cX2_settle 18 = .ok (.if_icmp .ge 37, 3) := by decide +kernel
theorem dX2_settle_21 : decode cX2_settle 21 = .ok (.aload_n 0, 1) := by decide +kernel
theorem dX2_settle_22 : decode cX2_settle 22 = .ok (.getfield 29, 3) := by decide +kernel
theorem dX2_settle_25 : decode cX2_settle 25 = .ok (.iload_n 1, 1) := by decide +kernel
theorem dX2_settle_26 : decode cX2_settle 26 = .ok (.iload_n 2, 1) := by decide +kernel
theorem dX2_settle_27 : decode cX2_settle 27 = .ok (.iload_n 2, 1) := by decide +kernel
theorem dX2_settle_28 : decode cX2_settle 28 = .ok (.aload_n 0, 1) := by decide +kernel
theorem dX2_settle_29 : decode cX2_settle 29 = .ok (.getfield 20, 3) := by decide +kernel
theorem dX2_settle_32 : decode cX2_settle 32 = .ok (.iload_n 1, 1) := by decide +kernel
theorem dX2_settle_33 : decode cX2_settle 33 = .ok (.iconst 0, 1) := by decide +kernel
theorem dX2_settle_34 : decode cX2_settle 34 = .ok (.invokevirtual 60, 3) := by decide +kernel
theorem dX2_settle_37 : decode cX2_settle 37 = .ok (.if_icmp .ne 8, 3) := by decide +kernel
theorem dX2_settle_40 : decode cX2_settle 40 = .ok (.bipush 7, 2) := by decide +kernel
theorem dX2_settle_42 : decode cX2_settle 42 = .ok (.goto 4, 3) := by decide +kernel
theorem dX2_settle_45 : decode cX2_settle 45 = .ok (.iconst 0, 1) := by decide +kernel
theorem dX2_settle_46 : decode cX2_settle 46 = .ok (.invokevirtual 36, 3) := by decide +kernel
theorem dX2_settle_49 : decode cX2_settle 49 = .ok (.iinc 2 1, 3) := by decide +kernel
theorem dX2_settle_52 : decode cX2_settle 52 = .ok (.goto (-37), 3) := by decide +kernel
theorem dX2_settle_55 : decode cX2_settle 55 = .ok (.iinc 1 1, 3) := by decide +kernel
theorem dX2_settle_58 : decode cX2_settle 58 = .ok (.goto (-56), 3) := by decide +kernel
theorem dX2_settle_61 : decode cX2_settle 61 = .ok (.iconst 1, 1) := by decide +kernel
theorem dX2_settle_62 : decode cX2_settle 62 = .ok (.istore_n 1, 1) := by decide +kernel
theorem dX2_settle_63 : decode cX2_settle 63 = .ok (.iconst 0, 1) := by decide +kernel
theorem dX2_settle_64 : decode cX2_settle 64 = .ok (.istore_n 2, 1) := by decide +kernel
theorem dX2_settle_65 : decode cX2_settle 65 = .ok (.iload_n 2, 1) := by decide +kernel
theorem dX2_settle_66 : decode cX2_settle 66 = .ok (.sipush 241, 3) := by decide +kernel
theorem dX2_settle_69 : decode cX2_settle 69 = .ok (.if_icmp .ge 109, 3) := by decide +kernel
theorem dX2_settle_72 : decode cX2_settle 72 = .ok (.iload_n 1, 1) := by decide +kernel
theorem dX2_settle_73 : decode cX2_settle 73 = .ok (.ifCond .eq 105, 3) := by decide +kernel
theorem dX2_settle_76 : decode cX2_settle 76 = .ok (.iconst 0, 1) := by decide +kernel
theorem dX2_settle_77 : decode cX2_settle 77 = .ok (.istore_n 1, 1) := by decide +kernel
theorem dX2_settle_78 : decode cX2_settle 78 = .ok (.iconst 0, 1) := by decide +kernel
theorem dX2_settle_79 : decode cX2_settle 79 = .ok (.istore_n 3, 1) := by decide +kernel
theorem dX2_settle_80 : decode cX2_settle 80 = .ok (.iload_n 3, 1) := by decide +kernel
theorem dX2_settle_81 : decode cX2_settle 81 = .ok (.aload_n 0, 1) := by decide +kernel
theorem dX2_settle_82 : decode cX2_settle 82 = .ok (.getfield 23, 3) := by decide +kernel
theorem dX2_settle_85 : decode cX2_settle 85 = .ok (.invokevirtual 104, 3) := by decide +kernel
theorem dX2_settle_88 : decode cX2_settle 88 = .ok (.if_icmp .ge 84, 3) := by decide +kernel
theorem dX2_settle_91 : decode cX2_settle 91 = .ok (.aload_n 0, 1) := by decide +kernel
theorem dX2_settle_92 : decode cX2_settle 92 = .ok (.getfield 23, 3) := by decide +kernel
theorem dX2_settle_95 : decode cX2_settle 95 = .ok (.iload_n 3, 1) := by decide +kernel
theorem dX2_settle_96 : decode cX2_settle 96 = .ok (.iconst 2, 1) := by decide +kernel
theorem dX2_settle_97 : decode cX2_settle 97 = .ok (.invokevirtual 60, 3) := by decide +kernel
theorem dX2_settle_100 : decode cX2_settle 100 = .ok (.istore 4, 2) := by decide +kernel
theorem dX2_settle_102 : decode cX2_settle 102 = .ok (.aload_n 0, 1) := by decide +kernel
theorem dX2_settle_103 : decode cX2_settle 103 = .ok (.getfield 23, 3) := by decide +kernel
theorem dX2_settle_106 : decode cX2_settle 106 = .ok (.iload_n 3, 1) := by decide +kernel
theorem dX2_settle_107 : decode cX2_settle 107 = .ok (.iconst 1, 1) := by decide +kernel
theorem dX2_settle_108 : decode cX2_settle 108 = .ok (.invokevirtual 60, 3) := by decide +kernel
theorem dX2_settle_111 : decode cX2_settle 111 = .ok (.istore 5, 2) := by decide +kernel
theorem dX2_settle_113 : decode cX2_settle 113 = .ok (.aload_n 0, 1) := by decide +kernel
theorem dX2_settle_114 : decode cX2_settle 114 = .ok (.getfield 29, 3) := by decide +kernel
theorem dX2_settle_117 : decode cX2_settle 117 = .ok (.iload 4, 2) := by decide +kernel
theorem dX2_settle_119 : decode cX2_settle 119 = .ok (.iload 5, 2) := by decide +kernel
theorem dX2_settle_121 : decode cX2_settle 121 = .ok (.invokevirtual 60, 3) := by decide +kernel
theorem dX2_settle_124 : decode cX2_settle 124 = .ok (.istore 6, 2) := by decide +kernel
theorem dX2_settle_126 : decode cX2_settle 126 = .ok (.iload 6, 2) := by decide +kernel
theorem dX2_settle_128 : decode cX2_settle 128 = .ok (.aload_n 0, 1) := by decide +kernel
theorem dX2_settle_129 : decode cX2_settle 129 = .ok (.iload_n 3, 1) := by decide +kernel
theorem dX2_settle_130 : decode cX2_settle 130 = .ok (.invokevirtual 123, 3) := by decide +kernel
theorem dX2_settle_133 : decode cX2_settle 133 = .ok (.ior, 1) := by decide +kernel
theorem dX2_settle_134 : decode cX2_settle 134 = .ok (.istore 7, 2) := by decide +kernel
theorem dX2_settle_136 : decode cX2_settle 136 = .ok (.aload_n 0, 1) := by decide +kernel
theorem dX2_settle_137 : decode cX2_settle 137 = .ok (.getfield 29, 3) := by decide +kernel
theorem dX2_settle_140 : decode cX2_settle 140 = .ok (.iload 4, 2) := by decide +kernel
theorem dX2_settle_142 : decode cX2_settle 142 = .ok (.iload 5, 2) := by decide +kernel
theorem dX2_settle_144 : decode cX2_settle 144 = .ok (.iload 7, 2) := by decide +kernel
theorem dX2_settle_146 : decode cX2_settle 146 = .ok (.invokevirtual 36, 3) := by decide +kernel
theorem dX2_settle_149 : decode cX2_settle 149 = .ok (.iload_n 1, 1) := by decide +kernel
theorem dX2_settle_150 : decode cX2_settle 150 = .ok (.ifCond .ne 10, 3) := by decide +kernel
theorem dX2_settle_153 : decode cX2_settle 153 = .ok (.iload 7, 2) := by decide +kernel
theorem dX2_settle_155 : decode cX2_settle 155 = .ok (.iload 6, 2) := by decide +kernel
theorem dX2_settle_157 : decode cX2_settle 157 = .ok (.if_icmp .eq 7, 3) := by decide +kernel
theorem dX2_settle_160 : decode cX2_settle 160 = .ok (.iconst 1, 1) := by decide +kernel
theorem dX2_settle_161 : decode cX2_settle 161 = .ok (.goto 4, 3) := by decide +kernel
theorem dX2_settle_164 : decode cX2_settle 164 = .ok (.iconst 0, 1) := by decide +kernel
theorem dX2_settle_165 : decode cX2_settle 165 = .ok (.istore_n 1, 1) := by decide +kernel
theorem dX2_settle_166 : decode cX2_settle 166 = .ok (.iinc 3 1, 3) := by decide +kernel
theorem dX2_settle_169 : decode cX2_settle 169 = .ok (.goto (-89), 3) := by decide +kernel
theorem dX2_settle_172 : decode cX2_settle 172 = .ok (.iinc 2 1, 3) := by decide +kernel
theorem dX2_settle_175 : decode cX2_settle 175 = .ok (.goto (-110), 3) := by decide +kernel
theorem dX2_settle_178 : decode cX2_settle 178 = .ok (.return_, 1) := by decide +kernel
set_option maxRecDepth 20000 in
theorem ggX2_calm_X3_at : GoodIn wsX2_calm wsX3_at := goodIn_r _ [6, 7, 8, 9, 23, 24, 25, 26] (by decide +kernel) (by decide +kernel)
set_option maxRecDepth 20000 in
theorem gX2_calm_X3_at : GoodIn wsX2_calm (wsV RX2 60 RX3 yX3_at wsX3_at) := goodIn_app (goodIn_of _ (by decide +kernel)) ggX2_calm_X3_at
set_option maxRecDepth 20000 in
theorem ggX2_calm_X3_put : GoodIn wsX2_calm wsX3_put := goodIn_r _ [13, 7, 8, 9, 23, 24, 25, 26] (by decide +kernel) (by decide +kernel)
set_option maxRecDepth 20000 in
theorem gX2_calm_X3_put : GoodIn wsX2_calm (wsV RX2 36 RX3 yX3_put wsX3_put) := goodIn_app (goodIn_of _ (by decide +kernel)) ggX2_calm_X3_put
theorem dX2_calm_0 : decode cX2_calm 0 = .ok (.aload_n 0, 1) := by decide +kernel
theorem dX2_calm_1 : decode cX2_calm 1 = .ok (.getfield 14, 3) := by decide +kernel
theorem dX2_calm_4 : decode cX2_calm 4 = .ok (.iload_n 1, 1) := by decide +kernel
theorem dX2_calm_5 : decode cX2_calm 5 = .ok (.iconst 0, 1) := by decide +kernel
theorem dX2_calm_6 : decode cX2_calm 6 = .ok (.invokevirtual 60, 3) := by decide +kernel
theorem dX2_calm_9 : decode cX2_calm 9 = .ok (.istore_n 2, 1) := by decide +kernel
theorem dX2_calm_10 : decode cX2_calm 10 = .ok (.aload_n 0, 1) := by decide +kernel
theorem dX2_calm_11 : decode cX2_calm 11 = .ok (.getfield 14, 3) := by decide +kernel
theorem dX2_calm_14 : decode cX2_calm 14 = .ok (.iload_n 1, 1) := by decide +kernel
theorem dX2_calm_15 : decode cX2_calm 15 = .ok (.iconst 1, 1) := by decide +kernel
theorem dX2_calm_16 : decode cX2_calm 16 = .ok (.invokevirtual 60, 3) := by decide +kernel
theorem dX2_calm_19 : decode cX2_calm 19 = .ok (.istore_n 3, 1) := by decide +kernel
theorem dX2_calm_20 : decode cX2_calm 20 = .ok (.iload_n 2, 1) := by decide +kernel
theorem dX2_calm_21 : decode cX2_calm 21 = .ok (.iload_n 3, 1) := by decide +kernel
theorem dX2_calm_22 : decode cX2_calm 22 = .ok (.if_icmp .eq 26, 3) := by decide +kernel
theorem dX2_calm_25 : decode cX2_calm 25 = .ok (.aload_n 0, 1) := by decide +kernel
theorem dX2_calm_26 : decode cX2_calm 26 = .ok (.getfield 14, 3) := by decide +kernel
theorem dX2_calm_29 : decode cX2_calm 29 = .ok (.iload_n 1, 1) := by decide +kernel
theorem dX2_calm_30 : decode cX2_calm 30 = .ok (.iconst 0, 1) := by decide +kernel
theorem dX2_calm_31 : decode cX2_calm 31 = .ok (.iload_n 2, 1) := by decide +kernel
theorem dX2_calm_32 : decode cX2_calm 32 = .ok (.iload_n 3, 1) := by decide +kernel
theorem dX2_calm_33 : decode cX2_calm 33 = .ok (.if_icmp .ge 9, 3) := by decide +kernel
theorem dX2_calm_36 : decode cX2_calm 36 = .ok (.iload_n 2, 1) := by decide +kernel
theorem dX2_calm_37 : decode cX2_calm 37 = .ok (.iconst 1, 1) := by decide +kernel
theorem dX2_calm_38 : decode cX2_calm 38 = .ok (.iadd, 1) := by decide +kernel
theorem dX2_calm_39 : decode cX2_calm 39 = .ok (.goto 6, 3) := by decide +kernel
theorem dX2_calm_42 : decode cX2_calm 42 = .ok (.iload_n 2, 1) := by decide +kernel
theorem dX2_calm_43 : decode cX2_calm 43 = .ok (.iconst 1, 1) := by decide +kernel
theorem dX2_calm_44 : decode cX2_calm 44 = .ok (.isub, 1) := by decide +kernel
theorem dX2_calm_45 : decode cX2_calm 45 = .ok (.invokevirtual 36, 3) := by decide +kernel
theorem dX2_calm_48 : decode cX2_calm 48 = .ok (.return_, 1) := by decide +kernel
set_option maxRecDepth 20000 in
theorem ggX2_buryDying_X3_rows : GoodIn wsX2_buryDying wsX3_rows := goodIn_r _ [7, 8, 53, 54, 55, 56] (by decide +kernel) (by decide +kernel)
set_option maxRecDepth 20000 in
theorem gX2_buryDying_X3_rows : GoodIn wsX2_buryDying (wsV RX2 104 RX3 yX3_rows wsX3_rows) := goodIn_app (goodIn_of _ (by decide +kernel)) ggX2_buryDying_X3_rows
set_option maxRecDepth 20000 in
theorem ggX2_buryDying_X2_isDying : GoodIn wsX2_buryDying wsX2_isDying := goodIn_r _ [13, 14, 1, 15, 16, 17, 6, 18, 8, 19, 20, 44, 45, 46, 47, 48, 49, 50, 51, 52, 53, 54, 55, 56] (by decide +kernel) (by decide +kernel)
set_option maxRecDepth 20000 in
theorem gX2_buryDying_X2_isDying : GoodIn wsX2_buryDying (wsV RX2 133 RX2 yX2_isDying wsX2_isDying) := goodIn_app (goodIn_of _ (by decide +kernel)) ggX2_buryDying_X2_isDying
set_option maxRecDepth 20000 in
theorem ggX2_buryDying_X2_enter : GoodIn wsX2_buryDying wsX2_enter := goodIn_r _ [24, 25, 1, 26, 27, 28, 29, 6, 30, 8, 31, 32, 33, 34, 35, 19, 20, 36, 37, 38, 39, 15, 16, 17, 18, 40, 41, 42, 43, 44, 45, 46, 47, 48, 49, 50, 51, 52, 53, 54, 55, 56] (by decide +kernel) (by decide +kernel)
set_option maxRecDepth 20000 in
theorem gX2_buryDying_X2_enter : GoodIn wsX2_buryDying (wsV RX2 136 RX2 yX2_enter wsX2_enter) := goodIn_app (goodIn_of _ (by decide +kernel)) ggX2_buryDying_X2_enter
set_option maxRecDepth 20000 in
theorem ggX2_buryDying_X3_drop : GoodIn wsX2_buryDying wsX3_drop := goodIn_r _ [35, 8, 19, 20, 53, 54, 55, 56] (by decide +kernel) (by decide +kernel)
set_option maxRecDepth 20000 in
theorem gX2_buryDying_X3_drop : GoodIn wsX2_buryDying (wsV RX2 85 RX3 yX3_drop wsX3_drop) := goodIn_app (goodIn_of _ (by decide +kernel)) ggX2_buryDying_X3_drop
theorem dX2_buryDying_0 : decode cX2_buryDying 0 = .ok (.iconst 0, 1) := by decide +kernel
theorem dX2_buryDying_1 : decode cX2_buryDying 1 = .ok (.istore_n 1, 1) := by decide +kernel
theorem dX2_buryDying_2 : decode cX2_buryDying 2 = .ok (.iconst 0, 1) := by decide +kernel
theorem dX2_buryDying_3 : decode cX2_buryDying 3 = .ok (.istore_n 2, 1) := by decide +kernel
theorem dX2_buryDying_4 : decode cX2_buryDying 4 = .ok (.iload_n 2, 1) := by decide +kernel
theorem dX2_buryDying_5 : decode cX2_buryDying 5 = .ok (.aload_n 0, 1) := by decide +kernel
theorem dX2_buryDying_6 : decode cX2_buryDying 6 = .ok (.getfield 23, 3) := by decide +kernel
theorem dX2_buryDying_9 : decode cX2_buryDying 9 = .ok (.invokevirtual 104, 3) := by decide +kernel
theorem dX2_buryDying_12 : decode cX2_buryDying 12 = .ok (.if_icmp .ge 25, 3) := by decide +kernel
theorem dX2_buryDying_15 : decode cX2_buryDying 15 = .ok (.aload_n 0, 1) := by decide +kernel
theorem dX2_buryDying_16 : decode cX2_buryDying 16 = .ok (.iload_n 2, 1) := by decide +kernel
theorem dX2_buryDying_17 : decode cX2_buryDying 17 = .ok (.invokevirtual 133, 3) := by decide +kernel
theorem dX2_buryDying_20 : decode cX2_buryDying 20 = .ok (.ifCond .eq 11, 3) := by decide +kernel
theorem dX2_buryDying_23 : decode cX2_buryDying 23 = .ok (.aload_n 0, 1) := by decide +kernel
theorem dX2_buryDying_24 : decode cX2_buryDying 24 = .ok (.iload_n 2, 1) := by decide +kernel
theorem dX2_buryDying_25 : decode cX2_buryDying 25 = .ok (.invokevirtual 136, 3) := by decide +kernel
theorem dX2_buryDying_28 : decode cX2_buryDying 28 = .ok (.iinc 1 1, 3) := by decide +kernel
theorem dX2_buryDying_31 : decode cX2_buryDying 31 = .ok (.iinc 2 1, 3) := by decide +kernel
theorem dX2_buryDying_34 : decode cX2_buryDying 34 = .ok (.goto (-30), 3) := by decide +kernel
theorem dX2_buryDying_37 : decode cX2_buryDying 37 = .ok (.aload_n 0, 1) := by decide +kernel
theorem dX2_buryDying_38 : decode cX2_buryDying 38 = .ok (.getfield 23, 3) := by decide +kernel
theorem dX2_buryDying_41 : decode cX2_buryDying 41 = .ok (.invokevirtual 104, 3) := by decide +kernel
theorem dX2_buryDying_44 : decode cX2_buryDying 44 = .ok (.iconst 1, 1) := by decide +kernel
theorem dX2_buryDying_45 : decode cX2_buryDying 45 = .ok (.isub, 1) := by decide +kernel
theorem dX2_buryDying_46 : decode cX2_buryDying 46 = .ok (.istore_n 2, 1) := by decide +kernel
theorem dX2_buryDying_47 : decode cX2_buryDying 47 = .ok (.iload_n 2, 1) := by decide +kernel
theorem dX2_buryDying_48 : decode cX2_buryDying 48 = .ok (.ifCond .lt 29, 3) := by decide +kernel
theorem dX2_buryDying_51 : decode cX2_buryDying 51 = .ok (.iload_n 1, 1) := by decide +kernel
theorem dX2_buryDying_52 : decode cX2_buryDying 52 = .ok (.ifCond .le 25, 3) := by decide +kernel
theorem dX2_buryDying_55 : decode cX2_buryDying 55 = .ok (.aload_n 0, 1) := by decide +kernel
theorem dX2_buryDying_56 : decode cX2_buryDying 56 = .ok (.iload_n 2, 1) := by decide +kernel
theorem dX2_buryDying_57 : decode cX2_buryDying 57 = .ok (.invokevirtual 133, 3) := by decide +kernel
theorem dX2_buryDying_60 : decode cX2_buryDying 60 = .ok (.ifCond .eq 11, 3) := by decide +kernel
theorem dX2_buryDying_63 : decode cX2_buryDying 63 = .ok (.aload_n 0, 1) := by decide +kernel
theorem dX2_buryDying_64 : decode cX2_buryDying 64 = .ok (.getfield 23, 3) := by decide +kernel
theorem dX2_buryDying_67 : decode cX2_buryDying 67 = .ok (.iload_n 2, 1) := by decide +kernel
theorem dX2_buryDying_68 : decode cX2_buryDying 68 = .ok (.invokevirtual 85, 3) := by decide +kernel
theorem dX2_buryDying_71 : decode cX2_buryDying 71 = .ok (.iinc 2 (-1), 3) := by decide +kernel
theorem dX2_buryDying_74 : decode cX2_buryDying 74 = .ok (.goto (-27), 3) := by decide +kernel
theorem dX2_buryDying_77 : decode cX2_buryDying 77 = .ok (.aload_n 0, 1) := by decide +kernel
theorem dX2_buryDying_78 : decode cX2_buryDying 78 = .ok (.dup, 1) := by decide +kernel
theorem dX2_buryDying_79 : decode cX2_buryDying 79 = .ok (.getfield 48, 3) := by decide +kernel
theorem dX2_buryDying_82 : decode cX2_buryDying 82 = .ok (.iload_n 1, 1) := by decide +kernel
theorem dX2_buryDying_83 : decode cX2_buryDying 83 = .ok (.iadd, 1) := by decide +kernel
theorem dX2_buryDying_84 : decode cX2_buryDying 84 = .ok (.putfield 48, 3) := by decide +kernel
theorem dX2_buryDying_87 : decode cX2_buryDying 87 = .ok (.iload_n 1, 1) := by decide +kernel
theorem dX2_buryDying_88 : decode cX2_buryDying 88 = .ok (.ireturn, 1) := by decide +kernel
set_option maxRecDepth 20000 in
theorem ggX2_isDying_X3_at : GoodIn wsX2_isDying wsX3_at := goodIn_r _ [7, 8, 9, 10, 20, 21, 22, 23] (by decide +kernel) (by decide +kernel)
set_option maxRecDepth 20000 in
theorem gX2_isDying_X3_at : GoodIn wsX2_isDying (wsV RX2 60 RX3 yX3_at wsX3_at) := goodIn_app (goodIn_of _ (by decide +kernel)) ggX2_isDying_X3_at
theorem dX2_isDying_0 : decode cX2_isDying 0 = .ok (.aload_n 0, 1) := by decide +kernel
theorem dX2_isDying_1 : decode cX2_isDying 1 = .ok (.getfield 14, 3) := by decide +kernel
theorem dX2_isDying_4 : decode cX2_isDying 4 = .ok (.aload_n 0, 1) := by decide +kernel
theorem dX2_isDying_5 : decode cX2_isDying 5 = .ok (.getfield 23, 3) := by decide +kernel
theorem dX2_isDying_8 : decode cX2_isDying 8 = .ok (.iload_n 1, 1) := by decide +kernel
theorem dX2_isDying_9 : decode cX2_isDying 9 = .ok (.iconst 0, 1) := by decide +kernel
theorem dX2_isDying_10 : decode cX2_isDying 10 = .ok (.invokevirtual 60, 3) := by decide +kernel
theorem dX2_isDying_13 : decode cX2_isDying 13 = .ok (.iconst 0, 1) := by decide +kernel
theorem dX2_isDying_14 : decode cX2_isDying 14 = .ok (.invokevirtual 60, 3) := by decide +kernel
theorem dX2_isDying_17 : decode cX2_isDying 17 = .ok (.aload_n 0, 1) := by decide +kernel
theorem dX2_isDying_18 : decode cX2_isDying 18 = .ok (.getfield 23, 3) := by decide +kernel
theorem dX2_isDying_21 : decode cX2_isDying 21 = .ok (.iload_n 1, 1) := by decide +kernel
theorem dX2_isDying_22 : decode cX2_isDying 22 = .ok (.iconst 4, 1) := by decide +kernel
theorem dX2_isDying_23 : decode cX2_isDying 23 = .ok (.invokevirtual 60, 3) := by decide +kernel
theorem dX2_isDying_26 : decode cX2_isDying 26 = .ok (.if_icmp .ge 7, 3) := by decide +kernel
theorem dX2_isDying_29 : decode cX2_isDying 29 = .ok (.iconst 1, 1) := by decide +kernel
theorem dX2_isDying_30 : decode cX2_isDying 30 = .ok (.goto 4, 3) := by decide +kernel
theorem dX2_isDying_33 : decode cX2_isDying 33 = .ok (.iconst 0, 1) := by decide +kernel
theorem dX2_isDying_34 : decode cX2_isDying 34 = .ok (.ireturn, 1) := by decide +kernel
set_option maxRecDepth 20000 in
theorem ggX2_enter_X3_isFull : GoodIn wsX2_enter wsX3_isFull := goodIn_r _ [8, 9, 10, 38, 39, 40, 41] (by decide +kernel) (by decide +kernel)
set_option maxRecDepth 20000 in
theorem gX2_enter_X3_isFull : GoodIn wsX2_enter (wsV RX2 78 RX3 yX3_isFull wsX3_isFull) := goodIn_app (goodIn_of _ (by decide +kernel)) ggX2_enter_X3_isFull
set_option maxRecDepth 20000 in
theorem ggX2_enter_X3_drop : GoodIn wsX2_enter wsX3_drop := goodIn_r _ [14, 9, 15, 16, 38, 39, 40, 41] (by decide +kernel) (by decide +kernel)
set_option maxRecDepth 20000 in
theorem gX2_enter_X3_drop : GoodIn wsX2_enter (wsV RX2 85 RX3 yX3_drop wsX3_drop) := goodIn_app (goodIn_of _ (by decide +kernel)) ggX2_enter_X3_drop
set_option maxRecDepth 20000 in
theorem ggX2_enter_X3_addRow : GoodIn wsX2_enter wsX3_addRow := goodIn_r _ [20, 9, 10, 38, 39, 40, 41] (by decide +kernel) (by decide +kernel)
set_option maxRecDepth 20000 in
theorem gX2_enter_X3_addRow : GoodIn wsX2_enter (wsV RX2 32 RX3 yX3_addRow wsX3_addRow) := goodIn_app (goodIn_of _ (by decide +kernel)) ggX2_enter_X3_addRow
set_option maxRecDepth 20000 in
theorem ggX2_enter_X3_at : GoodIn wsX2_enter wsX3_at := goodIn_r _ [24, 9, 15, 16, 38, 39, 40, 41] (by decide +kernel) (by decide +kernel)
set_option maxRecDepth 20000 in
theorem gX2_enter_X3_at : GoodIn wsX2_enter (wsV RX2 60 RX3 yX3_at wsX3_at) := goodIn_app (goodIn_of _ (by decide +kernel)) ggX2_enter_X3_at
set_option maxRecDepth 20000 in
theorem ggX2_enter_X3_put : GoodIn wsX2_enter wsX3_put := goodIn_r _ [28, 9, 15, 16, 38, 39, 40, 41] (by decide +kernel) (by decide +kernel)
set_option maxRecDepth 20000 in
theorem gX2_enter_X3_put : GoodIn wsX2_enter (wsV RX2 36 RX3 yX3_put wsX3_put) := goodIn_app (goodIn_of _ (by decide +kernel)) ggX2_enter_X3_put
theorem dX2_enter_0 : decode cX2_enter 0 = .ok (.aload_n 0, 1) := by decide +kernel
theorem dX2_enter_1 : decode cX2_enter 1 = .ok (.getfield 26, 3) := by decide +kernel
theorem dX2_enter_4 : decode cX2_enter 4 = .ok (.invokevirtual 78, 3) := by decide +kernel
theorem dX2_enter_7 : decode cX2_enter 7 = .ok (.ifCond .eq 11, 3) := by decide +kernel
theorem dX2_enter_10 : decode cX2_enter 10 = .ok (.aload_n 0, 1) := by decide +kernel
theorem dX2_enter_11 : decode cX2_enter 11 = .ok (.getfield 26, 3) := by decide +kernel
theorem dX2_enter_14 : decode cX2_enter 14 = .ok (.iconst 0, 1) := by decide +kernel
theorem dX2_enter_15 : decode cX2_enter 15 = .ok (.invokevirtual 85, 3) := by decide +kernel
theorem dX2_enter_18 : decode cX2_enter 18 = .ok (.aload_n 0, 1) := by decide +kernel
theorem dX2_enter_19 : decode cX2_enter 19 = .ok (.getfield 26, 3) := by decide +kernel
theorem dX2_enter_22 : decode cX2_enter 22 = .ok (.invokevirtual 32, 3) := by decide +kernel
theorem dX2_enter_25 : decode cX2_enter 25 = .ok (.istore_n 2, 1) := by decide +kernel
theorem dX2_enter_26 : decode cX2_enter 26 = .ok (.aload_n 0, 1) := by decide +kernel
theorem dX2_enter_27 : decode cX2_enter 27 = .ok (.getfield 26, 3) := by decide +kernel
theorem dX2_enter_30 : decode cX2_enter 30 = .ok (.iload_n 2, 1) := by decide +kernel
theorem dX2_enter_31 : decode cX2_enter 31 = .ok (.iconst 0, 1) := by decide +kernel
theorem dX2_enter_32 : decode cX2_enter 32 = .ok (.aload_n 0, 1) := by decide +kernel
theorem dX2_enter_33 : decode cX2_enter 33 = .ok (.getfield 23, 3) := by decide +kernel
theorem dX2_enter_36 : decode cX2_enter 36 = .ok (.iload_n 1, 1) := by decide +kernel
theorem dX2_enter_37 : decode cX2_enter 37 = .ok (.iconst 5, 1) := by decide +kernel
theorem dX2_enter_38 : decode cX2_enter 38 = .ok (.invokevirtual 60, 3) := by decide +kernel
theorem dX2_enter_41 : decode cX2_enter 41 = .ok (.invokevirtual 36, 3) := by decide +kernel
theorem dX2_enter_44 : decode cX2_enter 44 = .ok (.aload_n 0, 1) := by decide +kernel
theorem dX2_enter_45 : decode cX2_enter 45 = .ok (.getfield 26, 3) := by decide +kernel
theorem dX2_enter_48 : decode cX2_enter 48 = .ok (.iload_n 2, 1) := by decide +kernel
theorem dX2_enter_49 : decode cX2_enter 49 = .ok (.iconst 1, 1) := by decide +kernel
theorem dX2_enter_50 : decode cX2_enter 50 = .ok (.aload_n 0, 1) := by decide +kernel
theorem dX2_enter_51 : decode cX2_enter 51 = .ok (.getfield 54, 3) := by decide +kernel
theorem dX2_enter_54 : decode cX2_enter 54 = .ok (.invokevirtual 36, 3) := by decide +kernel
theorem dX2_enter_57 : decode cX2_enter 57 = .ok (.aload_n 0, 1) := by decide +kernel
theorem dX2_enter_58 : decode cX2_enter 58 = .ok (.getfield 26, 3) := by decide +kernel
theorem dX2_enter_61 : decode cX2_enter 61 = .ok (.iload_n 2, 1) := by decide +kernel
theorem dX2_enter_62 : decode cX2_enter 62 = .ok (.iconst 2, 1) := by decide +kernel
theorem dX2_enter_63 : decode cX2_enter 63 = .ok (.aload_n 0, 1) := by decide +kernel
theorem dX2_enter_64 : decode cX2_enter 64 = .ok (.getfield 23, 3) := by decide +kernel
theorem dX2_enter_67 : decode cX2_enter 67 = .ok (.iload_n 1, 1) := by decide +kernel
theorem dX2_enter_68 : decode cX2_enter 68 = .ok (.iconst 0, 1) := by decide +kernel
theorem dX2_enter_69 : decode cX2_enter 69 = .ok (.invokevirtual 60, 3) := by decide +kernel
theorem dX2_enter_72 : decode cX2_enter 72 = .ok (.invokevirtual 36, 3) := by decide +kernel
theorem dX2_enter_75 : decode cX2_enter 75 = .ok (.return_, 1) := by decide +kernel
set_option maxRecDepth 20000 in
theorem ggX2_thingsSeenBy_X3_rows : GoodIn wsX2_thingsSeenBy wsX3_rows := goodIn_r _ [7, 8, 24, 25, 26, 27] (by decide +kernel) (by decide +kernel)
set_option maxRecDepth 20000 in
theorem gX2_thingsSeenBy_X3_rows : GoodIn wsX2_thingsSeenBy (wsV RX2 104 RX3 yX3_rows wsX3_rows) := goodIn_app (goodIn_of _ (by decide +kernel)) ggX2_thingsSeenBy_X3_rows
set_option maxRecDepth 20000 in
theorem ggX2_thingsSeenBy_X3_at : GoodIn wsX2_thingsSeenBy wsX3_at := goodIn_r _ [12, 8, 13, 14, 24, 25, 26, 27] (by decide +kernel) (by decide +kernel)
set_option maxRecDepth 20000 in
theorem gX2_thingsSeenBy_X3_at : GoodIn wsX2_thingsSeenBy (wsV RX2 60 RX3 yX3_at wsX3_at) := goodIn_app (goodIn_of _ (by decide +kernel)) ggX2_thingsSeenBy_X3_at
theorem dX2_thingsSeenBy_0 : decode cX2_thingsSeenBy 0 = .ok (.iconst 0, 1) := by decide +kernel
theorem dX2_thingsSeenBy_1 : decode cX2_thingsSeenBy 1 = .ok (.istore_n 2, 1) := by decide +kernel
theorem dX2_thingsSeenBy_2 : decode cX2_thingsSeenBy 2 = .ok (.iconst 0, 1) := by decide +kernel
theorem dX2_thingsSeenBy_3 : decode cX2_thingsSeenBy 3 = .ok (.istore_n 3, 1) := by decide +kernel
theorem dX2_thingsSeenBy_4 : decode cX2_thingsSeenBy 4 = .ok (.iload_n 3, 1) := by decide +kernel
theorem dX2_thingsSeenBy_5 : decode cX2_thingsSeenBy 5 = .ok (.aload_n 0, 1) := by decide +kernel
theorem dX2_thingsSeenBy_6 : decode cX2_thingsSeenBy 6 = .ok (.getfield 20, 3) := by decide +kernel
theorem dX2_thingsSeenBy_9 : decode cX2_thingsSeenBy 9 = .ok (.invokevirtual 104, 3) := by decide +kernel
theorem dX2_thingsSeenBy_12 : decode cX2_thingsSeenBy 12 = .ok (.if_icmp .ge 29, 3) := by decide +kernel
theorem dX2_thingsSeenBy_15 : decode cX2_thingsSeenBy 15 = .ok (.aload_n 0, 1) := by decide +kernel
theorem dX2_thingsSeenBy_16 : decode cX2_thingsSeenBy 16 = .ok (.getfield 29, 3) := by decide +kernel
theorem dX2_thingsSeenBy_19 : decode cX2_thingsSeenBy 19 = .ok (.iload_n 3, 1) := by decide +kernel
theorem dX2_thingsSeenBy_20 : decode cX2_thingsSeenBy 20 = .ok (.iload_n 1, 1) := by decide +kernel
theorem dX2_thingsSeenBy_21 : decode cX2_thingsSeenBy 21 = .ok (.invokevirtual 60, 3) := by decide +kernel
theorem dX2_thingsSeenBy_24 : decode cX2_thingsSeenBy 24 = .ok (.iconst 1, 1) := by decide +kernel
theorem dX2_thingsSeenBy_25 : decode cX2_thingsSeenBy 25 = .ok (.iand, 1) := by decide +kernel
theorem dX2_thingsSeenBy_26 : decode cX2_thingsSeenBy 26 = .ok (.ifCond .eq 9, 3) := by decide +kernel
theorem dX2_thingsSeenBy_29 : decode cX2_thingsSeenBy 29 = .ok (.iload_n 2, 1) := by decide +kernel
theorem dX2_thingsSeenBy_30 : decode cX2_thingsSeenBy 30 = .ok (.iconst 1, 1) := by decide +kernel
theorem dX2_thingsSeenBy_31 : decode cX2_thingsSeenBy 31 = .ok (.iload_n 3, 1) := by decide +kernel
theorem dX2_thingsSeenBy_32 : decode cX2_thingsSeenBy 32 = .ok (.ishl, 1) := by decide +kernel
theorem dX2_thingsSeenBy_33 : decode cX2_thingsSeenBy 33 = .ok (.ior, 1) := by decide +kernel
theorem dX2_thingsSeenBy_34 : decode cX2_thingsSeenBy 34 = .ok (.istore_n 2, 1) := by decide +kernel
theorem dX2_thingsSeenBy_35 : decode cX2_thingsSeenBy 35 = .ok (.iinc 3 1, 3) := by decide +kernel
theorem dX2_thingsSeenBy_38 : decode cX2_thingsSeenBy 38 = .ok (.goto (-34), 3) := by decide +kernel
theorem dX2_thingsSeenBy_41 : decode cX2_thingsSeenBy 41 = .ok (.iload_n 2, 1) := by decide +kernel
theorem dX2_thingsSeenBy_42 : decode cX2_thingsSeenBy 42 = .ok (.ireturn, 1) := by decide +kernel
set_option maxRecDepth 20000 in
theorem ggX2_holdersOf_X3_at : GoodIn wsX2_holdersOf wsX3_at := goodIn_r _ [6, 7, 8, 9, 19, 20, 21, 22] (by decide +kernel) (by decide +kernel)
set_option maxRecDepth 20000 in
theorem gX2_holdersOf_X3_at : GoodIn wsX2_holdersOf (wsV RX2 60 RX3 yX3_at wsX3_at) := goodIn_app (goodIn_of _ (by decide +kernel)) ggX2_holdersOf_X3_at
theorem dX2_holdersOf_0 : decode cX2_holdersOf 0 = .ok (.iconst 0, 1) := by decide +kernel
theorem dX2_holdersOf_1 : decode cX2_holdersOf 1 = .ok (.istore_n 3, 1) := by decide +kernel
theorem dX2_holdersOf_2 : decode cX2_holdersOf 2 = .ok (.iconst 0, 1) := by decide +kernel
theorem dX2_holdersOf_3 : decode cX2_holdersOf 3 = .ok (.istore 4, 2) := by decide +kernel
theorem dX2_holdersOf_5 : decode cX2_holdersOf 5 = .ok (.iload 4, 2) := by decide +kernel
theorem dX2_holdersOf_7 : decode cX2_holdersOf 7 = .ok (.bipush 10, 2) := by decide +kernel
theorem dX2_holdersOf_9 : decode cX2_holdersOf 9 = .ok (.if_icmp .ge 31, 3) := by decide +kernel
theorem dX2_holdersOf_12 : decode cX2_holdersOf 12 = .ok (.aload_n 0, 1) := by decide +kernel
theorem dX2_holdersOf_13 : decode cX2_holdersOf 13 = .ok (.getfield 29, 3) := by decide +kernel
theorem dX2_holdersOf_16 : decode cX2_holdersOf 16 = .ok (.iload_n 1, 1) := by decide +kernel
theorem dX2_holdersOf_17 : decode cX2_holdersOf 17 = .ok (.iload 4, 2) := by decide +kernel
theorem dX2_holdersOf_19 : decode cX2_holdersOf 19 = .ok (.invokevirtual 60, 3) := by decide +kernel
theorem dX2_holdersOf_22 : decode cX2_holdersOf 22 = .ok (.iload_n 2, 1) := by decide +kernel
theorem dX2_holdersOf_23 : decode cX2_holdersOf 23 = .ok (.iand, 1) := by decide +kernel
theorem dX2_holdersOf_24 : decode cX2_holdersOf 24 = .ok (.ifCond .eq 10, 3) := by decide +kernel
theorem dX2_holdersOf_27 : decode cX2_holdersOf 27 = .ok (.iload_n 3, 1) := by decide +kernel
theorem dX2_holdersOf_28 : decode cX2_holdersOf 28 = .ok (.iconst 1, 1) := by decide +kernel
theorem dX2_holdersOf_29 : decode cX2_holdersOf 29 = .ok (.iload 4, 2) := by decide +kernel
theorem dX2_holdersOf_31 : decode cX2_holdersOf 31 = .ok (.ishl, 1) := by decide +kernel
theorem dX2_holdersOf_32 : decode cX2_holdersOf 32 = .ok (.ior, 1) := by decide +kernel
theorem dX2_holdersOf_33 : decode cX2_holdersOf 33 = .ok (.istore_n 3, 1) := by decide +kernel
theorem dX2_holdersOf_34 : decode cX2_holdersOf 34 = .ok (.iinc 4 1, 3) := by decide +kernel
theorem dX2_holdersOf_37 : decode cX2_holdersOf 37 = .ok (.goto (-32), 3) := by decide +kernel
theorem dX2_holdersOf_40 : decode cX2_holdersOf 40 = .ok (.iload_n 3, 1) := by decide +kernel
theorem dX2_holdersOf_41 : decode cX2_holdersOf 41 = .ok (.ireturn, 1) := by decide +kernel
set_option maxRecDepth 20000 in
theorem ggX2_countIdleGrants_X3_rows : GoodIn wsX2_countIdleGrants wsX3_rows := goodIn_r _ [6, 7, 30, 31, 32, 33] (by decide +kernel) (by decide +kernel)
set_option maxRecDepth 20000 in
theorem gX2_countIdleGrants_X3_rows : GoodIn wsX2_countIdleGrants (wsV RX2 104 RX3 yX3_rows wsX3_rows) := goodIn_app (goodIn_of _ (by decide +kernel)) ggX2_countIdleGrants_X3_rows
set_option maxRecDepth 20000 in
theorem ggX2_countIdleGrants_X2_passedOn : GoodIn wsX2_countIdleGrants wsX2_passedOn := goodIn_r _ [12, 1, 13, 14, 15, 16, 17, 5, 18, 7, 19, 20, 21, 22, 23, 24, 25, 26, 27, 28, 29, 30, 31, 32, 33] (by decide +kernel) (by decide +kernel)
set_option maxRecDepth 20000 in
theorem gX2_countIdleGrants_X2_passedOn : GoodIn wsX2_countIdleGrants (wsV RX2 123 RX2 yX2_passedOn wsX2_passedOn) := goodIn_app (goodIn_of _ (by decide +kernel)) ggX2_countIdleGrants_X2_passedOn
theorem dX2_countIdleGrants_0 : decode cX2_countIdleGrants 0 = .ok (.iconst 0, 1) := by decide +kernel
theorem dX2_countIdleGrants_1 : decode cX2_countIdleGrants 1 = .ok (.istore_n 1, 1) := by decide +kernel
theorem dX2_countIdleGrants_2 : decode cX2_countIdleGrants 2 = .ok (.iconst 0, 1) := by decide +kernel
theorem dX2_countIdleGrants_3 : decode cX2_countIdleGrants 3 = .ok (.istore_n 2, 1) := by decide +kernel
theorem dX2_countIdleGrants_4 : decode cX2_countIdleGrants 4 = .ok (.iload_n 2, 1) := by decide +kernel
theorem dX2_countIdleGrants_5 : decode cX2_countIdleGrants 5 = .ok (.aload_n 0, 1) := by decide +kernel
theorem dX2_countIdleGrants_6 : decode cX2_countIdleGrants 6 = .ok (.getfield 23, 3) := by decide +kernel
theorem dX2_countIdleGrants_9 : decode cX2_countIdleGrants 9 = .ok (.invokevirtual 104, 3) := by decide +kernel
theorem dX2_countIdleGrants_12 : decode cX2_countIdleGrants 12 = .ok (.if_icmp .ge 20, 3) := by decide +kernel
theorem dX2_countIdleGrants_15 : decode cX2_countIdleGrants 15 = .ok (.aload_n 0, 1) := by decide +kernel
theorem dX2_countIdleGrants_16 : decode cX2_countIdleGrants 16 = .ok (.iload_n 2, 1) := by decide +kernel
theorem dX2_countIdleGrants_17 : decode cX2_countIdleGrants 17 = .ok (.invokevirtual 123, 3) := by decide +kernel
theorem dX2_countIdleGrants_20 : decode cX2_countIdleGrants 20 = .ok (.ifCond .ne 6, 3) := by decide +kernel
theorem dX2_countIdleGrants_23 : decode cX2_countIdleGrants 23 = .ok (.iinc 1 1, 3) := by decide +kernel
theorem dX2_countIdleGrants_26 : decode cX2_countIdleGrants 26 = .ok (.iinc 2 1, 3) := by decide +kernel
theorem dX2_countIdleGrants_29 : decode cX2_countIdleGrants 29 = .ok (.goto (-25), 3) := by decide +kernel
theorem dX2_countIdleGrants_32 : decode cX2_countIdleGrants 32 = .ok (.iload_n 1, 1) := by decide +kernel
theorem dX2_countIdleGrants_33 : decode cX2_countIdleGrants 33 = .ok (.ireturn, 1) := by decide +kernel
set_option maxRecDepth 20000 in
theorem ggX2_countEqual_X3_rows : GoodIn wsX2_countEqual wsX3_rows := goodIn_r _ [5, 6, 13, 14, 15, 16] (by decide +kernel) (by decide +kernel)
set_option maxRecDepth 20000 in
theorem gX2_countEqual_X3_rows : GoodIn wsX2_countEqual (wsV RX2 104 RX3 yX3_rows wsX3_rows) := goodIn_app (goodIn_of _ (by decide +kernel)) ggX2_countEqual_X3_rows
set_option maxRecDepth 20000 in
theorem ggX2_countEqual_X3_at : GoodIn wsX2_countEqual wsX3_at := goodIn_r _ [10, 6, 11, 12, 13, 14, 15, 16] (by decide +kernel) (by decide +kernel)
set_option maxRecDepth 20000 in
theorem gX2_countEqual_X3_at : GoodIn wsX2_countEqual (wsV RX2 60 RX3 yX3_at wsX3_at) := goodIn_app (goodIn_of _ (by decide +kernel)) ggX2_countEqual_X3_at
theorem dX2_countEqual_0 : decode cX2_countEqual 0 = .ok (.iconst 0, 1) := by decide +kernel
theorem dX2_countEqual_1 : decode cX2_countEqual 1 = .ok (.istore_n 3, 1) := by decide +kernel
theorem dX2_countEqual_2 : decode cX2_countEqual 2 = .ok (.iconst 0, 1) := by decide +kernel
theorem dX2_countEqual_3 : decode cX2_countEqual 3 = .ok (.istore 4, 2) := by decide +kernel
theorem dX2_countEqual_5 : decode cX2_countEqual 5 = .ok (.iload 4, 2) := by decide +kernel
theorem dX2_countEqual_7 : decode cX2_countEqual 7 = .ok (.aload_n 0, 1) := by decide +kernel
theorem dX2_countEqual_8 : decode cX2_countEqual 8 = .ok (.invokevirtual 104, 3) := by decide +kernel
theorem dX2_countEqual_11 : decode cX2_countEqual 11 = .ok (.if_icmp .ge 23, 3) := by decide +kernel
theorem dX2_countEqual_14 : decode cX2_countEqual 14 = .ok (.aload_n 0, 1) := by decide +kernel
theorem dX2_countEqual_15 : decode cX2_countEqual 15 = .ok (.iload 4, 2) := by decide +kernel
theorem dX2_countEqual_17 : decode cX2_countEqual 17 = .ok (.iload_n 1, 1) := by decide +kernel
theorem dX2_countEqual_18 : decode cX2_countEqual 18 = .ok (.invokevirtual 60, 3) := by decide +kernel
theorem dX2_countEqual_21 : decode cX2_countEqual 21 = .ok (.iload_n 2, 1) := by decide +kernel
theorem dX2_countEqual_22 : decode cX2_countEqual 22 = .ok (.if_icmp .ne 6, 3) := by decide +kernel
theorem dX2_countEqual_25 : decode cX2_countEqual 25 = .ok (.iinc 3 1, 3) := by decide +kernel
theorem dX2_countEqual_28 : decode cX2_countEqual 28 = .ok (.iinc 4 1, 3) := by decide +kernel
theorem dX2_countEqual_31 : decode cX2_countEqual 31 = .ok (.goto (-26), 3) := by decide +kernel
theorem dX2_countEqual_34 : decode cX2_countEqual 34 = .ok (.iload_n 3, 1) := by decide +kernel
theorem dX2_countEqual_35 : decode cX2_countEqual 35 = .ok (.ireturn, 1) := by decide +kernel
theorem dX3_init_0 : decode cX3_init 0 = .ok (.aload_n 0, 1) := by decide +kernel
theorem dX3_init_1 : decode cX3_init 1 = .ok (.invokespecial 3, 3) := by decide +kernel
theorem dX3_init_4 : decode cX3_init 4 = .ok (.aload_n 0, 1) := by decide +kernel
theorem dX3_init_5 : decode cX3_init 5 = .ok (.iload_n 1, 1) := by decide +kernel
theorem dX3_init_6 : decode cX3_init 6 = .ok (.putfield 9, 3) := by decide +kernel
theorem dX3_init_9 : decode cX3_init 9 = .ok (.aload_n 0, 1) := by decide +kernel
theorem dX3_init_10 : decode cX3_init 10 = .ok (.iload_n 2, 1) := by decide +kernel
theorem dX3_init_11 : decode cX3_init 11 = .ok (.putfield 15, 3) := by decide +kernel
theorem dX3_init_14 : decode cX3_init 14 = .ok (.aload_n 0, 1) := by decide +kernel
theorem dX3_init_15 : decode cX3_init 15 = .ok (.iload_n 1, 1) := by decide +kernel
theorem dX3_init_16 : decode cX3_init 16 = .ok (.ifCond .le 13, 3) := by decide +kernel
theorem dX3_init_19 : decode cX3_init 19 = .ok (.iload_n 2, 1) := by decide +kernel
theorem dX3_init_20 : decode cX3_init 20 = .ok (.ifCond .le 9, 3) := by decide +kernel
theorem dX3_init_23 : decode cX3_init 23 = .ok (.iload_n 1, 1) := by decide +kernel
theorem dX3_init_24 : decode cX3_init 24 = .ok (.iload_n 2, 1) := by decide +kernel
theorem dX3_init_25 : decode cX3_init 25 = .ok (.imul, 1) := by decide +kernel
theorem dX3_init_26 : decode cX3_init 26 = .ok (.goto 4, 3) := by decide +kernel
theorem dX3_init_29 : decode cX3_init 29 = .ok (.iconst 0, 1) := by decide +kernel
theorem dX3_init_30 : decode cX3_init 30 = .ok (.newarray .int, 2) := by decide +kernel
theorem dX3_init_32 : decode cX3_init 32 = .ok (.putfield 18, 3) := by decide +kernel
theorem dX3_init_35 : decode cX3_init 35 = .ok (.return_, 1) := by decide +kernel
theorem dX3_rows_0 : decode cX3_rows 0 = .ok (.aload_n 0, 1) := by decide +kernel
theorem dX3_rows_1 : decode cX3_rows 1 = .ok (.getfield 22, 3) := by decide +kernel
theorem dX3_rows_4 : decode cX3_rows 4 = .ok (.ireturn, 1) := by decide +kernel
theorem dX3_has_0 : decode cX3_has 0 = .ok (.iload_n 1, 1) := by decide +kernel
theorem dX3_has_1 : decode cX3_has 1 = .ok (.ifCond .lt 15, 3) := by decide +kernel
theorem dX3_has_4 : decode cX3_has 4 = .ok (.iload_n 1, 1) := by decide +kernel
theorem dX3_has_5 : decode cX3_has 5 = .ok (.aload_n 0, 1) := by decide +kernel
theorem dX3_has_6 : decode cX3_has 6 = .ok (.getfield 22, 3) := by decide +kernel
theorem dX3_has_9 : decode cX3_has 9 = .ok (.if_icmp .ge 7, 3) := by decide +kernel
theorem dX3_has_12 : decode cX3_has 12 = .ok (.iconst 1, 1) := by decide +kernel
theorem dX3_has_13 : decode cX3_has 13 = .ok (.goto 4, 3) := by decide +kernel
theorem dX3_has_16 : decode cX3_has 16 = .ok (.iconst 0, 1) := by decide +kernel
theorem dX3_has_17 : decode cX3_has 17 = .ok (.ireturn, 1) := by decide +kernel
theorem dX3_isFull_0 : decode cX3_isFull 0 = .ok (.aload_n 0, 1) := by decide +kernel
theorem dX3_isFull_1 : decode cX3_isFull 1 = .ok (.getfield 22, 3) := by decide +kernel
theorem dX3_isFull_4 : decode cX3_isFull 4 = .ok (.aload_n 0, 1) := by decide +kernel
theorem dX3_isFull_5 : decode cX3_isFull 5 = .ok (.getfield 9, 3) := by decide +kernel
theorem dX3_isFull_8 : decode cX3_isFull 8 = .ok (.if_icmp .lt 7, 3) := by decide +kernel
theorem dX3_isFull_11 : decode cX3_isFull 11 = .ok (.iconst 1, 1) := by decide +kernel
theorem dX3_isFull_12 : decode cX3_isFull 12 = .ok (.goto 4, 3) := by decide +kernel
theorem dX3_isFull_15 : decode cX3_isFull 15 = .ok (.iconst 0, 1) := by decide +kernel
end
section
theorem dX3_isFull_16 : decode cX3_isFull 16 = .ok (.ireturn, 1) := by decide +kernel
theorem dX3_at_0 : decode cX3_at 0 = .ok (.iload_n 1, 1) := by decide +kernel
theorem dX3_at_1 : decode cX3_at 1 = .ok (.ifCond .lt 27, 3) := by decide +kernel
theorem dX3_at_4 : decode cX3_at 4 = .ok (.iload_n 1, 1) := by decide +kernel
theorem dX3_at_5 : decode cX3_at 5 = .ok (.aload_n 0, 1) := by decide +kernel
theorem dX3_at_6 : decode cX3_at 6 = .ok (.getfield 22, 3) := by decide +kernel
theorem dX3_at_9 : decode cX3_at 9 = .ok (.if_icmp .ge 19, 3) := by decide +kernel
theorem dX3_at_12 : decode cX3_at 12 = .ok (.iload_n 2, 1) := by decide +kernel
theorem dX3_at_13 : decode cX3_at 13 = .ok (.ifCond .lt 15, 3) := by decide +kernel
theorem dX3_at_16 : decode cX3_at 16 = .ok (.iload_n 2, 1) := by decide +kernel
theorem dX3_at_17 : decode cX3_at 17 = .ok (.aload_n 0, 1) := by decide +kernel
theorem dX3_at_18 : decode cX3_at 18 = .ok (.getfield 15, 3) := by decide +kernel
theorem dX3_at_21 : decode cX3_at 21 = .ok (.if_icmp .ge 7, 3) := by decide +kernel
theorem dX3_at_24 : decode cX3_at 24 = .ok (.iconst 1, 1) := by decide +kernel
theorem dX3_at_25 : decode cX3_at 25 = .ok (.goto 4, 3) := by decide +kernel
theorem dX3_at_28 : decode cX3_at 28 = .ok (.iconst 0, 1) := by decide +kernel
theorem dX3_at_29 : decode cX3_at 29 = .ok (.istore_n 3, 1) := by decide +kernel
theorem dX3_at_30 : decode cX3_at 30 = .ok (.iload_n 1, 1) := by decide +kernel
theorem dX3_at_31 : decode cX3_at 31 = .ok (.aload_n 0, 1) := by decide +kernel
theorem dX3_at_32 : decode cX3_at 32 = .ok (.getfield 15, 3) := by decide +kernel
theorem dX3_at_35 : decode cX3_at 35 = .ok (.imul, 1) := by decide +kernel
theorem dX3_at_36 : decode cX3_at 36 = .ok (.iload_n 2, 1) := by decide +kernel
theorem dX3_at_37 : decode cX3_at 37 = .ok (.iadd, 1) := by decide +kernel
theorem dX3_at_38 : decode cX3_at 38 = .ok (.istore 4, 2) := by decide +kernel
theorem dX3_at_40 : decode cX3_at 40 = .ok (.iload_n 3, 1) := by decide +kernel
theorem dX3_at_41 : decode cX3_at 41 = .ok (.ifCond .eq 28, 3) := by decide +kernel
theorem dX3_at_44 : decode cX3_at 44 = .ok (.iload 4, 2) := by decide +kernel
theorem dX3_at_46 : decode cX3_at 46 = .ok (.ifCond .lt 23, 3) := by decide +kernel
theorem dX3_at_49 : decode cX3_at 49 = .ok (.iload 4, 2) := by decide +kernel
theorem dX3_at_51 : decode cX3_at 51 = .ok (.aload_n 0, 1) := by decide +kernel
theorem dX3_at_52 : decode cX3_at 52 = .ok (.getfield 18, 3) := by decide +kernel
theorem dX3_at_55 : decode cX3_at 55 = .ok (.arraylength, 1) := by decide +kernel
theorem dX3_at_56 : decode cX3_at 56 = .ok (.if_icmp .ge 13, 3) := by decide +kernel
theorem dX3_at_59 : decode cX3_at 59 = .ok (.aload_n 0, 1) := by decide +kernel
theorem dX3_at_60 : decode cX3_at 60 = .ok (.getfield 18, 3) := by decide +kernel
theorem dX3_at_63 : decode cX3_at 63 = .ok (.iload 4, 2) := by decide +kernel
theorem dX3_at_65 : decode cX3_at 65 = .ok (.iaload, 1) := by decide +kernel
theorem dX3_at_66 : decode cX3_at 66 = .ok (.goto 4, 3) := by decide +kernel
theorem dX3_at_69 : decode cX3_at 69 = .ok (.iconst 0, 1) := by decide +kernel
theorem dX3_at_70 : decode cX3_at 70 = .ok (.ireturn, 1) := by decide +kernel
theorem dX3_put_0 : decode cX3_put 0 = .ok (.iload_n 1, 1) := by decide +kernel
theorem dX3_put_1 : decode cX3_put 1 = .ok (.ifCond .lt 27, 3) := by decide +kernel
theorem dX3_put_4 : decode cX3_put 4 = .ok (.iload_n 1, 1) := by decide +kernel
theorem dX3_put_5 : decode cX3_put 5 = .ok (.aload_n 0, 1) := by decide +kernel
theorem dX3_put_6 : decode cX3_put 6 = .ok (.getfield 22, 3) := by decide +kernel
theorem dX3_put_9 : decode cX3_put 9 = .ok (.if_icmp .ge 19, 3) := by decide +kernel
theorem dX3_put_12 : decode cX3_put 12 = .ok (.iload_n 2, 1) := by decide +kernel
theorem dX3_put_13 : decode cX3_put 13 = .ok (.ifCond .lt 15, 3) := by decide +kernel
theorem dX3_put_16 : decode cX3_put 16 = .ok (.iload_n 2, 1) := by decide +kernel
theorem dX3_put_17 : decode cX3_put 17 = .ok (.aload_n 0, 1) := by decide +kernel
theorem dX3_put_18 : decode cX3_put 18 = .ok (.getfield 15, 3) := by decide +kernel
theorem dX3_put_21 : decode cX3_put 21 = .ok (.if_icmp .ge 7, 3) := by decide +kernel
theorem dX3_put_24 : decode cX3_put 24 = .ok (.iconst 1, 1) := by decide +kernel
theorem dX3_put_25 : decode cX3_put 25 = .ok (.goto 4, 3) := by decide +kernel
theorem dX3_put_28 : decode cX3_put 28 = .ok (.iconst 0, 1) := by decide +kernel
theorem dX3_put_29 : decode cX3_put 29 = .ok (.istore 4, 2) := by decide +kernel
theorem dX3_put_31 : decode cX3_put 31 = .ok (.iload_n 1, 1) := by decide +kernel
theorem dX3_put_32 : decode cX3_put 32 = .ok (.aload_n 0, 1) := by decide +kernel
theorem dX3_put_33 : decode cX3_put 33 = .ok (.getfield 15, 3) := by decide +kernel
theorem dX3_put_36 : decode cX3_put 36 = .ok (.imul, 1) := by decide +kernel
theorem dX3_put_37 : decode cX3_put 37 = .ok (.iload_n 2, 1) := by decide +kernel
theorem dX3_put_38 : decode cX3_put 38 = .ok (.iadd, 1) := by decide +kernel
theorem dX3_put_39 : decode cX3_put 39 = .ok (.istore 5, 2) := by decide +kernel
theorem dX3_put_41 : decode cX3_put 41 = .ok (.iload 4, 2) := by decide +kernel
theorem dX3_put_43 : decode cX3_put 43 = .ok (.ifCond .eq 26, 3) := by decide +kernel
theorem dX3_put_46 : decode cX3_put 46 = .ok (.iload 5, 2) := by decide +kernel
theorem dX3_put_48 : decode cX3_put 48 = .ok (.ifCond .lt 21, 3) := by decide +kernel
theorem dX3_put_51 : decode cX3_put 51 = .ok (.iload 5, 2) := by decide +kernel
theorem dX3_put_53 : decode cX3_put 53 = .ok (.aload_n 0, 1) := by decide +kernel
theorem dX3_put_54 : decode cX3_put 54 = .ok (.getfield 18, 3) := by decide +kernel
theorem dX3_put_57 : decode cX3_put 57 = .ok (.arraylength, 1) := by decide +kernel
theorem dX3_put_58 : decode cX3_put 58 = .ok (.if_icmp .ge 11, 3) := by decide +kernel
theorem dX3_put_61 : decode cX3_put 61 = .ok (.aload_n 0, 1) := by decide +kernel
theorem dX3_put_62 : decode cX3_put 62 = .ok (.getfield 18, 3) := by decide +kernel
theorem dX3_put_65 : decode cX3_put 65 = .ok (.iload 5, 2) := by decide +kernel
theorem dX3_put_67 : decode cX3_put 67 = .ok (.iload_n 3, 1) := by decide +kernel
theorem dX3_put_68 : decode cX3_put 68 = .ok (.iastore, 1) := by decide +kernel
theorem dX3_put_69 : decode cX3_put 69 = .ok (.return_, 1) := by decide +kernel
theorem dX3_addRow_0 : decode cX3_addRow 0 = .ok (.aload_n 0, 1) := by decide +kernel
theorem dX3_addRow_1 : decode cX3_addRow 1 = .ok (.getfield 22, 3) := by decide +kernel
theorem dX3_addRow_4 : decode cX3_addRow 4 = .ok (.aload_n 0, 1) := by decide +kernel
theorem dX3_addRow_5 : decode cX3_addRow 5 = .ok (.getfield 9, 3) := by decide +kernel
theorem dX3_addRow_8 : decode cX3_addRow 8 = .ok (.if_icmp .lt 5, 3) := by decide +kernel
theorem dX3_addRow_11 : decode cX3_addRow 11 = .ok (.iconst (-1), 1) := by decide +kernel
theorem dX3_addRow_12 : decode cX3_addRow 12 = .ok (.ireturn, 1) := by decide +kernel
theorem dX3_addRow_13 : decode cX3_addRow 13 = .ok (.aload_n 0, 1) := by decide +kernel
theorem dX3_addRow_14 : decode cX3_addRow 14 = .ok (.dup, 1) := by decide +kernel
theorem dX3_addRow_15 : decode cX3_addRow 15 = .ok (.getfield 22, 3) := by decide +kernel
theorem dX3_addRow_18 : decode cX3_addRow 18 = .ok (.iconst 1, 1) := by decide +kernel
theorem dX3_addRow_19 : decode cX3_addRow 19 = .ok (.iadd, 1) := by decide +kernel
theorem dX3_addRow_20 : decode cX3_addRow 20 = .ok (.putfield 22, 3) := by decide +kernel
theorem dX3_addRow_23 : decode cX3_addRow 23 = .ok (.aload_n 0, 1) := by decide +kernel
theorem dX3_addRow_24 : decode cX3_addRow 24 = .ok (.getfield 22, 3) := by decide +kernel
theorem dX3_addRow_27 : decode cX3_addRow 27 = .ok (.iconst 1, 1) := by decide +kernel
theorem dX3_addRow_28 : decode cX3_addRow 28 = .ok (.isub, 1) := by decide +kernel
theorem dX3_addRow_29 : decode cX3_addRow 29 = .ok (.ireturn, 1) := by decide +kernel
theorem dX3_drop_0 : decode cX3_drop 0 = .ok (.iload_n 1, 1) := by decide +kernel
theorem dX3_drop_1 : decode cX3_drop 1 = .ok (.ifCond .lt 11, 3) := by decide +kernel
theorem dX3_drop_4 : decode cX3_drop 4 = .ok (.iload_n 1, 1) := by decide +kernel
theorem dX3_drop_5 : decode cX3_drop 5 = .ok (.aload_n 0, 1) := by decide +kernel
theorem dX3_drop_6 : decode cX3_drop 6 = .ok (.getfield 22, 3) := by decide +kernel
theorem dX3_drop_9 : decode cX3_drop 9 = .ok (.if_icmp .lt 4, 3) := by decide +kernel
theorem dX3_drop_12 : decode cX3_drop 12 = .ok (.return_, 1) := by decide +kernel
theorem dX3_drop_13 : decode cX3_drop 13 = .ok (.aload_n 0, 1) := by decide +kernel
theorem dX3_drop_14 : decode cX3_drop 14 = .ok (.getfield 22, 3) := by decide +kernel
theorem dX3_drop_17 : decode cX3_drop 17 = .ok (.aload_n 0, 1) := by decide +kernel
theorem dX3_drop_18 : decode cX3_drop 18 = .ok (.getfield 15, 3) := by decide +kernel
theorem dX3_drop_21 : decode cX3_drop 21 = .ok (.imul, 1) := by decide +kernel
theorem dX3_drop_22 : decode cX3_drop 22 = .ok (.istore_n 2, 1) := by decide +kernel
theorem dX3_drop_23 : decode cX3_drop 23 = .ok (.iload_n 1, 1) := by decide +kernel
theorem dX3_drop_24 : decode cX3_drop 24 = .ok (.aload_n 0, 1) := by decide +kernel
theorem dX3_drop_25 : decode cX3_drop 25 = .ok (.getfield 15, 3) := by decide +kernel
theorem dX3_drop_28 : decode cX3_drop 28 = .ok (.imul, 1) := by decide +kernel
theorem dX3_drop_29 : decode cX3_drop 29 = .ok (.istore_n 3, 1) := by decide +kernel
theorem dX3_drop_30 : decode cX3_drop 30 = .ok (.iload_n 3, 1) := by decide +kernel
theorem dX3_drop_31 : decode cX3_drop 31 = .ok (.iload_n 2, 1) := by decide +kernel
theorem dX3_drop_32 : decode cX3_drop 32 = .ok (.aload_n 0, 1) := by decide +kernel
theorem dX3_drop_33 : decode cX3_drop 33 = .ok (.getfield 15, 3) := by decide +kernel
theorem dX3_drop_36 : decode cX3_drop 36 = .ok (.isub, 1) := by decide +kernel
theorem dX3_drop_37 : decode cX3_drop 37 = .ok (.if_icmp .ge 58, 3) := by decide +kernel
theorem dX3_drop_40 : decode cX3_drop 40 = .ok (.iload_n 3, 1) := by decide +kernel
theorem dX3_drop_41 : decode cX3_drop 41 = .ok (.aload_n 0, 1) := by decide +kernel
theorem dX3_drop_42 : decode cX3_drop 42 = .ok (.getfield 15, 3) := by decide +kernel
theorem dX3_drop_45 : decode cX3_drop 45 = .ok (.iadd, 1) := by decide +kernel
theorem dX3_drop_46 : decode cX3_drop 46 = .ok (.istore 4, 2) := by decide +kernel
theorem dX3_drop_48 : decode cX3_drop 48 = .ok (.iload_n 3, 1) := by decide +kernel
theorem dX3_drop_49 : decode cX3_drop 49 = .ok (.ifCond .lt 40, 3) := by decide +kernel
theorem dX3_drop_52 : decode cX3_drop 52 = .ok (.iload_n 3, 1) := by decide +kernel
theorem dX3_drop_53 : decode cX3_drop 53 = .ok (.aload_n 0, 1) := by decide +kernel
theorem dX3_drop_54 : decode cX3_drop 54 = .ok (.getfield 18, 3) := by decide +kernel
theorem dX3_drop_57 : decode cX3_drop 57 = .ok (.arraylength, 1) := by decide +kernel
theorem dX3_drop_58 : decode cX3_drop 58 = .ok (.if_icmp .ge 31, 3) := by decide +kernel
theorem dX3_drop_61 : decode cX3_drop 61 = .ok (.iload 4, 2) := by decide +kernel
theorem dX3_drop_63 : decode cX3_drop 63 = .ok (.ifCond .lt 26, 3) := by decide +kernel
theorem dX3_drop_66 : decode cX3_drop 66 = .ok (.iload 4, 2) := by decide +kernel
theorem dX3_drop_68 : decode cX3_drop 68 = .ok (.aload_n 0, 1) := by decide +kernel
theorem dX3_drop_69 : decode cX3_drop 69 = .ok (.getfield 18, 3) := by decide +kernel
theorem dX3_drop_72 : decode cX3_drop 72 = .ok (.arraylength, 1) := by decide +kernel
theorem dX3_drop_73 : decode cX3_drop 73 = .ok (.if_icmp .ge 16, 3) := by decide +kernel
theorem dX3_drop_76 : decode cX3_drop 76 = .ok (.aload_n 0, 1) := by decide +kernel
theorem dX3_drop_77 : decode cX3_drop 77 = .ok (.getfield 18, 3) := by decide +kernel
theorem dX3_drop_80 : decode cX3_drop 80 = .ok (.iload_n 3, 1) := by decide +kernel
theorem dX3_drop_81 : decode cX3_drop 81 = .ok (.aload_n 0, 1) := by decide +kernel
theorem dX3_drop_82 : decode cX3_drop 82 = .ok (.getfield 18, 3) := by decide +kernel
theorem dX3_drop_85 : decode cX3_drop 85 = .ok (.iload 4, 2) := by decide +kernel
theorem dX3_drop_87 : decode cX3_drop 87 = .ok (.iaload, 1) := by decide +kernel
theorem dX3_drop_88 : decode cX3_drop 88 = .ok (.iastore, 1) := by decide +kernel
theorem dX3_drop_89 : decode cX3_drop 89 = .ok (.iinc 3 1, 3) := by decide +kernel
theorem dX3_drop_92 : decode cX3_drop 92 = .ok (.goto (-62), 3) := by decide +kernel
theorem dX3_drop_95 : decode cX3_drop 95 = .ok (.aload_n 0, 1) := by decide +kernel
theorem dX3_drop_96 : decode cX3_drop 96 = .ok (.dup, 1) := by decide +kernel
theorem dX3_drop_97 : decode cX3_drop 97 = .ok (.getfield 22, 3) := by decide +kernel
theorem dX3_drop_100 : decode cX3_drop 100 = .ok (.iconst 1, 1) := by decide +kernel
theorem dX3_drop_101 : decode cX3_drop 101 = .ok (.isub, 1) := by decide +kernel
theorem dX3_drop_102 : decode cX3_drop 102 = .ok (.putfield 22, 3) := by decide +kernel
theorem dX3_drop_105 : decode cX3_drop 105 = .ok (.return_, 1) := by decide +kernel
theorem dX3_takeOver_0 : decode cX3_takeOver 0 = .ok (.aload_n 0, 1) := by decide +kernel
theorem dX3_takeOver_1 : decode cX3_takeOver 1 = .ok (.aload_n 1, 1) := by decide +kernel
theorem dX3_takeOver_2 : decode cX3_takeOver 2 = .ok (.getfield 22, 3) := by decide +kernel
theorem dX3_takeOver_5 : decode cX3_takeOver 5 = .ok (.aload_n 0, 1) := by decide +kernel
theorem dX3_takeOver_6 : decode cX3_takeOver 6 = .ok (.getfield 9, 3) := by decide +kernel
theorem dX3_takeOver_9 : decode cX3_takeOver 9 = .ok (.if_icmp .ge 10, 3) := by decide +kernel
theorem dX3_takeOver_12 : decode cX3_takeOver 12 = .ok (.aload_n 1, 1) := by decide +kernel
theorem dX3_takeOver_13 : decode cX3_takeOver 13 = .ok (.getfield 22, 3) := by decide +kernel
theorem dX3_takeOver_16 : decode cX3_takeOver 16 = .ok (.goto 7, 3) := by decide +kernel
theorem dX3_takeOver_19 : decode cX3_takeOver 19 = .ok (.aload_n 0, 1) := by decide +kernel
theorem dX3_takeOver_20 : decode cX3_takeOver 20 = .ok (.getfield 9, 3) := by decide +kernel
theorem dX3_takeOver_23 : decode cX3_takeOver 23 = .ok (.putfield 22, 3) := by decide +kernel
theorem dX3_takeOver_26 : decode cX3_takeOver 26 = .ok (.aload_n 0, 1) := by decide +kernel
theorem dX3_takeOver_27 : decode cX3_takeOver 27 = .ok (.getfield 22, 3) := by decide +kernel
theorem dX3_takeOver_30 : decode cX3_takeOver 30 = .ok (.aload_n 0, 1) := by decide +kernel
theorem dX3_takeOver_31 : decode cX3_takeOver 31 = .ok (.getfield 15, 3) := by decide +kernel
theorem dX3_takeOver_34 : decode cX3_takeOver 34 = .ok (.imul, 1) := by decide +kernel
theorem dX3_takeOver_35 : decode cX3_takeOver 35 = .ok (.istore_n 2, 1) := by decide +kernel
theorem dX3_takeOver_36 : decode cX3_takeOver 36 = .ok (.iconst 0, 1) := by decide +kernel
theorem dX3_takeOver_37 : decode cX3_takeOver 37 = .ok (.istore_n 3, 1) := by decide +kernel
theorem dX3_takeOver_38 : decode cX3_takeOver 38 = .ok (.iload_n 3, 1) := by decide +kernel
theorem dX3_takeOver_39 : decode cX3_takeOver 39 = .ok (.iload_n 2, 1) := by decide +kernel
theorem dX3_takeOver_40 : decode cX3_takeOver 40 = .ok (.if_icmp .ge 39, 3) := by decide +kernel
theorem dX3_takeOver_43 : decode cX3_takeOver 43 = .ok (.iload_n 3, 1) := by decide +kernel
theorem dX3_takeOver_44 : decode cX3_takeOver 44 = .ok (.aload_n 0, 1) := by decide +kernel
theorem dX3_takeOver_45 : decode cX3_takeOver 45 = .ok (.getfield 18, 3) := by decide +kernel
theorem dX3_takeOver_48 : decode cX3_takeOver 48 = .ok (.arraylength, 1) := by decide +kernel
theorem dX3_takeOver_49 : decode cX3_takeOver 49 = .ok (.if_icmp .ge 30, 3) := by decide +kernel
theorem dX3_takeOver_52 : decode cX3_takeOver 52 = .ok (.iload_n 3, 1) := by decide +kernel
theorem dX3_takeOver_53 : decode cX3_takeOver 53 = .ok (.aload_n 1, 1) := by decide +kernel
theorem dX3_takeOver_54 : decode cX3_takeOver 54 = .ok (.getfield 18, 3) := by decide +kernel
theorem dX3_takeOver_57 : decode cX3_takeOver 57 = .ok (.arraylength, 1) := by decide +kernel
theorem dX3_takeOver_58 : decode cX3_takeOver 58 = .ok (.if_icmp .ge 21, 3) := by decide +kernel
theorem dX3_takeOver_61 : decode cX3_takeOver 61 = .ok (.aload_n 0, 1) := by decide +kernel
theorem dX3_takeOver_62 : decode cX3_takeOver 62 = .ok (.getfield 18, 3) := by decide +kernel
theorem dX3_takeOver_65 : decode cX3_takeOver 65 = .ok (.iload_n 3, 1) := by decide +kernel
theorem dX3_takeOver_66 : decode cX3_takeOver 66 = .ok (.aload_n 1, 1) := by decide +kernel
theorem dX3_takeOver_67 : decode cX3_takeOver 67 = .ok (.getfield 18, 3) := by decide +kernel
theorem dX3_takeOver_70 : decode cX3_takeOver 70 = .ok (.iload_n 3, 1) := by decide +kernel
theorem dX3_takeOver_71 : decode cX3_takeOver 71 = .ok (.iaload, 1) := by decide +kernel
theorem dX3_takeOver_72 : decode cX3_takeOver 72 = .ok (.iastore, 1) := by decide +kernel
theorem dX3_takeOver_73 : decode cX3_takeOver 73 = .ok (.iinc 3 1, 3) := by decide +kernel
theorem dX3_takeOver_76 : decode cX3_takeOver 76 = .ok (.goto (-38), 3) := by decide +kernel
theorem dX3_takeOver_79 : decode cX3_takeOver 79 = .ok (.return_, 1) := by decide +kernel
set_option maxRecDepth 20000 in
theorem ggX4_init_X3_init : GoodIn wsX4_init wsX3_init := goodIn_r _ [12, 13, 2, 3, 14, 15, 16, 17, 18, 19, 20, 21] (by decide +kernel) (by decide +kernel)
set_option maxRecDepth 20000 in
theorem gX4_init_X3_init : GoodIn wsX4_init (wsX3_init) := ggX4_init_X3_init
theorem dX4_init_0 : decode cX4_init 0 = .ok (.aload_n 0, 1) := by decide +kernel
theorem dX4_init_1 : decode cX4_init 1 = .ok (.invokespecial 3, 3) := by decide +kernel
theorem dX4_init_4 : decode cX4_init 4 = .ok (.aload_n 0, 1) := by decide +kernel
theorem dX4_init_5 : decode cX4_init 5 = .ok (.new 9, 3) := by decide +kernel
theorem dX4_init_8 : decode cX4_init 8 = .ok (.dup, 1) := by decide +kernel
theorem dX4_init_9 : decode cX4_init 9 = .ok (.bipush 100, 2) := by decide +kernel
theorem dX4_init_11 : decode cX4_init 11 = .ok (.iconst 1, 1) := by decide +kernel
theorem dX4_init_12 : decode cX4_init 12 = .ok (.invokespecial 11, 3) := by decide +kernel
theorem dX4_init_15 : decode cX4_init 15 = .ok (.putfield 14, 3) := by decide +kernel
theorem dX4_init_18 : decode cX4_init 18 = .ok (.aload_n 0, 1) := by decide +kernel
theorem dX4_init_19 : decode cX4_init 19 = .ok (.new 9, 3) := by decide +kernel
theorem dX4_init_22 : decode cX4_init 22 = .ok (.dup, 1) := by decide +kernel
theorem dX4_init_23 : decode cX4_init 23 = .ok (.bipush 100, 2) := by decide +kernel
theorem dX4_init_25 : decode cX4_init 25 = .ok (.bipush 6, 2) := by decide +kernel
theorem dX4_init_27 : decode cX4_init 27 = .ok (.invokespecial 11, 3) := by decide +kernel
theorem dX4_init_30 : decode cX4_init 30 = .ok (.putfield 20, 3) := by decide +kernel
theorem dX4_init_33 : decode cX4_init 33 = .ok (.aload_n 0, 1) := by decide +kernel
theorem dX4_init_34 : decode cX4_init 34 = .ok (.iconst (-1), 1) := by decide +kernel
theorem dX4_init_35 : decode cX4_init 35 = .ok (.putfield 23, 3) := by decide +kernel
theorem dX4_init_38 : decode cX4_init 38 = .ok (.return_, 1) := by decide +kernel
set_option maxRecDepth 20000 in
theorem ggX5_init_X2_init : GoodIn wsX5_init wsX2_init := goodIn_r _ [23, 24, 2, 3, 25, 26, 27, 28, 29, 30, 31, 32, 33, 34, 35, 36, 37, 38, 39, 40, 41, 42, 43, 44, 45, 46, 47, 48, 49, 95, 96, 97, 98, 74, 75, 76, 77, 78, 79, 80, 81, 82] (by decide +kernel) (by decide +kernel)
set_option maxRecDepth 20000 in
theorem gX5_init_X2_init : GoodIn wsX5_init (wsX2_init) := ggX5_init_X2_init
set_option maxRecDepth 20000 in
theorem ggX5_init_X1_init : GoodIn wsX5_init wsX1_init := goodIn_r _ [52, 53, 2, 3, 54, 55, 5, 6, 56, 22, 23, 24, 25, 26, 27, 28, 29, 30, 31, 32, 33, 34, 35, 36, 37, 38, 39, 40, 41, 42, 43, 44, 45, 46, 47, 48, 49, 88, 89, 74, 75, 76, 77, 78, 79, 80, 81, 82, 95, 96, 97, 98] (by decide +kernel) (by decide +kernel)
set_option maxRecDepth 20000 in
theorem gX5_init_X1_init : GoodIn wsX5_init (wsX1_init) := ggX5_init_X1_init
set_option maxRecDepth 20000 in
theorem ggX5_init_X0_init : GoodIn wsX5_init wsX0_init := goodIn_r _ [59, 60, 2, 3, 61, 26, 27, 62, 63, 34, 35, 36, 37, 38, 39, 40, 64, 42, 43, 44, 45, 95, 96, 97, 98, 90] (by decide +kernel) (by decide +kernel)
set_option maxRecDepth 20000 in
theorem gX5_init_X0_init : GoodIn wsX5_init (wsX0_init) := ggX5_init_X0_init
set_option maxRecDepth 20000 in
theorem ggX5_init_X4_init : GoodIn wsX5_init wsX4_init := goodIn_r _ [67, 68, 2, 3, 69, 26, 27, 70, 71, 72, 73, 34, 35, 36, 37, 38, 39, 40, 95, 96, 97, 98, 91, 92, 93, 94] (by decide +kernel) (by decide +kernel)
set_option maxRecDepth 20000 in
theorem gX5_init_X4_init : GoodIn wsX5_init (wsX4_init) := ggX5_init_X4_init
theorem dX5_init_0 : decode cX5_init 0 = .ok (.aload_n 0, 1) := by decide +kernel
theorem dX5_init_1 : decode cX5_init 1 = .ok (.invokespecial 1, 3) := by decide +kernel
theorem dX5_init_4 : decode cX5_init 4 = .ok (.aload_n 0, 1) := by decide +kernel
theorem dX5_init_5 : decode cX5_init 5 = .ok (.new 7, 3) := by decide +kernel
theorem dX5_init_8 : decode cX5_init 8 = .ok (.dup, 1) := by decide +kernel
theorem dX5_init_9 : decode cX5_init 9 = .ok (.invokespecial 9, 3) := by decide +kernel
theorem dX5_init_12 : decode cX5_init 12 = .ok (.putfield 10, 3) := by decide +kernel
theorem dX5_init_15 : decode cX5_init 15 = .ok (.aload_n 0, 1) := by decide +kernel
theorem dX5_init_16 : decode cX5_init 16 = .ok (.new 7, 3) := by decide +kernel
theorem dX5_init_19 : decode cX5_init 19 = .ok (.dup, 1) := by decide +kernel
theorem dX5_init_20 : decode cX5_init 20 = .ok (.invokespecial 9, 3) := by decide +kernel
theorem dX5_init_23 : decode cX5_init 23 = .ok (.putfield 16, 3) := by decide +kernel
theorem dX5_init_26 : decode cX5_init 26 = .ok (.aload_n 0, 1) := by decide +kernel
theorem dX5_init_27 : decode cX5_init 27 = .ok (.new 19, 3) := by decide +kernel
theorem dX5_init_30 : decode cX5_init 30 = .ok (.dup, 1) := by decide +kernel
theorem dX5_init_31 : decode cX5_init 31 = .ok (.invokespecial 21, 3) := by decide +kernel
theorem dX5_init_34 : decode cX5_init 34 = .ok (.putfield 22, 3) := by decide +kernel
theorem dX5_init_37 : decode cX5_init 37 = .ok (.aload_n 0, 1) := by decide +kernel
theorem dX5_init_38 : decode cX5_init 38 = .ok (.new 26, 3) := by decide +kernel
theorem dX5_init_41 : decode cX5_init 41 = .ok (.dup, 1) := by decide +kernel
theorem dX5_init_42 : decode cX5_init 42 = .ok (.invokespecial 28, 3) := by decide +kernel
theorem dX5_init_45 : decode cX5_init 45 = .ok (.putfield 29, 3) := by decide +kernel
theorem dX5_init_48 : decode cX5_init 48 = .ok (.aload_n 0, 1) := by decide +kernel
theorem dX5_init_49 : decode cX5_init 49 = .ok (.new 33, 3) := by decide +kernel
theorem dX5_init_52 : decode cX5_init 52 = .ok (.dup, 1) := by decide +kernel
theorem dX5_init_53 : decode cX5_init 53 = .ok (.invokespecial 35, 3) := by decide +kernel
theorem dX5_init_56 : decode cX5_init 56 = .ok (.putfield 36, 3) := by decide +kernel
theorem dX5_init_59 : decode cX5_init 59 = .ok (.return_, 1) := by decide +kernel
set_option maxRecDepth 20000 in
theorem ggX5_addThing_X5_requirePerson : GoodIn wsX5_addThing wsX5_requirePerson := goodIn_ca (goodIn_r _ [9, 10, 11, 12, 13, 8, 14, 15, 16, 17] (by decide +kernel) (by decide +kernel)) (goodIn_sub (fun _ h => List.mem_cons_of_mem _ (List.mem_append_left _ (List.mem_append_right _ h))) (by decide +kernel))
set_option maxRecDepth 20000 in
theorem gX5_addThing_X5_requirePerson : GoodIn wsX5_addThing (va_wsS RX5 40 yX5_requirePerson wsX5_requirePerson) := goodIn_app (goodIn_of _ (by decide +kernel)) ggX5_addThing_X5_requirePerson
set_option maxRecDepth 20000 in
theorem ggX5_addThing_X5_requireMask : GoodIn wsX5_addThing wsX5_requireMask := goodIn_ca (goodIn_r _ [20, 21, 22, 8, 23, 24, 25, 15, 16, 17] (by decide +kernel) (by decide +kernel)) (goodIn_sub (fun _ h => List.mem_cons_of_mem _ (List.mem_append_right _ h)) (by decide +kernel))
set_option maxRecDepth 20000 in
theorem gX5_addThing_X5_requireMask : GoodIn wsX5_addThing (va_wsS RX5 44 yX5_requireMask wsX5_requireMask) := goodIn_app (goodIn_of _ (by decide +kernel)) ggX5_addThing_X5_requireMask
set_option maxRecDepth 20000 in
theorem ggX5_addThing_X3_isFull : GoodIn wsX5_addThing wsX3_isFull := goodIn_r _ [30, 31, 32, 106, 107, 108, 109] (by decide +kernel) (by decide +kernel)
set_option maxRecDepth 20000 in
theorem gX5_addThing_X3_isFull : GoodIn wsX5_addThing (wsV RX5 51 RX3 yX3_isFull wsX3_isFull) := goodIn_app (goodIn_of _ (by decide +kernel)) ggX5_addThing_X3_isFull
set_option maxRecDepth 20000 in
theorem ggX5_addThing_X1_keep : GoodIn wsX5_addThing wsX1_keep := goodIn_r _ [37, 38, 39, 40, 41, 42, 36, 43, 44, 45, 46, 47, 48, 49, 50, 51, 52, 53, 54, 55, 56, 57, 58, 59, 60, 29, 61, 31, 32, 62, 63, 110, 111, 97, 98, 99, 100, 101, 102, 103, 104, 105, 106, 107, 108, 109] (by decide +kernel) (by decide +kernel)
set_option maxRecDepth 20000 in
theorem gX5_addThing_X1_keep : GoodIn wsX5_addThing (wsV RX5 64 RX1 yX1_keep wsX1_keep) := goodIn_app (goodIn_of _ (by decide +kernel)) ggX5_addThing_X1_keep
set_option maxRecDepth 20000 in
theorem ggX5_addThing_X2_takeIn : GoodIn wsX5_addThing wsX2_takeIn := goodIn_r _ [67, 50, 53, 68, 69, 70, 29, 71, 31, 32, 72, 73, 74, 75, 62, 63, 76, 77, 78, 47, 79, 51, 80, 81, 82, 83, 84, 85, 86, 87, 88, 89, 90, 91, 97, 98, 99, 100, 101, 102, 103, 104, 105, 106, 107, 108, 109] (by decide +kernel) (by decide +kernel)
set_option maxRecDepth 20000 in
theorem gX5_addThing_X2_takeIn : GoodIn wsX5_addThing (wsV RX5 68 RX2 yX2_takeIn wsX2_takeIn) := goodIn_app (goodIn_of _ (by decide +kernel)) ggX5_addThing_X2_takeIn
theorem dX5_addThing_0 : decode cX5_addThing 0 = .ok (.iload_n 1, 1) := by decide +kernel
theorem dX5_addThing_1 : decode cX5_addThing 1 = .ok (.invokestatic 40, 3) := by decide +kernel
theorem dX5_addThing_4 : decode cX5_addThing 4 = .ok (.iload_n 2, 1) := by decide +kernel
theorem dX5_addThing_5 : decode cX5_addThing 5 = .ok (.invokestatic 44, 3) := by decide +kernel
theorem dX5_addThing_8 : decode cX5_addThing 8 = .ok (.aload_n 0, 1) := by decide +kernel
theorem dX5_addThing_9 : decode cX5_addThing 9 = .ok (.getfield 10, 3) := by decide +kernel
theorem dX5_addThing_12 : decode cX5_addThing 12 = .ok (.getfield 47, 3) := by decide +kernel
theorem dX5_addThing_15 : decode cX5_addThing 15 = .ok (.invokevirtual 51, 3) := by decide +kernel
theorem dX5_addThing_18 : decode cX5_addThing 18 = .ok (.ifCond .eq 13, 3) := by decide +kernel
theorem dX5_addThing_21 : decode cX5_addThing 21 = .ok (.new 57, 3) := by decide +kernel
theorem dX5_addThing_24 : decode cX5_addThing 24 = .ok (.dup, 1) := by decide +kernel
theorem dX5_addThing_25 : decode cX5_addThing 25 = .ok (.ldc 59, 2) := by decide +kernel
theorem dX5_addThing_27 : decode cX5_addThing 27 = .ok (.invokespecial 61, 3) := by decide +kernel
theorem dX5_addThing_30 : decode cX5_addThing 30 = .ok (.athrow, 1) := by decide +kernel
theorem dX5_addThing_31 : decode cX5_addThing 31 = .ok (.aload_n 0, 1) := by decide +kernel
theorem dX5_addThing_32 : decode cX5_addThing 32 = .ok (.getfield 22, 3) := by decide +kernel
theorem dX5_addThing_35 : decode cX5_addThing 35 = .ok (.aload_n 0, 1) := by decide +kernel
theorem dX5_addThing_36 : decode cX5_addThing 36 = .ok (.getfield 10, 3) := by decide +kernel
theorem dX5_addThing_39 : decode cX5_addThing 39 = .ok (.invokevirtual 64, 3) := by decide +kernel
theorem dX5_addThing_42 : decode cX5_addThing 42 = .ok (.aload_n 0, 1) := by decide +kernel
theorem dX5_addThing_43 : decode cX5_addThing 43 = .ok (.getfield 10, 3) := by decide +kernel
theorem dX5_addThing_46 : decode cX5_addThing 46 = .ok (.iload_n 1, 1) := by decide +kernel
theorem dX5_addThing_47 : decode cX5_addThing 47 = .ok (.iload_n 2, 1) := by decide +kernel
theorem dX5_addThing_48 : decode cX5_addThing 48 = .ok (.invokevirtual 68, 3) := by decide +kernel
theorem dX5_addThing_51 : decode cX5_addThing 51 = .ok (.ireturn, 1) := by decide +kernel
set_option maxRecDepth 20000 in
theorem ggX5_setMask_X5_requireThing : GoodIn wsX5_setMask wsX5_requireThing := goodIn_ca (goodIn_r _ [7, 8, 9, 2, 10, 11, 12, 13, 14, 15, 16, 84, 85, 86, 87, 88, 89, 90, 91, 92, 93, 94, 95, 96, 97, 98, 99, 100, 101] (by decide +kernel) (by decide +kernel)) (goodIn_sub (fun _ h => List.mem_cons_of_mem _ (List.mem_append_left _ (List.mem_append_right _ h))) (by decide +kernel))
set_option maxRecDepth 20000 in
theorem gX5_setMask_X5_requireThing : GoodIn wsX5_setMask (wsV RX5 72 RX5 yX5_requireThing wsX5_requireThing) := goodIn_app (goodIn_of _ (by decide +kernel)) ggX5_setMask_X5_requireThing
set_option maxRecDepth 20000 in
theorem ggX5_setMask_X5_requireMask : GoodIn wsX5_setMask wsX5_requireMask := goodIn_ca (goodIn_r _ [19, 20, 21, 6, 22, 23, 24, 25, 26, 27] (by decide +kernel) (by decide +kernel)) (goodIn_sub (fun _ h => List.mem_cons_of_mem _ (List.mem_append_right _ h)) (by decide +kernel))
set_option maxRecDepth 20000 in
theorem gX5_setMask_X5_requireMask : GoodIn wsX5_setMask (va_wsS RX5 44 yX5_requireMask wsX5_requireMask) := goodIn_app (goodIn_of _ (by decide +kernel)) ggX5_setMask_X5_requireMask
set_option maxRecDepth 20000 in
theorem ggX5_setMask_X1_keep : GoodIn wsX5_setMask wsX1_keep := goodIn_r _ [32, 33, 34, 35, 36, 37, 31, 38, 39, 40, 41, 42, 43, 44, 45, 46, 47, 48, 49, 50, 51, 52, 53, 54, 55, 14, 56, 16, 57, 58, 59, 102, 103, 89, 90, 91, 92, 93, 94, 95, 96, 97, 98, 99, 100, 101] (by decide +kernel) (by decide +kernel)
set_option maxRecDepth 20000 in
theorem gX5_setMask_X1_keep : GoodIn wsX5_setMask (wsV RX5 64 RX1 yX1_keep wsX1_keep) := goodIn_app (goodIn_of _ (by decide +kernel)) ggX5_setMask_X1_keep
set_option maxRecDepth 20000 in
theorem ggX5_setMask_X2_changeThing : GoodIn wsX5_setMask wsX2_changeThing := goodIn_r _ [63, 45, 64, 65, 66, 14, 67, 16, 58, 59, 68, 69, 70, 71, 72, 73, 74, 42, 75, 48, 46, 76, 77, 78, 79, 80, 81, 82, 83, 89, 90, 91, 92, 93, 94, 95, 96, 97, 98, 99, 100, 101] (by decide +kernel) (by decide +kernel)
set_option maxRecDepth 20000 in
theorem gX5_setMask_X2_changeThing : GoodIn wsX5_setMask (wsV RX5 75 RX2 yX2_changeThing wsX2_changeThing) := goodIn_app (goodIn_of _ (by decide +kernel)) ggX5_setMask_X2_changeThing
theorem dX5_setMask_0 : decode cX5_setMask 0 = .ok (.aload_n 0, 1) := by decide +kernel
theorem dX5_setMask_1 : decode cX5_setMask 1 = .ok (.iload_n 1, 1) := by decide +kernel
theorem dX5_setMask_2 : decode cX5_setMask 2 = .ok (.invokevirtual 72, 3) := by decide +kernel
theorem dX5_setMask_5 : decode cX5_setMask 5 = .ok (.iload_n 2, 1) := by decide +kernel
theorem dX5_setMask_6 : decode cX5_setMask 6 = .ok (.invokestatic 44, 3) := by decide +kernel
theorem dX5_setMask_9 : decode cX5_setMask 9 = .ok (.aload_n 0, 1) := by decide +kernel
theorem dX5_setMask_10 : decode cX5_setMask 10 = .ok (.getfield 22, 3) := by decide +kernel
theorem dX5_setMask_13 : decode cX5_setMask 13 = .ok (.aload_n 0, 1) := by decide +kernel
theorem dX5_setMask_14 : decode cX5_setMask 14 = .ok (.getfield 10, 3) := by decide +kernel
theorem dX5_setMask_17 : decode cX5_setMask 17 = .ok (.invokevirtual 64, 3) := by decide +kernel
theorem dX5_setMask_20 : decode cX5_setMask 20 = .ok (.aload_n 0, 1) := by decide +kernel
theorem dX5_setMask_21 : decode cX5_setMask 21 = .ok (.getfield 10, 3) := by decide +kernel
theorem dX5_setMask_24 : decode cX5_setMask 24 = .ok (.iload_n 1, 1) := by decide +kernel
theorem dX5_setMask_25 : decode cX5_setMask 25 = .ok (.iconst 1, 1) := by decide +kernel
theorem dX5_setMask_26 : decode cX5_setMask 26 = .ok (.iload_n 2, 1) := by decide +kernel
theorem dX5_setMask_27 : decode cX5_setMask 27 = .ok (.invokevirtual 75, 3) := by decide +kernel
theorem dX5_setMask_30 : decode cX5_setMask 30 = .ok (.ireturn, 1) := by decide +kernel
set_option maxRecDepth 20000 in
theorem ggX5_setBase_X5_requirePerson : GoodIn wsX5_setBase wsX5_requirePerson := goodIn_ca (goodIn_r _ [7, 8, 9, 10, 11, 6, 12, 13, 14, 15] (by decide +kernel) (by decide +kernel)) (goodIn_sub (fun _ h => List.mem_cons_of_mem _ (List.mem_append_left _ (List.mem_append_right _ h))) (by decide +kernel))
set_option maxRecDepth 20000 in
theorem gX5_setBase_X5_requirePerson : GoodIn wsX5_setBase (va_wsS RX5 40 yX5_requirePerson wsX5_requirePerson) := goodIn_app (goodIn_of _ (by decide +kernel)) ggX5_setBase_X5_requirePerson
set_option maxRecDepth 20000 in
theorem ggX5_setBase_X5_requireRange : GoodIn wsX5_setBase wsX5_requireRange := goodIn_ca (goodIn_r _ [18, 19, 20, 13, 14, 6, 15] (by decide +kernel) (by decide +kernel)) (goodIn_sub (fun _ h => List.mem_cons_of_mem _ (List.mem_append_right _ h)) (by decide +kernel))
set_option maxRecDepth 20000 in
theorem gX5_setBase_X5_requireRange : GoodIn wsX5_setBase (va_wsS RX5 79 yX5_requireRange wsX5_requireRange) := goodIn_app (goodIn_of _ (by decide +kernel)) ggX5_setBase_X5_requireRange
set_option maxRecDepth 20000 in
theorem ggX5_setBase_X1_keep : GoodIn wsX5_setBase wsX1_keep := goodIn_r _ [25, 26, 27, 28, 29, 30, 24, 31, 32, 33, 34, 35, 36, 37, 38, 39, 40, 41, 42, 43, 44, 45, 46, 47, 48, 49, 50, 51, 52, 53, 54, 77, 78, 68, 69, 70, 71, 72, 73, 74, 75, 76, 79, 80, 81, 82] (by decide +kernel) (by decide +kernel)
set_option maxRecDepth 20000 in
theorem gX5_setBase_X1_keep : GoodIn wsX5_setBase (wsV RX5 64 RX1 yX1_keep wsX1_keep) := goodIn_app (goodIn_of _ (by decide +kernel)) ggX5_setBase_X1_keep
set_option maxRecDepth 20000 in
theorem ggX5_setBase_X3_at : GoodIn wsX5_setBase wsX3_at := goodIn_r _ [58, 51, 53, 54, 79, 80, 81, 82] (by decide +kernel) (by decide +kernel)
set_option maxRecDepth 20000 in
theorem gX5_setBase_X3_at : GoodIn wsX5_setBase (wsV RX5 86 RX3 yX3_at wsX3_at) := goodIn_app (goodIn_of _ (by decide +kernel)) ggX5_setBase_X3_at
set_option maxRecDepth 20000 in
theorem ggX5_setBase_X3_put : GoodIn wsX5_setBase wsX3_put := goodIn_r _ [62, 51, 53, 54, 79, 80, 81, 82] (by decide +kernel) (by decide +kernel)
set_option maxRecDepth 20000 in
theorem gX5_setBase_X3_put : GoodIn wsX5_setBase (wsV RX5 89 RX3 yX3_put wsX3_put) := goodIn_app (goodIn_of _ (by decide +kernel)) ggX5_setBase_X3_put
theorem dX5_setBase_0 : decode cX5_setBase 0 = .ok (.iload_n 1, 1) := by decide +kernel
theorem dX5_setBase_1 : decode cX5_setBase 1 = .ok (.invokestatic 40, 3) := by decide +kernel
theorem dX5_setBase_4 : decode cX5_setBase 4 = .ok (.iload_n 2, 1) := by decide +kernel
theorem dX5_setBase_5 : decode cX5_setBase 5 = .ok (.iconst 0, 1) := by decide +kernel
theorem dX5_setBase_6 : decode cX5_setBase 6 = .ok (.bipush 100, 2) := by decide +kernel
theorem dX5_setBase_8 : decode cX5_setBase 8 = .ok (.invokestatic 79, 3) := by decide +kernel
theorem dX5_setBase_11 : decode cX5_setBase 11 = .ok (.aload_n 0, 1) := by decide +kernel
theorem dX5_setBase_12 : decode cX5_setBase 12 = .ok (.getfield 22, 3) := by decide +kernel
theorem dX5_setBase_15 : decode cX5_setBase 15 = .ok (.aload_n 0, 1) := by decide +kernel
theorem dX5_setBase_16 : decode cX5_setBase 16 = .ok (.getfield 10, 3) := by decide +kernel
theorem dX5_setBase_19 : decode cX5_setBase 19 = .ok (.invokevirtual 64, 3) := by decide +kernel
theorem dX5_setBase_22 : decode cX5_setBase 22 = .ok (.aload_n 0, 1) := by decide +kernel
theorem dX5_setBase_23 : decode cX5_setBase 23 = .ok (.getfield 10, 3) := by decide +kernel
theorem dX5_setBase_26 : decode cX5_setBase 26 = .ok (.getfield 83, 3) := by decide +kernel
theorem dX5_setBase_29 : decode cX5_setBase 29 = .ok (.iload_n 1, 1) := by decide +kernel
theorem dX5_setBase_30 : decode cX5_setBase 30 = .ok (.iconst 1, 1) := by decide +kernel
theorem dX5_setBase_31 : decode cX5_setBase 31 = .ok (.invokevirtual 86, 3) := by decide +kernel
theorem dX5_setBase_34 : decode cX5_setBase 34 = .ok (.istore_n 3, 1) := by decide +kernel
theorem dX5_setBase_35 : decode cX5_setBase 35 = .ok (.aload_n 0, 1) := by decide +kernel
theorem dX5_setBase_36 : decode cX5_setBase 36 = .ok (.getfield 10, 3) := by decide +kernel
theorem dX5_setBase_39 : decode cX5_setBase 39 = .ok (.getfield 83, 3) := by decide +kernel
theorem dX5_setBase_42 : decode cX5_setBase 42 = .ok (.iload_n 1, 1) := by decide +kernel
theorem dX5_setBase_43 : decode cX5_setBase 43 = .ok (.iconst 1, 1) := by decide +kernel
theorem dX5_setBase_44 : decode cX5_setBase 44 = .ok (.iload_n 2, 1) := by decide +kernel
theorem dX5_setBase_45 : decode cX5_setBase 45 = .ok (.invokevirtual 89, 3) := by decide +kernel
theorem dX5_setBase_48 : decode cX5_setBase 48 = .ok (.iload_n 3, 1) := by decide +kernel
theorem dX5_setBase_49 : decode cX5_setBase 49 = .ok (.ireturn, 1) := by decide +kernel
set_option maxRecDepth 20000 in
theorem ggX5_give_X5_requirePerson : GoodIn wsX5_give wsX5_requirePerson := goodIn_ca (goodIn_r _ [6, 7, 8, 9, 10, 5, 11, 12, 13, 14] (by decide +kernel) (by decide +kernel)) (goodIn_sub (fun _ h => List.mem_cons_of_mem _ (List.mem_append_right _ h)) (by decide +kernel))
set_option maxRecDepth 20000 in
theorem gX5_give_X5_requirePerson : GoodIn wsX5_give (va_wsS RX5 40 yX5_requirePerson wsX5_requirePerson) := goodIn_app (goodIn_of _ (by decide +kernel)) ggX5_give_X5_requirePerson
set_option maxRecDepth 20000 in
theorem ggX5_give_X5_requireThing : GoodIn wsX5_give wsX5_requireThing := goodIn_ca (goodIn_r _ [18, 7, 8, 2, 19, 20, 21, 22, 23, 24, 25, 82, 83, 84, 85, 86, 87, 88, 89, 90, 91, 92, 93, 94, 95, 96, 97, 98, 99] (by decide +kernel) (by decide +kernel)) (goodIn_sub (fun _ h => List.mem_cons_of_mem _ (List.mem_append_right _ h)) (by decide +kernel))
set_option maxRecDepth 20000 in
theorem gX5_give_X5_requireThing : GoodIn wsX5_give (wsV RX5 72 RX5 yX5_requireThing wsX5_requireThing) := goodIn_app (goodIn_of _ (by decide +kernel)) ggX5_give_X5_requireThing
set_option maxRecDepth 20000 in
theorem ggX5_give_X1_keep : GoodIn wsX5_give wsX1_keep := goodIn_r _ [30, 31, 32, 33, 34, 35, 29, 36, 37, 38, 39, 40, 41, 42, 43, 44, 45, 46, 47, 48, 49, 50, 51, 52, 53, 23, 54, 25, 55, 56, 57, 100, 101, 87, 88, 89, 90, 91, 92, 93, 94, 95, 96, 97, 98, 99] (by decide +kernel) (by decide +kernel)
set_option maxRecDepth 20000 in
theorem gX5_give_X1_keep : GoodIn wsX5_give (wsV RX5 64 RX1 yX1_keep wsX1_keep) := goodIn_app (goodIn_of _ (by decide +kernel)) ggX5_give_X1_keep
set_option maxRecDepth 20000 in
theorem ggX5_give_X2_changeThing : GoodIn wsX5_give wsX2_changeThing := goodIn_r _ [61, 43, 62, 63, 64, 23, 65, 25, 56, 57, 66, 67, 68, 69, 70, 71, 72, 40, 73, 46, 44, 74, 75, 76, 77, 78, 79, 80, 81, 87, 88, 89, 90, 91, 92, 93, 94, 95, 96, 97, 98, 99] (by decide +kernel) (by decide +kernel)
set_option maxRecDepth 20000 in
theorem gX5_give_X2_changeThing : GoodIn wsX5_give (wsV RX5 75 RX2 yX2_changeThing wsX2_changeThing) := goodIn_app (goodIn_of _ (by decide +kernel)) ggX5_give_X2_changeThing
theorem dX5_give_0 : decode cX5_give 0 = .ok (.iload_n 2, 1) := by decide +kernel
theorem dX5_give_1 : decode cX5_give 1 = .ok (.invokestatic 40, 3) := by decide +kernel
theorem dX5_give_4 : decode cX5_give 4 = .ok (.aload_n 0, 1) := by decide +kernel
theorem dX5_give_5 : decode cX5_give 5 = .ok (.iload_n 1, 1) := by decide +kernel
theorem dX5_give_6 : decode cX5_give 6 = .ok (.invokevirtual 72, 3) := by decide +kernel
theorem dX5_give_9 : decode cX5_give 9 = .ok (.aload_n 0, 1) := by decide +kernel
theorem dX5_give_10 : decode cX5_give 10 = .ok (.getfield 22, 3) := by decide +kernel
theorem dX5_give_13 : decode cX5_give 13 = .ok (.aload_n 0, 1) := by decide +kernel
theorem dX5_give_14 : decode cX5_give 14 = .ok (.getfield 10, 3) := by decide +kernel
theorem dX5_give_17 : decode cX5_give 17 = .ok (.invokevirtual 64, 3) := by decide +kernel
theorem dX5_give_20 : decode cX5_give 20 = .ok (.aload_n 0, 1) := by decide +kernel
theorem dX5_give_21 : decode cX5_give 21 = .ok (.getfield 10, 3) := by decide +kernel
theorem dX5_give_24 : decode cX5_give 24 = .ok (.iload_n 1, 1) := by decide +kernel
theorem dX5_give_25 : decode cX5_give 25 = .ok (.iconst 0, 1) := by decide +kernel
theorem dX5_give_26 : decode cX5_give 26 = .ok (.iload_n 2, 1) := by decide +kernel
theorem dX5_give_27 : decode cX5_give 27 = .ok (.invokevirtual 75, 3) := by decide +kernel
theorem dX5_give_30 : decode cX5_give 30 = .ok (.ireturn, 1) := by decide +kernel
set_option maxRecDepth 20000 in
theorem ggX5_grant_X2_faultOfGrant : GoodIn wsX5_grant wsX2_faultOfGrant := goodIn_r _ [9, 10, 11, 12, 13, 14, 15, 16, 17, 18, 19, 20, 21, 22, 23, 24, 25, 26, 27, 8, 28, 29, 30, 31, 32, 33, 34, 35, 36, 37, 38, 39, 40, 101, 102, 103, 104, 105, 106, 107, 108, 109, 110, 111, 112, 113] (by decide +kernel) (by decide +kernel)
set_option maxRecDepth 20000 in
theorem gX5_grant_X2_faultOfGrant : GoodIn wsX5_grant (wsV RX5 92 RX2 yX2_faultOfGrant wsX2_faultOfGrant) := goodIn_app (goodIn_of _ (by decide +kernel)) ggX5_grant_X2_faultOfGrant
set_option maxRecDepth 20000 in
theorem ggX5_grant_X5_requireFit : GoodIn wsX5_grant wsX5_requireFit := goodIn_ca (goodIn_ca (goodIn_r _ [43, 44, 45, 46, 47] (by decide +kernel) (by decide +kernel)) (goodIn_sub (fun _ h => List.mem_cons_of_mem _ (List.mem_append_left _ (List.mem_append_right _ h))) (by decide +kernel))) (goodIn_sub (fun _ h => List.mem_cons_of_mem _ (List.mem_append_right _ h)) (by decide +kernel))
set_option maxRecDepth 20000 in
theorem gX5_grant_X5_requireFit : GoodIn wsX5_grant (va_wsS RX5 96 yX5_requireFit wsX5_requireFit) := goodIn_app (goodIn_of _ (by decide +kernel)) ggX5_grant_X5_requireFit
set_option maxRecDepth 20000 in
theorem ggX5_grant_X1_keep : GoodIn wsX5_grant wsX1_keep := goodIn_r _ [52, 53, 54, 55, 56, 57, 51, 58, 59, 60, 61, 8, 62, 11, 10, 12, 63, 29, 64, 65, 66, 67, 68, 69, 70, 22, 71, 24, 40, 34, 35, 114, 115, 101, 102, 103, 104, 105, 106, 107, 108, 109, 110, 111, 112, 113] (by decide +kernel) (by decide +kernel)
set_option maxRecDepth 20000 in
theorem gX5_grant_X1_keep : GoodIn wsX5_grant (wsV RX5 64 RX1 yX1_keep wsX1_keep) := goodIn_app (goodIn_of _ (by decide +kernel)) ggX5_grant_X1_keep
set_option maxRecDepth 20000 in
theorem ggX5_grant_X2_lend : GoodIn wsX5_grant wsX2_lend := goodIn_r _ [75, 64, 12, 76, 77, 78, 22, 79, 24, 40, 80, 81, 82, 83, 34, 35, 84, 85, 86, 8, 87, 10, 29, 88, 89, 90, 91, 30, 31, 32, 33, 92, 93, 94, 95, 101, 102, 103, 104, 105, 106, 107, 108, 109, 110, 111, 112, 113] (by decide +kernel) (by decide +kernel)
set_option maxRecDepth 20000 in
theorem gX5_grant_X2_lend : GoodIn wsX5_grant (wsV RX5 101 RX2 yX2_lend wsX2_lend) := goodIn_app (goodIn_of _ (by decide +kernel)) ggX5_grant_X2_lend
theorem dX5_grant_0 : decode cX5_grant 0 = .ok (.aload_n 0, 1) := by decide +kernel
theorem dX5_grant_1 : decode cX5_grant 1 = .ok (.getfield 10, 3) := by decide +kernel
theorem dX5_grant_4 : decode cX5_grant 4 = .ok (.iload_n 1, 1) := by decide +kernel
theorem dX5_grant_5 : decode cX5_grant 5 = .ok (.iload_n 2, 1) := by decide +kernel
theorem dX5_grant_6 : decode cX5_grant 6 = .ok (.iload_n 3, 1) := by decide +kernel
theorem dX5_grant_7 : decode cX5_grant 7 = .ok (.iload 4, 2) := by decide +kernel
theorem dX5_grant_9 : decode cX5_grant 9 = .ok (.iload 5, 2) := by decide +kernel
theorem dX5_grant_11 : decode cX5_grant 11 = .ok (.invokevirtual 92, 3) := by decide +kernel
theorem dX5_grant_14 : decode cX5_grant 14 = .ok (.istore 6, 2) := by decide +kernel
theorem dX5_grant_16 : decode cX5_grant 16 = .ok (.iload 6, 2) := by decide +kernel
theorem dX5_grant_18 : decode cX5_grant 18 = .ok (.invokestatic 96, 3) := by decide +kernel
theorem dX5_grant_21 : decode cX5_grant 21 = .ok (.iload 6, 2) := by decide +kernel
theorem dX5_grant_23 : decode cX5_grant 23 = .ok (.iconst 3, 1) := by decide +kernel
theorem dX5_grant_24 : decode cX5_grant 24 = .ok (.if_icmp .ne 13, 3) := by decide +kernel
theorem dX5_grant_27 : decode cX5_grant 27 = .ok (.new 57, 3) := by decide +kernel
theorem dX5_grant_30 : decode cX5_grant 30 = .ok (.dup, 1) := by decide +kernel
theorem dX5_grant_31 : decode cX5_grant 31 = .ok (.ldc 99, 2) := by decide +kernel
theorem dX5_grant_33 : decode cX5_grant 33 = .ok (.invokespecial 61, 3) := by decide +kernel
theorem dX5_grant_36 : decode cX5_grant 36 = .ok (.athrow, 1) := by decide +kernel
theorem dX5_grant_37 : decode cX5_grant 37 = .ok (.aload_n 0, 1) := by decide +kernel
theorem dX5_grant_38 : decode cX5_grant 38 = .ok (.getfield 22, 3) := by decide +kernel
theorem dX5_grant_41 : decode cX5_grant 41 = .ok (.aload_n 0, 1) := by decide +kernel
theorem dX5_grant_42 : decode cX5_grant 42 = .ok (.getfield 10, 3) := by decide +kernel
theorem dX5_grant_45 : decode cX5_grant 45 = .ok (.invokevirtual 64, 3) := by decide +kernel
theorem dX5_grant_48 : decode cX5_grant 48 = .ok (.aload_n 0, 1) := by decide +kernel
theorem dX5_grant_49 : decode cX5_grant 49 = .ok (.getfield 10, 3) := by decide +kernel
theorem dX5_grant_52 : decode cX5_grant 52 = .ok (.iload_n 1, 1) := by decide +kernel
theorem dX5_grant_53 : decode cX5_grant 53 = .ok (.iload_n 2, 1) := by decide +kernel
theorem dX5_grant_54 : decode cX5_grant 54 = .ok (.iload_n 3, 1) := by decide +kernel
theorem dX5_grant_55 : decode cX5_grant 55 = .ok (.iload 4, 2) := by decide +kernel
theorem dX5_grant_57 : decode cX5_grant 57 = .ok (.iload 5, 2) := by decide +kernel
theorem dX5_grant_59 : decode cX5_grant 59 = .ok (.invokevirtual 101, 3) := by decide +kernel
theorem dX5_grant_62 : decode cX5_grant 62 = .ok (.ireturn, 1) := by decide +kernel
set_option maxRecDepth 20000 in
theorem ggX5_cheer_X5_requirePerson : GoodIn wsX5_cheer wsX5_requirePerson := goodIn_ca (goodIn_r _ [6, 7, 8, 9, 10, 5, 11, 12, 13, 14] (by decide +kernel) (by decide +kernel)) (goodIn_sub (fun _ h => List.mem_cons_of_mem _ (List.mem_append_left _ (List.mem_append_right _ h))) (by decide +kernel))
set_option maxRecDepth 20000 in
theorem gX5_cheer_X5_requirePerson : GoodIn wsX5_cheer (va_wsS RX5 40 yX5_requirePerson wsX5_requirePerson) := goodIn_app (goodIn_of _ (by decide +kernel)) ggX5_cheer_X5_requirePerson
set_option maxRecDepth 20000 in
theorem ggX5_cheer_X5_requireRange : GoodIn wsX5_cheer wsX5_requireRange := goodIn_ca (goodIn_r _ [17, 18, 19, 12, 13, 5, 14] (by decide +kernel) (by decide +kernel)) (goodIn_sub (fun _ h => List.mem_cons_of_mem _ (List.mem_append_right _ h)) (by decide +kernel))
set_option maxRecDepth 20000 in
theorem gX5_cheer_X5_requireRange : GoodIn wsX5_cheer (va_wsS RX5 79 yX5_requireRange wsX5_requireRange) := goodIn_app (goodIn_of _ (by decide +kernel)) ggX5_cheer_X5_requireRange
set_option maxRecDepth 20000 in
theorem ggX5_cheer_X1_keep : GoodIn wsX5_cheer wsX1_keep := goodIn_r _ [24, 25, 26, 27, 28, 29, 23, 30, 31, 32, 33, 34, 35, 36, 37, 38, 39, 40, 41, 42, 43, 44, 45, 46, 47, 48, 49, 50, 51, 52, 53, 114, 115, 116, 117, 118, 119, 120, 121, 122, 123, 124, 125, 126, 127, 128] (by decide +kernel) (by decide +kernel)
set_option maxRecDepth 20000 in
theorem gX5_cheer_X1_keep : GoodIn wsX5_cheer (wsV RX5 64 RX1 yX1_keep wsX1_keep) := goodIn_app (goodIn_of _ (by decide +kernel)) ggX5_cheer_X1_keep
set_option maxRecDepth 20000 in
theorem ggX5_cheer_X2_changeMood : GoodIn wsX5_cheer wsX2_changeMood := goodIn_r _ [57, 36, 58, 59, 60, 61, 62, 63, 64, 65, 66, 67, 48, 68, 50, 52, 53, 69, 70, 71, 72, 73, 74, 75, 34, 76, 38, 42, 77, 78, 79, 80, 81, 82, 83, 84, 85, 86, 87, 88, 39, 44, 89, 90, 91, 92, 51, 93, 94, 95, 96, 97, 98, 99, 100, 101, 102, 103, 104, 37, 40, 105, 106, 107, 108, 116, 117, 118, 119, 120, 121, 122, 123, 124, 125, 126, 127, 128] (by decide +kernel) (by decide +kernel)
set_option maxRecDepth 20000 in
theorem gX5_cheer_X2_changeMood : GoodIn wsX5_cheer (wsV RX5 111 RX2 yX2_changeMood wsX2_changeMood) := goodIn_app (goodIn_of _ (by decide +kernel)) ggX5_cheer_X2_changeMood
theorem dX5_cheer_0 : decode cX5_cheer 0 = .ok (.iload_n 1, 1) := by decide +kernel
theorem dX5_cheer_1 : decode cX5_cheer 1 = .ok (.invokestatic 40, 3) := by decide +kernel
theorem dX5_cheer_4 : decode cX5_cheer 4 = .ok (.iload_n 2, 1) := by decide +kernel
theorem dX5_cheer_5 : decode cX5_cheer 5 = .ok (.bipush (-100), 2) := by decide +kernel
theorem dX5_cheer_7 : decode cX5_cheer 7 = .ok (.bipush 100, 2) := by decide +kernel
theorem dX5_cheer_9 : decode cX5_cheer 9 = .ok (.invokestatic 79, 3) := by decide +kernel
theorem dX5_cheer_12 : decode cX5_cheer 12 = .ok (.aload_n 0, 1) := by decide +kernel
theorem dX5_cheer_13 : decode cX5_cheer 13 = .ok (.getfield 22, 3) := by decide +kernel
theorem dX5_cheer_16 : decode cX5_cheer 16 = .ok (.aload_n 0, 1) := by decide +kernel
theorem dX5_cheer_17 : decode cX5_cheer 17 = .ok (.getfield 10, 3) := by decide +kernel
theorem dX5_cheer_20 : decode cX5_cheer 20 = .ok (.invokevirtual 64, 3) := by decide +kernel
theorem dX5_cheer_23 : decode cX5_cheer 23 = .ok (.aload_n 0, 1) := by decide +kernel
theorem dX5_cheer_24 : decode cX5_cheer 24 = .ok (.getfield 10, 3) := by decide +kernel
theorem dX5_cheer_27 : decode cX5_cheer 27 = .ok (.iload_n 1, 1) := by decide +kernel
theorem dX5_cheer_28 : decode cX5_cheer 28 = .ok (.iload_n 2, 1) := by decide +kernel
theorem dX5_cheer_29 : decode cX5_cheer 29 = .ok (.invokevirtual 111, 3) := by decide +kernel
theorem dX5_cheer_32 : decode cX5_cheer 32 = .ok (.ireturn, 1) := by decide +kernel
set_option maxRecDepth 20000 in
theorem ggX5_pass_X5_requireRange : GoodIn wsX5_pass wsX5_requireRange := goodIn_ca (goodIn_r _ [8, 9, 10, 11, 12, 7, 13] (by decide +kernel) (by decide +kernel)) (goodIn_sub (fun _ h => List.mem_cons_of_mem _ (List.mem_append_right _ h)) (by decide +kernel))
set_option maxRecDepth 20000 in
theorem gX5_pass_X5_requireRange : GoodIn wsX5_pass (va_wsS RX5 79 yX5_requireRange wsX5_requireRange) := goodIn_app (goodIn_of _ (by decide +kernel)) ggX5_pass_X5_requireRange
set_option maxRecDepth 20000 in
theorem ggX5_pass_X2_hasTimeFor : GoodIn wsX5_pass wsX2_hasTimeFor := goodIn_r _ [18, 19, 20, 110, 111, 112, 113, 114, 115, 116, 117, 118] (by decide +kernel) (by decide +kernel)
set_option maxRecDepth 20000 in
theorem gX5_pass_X2_hasTimeFor : GoodIn wsX5_pass (wsV RX5 114 RX2 yX2_hasTimeFor wsX2_hasTimeFor) := goodIn_app (goodIn_of _ (by decide +kernel)) ggX5_pass_X2_hasTimeFor
set_option maxRecDepth 20000 in
theorem ggX5_pass_X1_keep : GoodIn wsX5_pass wsX1_keep := goodIn_r _ [25, 26, 27, 28, 29, 30, 24, 31, 32, 33, 34, 17, 35, 36, 37, 38, 39, 40, 41, 42, 43, 19, 44, 45, 46, 47, 48, 49, 50, 51, 52, 119, 120, 110, 111, 112, 113, 114, 115, 116, 117, 118, 121, 122, 123, 124] (by decide +kernel) (by decide +kernel)
set_option maxRecDepth 20000 in
theorem gX5_pass_X1_keep : GoodIn wsX5_pass (wsV RX5 64 RX1 yX1_keep wsX1_keep) := goodIn_app (goodIn_of _ (by decide +kernel)) ggX5_pass_X1_keep
set_option maxRecDepth 20000 in
theorem ggX5_pass_X2_letPass : GoodIn wsX5_pass wsX2_letPass := goodIn_r _ [56, 19, 57, 58, 59, 17, 60, 36, 61, 62, 63, 47, 64, 49, 51, 52, 65, 66, 67, 68, 69, 70, 71, 72, 38, 42, 73, 74, 75, 76, 77, 78, 79, 80, 81, 82, 83, 84, 39, 85, 86, 87, 88, 50, 89, 90, 91, 92, 93, 94, 95, 96, 97, 98, 99, 100, 37, 40, 101, 102, 103, 104, 110, 111, 112, 113, 114, 115, 116, 117, 118, 121, 122, 123, 124] (by decide +kernel) (by decide +kernel)
set_option maxRecDepth 20000 in
theorem gX5_pass_X2_letPass : GoodIn wsX5_pass (wsV RX5 120 RX2 yX2_letPass wsX2_letPass) := goodIn_app (goodIn_of _ (by decide +kernel)) ggX5_pass_X2_letPass
theorem dX5_pass_0 : decode cX5_pass 0 = .ok (.iload_n 1, 1) := by decide +kernel
theorem dX5_pass_1 : decode cX5_pass 1 = .ok (.iconst 1, 1) := by decide +kernel
theorem dX5_pass_2 : decode cX5_pass 2 = .ok (.bipush 100, 2) := by decide +kernel
theorem dX5_pass_4 : decode cX5_pass 4 = .ok (.invokestatic 79, 3) := by decide +kernel
theorem dX5_pass_7 : decode cX5_pass 7 = .ok (.aload_n 0, 1) := by decide +kernel
theorem dX5_pass_8 : decode cX5_pass 8 = .ok (.getfield 10, 3) := by decide +kernel
theorem dX5_pass_11 : decode cX5_pass 11 = .ok (.iload_n 1, 1) := by decide +kernel
theorem dX5_pass_12 : decode cX5_pass 12 = .ok (.invokevirtual 114, 3) := by decide +kernel
theorem dX5_pass_15 : decode cX5_pass 15 = .ok (.ifCond .ne 13, 3) := by decide +kernel
theorem dX5_pass_18 : decode cX5_pass 18 = .ok (.new 57, 3) := by decide +kernel
theorem dX5_pass_21 : decode cX5_pass 21 = .ok (.dup, 1) := by decide +kernel
theorem dX5_pass_22 : decode cX5_pass 22 = .ok (.ldc 118, 2) := by decide +kernel
theorem dX5_pass_24 : decode cX5_pass 24 = .ok (.invokespecial 61, 3) := by decide +kernel
theorem dX5_pass_27 : decode cX5_pass 27 = .ok (.athrow, 1) := by decide +kernel
theorem dX5_pass_28 : decode cX5_pass 28 = .ok (.aload_n 0, 1) := by decide +kernel
theorem dX5_pass_29 : decode cX5_pass 29 = .ok (.getfield 22, 3) := by decide +kernel
theorem dX5_pass_32 : decode cX5_pass 32 = .ok (.aload_n 0, 1) := by decide +kernel
theorem dX5_pass_33 : decode cX5_pass 33 = .ok (.getfield 10, 3) := by decide +kernel
theorem dX5_pass_36 : decode cX5_pass 36 = .ok (.invokevirtual 64, 3) := by decide +kernel
theorem dX5_pass_39 : decode cX5_pass 39 = .ok (.aload_n 0, 1) := by decide +kernel
theorem dX5_pass_40 : decode cX5_pass 40 = .ok (.getfield 10, 3) := by decide +kernel
theorem dX5_pass_43 : decode cX5_pass 43 = .ok (.iload_n 1, 1) := by decide +kernel
theorem dX5_pass_44 : decode cX5_pass 44 = .ok (.invokevirtual 120, 3) := by decide +kernel
theorem dX5_pass_47 : decode cX5_pass 47 = .ok (.ireturn, 1) := by decide +kernel
set_option maxRecDepth 20000 in
theorem ggX5_held_X5_requirePerson : GoodIn wsX5_held wsX5_requirePerson := goodIn_ca (goodIn_r _ [5, 6, 7, 8, 9, 4, 10, 11, 12, 13] (by decide +kernel) (by decide +kernel)) (goodIn_sub (fun _ h => List.mem_cons_of_mem _ (List.mem_append_right _ h)) (by decide +kernel))
set_option maxRecDepth 20000 in
theorem gX5_held_X5_requirePerson : GoodIn wsX5_held (va_wsS RX5 40 yX5_requirePerson wsX5_requirePerson) := goodIn_app (goodIn_of _ (by decide +kernel)) ggX5_held_X5_requirePerson
set_option maxRecDepth 20000 in
theorem ggX5_held_X5_requireThing : GoodIn wsX5_held wsX5_requireThing := goodIn_ca (goodIn_r _ [17, 6, 7, 1, 18, 19, 20, 21, 22, 23, 24, 37, 38, 39, 40, 41, 42, 43, 44, 45, 46, 47, 48, 49, 50, 51, 52, 53, 54] (by decide +kernel) (by decide +kernel)) (goodIn_sub (fun _ h => List.mem_cons_of_mem _ (List.mem_append_right _ h)) (by decide +kernel))
set_option maxRecDepth 20000 in
theorem gX5_held_X5_requireThing : GoodIn wsX5_held (wsV RX5 72 RX5 yX5_requireThing wsX5_requireThing) := goodIn_app (goodIn_of _ (by decide +kernel)) ggX5_held_X5_requireThing
set_option maxRecDepth 20000 in
theorem ggX5_held_X2_rightsOf : GoodIn wsX5_held wsX2_rightsOf := goodIn_r _ [29, 30, 31, 32, 33, 22, 34, 24, 35, 36, 42, 43, 44, 45, 46, 47, 48, 49, 50, 51, 52, 53, 54] (by decide +kernel) (by decide +kernel)
set_option maxRecDepth 20000 in
theorem gX5_held_X2_rightsOf : GoodIn wsX5_held (wsV RX5 123 RX2 yX2_rightsOf wsX2_rightsOf) := goodIn_app (goodIn_of _ (by decide +kernel)) ggX5_held_X2_rightsOf
theorem dX5_held_0 : decode cX5_held 0 = .ok (.iload_n 1, 1) := by decide +kernel
theorem dX5_held_1 : decode cX5_held 1 = .ok (.invokestatic 40, 3) := by decide +kernel
theorem dX5_held_4 : decode cX5_held 4 = .ok (.aload_n 0, 1) := by decide +kernel
theorem dX5_held_5 : decode cX5_held 5 = .ok (.iload_n 2, 1) := by decide +kernel
theorem dX5_held_6 : decode cX5_held 6 = .ok (.invokevirtual 72, 3) := by decide +kernel
theorem dX5_held_9 : decode cX5_held 9 = .ok (.aload_n 0, 1) := by decide +kernel
theorem dX5_held_10 : decode cX5_held 10 = .ok (.getfield 10, 3) := by decide +kernel
theorem dX5_held_13 : decode cX5_held 13 = .ok (.iload_n 1, 1) := by decide +kernel
theorem dX5_held_14 : decode cX5_held 14 = .ok (.iload_n 2, 1) := by decide +kernel
theorem dX5_held_15 : decode cX5_held 15 = .ok (.invokevirtual 123, 3) := by decide +kernel
theorem dX5_held_18 : decode cX5_held 18 = .ok (.ireturn, 1) := by decide +kernel
set_option maxRecDepth 20000 in
theorem ggX5_person_X5_requirePerson : GoodIn wsX5_person wsX5_requirePerson := goodIn_ca (goodIn_r _ [5, 6, 7, 8, 9, 4, 10, 11, 12, 13] (by decide +kernel) (by decide +kernel)) (goodIn_sub (fun _ h => List.mem_cons_of_mem _ (List.mem_append_left _ (List.mem_append_right _ h))) (by decide +kernel))
set_option maxRecDepth 20000 in
theorem gX5_person_X5_requirePerson : GoodIn wsX5_person (va_wsS RX5 40 yX5_requirePerson wsX5_requirePerson) := goodIn_app (goodIn_of _ (by decide +kernel)) ggX5_person_X5_requirePerson
set_option maxRecDepth 20000 in
theorem ggX5_person_X5_requireRange : GoodIn wsX5_person wsX5_requireRange := goodIn_ca (goodIn_r _ [16, 17, 18, 11, 12, 4, 13] (by decide +kernel) (by decide +kernel)) (goodIn_sub (fun _ h => List.mem_cons_of_mem _ (List.mem_append_right _ h)) (by decide +kernel))
set_option maxRecDepth 20000 in
theorem gX5_person_X5_requireRange : GoodIn wsX5_person (va_wsS RX5 79 yX5_requireRange wsX5_requireRange) := goodIn_app (goodIn_of _ (by decide +kernel)) ggX5_person_X5_requireRange
set_option maxRecDepth 20000 in
theorem ggX5_person_X2_aboutPerson : GoodIn wsX5_person wsX2_aboutPerson := goodIn_r _ [23, 24, 25, 26, 27, 28, 29, 30, 31, 32, 33, 34, 35, 36, 22, 37, 38, 39, 40, 41, 42, 43, 44, 45, 46, 47, 48, 49, 50, 51, 52, 53, 59, 60, 61, 62, 63, 64, 65, 66, 67, 68, 69, 70, 71] (by decide +kernel) (by decide +kernel)
set_option maxRecDepth 20000 in
theorem gX5_person_X2_aboutPerson : GoodIn wsX5_person (wsV RX5 126 RX2 yX2_aboutPerson wsX2_aboutPerson) := goodIn_app (goodIn_of _ (by decide +kernel)) ggX5_person_X2_aboutPerson
end
section
theorem dX5_person_0 : decode cX5_person 0 = .ok (.iload_n 1, 1) := by decide +kernel
theorem dX5_person_1 : decode cX5_person 1 = .ok (.invokestatic 40, 3) := by decide +kernel
theorem dX5_person_4 : decode cX5_person 4 = .ok (.iload_n 2, 1) := by decide +kernel
theorem dX5_person_5 : decode cX5_person 5 = .ok (.iconst 0, 1) := by decide +kernel
theorem dX5_person_6 : decode cX5_person 6 = .ok (.bipush 6, 2) := by decide +kernel
theorem dX5_person_8 : decode cX5_person 8 = .ok (.invokestatic 79, 3) := by decide +kernel
theorem dX5_person_11 : decode cX5_person 11 = .ok (.aload_n 0, 1) := by decide +kernel
theorem dX5_person_12 : decode cX5_person 12 = .ok (.getfield 10, 3) := by decide +kernel
theorem dX5_person_15 : decode cX5_person 15 = .ok (.iload_n 1, 1) := by decide +kernel
theorem dX5_person_16 : decode cX5_person 16 = .ok (.iload_n 2, 1) := by decide +kernel
theorem dX5_person_17 : decode cX5_person 17 = .ok (.invokevirtual 126, 3) := by decide +kernel
theorem dX5_person_20 : decode cX5_person 20 = .ok (.ireturn, 1) := by decide +kernel
set_option maxRecDepth 20000 in
theorem ggX5_thing_X5_requireThing : GoodIn wsX5_thing wsX5_requireThing := goodIn_ca (goodIn_r _ [6, 7, 8, 1, 9, 10, 11, 12, 13, 14, 15, 49, 50, 51, 52, 53, 54, 55, 56, 57, 58, 59, 60, 61, 62, 63, 64, 65, 66] (by decide +kernel) (by decide +kernel)) (goodIn_sub (fun _ h => List.mem_cons_of_mem _ (List.mem_append_left _ (List.mem_append_right _ h))) (by decide +kernel))
set_option maxRecDepth 20000 in
theorem gX5_thing_X5_requireThing : GoodIn wsX5_thing (wsV RX5 72 RX5 yX5_requireThing wsX5_requireThing) := goodIn_app (goodIn_of _ (by decide +kernel)) ggX5_thing_X5_requireThing
set_option maxRecDepth 20000 in
theorem ggX5_thing_X5_requireRange : GoodIn wsX5_thing wsX5_requireRange := goodIn_ca (goodIn_r _ [18, 19, 20, 21, 22, 5, 23] (by decide +kernel) (by decide +kernel)) (goodIn_sub (fun _ h => List.mem_cons_of_mem _ (List.mem_append_right _ h)) (by decide +kernel))
set_option maxRecDepth 20000 in
theorem gX5_thing_X5_requireRange : GoodIn wsX5_thing (va_wsS RX5 79 yX5_requireRange wsX5_requireRange) := goodIn_app (goodIn_of _ (by decide +kernel)) ggX5_thing_X5_requireRange
set_option maxRecDepth 20000 in
theorem ggX5_thing_X2_aboutThing : GoodIn wsX5_thing wsX2_aboutThing := goodIn_r _ [28, 29, 30, 31, 32, 33, 13, 34, 15, 35, 36, 37, 38, 27, 39, 40, 41, 42, 43, 44, 45, 46, 47, 48, 54, 55, 56, 57, 58, 59, 60, 61, 62, 63, 64, 65, 66] (by decide +kernel) (by decide +kernel)
set_option maxRecDepth 20000 in
theorem gX5_thing_X2_aboutThing : GoodIn wsX5_thing (wsV RX5 129 RX2 yX2_aboutThing wsX2_aboutThing) := goodIn_app (goodIn_of _ (by decide +kernel)) ggX5_thing_X2_aboutThing
theorem dX5_thing_0 : decode cX5_thing 0 = .ok (.aload_n 0, 1) := by decide +kernel
theorem dX5_thing_1 : decode cX5_thing 1 = .ok (.iload_n 1, 1) := by decide +kernel
theorem dX5_thing_2 : decode cX5_thing 2 = .ok (.invokevirtual 72, 3) := by decide +kernel
theorem dX5_thing_5 : decode cX5_thing 5 = .ok (.iload_n 2, 1) := by decide +kernel
theorem dX5_thing_6 : decode cX5_thing 6 = .ok (.iconst 0, 1) := by decide +kernel
theorem dX5_thing_7 : decode cX5_thing 7 = .ok (.iconst 5, 1) := by decide +kernel
theorem dX5_thing_8 : decode cX5_thing 8 = .ok (.invokestatic 79, 3) := by decide +kernel
theorem dX5_thing_11 : decode cX5_thing 11 = .ok (.aload_n 0, 1) := by decide +kernel
theorem dX5_thing_12 : decode cX5_thing 12 = .ok (.getfield 10, 3) := by decide +kernel
theorem dX5_thing_15 : decode cX5_thing 15 = .ok (.iload_n 1, 1) := by decide +kernel
theorem dX5_thing_16 : decode cX5_thing 16 = .ok (.iload_n 2, 1) := by decide +kernel
theorem dX5_thing_17 : decode cX5_thing 17 = .ok (.invokevirtual 129, 3) := by decide +kernel
theorem dX5_thing_20 : decode cX5_thing 20 = .ok (.ireturn, 1) := by decide +kernel
set_option maxRecDepth 20000 in
theorem ggX5_grantOf_X5_requireGrant : GoodIn wsX5_grantOf wsX5_requireGrant := goodIn_ca (goodIn_r _ [6, 7, 8, 1, 9, 10, 11, 12, 13, 14, 15, 16, 17, 18, 19, 20, 21, 22, 23, 24, 25, 26, 45, 46, 47, 48, 49, 50, 51, 52, 53, 54, 55, 56, 57, 58, 59, 60, 61, 62] (by decide +kernel) (by decide +kernel)) (goodIn_sub (fun _ h => List.mem_cons_of_mem _ (List.mem_append_left _ (List.mem_append_right _ h))) (by decide +kernel))
set_option maxRecDepth 20000 in
theorem gX5_grantOf_X5_requireGrant : GoodIn wsX5_grantOf (wsV RX5 104 RX5 yX5_requireGrant wsX5_requireGrant) := goodIn_app (goodIn_of _ (by decide +kernel)) ggX5_grantOf_X5_requireGrant
set_option maxRecDepth 20000 in
theorem ggX5_grantOf_X5_requireRange : GoodIn wsX5_grantOf wsX5_requireRange := goodIn_ca (goodIn_r _ [29, 30, 31, 32, 33, 5, 34] (by decide +kernel) (by decide +kernel)) (goodIn_sub (fun _ h => List.mem_cons_of_mem _ (List.mem_append_right _ h)) (by decide +kernel))
set_option maxRecDepth 20000 in
theorem gX5_grantOf_X5_requireRange : GoodIn wsX5_grantOf (va_wsS RX5 79 yX5_requireRange wsX5_requireRange) := goodIn_app (goodIn_of _ (by decide +kernel)) ggX5_grantOf_X5_requireRange
set_option maxRecDepth 20000 in
theorem ggX5_grantOf_X2_aboutGrant : GoodIn wsX5_grantOf wsX2_aboutGrant := goodIn_r _ [38, 14, 21, 22, 23, 18, 24, 20, 25, 26, 39, 40, 41, 12, 42, 43, 44, 50, 51, 52, 53, 54, 55, 56, 57, 58, 59, 60, 61, 62] (by decide +kernel) (by decide +kernel)
set_option maxRecDepth 20000 in
theorem gX5_grantOf_X2_aboutGrant : GoodIn wsX5_grantOf (wsV RX5 132 RX2 yX2_aboutGrant wsX2_aboutGrant) := goodIn_app (goodIn_of _ (by decide +kernel)) ggX5_grantOf_X2_aboutGrant
theorem dX5_grantOf_0 : decode cX5_grantOf 0 = .ok (.aload_n 0, 1) := by decide +kernel
theorem dX5_grantOf_1 : decode cX5_grantOf 1 = .ok (.iload_n 1, 1) := by decide +kernel
theorem dX5_grantOf_2 : decode cX5_grantOf 2 = .ok (.invokevirtual 104, 3) := by decide +kernel
theorem dX5_grantOf_5 : decode cX5_grantOf 5 = .ok (.istore_n 3, 1) := by decide +kernel
theorem dX5_grantOf_6 : decode cX5_grantOf 6 = .ok (.iload_n 2, 1) := by decide +kernel
theorem dX5_grantOf_7 : decode cX5_grantOf 7 = .ok (.iconst 0, 1) := by decide +kernel
theorem dX5_grantOf_8 : decode cX5_grantOf 8 = .ok (.iconst 5, 1) := by decide +kernel
theorem dX5_grantOf_9 : decode cX5_grantOf 9 = .ok (.invokestatic 79, 3) := by decide +kernel
theorem dX5_grantOf_12 : decode cX5_grantOf 12 = .ok (.aload_n 0, 1) := by decide +kernel
theorem dX5_grantOf_13 : decode cX5_grantOf 13 = .ok (.getfield 10, 3) := by decide +kernel
theorem dX5_grantOf_16 : decode cX5_grantOf 16 = .ok (.iload_n 3, 1) := by decide +kernel
theorem dX5_grantOf_17 : decode cX5_grantOf 17 = .ok (.iload_n 2, 1) := by decide +kernel
theorem dX5_grantOf_18 : decode cX5_grantOf 18 = .ok (.invokevirtual 132, 3) := by decide +kernel
theorem dX5_grantOf_21 : decode cX5_grantOf 21 = .ok (.ireturn, 1) := by decide +kernel
set_option maxRecDepth 20000 in
theorem ggX5_chain_X5_requirePerson : GoodIn wsX5_chain wsX5_requirePerson := goodIn_ca (goodIn_r _ [6, 7, 8, 9, 10, 5, 11, 12, 13, 14] (by decide +kernel) (by decide +kernel)) (goodIn_sub (fun _ h => List.mem_cons_of_mem _ (List.mem_append_right _ h)) (by decide +kernel))
set_option maxRecDepth 20000 in
theorem gX5_chain_X5_requirePerson : GoodIn wsX5_chain (va_wsS RX5 40 yX5_requirePerson wsX5_requirePerson) := goodIn_app (goodIn_of _ (by decide +kernel)) ggX5_chain_X5_requirePerson
set_option maxRecDepth 20000 in
theorem ggX5_chain_X5_requireThing : GoodIn wsX5_chain wsX5_requireThing := goodIn_ca (goodIn_r _ [18, 7, 8, 2, 19, 20, 21, 22, 23, 24, 25, 66, 67, 68, 69, 70, 71, 72, 73, 74, 75, 76, 77, 78, 79, 80, 81, 82, 83] (by decide +kernel) (by decide +kernel)) (goodIn_sub (fun _ h => List.mem_cons_of_mem _ (List.mem_append_right _ h)) (by decide +kernel))
set_option maxRecDepth 20000 in
theorem gX5_chain_X5_requireThing : GoodIn wsX5_chain (wsV RX5 72 RX5 yX5_requireThing wsX5_requireThing) := goodIn_app (goodIn_of _ (by decide +kernel)) ggX5_chain_X5_requireThing
set_option maxRecDepth 20000 in
theorem ggX5_chain_X0_measure : GoodIn wsX5_chain wsX0_measure := goodIn_r _ [30, 31, 32, 33, 34, 35, 36, 23, 37, 25, 38, 39, 40, 41, 42, 43, 44, 45, 46, 47, 48, 49, 50, 29, 51, 52, 53, 54, 55, 56, 57, 58, 59, 60, 61, 62, 63, 64, 84, 71, 72, 73, 74, 75, 76, 77, 78, 79, 80, 81, 82, 83] (by decide +kernel) (by decide +kernel)
set_option maxRecDepth 20000 in
theorem gX5_chain_X0_measure : GoodIn wsX5_chain (wsV RX5 135 RX0 yX0_measure wsX0_measure) := goodIn_app (goodIn_of _ (by decide +kernel)) ggX5_chain_X0_measure
set_option maxRecDepth 20000 in
theorem ggX5_chain_X0_stepsTo : GoodIn wsX5_chain wsX0_stepsTo := goodIn_r _ [51, 31, 34, 35, 36, 23, 37, 25, 38, 39, 84, 80, 81, 82, 83] (by decide +kernel) (by decide +kernel)
set_option maxRecDepth 20000 in
theorem gX5_chain_X0_stepsTo : GoodIn wsX5_chain (wsV RX5 139 RX0 yX0_stepsTo wsX0_stepsTo) := goodIn_app (goodIn_of _ (by decide +kernel)) ggX5_chain_X0_stepsTo
theorem dX5_chain_0 : decode cX5_chain 0 = .ok (.iload_n 1, 1) := by decide +kernel
theorem dX5_chain_1 : decode cX5_chain 1 = .ok (.invokestatic 40, 3) := by decide +kernel
theorem dX5_chain_4 : decode cX5_chain 4 = .ok (.aload_n 0, 1) := by decide +kernel
theorem dX5_chain_5 : decode cX5_chain 5 = .ok (.iload_n 2, 1) := by decide +kernel
theorem dX5_chain_6 : decode cX5_chain 6 = .ok (.invokevirtual 72, 3) := by decide +kernel
theorem dX5_chain_9 : decode cX5_chain 9 = .ok (.aload_n 0, 1) := by decide +kernel
theorem dX5_chain_10 : decode cX5_chain 10 = .ok (.getfield 29, 3) := by decide +kernel
theorem dX5_chain_13 : decode cX5_chain 13 = .ok (.aload_n 0, 1) := by decide +kernel
theorem dX5_chain_14 : decode cX5_chain 14 = .ok (.getfield 10, 3) := by decide +kernel
theorem dX5_chain_17 : decode cX5_chain 17 = .ok (.iload_n 2, 1) := by decide +kernel
theorem dX5_chain_18 : decode cX5_chain 18 = .ok (.invokevirtual 135, 3) := by decide +kernel
theorem dX5_chain_21 : decode cX5_chain 21 = .ok (.aload_n 0, 1) := by decide +kernel
theorem dX5_chain_22 : decode cX5_chain 22 = .ok (.getfield 29, 3) := by decide +kernel
theorem dX5_chain_25 : decode cX5_chain 25 = .ok (.iload_n 1, 1) := by decide +kernel
theorem dX5_chain_26 : decode cX5_chain 26 = .ok (.invokevirtual 139, 3) := by decide +kernel
theorem dX5_chain_29 : decode cX5_chain 29 = .ok (.ireturn, 1) := by decide +kernel
set_option maxRecDepth 20000 in
theorem ggX5_link_X5_requirePerson : GoodIn wsX5_link wsX5_requirePerson := goodIn_ca (goodIn_r _ [8, 1, 2, 9, 10, 7, 11, 12, 13, 14] (by decide +kernel) (by decide +kernel)) (goodIn_sub (fun _ h => List.mem_cons_of_mem _ (List.mem_append_right _ h)) (by decide +kernel))
set_option maxRecDepth 20000 in
theorem gX5_link_X5_requirePerson : GoodIn wsX5_link (va_wsS RX5 40 yX5_requirePerson wsX5_requirePerson) := goodIn_app (goodIn_of _ (by decide +kernel)) ggX5_link_X5_requirePerson
set_option maxRecDepth 20000 in
theorem ggX5_link_X5_requireThing : GoodIn wsX5_link wsX5_requireThing := goodIn_ca (goodIn_r _ [18, 1, 2, 4, 19, 20, 21, 22, 23, 24, 25, 74, 75, 76, 77, 78, 79, 80, 81, 82, 83, 84, 85, 86, 87, 88, 89, 90, 91] (by decide +kernel) (by decide +kernel)) (goodIn_sub (fun _ h => List.mem_cons_of_mem _ (List.mem_append_right _ h)) (by decide +kernel))
set_option maxRecDepth 20000 in
theorem gX5_link_X5_requireThing : GoodIn wsX5_link (wsV RX5 72 RX5 yX5_requireThing wsX5_requireThing) := goodIn_app (goodIn_of _ (by decide +kernel)) ggX5_link_X5_requireThing
set_option maxRecDepth 20000 in
theorem ggX5_link_X0_measure : GoodIn wsX5_link wsX0_measure := goodIn_r _ [30, 31, 32, 33, 34, 35, 36, 23, 37, 25, 38, 39, 40, 41, 42, 43, 44, 45, 46, 47, 48, 49, 50, 29, 51, 52, 53, 54, 55, 56, 57, 58, 59, 60, 61, 62, 63, 64, 92, 79, 80, 81, 82, 83, 84, 85, 86, 87, 88, 89, 90, 91] (by decide +kernel) (by decide +kernel)
set_option maxRecDepth 20000 in
theorem gX5_link_X0_measure : GoodIn wsX5_link (wsV RX5 135 RX0 yX0_measure wsX0_measure) := goodIn_app (goodIn_of _ (by decide +kernel)) ggX5_link_X0_measure
set_option maxRecDepth 20000 in
theorem ggX5_link_X0_stepsTo : GoodIn wsX5_link wsX0_stepsTo := goodIn_r _ [51, 31, 34, 35, 36, 23, 37, 25, 38, 39, 92, 88, 89, 90, 91] (by decide +kernel) (by decide +kernel)
set_option maxRecDepth 20000 in
theorem gX5_link_X0_stepsTo : GoodIn wsX5_link (wsV RX5 139 RX0 yX0_stepsTo wsX0_stepsTo) := goodIn_app (goodIn_of _ (by decide +kernel)) ggX5_link_X0_stepsTo
set_option maxRecDepth 20000 in
theorem ggX5_link_X0_numberAt : GoodIn wsX5_link wsX0_numberAt := goodIn_r _ [69, 33, 48, 49, 50, 29, 51, 31, 34, 35, 36, 23, 37, 25, 38, 39, 70, 71, 72, 73, 44, 45, 46, 47, 52, 53, 54, 55, 56, 57, 58, 59, 60, 61, 62, 63, 64, 79, 80, 81, 82, 83, 84, 85, 86, 87, 92, 88, 89, 90, 91] (by decide +kernel) (by decide +kernel)
set_option maxRecDepth 20000 in
theorem gX5_link_X0_numberAt : GoodIn wsX5_link (wsV RX5 147 RX0 yX0_numberAt wsX0_numberAt) := goodIn_app (goodIn_of _ (by decide +kernel)) ggX5_link_X0_numberAt
theorem dX5_link_0 : decode cX5_link 0 = .ok (.iload_n 1, 1) := by decide +kernel
theorem dX5_link_1 : decode cX5_link 1 = .ok (.invokestatic 40, 3) := by decide +kernel
theorem dX5_link_4 : decode cX5_link 4 = .ok (.aload_n 0, 1) := by decide +kernel
theorem dX5_link_5 : decode cX5_link 5 = .ok (.iload_n 2, 1) := by decide +kernel
theorem dX5_link_6 : decode cX5_link 6 = .ok (.invokevirtual 72, 3) := by decide +kernel
theorem dX5_link_9 : decode cX5_link 9 = .ok (.aload_n 0, 1) := by decide +kernel
theorem dX5_link_10 : decode cX5_link 10 = .ok (.getfield 29, 3) := by decide +kernel
theorem dX5_link_13 : decode cX5_link 13 = .ok (.aload_n 0, 1) := by decide +kernel
theorem dX5_link_14 : decode cX5_link 14 = .ok (.getfield 10, 3) := by decide +kernel
theorem dX5_link_17 : decode cX5_link 17 = .ok (.iload_n 2, 1) := by decide +kernel
theorem dX5_link_18 : decode cX5_link 18 = .ok (.invokevirtual 135, 3) := by decide +kernel
theorem dX5_link_21 : decode cX5_link 21 = .ok (.iload_n 3, 1) := by decide +kernel
theorem dX5_link_22 : decode cX5_link 22 = .ok (.ifCond .lt 15, 3) := by decide +kernel
theorem dX5_link_25 : decode cX5_link 25 = .ok (.iload_n 3, 1) := by decide +kernel
theorem dX5_link_26 : decode cX5_link 26 = .ok (.aload_n 0, 1) := by decide +kernel
theorem dX5_link_27 : decode cX5_link 27 = .ok (.getfield 29, 3) := by decide +kernel
theorem dX5_link_30 : decode cX5_link 30 = .ok (.iload_n 1, 1) := by decide +kernel
theorem dX5_link_31 : decode cX5_link 31 = .ok (.invokevirtual 139, 3) := by decide +kernel
theorem dX5_link_34 : decode cX5_link 34 = .ok (.if_icmp .lt 13, 3) := by decide +kernel
theorem dX5_link_37 : decode cX5_link 37 = .ok (.new 142, 3) := by decide +kernel
theorem dX5_link_40 : decode cX5_link 40 = .ok (.dup, 1) := by decide +kernel
theorem dX5_link_41 : decode cX5_link 41 = .ok (.ldc 144, 2) := by decide +kernel
theorem dX5_link_43 : decode cX5_link 43 = .ok (.invokespecial 146, 3) := by decide +kernel
theorem dX5_link_46 : decode cX5_link 46 = .ok (.athrow, 1) := by decide +kernel
theorem dX5_link_47 : decode cX5_link 47 = .ok (.aload_n 0, 1) := by decide +kernel
theorem dX5_link_48 : decode cX5_link 48 = .ok (.getfield 29, 3) := by decide +kernel
theorem dX5_link_51 : decode cX5_link 51 = .ok (.aload_n 0, 1) := by decide +kernel
theorem dX5_link_52 : decode cX5_link 52 = .ok (.getfield 10, 3) := by decide +kernel
theorem dX5_link_55 : decode cX5_link 55 = .ok (.iload_n 1, 1) := by decide +kernel
theorem dX5_link_56 : decode cX5_link 56 = .ok (.iload_n 2, 1) := by decide +kernel
theorem dX5_link_57 : decode cX5_link 57 = .ok (.iload_n 3, 1) := by decide +kernel
theorem dX5_link_58 : decode cX5_link 58 = .ok (.invokevirtual 147, 3) := by decide +kernel
theorem dX5_link_61 : decode cX5_link 61 = .ok (.ireturn, 1) := by decide +kernel
set_option maxRecDepth 20000 in
theorem ggX5_why_X5_requirePerson : GoodIn wsX5_why wsX5_requirePerson := goodIn_ca (goodIn_r _ [7, 8, 9, 10, 11, 6, 12, 13, 14, 15] (by decide +kernel) (by decide +kernel)) (goodIn_sub (fun _ h => List.mem_cons_of_mem _ (List.mem_append_right _ h)) (by decide +kernel))
set_option maxRecDepth 20000 in
theorem gX5_why_X5_requirePerson : GoodIn wsX5_why (va_wsS RX5 40 yX5_requirePerson wsX5_requirePerson) := goodIn_app (goodIn_of _ (by decide +kernel)) ggX5_why_X5_requirePerson
set_option maxRecDepth 20000 in
theorem ggX5_why_X5_requireThing : GoodIn wsX5_why wsX5_requireThing := goodIn_ca (goodIn_r _ [19, 8, 9, 3, 20, 21, 22, 23, 24, 25, 26, 57, 58, 59, 60, 61, 62, 63, 64, 65, 66, 67, 68, 69, 70, 71, 72, 73, 74] (by decide +kernel) (by decide +kernel)) (goodIn_sub (fun _ h => List.mem_cons_of_mem _ (List.mem_append_right _ h)) (by decide +kernel))
set_option maxRecDepth 20000 in
theorem gX5_why_X5_requireThing : GoodIn wsX5_why (wsV RX5 72 RX5 yX5_requireThing wsX5_requireThing) := goodIn_app (goodIn_of _ (by decide +kernel)) ggX5_why_X5_requireThing
set_option maxRecDepth 20000 in
theorem ggX5_why_X2_reasonAgainst : GoodIn wsX5_why wsX2_reasonAgainst := goodIn_r _ [31, 32, 33, 34, 35, 36, 37, 38, 39, 40, 30, 41, 42, 43, 44, 45, 24, 46, 26, 47, 48, 49, 50, 51, 52, 53, 54, 55, 56, 62, 63, 64, 65, 66, 67, 68, 69, 70, 71, 72, 73, 74] (by decide +kernel) (by decide +kernel)
set_option maxRecDepth 20000 in
theorem gX5_why_X2_reasonAgainst : GoodIn wsX5_why (wsV RX5 156 RX2 yX2_reasonAgainst wsX2_reasonAgainst) := goodIn_app (goodIn_of _ (by decide +kernel)) ggX5_why_X2_reasonAgainst
theorem dX5_why_0 : decode cX5_why 0 = .ok (.iload_n 1, 1) := by decide +kernel
theorem dX5_why_1 : decode cX5_why 1 = .ok (.invokestatic 40, 3) := by decide +kernel
theorem dX5_why_4 : decode cX5_why 4 = .ok (.aload_n 0, 1) := by decide +kernel
theorem dX5_why_5 : decode cX5_why 5 = .ok (.iload_n 2, 1) := by decide +kernel
theorem dX5_why_6 : decode cX5_why 6 = .ok (.invokevirtual 72, 3) := by decide +kernel
theorem dX5_why_9 : decode cX5_why 9 = .ok (.iload_n 3, 1) := by decide +kernel
theorem dX5_why_10 : decode cX5_why 10 = .ok (.iconst 1, 1) := by decide +kernel
theorem dX5_why_11 : decode cX5_why 11 = .ok (.if_icmp .eq 23, 3) := by decide +kernel
theorem dX5_why_14 : decode cX5_why 14 = .ok (.iload_n 3, 1) := by decide +kernel
theorem dX5_why_15 : decode cX5_why 15 = .ok (.iconst 2, 1) := by decide +kernel
theorem dX5_why_16 : decode cX5_why 16 = .ok (.if_icmp .eq 18, 3) := by decide +kernel
theorem dX5_why_19 : decode cX5_why 19 = .ok (.iload_n 3, 1) := by decide +kernel
theorem dX5_why_20 : decode cX5_why 20 = .ok (.iconst 4, 1) := by decide +kernel
theorem dX5_why_21 : decode cX5_why 21 = .ok (.if_icmp .eq 13, 3) := by decide +kernel
theorem dX5_why_24 : decode cX5_why 24 = .ok (.new 151, 3) := by decide +kernel
theorem dX5_why_27 : decode cX5_why 27 = .ok (.dup, 1) := by decide +kernel
theorem dX5_why_28 : decode cX5_why 28 = .ok (.ldc 153, 2) := by decide +kernel
theorem dX5_why_30 : decode cX5_why 30 = .ok (.invokespecial 155, 3) := by decide +kernel
theorem dX5_why_33 : decode cX5_why 33 = .ok (.athrow, 1) := by decide +kernel
theorem dX5_why_34 : decode cX5_why 34 = .ok (.aload_n 0, 1) := by decide +kernel
theorem dX5_why_35 : decode cX5_why 35 = .ok (.getfield 10, 3) := by decide +kernel
theorem dX5_why_38 : decode cX5_why 38 = .ok (.iload_n 1, 1) := by decide +kernel
theorem dX5_why_39 : decode cX5_why 39 = .ok (.iload_n 2, 1) := by decide +kernel
theorem dX5_why_40 : decode cX5_why 40 = .ok (.iload_n 3, 1) := by decide +kernel
theorem dX5_why_41 : decode cX5_why 41 = .ok (.invokevirtual 156, 3) := by decide +kernel
theorem dX5_why_44 : decode cX5_why 44 = .ok (.ireturn, 1) := by decide +kernel
set_option maxRecDepth 20000 in
theorem ggX5_value_X5_requireRange : GoodIn wsX5_value wsX5_requireRange := goodIn_ca (goodIn_r _ [5, 6, 7, 8, 9, 4, 10] (by decide +kernel) (by decide +kernel)) (goodIn_sub (fun _ h => List.mem_cons_of_mem _ (List.mem_append_right _ h)) (by decide +kernel))
set_option maxRecDepth 20000 in
theorem gX5_value_X5_requireRange : GoodIn wsX5_value (va_wsS RX5 79 yX5_requireRange wsX5_requireRange) := goodIn_app (goodIn_of _ (by decide +kernel)) ggX5_value_X5_requireRange
set_option maxRecDepth 20000 in
theorem ggX5_value_X2_aboutHouse : GoodIn wsX5_value wsX2_aboutHouse := goodIn_r _ [15, 16, 17, 18, 19, 20, 21, 22, 23, 24, 25, 26, 27, 28, 29, 30, 31, 14, 32, 33, 34, 35, 36, 37, 38, 39, 40, 41, 42, 43, 44, 45, 46, 47, 48, 49, 50, 51, 52, 53, 54, 55, 56, 57, 58, 64, 65, 66, 67, 68, 69, 70, 71, 72, 73, 74, 75, 76] (by decide +kernel) (by decide +kernel)
set_option maxRecDepth 20000 in
theorem gX5_value_X2_aboutHouse : GoodIn wsX5_value (wsV RX5 159 RX2 yX2_aboutHouse wsX2_aboutHouse) := goodIn_app (goodIn_of _ (by decide +kernel)) ggX5_value_X2_aboutHouse
theorem dX5_value_0 : decode cX5_value 0 = .ok (.iload_n 1, 1) := by decide +kernel
theorem dX5_value_1 : decode cX5_value 1 = .ok (.iconst 0, 1) := by decide +kernel
theorem dX5_value_2 : decode cX5_value 2 = .ok (.bipush 8, 2) := by decide +kernel
theorem dX5_value_4 : decode cX5_value 4 = .ok (.invokestatic 79, 3) := by decide +kernel
theorem dX5_value_7 : decode cX5_value 7 = .ok (.aload_n 0, 1) := by decide +kernel
theorem dX5_value_8 : decode cX5_value 8 = .ok (.getfield 10, 3) := by decide +kernel
theorem dX5_value_11 : decode cX5_value 11 = .ok (.iload_n 1, 1) := by decide +kernel
theorem dX5_value_12 : decode cX5_value 12 = .ok (.invokevirtual 159, 3) := by decide +kernel
theorem dX5_value_15 : decode cX5_value 15 = .ok (.ireturn, 1) := by decide +kernel
set_option maxRecDepth 20000 in
theorem ggX5_lostBy_X5_requirePerson : GoodIn wsX5_lostBy wsX5_requirePerson := goodIn_ca (goodIn_r _ [4, 5, 6, 7, 8, 3, 9, 10, 11, 12] (by decide +kernel) (by decide +kernel)) (goodIn_sub (fun _ h => List.mem_cons_of_mem _ (List.mem_append_right _ h)) (by decide +kernel))
set_option maxRecDepth 20000 in
theorem gX5_lostBy_X5_requirePerson : GoodIn wsX5_lostBy (va_wsS RX5 40 yX5_requirePerson wsX5_requirePerson) := goodIn_app (goodIn_of _ (by decide +kernel)) ggX5_lostBy_X5_requirePerson
set_option maxRecDepth 20000 in
theorem ggX5_lostBy_X5_pairsLostBy : GoodIn wsX5_lostBy wsX5_pairsLostBy := goodIn_r _ [16, 17, 18, 19, 20, 21, 22, 23, 24, 25, 26, 27, 28, 29, 30, 31, 32, 33, 34, 35, 36, 37, 38, 39, 40, 41, 42, 43, 44, 45, 46, 47, 48, 49, 50, 51, 52, 53, 54, 55, 56, 57, 58, 59, 60, 61, 62, 63, 64, 65, 66, 67, 68, 69, 70, 71, 72, 73, 74, 75, 76, 77, 78, 79, 80, 81, 82, 83, 84, 85, 86, 87, 88, 89, 90, 91, 92, 93, 94, 95, 96, 97, 98, 99, 100, 101, 102, 103, 104, 105, 106, 107, 108, 109, 110, 111, 112, 113, 114, 115, 116, 117, 118, 119, 120, 121, 122, 123, 124, 125, 126, 127, 128, 129] (by decide +kernel) (by decide +kernel)
set_option maxRecDepth 20000 in
theorem gX5_lostBy_X5_pairsLostBy : GoodIn wsX5_lostBy (wsV RX5 174 RX5 yX5_pairsLostBy wsX5_pairsLostBy) := goodIn_app (goodIn_of _ (by decide +kernel)) ggX5_lostBy_X5_pairsLostBy
theorem dX5_lostBy_0 : decode cX5_lostBy 0 = .ok (.iload_n 1, 1) := by decide +kernel
theorem dX5_lostBy_1 : decode cX5_lostBy 1 = .ok (.invokestatic 40, 3) := by decide +kernel
theorem dX5_lostBy_4 : decode cX5_lostBy 4 = .ok (.aload_n 0, 1) := by decide +kernel
theorem dX5_lostBy_5 : decode cX5_lostBy 5 = .ok (.iload_n 1, 1) := by decide +kernel
theorem dX5_lostBy_6 : decode cX5_lostBy 6 = .ok (.invokevirtual 174, 3) := by decide +kernel
theorem dX5_lostBy_9 : decode cX5_lostBy 9 = .ok (.ireturn, 1) := by decide +kernel
set_option maxRecDepth 20000 in
theorem ggX5_seenIn_X5_requireRange : GoodIn wsX5_seenIn wsX5_requireRange := goodIn_ca (goodIn_r _ [6, 7, 8, 9, 10, 5, 11] (by decide +kernel) (by decide +kernel)) (goodIn_sub (fun _ h => List.mem_cons_of_mem _ (List.mem_append_right _ h)) (by decide +kernel))
set_option maxRecDepth 20000 in
theorem gX5_seenIn_X5_requireRange : GoodIn wsX5_seenIn (va_wsS RX5 79 yX5_requireRange wsX5_requireRange) := goodIn_app (goodIn_of _ (by decide +kernel)) ggX5_seenIn_X5_requireRange
set_option maxRecDepth 20000 in
theorem ggX5_seenIn_X2_takeOver : GoodIn wsX5_seenIn wsX2_takeOver := goodIn_r _ [16, 17, 18, 19, 20, 21, 22, 23, 24, 25, 26, 27, 28, 29, 30, 31, 32, 33, 34, 107, 108, 109, 110, 111, 112, 113, 114, 115, 116, 117, 118, 119] (by decide +kernel) (by decide +kernel)
set_option maxRecDepth 20000 in
theorem gX5_seenIn_X2_takeOver : GoodIn wsX5_seenIn (wsV RX5 177 RX2 yX2_takeOver wsX2_takeOver) := goodIn_app (goodIn_of _ (by decide +kernel)) ggX5_seenIn_X2_takeOver
set_option maxRecDepth 20000 in
theorem ggX5_seenIn_X2_letPass : GoodIn wsX5_seenIn wsX2_letPass := goodIn_r _ [38, 25, 39, 40, 41, 15, 42, 17, 43, 44, 45, 29, 46, 31, 33, 34, 47, 48, 49, 50, 51, 52, 53, 54, 19, 23, 55, 56, 57, 58, 59, 60, 61, 62, 63, 64, 65, 66, 20, 67, 68, 69, 70, 32, 71, 72, 73, 74, 75, 76, 77, 78, 79, 80, 81, 82, 18, 21, 83, 84, 85, 86, 107, 108, 109, 110, 111, 112, 113, 114, 115, 116, 117, 118, 119] (by decide +kernel) (by decide +kernel)
set_option maxRecDepth 20000 in
theorem gX5_seenIn_X2_letPass : GoodIn wsX5_seenIn (wsV RX5 120 RX2 yX2_letPass wsX2_letPass) := goodIn_app (goodIn_of _ (by decide +kernel)) ggX5_seenIn_X2_letPass
set_option maxRecDepth 20000 in
theorem ggX5_seenIn_X2_countPairs : GoodIn wsX5_seenIn wsX2_countPairs := goodIn_r _ [90, 18, 55, 56, 57, 29, 58, 31, 91, 92, 93, 15, 94, 21, 43, 44, 45, 46, 33, 34, 95, 96, 97, 98, 99, 100, 101, 107, 108, 109, 110, 111, 112, 113, 114, 115, 116, 117, 118, 119] (by decide +kernel) (by decide +kernel)
set_option maxRecDepth 20000 in
theorem gX5_seenIn_X2_countPairs : GoodIn wsX5_seenIn (wsV RX5 180 RX2 yX2_countPairs wsX2_countPairs) := goodIn_app (goodIn_of _ (by decide +kernel)) ggX5_seenIn_X2_countPairs
theorem dX5_seenIn_0 : decode cX5_seenIn 0 = .ok (.iload_n 1, 1) := by decide +kernel
theorem dX5_seenIn_1 : decode cX5_seenIn 1 = .ok (.iconst 0, 1) := by decide +kernel
theorem dX5_seenIn_2 : decode cX5_seenIn 2 = .ok (.bipush 100, 2) := by decide +kernel
theorem dX5_seenIn_4 : decode cX5_seenIn 4 = .ok (.invokestatic 79, 3) := by decide +kernel
theorem dX5_seenIn_7 : decode cX5_seenIn 7 = .ok (.aload_n 0, 1) := by decide +kernel
theorem dX5_seenIn_8 : decode cX5_seenIn 8 = .ok (.getfield 16, 3) := by decide +kernel
theorem dX5_seenIn_11 : decode cX5_seenIn 11 = .ok (.aload_n 0, 1) := by decide +kernel
theorem dX5_seenIn_12 : decode cX5_seenIn 12 = .ok (.getfield 10, 3) := by decide +kernel
theorem dX5_seenIn_15 : decode cX5_seenIn 15 = .ok (.invokevirtual 177, 3) := by decide +kernel
theorem dX5_seenIn_18 : decode cX5_seenIn 18 = .ok (.aload_n 0, 1) := by decide +kernel
theorem dX5_seenIn_19 : decode cX5_seenIn 19 = .ok (.getfield 16, 3) := by decide +kernel
theorem dX5_seenIn_22 : decode cX5_seenIn 22 = .ok (.iload_n 1, 1) := by decide +kernel
theorem dX5_seenIn_23 : decode cX5_seenIn 23 = .ok (.invokevirtual 120, 3) := by decide +kernel
theorem dX5_seenIn_26 : decode cX5_seenIn 26 = .ok (.pop, 1) := by decide +kernel
theorem dX5_seenIn_27 : decode cX5_seenIn 27 = .ok (.aload_n 0, 1) := by decide +kernel
theorem dX5_seenIn_28 : decode cX5_seenIn 28 = .ok (.getfield 16, 3) := by decide +kernel
theorem dX5_seenIn_31 : decode cX5_seenIn 31 = .ok (.invokevirtual 180, 3) := by decide +kernel
theorem dX5_seenIn_34 : decode cX5_seenIn 34 = .ok (.ireturn, 1) := by decide +kernel
set_option maxRecDepth 20000 in
theorem ggX5_gainBy_X2_faultOfGrant : GoodIn wsX5_gainBy wsX2_faultOfGrant := goodIn_r _ [7, 8, 9, 10, 11, 12, 13, 14, 15, 16, 17, 18, 19, 20, 21, 22, 23, 24, 25, 6, 26, 27, 28, 29, 30, 31, 32, 33, 34, 35, 36, 37, 38, 103, 104, 105, 106, 107, 108, 109, 110, 111, 112, 113, 114, 115] (by decide +kernel) (by decide +kernel)
set_option maxRecDepth 20000 in
theorem gX5_gainBy_X2_faultOfGrant : GoodIn wsX5_gainBy (wsV RX5 92 RX2 yX2_faultOfGrant wsX2_faultOfGrant) := goodIn_app (goodIn_of _ (by decide +kernel)) ggX5_gainBy_X2_faultOfGrant
set_option maxRecDepth 20000 in
theorem ggX5_gainBy_X5_requireFit : GoodIn wsX5_gainBy wsX5_requireFit := goodIn_ca (goodIn_ca (goodIn_r _ [41, 42, 43, 44, 45] (by decide +kernel) (by decide +kernel)) (goodIn_sub (fun _ h => List.mem_cons_of_mem _ (List.mem_append_left _ (List.mem_append_right _ h))) (by decide +kernel))) (goodIn_sub (fun _ h => List.mem_cons_of_mem _ (List.mem_append_right _ h)) (by decide +kernel))
set_option maxRecDepth 20000 in
theorem gX5_gainBy_X5_requireFit : GoodIn wsX5_gainBy (va_wsS RX5 96 yX5_requireFit wsX5_requireFit) := goodIn_app (goodIn_of _ (by decide +kernel)) ggX5_gainBy_X5_requireFit
set_option maxRecDepth 20000 in
theorem ggX5_gainBy_X2_takeOver : GoodIn wsX5_gainBy wsX2_takeOver := goodIn_r _ [49, 9, 8, 10, 50, 27, 51, 52, 53, 54, 55, 56, 57, 20, 58, 22, 38, 32, 33, 103, 104, 105, 106, 107, 108, 109, 110, 111, 112, 113, 114, 115] (by decide +kernel) (by decide +kernel)
set_option maxRecDepth 20000 in
theorem gX5_gainBy_X2_takeOver : GoodIn wsX5_gainBy (wsV RX5 177 RX2 yX2_takeOver wsX2_takeOver) := goodIn_app (goodIn_of _ (by decide +kernel)) ggX5_gainBy_X2_takeOver
set_option maxRecDepth 20000 in
theorem ggX5_gainBy_X2_lend : GoodIn wsX5_gainBy wsX2_lend := goodIn_r _ [62, 51, 10, 63, 64, 65, 20, 66, 22, 38, 67, 68, 69, 70, 32, 33, 71, 72, 73, 6, 74, 8, 27, 75, 76, 77, 78, 28, 29, 30, 31, 79, 80, 81, 82, 103, 104, 105, 106, 107, 108, 109, 110, 111, 112, 113, 114, 115] (by decide +kernel) (by decide +kernel)
set_option maxRecDepth 20000 in
theorem gX5_gainBy_X2_lend : GoodIn wsX5_gainBy (wsV RX5 101 RX2 yX2_lend wsX2_lend) := goodIn_app (goodIn_of _ (by decide +kernel)) ggX5_gainBy_X2_lend
set_option maxRecDepth 20000 in
theorem ggX5_gainBy_X2_countPairs : GoodIn wsX5_gainBy wsX2_countPairs := goodIn_r _ [86, 8, 75, 76, 77, 20, 78, 22, 87, 88, 89, 6, 90, 27, 28, 29, 30, 31, 32, 33, 91, 92, 93, 94, 95, 96, 97, 103, 104, 105, 106, 107, 108, 109, 110, 111, 112, 113, 114, 115] (by decide +kernel) (by decide +kernel)
set_option maxRecDepth 20000 in
theorem gX5_gainBy_X2_countPairs : GoodIn wsX5_gainBy (wsV RX5 180 RX2 yX2_countPairs wsX2_countPairs) := goodIn_app (goodIn_of _ (by decide +kernel)) ggX5_gainBy_X2_countPairs
theorem dX5_gainBy_0 : decode cX5_gainBy 0 = .ok (.aload_n 0, 1) := by decide +kernel
theorem dX5_gainBy_1 : decode cX5_gainBy 1 = .ok (.getfield 10, 3) := by decide +kernel
theorem dX5_gainBy_4 : decode cX5_gainBy 4 = .ok (.iload_n 1, 1) := by decide +kernel
theorem dX5_gainBy_5 : decode cX5_gainBy 5 = .ok (.iload_n 2, 1) := by decide +kernel
theorem dX5_gainBy_6 : decode cX5_gainBy 6 = .ok (.iload_n 3, 1) := by decide +kernel
theorem dX5_gainBy_7 : decode cX5_gainBy 7 = .ok (.iload 4, 2) := by decide +kernel
theorem dX5_gainBy_9 : decode cX5_gainBy 9 = .ok (.iload 5, 2) := by decide +kernel
theorem dX5_gainBy_11 : decode cX5_gainBy 11 = .ok (.invokevirtual 92, 3) := by decide +kernel
theorem dX5_gainBy_14 : decode cX5_gainBy 14 = .ok (.istore 6, 2) := by decide +kernel
theorem dX5_gainBy_16 : decode cX5_gainBy 16 = .ok (.iload 6, 2) := by decide +kernel
theorem dX5_gainBy_18 : decode cX5_gainBy 18 = .ok (.invokestatic 96, 3) := by decide +kernel
theorem dX5_gainBy_21 : decode cX5_gainBy 21 = .ok (.iload 6, 2) := by decide +kernel
theorem dX5_gainBy_23 : decode cX5_gainBy 23 = .ok (.iconst 3, 1) := by decide +kernel
theorem dX5_gainBy_24 : decode cX5_gainBy 24 = .ok (.if_icmp .ne 5, 3) := by decide +kernel
theorem dX5_gainBy_27 : decode cX5_gainBy 27 = .ok (.iconst (-1), 1) := by decide +kernel
theorem dX5_gainBy_28 : decode cX5_gainBy 28 = .ok (.ireturn, 1) := by decide +kernel
theorem dX5_gainBy_29 : decode cX5_gainBy 29 = .ok (.aload_n 0, 1) := by decide +kernel
theorem dX5_gainBy_30 : decode cX5_gainBy 30 = .ok (.getfield 16, 3) := by decide +kernel
theorem dX5_gainBy_33 : decode cX5_gainBy 33 = .ok (.aload_n 0, 1) := by decide +kernel
theorem dX5_gainBy_34 : decode cX5_gainBy 34 = .ok (.getfield 10, 3) := by decide +kernel
theorem dX5_gainBy_37 : decode cX5_gainBy 37 = .ok (.invokevirtual 177, 3) := by decide +kernel
theorem dX5_gainBy_40 : decode cX5_gainBy 40 = .ok (.aload_n 0, 1) := by decide +kernel
theorem dX5_gainBy_41 : decode cX5_gainBy 41 = .ok (.getfield 16, 3) := by decide +kernel
theorem dX5_gainBy_44 : decode cX5_gainBy 44 = .ok (.iload_n 1, 1) := by decide +kernel
theorem dX5_gainBy_45 : decode cX5_gainBy 45 = .ok (.iload_n 2, 1) := by decide +kernel
theorem dX5_gainBy_46 : decode cX5_gainBy 46 = .ok (.iload_n 3, 1) := by decide +kernel
theorem dX5_gainBy_47 : decode cX5_gainBy 47 = .ok (.iload 4, 2) := by decide +kernel
theorem dX5_gainBy_49 : decode cX5_gainBy 49 = .ok (.iload 5, 2) := by decide +kernel
theorem dX5_gainBy_51 : decode cX5_gainBy 51 = .ok (.invokevirtual 101, 3) := by decide +kernel
theorem dX5_gainBy_54 : decode cX5_gainBy 54 = .ok (.pop, 1) := by decide +kernel
theorem dX5_gainBy_55 : decode cX5_gainBy 55 = .ok (.aload_n 0, 1) := by decide +kernel
theorem dX5_gainBy_56 : decode cX5_gainBy 56 = .ok (.getfield 16, 3) := by decide +kernel
theorem dX5_gainBy_59 : decode cX5_gainBy 59 = .ok (.invokevirtual 180, 3) := by decide +kernel
theorem dX5_gainBy_62 : decode cX5_gainBy 62 = .ok (.aload_n 0, 1) := by decide +kernel
theorem dX5_gainBy_63 : decode cX5_gainBy 63 = .ok (.getfield 10, 3) := by decide +kernel
theorem dX5_gainBy_66 : decode cX5_gainBy 66 = .ok (.invokevirtual 180, 3) := by decide +kernel
theorem dX5_gainBy_69 : decode cX5_gainBy 69 = .ok (.isub, 1) := by decide +kernel
theorem dX5_gainBy_70 : decode cX5_gainBy 70 = .ok (.ireturn, 1) := by decide +kernel
set_option maxRecDepth 20000 in
theorem ggX5_patience_X5_requirePerson : GoodIn wsX5_patience wsX5_requirePerson := goodIn_ca (goodIn_r _ [6, 7, 8, 9, 10, 5, 11, 12, 13, 14] (by decide +kernel) (by decide +kernel)) (goodIn_sub (fun _ h => List.mem_cons_of_mem _ (List.mem_append_right _ h)) (by decide +kernel))
set_option maxRecDepth 20000 in
theorem gX5_patience_X5_requirePerson : GoodIn wsX5_patience (va_wsS RX5 40 yX5_requirePerson wsX5_requirePerson) := goodIn_app (goodIn_of _ (by decide +kernel)) ggX5_patience_X5_requirePerson
set_option maxRecDepth 20000 in
theorem ggX5_patience_X3_at : GoodIn wsX5_patience wsX3_at := goodIn_r _ [19, 20, 21, 22, 52, 53, 54, 55] (by decide +kernel) (by decide +kernel)
set_option maxRecDepth 20000 in
theorem gX5_patience_X3_at : GoodIn wsX5_patience (wsV RX5 86 RX3 yX3_at wsX3_at) := goodIn_app (goodIn_of _ (by decide +kernel)) ggX5_patience_X3_at
set_option maxRecDepth 20000 in
theorem ggX5_patience_X2_greatestThreshold : GoodIn wsX5_patience wsX2_greatestThreshold := goodIn_r _ [27, 28, 29, 30, 31, 32, 33, 34, 35, 18, 36, 20, 37, 16, 17, 19, 21, 22, 43, 44, 45, 46, 47, 48, 49, 50, 51, 52, 53, 54, 55] (by decide +kernel) (by decide +kernel)
set_option maxRecDepth 20000 in
theorem gX5_patience_X2_greatestThreshold : GoodIn wsX5_patience (wsV RX5 183 RX2 yX2_greatestThreshold wsX2_greatestThreshold) := goodIn_app (goodIn_of _ (by decide +kernel)) ggX5_patience_X2_greatestThreshold
theorem dX5_patience_0 : decode cX5_patience 0 = .ok (.iload_n 1, 1) := by decide +kernel
theorem dX5_patience_1 : decode cX5_patience 1 = .ok (.invokestatic 40, 3) := by decide +kernel
theorem dX5_patience_4 : decode cX5_patience 4 = .ok (.aload_n 0, 1) := by decide +kernel
theorem dX5_patience_5 : decode cX5_patience 5 = .ok (.getfield 10, 3) := by decide +kernel
theorem dX5_patience_8 : decode cX5_patience 8 = .ok (.getfield 83, 3) := by decide +kernel
theorem dX5_patience_11 : decode cX5_patience 11 = .ok (.iload_n 1, 1) := by decide +kernel
theorem dX5_patience_12 : decode cX5_patience 12 = .ok (.iconst 0, 1) := by decide +kernel
theorem dX5_patience_13 : decode cX5_patience 13 = .ok (.invokevirtual 86, 3) := by decide +kernel
theorem dX5_patience_16 : decode cX5_patience 16 = .ok (.aload_n 0, 1) := by decide +kernel
theorem dX5_patience_17 : decode cX5_patience 17 = .ok (.getfield 10, 3) := by decide +kernel
theorem dX5_patience_20 : decode cX5_patience 20 = .ok (.iload_n 1, 1) := by decide +kernel
theorem dX5_patience_21 : decode cX5_patience 21 = .ok (.invokevirtual 183, 3) := by decide +kernel
theorem dX5_patience_24 : decode cX5_patience 24 = .ok (.isub, 1) := by decide +kernel
theorem dX5_patience_25 : decode cX5_patience 25 = .ok (.ireturn, 1) := by decide +kernel
set_option maxRecDepth 20000 in
theorem ggX5_meanChain_X3_rows : GoodIn wsX5_meanChain wsX3_rows := goodIn_r _ [8, 9, 61, 62, 63, 64] (by decide +kernel) (by decide +kernel)
set_option maxRecDepth 20000 in
theorem gX5_meanChain_X3_rows : GoodIn wsX5_meanChain (wsV RX5 165 RX3 yX3_rows wsX3_rows) := goodIn_app (goodIn_of _ (by decide +kernel)) ggX5_meanChain_X3_rows
set_option maxRecDepth 20000 in
theorem ggX5_meanChain_X0_measure : GoodIn wsX5_meanChain wsX0_measure := goodIn_r _ [14, 15, 16, 17, 18, 19, 20, 7, 21, 9, 22, 23, 24, 25, 26, 27, 28, 5, 6, 8, 29, 30, 31, 13, 32, 33, 34, 35, 36, 37, 38, 39, 40, 41, 42, 43, 44, 45, 65, 52, 53, 54, 55, 56, 57, 58, 59, 60, 61, 62, 63, 64] (by decide +kernel) (by decide +kernel)
set_option maxRecDepth 20000 in
theorem gX5_meanChain_X0_measure : GoodIn wsX5_meanChain (wsV RX5 135 RX0 yX0_measure wsX0_measure) := goodIn_app (goodIn_of _ (by decide +kernel)) ggX5_meanChain_X0_measure
set_option maxRecDepth 20000 in
theorem ggX5_meanChain_X0_stepsTo : GoodIn wsX5_meanChain wsX0_stepsTo := goodIn_r _ [32, 15, 18, 19, 20, 7, 21, 9, 22, 23, 65, 61, 62, 63, 64] (by decide +kernel) (by decide +kernel)
set_option maxRecDepth 20000 in
theorem gX5_meanChain_X0_stepsTo : GoodIn wsX5_meanChain (wsV RX5 139 RX0 yX0_stepsTo wsX0_stepsTo) := goodIn_app (goodIn_of _ (by decide +kernel)) ggX5_meanChain_X0_stepsTo
theorem dX5_meanChain_0 : decode cX5_meanChain 0 = .ok (.iconst 0, 1) := by decide +kernel
theorem dX5_meanChain_1 : decode cX5_meanChain 1 = .ok (.istore_n 1, 1) := by decide +kernel
theorem dX5_meanChain_2 : decode cX5_meanChain 2 = .ok (.iconst 0, 1) := by decide +kernel
theorem dX5_meanChain_3 : decode cX5_meanChain 3 = .ok (.istore_n 2, 1) := by decide +kernel
theorem dX5_meanChain_4 : decode cX5_meanChain 4 = .ok (.iconst 0, 1) := by decide +kernel
theorem dX5_meanChain_5 : decode cX5_meanChain 5 = .ok (.istore_n 3, 1) := by decide +kernel
theorem dX5_meanChain_6 : decode cX5_meanChain 6 = .ok (.iload_n 3, 1) := by decide +kernel
theorem dX5_meanChain_7 : decode cX5_meanChain 7 = .ok (.aload_n 0, 1) := by decide +kernel
theorem dX5_meanChain_8 : decode cX5_meanChain 8 = .ok (.getfield 10, 3) := by decide +kernel
theorem dX5_meanChain_11 : decode cX5_meanChain 11 = .ok (.getfield 47, 3) := by decide +kernel
theorem dX5_meanChain_14 : decode cX5_meanChain 14 = .ok (.invokevirtual 165, 3) := by decide +kernel
theorem dX5_meanChain_17 : decode cX5_meanChain 17 = .ok (.if_icmp .ge 62, 3) := by decide +kernel
theorem dX5_meanChain_20 : decode cX5_meanChain 20 = .ok (.aload_n 0, 1) := by decide +kernel
theorem dX5_meanChain_21 : decode cX5_meanChain 21 = .ok (.getfield 29, 3) := by decide +kernel
theorem dX5_meanChain_24 : decode cX5_meanChain 24 = .ok (.aload_n 0, 1) := by decide +kernel
theorem dX5_meanChain_25 : decode cX5_meanChain 25 = .ok (.getfield 10, 3) := by decide +kernel
theorem dX5_meanChain_28 : decode cX5_meanChain 28 = .ok (.iload_n 3, 1) := by decide +kernel
theorem dX5_meanChain_29 : decode cX5_meanChain 29 = .ok (.invokevirtual 135, 3) := by decide +kernel
theorem dX5_meanChain_32 : decode cX5_meanChain 32 = .ok (.iconst 0, 1) := by decide +kernel
theorem dX5_meanChain_33 : decode cX5_meanChain 33 = .ok (.istore 4, 2) := by decide +kernel
theorem dX5_meanChain_35 : decode cX5_meanChain 35 = .ok (.iload 4, 2) := by decide +kernel
theorem dX5_meanChain_37 : decode cX5_meanChain 37 = .ok (.bipush 10, 2) := by decide +kernel
theorem dX5_meanChain_39 : decode cX5_meanChain 39 = .ok (.if_icmp .ge 34, 3) := by decide +kernel
theorem dX5_meanChain_42 : decode cX5_meanChain 42 = .ok (.aload_n 0, 1) := by decide +kernel
theorem dX5_meanChain_43 : decode cX5_meanChain 43 = .ok (.getfield 29, 3) := by decide +kernel
theorem dX5_meanChain_46 : decode cX5_meanChain 46 = .ok (.iload 4, 2) := by decide +kernel
theorem dX5_meanChain_48 : decode cX5_meanChain 48 = .ok (.invokevirtual 139, 3) := by decide +kernel
theorem dX5_meanChain_51 : decode cX5_meanChain 51 = .ok (.istore 5, 2) := by decide +kernel
theorem dX5_meanChain_53 : decode cX5_meanChain 53 = .ok (.iload 5, 2) := by decide +kernel
theorem dX5_meanChain_55 : decode cX5_meanChain 55 = .ok (.iconst (-1), 1) := by decide +kernel
theorem dX5_meanChain_56 : decode cX5_meanChain 56 = .ok (.if_icmp .eq 11, 3) := by decide +kernel
theorem dX5_meanChain_59 : decode cX5_meanChain 59 = .ok (.iinc 1 1, 3) := by decide +kernel
theorem dX5_meanChain_62 : decode cX5_meanChain 62 = .ok (.iload_n 2, 1) := by decide +kernel
theorem dX5_meanChain_63 : decode cX5_meanChain 63 = .ok (.iload 5, 2) := by decide +kernel
theorem dX5_meanChain_65 : decode cX5_meanChain 65 = .ok (.iadd, 1) := by decide +kernel
theorem dX5_meanChain_66 : decode cX5_meanChain 66 = .ok (.istore_n 2, 1) := by decide +kernel
theorem dX5_meanChain_67 : decode cX5_meanChain 67 = .ok (.iinc 4 1, 3) := by decide +kernel
theorem dX5_meanChain_70 : decode cX5_meanChain 70 = .ok (.goto (-35), 3) := by decide +kernel
theorem dX5_meanChain_73 : decode cX5_meanChain 73 = .ok (.iinc 3 1, 3) := by decide +kernel
theorem dX5_meanChain_76 : decode cX5_meanChain 76 = .ok (.goto (-70), 3) := by decide +kernel
theorem dX5_meanChain_79 : decode cX5_meanChain 79 = .ok (.iload_n 1, 1) := by decide +kernel
theorem dX5_meanChain_80 : decode cX5_meanChain 80 = .ok (.ifCond .ne 7, 3) := by decide +kernel
theorem dX5_meanChain_83 : decode cX5_meanChain 83 = .ok (.dconst 0, 1) := by decide +kernel
theorem dX5_meanChain_84 : decode cX5_meanChain 84 = .ok (.goto 8, 3) := by decide +kernel
theorem dX5_meanChain_87 : decode cX5_meanChain 87 = .ok (.iload_n 2, 1) := by decide +kernel
theorem dX5_meanChain_88 : decode cX5_meanChain 88 = .ok (.i2d, 1) := by decide +kernel
theorem dX5_meanChain_89 : decode cX5_meanChain 89 = .ok (.iload_n 1, 1) := by decide +kernel
theorem dX5_meanChain_90 : decode cX5_meanChain 90 = .ok (.i2d, 1) := by decide +kernel
theorem dX5_meanChain_91 : decode cX5_meanChain 91 = .ok (.ddiv, 1) := by decide +kernel
theorem dX5_meanChain_92 : decode cX5_meanChain 92 = .ok (.dreturn, 1) := by decide +kernel
set_option maxRecDepth 20000 in
theorem ggX5_pairsLostBy_X2_takeOver : GoodIn wsX5_pairsLostBy wsX2_takeOver := goodIn_r _ [7, 8, 9, 10, 11, 12, 13, 14, 15, 16, 17, 18, 19, 20, 21, 22, 23, 24, 25, 101, 102, 103, 104, 105, 106, 107, 108, 109, 110, 111, 112, 113] (by decide +kernel) (by decide +kernel)
set_option maxRecDepth 20000 in
theorem gX5_pairsLostBy_X2_takeOver : GoodIn wsX5_pairsLostBy (wsV RX5 177 RX2 yX2_takeOver wsX2_takeOver) := goodIn_app (goodIn_of _ (by decide +kernel)) ggX5_pairsLostBy_X2_takeOver
set_option maxRecDepth 20000 in
theorem ggX5_pairsLostBy_X2_changeMood : GoodIn wsX5_pairsLostBy wsX2_changeMood := goodIn_r _ [29, 8, 30, 31, 32, 33, 34, 35, 36, 37, 38, 39, 20, 40, 22, 24, 25, 41, 42, 43, 44, 45, 46, 47, 6, 48, 10, 14, 49, 50, 51, 52, 53, 54, 55, 56, 57, 58, 59, 60, 11, 16, 61, 62, 63, 64, 23, 65, 66, 67, 68, 69, 70, 71, 72, 73, 74, 75, 76, 9, 12, 77, 78, 79, 80, 101, 102, 103, 104, 105, 106, 107, 108, 109, 110, 111, 112, 113] (by decide +kernel) (by decide +kernel)
set_option maxRecDepth 20000 in
theorem gX5_pairsLostBy_X2_changeMood : GoodIn wsX5_pairsLostBy (wsV RX5 111 RX2 yX2_changeMood wsX2_changeMood) := goodIn_app (goodIn_of _ (by decide +kernel)) ggX5_pairsLostBy_X2_changeMood
set_option maxRecDepth 20000 in
theorem ggX5_pairsLostBy_X2_countPairs : GoodIn wsX5_pairsLostBy wsX2_countPairs := goodIn_r _ [84, 9, 49, 50, 51, 20, 52, 22, 85, 86, 87, 6, 88, 12, 37, 38, 39, 40, 24, 25, 89, 90, 91, 92, 93, 94, 95, 101, 102, 103, 104, 105, 106, 107, 108, 109, 110, 111, 112, 113] (by decide +kernel) (by decide +kernel)
set_option maxRecDepth 20000 in
theorem gX5_pairsLostBy_X2_countPairs : GoodIn wsX5_pairsLostBy (wsV RX5 180 RX2 yX2_countPairs wsX2_countPairs) := goodIn_app (goodIn_of _ (by decide +kernel)) ggX5_pairsLostBy_X2_countPairs
theorem dX5_pairsLostBy_0 : decode cX5_pairsLostBy 0 = .ok (.aload_n 0, 1) := by decide +kernel
theorem dX5_pairsLostBy_1 : decode cX5_pairsLostBy 1 = .ok (.getfield 16, 3) := by decide +kernel
theorem dX5_pairsLostBy_4 : decode cX5_pairsLostBy 4 = .ok (.aload_n 0, 1) := by decide +kernel
theorem dX5_pairsLostBy_5 : decode cX5_pairsLostBy 5 = .ok (.getfield 10, 3) := by decide +kernel
theorem dX5_pairsLostBy_8 : decode cX5_pairsLostBy 8 = .ok (.invokevirtual 177, 3) := by decide +kernel
theorem dX5_pairsLostBy_11 : decode cX5_pairsLostBy 11 = .ok (.aload_n 0, 1) := by decide +kernel
theorem dX5_pairsLostBy_12 : decode cX5_pairsLostBy 12 = .ok (.getfield 16, 3) := by decide +kernel
theorem dX5_pairsLostBy_15 : decode cX5_pairsLostBy 15 = .ok (.iload_n 1, 1) := by decide +kernel
theorem dX5_pairsLostBy_16 : decode cX5_pairsLostBy 16 = .ok (.bipush (-100), 2) := by decide +kernel
theorem dX5_pairsLostBy_18 : decode cX5_pairsLostBy 18 = .ok (.invokevirtual 111, 3) := by decide +kernel
theorem dX5_pairsLostBy_21 : decode cX5_pairsLostBy 21 = .ok (.pop, 1) := by decide +kernel
theorem dX5_pairsLostBy_22 : decode cX5_pairsLostBy 22 = .ok (.aload_n 0, 1) := by decide +kernel
theorem dX5_pairsLostBy_23 : decode cX5_pairsLostBy 23 = .ok (.getfield 10, 3) := by decide +kernel
theorem dX5_pairsLostBy_26 : decode cX5_pairsLostBy 26 = .ok (.invokevirtual 180, 3) := by decide +kernel
theorem dX5_pairsLostBy_29 : decode cX5_pairsLostBy 29 = .ok (.aload_n 0, 1) := by decide +kernel
theorem dX5_pairsLostBy_30 : decode cX5_pairsLostBy 30 = .ok (.getfield 16, 3) := by decide +kernel
theorem dX5_pairsLostBy_33 : decode cX5_pairsLostBy 33 = .ok (.invokevirtual 180, 3) := by decide +kernel
theorem dX5_pairsLostBy_36 : decode cX5_pairsLostBy 36 = .ok (.isub, 1) := by decide +kernel
theorem dX5_pairsLostBy_37 : decode cX5_pairsLostBy 37 = .ok (.ireturn, 1) := by decide +kernel
theorem dX5_requireFit_0 : decode cX5_requireFit 0 = .ok (.iload_n 0, 1) := by decide +kernel
theorem dX5_requireFit_1 : decode cX5_requireFit 1 = .ok (.iconst 1, 1) := by decide +kernel
theorem dX5_requireFit_2 : decode cX5_requireFit 2 = .ok (.if_icmp .ne 13, 3) := by decide +kernel
theorem dX5_requireFit_5 : decode cX5_requireFit 5 = .ok (.new 142, 3) := by decide +kernel
theorem dX5_requireFit_8 : decode cX5_requireFit 8 = .ok (.dup, 1) := by decide +kernel
theorem dX5_requireFit_9 : decode cX5_requireFit 9 = .ok (.ldc 248, 2) := by decide +kernel
theorem dX5_requireFit_11 : decode cX5_requireFit 11 = .ok (.invokespecial 146, 3) := by decide +kernel
theorem dX5_requireFit_14 : decode cX5_requireFit 14 = .ok (.athrow, 1) := by decide +kernel
theorem dX5_requireFit_15 : decode cX5_requireFit 15 = .ok (.iload_n 0, 1) := by decide +kernel
theorem dX5_requireFit_16 : decode cX5_requireFit 16 = .ok (.iconst 2, 1) := by decide +kernel
theorem dX5_requireFit_17 : decode cX5_requireFit 17 = .ok (.if_icmp .ne 13, 3) := by decide +kernel
theorem dX5_requireFit_20 : decode cX5_requireFit 20 = .ok (.new 151, 3) := by decide +kernel
theorem dX5_requireFit_23 : decode cX5_requireFit 23 = .ok (.dup, 1) := by decide +kernel
theorem dX5_requireFit_24 : decode cX5_requireFit 24 = .ok (.ldc 250, 2) := by decide +kernel
theorem dX5_requireFit_26 : decode cX5_requireFit 26 = .ok (.invokespecial 155, 3) := by decide +kernel
theorem dX5_requireFit_29 : decode cX5_requireFit 29 = .ok (.athrow, 1) := by decide +kernel
theorem dX5_requireFit_30 : decode cX5_requireFit 30 = .ok (.return_, 1) := by decide +kernel
set_option maxRecDepth 20000 in
theorem ggX5_requireGrant_X2_placeOf : GoodIn wsX5_requireGrant wsX2_placeOf := goodIn_r _ [8, 9, 10, 11, 12, 13, 14, 15, 16, 17, 18, 19, 20, 21, 27, 28, 29, 30, 31, 32, 33, 34, 35, 36, 37, 38, 39] (by decide +kernel) (by decide +kernel)
set_option maxRecDepth 20000 in
theorem gX5_requireGrant_X2_placeOf : GoodIn wsX5_requireGrant (wsV RX5 245 RX2 yX2_placeOf wsX2_placeOf) := goodIn_app (goodIn_of _ (by decide +kernel)) ggX5_requireGrant_X2_placeOf
theorem dX5_requireGrant_0 : decode cX5_requireGrant 0 = .ok (.aload_n 0, 1) := by decide +kernel
theorem dX5_requireGrant_1 : decode cX5_requireGrant 1 = .ok (.getfield 10, 3) := by decide +kernel
theorem dX5_requireGrant_4 : decode cX5_requireGrant 4 = .ok (.iload_n 1, 1) := by decide +kernel
theorem dX5_requireGrant_5 : decode cX5_requireGrant 5 = .ok (.invokevirtual 245, 3) := by decide +kernel
theorem dX5_requireGrant_8 : decode cX5_requireGrant 8 = .ok (.istore_n 2, 1) := by decide +kernel
theorem dX5_requireGrant_9 : decode cX5_requireGrant 9 = .ok (.iload_n 2, 1) := by decide +kernel
theorem dX5_requireGrant_10 : decode cX5_requireGrant 10 = .ok (.iconst (-1), 1) := by decide +kernel
theorem dX5_requireGrant_11 : decode cX5_requireGrant 11 = .ok (.if_icmp .ne 13, 3) := by decide +kernel
theorem dX5_requireGrant_14 : decode cX5_requireGrant 14 = .ok (.new 252, 3) := by decide +kernel
theorem dX5_requireGrant_17 : decode cX5_requireGrant 17 = .ok (.dup, 1) := by decide +kernel
theorem dX5_requireGrant_18 : decode cX5_requireGrant 18 = .ok (.ldc 254, 2) := by decide +kernel
theorem dX5_requireGrant_20 : decode cX5_requireGrant 20 = .ok (.invokespecial 256, 3) := by decide +kernel
theorem dX5_requireGrant_23 : decode cX5_requireGrant 23 = .ok (.athrow, 1) := by decide +kernel
theorem dX5_requireGrant_24 : decode cX5_requireGrant 24 = .ok (.iload_n 2, 1) := by decide +kernel
theorem dX5_requireGrant_25 : decode cX5_requireGrant 25 = .ok (.ireturn, 1) := by decide +kernel
set_option maxRecDepth 20000 in
theorem ggX5_requireThing_X3_has : GoodIn wsX5_requireThing wsX3_has := goodIn_r _ [9, 10, 25, 26, 27, 28] (by decide +kernel) (by decide +kernel)
set_option maxRecDepth 20000 in
theorem gX5_requireThing_X3_has : GoodIn wsX5_requireThing (wsV RX5 257 RX3 yX3_has wsX3_has) := goodIn_app (goodIn_of _ (by decide +kernel)) ggX5_requireThing_X3_has
theorem dX5_requireThing_0 : decode cX5_requireThing 0 = .ok (.aload_n 0, 1) := by decide +kernel
theorem dX5_requireThing_1 : decode cX5_requireThing 1 = .ok (.getfield 10, 3) := by decide +kernel
theorem dX5_requireThing_4 : decode cX5_requireThing 4 = .ok (.getfield 47, 3) := by decide +kernel
theorem dX5_requireThing_7 : decode cX5_requireThing 7 = .ok (.iload_n 1, 1) := by decide +kernel
theorem dX5_requireThing_8 : decode cX5_requireThing 8 = .ok (.invokevirtual 257, 3) := by decide +kernel
theorem dX5_requireThing_11 : decode cX5_requireThing 11 = .ok (.ifCond .ne 14, 3) := by decide +kernel
theorem dX5_requireThing_14 : decode cX5_requireThing 14 = .ok (.new 142, 3) := by decide +kernel
theorem dX5_requireThing_17 : decode cX5_requireThing 17 = .ok (.dup, 1) := by decide +kernel
theorem dX5_requireThing_18 : decode cX5_requireThing 18 = .ok (.ldc_w 260, 3) := by decide +kernel
theorem dX5_requireThing_21 : decode cX5_requireThing 21 = .ok (.invokespecial 146, 3) := by decide +kernel
theorem dX5_requireThing_24 : decode cX5_requireThing 24 = .ok (.athrow, 1) := by decide +kernel
theorem dX5_requireThing_25 : decode cX5_requireThing 25 = .ok (.return_, 1) := by decide +kernel
set_option maxRecDepth 20000 in
theorem ggX5_requirePerson_X5_isPerson : GoodIn wsX5_requirePerson wsX5_isPerson := goodIn_r _ [6, 7, 8, 5, 9] (by decide +kernel) (by decide +kernel)
set_option maxRecDepth 20000 in
theorem gX5_requirePerson_X5_isPerson : GoodIn wsX5_requirePerson (va_wsS RX5 262 yX5_isPerson wsX5_isPerson) := goodIn_app (goodIn_of _ (by decide +kernel)) ggX5_requirePerson_X5_isPerson
theorem dX5_requirePerson_0 : decode cX5_requirePerson 0 = .ok (.iload_n 0, 1) := by decide +kernel
theorem dX5_requirePerson_1 : decode cX5_requirePerson 1 = .ok (.invokestatic 262, 3) := by decide +kernel
theorem dX5_requirePerson_4 : decode cX5_requirePerson 4 = .ok (.ifCond .ne 14, 3) := by decide +kernel
theorem dX5_requirePerson_7 : decode cX5_requirePerson 7 = .ok (.new 142, 3) := by decide +kernel
theorem dX5_requirePerson_10 : decode cX5_requirePerson 10 = .ok (.dup, 1) := by decide +kernel
theorem dX5_requirePerson_11 : decode cX5_requirePerson 11 = .ok (.ldc_w 265, 3) := by decide +kernel
theorem dX5_requirePerson_14 : decode cX5_requirePerson 14 = .ok (.invokespecial 146, 3) := by decide +kernel
theorem dX5_requirePerson_17 : decode cX5_requirePerson 17 = .ok (.athrow, 1) := by decide +kernel
theorem dX5_requirePerson_18 : decode cX5_requirePerson 18 = .ok (.return_, 1) := by decide +kernel
set_option maxRecDepth 20000 in
theorem ggX5_requireMask_X5_requireRange : GoodIn wsX5_requireMask wsX5_requireRange := goodIn_ca (goodIn_r _ [4, 5, 6, 7, 8, 3, 9] (by decide +kernel) (by decide +kernel)) (goodIn_sub (fun _ h => List.mem_cons_of_mem _ (List.mem_append_right _ h)) (by decide +kernel))
set_option maxRecDepth 20000 in
theorem gX5_requireMask_X5_requireRange : GoodIn wsX5_requireMask (va_wsS RX5 79 yX5_requireRange wsX5_requireRange) := goodIn_app (goodIn_of _ (by decide +kernel)) ggX5_requireMask_X5_requireRange
theorem dX5_requireMask_0 : decode cX5_requireMask 0 = .ok (.iload_n 0, 1) := by decide +kernel
theorem dX5_requireMask_1 : decode cX5_requireMask 1 = .ok (.iconst 0, 1) := by decide +kernel
theorem dX5_requireMask_2 : decode cX5_requireMask 2 = .ok (.bipush 7, 2) := by decide +kernel
theorem dX5_requireMask_4 : decode cX5_requireMask 4 = .ok (.invokestatic 79, 3) := by decide +kernel
theorem dX5_requireMask_7 : decode cX5_requireMask 7 = .ok (.return_, 1) := by decide +kernel
set_option maxRecDepth 20000 in
theorem ggX5_requireRange_X5_isBetween : GoodIn wsX5_requireRange wsX5_isBetween := goodIn_r _ [6] (by decide +kernel) (by decide +kernel)
set_option maxRecDepth 20000 in
theorem gX5_requireRange_X5_isBetween : GoodIn wsX5_requireRange (va_wsS RX5 267 yX5_isBetween wsX5_isBetween) := goodIn_app (goodIn_of _ (by decide +kernel)) ggX5_requireRange_X5_isBetween
theorem dX5_requireRange_0 : decode cX5_requireRange 0 = .ok (.iload_n 0, 1) := by decide +kernel
theorem dX5_requireRange_1 : decode cX5_requireRange 1 = .ok (.iload_n 1, 1) := by decide +kernel
theorem dX5_requireRange_2 : decode cX5_requireRange 2 = .ok (.iload_n 2, 1) := by decide +kernel
theorem dX5_requireRange_3 : decode cX5_requireRange 3 = .ok (.invokestatic 267, 3) := by decide +kernel
theorem dX5_requireRange_6 : decode cX5_requireRange 6 = .ok (.ifCond .ne 14, 3) := by decide +kernel
theorem dX5_requireRange_9 : decode cX5_requireRange 9 = .ok (.new 151, 3) := by decide +kernel
theorem dX5_requireRange_12 : decode cX5_requireRange 12 = .ok (.dup, 1) := by decide +kernel
theorem dX5_requireRange_13 : decode cX5_requireRange 13 = .ok (.ldc_w 271, 3) := by decide +kernel
theorem dX5_requireRange_16 : decode cX5_requireRange 16 = .ok (.invokespecial 155, 3) := by decide +kernel
theorem dX5_requireRange_19 : decode cX5_requireRange 19 = .ok (.athrow, 1) := by decide +kernel
theorem dX5_requireRange_20 : decode cX5_requireRange 20 = .ok (.return_, 1) := by decide +kernel
set_option maxRecDepth 20000 in
theorem ggX5_isPerson_X5_isBetween : GoodIn wsX5_isPerson wsX5_isBetween := goodIn_r _ [4] (by decide +kernel) (by decide +kernel)
set_option maxRecDepth 20000 in
theorem gX5_isPerson_X5_isBetween : GoodIn wsX5_isPerson (va_wsS RX5 267 yX5_isBetween wsX5_isBetween) := goodIn_app (goodIn_of _ (by decide +kernel)) ggX5_isPerson_X5_isBetween
theorem dX5_isPerson_0 : decode cX5_isPerson 0 = .ok (.iload_n 0, 1) := by decide +kernel
theorem dX5_isPerson_1 : decode cX5_isPerson 1 = .ok (.iconst 0, 1) := by decide +kernel
theorem dX5_isPerson_2 : decode cX5_isPerson 2 = .ok (.bipush 9, 2) := by decide +kernel
theorem dX5_isPerson_4 : decode cX5_isPerson 4 = .ok (.invokestatic 267, 3) := by decide +kernel
theorem dX5_isPerson_7 : decode cX5_isPerson 7 = .ok (.ireturn, 1) := by decide +kernel
theorem dX5_isBetween_0 : decode cX5_isBetween 0 = .ok (.iload_n 0, 1) := by decide +kernel
theorem dX5_isBetween_1 : decode cX5_isBetween 1 = .ok (.iload_n 1, 1) := by decide +kernel
theorem dX5_isBetween_2 : decode cX5_isBetween 2 = .ok (.if_icmp .lt 12, 3) := by decide +kernel
theorem dX5_isBetween_5 : decode cX5_isBetween 5 = .ok (.iload_n 0, 1) := by decide +kernel
theorem dX5_isBetween_6 : decode cX5_isBetween 6 = .ok (.iload_n 2, 1) := by decide +kernel
theorem dX5_isBetween_7 : decode cX5_isBetween 7 = .ok (.if_icmp .gt 7, 3) := by decide +kernel
theorem dX5_isBetween_10 : decode cX5_isBetween 10 = .ok (.iconst 1, 1) := by decide +kernel
theorem dX5_isBetween_11 : decode cX5_isBetween 11 = .ok (.goto 4, 3) := by decide +kernel
theorem dX5_isBetween_14 : decode cX5_isBetween 14 = .ok (.iconst 0, 1) := by decide +kernel
theorem dX5_isBetween_15 : decode cX5_isBetween 15 = .ok (.ireturn, 1) := by decide +kernel
theorem dJ6_bitCount_0f7a4_0 : decode cJ6_bitCount_0f7a4 0 = .ok (.iload_n 0, 1) := by decide +kernel
theorem dJ6_bitCount_0f7a4_1 : decode cJ6_bitCount_0f7a4 1 = .ok (.iload_n 0, 1) := by decide +kernel
theorem dJ6_bitCount_0f7a4_2 : decode cJ6_bitCount_0f7a4 2 = .ok (.iconst 1, 1) := by decide +kernel
theorem dJ6_bitCount_0f7a4_3 : decode cJ6_bitCount_0f7a4 3 = .ok (.iushr, 1) := by decide +kernel
theorem dJ6_bitCount_0f7a4_4 : decode cJ6_bitCount_0f7a4 4 = .ok (.ldc_w 265, 3) := by decide +kernel
theorem dJ6_bitCount_0f7a4_7 : decode cJ6_bitCount_0f7a4 7 = .ok (.iand, 1) := by decide +kernel
theorem dJ6_bitCount_0f7a4_8 : decode cJ6_bitCount_0f7a4 8 = .ok (.isub, 1) := by decide +kernel
theorem dJ6_bitCount_0f7a4_9 : decode cJ6_bitCount_0f7a4 9 = .ok (.istore_n 0, 1) := by decide +kernel
theorem dJ6_bitCount_0f7a4_10 : decode cJ6_bitCount_0f7a4 10 = .ok (.iload_n 0, 1) := by decide +kernel
theorem dJ6_bitCount_0f7a4_11 : decode cJ6_bitCount_0f7a4 11 = .ok (.ldc_w 266, 3) := by decide +kernel
theorem dJ6_bitCount_0f7a4_14 : decode cJ6_bitCount_0f7a4 14 = .ok (.iand, 1) := by decide +kernel
theorem dJ6_bitCount_0f7a4_15 : decode cJ6_bitCount_0f7a4 15 = .ok (.iload_n 0, 1) := by decide +kernel
theorem dJ6_bitCount_0f7a4_16 : decode cJ6_bitCount_0f7a4 16 = .ok (.iconst 2, 1) := by decide +kernel
theorem dJ6_bitCount_0f7a4_17 : decode cJ6_bitCount_0f7a4 17 = .ok (.iushr, 1) := by decide +kernel
theorem dJ6_bitCount_0f7a4_18 : decode cJ6_bitCount_0f7a4 18 = .ok (.ldc_w 266, 3) := by decide +kernel
theorem dJ6_bitCount_0f7a4_21 : decode cJ6_bitCount_0f7a4 21 = .ok (.iand, 1) := by decide +kernel
theorem dJ6_bitCount_0f7a4_22 : decode cJ6_bitCount_0f7a4 22 = .ok (.iadd, 1) := by decide +kernel
theorem dJ6_bitCount_0f7a4_23 : decode cJ6_bitCount_0f7a4 23 = .ok (.istore_n 0, 1) := by decide +kernel
theorem dJ6_bitCount_0f7a4_24 : decode cJ6_bitCount_0f7a4 24 = .ok (.iload_n 0, 1) := by decide +kernel
theorem dJ6_bitCount_0f7a4_25 : decode cJ6_bitCount_0f7a4 25 = .ok (.iload_n 0, 1) := by decide +kernel
theorem dJ6_bitCount_0f7a4_26 : decode cJ6_bitCount_0f7a4 26 = .ok (.iconst 4, 1) := by decide +kernel
theorem dJ6_bitCount_0f7a4_27 : decode cJ6_bitCount_0f7a4 27 = .ok (.iushr, 1) := by decide +kernel
theorem dJ6_bitCount_0f7a4_28 : decode cJ6_bitCount_0f7a4 28 = .ok (.iadd, 1) := by decide +kernel
theorem dJ6_bitCount_0f7a4_29 : decode cJ6_bitCount_0f7a4 29 = .ok (.ldc_w 267, 3) := by decide +kernel
theorem dJ6_bitCount_0f7a4_32 : decode cJ6_bitCount_0f7a4 32 = .ok (.iand, 1) := by decide +kernel
theorem dJ6_bitCount_0f7a4_33 : decode cJ6_bitCount_0f7a4 33 = .ok (.istore_n 0, 1) := by decide +kernel
theorem dJ6_bitCount_0f7a4_34 : decode cJ6_bitCount_0f7a4 34 = .ok (.iload_n 0, 1) := by decide +kernel
theorem dJ6_bitCount_0f7a4_35 : decode cJ6_bitCount_0f7a4 35 = .ok (.iload_n 0, 1) := by decide +kernel
theorem dJ6_bitCount_0f7a4_36 : decode cJ6_bitCount_0f7a4 36 = .ok (.bipush 8, 2) := by decide +kernel
theorem dJ6_bitCount_0f7a4_38 : decode cJ6_bitCount_0f7a4 38 = .ok (.iushr, 1) := by decide +kernel
theorem dJ6_bitCount_0f7a4_39 : decode cJ6_bitCount_0f7a4 39 = .ok (.iadd, 1) := by decide +kernel
theorem dJ6_bitCount_0f7a4_40 : decode cJ6_bitCount_0f7a4 40 = .ok (.istore_n 0, 1) := by decide +kernel
theorem dJ6_bitCount_0f7a4_41 : decode cJ6_bitCount_0f7a4 41 = .ok (.iload_n 0, 1) := by decide +kernel
theorem dJ6_bitCount_0f7a4_42 : decode cJ6_bitCount_0f7a4 42 = .ok (.iload_n 0, 1) := by decide +kernel
theorem dJ6_bitCount_0f7a4_43 : decode cJ6_bitCount_0f7a4 43 = .ok (.bipush 16, 2) := by decide +kernel
theorem dJ6_bitCount_0f7a4_45 : decode cJ6_bitCount_0f7a4 45 = .ok (.iushr, 1) := by decide +kernel
theorem dJ6_bitCount_0f7a4_46 : decode cJ6_bitCount_0f7a4 46 = .ok (.iadd, 1) := by decide +kernel
theorem dJ6_bitCount_0f7a4_47 : decode cJ6_bitCount_0f7a4 47 = .ok (.istore_n 0, 1) := by decide +kernel
theorem dJ6_bitCount_0f7a4_48 : decode cJ6_bitCount_0f7a4 48 = .ok (.iload_n 0, 1) := by decide +kernel
theorem dJ6_bitCount_0f7a4_49 : decode cJ6_bitCount_0f7a4 49 = .ok (.bipush 63, 2) := by decide +kernel
theorem dJ6_bitCount_0f7a4_51 : decode cJ6_bitCount_0f7a4 51 = .ok (.iand, 1) := by decide +kernel
theorem dJ6_bitCount_0f7a4_52 : decode cJ6_bitCount_0f7a4 52 = .ok (.ireturn, 1) := by decide +kernel
theorem dJ9_max_7cf53_0 : decode cJ9_max_7cf53 0 = .ok (.iload_n 0, 1) := by decide +kernel
theorem dJ9_max_7cf53_1 : decode cJ9_max_7cf53 1 = .ok (.iload_n 1, 1) := by decide +kernel
theorem dJ9_max_7cf53_2 : decode cJ9_max_7cf53 2 = .ok (.if_icmp .lt 7, 3) := by decide +kernel
theorem dJ9_max_7cf53_5 : decode cJ9_max_7cf53 5 = .ok (.iload_n 0, 1) := by decide +kernel
theorem dJ9_max_7cf53_6 : decode cJ9_max_7cf53 6 = .ok (.goto 4, 3) := by decide +kernel
theorem dJ9_max_7cf53_9 : decode cJ9_max_7cf53 9 = .ok (.iload_n 1, 1) := by decide +kernel
theorem dJ9_max_7cf53_10 : decode cJ9_max_7cf53 10 = .ok (.ireturn, 1) := by decide +kernel
theorem dJ9_min_7cf53_0 : decode cJ9_min_7cf53 0 = .ok (.iload_n 0, 1) := by decide +kernel
theorem dJ9_min_7cf53_1 : decode cJ9_min_7cf53 1 = .ok (.iload_n 1, 1) := by decide +kernel
theorem dJ9_min_7cf53_2 : decode cJ9_min_7cf53 2 = .ok (.if_icmp .gt 7, 3) := by decide +kernel
theorem dJ9_min_7cf53_5 : decode cJ9_min_7cf53 5 = .ok (.iload_n 0, 1) := by decide +kernel
theorem dJ9_min_7cf53_6 : decode cJ9_min_7cf53 6 = .ok (.goto 4, 3) := by decide +kernel
theorem dJ9_min_7cf53_9 : decode cJ9_min_7cf53 9 = .ok (.iload_n 1, 1) := by decide +kernel
theorem dJ9_min_7cf53_10 : decode cJ9_min_7cf53 10 = .ok (.ireturn, 1) := by decide +kernel
end
