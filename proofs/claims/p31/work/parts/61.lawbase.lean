/-! THE CLAIM OUT OF ONE WALK OF THE LAW'S BODY. Your part is whole_start (and what it stands on); all else here is the same for every law, but numbers. -/
def R_law : String := "LentRightsLaw"
def lw_P (b : Addr) (xs : List Int32) (args : Array Value) (s : State) : Prop := args = #[.ref b] ∧ s.IntsAt b xs ∧ xs.length ≤ 260 ∧ (Jvm.Cond.and given_1 narrow_1).before args s = true
/-- what a walk over the start with the record d0 says of its end, said of the start itself -/
theorem lw_closed {s t : State} {o : Outcome} {d0 : Drawn} {L : List Loc} {k n : Nat} (hd0 : s.drawn.sameBut d0 lw_cs) (hv : ∃ v, o = .returned v) (hW : (s.setDrawn d0).WarmedH t.vm) (hs : (s.setDrawn d0).sameButNew ({ t with vm := s.vm } : State) L k n) : State.butDraws s t lw_cs (fun t1 => Framed s o t1 L k n) := by
  have h2 : t.drawn = d0 := congrArg State.drawn hs.1
  refine ⟨⟨hv, hW, State.sameButNew.setDrawn hs s.drawn⟩, ?_, by decide⟩
  rw [h2]
  exact hd0
def lw_Q (_ : Array Value) (s : State) (o : Outcome) (t : State) : Prop := o = .returned (some (.int 1)) ∧ State.butDraws s t lw_cs (fun t1 => Framed s o t1 [] 600086 7301442)
def lw_Z (below : List Frame) (a : Array Value) (s : State) : State → Prop := fun t => ∃ o, t.status = .running ∧ Ended t below o ∧ lw_Q a s o t
/-- the law's own end, with 1 on the stack, nothing written that was there before, its room as the claim has it; d0: the record of draws at this point (at the entry s.drawn: begin with 'refine W.base ?_' and 'have hd0 := Drawn.sameBut.refl s.drawn lw_cs') -/
theorem lw_ret {p : Program} {l : Launch} {e : Env} {s : State} {m : MethodId} {below : List Frame} {meth : Method} {c : Code} {b : Nat} {d0 : Drawn} (hd0 : s.drawn.sameBut d0 lw_cs) (hx : p.tables.exec = Jvm.exec) (hb : c.code = code) (hr : meth.sig.returnType = ret) (hlocks : meth.locks = false) {pc : Nat} {H : Heap} {ls : Array Slot} (hdg : decode code pc = .ok (.ireturn, 1)) : W p l e room_1 (s.setDrawn d0) m #[Value.ref b] below meth c H [] 600086 7301442 (lw_Z below #[Value.ref b] s) (F0 m pc ls [.int 1]) := by
  intro T hT X
  obtain ⟨fs, hret, hrun, hended, hW, hframe⟩ := X.leave (v := some (.int 1)) (hlocks := hlocks) (fun h => by rw [hr] at h; cases h)
  have hmeth' : T.vm.method? m = some meth := X.method'
  refine ⟨T.setFrames fs, ?_, .returned (some (.int 1)), hrun, hended, rfl, lw_closed hd0 ⟨_, rfl⟩ hW hframe⟩
  jvm_step X.here [X.here.top, hx, hb, hdg, hmeth', hr, ret, narrow_b1]
  (try refine ⟨rfl, ?_⟩); (try refine ⟨rfl, ?_⟩)
  first | (intro acts; rw [hret _ acts rfl rfl rfl]) | rw [hret _ _ rfl rfl rfl]
  exact Steps.refl _
/-- what holds at the law's entry: the machine, the code, the tables' words (any of lw_tbl by 'hts w (by decide +kernel)'), the script of L ints xs at the cell b, what the Statement gives of the start (any of its parts by flat_of_before) -/
def lw_At (p : Program) (s : State) (m : MethodId) (meth : Method) (c : Code) (b L : Nat) (xs : Nat → Int32) : Prop :=
  p.tables.exec = Jvm.exec ∧ c.code = code ∧ meth.sig.returnType = ret ∧ c.maxLocals = 7 ∧ s.vm.findClass R_law = some m.cls ∧ (∀ w ∈ lw_tbl, w.before #[Value.ref b] s = true) ∧ va_X b L xs s s.heap ∧ b < s.heap.size ∧ meth.locks = false ∧ (Jvm.Cond.and given_1 narrow_1).before #[Value.ref b] s = true
def lAd (a : LAd) : List Nat := lA a.1 a.2.1 a.2.2.1 a.2.2.2.1 a.2.2.2.2.1 a.2.2.2.2.2.1 a.2.2.2.2.2.2
theorem wS_fst {X : cx_G} {ao : LAd} {so : LSt} : (wLS X ao so).map Prod.fst = lAd ao := wLR_fst
theorem wB_fst {X : cx_G} {ao ap : LAd} {so sp : LSt} : (wLS X ao so ++ wLS X ap sp).map Prod.fst = lAd ao ++ lAd ap := by rw [List.map_append, wS_fst, wS_fst]
theorem wS_len {X : cx_G} {a : LAd} {s : LSt} : (wLS X a s).length = 77 := rfl
theorem sC_a {X : cx_G} {ao : LAd} {so : LSt} : ([0, 1, 2, 3, 4, 5, 6, 7, 8, 9, 10, 11, 12, 13, 14, 15, 16, 17, 18, 19, 20, 21, 22, 23, 24, 25, 26, 27, 28, 29, 30, 31, 32, 33, 34, 35, 36, 37, 38, 39, 40, 41, 42, 43, 44, 45, 46, 47, 48, 49, 50, 51, 52, 53, 54, 55, 56, 57, 58, 59, 60, 61, 62, 63, 64, 65, 66, 67, 68, 69, 70, 71, 72, 73, 74, 75, 76] : List Nat).map (fun i => (wLS X ao so)[i]?) = (wLS X ao so).map some := by rfl
theorem sJ_a {ws ws' : va_W} : pj 0 [0, 1, 2, 3, 4, 5, 6, 7, 8, 9, 10, 11, 12, 13, 14, 15, 16, 17, 18, 19, 20, 21, 22, 23, 24, 25, 26, 27, 28, 29, 30, 31, 32, 33, 34, 35, 36, 37, 38, 39, 40, 41, 42, 43, 44, 45, 46, 47, 48, 49, 50, 51, 52, 53, 54, 55, 56, 57, 58, 59, 60, 61, 62, 63, 64, 65, 66, 67, 68, 69, 70, 71, 72, 73, 74, 75, 76] ws' ws ws' := pj_new fun q hq => hq
theorem bC_a {X : cx_G} {ao ap : LAd} {so sp : LSt} : ([0, 1, 2, 3, 4, 5, 6, 7, 8, 9, 10, 11, 12, 13, 14, 15, 16, 17, 18, 19, 20, 21, 22, 23, 24, 25, 26, 27, 28, 29, 30, 31, 32, 33, 34, 35, 36, 37, 38, 39, 40, 41, 42, 43, 44, 45, 46, 47, 48, 49, 50, 51, 52, 53, 54, 55, 56, 57, 58, 59, 60, 61, 62, 63, 64, 65, 66, 67, 68, 69, 70, 71, 72, 73, 74, 75, 76, 77, 78, 79, 80, 81, 82, 83, 84, 85, 86, 87, 88, 89, 90, 91, 92, 93, 94, 95, 96, 97, 98, 99, 100, 101, 102, 103, 104, 105, 106, 107, 108, 109, 110, 111, 112, 113, 114, 115, 116, 117, 118, 119, 120, 121, 122, 123, 124, 125, 126, 127, 128, 129, 130, 131, 132, 133, 134, 135, 136, 137, 138, 139, 140, 141, 142, 143, 144, 145, 146, 147, 148, 149, 150, 151, 152, 153] : List Nat).map (fun i => (wLS X ao so ++ wLS X ap sp)[i]?) = (wLS X ao so ++ wLS X ap sp).map some := by rfl
theorem bJ_a {ws ws' : va_W} : pj 0 [0, 1, 2, 3, 4, 5, 6, 7, 8, 9, 10, 11, 12, 13, 14, 15, 16, 17, 18, 19, 20, 21, 22, 23, 24, 25, 26, 27, 28, 29, 30, 31, 32, 33, 34, 35, 36, 37, 38, 39, 40, 41, 42, 43, 44, 45, 46, 47, 48, 49, 50, 51, 52, 53, 54, 55, 56, 57, 58, 59, 60, 61, 62, 63, 64, 65, 66, 67, 68, 69, 70, 71, 72, 73, 74, 75, 76, 77, 78, 79, 80, 81, 82, 83, 84, 85, 86, 87, 88, 89, 90, 91, 92, 93, 94, 95, 96, 97, 98, 99, 100, 101, 102, 103, 104, 105, 106, 107, 108, 109, 110, 111, 112, 113, 114, 115, 116, 117, 118, 119, 120, 121, 122, 123, 124, 125, 126, 127, 128, 129, 130, 131, 132, 133, 134, 135, 136, 137, 138, 139, 140, 141, 142, 143, 144, 145, 146, 147, 148, 149, 150, 151, 152, 153] ws' ws ws' := pj_new fun q hq => hq
theorem bC_o {X : cx_G} {ao ap : LAd} {so sp : LSt} : ([0, 1, 2, 3, 4, 5, 6, 7, 8, 9, 10, 11, 12, 13, 14, 15, 16, 17, 18, 19, 20, 21, 22, 23, 24, 25, 26, 27, 28, 29, 30, 31, 32, 33, 34, 35, 36, 37, 38, 39, 40, 41, 42, 43, 44, 45, 46, 47, 48, 49, 50, 51, 52, 53, 54, 55, 56, 57, 58, 59, 60, 61, 62, 63, 64, 65, 66, 67, 68, 69, 70, 71, 72, 73, 74, 75, 76] : List Nat).map (fun i => (wLS X ao so ++ wLS X ap sp)[i]?) = (wLS X ao so).map some := by rfl
theorem bC_p {X : cx_G} {ao ap : LAd} {so sp : LSt} : ([77, 78, 79, 80, 81, 82, 83, 84, 85, 86, 87, 88, 89, 90, 91, 92, 93, 94, 95, 96, 97, 98, 99, 100, 101, 102, 103, 104, 105, 106, 107, 108, 109, 110, 111, 112, 113, 114, 115, 116, 117, 118, 119, 120, 121, 122, 123, 124, 125, 126, 127, 128, 129, 130, 131, 132, 133, 134, 135, 136, 137, 138, 139, 140, 141, 142, 143, 144, 145, 146, 147, 148, 149, 150, 151, 152, 153] : List Nat).map (fun i => (wLS X ao so ++ wLS X ap sp)[i]?) = (wLS X ap sp).map some := by rfl
theorem bJ_o {X : cx_G} {ao ap : LAd} {so sp : LSt} {so' : LSt} : pj 0 [0, 1, 2, 3, 4, 5, 6, 7, 8, 9, 10, 11, 12, 13, 14, 15, 16, 17, 18, 19, 20, 21, 22, 23, 24, 25, 26, 27, 28, 29, 30, 31, 32, 33, 34, 35, 36, 37, 38, 39, 40, 41, 42, 43, 44, 45, 46, 47, 48, 49, 50, 51, 52, 53, 54, 55, 56, 57, 58, 59, 60, 61, 62, 63, 64, 65, 66, 67, 68, 69, 70, 71, 72, 73, 74, 75, 76] (wLS X ao so') (wLS X ao so ++ wLS X ap sp) (wLS X ao so' ++ wLS X ap sp) := pj_app 77 wS_len wS_len (pj_new fun q h => h) (pj_old 77 wS_len (by decide +kernel))
theorem bJ_p {X : cx_G} {ao ap : LAd} {so sp : LSt} {sp' : LSt} : pj 0 [77, 78, 79, 80, 81, 82, 83, 84, 85, 86, 87, 88, 89, 90, 91, 92, 93, 94, 95, 96, 97, 98, 99, 100, 101, 102, 103, 104, 105, 106, 107, 108, 109, 110, 111, 112, 113, 114, 115, 116, 117, 118, 119, 120, 121, 122, 123, 124, 125, 126, 127, 128, 129, 130, 131, 132, 133, 134, 135, 136, 137, 138, 139, 140, 141, 142, 143, 144, 145, 146, 147, 148, 149, 150, 151, 152, 153] (wLS X ap sp') (wLS X ao so ++ wLS X ap sp) (wLS X ao so ++ wLS X ap sp') := pj_app 77 wS_len wS_len (pj_old 77 wS_len (by decide +kernel)) (pj_new fun q h => h)
def dz {γ : Type} (y : Int32) (k : Option γ) : Option γ := if y = 0 then none else k
theorem dz_of {γ : Type} {y : Int32} {k : Option γ} {r : γ} (h : dz y k = some r) : ¬ y = 0 ∧ k = some r := by
  unfold dz at h
  by_cases c : y = 0
  · rw [if_pos c] at h; cases h
  · rw [if_neg c] at h; exact ⟨c, h⟩
section FSX
variable {p : Program} {l : Launch} {e : Env} {R : Room} {s : State} {m : MethodId} {args : Array Value} {below : List Frame} {meth : Method} {c : Code} {H : Heap} {locs : List Loc} {cells slots : Nat} {Q : State → Prop}
variable {X : cx_G} {A : Nat → Prop} {ws : va_W} {pc : Nat} {ls : Array Slot} {cc : ByteArray}
/-- two roads that meet with a number on the stack -/
theorem jn_W {k : Prop} [Decidable k] {a b : Int32} {J : Nat} {st st0 : List Value} (h1 : (∀ v : Int32, v = (if k then a else b) → W p l e R s m args below meth c H locs cells slots Q (F0 m J ls (.int v :: st))) → W p l e R s m args below meth c H locs cells slots Q (F0 m pc ls st0)) (h2 : ∀ v : Int32, v = (if k then a else b) → W p l e R s m args below meth c H locs cells slots Q (F0 m J ls (.int v :: st))) : W p l e R s m args below meth c H locs cells slots Q (F0 m pc ls st0) := h1 h2
/-- a static method that reads the law's script -/
def fs_Pre (X : cx_G) (b L : Nat) (xs : Nat → Int32) (sz : Nat) : State → Prop := fun U => fn_Pre X [] sz U ∧ va_X b L xs U U.heap ∧ b < sz
def Fs (l : Launch) (y : MethodName) (wd : List Cond) (rm : Room) (X : cx_G) (av : List Value) (b L : Nat) (xs : Nat → Int32) (v : Option Value) : Prop := ∀ sz : Nat, Met l y wd rm (va_Pc av (fs_Pre X b L xs sz)) (fn_Post X v [] (va_A [] sz)) 0 0 (va_A [] sz)
theorem fs_blind {av : List Value} {b L : Nat} {xs : Nat → Int32} {sz : Nat} : FrameBlind (va_Pc av (fs_Pre X b L xs sz)) := fun a U g mk q => ⟨q.1, (fn_blind (av := av) a U g mk ⟨q.1, q.2.1⟩).2, va_X.moved (u := U) (U := U.calling g mk a) (Vm.Alike.refl U.vm) q.2.2.1, q.2.2.2⟩
theorem fs_intro {y : MethodName} {wd wd' : List Cond} {rm : Room} {av : List Value} {b L : Nat} {xs : Nat → Int32} {v : Option Value} {maxL : Nat} {ret : Option FieldType} (hy : plainName y.cls = true) (hw : wd = Cond.code y cc maxL ret :: wd') (hn : (lg_sl av).length ≤ maxL)
    (body : ∀ (p : Program) (e : Env) (s : State) (m : MethodId) (args : Array Value) (below : List Frame) (meth : Method) (c : Code) (A : Nat → Prop) (ls : Array Slot), p.tables.exec = Jvm.exec → c.code = cc → c.maxLocals = maxL → meth.sig.returnType = ret → (∀ w ∈ wd, w.before args s = true) → s.vm.findClass y.cls = some m.cls → meth.locks = false → cx_K X s → va_P X.1 vwCl [] s.heap → va_D A [] → va_S A s.heap s.heap [] → (∀ q : Nat, s.heap.size ≤ q → A q) → va_X b L xs s s.heap → b < s.heap.size → ¬ A b → lv_has ls maxL (lv_args 0 av) → W p l e rm s m args below meth c s.heap [] 0 0 (fn_Z below X v [] A args s) (F0 m 0 ls [])) : Fs l y wd rm X av b L xs v := by
  intro sz
  refine Met.ofW (cc := cc) (maxL := maxL) (ret := ret) hy hw ?_
  intro p e s m args below meth c s₁ B hml hv
  obtain ⟨rfl, ⟨hsz, hP, hK, hD0⟩, hX, hbl⟩ := hv
  subst hsz
  have hown : s.vm.findClass y.cls = some m.cls := findClass_of_methodNamed B.named
  rw [lg_entry_eq]
  exact body p e s m _ below meth c _ _ B.exec B.bytes hml B.returns (atoms_spec (ws := wd) B.pre) hown B.notSynchronized hK hP hD0.self va_S.rf (fun q h => Or.inr h) hX hbl (fun h => by
    rcases h with ⟨k, e, h⟩ | h
    · simp at h
    · exact absurd hbl (Nat.not_lt.mpr h)) (lv_entry av hn)
theorem fs_S {y : MethodName} {bytes : ByteArray} {maxL nL n index : Nat} {ret : Option FieldType} {wd : List Cond} {rm : Room} {Ts : List Cond} {own : String} {As rest st0 st1 : List Value} {v : Option Value} {b L : Nat} {xs : Nat → Int32} (S : CallFix p m c cc nL s args Ts own) (hM : Fs l y wd rm X As b L xs v) (cw : CallB R s args own index y bytes maxL ret wd rm 0 0 n ∧ (Cond.static y).before args s = true)
    (hn : As.length = n) (hsize : ls.size = nL) (hst : st0 = As.reverse ++ rest) (hroom : (rest.map fun v => v.category).sum ≤ 8) (hdg : decode cc pc = .ok (.invokestatic index, 3))
    (hX : va_X b L xs s s.heap) (hbl : b < s.heap.size) (hbA : ¬ A b) (hK : cx_K X s) (hP : va_P X.1 vwCl ws H) (hD : va_D A ws) (hS : va_S A s.heap H locs) (hA : ∀ q : Nat, s.heap.size ≤ q → A q) (hst1 : v.toList ++ rest = st1) (hfit : cells ≤ R.cells ∧ slots ≤ R.slots)
    (kk : ∀ (H1 : Heap) (locs1 : List Loc), va_P X.1 vwCl ws H1 → va_D A ws → va_S A s.heap H1 locs1 → W p l e R s m args below meth c H1 locs1 cells slots Q (F0 m (pc + 3) ls st1)) : W p l e R s m args below meth c H locs cells slots Q (F0 m pc ls st0) := by
  subst hst
  subst hst1
  refine fn_go (wc := []) (wc' := []) (va_runS (As := As) (rest := rest) S (hM H.size) cw ⟨fs_blind, fun U hU hW => ?_⟩ rfl hn hsize rfl (lv_room hroom) hdg hfit) rfl hP hD hS hA [] rfl rfl kk
  have h0 := fn_pre (av := As) (is := []) (wc := []) hK hP hD rfl rfl rfl U hU hW
  exact ⟨h0.1, h0.2, (va_X.kept (H1 := U.heap) hX (by rw [hU]; exact hS.2.1 b hbl hbA)).moved hW.alike, Nat.lt_of_lt_of_le hbl hS.1⟩
end FSX
