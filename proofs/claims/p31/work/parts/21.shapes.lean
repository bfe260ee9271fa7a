/-! ===== large worlds, block by block: behind a call the callee's blocks are new, the others as they were ===== -/
def pj (off : Nat) (is : List Nat) (wc' ws ws' : va_W) : Prop := ∀ (k : Nat) (q : Nat × va_E), ws'[k]? = some q → q ∈ wc' ∨ (ws[k]? = some q ∧ off + k ∉ is)
theorem pj_app {off : Nat} {is : List Nat} {wc' a a' b b' : va_W} (n : Nat) (h1 : a.length = n) (h2 : a'.length = n) (ha : pj off is wc' a a') (hb : pj (off + n) is wc' b b') : pj off is wc' (a ++ b) (a' ++ b') := by
  intro k q hk
  by_cases hlt : k < n
  · rw [List.getElem?_append_left (by omega)] at hk
    rw [List.getElem?_append_left (by omega)]
    exact ha k q hk
  · rw [List.getElem?_append_right (by omega)] at hk
    rw [List.getElem?_append_right (by omega)]
    rcases hb (k - a'.length) q hk with h | ⟨h3, h4⟩
    · exact Or.inl h
    · refine Or.inr ⟨by rw [h1, ← h2]; exact h3, ?_⟩
      have e : off + n + (k - a'.length) = off + k := by omega
      rw [← e]
      exact h4
theorem pj_new {off : Nat} {is : List Nat} {wc' a a' : va_W} (h : ∀ q ∈ a', q ∈ wc') : pj off is wc' a a' := fun _ q hk => Or.inl (h q (List.mem_of_getElem? hk))
theorem pj_old {off : Nat} {is : List Nat} {wc' a : va_W} (n : Nat) (hn : a.length = n) (h : ∀ k, k < n → off + k ∉ is) : pj off is wc' a a := fun k q hk => Or.inr ⟨hk, h k (by rw [← hn]; exact (List.getElem?_eq_some_iff.mp hk).1)⟩
theorem pj_join {A : Nat → Prop} {D : va_G} {cl : List vw_C} {ws wc wc' ws' : va_W} {H H1 : Heap} (is : List Nat) (hP : va_P D cl ws H) (hD : va_D A ws) (hC : is.map (fun i => ws[i]?) = wc.map some)
    (hk : ∀ q : Nat, q < H.size → ¬ va_A wc H.size q → H1[q]? = H[q]?) (hP1 : va_P D cl wc' H1) (hJ : pj 0 is wc' ws ws') : va_P D cl ws' H1 := by
  intro k q hq
  rcases hJ k q hq with h | ⟨h1, h2⟩
  · obtain ⟨j, hj⟩ := List.getElem?_of_mem h
    exact hP1 j q hj
  · refine (hP k q h1).kept (hk q.1 (hP k q h1).lt fun h => ?_)
    rcases h with ⟨j, e, h3⟩ | h3
    · obtain ⟨i, h4, h5⟩ := pt_at hC h3
      have := hD.1 k i q (q.1, e) h1 h5 rfl
      subst this
      rw [Nat.zero_add] at h2
      exact h2 (List.mem_of_getElem? h4)
    · exact Nat.not_lt.mpr h3 (hP k q h1).lt
section PJB
variable {p : Program} {l : Launch} {e : Env} {R : Room} {s : State} {m : MethodId} {args : Array Value} {below : List Frame} {meth : Method} {c : Code} {H : Heap} {locs : List Loc} {cells slots : Nat} {Q : State → Prop}
variable {X : cx_G} {A : Nat → Prop} {ws ws' wc wc' : va_W} {pc : Nat} {ls : Array Slot} {cc : ByteArray}
theorem fn_goJ {v : Option Value} {H0 : Heap} {rest st0 : List Value} {a : Array Value} (hr : va_Run p l e R s m args below meth c H locs cells slots 0 0 (F0 m pc ls st0) rest (fn_Post X v wc' (va_A wc H.size) a) (va_A wc H.size))
    (hP : va_P X.1 vwCl ws H) (hD : va_D A ws) (hS : va_S A H0 H locs) (hA : ∀ q : Nat, H0.size ≤ q → A q) (is : List Nat) (hC : is.map (fun i => ws[i]?) = wc.map some) (hJ : pj 0 is wc' ws ws') (hF0 : ws'.map Prod.fst = ws.map Prod.fst)
    (kk : ∀ (H1 : Heap) (locs1 : List Loc), va_P X.1 vwCl ws' H1 → va_D A ws' → va_S A H0 H1 locs1 → W p l e R s m args below meth c H1 locs1 cells slots Q (F0 m (pc + 3) ls (v.toList ++ rest))) : W p l e R s m args below meth c H locs cells slots Q (F0 m pc ls st0) := by
  intro T hT X0
  obtain ⟨v', st₀, t, T', L, h0, X', hL, e1, e2, ⟨⟨hv, hb⟩, hz, hk⟩, st⟩ := hr T hT X0
  cases hv
  rw [h0] at hz hk
  have hF := va_free hD hS hA is hC
  rw [← e1] at hb hz hk
  have hP' := pj_join is hP hD hC hk hb hJ
  have hD' := hD.addr hF0
  obtain ⟨t2, a1, b1⟩ := kk T'.heap (locs ++ L) hP' hD'
    ⟨Nat.le_trans hS.1 hz, fun q h1 h2 => by rw [hk q (Nat.lt_of_lt_of_le h1 hS.1) (fun z => h2 (hF q z))]; exact hS.2.1 q h1 h2, fun q hq => by
      rcases List.mem_append.mp hq with h | h
      · exact hS.2.2 q h
      · exact hF _ (hL q h)⟩ T' rfl X'
  exact ⟨t2, st t2 a1, b1⟩
variable {y : MethodName} {bytes : ByteArray} {maxL nL n index : Nat} {ret : Option FieldType} {wd : List Cond} {rm : Room} {Ts : List Cond} {own C host : String} {b : Addr} {As rest st0 st1 : List Value} {v : Option Value} {H0 : Heap}
theorem fn_VJ (S : CallFix p m c cc nL s args Ts own) (hM : Fn l y wd rm X (Value.ref b :: As) wc v wc') (cw : CallW R s args own C index y bytes maxL ret wd rm 0 0 n) (ci : Nat) {q : vw_C} {fs : List Value} (hcl : vwCl[ci]? = some q) (hC0 : q.1 = C) (hrec : wc[0]? = some (b, .inr (ci, fs)))
    (hn : As.length = n) (hsize : ls.size = nL) (hst : st0 = As.reverse ++ .ref b :: rest) (hroom : (rest.map fun v => v.category).sum ≤ 8) (hdg : decode cc pc = .ok (.invokevirtual index, 3))
    (hK : cx_K X s) (hP : va_P X.1 vwCl ws H) (hD : va_D A ws) (hS : va_S A H0 H locs) (hA : ∀ q : Nat, H0.size ≤ q → A q) (is : List Nat) (hnd : va_nd is = true) (hC : is.map (fun i => ws[i]?) = wc.map some) (hJ : pj 0 is wc' ws ws') (hF0 : ws'.map Prod.fst = ws.map Prod.fst) (hst1 : v.toList ++ rest = st1) (hfit : cells ≤ R.cells ∧ slots ≤ R.slots)
    (kk : ∀ (H1 : Heap) (locs1 : List Loc), va_P X.1 vwCl ws' H1 → va_D A ws' → va_S A H0 H1 locs1 → W p l e R s m args below meth c H1 locs1 cells slots Q (F0 m (pc + 3) ls st1)) : W p l e R s m args below meth c H locs cells slots Q (F0 m pc ls st0) := by
  subst hst
  subst hst1
  have hPc := pt_sub hP hC
  have hr := va_recv hK.1 hPc hcl hrec
  rw [hC0] at hr
  exact fn_goJ (va_runV (As := As) (rest := rest) S (hM.2 H.size) cw ⟨fn_blind, hr, fun U hU hW => fn_pre hK hP hD hnd hC rfl U hU hW⟩ rfl hn hsize rfl (lv_room hroom) hdg hfit) hP hD hS hA is hC hJ hF0 kk
end PJB
abbrev HS : Type := Int32 × (Nat → Int32) × Int32 × (Nat → Int32) × Int32 × (Nat → Int32) × Int32 × (Nat → Int32) × Int32 × (Nat → Int32) × Int32 × Int32 × Int32 × Int32
def wHs (X : cx_G) (h : Nat → Nat) (q : HS) : va_W := wHo X h q.1 q.2.1 q.2.2.1 q.2.2.2.1 q.2.2.2.2.1 q.2.2.2.2.2.1 q.2.2.2.2.2.2.1 q.2.2.2.2.2.2.2.1 q.2.2.2.2.2.2.2.2.1 q.2.2.2.2.2.2.2.2.2.1 q.2.2.2.2.2.2.2.2.2.2.1 q.2.2.2.2.2.2.2.2.2.2.2.1 q.2.2.2.2.2.2.2.2.2.2.2.2.1 q.2.2.2.2.2.2.2.2.2.2.2.2.2
/-- the history: its object, its row of houses, the four houses (by their cells, not by their places in the row) -/
def wHg (X : cx_G) (y : Nat → Nat) (hy : Nat → Nat → Nat) (cn : Int32) (g : Nat → Option Nat) (q0 q1 q2 q3 : HS) : va_W := [(y 0, .inr (1, [.ref (y 1), .int cn])), (y 1, .inl (X.2.2.2, 4, .inr (.inr (.inr (.inr g)))))] ++ (wHs X (hy 0) q0 ++ (wHs X (hy 1) q1 ++ (wHs X (hy 2) q2 ++ wHs X (hy 3) q3)))
/-- place i of the row holds house (i + ro) % 4 -/
def hk_g (hy : Nat → Nat → Nat) (ro : Nat) : Nat → Option Nat := fun i => some (hy ((i + ro) % 4) 0)
def wHi (X : cx_G) (y : Nat → Nat) (hy : Nat → Nat → Nat) (cn : Int32) (ro : Nat) (Q : Nat → HS) : va_W := wHg X y hy cn (hk_g hy ro) (Q 0) (Q 1) (Q 2) (Q 3)
def wLR (X : cx_G) (x0 : Nat) (hh ht ch tx y : Nat → Nat) (hy : Nat → Nat → Nat) (rP : Int32) (fP : (Nat → Int32)) (rT : Int32) (fT : (Nat → Int32)) (rG : Int32) (fG : (Nat → Int32)) (rL : Int32) (fL : (Nat → Int32)) (rH : Int32) (fH : (Nat → Int32)) (gi : Int32) (di : Int32) (re : Int32) (ti : Int32) (rPT : Int32) (fPT : (Nat → Int32)) (rTT : Int32) (fTT : (Nat → Int32)) (rGT : Int32) (fGT : (Nat → Int32)) (rLT : Int32) (fLT : (Nat → Int32)) (rHT : Int32) (fHT : (Nat → Int32)) (giT : Int32) (diT : Int32) (reT : Int32) (tiT : Int32) (rS : Int32) (fS : Nat → Int32) (rB : Int32) (fB : Nat → Int32) (rO : Int32) (fO : Nat → Int32) (pl fa cn : Int32) (ro : Nat) (Q : Nat → HS) : va_W := [(x0, .inr (5, [.ref (hh 0), .ref (ht 0), .ref (y 0), .ref (ch 0), .ref (tx 0)]))] ++ (wHo X hh rP fP rT fT rG fG rL fL rH fH gi di re ti ++ (wHo X ht rPT fPT rTT fTT rGT fGT rLT fLT rHT fHT giT diT reT tiT ++ (wCh X ch rS fS ++ (wTx X tx rB fB rO fO pl fa ++ wHi X y hy cn ro Q))))
theorem hk_congr {X : cx_G} {y : Nat → Nat} {hy : Nat → Nat → Nat} {cn : Int32} {g g' : Nat → Option Nat} {q0 q1 q2 q3 : HS} {w : va_W} {H : Heap} (h : va_P X.1 vwCl (wHg X y hy cn g q0 q1 q2 q3 ++ w) H) (hg : ∀ i, i < 4 → g i = g' i) : va_P X.1 vwCl (wHg X y hy cn g' q0 q1 q2 q3 ++ w) H := by
  have hc : arrV X.2.2.2 4 (fun j => va_rf (g j)) = arrV X.2.2.2 4 (fun j => va_rf (g' j)) := by
    unfold arrV
    congr 1
    first | (apply Array.ext' ; simp [hg]) | (simp [Array.ofFn, hg]) | (congr 1; funext i; rw [hg i.1 i.2])
  intro k q hk
  match k, hk with
  | 0, hk => exact h 0 q hk
  | 1, hk =>
    have h1 := h 1 (y 1, .inl (X.2.2.2, 4, .inr (.inr (.inr (.inr g))))) rfl
    have e : q = (y 1, .inl (X.2.2.2, 4, .inr (.inr (.inr (.inr g'))))) := (Option.some.inj hk).symm
    subst e
    show H[y 1]? = some (arrV X.2.2.2 4 (fun j => va_rf (g' j)))
    rw [← hc]
    exact h1
  | k + 2, hk => exact h (k + 2) q hk
theorem hi_ald {p : Program} {l : Launch} {e : Env} {R : Room} {s : State} {m : MethodId} {args : Array Value} {below : List Frame} {meth : Method} {c : Code} {H : Heap} {locs : List Loc} {cells slots : Nat} {Q : State → Prop} {cc : ByteArray} {pc : Nat} {ls : Array Slot} {rest : List Value} {D : va_G} {cl : List vw_C} {tys : List (ClassId × FieldType)} {ws : va_W} {a b : Nat} (hexec : p.tables.exec = Jvm.exec) (hb : c.code = cc) (hK : va_K D cl tys s) (hP : va_P D cl ws H) (q0 t0 : Nat) {cA : ClassId} {C : String} {n : Nat} {f : Nat → Option Nat} (ha : ws[q0]? = some (a, .inl (cA, n, .inr (.inr (.inr (.inr f)))))) (ht : tys[t0]? = some (cA, .object C)) {i : Int32} (hin : vp_in i n) (hf : f i.toNatClampNeg = some b) (hdg : decode cc pc = .ok (.aaload, 1))
    (kk : W p l e R s m args below meth c H locs cells slots Q (F0 m (pc + 1) ls (.ref b :: rest))) : W p l e R s m args below meth c H locs cells slots Q (F0 m pc ls (.int i :: .ref a :: rest)) := by
  refine va_aldq hexec hb hK hP q0 t0 ha ht hin hdg ?_
  rw [hf]
  exact kk
def bx {α β γ : Type} (m : Option (α ⊕ β)) (kx : α → Option γ) (k : β → Option γ) : Option γ := match m with
  | none => none
  | some (.inl a) => kx a
  | some (.inr b) => k b
theorem bx_of {α β γ : Type} {m : Option (α ⊕ β)} {kx : α → Option γ} {k : β → Option γ} {o : γ} (h : bx m kx k = some o) : (∃ a, m = some (.inl a) ∧ kx a = some o) ∨ (∃ b, m = some (.inr b) ∧ k b = some o) := by
  cases m with
  | none => cases h
  | some x =>
    cases x with
    | inl a => exact Or.inl ⟨a, rfl, h⟩
    | inr b => exact Or.inr ⟨b, rfl, h⟩
def nz {γ : Type} (r : UInt64) (k : Option γ) : Option γ := if r &&& 0x7fffffffffffffff ≤ 0x7ff0000000000000 then k else none
theorem nz_of {γ : Type} {x : UInt64} {k : Option γ} {r : γ} (h : nz x k = some r) : vf_n64 x ∧ k = some r := by
  unfold nz at h
  by_cases c : x &&& 0x7fffffffffffffff ≤ 0x7ff0000000000000
  · rw [if_pos c] at h; exact ⟨c, h⟩
  · rw [if_neg c] at h; cases h
theorem hk_congr0 {X : cx_G} {y : Nat → Nat} {hy : Nat → Nat → Nat} {cn : Int32} {g g' : Nat → Option Nat} {q0 q1 q2 q3 : HS} {H : Heap} (h : va_P X.1 vwCl (wHg X y hy cn g q0 q1 q2 q3) H) (hg : ∀ i, i < 4 → g i = g' i) : va_P X.1 vwCl (wHg X y hy cn g' q0 q1 q2 q3) H := by
  have h1 := hk_congr (w := []) (by rw [List.append_nil]; exact h) hg
  rwa [List.append_nil] at h1
theorem hk_4 {P : Nat → Prop} (h0 : P 0) (h1 : P 1) (h2 : P 2) (h3 : P 3) : ∀ i, i < 4 → P i := fun i hi => match i, hi with
  | 0, _ => h0
  | 1, _ => h1
  | 2, _ => h2
  | 3, _ => h3
theorem pt_setid : ∀ (is : List Nat) (wc ws : va_W), is.map (fun i => ws[i]?) = wc.map some → pt_set ws is wc = ws
  | [], [], ws, _ => rfl
  | [], _ :: _, ws, h => by simp at h
  | _ :: _, [], ws, h => by simp at h
  | i :: is, q :: qs, ws, h => by
    simp only [List.map_cons, List.cons.injEq] at h
    have e : ws.set i q = ws := by
      apply List.ext_getElem?
      intro k
      by_cases hk : i = k
      · subst hk
        rw [h.1, List.getElem?_set_self]
        exact (List.getElem?_eq_some_iff.mp h.1).1
      · rw [List.getElem?_set_ne hk]
    show pt_set (ws.set i q) is qs = ws
    rw [e]
    exact pt_setid is qs ws h.2
def kA (y : Nat → Nat) (hy : Nat → Nat → Nat) (h2 : Nat → Nat) : List Nat := [y 0, y 1, hy 0 0, hy 0 1, hy 0 2, hy 0 3, hy 0 4, hy 0 5, hy 0 6, hy 0 7, hy 0 8, hy 0 9, hy 0 10, hy 1 0, hy 1 1, hy 1 2, hy 1 3, hy 1 4, hy 1 5, hy 1 6, hy 1 7, hy 1 8, hy 1 9, hy 1 10, hy 2 0, hy 2 1, hy 2 2, hy 2 3, hy 2 4, hy 2 5, hy 2 6, hy 2 7, hy 2 8, hy 2 9, hy 2 10, hy 3 0, hy 3 1, hy 3 2, hy 3 3, hy 3 4, hy 3 5, hy 3 6, hy 3 7, hy 3 8, hy 3 9, hy 3 10, h2 0, h2 1, h2 2, h2 3, h2 4, h2 5, h2 6, h2 7, h2 8, h2 9, h2 10]
def gA (y : Nat → Nat) (hy : Nat → Nat → Nat) : List Nat := [y 0, y 1, hy 0 0, hy 0 1, hy 0 2, hy 0 3, hy 0 4, hy 0 5, hy 0 6, hy 0 7, hy 0 8, hy 0 9, hy 0 10, hy 1 0, hy 1 1, hy 1 2, hy 1 3, hy 1 4, hy 1 5, hy 1 6, hy 1 7, hy 1 8, hy 1 9, hy 1 10, hy 2 0, hy 2 1, hy 2 2, hy 2 3, hy 2 4, hy 2 5, hy 2 6, hy 2 7, hy 2 8, hy 2 9, hy 2 10, hy 3 0, hy 3 1, hy 3 2, hy 3 3, hy 3 4, hy 3 5, hy 3 6, hy 3 7, hy 3 8, hy 3 9, hy 3 10]
theorem wHg_fst {X : cx_G} {y : Nat → Nat} {hy : Nat → Nat → Nat} {cn : Int32} {g : Nat → Option Nat} {q0 q1 q2 q3 : HS} : (wHg X y hy cn g q0 q1 q2 q3).map Prod.fst = gA y hy := by rfl
theorem wK_fst {X : cx_G} {y : Nat → Nat} {hy : Nat → Nat → Nat} {cn : Int32} {g : Nat → Option Nat} {q0 q1 q2 q3 : HS} {h2 : Nat → Nat} {rP2 : Int32} {fP2 : Nat → Int32} {rT2 : Int32} {fT2 : Nat → Int32} {rG2 : Int32} {fG2 : Nat → Int32} {rL2 : Int32} {fL2 : Nat → Int32} {rH2 : Int32} {fH2 : Nat → Int32} {gi2 : Int32} {di2 : Int32} {re2 : Int32} {ti2 : Int32} : (wHg X y hy cn g q0 q1 q2 q3 ++ wHo X h2 rP2 fP2 rT2 fT2 rG2 fG2 rL2 fL2 rH2 fH2 gi2 di2 re2 ti2).map Prod.fst = kA y hy h2 := by rfl
theorem kC_0 {X : cx_G} {y : Nat → Nat} {hy : Nat → Nat → Nat} {cn : Int32} {g : Nat → Option Nat} {q0 q1 q2 q3 : HS} {h2 : Nat → Nat} {rP2 : Int32} {fP2 : Nat → Int32} {rT2 : Int32} {fT2 : Nat → Int32} {rG2 : Int32} {fG2 : Nat → Int32} {rL2 : Int32} {fL2 : Nat → Int32} {rH2 : Int32} {fH2 : Nat → Int32} {gi2 : Int32} {di2 : Int32} {re2 : Int32} {ti2 : Int32} : ([2, 3, 4, 5, 6, 7, 8, 9, 10, 11, 12, 46, 47, 48, 49, 50, 51, 52, 53, 54, 55, 56] : List Nat).map (fun i => (wHg X y hy cn g q0 q1 q2 q3 ++ wHo X h2 rP2 fP2 rT2 fT2 rG2 fG2 rL2 fL2 rH2 fH2 gi2 di2 re2 ti2)[i]?) = (wHs X (hy 0) q0 ++ wHo X h2 rP2 fP2 rT2 fT2 rG2 fG2 rL2 fL2 rH2 fH2 gi2 di2 re2 ti2).map some := by rfl
theorem gC_0 {X : cx_G} {y : Nat → Nat} {hy : Nat → Nat → Nat} {cn : Int32} {g : Nat → Option Nat} {q0 q1 q2 q3 : HS} {h2 : Nat → Nat} {rP2 : Int32} {fP2 : Nat → Int32} {rT2 : Int32} {fT2 : Nat → Int32} {rG2 : Int32} {fG2 : Nat → Int32} {rL2 : Int32} {fL2 : Nat → Int32} {rH2 : Int32} {fH2 : Nat → Int32} {gi2 : Int32} {di2 : Int32} {re2 : Int32} {ti2 : Int32} : ([46, 47, 48, 49, 50, 51, 52, 53, 54, 55, 56, 2, 3, 4, 5, 6, 7, 8, 9, 10, 11, 12] : List Nat).map (fun i => (wHg X y hy cn g q0 q1 q2 q3 ++ wHo X h2 rP2 fP2 rT2 fT2 rG2 fG2 rL2 fL2 rH2 fH2 gi2 di2 re2 ti2)[i]?) = (wHo X h2 rP2 fP2 rT2 fT2 rG2 fG2 rL2 fL2 rH2 fH2 gi2 di2 re2 ti2 ++ wHs X (hy 0) q0).map some := by rfl
theorem kJ_0 {X : cx_G} {y : Nat → Nat} {hy : Nat → Nat → Nat} {cn : Int32} {g : Nat → Option Nat} {q0 q1 q2 q3 : HS} {h2 : Nat → Nat} {rP2 : Int32} {fP2 : Nat → Int32} {rT2 : Int32} {fT2 : Nat → Int32} {rG2 : Int32} {fG2 : Nat → Int32} {rL2 : Int32} {fL2 : Nat → Int32} {rH2 : Int32} {fH2 : Nat → Int32} {gi2 : Int32} {di2 : Int32} {re2 : Int32} {ti2 : Int32} {q' : HS} : pj 0 [2, 3, 4, 5, 6, 7, 8, 9, 10, 11, 12, 46, 47, 48, 49, 50, 51, 52, 53, 54, 55, 56] (wHs X (hy 0) q' ++ wHo X h2 rP2 fP2 rT2 fT2 rG2 fG2 rL2 fL2 rH2 fH2 gi2 di2 re2 ti2) (wHg X y hy cn g q0 q1 q2 q3 ++ wHo X h2 rP2 fP2 rT2 fT2 rG2 fG2 rL2 fL2 rH2 fH2 gi2 di2 re2 ti2) (wHg X y hy cn g q' q1 q2 q3 ++ wHo X h2 rP2 fP2 rT2 fT2 rG2 fG2 rL2 fL2 rH2 fH2 gi2 di2 re2 ti2) := pj_app 46 rfl rfl (pj_app 2 rfl rfl (pj_old 2 rfl (by decide +kernel)) (pj_app 11 rfl rfl (pj_new fun q hq => List.mem_append_left _ hq) (pj_app 11 rfl rfl (pj_old 11 rfl (by decide +kernel)) (pj_app 11 rfl rfl (pj_old 11 rfl (by decide +kernel)) (pj_old 11 rfl (by decide +kernel)))))) (pj_new fun q hq => List.mem_append_right _ hq)
theorem gJ_0 {X : cx_G} {y : Nat → Nat} {hy : Nat → Nat → Nat} {cn : Int32} {g : Nat → Option Nat} {q0 q1 q2 q3 : HS} {h2 : Nat → Nat} {rP2 : Int32} {fP2 : Nat → Int32} {rT2 : Int32} {fT2 : Nat → Int32} {rG2 : Int32} {fG2 : Nat → Int32} {rL2 : Int32} {fL2 : Nat → Int32} {rH2 : Int32} {fH2 : Nat → Int32} {gi2 : Int32} {di2 : Int32} {re2 : Int32} {ti2 : Int32} {rP2' : Int32} {fP2' : Nat → Int32} {rT2' : Int32} {fT2' : Nat → Int32} {rG2' : Int32} {fG2' : Nat → Int32} {rL2' : Int32} {fL2' : Nat → Int32} {rH2' : Int32} {fH2' : Nat → Int32} {gi2' : Int32} {di2' : Int32} {re2' : Int32} {ti2' : Int32} : pj 0 [46, 47, 48, 49, 50, 51, 52, 53, 54, 55, 56, 2, 3, 4, 5, 6, 7, 8, 9, 10, 11, 12] (wHo X h2 rP2' fP2' rT2' fT2' rG2' fG2' rL2' fL2' rH2' fH2' gi2' di2' re2' ti2' ++ wHs X (hy 0) q0) (wHg X y hy cn g q0 q1 q2 q3 ++ wHo X h2 rP2 fP2 rT2 fT2 rG2 fG2 rL2 fL2 rH2 fH2 gi2 di2 re2 ti2) (wHg X y hy cn g q0 q1 q2 q3 ++ wHo X h2 rP2' fP2' rT2' fT2' rG2' fG2' rL2' fL2' rH2' fH2' gi2' di2' re2' ti2') := pj_app 46 rfl rfl (pj_app 2 rfl rfl (pj_old 2 rfl (by decide +kernel)) (pj_app 11 rfl rfl (pj_new fun q hq => List.mem_append_right _ hq) (pj_app 11 rfl rfl (pj_old 11 rfl (by decide +kernel)) (pj_app 11 rfl rfl (pj_old 11 rfl (by decide +kernel)) (pj_old 11 rfl (by decide +kernel)))))) (pj_new fun q hq => List.mem_append_left _ hq)
theorem kC_1 {X : cx_G} {y : Nat → Nat} {hy : Nat → Nat → Nat} {cn : Int32} {g : Nat → Option Nat} {q0 q1 q2 q3 : HS} {h2 : Nat → Nat} {rP2 : Int32} {fP2 : Nat → Int32} {rT2 : Int32} {fT2 : Nat → Int32} {rG2 : Int32} {fG2 : Nat → Int32} {rL2 : Int32} {fL2 : Nat → Int32} {rH2 : Int32} {fH2 : Nat → Int32} {gi2 : Int32} {di2 : Int32} {re2 : Int32} {ti2 : Int32} : ([13, 14, 15, 16, 17, 18, 19, 20, 21, 22, 23, 46, 47, 48, 49, 50, 51, 52, 53, 54, 55, 56] : List Nat).map (fun i => (wHg X y hy cn g q0 q1 q2 q3 ++ wHo X h2 rP2 fP2 rT2 fT2 rG2 fG2 rL2 fL2 rH2 fH2 gi2 di2 re2 ti2)[i]?) = (wHs X (hy 1) q1 ++ wHo X h2 rP2 fP2 rT2 fT2 rG2 fG2 rL2 fL2 rH2 fH2 gi2 di2 re2 ti2).map some := by rfl
theorem gC_1 {X : cx_G} {y : Nat → Nat} {hy : Nat → Nat → Nat} {cn : Int32} {g : Nat → Option Nat} {q0 q1 q2 q3 : HS} {h2 : Nat → Nat} {rP2 : Int32} {fP2 : Nat → Int32} {rT2 : Int32} {fT2 : Nat → Int32} {rG2 : Int32} {fG2 : Nat → Int32} {rL2 : Int32} {fL2 : Nat → Int32} {rH2 : Int32} {fH2 : Nat → Int32} {gi2 : Int32} {di2 : Int32} {re2 : Int32} {ti2 : Int32} : ([46, 47, 48, 49, 50, 51, 52, 53, 54, 55, 56, 13, 14, 15, 16, 17, 18, 19, 20, 21, 22, 23] : List Nat).map (fun i => (wHg X y hy cn g q0 q1 q2 q3 ++ wHo X h2 rP2 fP2 rT2 fT2 rG2 fG2 rL2 fL2 rH2 fH2 gi2 di2 re2 ti2)[i]?) = (wHo X h2 rP2 fP2 rT2 fT2 rG2 fG2 rL2 fL2 rH2 fH2 gi2 di2 re2 ti2 ++ wHs X (hy 1) q1).map some := by rfl
theorem kJ_1 {X : cx_G} {y : Nat → Nat} {hy : Nat → Nat → Nat} {cn : Int32} {g : Nat → Option Nat} {q0 q1 q2 q3 : HS} {h2 : Nat → Nat} {rP2 : Int32} {fP2 : Nat → Int32} {rT2 : Int32} {fT2 : Nat → Int32} {rG2 : Int32} {fG2 : Nat → Int32} {rL2 : Int32} {fL2 : Nat → Int32} {rH2 : Int32} {fH2 : Nat → Int32} {gi2 : Int32} {di2 : Int32} {re2 : Int32} {ti2 : Int32} {q' : HS} : pj 0 [13, 14, 15, 16, 17, 18, 19, 20, 21, 22, 23, 46, 47, 48, 49, 50, 51, 52, 53, 54, 55, 56] (wHs X (hy 1) q' ++ wHo X h2 rP2 fP2 rT2 fT2 rG2 fG2 rL2 fL2 rH2 fH2 gi2 di2 re2 ti2) (wHg X y hy cn g q0 q1 q2 q3 ++ wHo X h2 rP2 fP2 rT2 fT2 rG2 fG2 rL2 fL2 rH2 fH2 gi2 di2 re2 ti2) (wHg X y hy cn g q0 q' q2 q3 ++ wHo X h2 rP2 fP2 rT2 fT2 rG2 fG2 rL2 fL2 rH2 fH2 gi2 di2 re2 ti2) := pj_app 46 rfl rfl (pj_app 2 rfl rfl (pj_old 2 rfl (by decide +kernel)) (pj_app 11 rfl rfl (pj_old 11 rfl (by decide +kernel)) (pj_app 11 rfl rfl (pj_new fun q hq => List.mem_append_left _ hq) (pj_app 11 rfl rfl (pj_old 11 rfl (by decide +kernel)) (pj_old 11 rfl (by decide +kernel)))))) (pj_new fun q hq => List.mem_append_right _ hq)
theorem gJ_1 {X : cx_G} {y : Nat → Nat} {hy : Nat → Nat → Nat} {cn : Int32} {g : Nat → Option Nat} {q0 q1 q2 q3 : HS} {h2 : Nat → Nat} {rP2 : Int32} {fP2 : Nat → Int32} {rT2 : Int32} {fT2 : Nat → Int32} {rG2 : Int32} {fG2 : Nat → Int32} {rL2 : Int32} {fL2 : Nat → Int32} {rH2 : Int32} {fH2 : Nat → Int32} {gi2 : Int32} {di2 : Int32} {re2 : Int32} {ti2 : Int32} {rP2' : Int32} {fP2' : Nat → Int32} {rT2' : Int32} {fT2' : Nat → Int32} {rG2' : Int32} {fG2' : Nat → Int32} {rL2' : Int32} {fL2' : Nat → Int32} {rH2' : Int32} {fH2' : Nat → Int32} {gi2' : Int32} {di2' : Int32} {re2' : Int32} {ti2' : Int32} : pj 0 [46, 47, 48, 49, 50, 51, 52, 53, 54, 55, 56, 13, 14, 15, 16, 17, 18, 19, 20, 21, 22, 23] (wHo X h2 rP2' fP2' rT2' fT2' rG2' fG2' rL2' fL2' rH2' fH2' gi2' di2' re2' ti2' ++ wHs X (hy 1) q1) (wHg X y hy cn g q0 q1 q2 q3 ++ wHo X h2 rP2 fP2 rT2 fT2 rG2 fG2 rL2 fL2 rH2 fH2 gi2 di2 re2 ti2) (wHg X y hy cn g q0 q1 q2 q3 ++ wHo X h2 rP2' fP2' rT2' fT2' rG2' fG2' rL2' fL2' rH2' fH2' gi2' di2' re2' ti2') := pj_app 46 rfl rfl (pj_app 2 rfl rfl (pj_old 2 rfl (by decide +kernel)) (pj_app 11 rfl rfl (pj_old 11 rfl (by decide +kernel)) (pj_app 11 rfl rfl (pj_new fun q hq => List.mem_append_right _ hq) (pj_app 11 rfl rfl (pj_old 11 rfl (by decide +kernel)) (pj_old 11 rfl (by decide +kernel)))))) (pj_new fun q hq => List.mem_append_left _ hq)
theorem kC_2 {X : cx_G} {y : Nat → Nat} {hy : Nat → Nat → Nat} {cn : Int32} {g : Nat → Option Nat} {q0 q1 q2 q3 : HS} {h2 : Nat → Nat} {rP2 : Int32} {fP2 : Nat → Int32} {rT2 : Int32} {fT2 : Nat → Int32} {rG2 : Int32} {fG2 : Nat → Int32} {rL2 : Int32} {fL2 : Nat → Int32} {rH2 : Int32} {fH2 : Nat → Int32} {gi2 : Int32} {di2 : Int32} {re2 : Int32} {ti2 : Int32} : ([24, 25, 26, 27, 28, 29, 30, 31, 32, 33, 34, 46, 47, 48, 49, 50, 51, 52, 53, 54, 55, 56] : List Nat).map (fun i => (wHg X y hy cn g q0 q1 q2 q3 ++ wHo X h2 rP2 fP2 rT2 fT2 rG2 fG2 rL2 fL2 rH2 fH2 gi2 di2 re2 ti2)[i]?) = (wHs X (hy 2) q2 ++ wHo X h2 rP2 fP2 rT2 fT2 rG2 fG2 rL2 fL2 rH2 fH2 gi2 di2 re2 ti2).map some := by rfl
theorem gC_2 {X : cx_G} {y : Nat → Nat} {hy : Nat → Nat → Nat} {cn : Int32} {g : Nat → Option Nat} {q0 q1 q2 q3 : HS} {h2 : Nat → Nat} {rP2 : Int32} {fP2 : Nat → Int32} {rT2 : Int32} {fT2 : Nat → Int32} {rG2 : Int32} {fG2 : Nat → Int32} {rL2 : Int32} {fL2 : Nat → Int32} {rH2 : Int32} {fH2 : Nat → Int32} {gi2 : Int32} {di2 : Int32} {re2 : Int32} {ti2 : Int32} : ([46, 47, 48, 49, 50, 51, 52, 53, 54, 55, 56, 24, 25, 26, 27, 28, 29, 30, 31, 32, 33, 34] : List Nat).map (fun i => (wHg X y hy cn g q0 q1 q2 q3 ++ wHo X h2 rP2 fP2 rT2 fT2 rG2 fG2 rL2 fL2 rH2 fH2 gi2 di2 re2 ti2)[i]?) = (wHo X h2 rP2 fP2 rT2 fT2 rG2 fG2 rL2 fL2 rH2 fH2 gi2 di2 re2 ti2 ++ wHs X (hy 2) q2).map some := by rfl
theorem kJ_2 {X : cx_G} {y : Nat → Nat} {hy : Nat → Nat → Nat} {cn : Int32} {g : Nat → Option Nat} {q0 q1 q2 q3 : HS} {h2 : Nat → Nat} {rP2 : Int32} {fP2 : Nat → Int32} {rT2 : Int32} {fT2 : Nat → Int32} {rG2 : Int32} {fG2 : Nat → Int32} {rL2 : Int32} {fL2 : Nat → Int32} {rH2 : Int32} {fH2 : Nat → Int32} {gi2 : Int32} {di2 : Int32} {re2 : Int32} {ti2 : Int32} {q' : HS} : pj 0 [24, 25, 26, 27, 28, 29, 30, 31, 32, 33, 34, 46, 47, 48, 49, 50, 51, 52, 53, 54, 55, 56] (wHs X (hy 2) q' ++ wHo X h2 rP2 fP2 rT2 fT2 rG2 fG2 rL2 fL2 rH2 fH2 gi2 di2 re2 ti2) (wHg X y hy cn g q0 q1 q2 q3 ++ wHo X h2 rP2 fP2 rT2 fT2 rG2 fG2 rL2 fL2 rH2 fH2 gi2 di2 re2 ti2) (wHg X y hy cn g q0 q1 q' q3 ++ wHo X h2 rP2 fP2 rT2 fT2 rG2 fG2 rL2 fL2 rH2 fH2 gi2 di2 re2 ti2) := pj_app 46 rfl rfl (pj_app 2 rfl rfl (pj_old 2 rfl (by decide +kernel)) (pj_app 11 rfl rfl (pj_old 11 rfl (by decide +kernel)) (pj_app 11 rfl rfl (pj_old 11 rfl (by decide +kernel)) (pj_app 11 rfl rfl (pj_new fun q hq => List.mem_append_left _ hq) (pj_old 11 rfl (by decide +kernel)))))) (pj_new fun q hq => List.mem_append_right _ hq)
theorem gJ_2 {X : cx_G} {y : Nat → Nat} {hy : Nat → Nat → Nat} {cn : Int32} {g : Nat → Option Nat} {q0 q1 q2 q3 : HS} {h2 : Nat → Nat} {rP2 : Int32} {fP2 : Nat → Int32} {rT2 : Int32} {fT2 : Nat → Int32} {rG2 : Int32} {fG2 : Nat → Int32} {rL2 : Int32} {fL2 : Nat → Int32} {rH2 : Int32} {fH2 : Nat → Int32} {gi2 : Int32} {di2 : Int32} {re2 : Int32} {ti2 : Int32} {rP2' : Int32} {fP2' : Nat → Int32} {rT2' : Int32} {fT2' : Nat → Int32} {rG2' : Int32} {fG2' : Nat → Int32} {rL2' : Int32} {fL2' : Nat → Int32} {rH2' : Int32} {fH2' : Nat → Int32} {gi2' : Int32} {di2' : Int32} {re2' : Int32} {ti2' : Int32} : pj 0 [46, 47, 48, 49, 50, 51, 52, 53, 54, 55, 56, 24, 25, 26, 27, 28, 29, 30, 31, 32, 33, 34] (wHo X h2 rP2' fP2' rT2' fT2' rG2' fG2' rL2' fL2' rH2' fH2' gi2' di2' re2' ti2' ++ wHs X (hy 2) q2) (wHg X y hy cn g q0 q1 q2 q3 ++ wHo X h2 rP2 fP2 rT2 fT2 rG2 fG2 rL2 fL2 rH2 fH2 gi2 di2 re2 ti2) (wHg X y hy cn g q0 q1 q2 q3 ++ wHo X h2 rP2' fP2' rT2' fT2' rG2' fG2' rL2' fL2' rH2' fH2' gi2' di2' re2' ti2') := pj_app 46 rfl rfl (pj_app 2 rfl rfl (pj_old 2 rfl (by decide +kernel)) (pj_app 11 rfl rfl (pj_old 11 rfl (by decide +kernel)) (pj_app 11 rfl rfl (pj_old 11 rfl (by decide +kernel)) (pj_app 11 rfl rfl (pj_new fun q hq => List.mem_append_right _ hq) (pj_old 11 rfl (by decide +kernel)))))) (pj_new fun q hq => List.mem_append_left _ hq)
theorem kC_3 {X : cx_G} {y : Nat → Nat} {hy : Nat → Nat → Nat} {cn : Int32} {g : Nat → Option Nat} {q0 q1 q2 q3 : HS} {h2 : Nat → Nat} {rP2 : Int32} {fP2 : Nat → Int32} {rT2 : Int32} {fT2 : Nat → Int32} {rG2 : Int32} {fG2 : Nat → Int32} {rL2 : Int32} {fL2 : Nat → Int32} {rH2 : Int32} {fH2 : Nat → Int32} {gi2 : Int32} {di2 : Int32} {re2 : Int32} {ti2 : Int32} : ([35, 36, 37, 38, 39, 40, 41, 42, 43, 44, 45, 46, 47, 48, 49, 50, 51, 52, 53, 54, 55, 56] : List Nat).map (fun i => (wHg X y hy cn g q0 q1 q2 q3 ++ wHo X h2 rP2 fP2 rT2 fT2 rG2 fG2 rL2 fL2 rH2 fH2 gi2 di2 re2 ti2)[i]?) = (wHs X (hy 3) q3 ++ wHo X h2 rP2 fP2 rT2 fT2 rG2 fG2 rL2 fL2 rH2 fH2 gi2 di2 re2 ti2).map some := by rfl
theorem gC_3 {X : cx_G} {y : Nat → Nat} {hy : Nat → Nat → Nat} {cn : Int32} {g : Nat → Option Nat} {q0 q1 q2 q3 : HS} {h2 : Nat → Nat} {rP2 : Int32} {fP2 : Nat → Int32} {rT2 : Int32} {fT2 : Nat → Int32} {rG2 : Int32} {fG2 : Nat → Int32} {rL2 : Int32} {fL2 : Nat → Int32} {rH2 : Int32} {fH2 : Nat → Int32} {gi2 : Int32} {di2 : Int32} {re2 : Int32} {ti2 : Int32} : ([46, 47, 48, 49, 50, 51, 52, 53, 54, 55, 56, 35, 36, 37, 38, 39, 40, 41, 42, 43, 44, 45] : List Nat).map (fun i => (wHg X y hy cn g q0 q1 q2 q3 ++ wHo X h2 rP2 fP2 rT2 fT2 rG2 fG2 rL2 fL2 rH2 fH2 gi2 di2 re2 ti2)[i]?) = (wHo X h2 rP2 fP2 rT2 fT2 rG2 fG2 rL2 fL2 rH2 fH2 gi2 di2 re2 ti2 ++ wHs X (hy 3) q3).map some := by rfl
theorem kJ_3 {X : cx_G} {y : Nat → Nat} {hy : Nat → Nat → Nat} {cn : Int32} {g : Nat → Option Nat} {q0 q1 q2 q3 : HS} {h2 : Nat → Nat} {rP2 : Int32} {fP2 : Nat → Int32} {rT2 : Int32} {fT2 : Nat → Int32} {rG2 : Int32} {fG2 : Nat → Int32} {rL2 : Int32} {fL2 : Nat → Int32} {rH2 : Int32} {fH2 : Nat → Int32} {gi2 : Int32} {di2 : Int32} {re2 : Int32} {ti2 : Int32} {q' : HS} : pj 0 [35, 36, 37, 38, 39, 40, 41, 42, 43, 44, 45, 46, 47, 48, 49, 50, 51, 52, 53, 54, 55, 56] (wHs X (hy 3) q' ++ wHo X h2 rP2 fP2 rT2 fT2 rG2 fG2 rL2 fL2 rH2 fH2 gi2 di2 re2 ti2) (wHg X y hy cn g q0 q1 q2 q3 ++ wHo X h2 rP2 fP2 rT2 fT2 rG2 fG2 rL2 fL2 rH2 fH2 gi2 di2 re2 ti2) (wHg X y hy cn g q0 q1 q2 q' ++ wHo X h2 rP2 fP2 rT2 fT2 rG2 fG2 rL2 fL2 rH2 fH2 gi2 di2 re2 ti2) := pj_app 46 rfl rfl (pj_app 2 rfl rfl (pj_old 2 rfl (by decide +kernel)) (pj_app 11 rfl rfl (pj_old 11 rfl (by decide +kernel)) (pj_app 11 rfl rfl (pj_old 11 rfl (by decide +kernel)) (pj_app 11 rfl rfl (pj_old 11 rfl (by decide +kernel)) (pj_new fun q hq => List.mem_append_left _ hq))))) (pj_new fun q hq => List.mem_append_right _ hq)
theorem gJ_3 {X : cx_G} {y : Nat → Nat} {hy : Nat → Nat → Nat} {cn : Int32} {g : Nat → Option Nat} {q0 q1 q2 q3 : HS} {h2 : Nat → Nat} {rP2 : Int32} {fP2 : Nat → Int32} {rT2 : Int32} {fT2 : Nat → Int32} {rG2 : Int32} {fG2 : Nat → Int32} {rL2 : Int32} {fL2 : Nat → Int32} {rH2 : Int32} {fH2 : Nat → Int32} {gi2 : Int32} {di2 : Int32} {re2 : Int32} {ti2 : Int32} {rP2' : Int32} {fP2' : Nat → Int32} {rT2' : Int32} {fT2' : Nat → Int32} {rG2' : Int32} {fG2' : Nat → Int32} {rL2' : Int32} {fL2' : Nat → Int32} {rH2' : Int32} {fH2' : Nat → Int32} {gi2' : Int32} {di2' : Int32} {re2' : Int32} {ti2' : Int32} : pj 0 [46, 47, 48, 49, 50, 51, 52, 53, 54, 55, 56, 35, 36, 37, 38, 39, 40, 41, 42, 43, 44, 45] (wHo X h2 rP2' fP2' rT2' fT2' rG2' fG2' rL2' fL2' rH2' fH2' gi2' di2' re2' ti2' ++ wHs X (hy 3) q3) (wHg X y hy cn g q0 q1 q2 q3 ++ wHo X h2 rP2 fP2 rT2 fT2 rG2 fG2 rL2 fL2 rH2 fH2 gi2 di2 re2 ti2) (wHg X y hy cn g q0 q1 q2 q3 ++ wHo X h2 rP2' fP2' rT2' fT2' rG2' fG2' rL2' fL2' rH2' fH2' gi2' di2' re2' ti2') := pj_app 46 rfl rfl (pj_app 2 rfl rfl (pj_old 2 rfl (by decide +kernel)) (pj_app 11 rfl rfl (pj_old 11 rfl (by decide +kernel)) (pj_app 11 rfl rfl (pj_old 11 rfl (by decide +kernel)) (pj_app 11 rfl rfl (pj_old 11 rfl (by decide +kernel)) (pj_new fun q hq => List.mem_append_right _ hq))))) (pj_new fun q hq => List.mem_append_left _ hq)
theorem mC {X : cx_G} {y : Nat → Nat} {hy : Nat → Nat → Nat} {cn : Int32} {g : Nat → Option Nat} {q0 q1 q2 q3 : HS} {h2 : Nat → Nat} {rP2 : Int32} {fP2 : Nat → Int32} {rT2 : Int32} {fT2 : Nat → Int32} {rG2 : Int32} {fG2 : Nat → Int32} {rL2 : Int32} {fL2 : Nat → Int32} {rH2 : Int32} {fH2 : Nat → Int32} {gi2 : Int32} {di2 : Int32} {re2 : Int32} {ti2 : Int32} : ([0, 1, 2, 3, 4, 5, 6, 7, 8, 9, 10, 11, 12, 13, 14, 15, 16, 17, 18, 19, 20, 21, 22, 23, 24, 25, 26, 27, 28, 29, 30, 31, 32, 33, 34, 35, 36, 37, 38, 39, 40, 41, 42, 43, 44, 45] : List Nat).map (fun i => (wHg X y hy cn g q0 q1 q2 q3 ++ wHo X h2 rP2 fP2 rT2 fT2 rG2 fG2 rL2 fL2 rH2 fH2 gi2 di2 re2 ti2)[i]?) = (wHg X y hy cn g q0 q1 q2 q3).map some := by rfl
theorem mJ {X : cx_G} {y : Nat → Nat} {hy : Nat → Nat → Nat} {cn : Int32} {g : Nat → Option Nat} {q0 q1 q2 q3 : HS} {h2 : Nat → Nat} {rP2 : Int32} {fP2 : Nat → Int32} {rT2 : Int32} {fT2 : Nat → Int32} {rG2 : Int32} {fG2 : Nat → Int32} {rL2 : Int32} {fL2 : Nat → Int32} {rH2 : Int32} {fH2 : Nat → Int32} {gi2 : Int32} {di2 : Int32} {re2 : Int32} {ti2 : Int32} {cn' : Int32} {g' : Nat → Option Nat} : pj 0 [0, 1, 2, 3, 4, 5, 6, 7, 8, 9, 10, 11, 12, 13, 14, 15, 16, 17, 18, 19, 20, 21, 22, 23, 24, 25, 26, 27, 28, 29, 30, 31, 32, 33, 34, 35, 36, 37, 38, 39, 40, 41, 42, 43, 44, 45] (wHg X y hy cn' g' q0 q1 q2 q3) (wHg X y hy cn g q0 q1 q2 q3 ++ wHo X h2 rP2 fP2 rT2 fT2 rG2 fG2 rL2 fL2 rH2 fH2 gi2 di2 re2 ti2) (wHg X y hy cn' g' q0 q1 q2 q3 ++ wHo X h2 rP2 fP2 rT2 fT2 rG2 fG2 rL2 fL2 rH2 fH2 gi2 di2 re2 ti2) := pj_app 46 rfl rfl (pj_new fun q hq => hq) (pj_old 11 rfl (by decide +kernel))
