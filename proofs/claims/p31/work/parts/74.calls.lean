/-! ===== PURE: the class's calls over states ===== -/
theorem pb_ : ∀ p : Fin 10, ¬ btw (nI p) 0 9 = 0 := by decide +kernel
theorem pb {p : Nat} (hp : p < 10) : ¬ btw (nI p) 0 9 = 0 := pb_ ⟨p, hp⟩
theorem tb {t n : Nat} (ht : t < n) (hn : n ≤ 8) : ¬ hs_ (nI t) n = 0 := by
  unfold hs_
  rw [if_neg (nI_pos (by omega)), if_neg (q_nle (by omega) (by omega) (by omega))]
  decide
/-- the history takes one more state in -/
def KP (cn : Int32) (ro : Nat) : Prop := (∃ m : Nat, m ≤ 4 ∧ cn = nI m) ∧ ro < 4
theorem x_keep {rP rT rG rL rH gi di re ti : Int32} {fP fT fG fL fH : Nat → Int32} {P T G Lg : List rw_} {cn : Int32} {ro : Nat} {Qh : Nat → HS} (o : OS P T G Lg) (c : CS rP fP rT fT rG fG rL fL rH fH P T G Lg) (kp : KP cn ro) : ∃ (cn' : Int32) (ro' : Nat) (Q' : Nat → HS), f_X1_keep cn ro Qh rP fP rT fT rG fG rL fL rH fH gi di re ti = some (cn', ro', Q') ∧ KP cn' ro' := by
  obtain ⟨⟨m, hm, rfl⟩, hr⟩ := kp
  rw [keep_eq hm hr]
  by_cases h : m < 4
  · rw [if_pos h]
    obtain ⟨q', e, _⟩ := hk_putS (Q := Qh) (cn' := nI (m + 1)) (ro' := ro) (j := (m + ro) % 4) (s := (P, T, G, Lg, gi, di, re, ti)) o ⟨c, rfl, rfl, rfl, rfl⟩
    exact ⟨_, _, _, e, ⟨m + 1, by omega, rfl⟩, hr⟩
  · rw [if_neg h]
    obtain ⟨q', e, _⟩ := hk_putS (Q := Qh) (cn' := 4) (ro' := (ro + 1) % 4) (j := ro) (s := (P, T, G, Lg, gi, di, re, ti)) o ⟨c, rfl, rfl, rfl, rfl⟩
    exact ⟨_, _, _, e, ⟨4, Nat.le_refl _, rfl⟩, Nat.mod_lt _ (by omega)⟩
theorem x_addThing {rP rT rG rL rH gi di re ti : Int32} {fP fT fG fL fH : Nat → Int32} {P T G Lg : List rw_} {cn : Int32} {ro : Nat} {Qh : Nat → HS} (o : OS P T G Lg) (c : CS rP fP rT fT rG fG rL fL rH fH P T G Lg) (kp : KP cn ro) (hl : T.length < 8) {p : Nat} {y : Int32} (hp : p < 10) (hy : okN 8 y) (hy2 : ¬ btw y 0 7 = 0) : ∃ (aT aH : Nat → Int32) (cn' : Int32) (ro' : Nat) (Q' : Nat → HS), f_X5_addThing (nI p) y rP fP rT fT rG fG rL fL rH fH gi di re ti cn ro Qh = some (.inr (nI T.length, nI (T.length + 1), aT, nI (T.length + 1), aH, cn', ro', Q')) ∧ CS rP fP (nI (T.length + 1)) aT rG fG rL fL (nI (T.length + 1)) aH P (T ++ [g2 (nI p) y]) G Lg ∧ KP cn' ro' := by
  obtain ⟨cn', ro', Q', k1, k2⟩ := x_keep (Qh := Qh) (gi := gi) (di := di) (re := re) (ti := ti) o c kp
  obtain ⟨aT, aH, t1, t2⟩ := c_takeIn (x := nI p) o c hl (okN_nI hp (by omega)) hy
  have ef : f_X3_isFull (8 : Int32) rT = some 0 := by
    unfold f_X3_isFull
    rw [c.2.1.2.1.1]
    rw [if_pos (show nI T.length < (8 : Int32) from q_lt (b := 8) (by omega) (by omega) hl)]
  refine ⟨aT, aH, cn', ro', Q', ?_, t2, k2⟩
  unfold f_X5_addThing
  rw [c_reqP, if_neg (pb hp), bx_r, c_reqM, if_neg hy2, bx_r, ef, bd_some, if_pos rfl, k1, bd3_some, t1, bd5_some]
theorem x_setMask {rP rT rG rL rH gi di re ti : Int32} {fP fT fG fL fH : Nat → Int32} {P T G Lg : List rw_} {cn : Int32} {ro : Nat} {Qh : Nat → HS} (o : OS P T G Lg) (c : CS rP fP rT fT rG fG rL fL rH fH P T G Lg) (kp : KP cn ro) {t : Nat} (ht : t < T.length) {y : Int32} (hy : okN 8 y) (hy2 : ¬ btw y 0 7 = 0) : ∃ (aT aH : Nat → Int32) (cn' : Int32) (ro' : Nat) (Q' : Nat → HS), f_X5_setMask (nI t) y rP fP rT fT rG fG rL fL rH fH gi di re ti cn ro Qh = some (.inr (T.getD t z_ 1, aT, aH, cn', ro', Q')) ∧ CS rP fP rT aT rG fG rL fL rH aH P (T.set t (upd (T.getD t z_) 1 y)) G Lg ∧ KP cn' ro' := by
  obtain ⟨cn', ro', Q', k1, k2⟩ := x_keep (Qh := Qh) (gi := gi) (di := di) (re := re) (ti := ti) o c kp
  obtain ⟨aT, aH, t1, t2⟩ := c_change (v := y) (j := 1) o c ht (by omega) ⟨(o.2.2.1.2.2.2 t ht).1, hy⟩
  have t1 : f_X2_changeThing (nI t) (1 : Int32) y rT fT rG fG rH fH = some (T.getD t z_ 1, aT, aH) := t1
  refine ⟨aT, aH, cn', ro', Q', ?_, t2, k2⟩
  unfold f_X5_setMask
  rw [c_reqT _ c.2.1.2.1, if_neg (tb ht o.2.2.1.2.1), bx_r, c_reqM, if_neg hy2, bx_r, k1, bd3_some, t1, bd3_some]
theorem x_give {rP rT rG rL rH gi di re ti : Int32} {fP fT fG fL fH : Nat → Int32} {P T G Lg : List rw_} {cn : Int32} {ro : Nat} {Qh : Nat → HS} (o : OS P T G Lg) (c : CS rP fP rT fT rG fG rL fL rH fH P T G Lg) (kp : KP cn ro) {t : Nat} (ht : t < T.length) {p : Nat} (hp : p < 10) : ∃ (aT aH : Nat → Int32) (cn' : Int32) (ro' : Nat) (Q' : Nat → HS), f_X5_give (nI t) (nI p) rP fP rT fT rG fG rL fL rH fH gi di re ti cn ro Qh = some (.inr (T.getD t z_ 0, aT, aH, cn', ro', Q')) ∧ CS rP fP rT aT rG fG rL fL rH aH P (T.set t (upd (T.getD t z_) 0 (nI p))) G Lg ∧ KP cn' ro' := by
  obtain ⟨cn', ro', Q', k1, k2⟩ := x_keep (Qh := Qh) (gi := gi) (di := di) (re := re) (ti := ti) o c kp
  obtain ⟨aT, aH, t1, t2⟩ := c_change (v := (nI p)) (j := 0) o c ht (by omega) ⟨okN_nI hp (by omega), (o.2.2.1.2.2.2 t ht).2⟩
  have t1 : f_X2_changeThing (nI t) (0 : Int32) (nI p) rT fT rG fG rH fH = some (T.getD t z_ 0, aT, aH) := t1
  refine ⟨aT, aH, cn', ro', Q', ?_, t2, k2⟩
  unfold f_X5_give
  rw [c_reqP, if_neg (pb hp), bx_r, c_reqT _ c.2.1.2.1, if_neg (tb ht o.2.2.1.2.1), bx_r, k1, bd3_some, t1, bd3_some]
theorem x_setBase {rP rT rG rL rH gi di re ti : Int32} {fP fT fG fL fH : Nat → Int32} {P T G Lg : List rw_} {cn : Int32} {ro : Nat} {Qh : Nat → HS} (o : OS P T G Lg) (c : CS rP fP rT fT rG fG rL fL rH fH P T G Lg) (kp : KP cn ro) {p : Nat} {y : Int32} (hp : p < 10) (hy2 : ¬ btw y 0 100 = 0) : ∃ (aP : Nat → Int32) (cn' : Int32) (ro' : Nat) (Q' : Nat → HS), f_X5_setBase (nI p) y rP fP rT fT rG fG rL fL rH fH gi di re ti cn ro Qh = some (.inr (P.getD p z_ 1, aP, cn', ro', Q')) ∧ CS rP aP rT fT rG fG rL fL rH fH (sPb P p y) T G Lg ∧ KP cn' ro' := by
  obtain ⟨cn', ro', Q', k1, k2⟩ := x_keep (Qh := Qh) (gi := gi) (di := di) (re := re) (ti := ti) o c kp
  have hl := o.1
  have e1 := c.1.put (lim := 10) (n := 20) (R := p) (C := 1) (v := y) (by omega) (by omega) (by omega) (by omega) (by omega) (by omega) (by omega)
  have e2 : f_X3_put (2 : Int32) 20 (nI p) (1 : Int32) y rP fP = some (upd fP (p * 2 + 1) y) := e1.1
  refine ⟨_, cn', ro', Q', ?_, ⟨e1.2, c.2⟩, k2⟩
  unfold f_X5_setBase
  rw [c_reqP, if_neg (pb hp), bx_r, c_reqR, if_neg hy2, bx_r, k1, bd3_some, c.1.bs hl hp, bd_some, e2, bd_some]
theorem x_cheer {rP rT rG rL rH gi di re ti : Int32} {fP fT fG fL fH : Nat → Int32} {P T G Lg : List rw_} {cn : Int32} {ro : Nat} {Qh : Nat → HS} (o : OS P T G Lg) (c : CS rP fP rT fT rG fG rL fL rH fH P T G Lg) (kp : KP cn ro) {p : Nat} {y : Int32} (hp : p < 10) (hy2 : ¬ btw y (-100) 100 = 0) : ∃ (v rG' rL' : Int32) (aP aG aL aH : Nat → Int32) (cn' : Int32) (ro' : Nat) (Q' : Nat → HS), v = clv (P.getD p z_ 0 + y) ∧ f_X5_cheer (nI p) y rP fP rT fT rG fG rL fL rH fH gi di re ti cn ro Qh = some (.inr (v, aP, rG', aG, rL', aL, aH, di + nI (ndy (sPm P p v) G), cn', ro', Q')) ∧ CS rP aP rT fT rG' aG rL' aL rH aH (sPm P p v) T (kept (sPm P p v) G) (bur (sPm P p v) ti G Lg) ∧ KP cn' ro' := by
  obtain ⟨cn', ro', Q', k1, k2⟩ := x_keep (Qh := Qh) (gi := gi) (di := di) (re := re) (ti := ti) o c kp
  obtain ⟨v, rG', rL', aP, aG, aL, aH, ev, b1, c2⟩ := c_mood (di := di) (ti := ti) (a := y) o c hp
  refine ⟨v, rG', rL', aP, aG, aL, aH, cn', ro', Q', ev, ?_, c2, k2⟩
  unfold f_X5_cheer
  rw [c_reqP, if_neg (pb hp), bx_r, c_reqR, if_neg hy2, bx_r, k1, bd3_some, b1, bd8_some]
theorem x_pass {rP rT rG rL rH gi di re ti : Int32} {fP fT fG fL fH : Nat → Int32} {P T G Lg : List rw_} {cn : Int32} {ro : Nat} {Qh : Nat → HS} (o : OS P T G Lg) (c : CS rP fP rT fT rG fG rL fL rH fH P T G Lg) (kp : KP cn ro) {N : Nat} (h1 : 1 ≤ N) (hN : N ≤ 100) (ht : ¬ (100000 : Int32) < ti + nI N) : ∃ (rG' rL' : Int32) (aP aG aL aH : Nat → Int32) (cn' : Int32) (ro' : Nat) (Q' : Nat → HS), f_X5_pass (nI N) rP fP rT fT rG fG rL fL rH fH gi di re ti cn ro Qh = some (.inr (nI (tks N (P, G, Lg, ti, 0)).2.2.2.2, aP, rG', aG, rL', aL, aH, di + nI (tks N (P, G, Lg, ti, 0)).2.2.2.2, (tks N (P, G, Lg, ti, 0)).2.2.2.1, cn', ro', Q')) ∧ CS rP aP rT fT rG' aG rL' aL rH aH (tks N (P, G, Lg, ti, 0)).1 T (tks N (P, G, Lg, ti, 0)).2.1 (tks N (P, G, Lg, ti, 0)).2.2.1 ∧ KP cn' ro' := by
  obtain ⟨cn', ro', Q', k1, k2⟩ := x_keep (Qh := Qh) (gi := gi) (di := di) (re := re) (ti := ti) o c kp
  obtain ⟨rG', rL', aP, aG, aL, aH, b1, c2⟩ := c_passes (di := di) (ti := ti) hN o c
  refine ⟨rG', rL', aP, aG, aL, aH, cn', ro', Q', ?_, c2, k2⟩
  have hr : ¬ btw (nI N) 1 100 = 0 := by
    unfold btw
    rw [if_neg (show ¬ nI N < (1 : Int32) from q_nlt (b := 1) (by omega) (by omega) h1), if_neg (show ¬ (100 : Int32) < nI N from q_nlt (a := 100) (by omega) (by omega) hN)]
    decide
  have hh : f_X2_hasTimeFor (nI N) ti = some 1 := by
    unfold f_X2_hasTimeFor
    rw [if_neg ht]
  unfold f_X5_pass
  rw [c_reqR, if_neg hr, bx_r, hh, bd_some, if_neg n10, k1, bd3_some, b1, bd9_some]
theorem x_fault {rP rT rG rL rH : Int32} {fP fT fG fL fH : Nat → Int32} {P T G Lg : List rw_} (o : OS P T G Lg) (c : CS rP fP rT fT rG fG rL fL rH fH P T G Lg) {p b t : Nat} {r h : Int32} (hp : p < 10) (hb : b < 10) (ht : t < T.length) (h4 : ¬ btw r 1 7 = 0) (h5 : ¬ btw h 0 100 = 0) (hpb : p ≠ b) : f_X2_faultOfGrant (nI p) (nI b) (nI t) r h rP fP rT rG rH fH = some (if alw P T G p t r h = 0 then 3 else 0) := by
  rw [c_fault o c hp hb ht, if_neg h4, if_neg h5, if_neg hpb]
theorem okG_g {T : List rw_} {p b t : Nat} {r h gi : Int32} (hT : T.length ≤ 8) (hp : p < 10) (hb : b < 10) (ht : t < T.length) (h4 : ¬ btw r 1 7 = 0) (h5 : ¬ btw h 0 100 = 0) : okG T.length (g6 (nI p) (nI b) (nI t) r h gi) := by
  obtain ⟨r', hr, er⟩ := b_nI2 (x := r) (lo := 1) (hi := 7) (n := 7) (by decide) (by decide) h4
  refine ⟨okN_nI hp (by omega), okN_nI hb (by omega), okN_nI ht (by omega), ?_, ok101 h5⟩
  show okN 8 r
  rw [er]
  exact okN_nI (by omega) (by omega)
theorem x_grant {rP rT rG rL rH gi di re ti : Int32} {fP fT fG fL fH : Nat → Int32} {P T G Lg : List rw_} {cn : Int32} {ro : Nat} {Qh : Nat → HS} (o : OS P T G Lg) (c : CS rP fP rT fT rG fG rL fL rH fH P T G Lg) (kp : KP cn ro) {p b t : Nat} {r h : Int32} (hp : p < 10) (hb : b < 10) (ht : t < T.length) (h4 : ¬ btw r 1 7 = 0) (h5 : ¬ btw h 0 100 = 0) (hpb : p ≠ b) (ha : ¬ alw P T G p t r h = 0) : ∃ (aG aH : Nat → Int32) (cn' : Int32) (ro' : Nat) (Q' : Nat → HS), f_X5_grant (nI p) (nI b) (nI t) r h rP fP rT fT rG fG rL fL rH fH gi di re ti cn ro Qh = some (.inr (gi, nI (G.length + 1), aG, aH, gi + 1, cn', ro', Q')) ∧ CS rP fP rT fT (nI (G.length + 1)) aG rL fL rH aH P T (G ++ [g6 (nI p) (nI b) (nI t) r h gi]) Lg ∧ KP cn' ro' := by
  obtain ⟨cn', ro', Q', k1, k2⟩ := x_keep (Qh := Qh) (gi := gi) (di := di) (re := re) (ti := ti) o c kp
  obtain ⟨aG, aH, l1, l2⟩ := c_lendG (gi := gi) o c (alw_lt o.2.2.1.1 ha) (okG_g (gi := gi) o.2.2.1.2.1 hp hb ht h4 h5)
  refine ⟨aG, aH, cn', ro', Q', ?_, l2, k2⟩
  unfold f_X5_grant
  rw [x_fault o c hp hb ht h4 h5 hpb, if_neg ha, bd_some, c_fit, if_neg (show ¬ (0 : Int32) = 1 by decide), if_neg (show ¬ (0 : Int32) = 2 by decide), bx_r, if_neg (show ¬ (0 : Int32) = 3 by decide), k1, bd3_some, l1, bd5_some]
theorem x_gainBy {rP rT rG rL rH gi di re ti : Int32} {fP fT fG fL fH : Nat → Int32} {P T G Lg : List rw_} {rPT rTT rGT rLT rHT giT diT reT tiT : Int32} {fPT fTT fGT fLT fHT : Nat → Int32} (o : OS P T G Lg) (c : CS rP fP rT fT rG fG rL fL rH fH P T G Lg) {p b t : Nat} {r h : Int32} (hp : p < 10) (hb : b < 10) (ht : t < T.length) (h4 : ¬ btw r 1 7 = 0) (h5 : ¬ btw h 0 100 = 0) (hpb : p ≠ b) : ∃ q : HS, f_X5_gainBy (nI p) (nI b) (nI t) r h rP fP rT fT rG fG rL fL rH fH gi di re ti rPT fPT rTT fTT rGT fGT rLT fLT rHT fHT giT diT reT tiT = some (.inr (if alw P T G p t r h = 0 then -1 else prs T (hd T (G ++ [g6 (nI p) (nI b) (nI t) r h gi])) - prs T (hd T G), q)) := by
  unfold f_X5_gainBy
  rw [x_fault o c hp hb ht h4 h5 hpb, bd_some]
  by_cases ha : alw P T G p t r h = 0
  · rw [if_pos ha, if_pos ha, c_fit, if_neg (show ¬ (3 : Int32) = 1 by decide), if_neg (show ¬ (3 : Int32) = 2 by decide), bx_r, if_pos rfl]
    exact ⟨(rPT, fPT, rTT, fTT, rGT, fGT, rLT, fLT, rHT, fHT, giT, diT, reT, tiT), rfl⟩
  · obtain ⟨q, t1, t2⟩ := c_overs (q := (rPT, fPT, rTT, fTT, rGT, fGT, rLT, fLT, rHT, fHT, giT, diT, reT, tiT)) (s := (P, T, G, Lg, gi, di, re, ti)) (fP := fP) (fT := fT) (fG := fG) (fL := fL) (fH := fH) (rP := rP) (rT := rT) (rG := rG) (rL := rL) (rH := rH) (gi := gi) (di := di) (re := re) (ti := ti) o ⟨c, rfl, rfl, rfl, rfl⟩
    have t1 : f_X2_takeOver rPT fPT rTT fTT rGT fGT rLT fLT rHT fHT giT diT reT tiT rP fP rT fT rG fG rL fL rH fH gi di re ti = some q := t1
    have t2c : CS q.1 q.2.1 q.2.2.1 q.2.2.2.1 q.2.2.2.2.1 q.2.2.2.2.2.1 q.2.2.2.2.2.2.1 q.2.2.2.2.2.2.2.1 q.2.2.2.2.2.2.2.2.1 q.2.2.2.2.2.2.2.2.2.1 P T G Lg := t2.1
    have egi : q.2.2.2.2.2.2.2.2.2.2.1 = gi := t2.2.1
    have eti : q.2.2.2.2.2.2.2.2.2.2.2.2.2 = ti := t2.2.2.2.2
    have hg := okG_g (gi := gi) o.2.2.1.2.1 hp hb ht h4 h5
    have hl := alw_lt o.2.2.1.1 ha
    obtain ⟨aG, aH, l1, l2⟩ := c_lendG (gi := gi) o t2c hl hg
    have k1 := c_pairs l2.2.1 (o.2.2.1.addG hl hg).k
    have k2 := c_pairs c.2.1 o.2.2.1.k
    rw [if_neg ha, if_neg ha, c_fit, if_neg (show ¬ (0 : Int32) = 1 by decide), if_neg (show ¬ (0 : Int32) = 2 by decide), bx_r, if_neg (show ¬ (0 : Int32) = 3 by decide), t1, bd14_mk, egi, l1, bd5_some, k1, bd_some, k2, bd_some, nm_eq]
    exact ⟨(q.1, q.2.1, q.2.2.1, q.2.2.2.1, nI (G.length + 1), aG, q.2.2.2.2.2.2.1, q.2.2.2.2.2.2.2.1, q.2.2.2.2.2.2.2.2.1, aH, gi + 1, q.2.2.2.2.2.2.2.2.2.2.2.1, q.2.2.2.2.2.2.2.2.2.2.2.2.1, q.2.2.2.2.2.2.2.2.2.2.2.2.2), rfl⟩
theorem x_seenIn {rP rT rG rL rH gi di re ti : Int32} {fP fT fG fL fH : Nat → Int32} {P T G Lg : List rw_} {rPT rTT rGT rLT rHT giT diT reT tiT : Int32} {fPT fTT fGT fLT fHT : Nat → Int32} (o : OS P T G Lg) (c : CS rP fP rT fT rG fG rL fL rH fH P T G Lg) {N : Nat} (hN : N ≤ 100) : ∃ q : HS, f_X5_seenIn (nI N) rP fP rT fT rG fG rL fL rH fH gi di re ti rPT fPT rTT fTT rGT fGT rLT fLT rHT fHT giT diT reT tiT = some (.inr (prs T (hd T (tks N (P, G, Lg, ti, 0)).2.1), q)) := by
  obtain ⟨q, t1, t2⟩ := c_overs (q := (rPT, fPT, rTT, fTT, rGT, fGT, rLT, fLT, rHT, fHT, giT, diT, reT, tiT)) (s := (P, T, G, Lg, gi, di, re, ti)) (fP := fP) (fT := fT) (fG := fG) (fL := fL) (fH := fH) (rP := rP) (rT := rT) (rG := rG) (rL := rL) (rH := rH) (gi := gi) (di := di) (re := re) (ti := ti) o ⟨c, rfl, rfl, rfl, rfl⟩
  have t1 : f_X2_takeOver rPT fPT rTT fTT rGT fGT rLT fLT rHT fHT giT diT reT tiT rP fP rT fT rG fG rL fL rH fH gi di re ti = some q := t1
  have t2c : CS q.1 q.2.1 q.2.2.1 q.2.2.2.1 q.2.2.2.2.1 q.2.2.2.2.2.1 q.2.2.2.2.2.2.1 q.2.2.2.2.2.2.2.1 q.2.2.2.2.2.2.2.2.1 q.2.2.2.2.2.2.2.2.2.1 P T G Lg := t2.1
  have egi : q.2.2.2.2.2.2.2.2.2.2.1 = gi := t2.2.1
  have eti : q.2.2.2.2.2.2.2.2.2.2.2.2.2 = ti := t2.2.2.2.2
  obtain ⟨rG', rL', aP, aG, aL, aH, b1, c2⟩ := c_passes (di := q.2.2.2.2.2.2.2.2.2.2.2.1) (ti := ti) hN o t2c
  have o2 := tks_o N (P, G, Lg, ti, 0) o
  have k1 := c_pairs c2.2.1 o2.2.2.1.k
  have hr : ¬ btw (nI N) 0 100 = 0 := by
    unfold btw
    rw [if_neg (nI_pos (by omega)), if_neg (show ¬ (100 : Int32) < nI N from q_nlt (a := 100) (by omega) (by omega) hN)]
    decide
  unfold f_X5_seenIn
  rw [c_reqR, if_neg hr, bx_r, t1, bd14_mk, eti, b1, bd9_some, k1, bd_some]
  exact ⟨(q.1, aP, q.2.2.1, q.2.2.2.1, rG', aG, rL', aL, q.2.2.2.2.2.2.2.2.1, aH, q.2.2.2.2.2.2.2.2.2.2.1, q.2.2.2.2.2.2.2.2.2.2.2.1 + nI (tks N (P, G, Lg, ti, 0)).2.2.2.2, q.2.2.2.2.2.2.2.2.2.2.2.2.1, (tks N (P, G, Lg, ti, 0)).2.2.2.1), rfl⟩
theorem x_lostBy {rP rT rG rL rH gi di re ti : Int32} {fP fT fG fL fH : Nat → Int32} {P T G Lg : List rw_} {rPT rTT rGT rLT rHT giT diT reT tiT : Int32} {fPT fTT fGT fLT fHT : Nat → Int32} (o : OS P T G Lg) (c : CS rP fP rT fT rG fG rL fL rH fH P T G Lg) {p : Nat} (hp : p < 10) : ∃ q : HS, f_X5_lostBy (nI p) rP fP rT fT rG fG rL fL rH fH gi di re ti rPT fPT rTT fTT rGT fGT rLT fLT rHT fHT giT diT reT tiT = some (.inr (prs T (hd T G) - prs T (hd T (kept (sPm P p (clv (P.getD p z_ 0 + (-100 : Int32)))) G)), q)) := by
  obtain ⟨q, t1, t2⟩ := c_overs (q := (rPT, fPT, rTT, fTT, rGT, fGT, rLT, fLT, rHT, fHT, giT, diT, reT, tiT)) (s := (P, T, G, Lg, gi, di, re, ti)) (fP := fP) (fT := fT) (fG := fG) (fL := fL) (fH := fH) (rP := rP) (rT := rT) (rG := rG) (rL := rL) (rH := rH) (gi := gi) (di := di) (re := re) (ti := ti) o ⟨c, rfl, rfl, rfl, rfl⟩
  have t1 : f_X2_takeOver rPT fPT rTT fTT rGT fGT rLT fLT rHT fHT giT diT reT tiT rP fP rT fT rG fG rL fL rH fH gi di re ti = some q := t1
  have t2c : CS q.1 q.2.1 q.2.2.1 q.2.2.2.1 q.2.2.2.2.1 q.2.2.2.2.2.1 q.2.2.2.2.2.2.1 q.2.2.2.2.2.2.2.1 q.2.2.2.2.2.2.2.2.1 q.2.2.2.2.2.2.2.2.2.1 P T G Lg := t2.1
  have egi : q.2.2.2.2.2.2.2.2.2.2.1 = gi := t2.2.1
  have eti : q.2.2.2.2.2.2.2.2.2.2.2.2.2 = ti := t2.2.2.2.2
  obtain ⟨v, rG', rL', aP, aG, aL, aH, ev, b1, c2⟩ := c_mood (di := q.2.2.2.2.2.2.2.2.2.2.2.1) (ti := ti) (a := (-100 : Int32)) o t2c hp
  have o2 := (o.sP hp (v := v) (by rw [ev]; exact clv_ok _)).die (ti := ti)
  have k1 := c_pairs c2.2.1 o2.2.2.1.k
  have k2 := c_pairs c.2.1 o.2.2.1.k
  unfold f_X5_lostBy f_X5_pairsLostBy
  rw [c_reqP, if_neg (pb hp), bx_r, t1, bd14_mk, eti, b1, bd8_some, k2, bd_some, k1, bd_some, nm_eq, bd15_some, ev]
  exact ⟨(q.1, aP, q.2.2.1, q.2.2.2.1, rG', aG, rL', aL, q.2.2.2.2.2.2.2.2.1, aH, q.2.2.2.2.2.2.2.2.2.2.1, q.2.2.2.2.2.2.2.2.2.2.2.1 + nI (ndy (sPm P p (clv (P.getD p z_ 0 + (-100 : Int32)))) G), q.2.2.2.2.2.2.2.2.2.2.2.2.1, ti), rfl⟩
theorem x_held {rP rT rG rL rH : Int32} {fP fT fG fL fH : Nat → Int32} {P T G Lg : List rw_} (o : OS P T G Lg) (c : CS rP fP rT fT rG fG rL fL rH fH P T G Lg) {p t : Nat} (hp : p < 10) (ht : t < T.length) : f_X5_held (nI p) (nI t) rT rH fH = some (.inr (hd T G (10 * t + p))) := by
  unfold f_X5_held f_X2_rightsOf
  rw [c_reqP, if_neg (pb hp), bx_r, c_reqT _ c.2.1.2.1, if_neg (tb ht o.2.2.1.2.1), bx_r, c_hat c.2.1 o.2.2.1.k hp ht, bd_some, bd_some]
theorem x_why {rP rT rG rL rH : Int32} {fP fT fG fL fH : Nat → Int32} {P T G Lg : List rw_} (o : OS P T G Lg) (c : CS rP fP rT fT rG fG rL fL rH fH P T G Lg) {p t : Nat} (hp : p < 10) (ht : t < T.length) {x : Int32} (hx : x = 1 ∨ x = 2 ∨ x = 4) : f_X5_why (nI p) (nI t) x rT fT rG fG rH fH = some (.inr (why_ T G (hd T G) p t x)) := by
  have e := c_why (x := x) c.2.1 o.2.2.1.k hp ht
  unfold f_X5_why
  rw [c_reqP, if_neg (pb hp), bx_r, c_reqT _ c.2.1.2.1, if_neg (tb ht o.2.2.1.2.1), bx_r, e]
  rcases hx with h | h | h
  · rw [if_pos h, bd_some]
  · rw [if_neg (by rw [h]; decide), if_pos h, bd_some]
  · rw [if_neg (by rw [h]; decide), if_neg (by rw [h]; decide), if_pos h, bd_some]
/-- what is told of the house -/
def val_ (T G Lg : List rw_) (gi di re ti : Int32) (j : Nat) : Int32 := if j = 0 then nI T.length else if j = 1 then nI G.length else if j = 2 then gi else if j = 3 then di else if j = 4 then re else if j = 5 then ti else if j = 6 then prs T (hd T G) else if j = 7 then idl_ T G (hd T G) G.length 0 0 else nI Lg.length
theorem x_value {rP rT rG rL rH gi di re ti : Int32} {fP fT fG fL fH : Nat → Int32} {P T G Lg : List rw_} (o : OS P T G Lg) (c : CS rP fP rT fT rG fG rL fL rH fH P T G Lg) {j : Nat} (hj : j < 9) : f_X5_value (nI j) rT fT rG fG rL rH fH gi di re ti = some (.inr (val_ T G Lg gi di re ti j)) := by
  have hr : ∀ j : Fin 9, ¬ btw (nI j) 0 8 = 0 := by decide +kernel
  unfold f_X5_value f_X2_aboutHouse val_
  rw [c_reqR, if_neg (hr ⟨j, hj⟩), bx_r, c.2.1.2.1.rows, c.2.1.1.rows, c.2.2.rows, c_pairs c.2.1 o.2.2.1.k, c_idle c.2.1 o.2.2.1.k]
  simp only [bd_some]
  match j, hj with
  | 0, _ => rfl
  | 1, _ => rfl
  | 2, _ => rfl
  | 3, _ => rfl
  | 4, _ => rfl
  | 5, _ => rfl
  | 6, _ => rfl
  | 7, _ => rfl
  | 8, _ => rfl
/-- what is told of a thing -/
def thg_ (T G : List rw_) (t j : Nat) : Int32 := if j = 0 then T.getD t z_ 0 else if j = 1 then T.getD t z_ 1 else who_ (hd T G) t 2 10 0 0
theorem x_thing {rP rT rG rL rH : Int32} {fP fT fG fL fH : Nat → Int32} {P T G Lg : List rw_} (o : OS P T G Lg) (c : CS rP fP rT fT rG fG rL fL rH fH P T G Lg) {t j : Nat} (ht : t < T.length) (hj : j = 0 ∨ j = 1 ∨ j = 4) : f_X5_thing (nI t) (nI j) rT fT rG fG rH fH = some (.inr (thg_ T G t j)) := by
  have hT := o.2.2.1.2.1
  have e0 := c.2.1.2.1.o ht hT
  have e1 := c.2.1.2.1.mk_ ht hT
  have e4 := h_whoHas (x := 2) c.2.1 o.2.2.1.k ht
  unfold f_X5_thing f_X2_aboutThing thg_
  rw [c_reqT _ c.2.1.2.1, if_neg (tb ht hT), bx_r, c_reqR]
  rcases hj with h | h | h
  · subst h
    rw [if_neg (show ¬ btw (nI 0) 0 5 = 0 by decide), bx_r, if_pos (show nI 0 = (0 : Int32) from rfl), e0]
    rfl
  · subst h
    rw [if_neg (show ¬ btw (nI 1) 0 5 = 0 by decide), bx_r, if_neg (show ¬ nI 1 = (0 : Int32) by decide), if_pos (show nI 1 = (1 : Int32) from rfl), e1]
    rfl
  · subst h
    rw [if_neg (show ¬ btw (nI 4) 0 5 = 0 by decide), bx_r, if_neg (show ¬ nI 4 = (0 : Int32) by decide), if_neg (show ¬ nI 4 = (1 : Int32) by decide), if_neg (show ¬ nI 4 = (2 : Int32) by decide), if_neg (show ¬ nI 4 = (3 : Int32) by decide), if_pos (show nI 4 = (4 : Int32) from rfl), e4]
    rfl
/-- what is told of a person -/
def per_ (P T G : List rw_) (p j : Nat) : Int32 := if j = 0 then P.getD p z_ 0 else if j = 1 then P.getD p z_ 1 else if j = 2 then cnt_ T 0 (nI p) T.length 0 0 else if j = 3 then bcv (see_ (hd T G) p T.length 0 0) else if j = 4 then cnt_ G 0 (nI p) G.length 0 0 else if j = 5 then cnt_ G 1 (nI p) G.length 0 0 else see_ (hd T G) p T.length 0 0
theorem x_person {rP rT rG rL rH : Int32} {fP fT fG fL fH : Nat → Int32} {P T G Lg : List rw_} (o : OS P T G Lg) (c : CS rP fP rT fT rG fG rL fL rH fH P T G Lg) {p j : Nat} (hp : p < 10) (hj : j < 7) : f_X5_person (nI p) (nI j) rP fP rT fT rG fG rH fH = some (.inr (per_ P T G p j)) := by
  have hr : ∀ j : Fin 7, ¬ btw (nI j) 0 6 = 0 := by decide +kernel
  have hl := o.2.2.1.1
  have hlT := o.2.2.1.2.1
  have es := h_see c.2.1 o.2.2.1.k hp T.length 0 FU 0 (by omega) (by unfold FU; omega)
  have es : f_X2_thingsSeenBy_L4 (nI p) rT rH fH FU 0 (0 : Int32) = some (see_ (hd T G) p T.length 0 0) := es
  have es : f_X2_thingsSeenBy (nI p) rT rH fH = some (see_ (hd T G) p T.length 0 0) := by
    unfold f_X2_thingsSeenBy
    rw [es, bd_some]
  have c0 := h_ctT c.2.1.2.1 hlT (nI p)
  have c1 := h_ctG c.2.1.1 hl (nI p) 0 (by omega)
  have c1 : f_X2_countEqual (6 : Int32) 240 (0 : Int32) (nI p) rG fG = some (cnt_ G 0 (nI p) G.length 0 0) := c1
  have c2 := h_ctG c.2.1.1 hl (nI p) 1 (by omega)
  have c2 : f_X2_countEqual (6 : Int32) 240 (1 : Int32) (nI p) rG fG = some (cnt_ G 1 (nI p) G.length 0 0) := c2
  unfold f_X5_person f_X2_aboutPerson per_
  rw [c_reqP, if_neg (pb hp), bx_r, c_reqR, if_neg (hr ⟨j, hj⟩), bx_r, c.1.m o.1 hp, c.1.bs o.1 hp, c0, es, c1, c2]
  simp only [bd_some, bc_c]
  match j, hj with
  | 0, _ => rfl
  | 1, _ => rfl
  | 2, _ => rfl
  | 3, _ => rfl
  | 4, _ => rfl
  | 5, _ => rfl
  | 6, _ => rfl
theorem x_patience {rP rT rG rL rH : Int32} {fP fT fG fL fH : Nat → Int32} {P T G Lg : List rw_} (o : OS P T G Lg) (c : CS rP fP rT fT rG fG rL fL rH fH P T G Lg) {p : Nat} (hp : p < 10) : f_X5_patience (nI p) rP fP rG fG = some (.inr (P.getD p z_ 0 - gre_ G (nI p) G.length 0 0)) := by
  have hl := o.2.2.1.1
  have e := h_gre (x := nI p) c.2.1.1 hl G.length 0 FU 0 (by omega) (by unfold FU; omega)
  have e : f_X2_greatestThreshold_L4 (nI p) rG fG FU (0 : Int32) (0 : Int32) = some (gre_ G (nI p) G.length 0 0) := e
  unfold f_X5_patience f_X2_greatestThreshold
  rw [c_reqP, if_neg (pb hp), bx_r, c.1.m o.1 hp, bd_some, e, bd_some, bd_some, nm_eq]
theorem x_chain {rP rT rG rL rH : Int32} {fP fT fG fL fH : Nat → Int32} {P T G Lg : List rw_} (o : OS P T G Lg) (c : CS rP fP rT fT rG fG rL fL rH fH P T G Lg) {p t : Nat} (hp : p < 10) (ht : t < T.length) (fS : Nat → Int32) : ∃ fS' : Nat → Int32, f_X5_chain (nI p) (nI t) rT fT rG fG rH fH 1 fS = some (.inr (far_ T G (hd T G) t p, fS')) := by
  obtain ⟨f', e1, e2⟩ := c_measure c.2.1 o.2.2.1.k ht fS
  refine ⟨f', ?_⟩
  unfold f_X5_chain
  rw [c_reqP, if_neg (pb hp), bx_r, c_reqT _ c.2.1.2.1, if_neg (tb ht o.2.2.1.2.1), bx_r, e1, bd_some, s_at hp, bd_some, e2 p hp]
theorem x_link {rP rT rG rL rH : Int32} {fP fT fG fL fH : Nat → Int32} {P T G Lg : List rw_} (o : OS P T G Lg) (c : CS rP fP rT fT rG fG rL fL rH fH P T G Lg) {p t v : Nat} (hp : p < 10) (ht : t < T.length) (hv : v < 9) (hF : far_ T G (hd T G) t p = nI (v + 1)) (fS : Nat → Int32) : ∃ fS' : Nat → Int32, f_X5_link (nI p) (nI t) (nI v) rT fT rG fG rH fH 1 fS = some (.inr (lnk_ T G t p v, fS')) := by
  obtain ⟨f', e1, e2⟩ := c_measure c.2.1 o.2.2.1.k ht fS
  refine ⟨f', ?_⟩
  unfold f_X5_link
  rw [c_reqP, if_neg (pb hp), bx_r, c_reqT _ c.2.1.2.1, if_neg (tb ht o.2.2.1.2.1), bx_r, e1, bd_some, if_neg (nI_pos (by omega)), s_at hp, bd_some, e2 p hp, hF, if_pos (q_lt (by omega) (by omega) (by omega)), h_link c.2.1 o.2.2.1 ht hp hv e2 hF, bd_some]
/-- a grant just made, told of by its number -/
theorem h_place {rG : Int32} {fG : Nat → Int32} {G : List rw_} {x : Int32} (h : RT 6 rG fG G) (hl : G.length ≤ 40) : ∀ (n j F : Nat), n + j = G.length → n < F → (∃ i : Nat, j ≤ i ∧ i < G.length ∧ G.getD i z_ 5 = x) → ∃ i : Nat, i < G.length ∧ G.getD i z_ 5 = x ∧ f_X2_placeOf_L2 x rG fG F (nI j) = some (nI i)
  | _, _, 0, _, hF, _ => absurd hF (by omega)
  | 0, j, F + 1, e, hF, ⟨i, h1, h2, _⟩ => absurd h2 (by omega)
  | n + 1, j, F + 1, e, hF, ⟨i, h1, h2, h3⟩ => by
    have ek : nI j + (1 : Int32) = nI (j + 1) := n_at
    unfold f_X2_placeOf_L2
    rw [h.rows, bd_some, if_neg (q_nle (by omega) (by omega) (by omega)), h.gn (by omega) hl, bd_some]
    by_cases c : G.getD j z_ 5 = x
    · rw [if_pos c]
      exact ⟨j, by omega, c, rfl⟩
    · rw [if_neg c, nm_eq, ek]
      exact h_place h hl n (j + 1) F (by omega) (by omega) ⟨i, by
        have : i ≠ j := fun z => c (by rw [← z]; exact h3)
        omega, h2, h3⟩
theorem x_grantOf {rP rT rG rL rH : Int32} {fP fT fG fL fH : Nat → Int32} {P T G Lg : List rw_} (o : OS P T G Lg) (c : CS rP fP rT fT rG fG rL fL rH fH P T G Lg) {x : Int32} (h : ∃ i : Nat, i < G.length ∧ G.getD i z_ 5 = x) : ∃ i : Nat, i < G.length ∧ G.getD i z_ 5 = x ∧ f_X5_grantOf x 3 rT fT rG fG rH fH = some (.inr (G.getD i z_ 3)) := by
  have hl := o.2.2.1.1
  obtain ⟨i0, a1, a2⟩ := h
  obtain ⟨i, i1, i2, i3⟩ := h_place (x := x) c.2.1.1 hl G.length 0 FU (by omega) (by unfold FU; omega) ⟨i0, by omega, a1, a2⟩
  have i3 : f_X2_placeOf_L2 x rG fG FU (0 : Int32) = some (nI i) := i3
  refine ⟨i, i1, i2, ?_⟩
  unfold f_X5_grantOf f_X5_requireGrant f_X2_placeOf f_X2_aboutGrant
  rw [i3, bd_some, if_neg (n_m1 (by omega)), bx_r, c_reqR, if_neg (show ¬ btw 3 0 5 = 0 by decide), bx_r, if_neg (show ¬ (4 : Int32) < 3 by decide), c.2.1.1.gr i1 hl, bd_some, bd_some]
