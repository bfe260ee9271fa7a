/-! ===== PURE: the law's calls: what if ===== -/
theorem m_asideL {al : Nat → Int32} : ∀ (n x F : Nat) (asd : Nat → Int32), n + x = 320 → n < F → eqon x asd al → ∃ asd' : Nat → Int32, f_X6_layAside_L2 al F (nI x) asd = some asd' ∧ eqon 320 asd' al
  | _, _, 0, _, _, hF, _ => absurd hF (by omega)
  | 0, x, F + 1, asd, h, hF, he => by
    unfold f_X6_layAside_L2
    rw [if_pos (show (320 : Int32) ≤ nI x from q_le (a := 320) (by omega) (by omega) (by omega))]
    exact ⟨asd, rfl, fun i hi => he i (by omega)⟩
  | n + 1, x, F + 1, asd, h, hF, he => by
    have ek : nI x + (1 : Int32) = nI (x + 1) := n_at
    unfold f_X6_layAside_L2
    rw [if_neg (show ¬ (320 : Int32) ≤ nI x from q_nle (a := 320) (by omega) (by omega) (by omega)), n_ix (by omega) (by omega), nm_eq, n_ix (by omega) (by omega), nm_eq, nm_eq, ek, n_cl (by omega)]
    refine m_asideL n (x + 1) F _ (by omega) (by omega) (fun i hi => ?_)
    by_cases e : i = x
    · rw [e, pk_us]
    · rw [pk_un e]
      exact he i (by omega)
theorem m_aside (al asd : Nat → Int32) : ∃ asd' : Nat → Int32, f_X6_layAside al asd = some asd' ∧ eqon 320 asd' al := by
  obtain ⟨a, a1, a2⟩ := m_asideL (al := al) 320 0 FU asd (by omega) (by unfold FU; omega) (fun i hi => absurd hi (by omega))
  have a1 : f_X6_layAside_L2 al FU (0 : Int32) asd = some a := a1
  refine ⟨a, ?_, a2⟩
  unfold f_X6_layAside
  rw [a1, bd_some]
theorem m_takeL {asd : Nat → Int32} : ∀ (n x F : Nat) (al : Nat → Int32), n + x = 320 → n < F → eqon x al asd → ∃ al' : Nat → Int32, f_X6_takeBack_L2 asd F (nI x) al = some al' ∧ eqon 320 al' asd
  | _, _, 0, _, _, hF, _ => absurd hF (by omega)
  | 0, x, F + 1, al, h, hF, he => by
    unfold f_X6_takeBack_L2
    rw [if_pos (show (320 : Int32) ≤ nI x from q_le (a := 320) (by omega) (by omega) (by omega))]
    exact ⟨al, rfl, fun i hi => he i (by omega)⟩
  | n + 1, x, F + 1, al, h, hF, he => by
    have ek : nI x + (1 : Int32) = nI (x + 1) := n_at
    unfold f_X6_takeBack_L2
    rw [if_neg (show ¬ (320 : Int32) ≤ nI x from q_nle (a := 320) (by omega) (by omega) (by omega)), n_ix (by omega) (by omega), nm_eq, n_ix (by omega) (by omega), nm_eq, nm_eq, ek, n_cl (by omega)]
    refine m_takeL n (x + 1) F _ (by omega) (by omega) (fun i hi => ?_)
    by_cases e : i = x
    · rw [e, pk_us]
    · rw [pk_un e]
      exact he i (by omega)
theorem m_take (al asd : Nat → Int32) : ∃ al' : Nat → Int32, f_X6_takeBack al asd = some al' ∧ eqon 320 al' asd := by
  obtain ⟨a, a1, a2⟩ := m_takeL (asd := asd) 320 0 FU al (by omega) (by unfold FU; omega) (fun i hi => absurd hi (by omega))
  have a1 : f_X6_takeBack_L2 asd FU (0 : Int32) al = some a := a1
  refine ⟨a, ?_, a2⟩
  unfold f_X6_takeBack
  rw [a1, bd_some]
theorem clv_0 {m : Int32} (h : okN 101 m) : clv (m + (-100)) = 0 := by
  have hm := h.2
  have e := h.1
  have hS : ∀ k : Fin 101, clv (nI k + (-100)) = 0 := by decide +kernel
  rw [e]
  exact hS ⟨cN m, hm⟩
theorem j_lost {rP rT rG rL rH gi di re ti : Int32} {fP fT fG fL fH al : Nat → Int32} {P T G Lg : List rw_} (o : OS P T G Lg) (c : CS rP fP rT fT rG fG rL fL rH fH P T G Lg) (ms : MS al P T G Lg gi di re ti) {p : Nat} (hp : p < 10) (rPT : Int32) (fPT : Nat → Int32) (rTT : Int32) (fTT : Nat → Int32) (rGT : Int32) (fGT : Nat → Int32) (rLT : Int32) (fLT : Nat → Int32) (rHT : Int32) (fHT : Nat → Int32) (giT : Int32) (diT : Int32) (reT : Int32) (tiT : Int32) (asd ho : Nat → Int32) : ∃ (w : Int32) (q : HS) (al' asd' ho' : Nat → Int32), f_X5_pairsLostBy (nI p) rP fP rT fT rG fG rL fL rH fH gi di re ti rPT fPT rTT fTT rGT fGT rLT fLT rHT fHT giT diT reT tiT = some (w, q) ∧ f_X6_lost (nI p) al asd ho = some (w, al', asd', ho') ∧ MS al' P T G Lg gi di re ti := by
  obtain ⟨q, e1, e2⟩ := c_overs (q := (rPT, fPT, rTT, fTT, rGT, fGT, rLT, fLT, rHT, fHT, giT, diT, reT, tiT)) (s := (P, T, G, Lg, gi, di, re, ti)) (fP := fP) (fT := fT) (fG := fG) (fL := fL) (fH := fH) (rP := rP) (rT := rT) (rG := rG) (rL := rL) (rH := rH) (gi := gi) (di := di) (re := re) (ti := ti) o ⟨c, rfl, rfl, rfl, rfl⟩
  have e1 : f_X2_takeOver rPT fPT rTT fTT rGT fGT rLT fLT rHT fHT giT diT reT tiT rP fP rT fT rG fG rL fL rH fH gi di re ti = some q := e1
  have e2c : CS q.1 q.2.1 q.2.2.1 q.2.2.2.1 q.2.2.2.2.1 q.2.2.2.2.2.1 q.2.2.2.2.2.2.1 q.2.2.2.2.2.2.2.1 q.2.2.2.2.2.2.2.2.1 q.2.2.2.2.2.2.2.2.2.1 P T G Lg := e2.1
  have eti : q.2.2.2.2.2.2.2.2.2.2.2.2.2 = ti := e2.2.2.2.2
  obtain ⟨v, rG', rL', aP, aG, aL, aH, ev, b1, b2⟩ := c_mood (di := q.2.2.2.2.2.2.2.2.2.2.2.1) (ti := q.2.2.2.2.2.2.2.2.2.2.2.2.2) (a := -100) o e2c hp
  have ev0 : v = 0 := by rw [ev]; exact clv_0 (o.2.1 p hp).1
  subst ev0
  have o2 := (o.sP hp (v := 0) (by rw [ev]; exact clv_ok _)).die (ti := ti)
  obtain ⟨h1, p1, _⟩ := q_pairs ms.qa o.2.2.1 ho
  obtain ⟨asd', a1, a2⟩ := m_aside al asd
  obtain ⟨b, d1, d2⟩ := m_moodDie (v := 0) o ms hp (by rw [ev]; exact clv_ok _)
  obtain ⟨h2, p2, _⟩ := q_pairs d2.qa o2.2.2.1 h1
  obtain ⟨al', t1, t2⟩ := m_take b asd'
  rw [eti] at b1 b2
  have e3 := c_pairs c.2.1 o.2.2.1.k
  have e4 := c_pairs b2.2.1 o2.2.2.1.k
  have hc : ∃ q2 : HS, f_X5_pairsLostBy (nI p) rP fP rT fT rG fG rL fL rH fH gi di re ti rPT fPT rTT fTT rGT fGT rLT fLT rHT fHT giT diT reT tiT = some (prs T (hd T G) - prs T (hd T (kept (sPm P p 0) G)), q2) := by
    unfold f_X5_pairsLostBy
    rw [e1, bd14_mk, eti, b1, bd8_some, e3, bd_some, e4, bd_some, nm_eq]
    exact ⟨_, rfl⟩
  obtain ⟨q2, hq⟩ := hc
  refine ⟨prs T (hd T G) - prs T (hd T (kept (sPm P p 0) G)), q2, al', asd', h2, hq, ?_, ms.c o (t2.trans a2)⟩
  · unfold f_X6_lost
    rw [p1, bd2_some, a1, bd_some, e_8, n_ix (by omega) (by omega), n_cl (by omega), nm_eq, d1, bd2_some, p2, bd2_some, nm_eq, t1, bd_some]
theorem w_lostBy {rP rT rG rL rH gi di re ti : Int32} {fP fT fG fL fH al : Nat → Int32} {P T G Lg : List rw_} (o : OS P T G Lg) (c : CS rP fP rT fT rG fG rL fL rH fH P T G Lg) (ms : MS al P T G Lg gi di re ti) (x1 th : Int32) (rPT : Int32) (fPT : Nat → Int32) (rTT : Int32) (fTT : Nat → Int32) (rGT : Int32) (fGT : Nat → Int32) (rLT : Int32) (fLT : Nat → Int32) (rHT : Int32) (fHT : Nat → Int32) (giT : Int32) (diT : Int32) (reT : Int32) (tiT : Int32) (asd ho : Nat → Int32) (fo : Nat → Int64) : ∃ (k b : Int32) (q : HS) (fo' : Nat → Int64) (al' asd' ho' : Nat → Int32), f_L_lostBy x1 rP fP rT fT rG fG rL fL rH fH gi di re ti rPT fPT rTT fTT rGT fGT rLT fLT rHT fHT giT diT reT tiT fo = some (k, q.1, q.2.1, q.2.2.1, q.2.2.2.1, q.2.2.2.2.1, q.2.2.2.2.2.1, q.2.2.2.2.2.2.1, q.2.2.2.2.2.2.2.1, q.2.2.2.2.2.2.2.2.1, q.2.2.2.2.2.2.2.2.2.1, q.2.2.2.2.2.2.2.2.2.2.1, q.2.2.2.2.2.2.2.2.2.2.2.1, q.2.2.2.2.2.2.2.2.2.2.2.2.1, q.2.2.2.2.2.2.2.2.2.2.2.2.2, fo') ∧ f_X6_lostBy x1 al asd th ho = some (b, al', asd', k, ho') ∧ (k = 0 → fo' 0 = b.toInt64) ∧ MS al' P T G Lg gi di re ti := by
  unfold f_L_lostBy f_X5_lostBy f_X6_lostBy
  rw [c_reqP, m_isPer, bd_some]
  by_cases h1 : btw x1 0 9 = 0
  · rw [if_pos h1, bx_l, bx_l, if_pos rfl, g_1 h1, bd2_some, if_pos rfl]
    exact ⟨1, 0, (rPT, fPT, rTT, fTT, rGT, fGT, rLT, fLT, rHT, fHT, giT, diT, reT, tiT), fo, al, asd, ho, rfl, rfl, o_no n10, ms⟩
  · obtain ⟨p, hp, e1⟩ := b_per h1
    obtain ⟨w, q, al', asd', ho', j1, j2, j3⟩ := j_lost o c ms hp rPT fPT rTT fTT rGT fGT rLT fLT rHT fHT giT diT reT tiT asd ho
    rw [← e1] at j1 j2
    rw [if_neg h1, bx_r, j1, bd15_mk, bx_r, o_set, g_0 h1 n10 n10, bd2_some, if_neg n10, j2, bd4_some]
    exact ⟨0, w, q, _, al', asd', ho', rfl, rfl, o_at, j3⟩
theorem p_most {rP rT rG rL rH gi di re ti : Int32} {fP fT fG fL fH : Nat → Int32} {P T G Lg : List rw_} (o : OS P T G Lg) (c : CS rP fP rT fT rG fG rL fL rH fH P T G Lg) : ∀ (n x F F' : Nat) (x1 x2 : Int32) (rPT : Int32) (fPT : Nat → Int32) (rTT : Int32) (fTT : Nat → Int32) (rGT : Int32) (fGT : Nat → Int32) (rLT : Int32) (fLT : Nat → Int32) (rHT : Int32) (fHT : Nat → Int32) (giT : Int32) (diT : Int32) (reT : Int32) (tiT : Int32) (al asd ho : Nat → Int32), n + x = 10 → n < F → n < F' → MS al P T G Lg gi di re ti → ∃ (w : Int32) (q : HS) (al' asd' ho' : Nat → Int32), f_X5_mostNeeded_L6 rP fP rT fT rG fG rL fL rH fH gi di re ti F x1 x2 (nI x) rPT fPT rTT fTT rGT fGT rLT fLT rHT fHT giT diT reT tiT = some (w, q) ∧ f_X6_mostNeeded_L11 F' x1 x2 (nI x) al asd ho = some (w, al', asd', ho') ∧ MS al' P T G Lg gi di re ti
  | _, _, 0, _, _, _, _, _, _, _, _, _, _, _, _, _, _, _, _, _, _, _, _, _, hF, _, _ => absurd hF (by omega)
  | _, _, _, 0, _, _, _, _, _, _, _, _, _, _, _, _, _, _, _, _, _, _, _, _, _, hF, _ => absurd hF (by omega)
  | 0, x, F + 1, F' + 1, x1, x2, rPT, fPT, rTT, fTT, rGT, fGT, rLT, fLT, rHT, fHT, giT, diT, reT, tiT, al, asd, ho, h, _, _, ms => by
    have hle : (10 : Int32) ≤ nI x := q_le (a := 10) (by omega) (by omega) (by omega)
    refine ⟨x1, (rPT, fPT, rTT, fTT, rGT, fGT, rLT, fLT, rHT, fHT, giT, diT, reT, tiT), al, asd, ho, ?_, ?_, ms⟩
    · unfold f_X5_mostNeeded_L6
      rw [if_pos hle]
    · unfold f_X6_mostNeeded_L11
      rw [if_pos hle]
  | n + 1, x, F + 1, F' + 1, x1, x2, rPT, fPT, rTT, fTT, rGT, fGT, rLT, fLT, rHT, fHT, giT, diT, reT, tiT, al, asd, ho, h, h1, h2, ms => by
    have hle : ¬ (10 : Int32) ≤ nI x := q_nle (a := 10) (by omega) (by omega) (by omega)
    have ek : nI x + (1 : Int32) = nI (x + 1) := n_at
    obtain ⟨w, q, al1, asd1, ho1, j1, j2, j3⟩ := j_lost o c ms (p := x) (by omega) rPT fPT rTT fTT rGT fGT rLT fLT rHT fHT giT diT reT tiT asd ho
    unfold f_X5_mostNeeded_L6 f_X6_mostNeeded_L11
    rw [if_neg hle, if_neg hle, j1, bd15_mk, j2, bd4_some]
    simp only [nm_eq, ek]
    by_cases hw : w ≤ x2
    · rw [if_pos hw, if_pos hw, if_pos hw]
      exact p_most o c n (x + 1) F F' x1 x2 q.1 q.2.1 q.2.2.1 q.2.2.2.1 q.2.2.2.2.1 q.2.2.2.2.2.1 q.2.2.2.2.2.2.1 q.2.2.2.2.2.2.2.1 q.2.2.2.2.2.2.2.2.1 q.2.2.2.2.2.2.2.2.2.1 q.2.2.2.2.2.2.2.2.2.2.1 q.2.2.2.2.2.2.2.2.2.2.2.1 q.2.2.2.2.2.2.2.2.2.2.2.2.1 q.2.2.2.2.2.2.2.2.2.2.2.2.2 al1 asd1 ho1 (by omega) (by omega) (by omega) j3
    · rw [if_neg hw, if_neg hw, if_neg hw]
      exact p_most o c n (x + 1) F F' (nI x) w q.1 q.2.1 q.2.2.1 q.2.2.2.1 q.2.2.2.2.1 q.2.2.2.2.2.1 q.2.2.2.2.2.2.1 q.2.2.2.2.2.2.2.1 q.2.2.2.2.2.2.2.2.1 q.2.2.2.2.2.2.2.2.2.1 q.2.2.2.2.2.2.2.2.2.2.1 q.2.2.2.2.2.2.2.2.2.2.2.1 q.2.2.2.2.2.2.2.2.2.2.2.2.1 q.2.2.2.2.2.2.2.2.2.2.2.2.2 al1 asd1 ho1 (by omega) (by omega) (by omega) j3
theorem w_most {rP rT rG rL rH gi di re ti : Int32} {fP fT fG fL fH al : Nat → Int32} {P T G Lg : List rw_} (o : OS P T G Lg) (c : CS rP fP rT fT rG fG rL fL rH fH P T G Lg) (ms : MS al P T G Lg gi di re ti) (th : Int32) (rPT : Int32) (fPT : Nat → Int32) (rTT : Int32) (fTT : Nat → Int32) (rGT : Int32) (fGT : Nat → Int32) (rLT : Int32) (fLT : Nat → Int32) (rHT : Int32) (fHT : Nat → Int32) (giT : Int32) (diT : Int32) (reT : Int32) (tiT : Int32) (asd ho : Nat → Int32) : ∃ (w : Int32) (q : HS) (th' : Int32) (al' asd' ho' : Nat → Int32), f_X5_mostNeeded rP fP rT fT rG fG rL fL rH fH gi di re ti rPT fPT rTT fTT rGT fGT rLT fLT rHT fHT giT diT reT tiT = some (w, q) ∧ f_X6_mostNeeded al asd th ho = some (w, al', asd', th', ho') ∧ MS al' P T G Lg gi di re ti := by
  obtain ⟨w, q, al', asd', ho', j1, j2, j3⟩ := p_most o c 10 0 FU FU (-1) 0 rPT fPT rTT fTT rGT fGT rLT fLT rHT fHT giT diT reT tiT al asd ho (by omega) (by unfold FU; omega) (by unfold FU; omega) ms
  have j1 : f_X5_mostNeeded_L6 rP fP rT fT rG fG rL fL rH fH gi di re ti FU (-1) 0 (0 : Int32) rPT fPT rTT fTT rGT fGT rLT fLT rHT fHT giT diT reT tiT = some (w, q) := j1
  have j2 : f_X6_mostNeeded_L11 FU (-1) 0 (0 : Int32) al asd ho = some (w, al', asd', ho') := j2
  refine ⟨w, q, 0, al', asd', ho', ?_, ?_, j3⟩
  · unfold f_X5_mostNeeded
    rw [j1, bd15_mk]
  · unfold f_X6_mostNeeded
    rw [j2, bd4_some]
theorem w_seenIn {rP rT rG rL rH gi di re ti : Int32} {fP fT fG fL fH al : Nat → Int32} {P T G Lg : List rw_} (o : OS P T G Lg) (c : CS rP fP rT fT rG fG rL fL rH fH P T G Lg) (ms : MS al P T G Lg gi di re ti) (x1 th : Int32) (rPT : Int32) (fPT : Nat → Int32) (rTT : Int32) (fTT : Nat → Int32) (rGT : Int32) (fGT : Nat → Int32) (rLT : Int32) (fLT : Nat → Int32) (rHT : Int32) (fHT : Nat → Int32) (giT : Int32) (diT : Int32) (reT : Int32) (tiT : Int32) (asd ho : Nat → Int32) (fo : Nat → Int64) : ∃ (k b : Int32) (q : HS) (fo' : Nat → Int64) (al' asd' ho' : Nat → Int32), f_L_seenIn x1 rP fP rT fT rG fG rL fL rH fH gi di re ti rPT fPT rTT fTT rGT fGT rLT fLT rHT fHT giT diT reT tiT fo = some (k, q.1, q.2.1, q.2.2.1, q.2.2.2.1, q.2.2.2.2.1, q.2.2.2.2.2.1, q.2.2.2.2.2.2.1, q.2.2.2.2.2.2.2.1, q.2.2.2.2.2.2.2.2.1, q.2.2.2.2.2.2.2.2.2.1, q.2.2.2.2.2.2.2.2.2.2.1, q.2.2.2.2.2.2.2.2.2.2.2.1, q.2.2.2.2.2.2.2.2.2.2.2.2.1, q.2.2.2.2.2.2.2.2.2.2.2.2.2, fo') ∧ f_X6_seenIn x1 al asd th ho = some (b, al', asd', k, ho') ∧ (k = 0 → fo' 0 = b.toInt64) ∧ MS al' P T G Lg gi di re ti := by
  have ei : f_X6_in x1.toInt64 (0 : Int64) (100 : Int64) = some (btw x1 0 100) := m_in x1 0 100
  unfold f_L_seenIn f_X5_seenIn f_X6_seenIn
  rw [c_reqR, ei, bd_some]
  by_cases h1 : btw x1 0 100 = 0
  · rw [if_pos h1, bx_l, bx_l, if_pos rfl, g_1 h1, bd2_some, if_pos rfl]
    exact ⟨1, 0, (rPT, fPT, rTT, fTT, rGT, fGT, rLT, fLT, rHT, fHT, giT, diT, reT, tiT), fo, al, asd, ho, rfl, rfl, o_no n10, ms⟩
  · obtain ⟨N, hN, e1⟩ := b_nI (n := 100) (by decide) h1
    obtain ⟨q, t1, t2⟩ := c_overs (q := (rPT, fPT, rTT, fTT, rGT, fGT, rLT, fLT, rHT, fHT, giT, diT, reT, tiT)) (s := (P, T, G, Lg, gi, di, re, ti)) (fP := fP) (fT := fT) (fG := fG) (fL := fL) (fH := fH) (rP := rP) (rT := rT) (rG := rG) (rL := rL) (rH := rH) (gi := gi) (di := di) (re := re) (ti := ti) o ⟨c, rfl, rfl, rfl, rfl⟩
    have t1 : f_X2_takeOver rPT fPT rTT fTT rGT fGT rLT fLT rHT fHT giT diT reT tiT rP fP rT fT rG fG rL fL rH fH gi di re ti = some q := t1
    have t2c : CS q.1 q.2.1 q.2.2.1 q.2.2.2.1 q.2.2.2.2.1 q.2.2.2.2.2.1 q.2.2.2.2.2.2.1 q.2.2.2.2.2.2.2.1 q.2.2.2.2.2.2.2.2.1 q.2.2.2.2.2.2.2.2.2.1 P T G Lg := t2.1
    have edi : q.2.2.2.2.2.2.2.2.2.2.2.1 = di := t2.2.2.1
    have eti : q.2.2.2.2.2.2.2.2.2.2.2.2.2 = ti := t2.2.2.2.2
    obtain ⟨asd', a1, a2⟩ := m_aside al asd
    obtain ⟨d, P', G', Lg', di', ti', rG', rL', aP, aG, aL, aH, b, b1, b2, b3, b4, b5⟩ := j_pass (N := N) hN o t2c ms
    obtain ⟨h2, p2, _⟩ := q_pairs b5.qa b3.2.2.1 ho
    obtain ⟨al', u1, u2⟩ := m_take b asd'
    have e4 := c_pairs b4.2.1 b3.2.2.1.k
    rw [← e1] at b1 b2
    rw [if_neg h1, bx_r, t1, bd14_mk, edi, eti, b1, bd9_some, e4, bd_some, bx_r, o_set, g_0 h1 n10 n10, bd2_some, if_neg n10, a1, bd_some, b2, bd2_some, p2, bd2_some, u1, bd_some]
    exact ⟨0, _, (q.1, aP, q.2.2.1, q.2.2.2.1, rG', aG, rL', aL, q.2.2.2.2.2.2.2.2.1, aH, q.2.2.2.2.2.2.2.2.2.2.1, di', q.2.2.2.2.2.2.2.2.2.2.2.2.1, ti'), _, al', asd', h2, rfl, rfl, o_at, ms.c o (u2.trans a2)⟩
/-- the fault of a grant, of any numbers -/
theorem j_fault {rP rT rG rL rH gi di re ti : Int32} {fP fT fG fL fH al : Nat → Int32} {P T G Lg : List rw_} (o : OS P T G Lg) (c : CS rP fP rT fT rG fG rL fL rH fH P T G Lg) (ms : MS al P T G Lg gi di re ti) (x1 x2 x3 x4 x5 : Int32) : ∃ ap ig : Int32, f_X6_arePersons x1 x2 x3 al = some ap ∧ f_X6_isGrant x1 x2 x4 x5 = some ig ∧ ((ap = 0 ∧ f_X2_faultOfGrant x1 x2 x3 x4 x5 rP fP rT rG rH fH = some 1) ∨ (¬ ap = 0 ∧ ∃ p b t : Nat, p < 10 ∧ b < 10 ∧ t < T.length ∧ x1 = nI p ∧ x2 = nI b ∧ x3 = nI t ∧ ((ig = 0 ∧ f_X2_faultOfGrant x1 x2 x3 x4 x5 rP fP rT rG rH fH = some 2) ∨ (¬ ig = 0 ∧ ¬ btw x4 1 7 = 0 ∧ ¬ btw x5 0 100 = 0 ∧ f_X2_faultOfGrant x1 x2 x3 x4 x5 rP fP rT rG rH fH = some (if alw P T G p t x4 x5 = 0 then 3 else 0))))) := by
  have hT := o.2.2.1.2.1
  have i4 : f_X6_in x4.toInt64 (1 : Int64) (7 : Int64) = some (btw x4 1 7) := m_in x4 1 7
  have i5 : f_X6_in x5.toInt64 (0 : Int64) (100 : Int64) = some (btw x5 0 100) := m_in x5 0 100
  have eg : f_X6_isGrant x1 x2 x4 x5 = some (if btw x4 1 7 = 0 then 0 else if btw x5 0 100 = 0 then 0 else if x1 = x2 then 0 else 1) := by
    unfold f_X6_isGrant
    rw [i4, bd_some, i5, bd_some]
    split
    · rfl
    · split
      · rfl
      · split <;> rfl
  have ep : f_X6_arePersons x1 x2 x3 al = some (if btw x1 0 9 = 0 then 0 else if btw x2 0 9 = 0 then 0 else if hs_ x3 T.length = 0 then 0 else 1) := by
    unfold f_X6_arePersons
    rw [m_isPer, m_isPer, bd_some, bd_some, m_isThing ms.2.1 hT, bd_some]
    split
    · rfl
    · split
      · rfl
      · split <;> rfl
  have eh : f_X3_has x3 rT = some (hs_ x3 T.length) := by
    rw [c.2.1.2.1.1]
    exact c_has _ _
  refine ⟨_, _, ep, eg, ?_⟩
  by_cases h1 : btw x1 0 9 = 0
  · rw [if_pos h1]
    refine Or.inl ⟨rfl, ?_⟩
    unfold f_X2_faultOfGrant
    rw [c_isPer, bd_some, if_pos h1]
  · rw [if_neg h1]
    by_cases h2 : btw x2 0 9 = 0
    · rw [if_pos h2]
      refine Or.inl ⟨rfl, ?_⟩
      unfold f_X2_faultOfGrant
      rw [c_isPer, bd_some, if_neg h1, c_isPer, bd_some, if_pos h2]
    · rw [if_neg h2]
      by_cases h3 : hs_ x3 T.length = 0
      · rw [if_pos h3]
        refine Or.inl ⟨rfl, ?_⟩
        unfold f_X2_faultOfGrant
        rw [c_isPer, bd_some, if_neg h1, c_isPer, bd_some, if_neg h2, eh, bd_some, if_pos h3]
      · rw [if_neg h3]
        obtain ⟨p, hp, e1⟩ := b_per h1
        obtain ⟨b, hb, e2⟩ := b_per h2
        obtain ⟨t, ht, e3⟩ := hs_t (by omega) h3
        have hf := c_fault (x4 := x4) (x5 := x5) o c hp hb ht
        rw [← e1, ← e2, ← e3] at hf
        have e12 : (x1 = x2) ↔ p = b := by
          rw [e1, e2]
          exact nI_eq (by omega) (by omega)
        refine Or.inr ⟨n10, p, b, t, hp, hb, ht, e1, e2, e3, ?_⟩
        by_cases h4 : btw x4 1 7 = 0
        · rw [if_pos h4] at hf ⊢
          exact Or.inl ⟨rfl, hf⟩
        · rw [if_neg h4] at hf ⊢
          by_cases h5 : btw x5 0 100 = 0
          · rw [if_pos h5] at hf ⊢
            exact Or.inl ⟨rfl, hf⟩
          · rw [if_neg h5] at hf ⊢
            by_cases h6 : p = b
            · rw [if_pos h6] at hf
              rw [if_pos (e12.mpr h6)]
              exact Or.inl ⟨rfl, hf⟩
            · rw [if_neg h6] at hf
              rw [if_neg (fun z => h6 (e12.mp z))]
              exact Or.inr ⟨n10, h4, h5, hf⟩
theorem c_fit (x : Int32) : f_X5_requireFit x = if x = 1 then some (.inl "java/lang/IndexOutOfBoundsException") else if x = 2 then some (.inl "java/lang/IllegalArgumentException") else some (.inr ()) := rfl
theorem w_gainBy {rP rT rG rL rH gi di re ti : Int32} {fP fT fG fL fH al : Nat → Int32} {P T G Lg : List rw_} (o : OS P T G Lg) (c : CS rP fP rT fT rG fG rL fL rH fH P T G Lg) (ms : MS al P T G Lg gi di re ti) (x1 x2 x3 x4 x5 th : Int32) (rPT : Int32) (fPT : Nat → Int32) (rTT : Int32) (fTT : Nat → Int32) (rGT : Int32) (fGT : Nat → Int32) (rLT : Int32) (fLT : Nat → Int32) (rHT : Int32) (fHT : Nat → Int32) (giT : Int32) (diT : Int32) (reT : Int32) (tiT : Int32) (asd ho : Nat → Int32) (fo : Nat → Int64) : ∃ (k b : Int32) (q : HS) (fo' : Nat → Int64) (al' asd' ho' : Nat → Int32), f_L_gainBy x1 x2 x3 x4 x5 rP fP rT fT rG fG rL fL rH fH gi di re ti rPT fPT rTT fTT rGT fGT rLT fLT rHT fHT giT diT reT tiT fo = some (k, q.1, q.2.1, q.2.2.1, q.2.2.2.1, q.2.2.2.2.1, q.2.2.2.2.2.1, q.2.2.2.2.2.2.1, q.2.2.2.2.2.2.2.1, q.2.2.2.2.2.2.2.2.1, q.2.2.2.2.2.2.2.2.2.1, q.2.2.2.2.2.2.2.2.2.2.1, q.2.2.2.2.2.2.2.2.2.2.2.1, q.2.2.2.2.2.2.2.2.2.2.2.2.1, q.2.2.2.2.2.2.2.2.2.2.2.2.2, fo') ∧ f_X6_gainBy x1 x2 x3 x4 x5 al asd th ho = some (b, al', asd', k, ho') ∧ (k = 0 → fo' 0 = b.toInt64) ∧ MS al' P T G Lg gi di re ti := by
  obtain ⟨ap, ig, f1, f2, f3⟩ := j_fault o c ms x1 x2 x3 x4 x5
  unfold f_L_gainBy f_X5_gainBy f_X6_gainBy
  rw [f1, bd_some, f2, bd_some]
  rcases f3 with ⟨h1, hf⟩ | ⟨h1, p, b, t, hp, hb, ht, e1, e2, e3, ⟨h2, hf⟩ | ⟨h2, h4, h5, hf⟩⟩
  · rw [hf, bd_some, c_fit, if_pos rfl, bx_l, bx_l, if_pos rfl, g_1 h1, bd2_some, if_pos rfl]
    exact ⟨1, 0, (rPT, fPT, rTT, fTT, rGT, fGT, rLT, fLT, rHT, fHT, giT, diT, reT, tiT), fo, al, asd, ho, rfl, rfl, o_no n10, ms⟩
  · rw [hf, bd_some, c_fit, if_neg (show ¬ (2 : Int32) = 1 by decide), if_pos rfl, bx_l, bx_l, if_neg s_ai, if_pos rfl, g_2 h1 h2, bd2_some, if_pos rfl]
    exact ⟨2, 0, (rPT, fPT, rTT, fTT, rGT, fGT, rLT, fLT, rHT, fHT, giT, diT, reT, tiT), fo, al, asd, ho, rfl, rfl, o_no n20, ms⟩
  · obtain ⟨h', my⟩ := m_may (x4 := x4) (x5 := x5) ho o ms hp ht
    rw [← e1, ← e3] at my
    rw [hf, bd_some, g_0 h1 h2 n10, bd2_some, if_neg n10, my, bd2_some]
    by_cases ha : alw P T G p t x4 x5 = 0
    · rw [if_pos ha, if_pos ha, c_fit, if_neg (show ¬ (3 : Int32) = 1 by decide), if_neg (show ¬ (3 : Int32) = 2 by decide), bx_r, if_pos rfl, bx_r, o_set]
      exact ⟨0, -1, (rPT, fPT, rTT, fTT, rGT, fGT, rLT, fLT, rHT, fHT, giT, diT, reT, tiT), _, al, asd, h', rfl, rfl, o_at, ms⟩
    · obtain ⟨q, t1, t2⟩ := c_overs (q := (rPT, fPT, rTT, fTT, rGT, fGT, rLT, fLT, rHT, fHT, giT, diT, reT, tiT)) (s := (P, T, G, Lg, gi, di, re, ti)) (fP := fP) (fT := fT) (fG := fG) (fL := fL) (fH := fH) (rP := rP) (rT := rT) (rG := rG) (rL := rL) (rH := rH) (gi := gi) (di := di) (re := re) (ti := ti) o ⟨c, rfl, rfl, rfl, rfl⟩
      have t1 : f_X2_takeOver rPT fPT rTT fTT rGT fGT rLT fLT rHT fHT giT diT reT tiT rP fP rT fT rG fG rL fL rH fH gi di re ti = some q := t1
      have t2c : CS q.1 q.2.1 q.2.2.1 q.2.2.2.1 q.2.2.2.2.1 q.2.2.2.2.2.1 q.2.2.2.2.2.2.1 q.2.2.2.2.2.2.2.1 q.2.2.2.2.2.2.2.2.1 q.2.2.2.2.2.2.2.2.2.1 P T G Lg := t2.1
      have egi : q.2.2.2.2.2.2.2.2.2.2.1 = gi := t2.2.1
      obtain ⟨asd', a1, a2⟩ := m_aside al asd
      obtain ⟨h1', p1, _⟩ := q_pairs ms.qa o.2.2.1 h'
      obtain ⟨aG, aH, b', l1, l2, _, l4, l5, l6⟩ := j_lend o t2c ms hp hb ht h4 h5 ha
      obtain ⟨h2', p2, _⟩ := q_pairs l6.qa l4.2.2.1 h1'
      obtain ⟨al', u1, u2⟩ := m_take b' asd'
      have k1 := c_pairs l5.2.1 l4.2.2.1.k
      have k2 := c_pairs c.2.1 o.2.2.1.k
      rw [← e1, ← e2, ← e3] at l1 l2
      rw [if_neg ha, if_neg ha, c_fit, if_neg (show ¬ (0 : Int32) = 1 by decide), if_neg (show ¬ (0 : Int32) = 2 by decide), bx_r, if_neg (show ¬ (0 : Int32) = 3 by decide), t1, bd14_mk, egi, l1, bd5_some]
      rw [← e1, ← e2, ← e3] at k1 p2
      rw [k1, bd_some, k2, bd_some, nm_eq, bx_r, o_set, p1, bd2_some, a1, bd_some, l2, bd_some, p2, bd2_some, nm_eq, u1, bd_some]
      exact ⟨0, _, (q.1, q.2.1, q.2.2.1, q.2.2.2.1, nI (G.length + 1), aG, q.2.2.2.2.2.2.1, q.2.2.2.2.2.2.2.1, q.2.2.2.2.2.2.2.2.1, aH, gi + 1, q.2.2.2.2.2.2.2.2.2.2.2.1, q.2.2.2.2.2.2.2.2.2.2.2.2.1, q.2.2.2.2.2.2.2.2.2.2.2.2.2), _, al', asd', h2', rfl, rfl, o_at, ms.c o (u2.trans a2)⟩
