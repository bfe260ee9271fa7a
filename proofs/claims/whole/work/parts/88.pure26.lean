/-! ===== PURE: orders are carried out ===== -/
theorem b_nI2 {x lo hi : Int32} {n : Nat} (hM : hi.toInt = n) (hlo : (0 : Int32) ≤ lo) (h : ¬ btw x lo hi = 0) : ∃ j : Nat, j ≤ n ∧ x = nI j := by
  unfold btw at h
  by_cases h1 : x < lo
  · rw [if_pos h1] at h
    exact absurd rfl h
  · rw [if_neg h1] at h
    by_cases h2 : hi < x
    · rw [if_pos h2] at h
      exact absurd rfl h
    · exact nI_of2 hM (fun z => h1 (Int32.lt_of_lt_of_le z hlo)) (Int32.not_lt.mp h2)
theorem bd5_some {α β γ δ ε ζ : Type} {a : α} {b : β} {c : γ} {d : δ} {e : ε} {f : α → β → γ → δ → ε → Option ζ} : bd5 (some (a, b, c, d, e)) f = f a b c d e := rfl
theorem bd9_some {α β γ δ ε ζ η θ κ μ : Type} {a : α} {b : β} {c : γ} {d : δ} {e : ε} {z : ζ} {h : η} {t : θ} {u : κ} {f : α → β → γ → δ → ε → ζ → η → θ → κ → Option μ} : bd9 (some (a, b, c, d, e, z, h, t, u)) f = f a b c d e z h t u := rfl
theorem alw_lt {P T G : List rw_} {p t : Nat} {x4 x5 : Int32} (hG : G.length ≤ 40) (h : ¬ alw P T G p t x4 x5 = 0) : G.length < 40 := by
  unfold alw at h
  by_cases c1 : hd T G (10 * t + p) &&& (x4 ||| (4 : Int32)) = x4 ||| (4 : Int32)
  · rw [if_pos c1] at h
    by_cases c2 : P.getD p z_ 0 < x5
    · rw [if_pos c2] at h
      exact absurd rfl h
    · rw [if_neg c2] at h
      by_cases c3 : (40 : Int32) ≤ nI G.length
      · rw [if_pos c3] at h
        exact absurd rfl h
      · by_cases z : G.length < 40
        · exact z
        · exact absurd (show (40 : Int32) ≤ nI G.length from q_le (a := 40) (by omega) (by omega) (by omega)) c3
  · rw [if_neg c1] at h
    exact absurd rfl h
theorem j_lend {rP rT rG rL rH gi di re ti x4 x5 : Int32} {fP fT fG fL fH al : Nat → Int32} {P T G Lg : List rw_} {p b t : Nat} (o : OS P T G Lg) (c : CS rP fP rT fT rG fG rL fL rH fH P T G Lg) (m : MS al P T G Lg gi di re ti) (hp : p < 10) (hb : b < 10) (ht : t < T.length) (h4 : ¬ btw x4 1 7 = 0) (h5 : ¬ btw x5 0 100 = 0) (ha : ¬ alw P T G p t x4 x5 = 0) : ∃ (aG aH al' : Nat → Int32), f_X2_lend (nI p) (nI b) (nI t) x4 x5 rT fT rG fG rH fH gi = some (gi, nI (G.length + 1), aG, aH, gi + 1) ∧ f_X6_lays (nI p) (nI b) (nI t) x4 x5 al = some al' ∧ al' 1 = gi + 1 ∧ OS P T (G ++ [g6 (nI p) (nI b) (nI t) x4 x5 gi]) Lg ∧ CS rP fP rT fT (nI (G.length + 1)) aG rL fL rH aH P T (G ++ [g6 (nI p) (nI b) (nI t) x4 x5 gi]) Lg ∧ MS al' P T (G ++ [g6 (nI p) (nI b) (nI t) x4 x5 gi]) Lg (gi + 1) di re ti := by
  have hl := alw_lt o.2.2.1.1 ha
  have hT := o.2.2.1.2.1
  obtain ⟨j4, k4, e4⟩ := b_nI2 (n := 7) (by decide) (by decide) h4
  obtain ⟨j5, k5, e5⟩ := b_nI2 (n := 100) (by decide) (by decide) h5
  have hg : okG T.length (g6 (nI p) (nI b) (nI t) x4 x5 gi) := by
    rw [e4, e5]
    exact ⟨okN_nI hp (by omega), okN_nI hb (by omega), okN_nI ht (by omega), okN_nI (by omega) (by omega), okN_nI (by omega) (by omega)⟩
  obtain ⟨aG, aH, c1, c2⟩ := c_lendG o c hl hg
  obtain ⟨al', m1, m2, m3⟩ := m_lays (x1 := nI p) (x2 := nI b) (x3 := nI t) (x4 := x4) (x5 := x5) o m hl
  exact ⟨aG, aH, al', c1, m1, m3, ⟨o.1, o.2.1, o.2.2.1.addG hl hg, o.2.2.2⟩, c2, m2⟩
theorem j_obey {rP rT rG rL rH gi di re ti rO : Int32} {fP fT fG fL fH fO al : Nat → Int32} {P T G Lg Os : List rw_} {i : Nat} (o : OS P T G Lg) (c : CS rP fP rT fT rG fG rL fL rH fH P T G Lg) (m : MS al P T G Lg gi di re ti) (hO : RT 6 rO fO Os) (hOl : Os.length ≤ 100) (hi : i < Os.length) (ho nu : Nat → Int32) (hw : ow (Os.getD i z_) nu) : ∃ (k : Int32) (P' G' Lg' : List rw_) (rG' rL' gi' di' re' ti' : Int32) (aP aG aL aH al' ho' : Nat → Int32), f_X5_obey (nI i) rP fP rT fT rG fG rL fL rH fH gi di re ti rO fO = some (k, aP, rG', aG, rL', aL, aH, gi', di', re', ti') ∧ f_X6_does al ho (Os.getD i z_ 0) nu = some (k, al', ho') ∧ OS P' T G' Lg' ∧ CS rP aP rT fT rG' aG rL' aL rH aH P' T G' Lg' ∧ MS al' P' T G' Lg' gi' di' re' ti' := by
  have at_ : ∀ j : Nat, j < 6 → f_X3_at (6 : Int32) 600 (nI i) (nI j) rO fO = some (Os.getD i z_ j) := fun j hj => by
    have e := hO.at (lim := 100) (n := 600) hi hj hOl (by omega) (by omega) (by omega) (by omega)
    exact e
  have t0 : f_X3_at (6 : Int32) 600 (nI i) (0 : Int32) rO fO = some (Os.getD i z_ 0) := at_ 0 (by omega)
  have t1 : f_X3_at (6 : Int32) 600 (nI i) (1 : Int32) rO fO = some (Os.getD i z_ 1) := at_ 1 (by omega)
  have t2 : f_X3_at (6 : Int32) 600 (nI i) (2 : Int32) rO fO = some (Os.getD i z_ 2) := at_ 2 (by omega)
  have t3 : f_X3_at (6 : Int32) 600 (nI i) (3 : Int32) rO fO = some (Os.getD i z_ 3) := at_ 3 (by omega)
  have t4 : f_X3_at (6 : Int32) 600 (nI i) (4 : Int32) rO fO = some (Os.getD i z_ 4) := at_ 4 (by omega)
  have t5 : f_X3_at (6 : Int32) 600 (nI i) (5 : Int32) rO fO = some (Os.getD i z_ 5) := at_ 5 (by omega)
  generalize Os.getD i z_ = g at *
  have c0 : (0 : Int32).toNatClampNeg = 0 := by decide
  have c1 : (1 : Int32).toNatClampNeg = 1 := by decide
  have c2 : (2 : Int32).toNatClampNeg = 2 := by decide
  have c3 : (3 : Int32).toNatClampNeg = 3 := by decide
  have c4 : (4 : Int32).toNatClampNeg = 4 := by decide
  have x0 : ∀ z : Option (Int32 × (Nat → Int32) × (Nat → Int32)), ix (0 : Int32) 5 z = z := fun z => ixo z (by decide)
  have x1 : ∀ z : Option (Int32 × (Nat → Int32) × (Nat → Int32)), ix (1 : Int32) 5 z = z := fun z => ixo z (by decide)
  have x2 : ∀ z : Option (Int32 × (Nat → Int32) × (Nat → Int32)), ix (2 : Int32) 5 z = z := fun z => ixo z (by decide)
  have x3 : ∀ z : Option (Int32 × (Nat → Int32) × (Nat → Int32)), ix (3 : Int32) 5 z = z := fun z => ixo z (by decide)
  have x4 : ∀ z : Option (Int32 × (Nat → Int32) × (Nat → Int32)), ix (4 : Int32) 5 z = z := fun z => ixo z (by decide)
  have hT := o.2.2.1.2.1
  have n10 : ¬ (1 : Int32) = 0 := by decide
  rcases hw with ⟨g0, ⟨w1, w2, w3, w4, w4', w5⟩, v0, v1, v2, v3, v4⟩ | ⟨g0, v0⟩ | ⟨g0, w1, v0, v2⟩ | ⟨g0, w1, v0⟩
  · -- a grant
    have b4 : ¬ btw (g 4) 1 7 = 0 := by
      unfold btw
      rw [if_neg (Int32.not_lt.mpr w4')]
      have hh := w4.2
      rw [w4.1, if_neg (show ¬ (7 : Int32) < nI (cN (g 4)) from q_nlt (a := 7) (by omega) (by omega) (by omega))]
      decide
    have b1 : ¬ btw (nI (cN (g 1))) 0 9 = 0 := by
      have hh := w1.2
      unfold btw
      rw [if_neg (nI_pos (by omega)), if_neg (show ¬ (9 : Int32) < nI (cN (g 1)) from q_nlt (a := 9) (by omega) (by omega) (by omega))]
      decide
    have b2 : ¬ btw (nI (cN (g 2))) 0 9 = 0 := by
      have hh := w2.2
      unfold btw
      rw [if_neg (nI_pos (by omega)), if_neg (show ¬ (9 : Int32) < nI (cN (g 2)) from q_nlt (a := 9) (by omega) (by omega) (by omega))]
      decide
    have e1 := w1.1
    have e2 := w2.1
    have h1 := w1.2
    have h2 := w2.2
    have hob : f_X5_obey (nI i) rP fP rT fT rG fG rL fL rH fH gi di re ti rO fO = bd5 (f_X5_obeyGrant (nI i) rP fP rT fT rG fG rH fH gi rO fO) (fun r_18 rG_19 fG_20 fH_21 gi_22 => some (r_18, fP, rG_19, fG_20, rL, fL, fH_21, gi_22, di, re, ti)) := by
      unfold f_X5_obey
      rw [t1, bd_some, t0, bd_some, g0, if_neg (show ¬ (103 : Int32) = 99 by decide), if_pos rfl]
    have hdo : f_X6_does al ho (g 0) nu = bd3 (f_X6_grantsOrder al ho nu) (fun r_8 al_9 ho_10 => some (r_8, al_9, ho_10)) := by
      unfold f_X6_does
      rw [g0, if_neg (show ¬ (103 : Int32) = 99 by decide), if_pos rfl]
    have hog : f_X5_obeyGrant (nI i) rP fP rT fT rG fG rH fH gi rO fO = bd (f_X2_faultOfGrant (g 1) (g 2) (g 3) (g 4) (g 5) rP fP rT rG rH fH) (fun r_11 => if r_11 = (0 : Int32) then (bd5 (f_X2_lend (g 1) (g 2) (g 3) (g 4) (g 5) rT fT rG fG rH fH gi) (fun r_14 rG_15 fG_16 fH_17 gi_18 => some ((1 : Int32), rG_15, fG_16, fH_17, gi_18))) else (some ((0 : Int32), rG, fG, fH, gi))) := by
      unfold f_X5_obeyGrant
      rw [t1, bd_some, t2, bd_some, t3, bd_some, t4, bd_some, t5, bd_some]
    have hgo : f_X6_grantsOrder al ho nu = bd (f_X6_arePersons (g 1) (g 2) (g 3) al) (fun r_4 => if r_4 = (0 : Int32) then (some ((0 : Int32), al, ho)) else (if g 1 = g 2 then (some ((0 : Int32), al, ho)) else (bd2 (f_X6_mayGrant (g 1) (g 3) (g 4) (g 5) al ho) (fun r_17 ho_18 => if r_17 = (0 : Int32) then (some ((0 : Int32), al, ho_18)) else (bd (f_X6_lays (g 1) (g 2) (g 3) (g 4) (g 5) al) (fun al_26 => some ((1 : Int32), al_26, ho_18))))))) := by
      unfold f_X6_grantsOrder
      simp only [x0, x1, x2, x3, x4, c0, c1, c2, c3, c4, v0, v1, v2, v3, v4]
    have hap : f_X6_arePersons (g 1) (g 2) (g 3) al = some (if hs_ (g 3) T.length = 0 then 0 else 1) := by
      unfold f_X6_arePersons
      rw [m_isPer, m_isPer, bd_some, bd_some, m_isThing m.2.1 hT, bd_some, e1, if_neg b1, e2, if_neg b2]
      split <;> rfl
    rw [hob, hdo, hog, hgo, hap, bd_some]
    by_cases ht : hs_ (g 3) T.length = 0
    · have hfl : f_X2_faultOfGrant (g 1) (g 2) (g 3) (g 4) (g 5) rP fP rT rG rH fH = some 1 := by
        have eh : f_X3_has (g 3) rT = some (hs_ (g 3) T.length) := by
          rw [c.2.1.2.1.1]
          exact c_has _ _
        unfold f_X2_faultOfGrant
        rw [c_isPer, bd_some, c_isPer, bd_some, eh, bd_some, e1, if_neg b1, e2, if_neg b2, if_pos ht]
      rw [if_pos ht, if_pos rfl, hfl, bd_some, if_neg n10, bd5_some, bd3_some]
      exact ⟨0, P, G, Lg, rG, rL, gi, di, re, ti, fP, fG, fL, fH, al, ho, rfl, rfl, o, c, m⟩
    · obtain ⟨t, ht2, et⟩ := hs_t (by omega) ht
      have hfl := c_fault (x4 := g 4) (x5 := g 5) o c h1 h2 ht2
      rw [← e1, ← e2, ← et, if_neg b4, if_neg w5] at hfl
      rw [if_neg ht, if_neg n10, hfl, bd_some]
      have e12 : (g 1 = g 2) ↔ cN (g 1) = cN (g 2) := ⟨fun z => by rw [z], fun z => by rw [e1, e2, z]⟩
      by_cases c12 : cN (g 1) = cN (g 2)
      · rw [if_pos c12, if_pos (e12.mpr c12), if_neg (show ¬ (2 : Int32) = 0 by decide), bd5_some, bd3_some]
        exact ⟨0, P, G, Lg, rG, rL, gi, di, re, ti, fP, fG, fL, fH, al, ho, rfl, rfl, o, c, m⟩
      · obtain ⟨h', my⟩ := m_may (x4 := g 4) (x5 := g 5) ho o m h1 ht2
        rw [← e1, ← et] at my
        rw [if_neg c12, if_neg (fun z => c12 (e12.mp z)), my, bd2_some]
        by_cases ca : alw P T G (cN (g 1)) t (g 4) (g 5) = 0
        · rw [if_pos ca, if_pos ca, if_neg (show ¬ (3 : Int32) = 0 by decide), bd5_some, bd3_some]
          exact ⟨0, P, G, Lg, rG, rL, gi, di, re, ti, fP, fG, fL, fH, al, h', rfl, rfl, o, c, m⟩
        · obtain ⟨aG, aH, al', l1, l2, _, l4, l5, l6⟩ := j_lend o c m h1 h2 ht2 b4 w5 ca
          rw [← e1, ← e2, ← et] at l1 l2
          rw [if_neg ca, if_neg ca, if_pos rfl, l1, bd5_some, l2, bd_some, bd5_some, bd3_some]
          exact ⟨1, _, _, _, _, _, _, _, _, _, _, _, _, _, al', h', rfl, rfl, l4, l5, l6⟩
  · -- a grant is revoked
    have hob : f_X5_obey (nI i) rP fP rT fT rG fG rL fL rH fH gi di re ti rO fO = bd5 (f_X5_obeyRevoke (g 1) rT fT rG fG rH fH re) (fun r_36 rG_37 fG_38 fH_39 re_40 => some (r_36, fP, rG_37, fG_38, rL, fL, fH_39, gi, di, re_40, ti)) := by
      unfold f_X5_obey
      rw [t1, bd_some, t0, bd_some, g0, if_neg (show ¬ (118 : Int32) = 99 by decide), if_neg (show ¬ (118 : Int32) = 103 by decide), if_neg (show ¬ (118 : Int32) = 116 by decide), if_pos rfl]
    obtain ⟨v, p1, p2, p3⟩ := q_place c.2.1.1 m.2.2.1 o.2.2.1.1 (g 1)
    have hdo : f_X6_does al ho (g 0) nu = if v = (-1 : Int32) then (some ((0 : Int32), al, ho)) else (bd3 (f_X6_revokes v al ho) (fun r_20 al_21 ho_22 => some ((1 : Int32), al_21, ho_22))) := by
      unfold f_X6_does
      rw [g0, if_neg (show ¬ (118 : Int32) = 99 by decide), if_neg (show ¬ (118 : Int32) = 103 by decide), if_pos rfl, x0, x0, c0, v0, p2, bd_some, bd_some]
    rw [hob, hdo]
    unfold f_X5_obeyRevoke
    rw [p1, bd_some]
    by_cases cv : v = -1
    · rw [if_pos cv, if_pos cv, bd5_some]
      exact ⟨0, P, G, Lg, rG, rL, gi, di, re, ti, fP, fG, fL, fH, al, ho, rfl, rfl, o, c, m⟩
    · rcases p3 with p3 | ⟨k, hk, ek⟩
      · exact absurd p3 cv
      · subst ek
        obtain ⟨aG, aH, b1, b2⟩ := c_back (re := re) o c hk
        obtain ⟨al', h', d1, d2⟩ := m_back ho o m hk
        rw [if_neg cv, if_neg cv, b1, bd5_some, bd5_some, d1, bd3_some]
        exact ⟨1, _, _, _, _, _, _, _, _, _, _, _, _, _, al', h', rfl, rfl, o.er hk, b2, d2⟩
  · -- a mood
    have e1 := w1.1
    have h1 := w1.2
    obtain ⟨v, rG', rL', aP, aG, aL, aH, ev, b1, b2⟩ := c_mood (di := di) (ti := ti) (a := g 2) o c h1
    obtain ⟨al', d1, d2⟩ := m_cheers o m h1 ev
    rw [← e1] at b1 d1
    refine ⟨1, sPm P (cN (g 1)) v, kept (sPm P (cN (g 1)) v) G, bur (sPm P (cN (g 1)) v) ti G Lg, rG', rL', gi, di + nI (ndy (sPm P (cN (g 1)) v) G), re, ti, aP, aG, aL, aH, al', ho, ?_, ?_, ?_, b2, d2⟩
    · unfold f_X5_obey
      rw [t1, bd_some, t0, bd_some, g0, if_pos rfl, t2, bd_some, b1, bd8_some]
    · unfold f_X6_does
      rw [g0, if_pos rfl, x0, x2, x1, c0, c1, c2, v0, v2, d1, bd_some]
    · exact (o.sP h1 (by rw [ev]; exact clv_ok _)).die
  · -- ticks
    obtain ⟨N, hN, eN⟩ := b_nI2 (n := 50) (by decide) (by decide) w1
    have a0 : al (0 : Int32).toNatClampNeg = ti := m.2.2.2.2.2.2.2
    have z0 : ∀ z : Option Int32, ix (0 : Int32) 320 z = z := fun z => ixo z (by decide)
    have hob : f_X5_obey (nI i) rP fP rT fT rG fG rL fL rH fH gi di re ti rO fO = bd9 (f_X5_obeyPass (g 1) rP fP rT fT rG fG rL fL rH fH di ti) (fun r_25 fP_26 rG_27 fG_28 rL_29 fL_30 fH_31 di_32 ti_33 => some (r_25, fP_26, rG_27, fG_28, rL_29, fL_30, fH_31, gi, di_32, re, ti_33)) := by
      unfold f_X5_obey
      rw [t1, bd_some, t0, bd_some, g0, if_neg (show ¬ (116 : Int32) = 99 by decide), if_neg (show ¬ (116 : Int32) = 103 by decide), if_pos rfl]
    have hmp : f_X6_mayPass (g 1) al = some (if (100000 : Int32) < ti + g 1 then 0 else 1) := by
      unfold f_X6_mayPass
      rw [z0, a0]
      split <;> rfl
    have hht : f_X2_hasTimeFor (g 1) ti = some (if (100000 : Int32) < ti + g 1 then 0 else 1) := by
      unfold f_X2_hasTimeFor
      split <;> rfl
    have hdo : f_X6_does al ho (g 0) nu = bd (f_X6_mayPass (g 1) al) (fun r_25 => if r_25 = (0 : Int32) then (some ((0 : Int32), al, ho)) else (bd2 (f_X6_ticks (g 1) al) (fun r_29 al_30 => some ((1 : Int32), al_30, ho)))) := by
      unfold f_X6_does
      rw [g0, if_neg (show ¬ (116 : Int32) = 99 by decide), if_neg (show ¬ (116 : Int32) = 103 by decide), if_neg (show ¬ (116 : Int32) = 118 by decide), x0, x0, c0, v0]
    rw [hob, hdo, hmp, bd_some]
    unfold f_X5_obeyPass
    rw [hht, bd_some]
    by_cases ct : (100000 : Int32) < ti + g 1
    · rw [if_pos ct, if_pos rfl, if_pos rfl, bd9_some]
      exact ⟨0, P, G, Lg, rG, rL, gi, di, re, ti, fP, fG, fL, fH, al, ho, rfl, rfl, o, c, m⟩
    · obtain ⟨d, P', G', Lg', di', ti', rG', rL', aP, aG, aL, aH, al', b1, b2, b3, b4, b5⟩ := j_pass (N := N) (by omega) o c m
      rw [if_neg ct, if_neg n10, if_neg n10, eN, b1, bd9_some, bd9_some, b2, bd2_some]
      exact ⟨1, P', G', Lg', rG', rL', gi, di', re, ti', aP, aG, aL, aH, al', ho, rfl, rfl, b3, b4, b5⟩
