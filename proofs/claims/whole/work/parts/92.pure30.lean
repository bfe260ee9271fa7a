/-! ===== PURE: the law's calls: reasons, chains, what if ===== -/
theorem bd15_mk {α0 α1 α2 α3 α4 α5 α6 α7 α8 α9 α10 α11 α12 α13 α14 γ : Type} {x : α0 × α1 × α2 × α3 × α4 × α5 × α6 × α7 × α8 × α9 × α10 × α11 × α12 × α13 × α14} {f : α0 → α1 → α2 → α3 → α4 → α5 → α6 → α7 → α8 → α9 → α10 → α11 → α12 → α13 → α14 → Option γ} : bd15 (some x) f = f x.1 x.2.1 x.2.2.1 x.2.2.2.1 x.2.2.2.2.1 x.2.2.2.2.2.1 x.2.2.2.2.2.2.1 x.2.2.2.2.2.2.2.1 x.2.2.2.2.2.2.2.2.1 x.2.2.2.2.2.2.2.2.2.1 x.2.2.2.2.2.2.2.2.2.2.1 x.2.2.2.2.2.2.2.2.2.2.2.1 x.2.2.2.2.2.2.2.2.2.2.2.2.1 x.2.2.2.2.2.2.2.2.2.2.2.2.2.1 x.2.2.2.2.2.2.2.2.2.2.2.2.2.2 := rfl
theorem bd16_mk {α0 α1 α2 α3 α4 α5 α6 α7 α8 α9 α10 α11 α12 α13 α14 α15 γ : Type} {x : α0 × α1 × α2 × α3 × α4 × α5 × α6 × α7 × α8 × α9 × α10 × α11 × α12 × α13 × α14 × α15} {f : α0 → α1 → α2 → α3 → α4 → α5 → α6 → α7 → α8 → α9 → α10 → α11 → α12 → α13 → α14 → α15 → Option γ} : bd16 (some x) f = f x.1 x.2.1 x.2.2.1 x.2.2.2.1 x.2.2.2.2.1 x.2.2.2.2.2.1 x.2.2.2.2.2.2.1 x.2.2.2.2.2.2.2.1 x.2.2.2.2.2.2.2.2.1 x.2.2.2.2.2.2.2.2.2.1 x.2.2.2.2.2.2.2.2.2.2.1 x.2.2.2.2.2.2.2.2.2.2.2.1 x.2.2.2.2.2.2.2.2.2.2.2.2.1 x.2.2.2.2.2.2.2.2.2.2.2.2.2.1 x.2.2.2.2.2.2.2.2.2.2.2.2.2.2.1 x.2.2.2.2.2.2.2.2.2.2.2.2.2.2.2 := rfl
theorem w_why {rP rT rG rL rH gi di re ti : Int32} {fP fT fG fL fH al : Nat → Int32} {P T G Lg : List rw_} (o : OS P T G Lg) (c : CS rP fP rT fT rG fG rL fL rH fH P T G Lg) (ms : MS al P T G Lg gi di re ti) (x1 x2 x3 th : Int32) (ho : Nat → Int32) (fo : Nat → Int64) : ∃ (k b : Int32) (fo' : Nat → Int64) (ho' : Nat → Int32), f_L_why x1 x2 x3 rT fT rG fG rH fH fo = some (k, fo') ∧ f_X6_why x1 x2 x3 al th ho = some (b, k, ho') ∧ (k = 0 → fo' 0 = b.toInt64) := by
  have hT := o.2.2.1.2.1
  have hG := o.2.2.1.1
  unfold f_L_why f_X5_why f_X6_why
  rw [c_reqP, m_isPer, bd_some, c_reqT x2 c.2.1.2.1]
  by_cases h1 : btw x1 0 9 = 0
  · rw [if_pos h1, if_pos h1, bx_l, bx_l, if_pos rfl]
    refine ⟨1, 0, fo, ho, rfl, ?_, o_no n10⟩
    rw [g_1 rfl, g_1 rfl, bd2_some, if_pos rfl]
    split
    · rfl
    · split
      · rfl
      · split <;> rfl
  · rw [if_neg h1, if_neg h1, bx_r, m_isThing ms.2.1 hT, bd_some]
    by_cases h2 : hs_ x2 T.length = 0
    · rw [if_pos h2, if_pos h2, bx_l, bx_l, if_pos rfl]
      refine ⟨1, 0, fo, ho, rfl, ?_, o_no n10⟩
      rw [g_1 rfl, g_1 rfl, bd2_some, if_pos rfl]
      split
      · rfl
      · split
        · rfl
        · split <;> rfl
    · obtain ⟨p, hp, e1⟩ := b_per h1
      obtain ⟨t, ht, e2⟩ := hs_t (by omega) h2
      obtain ⟨h', l1, l2⟩ := q_lay ms.qa o.2.2.1 ho
      have cy := c_why (x := x3) c.2.1 o.2.2.1.k hp ht
      have k1 := q_hat l2 o.2.2.1.k hp ht
      have k2 := ms.2.1.mask ht hT
      have k3 := q_with (p := p) (x := x3) (l := 0) l2 o.2.2.1.k ht
      have k4 := q_with (p := p) (x := x3) (l := 4) l2 o.2.2.1.k ht
      rw [← e1, ← e2] at cy k1 k3 k4
      rw [← e2] at k2
      have b0 := cw_le (G := G) (H := hd T G) (p := p) (t := t) (x := x3) (l := 0) G.length 0 0
      have b4 := cw_le (G := G) (H := hd T G) (p := p) (t := t) (x := x3) (l := 4) G.length 0 0
      have z0 : (nI (cw_ G (hd T G) p t x3 0 G.length 0 0) = 0) ↔ (cw_ G (hd T G) p t x3 0 G.length 0 0 = 0) := n_zero (by omega)
      have z4 : (nI (cw_ G (hd T G) p t x3 4 G.length 0 0) = 0) ↔ (cw_ G (hd T G) p t x3 4 G.length 0 0 = 0) := n_zero (by omega)
      have tail : ∀ th' : Int32, (bd (f_X6_holds x1 x2 h') fun r_11 => if r_11 &&& x3 = (0 : Int32) then (bd (f_X6_mask x2 al) (fun r_14 => if r_14 &&& x3 = (0 : Int32) then (some ((1 : Int32), th', h')) else (bd (f_X6_grantsWith x1 x2 x3 (0 : Int32) al h') (fun r_17 => if r_17 = (0 : Int32) then (some ((2 : Int32), th', h')) else (bd (f_X6_grantsWith x1 x2 x3 (4 : Int32) al h') (fun r_20 => if r_20 = (0 : Int32) then (some ((3 : Int32), th', h')) else (some ((4 : Int32), th', h')))))))) else (some ((0 : Int32), th', h'))) = some (why_ T G (hd T G) p t x3, th', h') := by
        intro th'
        rw [k1, bd_some, k2, bd_some, k3, bd_some, k4, bd_some]
        unfold why_
        by_cases d1 : hd T G (10 * t + p) &&& x3 = (0 : Int32)
        · rw [if_pos d1, if_pos d1]
          by_cases d2 : T.getD t z_ 1 &&& x3 = (0 : Int32)
          · rw [if_pos d2, if_pos d2]
          · rw [if_neg d2, if_neg d2]
            by_cases d3 : cw_ G (hd T G) p t x3 0 G.length 0 0 = 0
            · rw [if_pos (z0.mpr d3), if_pos d3]
            · rw [if_neg (fun z => d3 (z0.mp z)), if_neg d3]
              by_cases d4 : cw_ G (hd T G) p t x3 4 G.length 0 0 = 0
              · rw [if_pos (z4.mpr d4), if_pos d4]
              · rw [if_neg (fun z => d4 (z4.mp z)), if_neg d4]
        · rw [if_neg d1, if_neg d1]
      rw [if_neg h2, if_neg h2, bx_r, cy, bd_some, g_0 n10 n10 n10, g_2 n10 rfl, bd2_some, bd2_some, if_neg n10, if_pos rfl, l1, bd_some, tail]
      by_cases r1 : x3 = 1
      · rw [if_pos r1, if_pos r1, bx_r, o_set]
        exact ⟨0, _, _, h', rfl, rfl, o_at⟩
      · rw [if_neg r1, if_neg r1]
        by_cases r2 : x3 = 2
        · rw [if_pos r2, if_pos r2, bx_r, o_set]
          exact ⟨0, _, _, h', rfl, rfl, o_at⟩
        · rw [if_neg r2, if_neg r2]
          by_cases r4 : x3 = 4
          · rw [if_pos r4, if_pos r4, bx_r, o_set]
            exact ⟨0, _, _, h', rfl, rfl, o_at⟩
          · rw [if_neg r4, if_neg r4, bx_l, if_neg s_ai, if_pos rfl]
            exact ⟨2, 0, fo, ho, rfl, rfl, o_no n20⟩
theorem w_chain {rP rT rG rL rH gi di re ti : Int32} {fP fT fG fL fH al : Nat → Int32} {P T G Lg : List rw_} (o : OS P T G Lg) (c : CS rP fP rT fT rG fG rL fL rH fH P T G Lg) (ms : MS al P T G Lg gi di re ti) (x1 x2 th : Int32) (ho fS fr : Nat → Int32) (fo : Nat → Int64) : ∃ (k b : Int32) (fo' : Nat → Int64) (ho' fS' fr' : Nat → Int32), f_L_chain x1 x2 rT fT rG fG rH fH 1 fS fo = some (k, fS', fo') ∧ f_X6_chain x1 x2 al th ho fr = some (b, k, ho', fr') ∧ (k = 0 → fo' 0 = b.toInt64) := by
  have hT := o.2.2.1.2.1
  unfold f_L_chain f_X5_chain f_X6_chain
  rw [c_reqP, m_isPer, bd_some, c_reqT x2 c.2.1.2.1, m_isThing ms.2.1 hT, bd_some]
  by_cases h1 : btw x1 0 9 = 0
  · rw [if_pos h1, if_pos h1, bx_l, bx_l, if_pos rfl, g_1 rfl, bd2_some, if_pos rfl]
    exact ⟨1, 0, fo, ho, fS, fr, rfl, rfl, o_no n10⟩
  · rw [if_neg h1, if_neg h1, bx_r]
    by_cases h2 : hs_ x2 T.length = 0
    · rw [if_pos h2, if_pos h2, bx_l, bx_l, if_pos rfl, g_1 rfl, bd2_some, if_pos rfl]
      exact ⟨1, 0, fo, ho, fS, fr, rfl, rfl, o_no n10⟩
    · obtain ⟨p, hp, e1⟩ := b_per h1
      obtain ⟨t, ht, e2⟩ := hs_t (by omega) h2
      obtain ⟨h', l1, l2⟩ := q_lay ms.qa o.2.2.1 ho
      obtain ⟨fS', s1, s2⟩ := c_measure c.2.1 o.2.2.1.k ht fS
      obtain ⟨fr', r1, r2⟩ := q_measure l2 o.2.2.1.k ht fr
      rw [← e2] at s1 r1
      have s3 : f_X0_stepsTo x1 (1 : Int32) fS' = some (far_ T G (hd T G) t p) := by rw [e1, s_at hp, s2 p hp]
      have r3 : f_X6_chainOf x1 x2 al h' fr = some (far_ T G (hd T G) t p, fr') := by
        unfold f_X6_chainOf
        rw [r1, bd_some, e1, n_ix hp (by omega), n_cl (by omega), nm_eq, r2 p hp]
      rw [if_neg h2, if_neg h2, bx_r, s1, bd_some, s3, bd_some, bx_r, g_0 n10 n10 n10, bd2_some, if_neg n10, l1, bd_some, r3, bd2_some, o_set]
      exact ⟨0, _, _, h', fS', fr', rfl, rfl, o_at⟩
theorem m_in2 (x : Int32) : f_X6_in x.toInt64 (0 : Int64) ((-1 : Int32).toInt64 - (1 : Int64)) = some 0 := by
  have e := m_in x 0 (-2)
  have e : f_X6_in x.toInt64 (0 : Int64) ((-1 : Int32).toInt64 - (1 : Int64)) = some (btw x 0 (-2)) := e
  rw [e]
  unfold btw
  by_cases h : x < 0
  · rw [if_pos h]
  · rw [if_neg h, if_pos (Int32.lt_of_lt_of_le (show (-2 : Int32) < 0 by decide) (Int32.not_lt.mp h))]
theorem w_link {rP rT rG rL rH gi di re ti : Int32} {fP fT fG fL fH al : Nat → Int32} {P T G Lg : List rw_} (o : OS P T G Lg) (c : CS rP fP rT fT rG fG rL fL rH fH P T G Lg) (ms : MS al P T G Lg gi di re ti) (x1 x2 x3 th : Int32) (ho fS fr : Nat → Int32) (fo : Nat → Int64) : ∃ (k b : Int32) (fo' : Nat → Int64) (ho' fS' fr' : Nat → Int32), f_L_link x1 x2 x3 rT fT rG fG rH fH 1 fS fo = some (k, fS', fo') ∧ f_X6_link x1 x2 x3 al th ho fr = some (b, k, ho', fr') ∧ (k = 0 → fo' 0 = b.toInt64) := by
  have hT := o.2.2.1.2.1
  have hG := o.2.2.1.1
  unfold f_L_link f_X5_link f_X6_link
  rw [c_reqP, m_isPer, bd_some, c_reqT x2 c.2.1.2.1, m_isThing ms.2.1 hT, bd_some]
  by_cases h1 : btw x1 0 9 = 0
  · rw [if_pos h1, if_pos h1, bx_l, bx_l, if_pos rfl, g_1 rfl, bd2_some, if_pos rfl]
    exact ⟨1, 0, fo, ho, fS, fr, rfl, rfl, o_no n10⟩
  · rw [if_neg h1, if_neg h1, bx_r]
    by_cases h2 : hs_ x2 T.length = 0
    · rw [if_pos h2, if_pos h2, bx_l, bx_l, if_pos rfl, g_1 rfl, bd2_some, if_pos rfl]
      exact ⟨1, 0, fo, ho, fS, fr, rfl, rfl, o_no n10⟩
    · obtain ⟨p, hp, e1⟩ := b_per h1
      obtain ⟨t, ht, e2⟩ := hs_t (by omega) h2
      obtain ⟨h', l1, l2⟩ := q_lay ms.qa o.2.2.1 ho
      obtain ⟨fS', s1, s2⟩ := c_measure c.2.1 o.2.2.1.k ht fS
      obtain ⟨fr', r1, r2⟩ := q_measure l2 o.2.2.1.k ht fr
      rw [← e2] at s1 r1
      have s3 : f_X0_stepsTo x1 (1 : Int32) fS' = some (far_ T G (hd T G) t p) := by rw [e1, s_at hp, s2 p hp]
      have r3 : f_X6_chainOf x1 x2 al h' fr = some (far_ T G (hd T G) t p, fr') := by
        unfold f_X6_chainOf
        rw [r1, bd_some, e1, n_ix hp (by omega), n_cl (by omega), nm_eq, r2 p hp]
      rw [if_neg h2, if_neg h2, bx_r, s1, bd_some, s3, bd_some, l1, bd_some, r3, bd2_some]
      rcases (far_mr o.2.2.1.k ht).2.1 p hp with hf | ⟨v, hv, hf⟩
      · rw [hf, m_in2, bd_some, if_pos rfl, g_1 rfl, bd2_some, if_pos rfl]
        have hx : (if x3 < (0 : Int32) then (some (.inl ("java/lang/IndexOutOfBoundsException", fS')) : Option ((String × (Nat → Int32)) ⊕ (Int32 × (Nat → Int32)))) else if x3 < -1 then (bd (f_X0_numberAt x1 x2 x3 1 fS' rT fT rG fG rH fH) fun r_13 => some (.inr (r_13, fS'))) else some (.inl ("java/lang/IndexOutOfBoundsException", fS'))) = some (.inl ("java/lang/IndexOutOfBoundsException", fS')) := by
          by_cases d1 : x3 < 0
          · rw [if_pos d1]
          · rw [if_neg d1, if_neg (fun z => d1 (Int32.lt_trans z (by decide)))]
        rw [hx, bx_l, if_pos rfl]
        exact ⟨1, 0, fo, h', fS', fr', rfl, rfl, o_no n10⟩
      · rw [hf, m_hasN (by omega), bd_some]
        by_cases h3 : hs_ x3 v = 0
        · rw [if_pos h3, g_1 rfl, bd2_some, if_pos rfl]
          have hx : (if x3 < (0 : Int32) then (some (.inl ("java/lang/IndexOutOfBoundsException", fS')) : Option ((String × (Nat → Int32)) ⊕ (Int32 × (Nat → Int32)))) else if x3 < nI v then (bd (f_X0_numberAt x1 x2 x3 1 fS' rT fT rG fG rH fH) fun r_13 => some (.inr (r_13, fS'))) else some (.inl ("java/lang/IndexOutOfBoundsException", fS'))) = some (.inl ("java/lang/IndexOutOfBoundsException", fS')) := by
            by_cases d1 : x3 < 0
            · rw [if_pos d1]
            · rw [if_neg d1]
              unfold hs_ at h3
              rw [if_neg d1] at h3
              by_cases d2 : nI v ≤ x3
              · rw [if_neg (Int32.not_lt.mpr d2)]
              · rw [if_neg d2] at h3
                exact absurd h3 n10
          rw [hx, bx_l, if_pos rfl]
          exact ⟨1, 0, fo, h', fS', fr', rfl, rfl, o_no n10⟩
        · obtain ⟨pl, hpl, e3⟩ := hs_t (by omega) h3
          have hf2 : far_ T G (hd T G) t p = nI (v - 1 - pl + pl + 1) := by rw [hf, show v - 1 - pl + pl + 1 = v by omega]
          obtain ⟨i, i', k1, k2, k3, k4⟩ := p_link c.2.1 l2 o.2.2.1.k ht s2 r2 (v - 1 - pl) p FU FU (-1) hp (by omega) (by unfold FU; omega) (by unfold FU; omega) hf2
          rw [show v - 1 - pl + pl + 1 = v by omega] at k4
          have el : nI v - (1 : Int32) - x3 = nI (v - 1 - pl) := by rw [e3, show (1 : Int32) = nI 1 from rfl, pk_sub (by omega), pk_sub (by omega)]
          have d1 : ¬ x3 < 0 := by rw [e3]; exact nI_pos (by omega)
          have d2 : x3 < nI v := by rw [e3]; exact q_lt (by omega) (by omega) hpl
          rw [← e1, ← e2] at k1 k4
          rw [← e2] at k2
          rw [← e3] at k4
          have k5 : f_X0_numberAt x1 x2 x3 (1 : Int32) fS' rT fT rG fG rH fH = some (G.getD i' z_ 5) := by
            unfold f_X0_numberAt
            rw [s3, bd_some, hf, k4, bd_some]
          rw [if_neg h3, if_neg d1, if_pos d2, k5, bd_some, bx_r, o_set, g_0 n10 n10 n10, bd2_some, if_neg n10, k1, bd_some, nm_eq, el, k2, bd_some, l2.1.n k3 hG, bd_some]
          exact ⟨0, _, _, h', fS', fr', rfl, rfl, o_at⟩
