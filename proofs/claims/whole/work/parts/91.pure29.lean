/-! ===== PURE: the law's calls: values ===== -/
theorem bx_l {α β γ : Type} {a : α} {kx : α → Option γ} {k : β → Option γ} : bx (some (.inl a)) kx k = kx a := rfl
theorem bx_r {α β γ : Type} {b : β} {kx : α → Option γ} {k : β → Option γ} : bx (some (.inr b)) kx k = k b := rfl
theorem s_ai : ¬ "java/lang/IllegalArgumentException" = "java/lang/IndexOutOfBoundsException" := by decide
theorem s_si : ¬ "java/lang/IllegalStateException" = "java/lang/IndexOutOfBoundsException" := by decide
theorem s_sa : ¬ "java/lang/IllegalStateException" = "java/lang/IllegalArgumentException" := by decide
theorem s_an : ¬ "java/lang/IllegalArgumentException" = "java/util/NoSuchElementException" := by decide
theorem c_reqP (x : Int32) : f_X5_requirePerson x = if btw x 0 9 = 0 then some (.inl "java/lang/IndexOutOfBoundsException") else some (.inr ()) := by
  unfold f_X5_requirePerson
  rw [c_isPer, bd_some]
theorem c_reqR (x lo hi : Int32) : f_X5_requireRange x lo hi = if btw x lo hi = 0 then some (.inl "java/lang/IllegalArgumentException") else some (.inr ()) := by
  unfold f_X5_requireRange
  rw [c_btw, bd_some]
theorem c_reqM (x : Int32) : f_X5_requireMask x = if btw x 0 7 = 0 then some (.inl "java/lang/IllegalArgumentException") else some (.inr ()) := by
  unfold f_X5_requireMask
  rw [c_reqR]
  split <;> rfl
theorem c_reqT {rT : Int32} {fT : Nat → Int32} {T : List rw_} (x : Int32) (h : RT 2 rT fT T) : f_X5_requireThing x rT = if hs_ x T.length = 0 then some (.inl "java/lang/IndexOutOfBoundsException") else some (.inr ()) := by
  unfold f_X5_requireThing
  rw [h.1, c_has, bd_some]
theorem g_1 {a b c th : Int32} (h : a = 0) : f_X6_goes a b c th = some (0, 1) := by
  unfold f_X6_goes
  rw [if_pos h]
theorem g_2 {a b c th : Int32} (h : ¬ a = 0) (h2 : b = 0) : f_X6_goes a b c th = some (0, 2) := by
  unfold f_X6_goes
  rw [if_neg h, if_pos h2]
theorem g_3 {a b c th : Int32} (h : ¬ a = 0) (h2 : ¬ b = 0) (h3 : c = 0) : f_X6_goes a b c th = some (0, 3) := by
  unfold f_X6_goes
  rw [if_neg h, if_neg h2, if_pos h3]
theorem g_0 {a b c th : Int32} (h : ¬ a = 0) (h2 : ¬ b = 0) (h3 : ¬ c = 0) : f_X6_goes a b c th = some (1, 0) := by
  unfold f_X6_goes
  rw [if_neg h, if_neg h2, if_neg h3]
theorem n10 : ¬ (1 : Int32) = 0 := by decide
theorem o_set {γ : Type} {fo : Nat → Int64} {v : Int64} {k : (Nat → Int64) → Option γ} : ix (0 : Int32) 1 (nm (vp_updL fo (0 : Int32).toNatClampNeg v) k) = k (vp_updL fo 0 v) := by
  rw [ixo _ (by decide), nm_eq]
  rfl
theorem o_at {fo : Nat → Int64} {v : Int64} : (0 : Int32) = 0 → vp_updL fo 0 v 0 = v := fun _ => pk_uLs
theorem o_no {fo : Nat → Int64} {v : Int64} {k : Int32} (h : ¬ k = 0) : k = 0 → fo 0 = v := fun z => absurd z h
theorem n20 : ¬ (2 : Int32) = 0 := by decide
theorem n30 : ¬ (3 : Int32) = 0 := by decide
theorem w_held {rP rT rG rL rH gi di re ti : Int32} {fP fT fG fL fH al : Nat → Int32} {P T G Lg : List rw_} (o : OS P T G Lg) (c : CS rP fP rT fT rG fG rL fL rH fH P T G Lg) (ms : MS al P T G Lg gi di re ti) (x1 x2 th : Int32) (ho : Nat → Int32) (fo : Nat → Int64) : ∃ (k b : Int32) (fo' : Nat → Int64) (ho' : Nat → Int32), f_L_held x1 x2 rT rH fH fo = some (k, fo') ∧ f_X6_held x1 x2 al th ho = some (b, k, ho') ∧ (k = 0 → fo' 0 = b.toInt64) := by
  have hT := o.2.2.1.2.1
  unfold f_L_held f_X5_held f_X6_held
  rw [c_reqP, m_isPer, bd_some, c_reqT x2 c.2.1.2.1, m_isThing ms.2.1 hT, bd_some]
  by_cases h1 : btw x1 0 9 = 0
  · rw [if_pos h1, if_pos h1, bx_l, bx_l, if_pos rfl, g_1 rfl, bd2_some, if_pos rfl]
    exact ⟨1, 0, fo, ho, rfl, rfl, o_no n10⟩
  · rw [if_neg h1, if_neg h1, bx_r]
    by_cases h2 : hs_ x2 T.length = 0
    · rw [if_pos h2, if_pos h2, bx_l, bx_l, if_pos rfl, g_1 rfl, bd2_some, if_pos rfl]
      exact ⟨1, 0, fo, ho, rfl, rfl, o_no n10⟩
    · obtain ⟨p, hp, e1⟩ := b_per h1
      obtain ⟨t, ht, e2⟩ := hs_t (by omega) h2
      obtain ⟨h', l1, l2⟩ := q_lay ms.qa o.2.2.1 ho
      have er : f_X2_rightsOf x1 x2 rH fH = some (hd T G (10 * t + p)) := by
        unfold f_X2_rightsOf
        rw [e1, e2, c_hat c.2.1 o.2.2.1.k hp ht, bd_some]
      have em : f_X6_holds x1 x2 h' = some (hd T G (10 * t + p)) := by rw [e1, e2, q_hat l2 o.2.2.1.k hp ht]
      rw [if_neg h2, if_neg h2, bx_r, er, bd_some, bx_r, g_0 n10 n10 n10, bd2_some, if_neg n10, l1, bd_some, em, bd_some, o_set]
      exact ⟨0, _, _, h', rfl, rfl, o_at⟩
theorem w_person {rP rT rG rL rH gi di re ti : Int32} {fP fT fG fL fH al : Nat → Int32} {P T G Lg : List rw_} (o : OS P T G Lg) (c : CS rP fP rT fT rG fG rL fL rH fH P T G Lg) (ms : MS al P T G Lg gi di re ti) (x1 x2 th : Int32) (ho : Nat → Int32) (fo : Nat → Int64) : ∃ (k b : Int32) (fo' : Nat → Int64) (ho' : Nat → Int32), f_L_person x1 x2 rP fP rT fT rG fG rH fH fo = some (k, fo') ∧ f_X6_person x1 x2 al th ho = some (b, k, ho') ∧ (k = 0 → fo' 0 = b.toInt64) := by
  have ei : f_X6_in x2.toInt64 (0 : Int64) (6 : Int64) = some (btw x2 0 6) := m_in x2 0 6
  unfold f_L_person f_X5_person f_X6_person
  rw [c_reqP, m_isPer, bd_some, c_reqR, ei, bd_some]
  by_cases h1 : btw x1 0 9 = 0
  · rw [if_pos h1, bx_l, bx_l, if_pos rfl, g_1 h1, bd2_some, if_pos rfl]
    exact ⟨1, 0, fo, ho, rfl, rfl, o_no n10⟩
  · rw [if_neg h1, bx_r]
    by_cases h2 : btw x2 0 6 = 0
    · rw [if_pos h2, bx_l, bx_l, if_neg s_ai, if_pos rfl, g_2 h1 h2, bd2_some, if_pos rfl]
      exact ⟨2, 0, fo, ho, rfl, rfl, o_no n20⟩
    · obtain ⟨p, hp, e1⟩ := b_per h1
      obtain ⟨h', l1, l2⟩ := q_lay ms.qa o.2.2.1 ho
      obtain ⟨v, v1, v2⟩ := t_person c.1 o.1 c.2.1 o.2.2.1.k ms.1 l2 hp x2
      rw [if_neg h2, bx_r, e1, v1, bd_some, bx_r, ← e1, g_0 h1 h2 n10, bd2_some, if_neg n10, l1, bd_some, e1, v2, bd_some, o_set]
      exact ⟨0, _, _, h', rfl, rfl, o_at⟩
theorem w_thing {rP rT rG rL rH gi di re ti : Int32} {fP fT fG fL fH al : Nat → Int32} {P T G Lg : List rw_} (o : OS P T G Lg) (c : CS rP fP rT fT rG fG rL fL rH fH P T G Lg) (ms : MS al P T G Lg gi di re ti) (x1 x2 th : Int32) (ho : Nat → Int32) (fo : Nat → Int64) : ∃ (k b : Int32) (fo' : Nat → Int64) (ho' : Nat → Int32), f_L_thing x1 x2 rT fT rG fG rH fH fo = some (k, fo') ∧ f_X6_thing x1 x2 al th ho = some (b, k, ho') ∧ (k = 0 → fo' 0 = b.toInt64) := by
  have hT := o.2.2.1.2.1
  have ei : f_X6_in x2.toInt64 (0 : Int64) (5 : Int64) = some (btw x2 0 5) := m_in x2 0 5
  unfold f_L_thing f_X5_thing f_X6_thing
  rw [c_reqT x1 c.2.1.2.1, m_isThing ms.2.1 hT, bd_some, c_reqR, ei, bd_some]
  by_cases h1 : hs_ x1 T.length = 0
  · rw [if_pos h1, bx_l, bx_l, if_pos rfl, g_1 h1, bd2_some, if_pos rfl]
    exact ⟨1, 0, fo, ho, rfl, rfl, o_no n10⟩
  · rw [if_neg h1, bx_r]
    by_cases h2 : btw x2 0 5 = 0
    · rw [if_pos h2, bx_l, bx_l, if_neg s_ai, if_pos rfl, g_2 h1 h2, bd2_some, if_pos rfl]
      exact ⟨2, 0, fo, ho, rfl, rfl, o_no n20⟩
    · obtain ⟨t, ht, e1⟩ := hs_t (by omega) h1
      obtain ⟨j, hj, e2⟩ := b_nI (n := 5) (by decide) h2
      obtain ⟨h', l1, l2⟩ := q_lay ms.qa o.2.2.1 ho
      obtain ⟨v, v1, v2⟩ := t_thing c.2.1 o.2.2.1.k l2 ht (j := j) (by omega)
      rw [← e1, ← e2] at v1 v2
      rw [if_neg h2, bx_r, v1, bd_some, bx_r, g_0 h1 h2 n10, bd2_some, if_neg n10, l1, bd_some, v2, bd_some, o_set]
      exact ⟨0, _, _, h', rfl, rfl, o_at⟩
theorem w_grantOf {rP rT rG rL rH gi di re ti : Int32} {fP fT fG fL fH al : Nat → Int32} {P T G Lg : List rw_} (o : OS P T G Lg) (c : CS rP fP rT fT rG fG rL fL rH fH P T G Lg) (ms : MS al P T G Lg gi di re ti) (x1 x2 th : Int32) (ho : Nat → Int32) (fo : Nat → Int64) : ∃ (k b : Int32) (fo' : Nat → Int64) (ho' : Nat → Int32), f_L_grantOf x1 x2 rT fT rG fG rH fH fo = some (k, fo') ∧ f_X6_grantOf x1 x2 al th ho = some (b, k, ho') ∧ (k = 0 → fo' 0 = b.toInt64) := by
  have ei : f_X6_in x2.toInt64 (0 : Int64) (5 : Int64) = some (btw x2 0 5) := m_in x2 0 5
  obtain ⟨v, p1, p2, p3⟩ := q_place c.2.1.1 ms.2.2.1 o.2.2.1.1 x1
  unfold f_L_grantOf f_X5_grantOf f_X6_grantOf f_X5_requireGrant
  rw [p1, p2, bd_some, bd_some, c_reqR, ei, bd_some, bd_some]
  by_cases h1 : v = -1
  · rw [if_pos h1, if_pos h1, bx_l, bx_l, if_pos rfl, g_1 rfl, bd2_some, if_pos rfl]
    exact ⟨1, 0, fo, ho, rfl, rfl, o_no n10⟩
  · rw [if_neg h1, if_neg h1, bx_r]
    by_cases h2 : btw x2 0 5 = 0
    · rw [if_pos h2, bx_l, bx_l, if_neg s_an, if_pos rfl, g_2 n10 h2, bd2_some, if_pos rfl]
      exact ⟨2, 0, fo, ho, rfl, rfl, o_no n20⟩
    · rcases p3 with p3 | ⟨i, hi, ev⟩
      · exact absurd p3 h1
      · obtain ⟨j, hj, e2⟩ := b_nI (n := 5) (by decide) h2
        obtain ⟨h', l1, l2⟩ := q_lay ms.qa o.2.2.1 ho
        obtain ⟨w, v1, v2⟩ := t_grant c.2.1 o.2.2.1.k l2 hi (j := j) (by omega)
        rw [← ev, ← e2] at v1 v2
        rw [if_neg h2, bx_r, v1, bd_some, bx_r, g_0 n10 h2 n10, bd2_some, if_neg n10, l1, bd_some, v2, bd_some, o_set]
        exact ⟨0, _, _, h', rfl, rfl, o_at⟩
theorem w_value {rP rT rG rL rH gi di re ti : Int32} {fP fT fG fL fH al : Nat → Int32} {P T G Lg : List rw_} (o : OS P T G Lg) (c : CS rP fP rT fT rG fG rL fL rH fH P T G Lg) (ms : MS al P T G Lg gi di re ti) (x1 th : Int32) (ho : Nat → Int32) (fo : Nat → Int64) : ∃ (k b : Int32) (fo' : Nat → Int64) (ho' : Nat → Int32), f_L_value x1 rT fT rG fG rL rH fH gi di re ti fo = some (k, fo') ∧ f_X6_value x1 al th ho = some (b, k, ho') ∧ (k = 0 → fo' 0 = b.toInt64) := by
  have ei : f_X6_in x1.toInt64 (0 : Int64) (8 : Int64) = some (btw x1 0 8) := m_in x1 0 8
  unfold f_L_value f_X5_value f_X6_value
  rw [c_reqR, ei, bd_some]
  by_cases h1 : btw x1 0 8 = 0
  · rw [if_pos h1, bx_l, bx_l, if_pos rfl, g_1 h1, bd2_some, if_pos rfl]
    exact ⟨1, 0, fo, ho, rfl, rfl, o_no n10⟩
  · obtain ⟨j, hj, e1⟩ := b_nI (n := 8) (by decide) h1
    obtain ⟨v, h', v1, v2⟩ := t_house c.2.1 c.2.2 o.2.2.1 ms.qa ms.2.2.2.2 ms.2.2.2.1 ho (j := j) (by omega)
    rw [← e1] at v1 v2
    rw [if_neg h1, bx_r, v1, bd_some, bx_r, g_0 h1 n10 n10, bd2_some, if_neg n10, v2, bd2_some, o_set]
    exact ⟨0, _, _, h', rfl, rfl, o_at⟩
theorem w_entry {rP rT rG rL rH gi di re ti : Int32} {fP fT fG fL fH al : Nat → Int32} {P T G Lg : List rw_} (o : OS P T G Lg) (c : CS rP fP rT fT rG fG rL fL rH fH P T G Lg) (ms : MS al P T G Lg gi di re ti) (x1 x2 th : Int32) (fo : Nat → Int64) : ∃ (k b : Int32) (fo' : Nat → Int64), f_L_entry x1 x2 rL fL fo = some (k, fo') ∧ f_X6_entry x1 x2 al th = some (b, k) ∧ (k = 0 → fo' 0 = b.toInt64) := by
  have hl := o.2.2.2
  have ei : f_X6_in x2.toInt64 (0 : Int64) (2 : Int64) = some (btw x2 0 2) := m_in x2 0 2
  have a6 : al (6 : Int32).toNatClampNeg = nI Lg.length := ms.2.2.2.1.1
  have z6 : ∀ z : Option (Int32 × Int32), ix (6 : Int32) 320 z = z := fun z => ixo z (by decide)
  have eX : f_X5_entry x1 x2 rL fL = if hs_ x1 Lg.length = 0 then some (.inl "java/lang/IndexOutOfBoundsException") else bx (f_X5_requireRange x2 (0 : Int32) (2 : Int32)) (fun E_7 => some (.inl E_7)) (fun u_6 => bd (f_X2_aboutEntry x1 x2 rL fL) (fun r_8 => some (.inr r_8))) := by
    unfold f_X5_entry hs_
    rw [c.2.2.rows, bd_some]
    by_cases d1 : x1 < 0
    · rw [if_pos d1, if_pos d1, if_pos rfl]
    · rw [if_neg d1, if_neg d1]
      by_cases d2 : nI Lg.length ≤ x1
      · rw [if_neg (Int32.not_lt.mpr d2), if_pos d2, if_pos rfl]
      · rw [if_pos (Int32.not_le.mp d2), if_neg d2, if_neg n10]
  unfold f_L_entry f_X6_entry
  rw [eX, z6, a6, m_hasN (by omega), bd_some, ei, bd_some, c_reqR]
  by_cases h1 : hs_ x1 Lg.length = 0
  · rw [if_pos h1, bx_l, if_pos rfl, g_1 h1, bd2_some, if_pos rfl]
    exact ⟨1, 0, fo, rfl, rfl, o_no n10⟩
  · rw [if_neg h1]
    by_cases h2 : btw x2 0 2 = 0
    · rw [if_pos h2, bx_l, bx_l, if_neg s_ai, if_pos rfl, g_2 h1 h2, bd2_some, if_pos rfl]
      exact ⟨2, 0, fo, rfl, rfl, o_no n20⟩
    · obtain ⟨i, hi, e1⟩ := hs_t (by omega) h1
      obtain ⟨j, hj, e2⟩ := b_nI (n := 2) (by decide) h2
      have hv := t_entry c.2.2 hl ms.2.2.2.1 hi (j := j) (by omega)
      have ea : (284 : Int32) + (3 : Int32) * x1 + x2 = nI (284 + 3 * i + j) := by
        rw [e1, e2, show (284 : Int32) = nI 284 from rfl, show (3 : Int32) = nI 3 from rfl, n_mul, n_at, n_at]
      have v1 := hv.1
      rw [← e1, ← e2] at v1
      rw [if_neg h2, bx_r, v1, bd_some, bx_r, o_set, g_0 h1 h2 n10, bd2_some, if_neg n10, ea, n_ix (by omega) (by omega), n_cl (by omega), nm_eq, hv.2]
      exact ⟨0, _, _, rfl, rfl, o_at⟩
theorem w_patience {rP rT rG rL rH gi di re ti : Int32} {fP fT fG fL fH al : Nat → Int32} {P T G Lg : List rw_} (o : OS P T G Lg) (c : CS rP fP rT fT rG fG rL fL rH fH P T G Lg) (ms : MS al P T G Lg gi di re ti) (x1 th : Int32) (fo : Nat → Int64) : ∃ (k b : Int32) (fo' : Nat → Int64), f_L_patience x1 rP fP rG fG fo = some (k, fo') ∧ f_X6_patience x1 al th = some (b, k) ∧ (k = 0 → fo' 0 = b.toInt64) := by
  have hl := o.2.2.1.1
  unfold f_L_patience f_X5_patience f_X6_patience
  rw [c_reqP, m_isPer, bd_some]
  by_cases h1 : btw x1 0 9 = 0
  · rw [if_pos h1, bx_l, bx_l, if_pos rfl, g_1 h1, bd2_some, if_pos rfl]
    exact ⟨1, 0, fo, rfl, rfl, o_no n10⟩
  · obtain ⟨p, hp, e1⟩ := b_per h1
    have q1 := h_gre (x := x1) c.2.1.1 hl G.length 0 FU 0 (by omega) (by unfold FU; omega)
    have q1 : f_X2_greatestThreshold_L4 x1 rG fG FU 0 (0 : Int32) = some (gre_ G x1 G.length 0 0) := q1
    have q2 := m_gre (x := x1) ms.2.2.1 hl G.length 0 FU 0 (by omega) (by unfold FU; omega)
    have q2 : f_X6_patience_L19 x1 al FU 0 (0 : Int32) = some (gre_ G x1 G.length 0 0) := q2
    have q3 : f_X2_greatestThreshold x1 rG fG = some (gre_ G x1 G.length 0 0) := by
      unfold f_X2_greatestThreshold
      rw [q1, bd_some]
    have m1 := c.1.m o.1 hp
    rw [← e1] at m1
    have e8 : (8 : Int32) + x1 = nI (8 + p) := by rw [e1, e_8]
    rw [if_neg h1, bx_r, m1, bd_some, q3, bd_some, nm_eq, bx_r, o_set, g_0 h1 n10 n10, bd2_some, if_neg n10, q2, bd_some, e8, n_ix (by omega) (by omega), n_cl (by omega), nm_eq, (ms.1 p hp).1]
    exact ⟨0, _, _, rfl, rfl, o_at⟩
