/-! ===== PURE: every step, and the law ===== -/
theorem NI.up {k : Nat} {A : AS} (h : NI k A) : NI (k + 1) A := by
  obtain ⟨a, b, ⟨g0, c, d⟩, ⟨t0, e, f⟩⟩ := h
  exact ⟨a, b, ⟨g0, by omega, d⟩, ⟨t0, by omega, f⟩⟩
theorem cnt_die {x y d r : Int32} {a b : Nat} (h : a + b = y.toNatClampNeg) (hy : y = nI y.toNatClampNeg) : x = y + d + r → x = nI a + (d + nI b) + r := by
  intro e
  rw [e, hy, ← h, ← n_at (a := a) (b := b), Int32.add_assoc (nI a), Int32.add_comm (nI b) d]
theorem s_cheer {so sp : LSt} {P T G Lg : List rw_} {gi di re ti y : Int32} {k p : Nat} (h : CR so (P, T, G, Lg, gi, di, re, ti)) (h' : CR sp (P.reverse, T.map mT, G.map mG, Lg.map mL, gi, di, re, ti)) (ni : NI k (P, T, G, Lg, gi, di, re, ti)) (hp : p < 10) (hy : ¬ btw y (-100) 100 = 0) : ∃ (v : Int32) (so' sp' : LSt) (A' : AS), f_B_cheer (nI p) y so = some (v, so') ∧ f_B_cheer (nI (9 - p)) y sp = some (v, sp') ∧ CR so' A' ∧ CR sp' (mA A') ∧ NI (k + 1) A' := by
  have o : OS P T G Lg := cr_f h
  have hl := o.2.2.1.1
  obtain ⟨s1, c1, h1⟩ := b_cheer h hp hy
  obtain ⟨s2, c2, h2⟩ := b_cheer h' (show 9 - p < 10 by omega) hy
  have o2 := o.sP hp (clv_ok (P.getD p z_ 0 + y))
  have hg := o.2.2.1.2.2.1.mem
  rw [rev_at o.1 hp] at c2 h2
  rw [sPm_r o.1 hp, kept_m o2.1 _ hg, bur_m o2.1 _ _ hg, ndy_m o2.1 _ hg] at h2
  have hk := kept_len (P := sPm P p (clv (P.getD p z_ 0 + y))) G
  obtain ⟨n1, n2, ⟨g0, n3, n4, n5⟩, ⟨t0, n6, n7⟩⟩ := ni
  refine ⟨_, s1, s2, _, c1, c2, h1, h2, n1, ?_, ⟨g0, by omega, n4, fun g hg => n5 g (kept_in hg)⟩, ⟨t0, by omega, n7⟩⟩
  refine cnt_die (y := nI G.length) ?_ ?_ n2
  · rw [n_cl (by omega)]
    exact hk
  · rw [n_cl (by omega)]
theorem s_pass {so sp : LSt} {P T G Lg : List rw_} {gi di re ti : Int32} {k N : Nat} (h : CR so (P, T, G, Lg, gi, di, re, ti)) (h' : CR sp (P.reverse, T.map mT, G.map mG, Lg.map mL, gi, di, re, ti)) (ni : NI k (P, T, G, Lg, gi, di, re, ti)) (hk : k < 60) (h1 : 1 ≤ N) (hN : N ≤ 40) : ∃ (v : Int32) (so' sp' : LSt) (A' : AS), f_B_pass (nI N) so = some (v, so') ∧ f_B_pass (nI N) sp = some (v, sp') ∧ CR so' A' ∧ CR sp' (mA A') ∧ NI (k + 1) A' := by
  have o : OS P T G Lg := cr_f h
  have hl := o.2.2.1.1
  obtain ⟨n1, n2, ⟨g0, n3, n4, n5⟩, ⟨t0, n6, n7⟩⟩ := ni
  have n7 : ti = nI t0 := n7
  have ht : ¬ (100000 : Int32) < ti + nI N := by
    rw [n7, n_at]
    exact fun z => absurd ((n_lt (a := 100000) (by omega) (by omega)).mp z) (by omega)
  obtain ⟨s1, c1, h1'⟩ := b_pass h h1 (by omega) ht
  obtain ⟨s2, c2, h2⟩ := b_pass h' h1 (by omega) ht
  have et : tks N (P.reverse, G.map mG, Lg.map mL, ti, 0) = mK (tks N (P, G, Lg, ti, 0)) := tks_m (T := T) N (P, G, Lg, ti, 0) o
  rw [et] at c2 h2
  have hd := (tks_d N (P, G, Lg, ti, 0)).2
  have hd : (tks N (P, G, Lg, ti, 0)).2.2.2.2 + (tks N (P, G, Lg, ti, 0)).2.1.length = 0 + G.length := hd
  have hti : (tks N (P, G, Lg, ti, 0)).2.2.2.1 = ti + nI N := tks_ti N (P, G, Lg, ti, 0)
  have hin : ∀ g, g ∈ (tks N (P, G, Lg, ti, 0)).2.1 → g ∈ G := fun g hg => tks_in N (P, G, Lg, ti, 0) hg
  refine ⟨_, s1, s2, _, c1, c2, h1', h2, n1, ?_, ⟨g0, by omega, n4, fun g hg => n5 g (hin g hg)⟩, ⟨t0 + N, by omega, ?_⟩⟩
  · refine cnt_die (y := nI G.length) ?_ ?_ n2
    · rw [n_cl (by omega)]
      show (tks N (P, G, Lg, ti, 0)).2.1.length + (tks N (P, G, Lg, ti, 0)).2.2.2.2 = G.length
      omega
    · rw [n_cl (by omega)]
  · show (tks N (P, G, Lg, ti, 0)).2.2.2.1 = nI (t0 + N)
    rw [hti, n7, n_at]
theorem lit_n (n : Nat) : (Int32.ofNat n) = nI n := rfl
theorem p_step {so sp : LSt} {A : AS} {k : Nat} (x : Int32) (h0 : CR so A) (h0' : CR sp (mA A)) (ni : NI k A) (hk : k < 60) : ∃ (so' sp' : LSt) (A' : AS), f_L_isStep x so sp = some (so', sp') ∧ CR so' A' ∧ CR sp' (mA A') ∧ NI (k + 1) A' := by
  obtain ⟨P, T, G, Lg, gi, di, re, ti⟩ := A
  have h : CR so (P, T, G, Lg, gi, di, re, ti) := h0
  have h' : CR sp (P.reverse, T.map mT, G.map mG, Lg.map mL, gi, di, re, ti) := h0'
  have o : OS P T G Lg := cr_f h
  have q := o.2.2.1
  have hT : T.length = 3 := ni.1
  unfold f_L_isStep
  rw [nm_eq]
  generalize x >>> ((4 : Int32) &&& 31) = y
  obtain ⟨p, hp, up⟩ := up_ok y (n := 10) (by omega) (by omega)
  have up : f_L_up y (10 : Int32) = some (nI p) := up
  obtain ⟨t, ht, ut⟩ := up_ok (y >>> ((4 : Int32) &&& 31)) (n := 3) (by omega) (by omega)
  have ut : f_L_up (y >>> ((4 : Int32) &&& 31)) (3 : Int32) = some (nI t) := ut
  obtain ⟨w, hw, uw⟩ := up_ok x (n := 11) (by omega) (by omega)
  have uw : f_L_up x (11 : Int32) = some (nI w) := uw
  have htT : t < T.length := by omega
  have htM : t < (T.map mT).length := by rw [List.length_map]; exact htT
  have hp' : 9 - p < 10 := by omega
  rw [up, bd_some, ut, bd_some, uw, bd_some, e9_ hp]
  by_cases w0 : nI w = (0 : Int32)
  · obtain ⟨a, ha, ua⟩ := up_ok (y >>> ((6 : Int32) &&& 31)) (n := 120) (by omega) (by omega)
    have ua : f_L_up (y >>> ((6 : Int32) &&& 31)) (120 : Int32) = some (nI a) := ua
    obtain ⟨v, s1, s2, A', c1, c2, h1, h2, h3⟩ := s_cheer h h' ni hp (bt1 ⟨a, ha⟩)
    refine ⟨s1, s2, A', ?_, h1, h2, h3⟩
    rw [if_pos w0, ua, bd_some, c1, bd2_some, bd_some, c2, bd2_some, if_pos rfl]
  rw [if_neg w0]
  by_cases w1 : nI w = (1 : Int32)
  · obtain ⟨a, ha, ua⟩ := up_ok (y >>> ((4 : Int32) &&& 31)) (n := 101) (by omega) (by omega)
    have ua : f_L_up (y >>> ((4 : Int32) &&& 31)) (101 : Int32) = some (nI a) := ua
    obtain ⟨s1, c1, h1⟩ := b_setBase h hp (bt2 ⟨a, ha⟩)
    obtain ⟨s2, c2, h2⟩ := b_setBase h' hp' (bt2 ⟨a, ha⟩)
    rw [rev_at o.1 hp] at c2
    rw [sPb_r o.1 hp] at h2
    refine ⟨s1, s2, _, ?_, h1, h2, ni.up⟩
    rw [if_pos w1, ua, bd_some, c1, bd2_some, bd_some, c2, bd2_some, if_pos rfl]
  rw [if_neg w1]
  by_cases w2 : nI w = (2 : Int32)
  · obtain ⟨a, ha, ua⟩ := up_ok (y >>> ((6 : Int32) &&& 31)) (n := 8) (by omega) (by omega)
    have ua : f_L_up (y >>> ((6 : Int32) &&& 31)) (8 : Int32) = some (nI a) := ua
    have hy : okN 8 (nI a ||| 5) := or8 (okN_nI ha (by omega)) ok5
    obtain ⟨s1, c1, h1⟩ := b_setMask h htT hy (bt3 ⟨a, ha⟩)
    obtain ⟨s2, c2, h2⟩ := b_setMask h' htM hy (bt3 ⟨a, ha⟩)
    have em : (T.map mT).getD t z_ 1 = T.getD t z_ 1 := by
      rw [gd_map htT]
      rfl
    rw [em] at c2
    rw [setT_1 htT] at h2
    refine ⟨s1, s2, _, ?_, h1, h2, ?_⟩
    · rw [if_pos w2, ua, bd_some, c1, bd2_some, bd_some, c2, bd2_some, if_pos rfl]
    · refine NI.up ⟨?_, ni.2⟩
      show (T.set t _).length = 3
      rw [List.length_set]
      exact hT
  rw [if_neg w2]
  by_cases w3 : nI w = (3 : Int32)
  · obtain ⟨s1, c1, h1⟩ := b_give h htT hp
    obtain ⟨s2, c2, h2⟩ := b_give h' htM hp'
    have em : (T.map mT).getD t z_ 0 = mi (T.getD t z_ 0) := by
      rw [gd_map htT]
      rfl
    rw [em] at c2
    rw [← mi_nI hp, setT_0 htT] at h2
    refine ⟨s1, s2, _, ?_, h1, h2, ?_⟩
    · rw [if_pos w3, c1, bd2_some, c2, bd2_some, if_pos (mi_mi (q.2.2.2 t htT).1).symm]
    · refine NI.up ⟨?_, ni.2⟩
      show (T.set t _).length = 3
      rw [List.length_set]
      exact hT
  rw [if_neg w3]
  by_cases w4 : nI w = (4 : Int32)
  · obtain ⟨a, ha, ua⟩ := up_ok y (n := 40) (by omega) (by omega)
    have ua : f_L_up y (40 : Int32) = some (nI a) := ua
    have ea : (1 : Int32) + nI a = nI (1 + a) := n_at (a := 1)
    obtain ⟨v, s1, s2, A', c1, c2, h1, h2, h3⟩ := s_pass h h' ni hk (N := 1 + a) (by omega) (by omega)
    refine ⟨s1, s2, A', ?_, h1, h2, h3⟩
    rw [if_pos w4, ua, bd_some, ea, c1, bd2_some, bd_some, ea, c2, bd2_some, if_pos rfl]
  rw [if_neg w4]
  obtain ⟨a, ha, ua⟩ := up_ok (y >>> ((6 : Int32) &&& 31)) (n := 9) (by omega) (by omega)
  have ua : f_L_up (y >>> ((6 : Int32) &&& 31)) (9 : Int32) = some (nI a) := ua
  obtain ⟨b1, hb1, u1⟩ := up_ok (y >>> ((10 : Int32) &&& 31)) (n := 7) (by omega) (by omega)
  have u1 : f_L_up (y >>> ((10 : Int32) &&& 31)) (7 : Int32) = some (nI b1) := u1
  obtain ⟨b2, hb2, u2⟩ := up_ok (y >>> ((13 : Int32) &&& 31)) (n := 2) (by omega) (by omega)
  have u2 : f_L_up (y >>> ((13 : Int32) &&& 31)) (2 : Int32) = some (nI b2) := u2
  obtain ⟨b3, hb3, u3⟩ := up_ok (y >>> ((15 : Int32) &&& 31)) (n := 90) (by omega) (by omega)
  have u3 : f_L_up (y >>> ((15 : Int32) &&& 31)) (90 : Int32) = some (nI b3) := u3
  obtain ⟨b4, hb4, u4⟩ := up_ok (y >>> ((22 : Int32) &&& 31)) (n := 2) (by omega) (by omega)
  have u4 : f_L_up (y >>> ((22 : Int32) &&& 31)) (2 : Int32) = some (nI b4) := u4
  have eto : ((nI p + (1 : Int32)) + nI a) - ((nI p + (1 : Int32)) + nI a) / (10 : Int32) * (10 : Int32) = nI ((p + 1 + a) % 10) := by
    rw [show nI p + (1 : Int32) = nI (p + 1) from n_at, n_at]
    exact pk_rem (a := p + 1 + a) (d := 10) (by omega) (by omega) (by omega)
  have hto : (p + 1 + a) % 10 < 10 := Nat.mod_lt _ (by omega)
  have hpt : p ≠ (p + 1 + a) % 10 := by omega
  have t0 : f_B_thing (nI t) (0 : Int32) so = some (T.getD t z_ 0) := b_thing h htT (j := 0) (Or.inl rfl)
  have ow := (q.2.2.2 t htT).1
  have hr := bt4 ⟨b1, hb1⟩ ⟨b2, hb2⟩
  have hr : ¬ btw (((1 : Int32) + nI b1) ||| (nI b2 * (5 : Int32))) 1 7 = 0 := hr
  have hth : ¬ btw (nI b3) 0 100 = 0 := bt2 ⟨b3, by omega⟩
  rw [ua, bd_some, nm_eq, eto, u1, bd_some, u2, bd_some, nm_eq, u3, bd_some, t0, bd_some, u4, bd_some]
  generalize (p + 1 + a) % 10 = b at *
  by_cases c0 : nI b4 = (0 : Int32)
  · rw [if_pos c0]
    by_cases c1 : T.getD t z_ 0 = nI b
    · rw [if_pos c1, ← e9_ hp]
      exact p_gr h h' ni hk hp hto ht hr hth hpt
    · rw [if_neg c1]
      have ew : T.getD t z_ 0 = nI (cN (T.getD t z_ 0)) := ow.1
      rw [ew]
      exact p_gr h h' ni hk ow.2 hto ht hr hth (fun z => c1 (by rw [ew, z]))
  · rw [if_neg c0, ← e9_ hp]
    exact p_gr h h' ni hk hp hto ht hr hth hpt
theorem p_l1 {L : Nat} {xs : Nat → Int32} (hL : L < 1000) {P : List rw_} : ∀ (n k F : Nat) (so sp : LSt) (T : List rw_), n + k = 3 → n < F → T.length = k → CR so (P, T, [], [], 0, 0, 0, 0) → CR sp (P.reverse, T.map mT, [], [], 0, 0, 0, 0) → ∃ (so' sp' : LSt) (T' : List rw_), f_L_law_L21 L xs F (nI k) so sp = some (so', sp') ∧ T'.length = 3 ∧ CR so' (P, T', [], [], 0, 0, 0, 0) ∧ CR sp' (P.reverse, T'.map mT, [], [], 0, 0, 0, 0)
  | _, _, 0, _, _, _, _, hF, _, _, _ => absurd hF (by omega)
  | 0, k, F + 1, so, sp, T, e, hF, hT, h, h' => by
    refine ⟨so, sp, T, ?_, by omega, h, h'⟩
    unfold f_L_law_L21
    rw [if_pos (show (3 : Int32) ≤ nI k from q_le (a := 3) (by omega) (by omega) (by omega))]
  | n + 1, k, F + 1, so, sp, T, e, hF, hT, h, h' => by
    have ek : nI k + (1 : Int32) = nI (k + 1) := n_at
    obtain ⟨r, cr⟩ := cell_ok (L := L) (k := k) (xs := xs) hL (by omega)
    obtain ⟨p, hp, up⟩ := up_ok r (n := 10) (by omega) (by omega)
    have up : f_L_up r (10 : Int32) = some (nI p) := up
    obtain ⟨a, ha, ua⟩ := up_ok (r >>> ((4 : Int32) &&& 31)) (n := 8) (by omega) (by omega)
    have ua : f_L_up (r >>> ((4 : Int32) &&& 31)) (8 : Int32) = some (nI a) := ua
    have hy : okN 8 (nI a ||| 5) := or8 (okN_nI ha (by omega)) ok5
    obtain ⟨s1, c1, h1⟩ := b_addThing h (show T.length < 8 by omega) hp hy (bt3 ⟨a, ha⟩)
    obtain ⟨s2, c2, h2⟩ := b_addThing h' (show (T.map mT).length < 8 by rw [List.length_map]; omega) (show 9 - p < 10 by omega) hy (bt3 ⟨a, ha⟩)
    have em : T.map mT ++ [g2 (nI (9 - p)) (nI a ||| 5)] = (T ++ [g2 (nI p) (nI a ||| 5)]).map mT := by
      rw [List.map_append, List.map_cons, mT_g2, mi_nI hp]
      rfl
    rw [em] at h2
    rw [List.length_map, hT] at c2
    rw [hT] at c1
    obtain ⟨so', sp', T', r1, r2⟩ := p_l1 hL n (k + 1) F s1 s2 (T ++ [g2 (nI p) (nI a ||| 5)]) (by omega) (by omega) (by rw [List.length_append, hT]; rfl) h1 h2
    refine ⟨so', sp', T', ?_, r2⟩
    unfold f_L_law_L21
    rw [if_neg (show ¬ (3 : Int32) ≤ nI k from q_nle (a := 3) (by omega) (by omega) (by omega)), cr, bd_some, up, bd_some, bd_some, ua, bd_some, nm_eq, c1, bd2_some, if_pos rfl, e9_ hp, c2, bd2_some, if_pos rfl, nm_eq, ek]
    exact r1
theorem p_l2 {L : Nat} {xs : Nat → Int32} (hL : L < 1000) : ∀ (n k F : Nat) (so sp : LSt) (A : AS), n + k = 41 → n < F → CR so A → CR sp (mA A) → NI k A → ∃ so' sp' : LSt, f_L_law_L105 L xs F (nI k) so sp = some (so', sp')
  | _, _, 0, _, _, _, _, hF, _, _, _ => absurd hF (by omega)
  | 0, k, F + 1, so, sp, A, e, hF, h, h', ni => by
    refine ⟨so, sp, ?_⟩
    unfold f_L_law_L105
    rw [if_pos (show (41 : Int32) ≤ nI k from q_le (a := 41) (by omega) (by omega) (by omega))]
  | n + 1, k, F + 1, so, sp, A, e, hF, h, h', ni => by
    have ek : nI k + (1 : Int32) = nI (k + 1) := n_at
    obtain ⟨r, cr⟩ := cell_ok (L := L) (k := k) (xs := xs) hL (by omega)
    obtain ⟨s1, s2, A', c1, h1, h2, n1⟩ := p_step r h h' ni (by omega)
    obtain ⟨P, T, G, Lg, gi, di, re, ti⟩ := A'
    have hT : T.length = 3 := n1.1
    have hN : gi = nI G.length + di + re := n1.2.1
    obtain ⟨s3, s4, c2, h3, h4⟩ := p_alike hT h1 h2
    obtain ⟨s5, c3, h5⟩ := p_sound hT hN h3
    obtain ⟨so', sp', r1⟩ := p_l2 hL n (k + 1) F s5 s4 (P, T, G, Lg, gi, di, re, ti) (by omega) (by omega) h5 h4 n1
    refine ⟨so', sp', ?_⟩
    unfold f_L_law_L105
    rw [if_neg (show ¬ (41 : Int32) ≤ nI k from q_nle (a := 41) (by omega) (by omega) (by omega)), cr, bd_some, c1, bd2_some, c2, bd2_some, c3, bd_some, nm_eq, ek]
    exact r1
theorem p_law {L : Nat} {xs : Nat → Int32} (hL : L < 1000) {so sp : LSt} {P : List rw_} (h : CR so (P, [], [], [], 0, 0, 0, 0)) (h' : CR sp (P.reverse, [], [], [], 0, 0, 0, 0)) : f_L_law L xs so sp = some () := by
  obtain ⟨s1, s2, T, c1, hT, h1, h2⟩ := p_l1 (L := L) (xs := xs) hL 3 0 FU so sp [] (by omega) (by unfold FU; omega) rfl h h'
  have c1 : f_L_law_L21 L xs FU (0 : Int32) so sp = some (s1, s2) := c1
  obtain ⟨s3, s4, c2⟩ := p_l2 (L := L) (xs := xs) hL 38 3 FU s1 s2 (P, T, [], [], 0, 0, 0, 0) (by omega) (by unfold FU; omega) h1 h2 ⟨hT, rfl, ⟨0, by omega, rfl, fun g hg => by cases hg⟩, ⟨0, by omega, rfl⟩⟩
  have c2 : f_L_law_L105 L xs FU (3 : Int32) s1 s2 = some (s3, s4) := c2
  unfold f_L_law
  rw [c1, bd2_some, c2, bd2_some]
