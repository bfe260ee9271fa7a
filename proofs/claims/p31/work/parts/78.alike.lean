/-! ===== PURE: two houses, the persons of the second one from the last one on: alike ===== -/
def mA (A : AS) : AS := (A.1.reverse, A.2.1.map mT, A.2.2.1.map mG, A.2.2.2.1.map mL, A.2.2.2.2)
theorem val_m {T G Lg : List rw_} {gi di re ti : Int32} {j : Nat} (q : QG T G) : val_ (T.map mT) (G.map mG) (Lg.map mL) gi di re ti j = val_ T G Lg gi di re ti j := by
  have hi := idl_m q.2.2.1 (hd_m q) G.length 0 0 (by omega)
  unfold val_
  rw [List.length_map, List.length_map, List.length_map, prs_m (hd_m q), hi]
theorem per_m {P T G : List rw_} {p j : Nat} (hP : P.length = 10) (q : QG T G) (hp : p < 10) : per_ P.reverse (T.map mT) (G.map mG) (9 - p) j = per_ P T G p j := by
  have hs := see_m (H := hd T G) (H' := hd (T.map mT) (G.map mG)) (p := p) T.length 0 0 (hd_m q) hp
  unfold per_
  rw [rev_at hP hp, cnt_T q.2.2.2 hp, cnt_G0 q.2.2.1 hp, cnt_G1 q.2.2.1 hp, List.length_map, hs]
theorem cr_f {s : LSt} {A : AS} (h : CR s A) : OS A.1 A.2.1 A.2.2.1 A.2.2.2.1 := h.1
theorem e9_ {p : Nat} (hp : p < 10) : (9 : Int32) - nI p = nI (9 - p) := mi_nI hp
theorem l_val {so sp : LSt} {P T G Lg : List rw_} {gi di re ti : Int32} (h : CR so (P, T, G, Lg, gi, di, re, ti)) (h' : CR sp (P.reverse, T.map mT, G.map mG, Lg.map mL, gi, di, re, ti)) : ∀ (n j F : Nat), n + j = 9 → n < F → f_L_areAlike_L35 so sp F (nI j) = some ()
  | _, _, 0, _, hF => absurd hF (by omega)
  | 0, j, F + 1, e, hF => by
    unfold f_L_areAlike_L35
    rw [if_pos (show (9 : Int32) ≤ nI j from q_le (a := 9) (by omega) (by omega) (by omega))]
  | n + 1, j, F + 1, e, hF => by
    have q : QG T G := (cr_f h).2.2.1
    unfold f_L_areAlike_L35
    rw [if_neg (show ¬ (9 : Int32) ≤ nI j from q_nle (a := 9) (by omega) (by omega) (by omega)), b_value h (show j < 9 by omega), bd_some, b_value h' (show j < 9 by omega), bd_some, val_m q, if_pos rfl, nm_eq, show nI j + (1 : Int32) = nI (j + 1) from n_at]
    exact l_val h h' n (j + 1) F (by omega) (by omega)
theorem l_per {so sp : LSt} {P T G Lg : List rw_} {gi di re ti : Int32} {p : Nat} (h : CR so (P, T, G, Lg, gi, di, re, ti)) (h' : CR sp (P.reverse, T.map mT, G.map mG, Lg.map mL, gi, di, re, ti)) (hp : p < 10) : ∀ (n j F : Nat), n + j = 7 → n < F → f_L_areAlike_L85 (nI p) so sp F (nI j) = some ()
  | _, _, 0, _, hF => absurd hF (by omega)
  | 0, j, F + 1, e, hF => by
    unfold f_L_areAlike_L85
    rw [if_pos (show (7 : Int32) ≤ nI j from q_le (a := 7) (by omega) (by omega) (by omega))]
  | n + 1, j, F + 1, e, hF => by
    have o := cr_f h
    unfold f_L_areAlike_L85
    rw [if_neg (show ¬ (7 : Int32) ≤ nI j from q_nle (a := 7) (by omega) (by omega) (by omega)), e9_ hp, b_person h hp (show j < 7 by omega), bd_some, b_person h' (show 9 - p < 10 by omega) (show j < 7 by omega), bd_some, per_m o.1 o.2.2.1 hp, if_pos rfl, nm_eq, show nI j + (1 : Int32) = nI (j + 1) from n_at]
    exact l_per h h' hp n (j + 1) F (by omega) (by omega)
theorem l_thg {P T G Lg : List rw_} {gi di re ti : Int32} {p : Nat} (hp : p < 10) (hT : T.length = 3) : ∀ (n t F : Nat) (so sp : LSt), n + t = 3 → n < F → CR so (P, T, G, Lg, gi, di, re, ti) → CR sp (P.reverse, T.map mT, G.map mG, Lg.map mL, gi, di, re, ti) → ∃ so' sp' : LSt, f_L_areAlike_L173 (nI p) F (nI t) so sp = some (so', sp') ∧ CR so' (P, T, G, Lg, gi, di, re, ti) ∧ CR sp' (P.reverse, T.map mT, G.map mG, Lg.map mL, gi, di, re, ti)
  | _, _, 0, _, _, _, hF, _, _ => absurd hF (by omega)
  | 0, t, F + 1, so, sp, e, hF, h, h' => by
    refine ⟨so, sp, ?_, h, h'⟩
    unfold f_L_areAlike_L173
    rw [if_pos (show (3 : Int32) ≤ nI t from q_le (a := 3) (by omega) (by omega) (by omega))]
  | n + 1, t, F + 1, so, sp, e, hF, h, h' => by
    have q : QG T G := (cr_f h).2.2.1
    have ht : t < T.length := by omega
    have ht' : t < (T.map mT).length := by rw [List.length_map]; exact ht
    have hp' : 9 - p < 10 := by omega
    have ek : nI t + (1 : Int32) = nI (t + 1) := n_at
    obtain ⟨s1, c1, h1⟩ := b_chain h hp ht
    obtain ⟨s2, c2, h2⟩ := b_chain h' hp' ht'
    have ef := far_m q ht p hp
    have eh := (hd_m q).at hp ht
    unfold f_L_areAlike_L173
    rw [if_neg (show ¬ (3 : Int32) ≤ nI t from q_nle (a := 3) (by omega) (by omega) (by omega)), e9_ hp, c1, bd2_some, b_held h1 hp ht, bd_some, b_held h' hp' ht', bd_some, eh, if_pos rfl, c2, bd2_some, ef, if_pos rfl]
    have w1 := why_m (x := 1) q.2.2.1 (hd_m q) hp ht
    have w4 := why_m (x := 4) q.2.2.1 (hd_m q) hp ht
    by_cases c : far_ T G (hd T G) t p < 1
    · obtain ⟨so', sp', r1, r2, r3⟩ := l_thg hp hT n (t + 1) F s1 s2 (by omega) (by omega) h1 h2
      refine ⟨so', sp', ?_, r2, r3⟩
      rw [if_pos c, b_why h1 hp ht (Or.inl rfl), bd_some, b_why h2 hp' ht' (Or.inl rfl), bd_some, w1, if_pos rfl, b_why h1 hp ht (Or.inr (Or.inr rfl)), bd_some, b_why h2 hp' ht' (Or.inr (Or.inr rfl)), bd_some, w4, if_pos rfl, nm_eq, ek]
      exact r1
    · obtain ⟨v, v1, v2⟩ : ∃ v : Nat, v < 9 ∧ far_ T G (hd T G) t p = nI (v + 1) := by
        rcases far_v q ht p hp with z | ⟨v, z1, z2⟩
        · rw [z] at c
          exact absurd (by decide) c
        · match v, z1, z2 with
          | 0, _, z2 =>
            rw [z2] at c
            exact absurd (by decide) c
          | v + 1, z1, z2 => exact ⟨v, by omega, z2⟩
      have ev : nI (v + 1) - (1 : Int32) = nI v := nI_pred v
      obtain ⟨s3, c3, h3⟩ := b_link h1 hp ht v1 v2
      obtain ⟨s4, c4, h4⟩ := b_link h2 hp' ht' v1 (by rw [ef, v2])
      have el := lnk_m q ht hp (show v < 10 by omega) v2
      obtain ⟨so', sp', r1, r2, r3⟩ := l_thg hp hT n (t + 1) F s3 s4 (by omega) (by omega) h3 h4
      refine ⟨so', sp', ?_, r2, r3⟩
      rw [if_neg c, v2, ev, c3, bd2_some, c4, bd2_some, el, if_pos rfl, b_why h3 hp ht (Or.inl rfl), bd_some, b_why h4 hp' ht' (Or.inl rfl), bd_some, w1, if_pos rfl, b_why h3 hp ht (Or.inr (Or.inr rfl)), bd_some, b_why h4 hp' ht' (Or.inr (Or.inr rfl)), bd_some, w4, if_pos rfl, nm_eq, ek]
      exact r1
theorem pat_m {P T G : List rw_} {p : Nat} (hP : P.length = 10) (q : QG T G) (hp : p < 10) : P.reverse.getD (9 - p) z_ 0 - gre_ (G.map mG) (nI (9 - p)) (G.map mG).length 0 0 = P.getD p z_ 0 - gre_ G (nI p) G.length 0 0 := by
  rw [rev_at hP hp, List.length_map, gre_m q.2.2.1 hp _ _ _ (by omega)]
theorem lost_m {P T G Lg : List rw_} {p : Nat} {v : Int32} (o : OS P T G Lg) (hp : p < 10) (hv : okN 101 v) : prs (T.map mT) (hd (T.map mT) (kept (sPm P.reverse (9 - p) v) (G.map mG))) = prs T (hd T (kept (sPm P p v) G)) := by
  have o2 := o.sP hp hv
  rw [sPm_r o.1 hp, kept_m o2.1 G o.2.2.1.2.2.1.mem]
  exact prs_m (hd_m (o2.2.2.1.kept (sPm P p v)))
theorem l_all {P T G Lg : List rw_} {gi di re ti : Int32} (hT : T.length = 3) : ∀ (n p F : Nat) (so sp : LSt), n + p = 10 → n < F → CR so (P, T, G, Lg, gi, di, re, ti) → CR sp (P.reverse, T.map mT, G.map mG, Lg.map mL, gi, di, re, ti) → ∃ so' sp' : LSt, f_L_areAlike_L72 F (nI p) so sp = some (so', sp') ∧ CR so' (P, T, G, Lg, gi, di, re, ti) ∧ CR sp' (P.reverse, T.map mT, G.map mG, Lg.map mL, gi, di, re, ti)
  | _, _, 0, _, _, _, hF, _, _ => absurd hF (by omega)
  | 0, p, F + 1, so, sp, e, hF, h, h' => by
    refine ⟨so, sp, ?_, h, h'⟩
    unfold f_L_areAlike_L72
    rw [if_pos (show (10 : Int32) ≤ nI p from q_le (a := 10) (by omega) (by omega) (by omega))]
  | n + 1, p, F + 1, so, sp, e, hF, h, h' => by
    have o : OS P T G Lg := cr_f h
    have q := o.2.2.1
    have hp : p < 10 := by omega
    have hp' : 9 - p < 10 := by omega
    have ek : nI p + (1 : Int32) = nI (p + 1) := n_at
    have a1 := l_per h h' hp 7 0 FU (by omega) (by unfold FU; omega)
    have a1 : f_L_areAlike_L85 (nI p) so sp FU (0 : Int32) = some () := a1
    obtain ⟨s1, c1, h1⟩ := b_lostBy h hp
    obtain ⟨s2, c2, h2⟩ := b_lostBy h' hp'
    have ep := prs_m (hd_m q)
    have el := lost_m (p := p) (v := clv (P.getD p z_ 0 + (-100 : Int32))) o hp (clv_ok _)
    rw [rev_at o.1 hp, ep, el] at c2
    obtain ⟨s3, s4, d1, d2, d3⟩ := l_thg hp hT 3 0 FU s1 s2 (by omega) (by unfold FU; omega) h1 h2
    have d1 : f_L_areAlike_L173 (nI p) FU (0 : Int32) s1 s2 = some (s3, s4) := d1
    obtain ⟨so', sp', r1, r2, r3⟩ := l_all hT n (p + 1) F s3 s4 (by omega) (by omega) d2 d3
    refine ⟨so', sp', ?_, r2, r3⟩
    unfold f_L_areAlike_L72
    rw [if_neg (show ¬ (10 : Int32) ≤ nI p from q_nle (a := 10) (by omega) (by omega) (by omega)), a1, bd_some, e9_ hp, b_patience h hp, bd_some, b_patience h' hp', bd_some, pat_m o.1 q hp, if_pos rfl, c1, bd2_some, c2, bd2_some, if_pos rfl, d1, bd2_some, nm_eq, ek]
    exact r1
theorem p_alike {so sp : LSt} {P T G Lg : List rw_} {gi di re ti : Int32} (hT : T.length = 3) (h : CR so (P, T, G, Lg, gi, di, re, ti)) (h' : CR sp (P.reverse, T.map mT, G.map mG, Lg.map mL, gi, di, re, ti)) : ∃ so' sp' : LSt, f_L_areAlike so sp = some (so', sp') ∧ CR so' (P, T, G, Lg, gi, di, re, ti) ∧ CR sp' (P.reverse, T.map mT, G.map mG, Lg.map mL, gi, di, re, ti) := by
  have o : OS P T G Lg := cr_f h
  have q := o.2.2.1
  obtain ⟨s1, c1, h1⟩ := b_meanChain h
  obtain ⟨s2, c2, h2⟩ := b_meanChain h'
  rw [mean_m q] at c2
  obtain ⟨s3, c3, h3⟩ := b_seenIn (N := 9) h1 (by omega)
  obtain ⟨s4, c4, h4⟩ := b_seenIn (N := 9) h2 (by omega)
  have et : tks 9 (P.reverse, G.map mG, Lg.map mL, ti, 0) = mK (tks 9 (P, G, Lg, ti, 0)) := tks_m (T := T) 9 (P, G, Lg, ti, 0) o
  have o9 := tks_o 9 (P, G, Lg, ti, 0) o
  have e9 : prs (T.map mT) (hd (T.map mT) (tks 9 (P.reverse, G.map mG, Lg.map mL, ti, 0)).2.1) = prs T (hd T (tks 9 (P, G, Lg, ti, 0)).2.1) := by
    rw [et]
    exact prs_m (hd_m o9.2.2.1)
  rw [e9] at c4
  have c3 : f_B_seenIn (9 : Int32) s1 = some (prs T (hd T (tks 9 (P, G, Lg, ti, 0)).2.1), s3) := c3
  have c4 : f_B_seenIn (9 : Int32) s2 = some (prs T (hd T (tks 9 (P, G, Lg, ti, 0)).2.1), s4) := c4
  have a1 := l_val h3 h4 9 0 FU (by omega) (by unfold FU; omega)
  have a1 : f_L_areAlike_L35 s3 s4 FU (0 : Int32) = some () := a1
  obtain ⟨s5, s6, d1, d2, d3⟩ := l_all hT 10 0 FU s3 s4 (by omega) (by unfold FU; omega) h3 h4
  have d1 : f_L_areAlike_L72 FU (0 : Int32) s3 s4 = some (s5, s6) := d1
  refine ⟨s5, s6, ?_, d2, d3⟩
  have hm : Op.cmpValue (FP.dcmp (mean_ T G) (mean_ T G)) .l = (0 : Int32) := by
    have z1 := mt_le (T := T) (G := G) T.length 0
    have z2 := st_le q T.length 0 (by omega)
    exact mv_self (by omega) (by omega)
  unfold f_L_areAlike
  rw [c1, bd2_some, c2, bd2_some, if_pos hm, c3, bd2_some, c4, bd2_some, if_pos rfl, a1, bd_some, d1, bd2_some]
