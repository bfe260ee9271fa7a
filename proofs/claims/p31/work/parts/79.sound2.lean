/-! ===== PURE: owners hold all, others nothing beyond the mask; a right is held exactly if there is no reason against it ===== -/
theorem an_x : ∀ j : Fin 8, (nI j &&& (1 : Int32) ≤ 0 ↔ nI j &&& (1 : Int32) = 0) ∧ (nI j &&& (2 : Int32) ≤ 0 ↔ nI j &&& (2 : Int32) = 0) ∧ (nI j &&& (4 : Int32) ≤ 0 ↔ nI j &&& (4 : Int32) = 0) := by decide +kernel
theorem an_le {h : Int32} (o : okN 8 h) : (h &&& (1 : Int32) ≤ 0 ↔ h &&& (1 : Int32) = 0) ∧ (h &&& (2 : Int32) ≤ 0 ↔ h &&& (2 : Int32) = 0) ∧ (h &&& (4 : Int32) ≤ 0 ↔ h &&& (4 : Int32) = 0) :=
  b8 (P := fun h => (h &&& (1 : Int32) ≤ 0 ↔ h &&& (1 : Int32) = 0) ∧ (h &&& (2 : Int32) ≤ 0 ↔ h &&& (2 : Int32) = 0) ∧ (h &&& (4 : Int32) ≤ 0 ↔ h &&& (4 : Int32) = 0)) an_x o
theorem why_0 {T G : List rw_} {H : Nat → Int32} {p t : Nat} {x : Int32} : why_ T G H p t x = 0 ↔ ¬ H (10 * t + p) &&& x = (0 : Int32) := by
  unfold why_
  by_cases c : H (10 * t + p) &&& x = (0 : Int32)
  · rw [if_pos c]
    refine ⟨fun z => ?_, fun z => absurd c z⟩
    exfalso
    revert z
    split
    · decide
    · split
      · decide
      · split
        · decide
        · decide
  · rw [if_neg c]
    exact ⟨fun _ => c, fun _ => rfl⟩
/-- the reason is none exactly if the right is held -/
theorem s_why {T G : List rw_} {H : Nat → Int32} {p t : Nat} {x : Int32} (hx : H (10 * t + p) &&& x ≤ (0 : Int32) ↔ H (10 * t + p) &&& x = (0 : Int32)) : (if why_ T G H p t x = (0 : Int32) then (1 : Int32) else 0) = if H (10 * t + p) &&& x ≤ (0 : Int32) then 0 else 1 := by
  by_cases c : H (10 * t + p) &&& x = (0 : Int32)
  · rw [if_neg (fun z => (why_0.mp z) c), if_pos (hx.mpr c)]
  · rw [if_pos (why_0.mpr c), if_neg (fun z => c (hx.mp z))]
theorem s_chain {T G : List rw_} {p t : Nat} (q : QG T G) (hp : p < 10) (ht : t < T.length) : (if far_ T G (hd T G) t p < (0 : Int32) then (0 : Int32) else 1) = if hd T G (10 * t + p) &&& (1 : Int32) ≤ (0 : Int32) then 0 else 1 := by
  have ha := (an_le (hd_o q hp ht)).1
  rcases far_v q ht p hp with z | ⟨v, v1, v2⟩
  · rw [if_pos (show far_ T G (hd T G) t p < 0 by rw [z]; decide), if_pos (ha.mpr (see_far q hp ht z))]
  · have hn : ¬ far_ T G (hd T G) t p = -1 := by
      rw [v2]
      exact n_m1 (by omega)
    rw [if_neg (show ¬ far_ T G (hd T G) t p < 0 by rw [v2]; exact nI_pos (by omega)), if_neg (fun z => far_see q hp ht hn (ha.mp z))]
theorem bit_x : ∀ j : Fin 8, (nI j >>> ((1 : Int32) &&& 31)) &&& (1 : Int32) = (if nI j &&& (2 : Int32) = 0 then 0 else 1) ∧ nI j &&& (1 : Int32) = (if nI j &&& (1 : Int32) = 0 then 0 else 1) := by decide +kernel
theorem bit_2 {h : Int32} (o : okN 8 h) : (h >>> ((1 : Int32) &&& 31)) &&& (1 : Int32) = (if h &&& (2 : Int32) = 0 then 0 else 1) ∧ h &&& (1 : Int32) = (if h &&& (1 : Int32) = 0 then 0 else 1) :=
  b8 (P := fun h => (h >>> ((1 : Int32) &&& 31)) &&& (1 : Int32) = (if h &&& (2 : Int32) = 0 then 0 else 1) ∧ h &&& (1 : Int32) = (if h &&& (1 : Int32) = 0 then 0 else 1)) bit_x o
theorem s_bit {T G : List rw_} {p t : Nat} (q : QG T G) (hp : p < 10) (ht : t < T.length) : (thg_ T G t 4 >>> (nI p &&& 31)) &&& (1 : Int32) = (hd T G (10 * t + p) >>> ((1 : Int32) &&& 31)) &&& (1 : Int32) := by
  have e : thg_ T G t 4 = who_ (hd T G) t 2 10 0 0 := rfl
  rw [e, bt_who hp, (bit_2 (hd_o q hp ht)).1]
  unfold o1
  by_cases c : hd T G (10 * t + p) &&& (2 : Int32) = 0
  · rw [if_pos c, if_pos c]
    rfl
  · rw [if_neg c, if_neg c]
    rfl
theorem s_one {T G : List rw_} {p t : Nat} (q : QG T G) (hp : p < 10) (ht : t < T.length) : hd T G (10 * t + p) &&& (1 : Int32) = nI (o1 (hd T G) t 1 p) := by
  rw [(bit_2 (hd_o q hp ht)).2]
  unfold o1
  by_cases c : hd T G (10 * t + p) &&& (1 : Int32) = 0
  · rw [if_pos c, if_pos c]
    rfl
  · rw [if_neg c, if_neg c]
    rfl
theorem msk_n : ∀ j k : Fin 8, nI j ||| nI k = nI k → nI j &&& (nI k ^^^ (-1 : Int32)) = 0 := by decide +kernel
theorem s_msk {h m : Int32} (o : okN 8 h) (o' : okN 8 m) (e : le8 h m) : h &&& (m ^^^ (-1 : Int32)) = 0 := by
  have k := msk_n ⟨cN h, o.2⟩ ⟨cN m, o'.2⟩
  unfold le8 at e
  rw [o.1, o'.1] at e
  rw [o.1, o'.1]
  exact k e
theorem l_snd1 {P T G Lg : List rw_} {gi di re ti : Int32} {t : Nat} (ht : t < T.length) : ∀ (n p F : Nat) (x : Int32) (so : LSt), n + p = 10 → n < F → CR so (P, T, G, Lg, gi, di, re, ti) → ∃ so' : LSt, f_L_isSound_L18 (nI t) F x (nI p) so = some (x + nI (sumr (o1 (hd T G) t 1) n p), so') ∧ CR so' (P, T, G, Lg, gi, di, re, ti)
  | _, _, 0, _, _, _, hF, _ => absurd hF (by omega)
  | 0, p, F + 1, x, so, e, hF, h => by
    refine ⟨so, ?_, h⟩
    have ez : x + nI (sumr (o1 (hd T G) t 1) 0 p) = x := Int32.add_zero _
    rw [ez]
    unfold f_L_isSound_L18
    rw [if_pos (show (10 : Int32) ≤ nI p from q_le (a := 10) (by omega) (by omega) (by omega))]
  | n + 1, p, F + 1, x, so, e, hF, h => by
    have o : OS P T G Lg := cr_f h
    have q := o.2.2.1
    have hp : p < 10 := by omega
    have ek : nI p + (1 : Int32) = nI (p + 1) := n_at
    have oh := hd_o q hp ht
    obtain ⟨a1, a2, a4⟩ := an_le oh
    obtain ⟨s1, c1, h1⟩ := b_chain h hp ht
    have t0 : f_B_thing (nI t) (0 : Int32) so = some (T.getD t z_ 0) := b_thing h ht (j := 0) (Or.inl rfl)
    have t1 : f_B_thing (nI t) (1 : Int32) so = some (T.getD t z_ 1) := b_thing h ht (j := 1) (Or.inr (Or.inl rfl))
    have t4 : f_B_thing (nI t) (4 : Int32) s1 = some (thg_ T G t 4) := b_thing h1 ht (j := 4) (Or.inr (Or.inr rfl))
    have w1 := b_why h hp ht (x := 1) (Or.inl rfl)
    have w2 := b_why h hp ht (x := 2) (Or.inr (Or.inl rfl))
    have w4 := b_why h hp ht (x := 4) (Or.inr (Or.inr rfl))
    obtain ⟨so', r1, r2⟩ := l_snd1 ht n (p + 1) F (x + (hd T G (10 * t + p) &&& (1 : Int32))) s1 (by omega) (by omega) h1
    refine ⟨so', ?_, r2⟩
    have er : x + nI (sumr (o1 (hd T G) t 1) (n + 1) p) = x + (hd T G (10 * t + p) &&& (1 : Int32)) + nI (sumr (o1 (hd T G) t 1) n (p + 1)) := by
      rw [s_one q hp ht, Int32.add_assoc, n_at]
      rfl
    rw [er]
    have sw1 := s_why (T := T) (G := G) (H := hd T G) (p := p) (t := t) (x := 1) a1
    have sw2 := s_why (T := T) (G := G) (H := hd T G) (p := p) (t := t) (x := 2) a2
    have sw4 := s_why (T := T) (G := G) (H := hd T G) (p := p) (t := t) (x := 4) a4
    have sc := s_chain q hp ht
    have sb := s_bit q hp ht
    unfold f_L_isSound_L18
    rw [if_neg (show ¬ (10 : Int32) ≤ nI p from q_nle (a := 10) (by omega) (by omega) (by omega)), b_held h hp ht, bd_some, t0, bd_some, nm_eq, nm_eq]
    by_cases ow : T.getD t z_ 0 = nI p
    · have e7 := hd_own q hp ht ow
      rw [if_pos ow, if_neg (show ¬ (1 : Int32) = 0 by decide), if_pos e7, w1, bd_some, nm_eq, nm_eq, if_pos sw1, w2, bd_some, nm_eq, nm_eq, if_pos sw2, w4, bd_some, nm_eq, nm_eq, if_pos sw4, c1, bd2_some, nm_eq, nm_eq, if_pos sc, t4, bd_some, if_pos sb, nm_eq, ek]
      exact r1
    · have em := s_msk oh (q.2.2.2 t ht).2 (hd_msk q hp ht ow)
      rw [if_neg ow, if_pos rfl, t1, bd_some, if_pos em, w1, bd_some, nm_eq, nm_eq, if_pos sw1, w2, bd_some, nm_eq, nm_eq, if_pos sw2, w4, bd_some, nm_eq, nm_eq, if_pos sw4, c1, bd2_some, nm_eq, nm_eq, if_pos sc, t4, bd_some, if_pos sb, nm_eq, ek]
      exact r1
theorem l_snd2 {P T G Lg : List rw_} {gi di re ti : Int32} (hT : T.length = 3) : ∀ (n t F : Nat) (x : Int32) (so : LSt), n + t = 3 → n < F → CR so (P, T, G, Lg, gi, di, re, ti) → ∃ so' : LSt, f_L_isSound_L6 F x (nI t) so = some (prs_ (hd T G) n t x, so') ∧ CR so' (P, T, G, Lg, gi, di, re, ti)
  | _, _, 0, _, _, _, hF, _ => absurd hF (by omega)
  | 0, t, F + 1, x, so, e, hF, h => by
    refine ⟨so, ?_, h⟩
    unfold f_L_isSound_L6
    rw [if_pos (show (3 : Int32) ≤ nI t from q_le (a := 3) (by omega) (by omega) (by omega))]
    rfl
  | n + 1, t, F + 1, x, so, e, hF, h => by
    have ek : nI t + (1 : Int32) = nI (t + 1) := n_at
    obtain ⟨s1, c1, h1⟩ := l_snd1 (t := t) (by omega) 10 0 FU x so (by omega) (by unfold FU; omega) h
    have c1 : f_L_isSound_L18 (nI t) FU x (0 : Int32) so = some (x + nI (sumr (o1 (hd T G) t 1) 10 0), s1) := c1
    obtain ⟨so', r1, r2⟩ := l_snd2 hT n (t + 1) F (x + bcv (who_ (hd T G) t 1 10 0 0)) s1 (by omega) (by omega) h1
    refine ⟨so', ?_, r2⟩
    unfold f_L_isSound_L6 prs_
    rw [if_neg (show ¬ (3 : Int32) ≤ nI t from q_nle (a := 3) (by omega) (by omega) (by omega)), c1, bd2_some, nm_eq, ek, sumr_c, ← bc_who]
    exact r1
theorem idl_n {T G : List rw_} {H : Nat → Int32} : ∀ (n j a : Nat), ∃ b : Nat, b ≤ a + n ∧ idl_ T G H n j (nI a) = nI b
  | 0, _, a => ⟨a, Nat.le_refl _, rfl⟩
  | n + 1, j, a => by
    unfold idl_
    by_cases c : pa T G H j = 0
    · rw [if_pos c, show nI a + (1 : Int32) = nI (a + 1) from n_at]
      obtain ⟨b, h1, h2⟩ := idl_n (T := T) (G := G) (H := H) n (j + 1) (a + 1)
      exact ⟨b, by omega, h2⟩
    · rw [if_neg c]
      obtain ⟨b, h1, h2⟩ := idl_n (T := T) (G := G) (H := H) n (j + 1) a
      exact ⟨b, by omega, h2⟩
theorem p_sound {so : LSt} {P T G Lg : List rw_} {gi di re ti : Int32} (hT : T.length = 3) (hN : gi = nI G.length + di + re) (h : CR so (P, T, G, Lg, gi, di, re, ti)) : ∃ so' : LSt, f_L_isSound so = some so' ∧ CR so' (P, T, G, Lg, gi, di, re, ti) := by
  have o : OS P T G Lg := cr_f h
  have q := o.2.2.1
  have hl := q.1
  obtain ⟨s1, c1, h1⟩ := l_snd2 hT 3 0 FU 0 so (by omega) (by unfold FU; omega) h
  have c1 : f_L_isSound_L6 FU (0 : Int32) (0 : Int32) so = some (prs_ (hd T G) 3 0 0, s1) := c1
  have ep : prs_ (hd T G) 3 0 0 = prs T (hd T G) := by
    unfold prs
    rw [hT]
  rw [ep] at c1
  obtain ⟨s2, c2, h2⟩ := b_seenIn (N := 0) h1 (by omega)
  have c2 : f_B_seenIn (0 : Int32) s1 = some (prs T (hd T G), s2) := c2
  have v6 : f_B_value (6 : Int32) s1 = some (prs T (hd T G)) := b_value h1 (j := 6) (by omega)
  have v2 : f_B_value (2 : Int32) s1 = some gi := b_value h1 (j := 2) (by omega)
  have v1 : f_B_value (1 : Int32) s1 = some (nI G.length) := b_value h1 (j := 1) (by omega)
  have v3 : f_B_value (3 : Int32) s1 = some di := b_value h1 (j := 3) (by omega)
  have v4 : f_B_value (4 : Int32) s1 = some re := b_value h1 (j := 4) (by omega)
  have v7 : f_B_value (7 : Int32) s1 = some (idl_ T G (hd T G) G.length 0 0) := b_value h1 (j := 7) (by omega)
  obtain ⟨b, b1, b2⟩ := idl_n (T := T) (G := G) (H := hd T G) G.length 0 0
  have b2 : idl_ T G (hd T G) G.length 0 0 = nI b := b2
  rw [b2] at v7
  refine ⟨s2, ?_, h2⟩
  unfold f_L_isSound
  rw [c1, bd2_some, v6, bd_some, if_pos rfl, v2, bd_some, v1, bd_some, v3, bd_some, v4, bd_some, if_pos hN, v7, bd_some, bd_some, if_neg (q_nlt (by omega) (by omega) (by omega)), c2, bd2_some, if_pos rfl]
