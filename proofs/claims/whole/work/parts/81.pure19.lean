/-! ===== PURE: grants that die (3): taken out of the model's array ===== -/
theorem m_outL {N : Nat} (hN : N < 40) : ∀ (n x F : Nat) (al : Nat → Int32), n + x = 6 * N → n < F → al 5 = nI N → ∃ al' : Nat → Int32, f_X6_takeOut_L15 F (nI x) al = some al' ∧ (∀ i : Nat, x ≤ i → i < 6 * N → al' (44 + i) = al (44 + i + 6)) ∧ (∀ i : Nat, i < 44 + x ∨ 44 + 6 * N ≤ i → al' i = al i)
  | _, _, 0, _, _, hF, _ => absurd hF (by omega)
  | 0, x, F + 1, al, h, hF, h5 => by
    have a5 : al (5 : Int32).toNatClampNeg = nI N := h5
    have e6 : (6 : Int32) * nI N = nI (6 * N) := n_mul
    unfold f_X6_takeOut_L15
    rw [ix5, a5, e6, if_pos (q_le (by omega) (by omega) (by omega))]
    exact ⟨al, rfl, fun i h1 h2 => absurd h1 (by omega), fun i _ => rfl⟩
  | n + 1, x, F + 1, al, h, hF, h5 => by
    have a5 : al (5 : Int32).toNatClampNeg = nI N := h5
    have e6 : (6 : Int32) * nI N = nI (6 * N) := n_mul
    have e1 : (44 : Int32) + nI x = nI (44 + x) := n_at
    have e2 : nI (44 + x) + (6 : Int32) = nI (44 + x + 6) := n_at
    have e3 : nI x + (1 : Int32) = nI (x + 1) := n_at
    obtain ⟨al', i1, i2, i3⟩ := m_outL hN n (x + 1) F (upd al (44 + x) (al (44 + x + 6))) (by omega) (by omega) (by rw [pk_un (by omega)]; exact h5)
    refine ⟨al', ?_, fun i h1 h2 => ?_, fun i hi => ?_⟩
    · unfold f_X6_takeOut_L15
      rw [ix5, a5, e6, if_neg (q_nle (by omega) (by omega) (by omega)), e1, e2, n_ix (by omega) (by omega), nm_eq, n_ix (by omega) (by omega), nm_eq, nm_eq, e3, n_cl (by omega), n_cl (by omega)]
      exact i1
    · by_cases e : i = x
      · rw [e, i3 _ (by omega), pk_us]
      · rw [i2 i (by omega) h2, pk_un (by omega)]
    · rw [i3 i (by omega), pk_un (by omega)]
theorem m_outZ {N : Nat} (hN : N < 40) : ∀ (n x F : Nat) (al : Nat → Int32), n + x = 6 → n < F → al 5 = nI N → ∃ al' : Nat → Int32, f_X6_takeOut_L57 F (nI x) al = some al' ∧ (∀ i : Nat, i < 44 + 6 * N ∨ 284 ≤ i → al' i = al i)
  | _, _, 0, _, _, hF, _ => absurd hF (by omega)
  | 0, x, F + 1, al, h, hF, h5 => by
    unfold f_X6_takeOut_L57
    rw [if_pos (show (6 : Int32) ≤ nI x from q_le (a := 6) (by omega) (by omega) (by omega))]
    exact ⟨al, rfl, fun i _ => rfl⟩
  | n + 1, x, F + 1, al, h, hF, h5 => by
    have a5 : al (5 : Int32).toNatClampNeg = nI N := h5
    have e2 : nI (44 + 6 * N) + nI x = nI (44 + 6 * N + x) := n_at
    have e3 : nI x + (1 : Int32) = nI (x + 1) := n_at
    obtain ⟨al', i1, i2⟩ := m_outZ hN n (x + 1) F (upd al (44 + 6 * N + x) 0) (by omega) (by omega) (by rw [pk_un (by omega)]; exact h5)
    refine ⟨al', ?_, fun i hi => ?_⟩
    · unfold f_X6_takeOut_L57
      rw [if_neg (show ¬ (6 : Int32) ≤ nI x from q_nle (a := 6) (by omega) (by omega) (by omega)), ix5, a5, e_44, e2, n_ix (by omega) (by omega), nm_eq, nm_eq, e3, n_cl (by omega)]
      exact i1
    · rw [i2 i hi, pk_un (by omega)]
theorem m_out {al : Nat → Int32} {P T G Lg : List rw_} {gi di re ti : Int32} {k : Nat} (o : OS P T G Lg) (m : MS al P T G Lg gi di re ti) (hk : k < G.length) : ∃ al' : Nat → Int32, f_X6_takeOut (nI k) al = some al' ∧ MS al' P T (G.eraseIdx k) Lg gi di re ti := by
  have hl := o.2.2.1.1
  have a5 : al (5 : Int32).toNatClampNeg = nI G.length := m.2.2.1.1
  have c5 : (5 : Int32).toNatClampNeg = 5 := by decide
  have e1 : nI G.length - (1 : Int32) = nI (G.length - 1) := pk_sub (b := 1) (by omega)
  have e6 : (6 : Int32) * nI k = nI (6 * k) := n_mul
  obtain ⟨b, b1, b2, b3⟩ := m_outL (N := G.length - 1) (by omega) (6 * (G.length - 1) - 6 * k) (6 * k) FU (upd al 5 (nI (G.length - 1))) (by omega) (by unfold FU; omega) pk_us
  obtain ⟨d, d1, d2⟩ := m_outZ (N := G.length - 1) (by omega) 6 0 FU b (by omega) (by unfold FU; omega) (by rw [b3 5 (by omega), pk_us])
  have d1 : f_X6_takeOut_L57 FU (0 : Int32) b = some d := d1
  have hr : ∀ i : Nat, i < 44 ∨ 284 ≤ i → i ≠ 5 → d i = al i := fun i hi h5 => by
    rw [d2 i (by omega), b3 i (by omega), pk_un h5]
  have hlen := len_er hk
  refine ⟨d, ?_, m.1.c (fun i h1 h2 => hr i (by omega) (by omega)), m.2.1.c o.2.2.1.2.1 (hr 4 (by omega) (by omega)) (fun i h1 h2 => hr i (by omega) (by omega)), ⟨?_, fun i j hi hj => ?_⟩, m.2.2.2.1.c o.2.2.2 (hr 6 (by omega) (by omega)) (fun i h1 h2 => hr i (by omega) (by omega)), m.2.2.2.2.c (fun i hi => hr i (by omega) (by omega))⟩
  · unfold f_X6_takeOut
    rw [ix5, a5, nm_eq, ix5, nm_eq, nm_eq, c5, e1, e6, b1, bd_some, d1, bd_some]
  · rw [d2 5 (by omega), b3 5 (by omega), pk_us, hlen]
  · rw [hlen] at hi
    rw [gd_er, d2 _ (by omega)]
    by_cases h : i < k
    · rw [if_pos h, b3 _ (by omega), pk_un (by omega)]
      exact m.2.2.1.2 i j (by omega) hj
    · have e := b2 (6 * i + (j + 1) % 6) (by omega) (by omega)
      rw [if_neg h, show 44 + 6 * i + (j + 1) % 6 = 44 + (6 * i + (j + 1) % 6) by omega, e, pk_un (by omega), show 44 + (6 * i + (j + 1) % 6) + 6 = 44 + 6 * (i + 1) + (j + 1) % 6 by omega]
      exact m.2.2.1.2 (i + 1) j (by omega) hj
theorem OS.er {P T G Lg : List rw_} {R : Nat} (o : OS P T G Lg) (hR : R < G.length) : OS P T (G.eraseIdx R) Lg := ⟨o.1, o.2.1, o.2.2.1.erG hR, o.2.2.2⟩
theorem OS.push {P T G Lg : List rw_} {r : rw_} (o : OS P T G Lg) : OS P T G (psh Lg r) := ⟨o.1, o.2.1, o.2.2.1, psh_len o.2.2.2⟩
theorem bd6_some {α β γ δ ε ζ η : Type} {a : α} {b : β} {c : γ} {d : δ} {e : ε} {z : ζ} {f : α → β → γ → δ → ε → ζ → Option η} : bd6 (some (a, b, c, d, e, z)) f = f a b c d e z := rfl
theorem m_dieL {P T : List rw_} {gi di re ti : Int32} : ∀ (S pre Lg : List rw_) (d F : Nat) (al : Nat → Int32), OS P T (pre ++ S) Lg → MS al P T (pre ++ S) Lg gi di re ti → S.length < F → ∃ al' : Nat → Int32, f_X6_die_L4 F (nI d) (nI pre.length) al = some (nI (d + ndy P S), al') ∧ MS al' P T (pre ++ kept P S) (bur P ti S Lg) gi di re ti
  | _, _, _, _, 0, _, _, _, hF => absurd hF (by omega)
  | [], pre, Lg, d, F + 1, al, o, m, hF => by
    have hl := o.2.2.1.1
    have hp : pre ++ [] = pre := List.append_nil pre
    have a5 : al (5 : Int32).toNatClampNeg = nI (pre ++ []).length := m.2.2.1.1
    refine ⟨al, ?_, m⟩
    unfold f_X6_die_L4
    rw [ix5, a5, hp, if_pos (q_le (by rw [hp] at hl; omega) (by rw [hp] at hl; omega) (Nat.le_refl _))]
    rfl
  | g :: S, pre, Lg, d, F + 1, al, o, m, hF => by
    have hs := split_at (G := pre ++ g :: S) rfl
    have hl := o.2.2.1.1
    have hF : S.length + 1 < F + 1 := hF
    have og := o.2.2.1.2.2.1 _ hs.1
    have a5 : al (5 : Int32).toNatClampNeg = nI (pre ++ g :: S).length := m.2.2.1.1
    have ek : nI pre.length + (1 : Int32) = nI (pre ++ [g]).length := by rw [List.length_append]; exact n_at
    have ea : (pre ++ [g]) ++ S = pre ++ g :: S := by rw [List.append_assoc]; rfl
    have eb : (pre ++ [g]) ++ kept P S = pre ++ g :: kept P S := by rw [List.append_assoc]; rfl
    have q1 := m.2.2.1.l hs.1 hl
    have q2 := m.2.2.1.h hs.1 hl
    obtain ⟨b, b1, b2⟩ := m_log o m hs.1
    rw [hs.2] at og q1 q2 b2
    have e8 : (8 : Int32) + g 0 = nI (8 + cN (g 0)) := by
      conv => lhs; rw [og.1.1]
      exact e_8 _
    have hlt := og.1.2
    obtain ⟨w, w1, w2⟩ := m_out o.push b2 hs.1
    rw [er_mid] at w2
    unfold f_X6_die_L4 bur ndy
    rw [ix5, a5, if_neg (q_nle (by omega) (by omega) hs.1), q1, bd_some, e8, n_ix (by omega) (by omega), q2, bd_some, n_cl (by omega), (m.1 _ hlt).1, b1, bd_some, w1, bd_some, nm_eq, nm_eq, ek, kept_cons]
    by_cases hd : dyb P g = true
    · have hc : ¬ g 4 ≤ P.getD (cN (g 0)) z_ 0 := Int32.not_le.mpr (of_decide_eq_true hd)
      rw [if_pos hd, if_pos hd, if_pos hd, if_neg hc, nI_1 d, ← Nat.add_assoc]
      have o2 := o.er hs.1
      rw [er_mid] at o2
      exact m_dieL S pre _ (d + 1) F w o2.push w2 (by omega)
    · have hc : g 4 ≤ P.getD (cN (g 0)) z_ 0 := Int32.not_lt.mp (fun z => hd (decide_eq_true z))
      rw [if_neg hd, if_neg hd, if_neg hd, if_pos hc, Nat.zero_add, ← eb]
      rw [← ea] at o m
      exact m_dieL S (pre ++ [g]) Lg d F al o m (by omega)
theorem m_die {al : Nat → Int32} {P T G Lg : List rw_} {gi di re ti : Int32} (o : OS P T G Lg) (m : MS al P T G Lg gi di re ti) : ∃ al' : Nat → Int32, f_X6_die al = some (nI (ndy P G), al') ∧ MS al' P T (kept P G) (bur P ti G Lg) gi (di + nI (ndy P G)) re ti := by
  have hl := o.2.2.1.1
  have c2 : (2 : Int32).toNatClampNeg = 2 := by decide
  have n2 : ∀ z : Option (Int32 × (Nat → Int32)), ix (2 : Int32) 320 z = z := fun z => ixo z (by decide)
  obtain ⟨b, b1, b2⟩ := m_dieL G [] Lg 0 FU al o m (by unfold FU; omega)
  have b1 : f_X6_die_L4 FU (0 : Int32) (0 : Int32) al = some (nI (0 + ndy P G), b) := b1
  rw [Nat.zero_add] at b1
  have b2 : MS b P T (kept P G) (bur P ti G Lg) gi di re ti := b2
  have hq := o.2.2.1.kept P
  refine ⟨upd b 2 (di + nI (ndy P G)), ?_, b2.1.c (fun i h1 h2 => pk_un (by omega)), b2.2.1.c hq.2.1 (pk_un (by omega)) (fun i h1 h2 => pk_un (by omega)), b2.2.2.1.c hq.1 (pk_un (by omega)) (fun i h1 h2 => pk_un (by omega)), b2.2.2.2.1.c (bur_len _ _ o.2.2.2) (pk_un (by omega)) (fun i h1 h2 => pk_un (by omega)), ⟨?_, pk_us, ?_, ?_⟩⟩
  · unfold f_X6_die
    rw [b1, bd2_some, n2, nm_eq, n2, nm_eq, c2, b2.2.2.2.2.2.1]
  · rw [pk_un (by omega)]
    exact b2.2.2.2.2.1
  · rw [pk_un (by omega)]
    exact b2.2.2.2.2.2.2.1
  · rw [pk_un (by omega)]
    exact b2.2.2.2.2.2.2.2
