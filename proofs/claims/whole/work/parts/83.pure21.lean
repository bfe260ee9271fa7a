/-! ===== PURE: ticks ===== -/
def cmv (m b : Int32) : Int32 := if m = b then m else if b ≤ m then m - 1 else m + 1
def tkP (P : List rw_) : List rw_ := P.map (fun r => g2 (cmv (r 0) (r 1)) (r 1))
theorem tk_at {P : List rw_} {p : Nat} (h : p < P.length) : (tkP P).getD p z_ = g2 (cmv (P.getD p z_ 0) (P.getD p z_ 1)) (P.getD p z_ 1) := by
  unfold tkP
  rw [List.getD_eq_getElem?_getD, List.getElem?_map, List.getD_eq_getElem?_getD, List.getElem?_eq_getElem h]
  rfl
theorem sb_le {i j : Nat} (hi : i ≤ 100) (hj : j ≤ 100) : (nI j - nI i ≤ 0 ↔ j ≤ i) ∧ (0 ≤ nI j - nI i ↔ i ≤ j) := by
  have h0 : (0 : Int32).toInt = 0 := by decide
  rw [Int32.le_iff_toInt_le, Int32.le_iff_toInt_le, pk_sub_toInt (by omega) (by omega), h0]
  constructor <;> omega
theorem cm_m {m b : Int32} (om : okN 101 m) (ob : okN 101 b) : (if b - m ≤ 0 then (if 0 ≤ b - m then m + 0 else m + (-1)) else m + 1) = cmv m b := by
  have hm := om.2
  have hb := ob.2
  have e1 := om.1
  have e2 := ob.1
  generalize cN m = i at *
  generalize cN b = j at *
  subst e1 e2
  have h := sb_le (i := i) (j := j) (by omega) (by omega)
  unfold cmv
  by_cases c : i = j
  · subst c
    rw [if_pos (h.1.mpr (by omega)), if_pos (h.2.mpr (by omega)), if_pos rfl, z_add]
  · rw [if_neg (q_ne (by omega) (by omega) c)]
    by_cases c2 : j ≤ i
    · rw [if_pos (h.1.mpr c2), if_neg (fun z => absurd (h.2.mp z) (by omega)), if_pos (q_le (by omega) (by omega) c2), sub1]
    · rw [if_neg (fun z => c2 (h.1.mp z)), if_neg (q_nle (by omega) (by omega) (by omega))]
theorem cm_ok {m b : Int32} (om : okN 101 m) (ob : okN 101 b) : okN 101 (cmv m b) := by
  have hm := om.2
  have hb := ob.2
  have e1 := om.1
  have e2 := ob.1
  generalize cN m = i at *
  generalize cN b = j at *
  subst e1 e2
  unfold cmv
  by_cases c : i = j
  · subst c
    rw [if_pos rfl]
    exact okN_nI (by omega) (by omega)
  · rw [if_neg (q_ne (by omega) (by omega) c)]
    by_cases c2 : j ≤ i
    · rw [if_pos (q_le (by omega) (by omega) c2), show (1 : Int32) = nI 1 from rfl, pk_sub (by omega)]
      exact okN_nI (by omega) (by omega)
    · rw [if_neg (q_nle (by omega) (by omega) (by omega)), nI_1]
      exact okN_nI (by omega) (by omega)
theorem OS.tk {P T G Lg : List rw_} (o : OS P T G Lg) : OS (tkP P) T G Lg := by
  have hl := o.1
  refine ⟨by unfold tkP; rw [List.length_map]; exact hl, fun p hp => ?_, o.2.2⟩
  rw [tk_at (by omega)]
  exact ⟨cm_ok (o.2.1 p hp).1 (o.2.1 p hp).2, (o.2.1 p hp).2⟩
theorem c_calm1 {f : Nat → Int32} {x : Nat} (hx : x < 10) : ∃ f' : Nat → Int32, f_X2_calm (nI x) (nI 10) f = some f' ∧ f' (x * 2) = cmv (f (x * 2)) (f (x * 2 + 1)) ∧ ∀ i : Nat, i ≠ x * 2 → f' i = f i := by
  have a0 := p_at (col := 2) (n := 20) (rows := 10) (R := x) (C := 0) (f := f) hx (by omega) (by omega) (by omega) (by omega) (by omega)
  have a0 : f_X3_at (2 : Int32) 20 (nI x) (0 : Int32) (nI 10) f = some (f (x * 2)) := a0
  have a1 := p_at (col := 2) (n := 20) (rows := 10) (R := x) (C := 1) (f := f) hx (by omega) (by omega) (by omega) (by omega) (by omega)
  have a1 : f_X3_at (2 : Int32) 20 (nI x) (1 : Int32) (nI 10) f = some (f (x * 2 + 1)) := a1
  have ap : ∀ v : Int32, f_X3_put (2 : Int32) 20 (nI x) (0 : Int32) v (nI 10) f = some (upd f (x * 2) v) := fun v => by
    have e := p_put (col := 2) (n := 20) (rows := 10) (R := x) (C := 0) (f := f) (v := v) hx (by omega) (by omega) (by omega) (by omega) (by omega)
    exact e
  unfold f_X2_calm cmv
  rw [a0, bd_some, a1, bd_some, ap, ap, bd_some, bd_some]
  by_cases c : f (x * 2) = f (x * 2 + 1)
  · rw [if_pos c]
    exact ⟨f, rfl, by rw [if_pos c], fun i _ => rfl⟩
  · rw [if_neg c]
    by_cases c2 : f (x * 2 + 1) ≤ f (x * 2)
    · rw [if_pos c2]
      exact ⟨_, rfl, by rw [pk_us, if_neg c, if_pos c2], fun i hi => pk_un hi⟩
    · rw [if_neg c2]
      exact ⟨_, rfl, by rw [pk_us, if_neg c, if_neg c2], fun i hi => pk_un hi⟩
theorem c_calmL : ∀ (n x F : Nat) (f : Nat → Int32), n + x = 10 → n < F → ∃ f' : Nat → Int32, f_X2_letPass_L12 (nI 10) F (nI x) f = some f' ∧ (∀ p : Nat, x ≤ p → p < 10 → f' (p * 2) = cmv (f (p * 2)) (f (p * 2 + 1)) ∧ f' (p * 2 + 1) = f (p * 2 + 1)) ∧ ∀ i : Nat, i < x * 2 → f' i = f i
  | _, _, 0, _, _, hF => absurd hF (by omega)
  | 0, x, F + 1, f, h, hF => by
    unfold f_X2_letPass_L12
    rw [if_pos (show (10 : Int32) ≤ nI x from q_le (a := 10) (by omega) (by omega) (by omega))]
    exact ⟨f, rfl, fun p h1 h2 => absurd h1 (by omega), fun i _ => rfl⟩
  | n + 1, x, F + 1, f, h, hF => by
    have ek : nI x + (1 : Int32) = nI (x + 1) := n_at
    obtain ⟨f1, a1, a2, a3⟩ := c_calm1 (f := f) (x := x) (by omega)
    obtain ⟨f2, b1, b2, b3⟩ := c_calmL n (x + 1) F f1 (by omega) (by omega)
    refine ⟨f2, ?_, fun p h1 h2 => ?_, fun i hi => ?_⟩
    · unfold f_X2_letPass_L12
      rw [if_neg (show ¬ (10 : Int32) ≤ nI x from q_nle (a := 10) (by omega) (by omega) (by omega)), a1, bd_some, nm_eq, ek]
      exact b1
    · by_cases e : p = x
      · rw [e, b3 _ (by omega), b3 _ (by omega), a2, a3 _ (by omega)]
        exact ⟨rfl, rfl⟩
      · have := b2 p (by omega) h2
        rw [a3 _ (by omega), a3 _ (by omega)] at this
        exact this
    · rw [b3 _ (by omega), a3 _ (by omega)]
theorem c_calm {rP : Int32} {fP : Nat → Int32} {P : List rw_} (hP : RT 2 rP fP P) (hl : P.length = 10) : ∃ aP : Nat → Int32, f_X2_letPass_L12 rP FU (0 : Int32) fP = some aP ∧ RT 2 rP aP (tkP P) := by
  have er : rP = nI 10 := by rw [hP.1, hl]
  obtain ⟨f', e1, e2, e3⟩ := c_calmL 10 0 FU fP (by omega) (by unfold FU; omega)
  have hlen : (tkP P).length = 10 := by unfold tkP; rw [List.length_map]; exact hl
  refine ⟨f', by rw [er]; exact e1, by rw [hlen, er], fun p j hp hj => ?_⟩
  rw [hlen] at hp
  rw [tk_at (by omega)]
  have h := e2 p (by omega) hp
  have h0 := hP.2 p 0 (by omega) (by omega)
  have h1 := hP.2 p 1 (by omega) (by omega)
  have hj : j = 0 ∨ j = 1 := by omega
  rcases hj with e | e
  · rw [e]
    show f' (p * 2) = cmv (P.getD p z_ 0) (P.getD p z_ 1)
    rw [h.1, ← h0, ← h1]
    rfl
  · rw [e]
    show f' (p * 2 + 1) = P.getD p z_ 1
    rw [h.2, ← h1]
theorem m_calmL : ∀ (n x F : Nat) (al : Nat → Int32), n + x = 10 → n < F → (∀ p : Nat, p < 10 → okN 101 (al (18 + p)) ∧ (x ≤ p → okN 101 (al (8 + p)))) → ∃ al' : Nat → Int32, f_X6_tick_L12 F (nI x) al = some al' ∧ (∀ p : Nat, x ≤ p → p < 10 → al' (8 + p) = cmv (al (8 + p)) (al (18 + p))) ∧ ∀ i : Nat, i < 8 + x ∨ 18 ≤ i → al' i = al i
  | _, _, 0, _, _, hF, _ => absurd hF (by omega)
  | 0, x, F + 1, al, h, hF, ho => by
    unfold f_X6_tick_L12
    rw [if_pos (show (10 : Int32) ≤ nI x from q_le (a := 10) (by omega) (by omega) (by omega))]
    exact ⟨al, rfl, fun p h1 h2 => absurd h1 (by omega), fun i _ => rfl⟩
  | n + 1, x, F + 1, al, h, hF, ho => by
    have ek : nI x + (1 : Int32) = nI (x + 1) := n_at
    have ec := cm_m ((ho x (by omega)).2 (by omega)) (ho x (by omega)).1
    obtain ⟨a, i1, i2, i3⟩ := m_calmL n (x + 1) F (upd al (8 + x) (cmv (al (8 + x)) (al (18 + x)))) (by omega) (by omega) (fun p hp => ⟨by rw [pk_un (by omega)]; exact (ho p hp).1, fun hx => by rw [pk_un (by omega)]; exact (ho p hp).2 (by omega)⟩)
    refine ⟨a, ?_, fun p h1 h2 => ?_, fun i hi => ?_⟩
    · unfold f_X6_tick_L12
      rw [if_neg (show ¬ (10 : Int32) ≤ nI x from q_nle (a := 10) (by omega) (by omega) (by omega)), e_18, e_8, n_ix (by omega) (by omega), n_ix (by omega) (by omega), nm_eq, nm_eq, n_ix (by omega) (by omega), n_cl (by omega), n_cl (by omega), ek]
      simp only [nm_eq, n_ix (show 8 + x < 320 by omega) (show 320 < 2 ^ 31 by omega)]
      by_cases c1 : al (18 + x) - al (8 + x) ≤ 0
      · rw [if_pos c1] at ec ⊢
        by_cases c2 : 0 ≤ al (18 + x) - al (8 + x)
        · rw [if_pos c2] at ec ⊢
          rw [ec]
          exact i1
        · rw [if_neg c2] at ec ⊢
          rw [ec]
          exact i1
      · rw [if_neg c1] at ec ⊢
        rw [ec]
        exact i1
    · by_cases e : p = x
      · rw [e, i3 _ (by omega), pk_us]
      · rw [i2 p (by omega) h2, pk_un (by omega), pk_un (by omega)]
    · rw [i3 i (by omega), pk_un (by omega)]
theorem m_tick {al : Nat → Int32} {P T G Lg : List rw_} {gi di re ti : Int32} (o : OS P T G Lg) (m : MS al P T G Lg gi di re ti) : ∃ al' : Nat → Int32, f_X6_tick al = some (nI (ndy (tkP P) G), al') ∧ MS al' (tkP P) T (kept (tkP P) G) (bur (tkP P) (ti + 1) G Lg) gi (di + nI (ndy (tkP P) G)) re (ti + 1) := by
  have hl := o.1
  have c0 : (0 : Int32).toNatClampNeg = 0 := by decide
  have n0 : ∀ z : Option (Int32 × (Nat → Int32)), ix (0 : Int32) 320 z = z := fun z => ixo z (by decide)
  have ok : ∀ p : Nat, p < 10 → okN 101 (upd al 0 (ti + 1) (18 + p)) ∧ (0 ≤ p → okN 101 (upd al 0 (ti + 1) (8 + p))) := fun p hp => ⟨by rw [pk_un (by omega), (m.1 p hp).2]; exact (o.2.1 p hp).2, fun _ => by rw [pk_un (by omega), (m.1 p hp).1]; exact (o.2.1 p hp).1⟩
  obtain ⟨b, b1, b2, b3⟩ := m_calmL 10 0 FU (upd al 0 (ti + 1)) (by omega) (by unfold FU; omega) ok
  have b1 : f_X6_tick_L12 FU (0 : Int32) (upd al 0 (ti + 1)) = some b := b1
  have mb : MS b (tkP P) T G Lg gi di re (ti + 1) := by
    refine ⟨fun p hp => ?_, m.2.1.c o.2.2.1.2.1 (by rw [b3 4 (by omega), pk_un (by omega)]) (fun i h1 h2 => by rw [b3 i (by omega), pk_un (by omega)]), m.2.2.1.c o.2.2.1.1 (by rw [b3 5 (by omega), pk_un (by omega)]) (fun i h1 h2 => by rw [b3 i (by omega), pk_un (by omega)]), m.2.2.2.1.c o.2.2.2 (by rw [b3 6 (by omega), pk_un (by omega)]) (fun i h1 h2 => by rw [b3 i (by omega), pk_un (by omega)]), ⟨?_, ?_, ?_, ?_⟩⟩
    · rw [tk_at (by omega), b2 p (by omega) hp, b3 (18 + p) (by omega), pk_un (by omega), pk_un (by omega), (m.1 p hp).1, (m.1 p hp).2]
      exact ⟨rfl, rfl⟩
    · rw [b3 1 (by omega), pk_un (by omega)]
      exact m.2.2.2.2.1
    · rw [b3 2 (by omega), pk_un (by omega)]
      exact m.2.2.2.2.2.1
    · rw [b3 3 (by omega), pk_un (by omega)]
      exact m.2.2.2.2.2.2.1
    · rw [b3 0 (by omega), pk_us]
  obtain ⟨d, d1, d2⟩ := m_die o.tk mb
  refine ⟨d, ?_, d2⟩
  unfold f_X6_tick
  rw [n0, nm_eq, n0, nm_eq, c0, m.2.2.2.2.2.2.2, b1, bd_some, d1, bd2_some]
theorem p_ticks {rP gi re : Int32} {T : List rw_} {N : Nat} (hN : N ≤ 100) : ∀ (n k d F F' : Nat) (P G Lg : List rw_) (di ti rG rL : Int32) (fP fG fL al : Nat → Int32), n + k = N → n < F → n < F' → OS P T G Lg → RT 2 rP fP P → RT 6 rG fG G → RT 3 rL fL Lg → MS al P T G Lg gi di re ti → d + G.length ≤ 40 → ∃ (d' : Nat) (P' G' Lg' : List rw_) (di' ti' rG' rL' : Int32) (aP aG aL al' : Nat → Int32), f_X2_letPass_L4 (nI N) rP F (nI d) (nI k) fP rG fG rL fL di ti = some (nI d', aP, rG', aG, rL', aL, di', ti') ∧ f_X6_ticks_L4 (nI N) F' (nI d) (nI k) al = some (nI d', al') ∧ OS P' T G' Lg' ∧ RT 2 rP aP P' ∧ RT 6 rG' aG G' ∧ RT 3 rL' aL Lg' ∧ MS al' P' T G' Lg' gi di' re ti' ∧ d' ≤ 40 ∧ d ≤ d' ∧ (d' = d → G' = G)
  | _, _, _, 0, _, _, _, _, _, _, _, _, _, _, _, _, _, hF, _, _, _, _, _, _, _ => absurd hF (by omega)
  | _, _, _, _, 0, _, _, _, _, _, _, _, _, _, _, _, _, _, hF, _, _, _, _, _, _ => absurd hF (by omega)
  | 0, k, d, F + 1, F' + 1, P, G, Lg, di, ti, rG, rL, fP, fG, fL, al, h, _, _, o, hP, hG, hL, m, hd => by
    refine ⟨d, P, G, Lg, di, ti, rG, rL, fP, fG, fL, al, ?_, ?_, o, hP, hG, hL, m, by omega, by omega, fun _ => rfl⟩
    · unfold f_X2_letPass_L4
      rw [if_pos (q_le (by omega) (by omega) (by omega))]
    · unfold f_X6_ticks_L4
      rw [if_pos (q_le (by omega) (by omega) (by omega))]
  | n + 1, k, d, F + 1, F' + 1, P, G, Lg, di, ti, rG, rL, fP, fG, fL, al, h, h1, h2, o, hP, hG, hL, m, hd => by
    have ek : nI k + (1 : Int32) = nI (k + 1) := n_at
    obtain ⟨a1, p1, p2⟩ := c_calm hP o.1
    obtain ⟨aG, aL, b1, b2, b3⟩ := c_bury (rT := 0) (rH := 0) (fT := fP) (fH := fP) (di := di) (ti := ti + 1) p2 o.tk.1 hG o.2.2.1 hL o.2.2.2
    obtain ⟨c, m1, m2⟩ := m_tick o m
    have hk := kept_len (P := tkP P) G
    have ed : nI d + nI (ndy (tkP P) G) = nI (d + ndy (tkP P) G) := n_at
    obtain ⟨d', P', G', Lg', di', ti', rG', rL', aP, bG, bL, al', r1, r2, r3, r4, r5, r6, r7, r8, r9, r10⟩ := p_ticks (rP := rP) (gi := gi) (re := re) (T := T) hN n (k + 1) (d + ndy (tkP P) G) F F' (tkP P) (kept (tkP P) G) (bur (tkP P) (ti + 1) G Lg) _ (ti + 1) _ _ a1 aG aL c (by omega) (by omega) (by omega) o.tk.die p2 b2 b3 m2 (by omega)
    refine ⟨d', P', G', Lg', di', ti', rG', rL', aP, bG, bL, al', ?_, ?_, r3, r4, r5, r6, r7, r8, by omega, fun e => ?_⟩
    · unfold f_X2_letPass_L4
      rw [if_neg (q_nle (by omega) (by omega) (by omega)), p1, bd_some, nm_eq, b1, bd6_some, nm_eq, nm_eq, ek, ed]
      exact r1
    · unfold f_X6_ticks_L4
      rw [if_neg (q_nle (by omega) (by omega) (by omega)), m1, bd2_some, nm_eq, nm_eq, ek, ed]
      exact r2
    · have h0 : ndy (tkP P) G = 0 := by omega
      rw [r10 (by omega), kept_id G h0]
theorem bd8_some {α β γ δ ε ζ η θ κ : Type} {a : α} {b : β} {c : γ} {d : δ} {e : ε} {z : ζ} {h : η} {t : θ} {f : α → β → γ → δ → ε → ζ → η → θ → Option κ} : bd8 (some (a, b, c, d, e, z, h, t)) f = f a b c d e z h t := rfl
theorem j_pass {rP rT rG rL rH gi di re ti : Int32} {fP fT fG fL fH al : Nat → Int32} {P T G Lg : List rw_} {N : Nat} (hN : N ≤ 100) (o : OS P T G Lg) (c : CS rP fP rT fT rG fG rL fL rH fH P T G Lg) (m : MS al P T G Lg gi di re ti) : ∃ (d : Nat) (P' G' Lg' : List rw_) (di' ti' rG' rL' : Int32) (aP aG aL aH al' : Nat → Int32), f_X2_letPass (nI N) rP fP rT fT rG fG rL fL rH fH di ti = some (nI d, aP, rG', aG, rL', aL, aH, di', ti') ∧ f_X6_ticks (nI N) al = some (nI d, al') ∧ OS P' T G' Lg' ∧ CS rP aP rT fT rG' aG rL' aL rH aH P' T G' Lg' ∧ MS al' P' T G' Lg' gi di' re ti' := by
  have := o.2.2.1.1
  obtain ⟨d', P', G', Lg', di', ti', rG', rL', aP, aG, aL, al', r1, r2, r3, r4, r5, r6, r7, r8, _, r10⟩ := p_ticks (rP := rP) (gi := gi) (re := re) (T := T) hN N 0 0 FU FU P G Lg di ti rG rL fP fG fL al (by omega) (by unfold FU; omega) (by unfold FU; omega) o c.1 c.2.1.1 c.2.2 m (by omega)
  have r1 : f_X2_letPass_L4 (nI N) rP FU (0 : Int32) (0 : Int32) fP rG fG rL fL di ti = some (nI d', aP, rG', aG, rL', aL, di', ti') := r1
  have r2 : f_X6_ticks_L4 (nI N) FU (0 : Int32) (0 : Int32) al = some (nI d', al') := r2
  have e2 : f_X6_ticks (nI N) al = some (nI d', al') := by
    unfold f_X6_ticks
    rw [r2, bd2_some]
  by_cases h : d' = 0
  · have eG := r10 h
    subst eG
    refine ⟨d', P', G', Lg', di', ti', rG', rL', aP, aG, aL, fH, al', ?_, e2, r3, ⟨r4, ⟨r5, c.2.1.2.1, c.2.1.2.2⟩, r6⟩, r7⟩
    unfold f_X2_letPass
    rw [r1, bd8_some, h, if_pos (show nI 0 ≤ (0 : Int32) by decide)]
  · obtain ⟨aH, s1, s2⟩ := CS.settle (fH := fH) (rH := rH) r4 c.2.1.2.1 r5 r6 c.2.1.2.2.1 r3.2.2.1
    refine ⟨d', P', G', Lg', di', ti', rG', rL', aP, aG, aL, aH, al', ?_, e2, r3, s2, r7⟩
    unfold f_X2_letPass
    rw [r1, bd8_some, if_neg (show ¬ nI d' ≤ (0 : Int32) from q_nle (b := 0) (by omega) (by omega) (by omega)), s1, bd_some]
