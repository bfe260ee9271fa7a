/-! ===== PURE: what the constructors leave ===== -/
theorem i_house : ∀ (d x F : Nat) (fP : Nat → Int32), d + x = 10 → d < F → (∀ k : Nat, k < 2 * x → fP k = 60) → ∃ fP' : Nat → Int32, f_X2_init_L78 F (nI x) (nI x) fP = some (nI 10, fP') ∧ ∀ k : Nat, k < 20 → fP' k = 60
  | _, _, 0, _, _, hF, _ => absurd hF (by omega)
  | 0, x, F + 1, fP, h, hF, hk => by
    have hx : x = 10 := by omega
    subst hx
    refine ⟨fP, ?_, fun k hk' => hk k (by omega)⟩
    unfold f_X2_init_L78
    rw [if_pos (show (10 : Int32) ≤ nI 10 by decide)]
  | d + 1, x, F + 1, fP, h, hF, hk => by
    have p1 : f_X3_put (2 : Int32) 20 (nI x) (0 : Int32) (60 : Int32) (nI (x + 1)) fP = some (upd fP (x * 2 + 0) 60) := p_put (col := 2) (n := 20) (R := x) (C := 0) (rows := x + 1) (by omega) (by omega) (by omega) (by omega) (by omega) (by omega)
    have p2 : f_X3_put (2 : Int32) 20 (nI x) (1 : Int32) (60 : Int32) (nI (x + 1)) (upd fP (x * 2 + 0) 60) = some (upd (upd fP (x * 2 + 0) 60) (x * 2 + 1) 60) := p_put (col := 2) (n := 20) (R := x) (C := 1) (rows := x + 1) (by omega) (by omega) (by omega) (by omega) (by omega) (by omega)
    have p0 : f_X3_addRow (10 : Int32) (nI x) = some (nI x, nI (x + 1)) := p_add (n := x) (lim := 10) (by omega) (by omega)
    obtain ⟨fP', e1, e2⟩ := i_house d (x + 1) F (upd (upd fP (x * 2 + 0) 60) (x * 2 + 1) 60) (by omega) (by omega) (fun k hk' => by
      by_cases c1 : k = x * 2 + 1
      · rw [c1, pk_us]
      · rw [pk_un c1]
        by_cases c2 : k = x * 2 + 0
        · rw [c2, pk_us]
        · rw [pk_un c2]
          exact hk k (by omega))
    refine ⟨fP', ?_, e2⟩
    have ek : nI x + (1 : Int32) = nI (x + 1) := n_at
    unfold f_X2_init_L78
    rw [if_neg (show ¬ (10 : Int32) ≤ nI x from q_nle (a := 10) (by omega) (by omega) (by omega)), p0, bd2_some, p1, bd_some, p2, bd_some, nm_eq, ek]
    exact e1
theorem i_house0 : ∃ fP' : Nat → Int32, f_X2_init = some ((10 : Int32), fP') ∧ ∀ k : Nat, k < 20 → fP' k = 60 := by
  obtain ⟨fP', e1, e2⟩ := i_house 10 0 FU (fun _ => 0) (by omega) (by unfold FU; omega) (fun k hk => absurd hk (by omega))
  refine ⟨fP', ?_, e2⟩
  have e1 : f_X2_init_L78 FU (0 : Int32) (0 : Int32) (fun _ : Nat => (0 : Int32)) = some ((10 : Int32), fP') := e1
  unfold f_X2_init
  rw [e1, bd2_some]
theorem i_model : ∀ (d x F : Nat) (al : Nat → Int32), d + x = 10 → d < F → (∀ p : Nat, p < x → al (8 + p) = 60 ∧ al (18 + p) = 60) → (∀ i : Nat, i < 8 → al i = 0) → ∃ al' : Nat → Int32, f_X6_init_L64 F (nI x) al = some al' ∧ (∀ p : Nat, p < 10 → al' (8 + p) = 60 ∧ al' (18 + p) = 60) ∧ (∀ i : Nat, i < 8 → al' i = 0)
  | _, _, 0, _, _, hF, _, _ => absurd hF (by omega)
  | 0, x, F + 1, al, h, hF, hk, hz => by
    have hx : x = 10 := by omega
    subst hx
    refine ⟨al, ?_, hk, hz⟩
    unfold f_X6_init_L64
    rw [if_pos (show (10 : Int32) ≤ nI 10 by decide)]
  | d + 1, x, F + 1, al, h, hF, hk, hz => by
    obtain ⟨al', e1, e2⟩ := i_model d (x + 1) F (upd (upd al (8 + x) 60) (18 + x) 60) (by omega) (by omega) (fun p hp => by
      refine ⟨?_, ?_⟩
      · rw [pk_un (by omega)]
        by_cases c : p = x
        · rw [c, pk_us]
        · rw [pk_un (by omega)]
          exact (hk p (by omega)).1
      · by_cases c : p = x
        · rw [c, pk_us]
        · rw [pk_un (by omega), pk_un (by omega)]
          exact (hk p (by omega)).2) (fun i hi => by
        rw [pk_un (by omega), pk_un (by omega)]
        exact hz i hi)
    refine ⟨al', ?_, e2⟩
    have ek : nI x + (1 : Int32) = nI (x + 1) := n_at
    have e8 : (8 : Int32) + nI x = nI (8 + x) := n_at (a := 8)
    have e18 : (18 : Int32) + nI x = nI (18 + x) := n_at (a := 18)
    unfold f_X6_init_L64
    rw [if_neg (show ¬ (10 : Int32) ≤ nI x from q_nle (a := 10) (by omega) (by omega) (by omega)), e8, e18, n_ix (by omega) (by omega), nm_eq, n_ix (by omega) (by omega), nm_eq, nm_eq, ek, n_cl (by omega), n_cl (by omega)]
    exact e1
theorem i_model0 : ∃ al' : Nat → Int32, f_X6_init = some al' ∧ (∀ p : Nat, p < 10 → al' (8 + p) = 60 ∧ al' (18 + p) = 60) ∧ (∀ i : Nat, i < 8 → al' i = 0) := by
  obtain ⟨al', e1, e2⟩ := i_model 10 0 FU (fun _ => 0) (by omega) (by unfold FU; omega) (fun p hp => absurd hp (by omega)) (fun i _ => rfl)
  refine ⟨al', ?_, e2⟩
  have e1 : f_X6_init_L64 FU (0 : Int32) (fun _ : Nat => (0 : Int32)) = some al' := e1
  unfold f_X6_init
  rw [e1, bd_some]
theorem i_steps : f_X0_init = some (1 : Int32) := by
  have p0 : f_X3_addRow (1 : Int32) (0 : Int32) = some ((0 : Int32), (1 : Int32)) := p_add (n := 0) (lim := 1) (by omega) (by omega)
  unfold f_X0_init
  rw [p0, bd2_some]
theorem rep_getD {n k : Nat} {a : rw_} (h : k < n) : (List.replicate n a).getD k z_ = a := by
  rw [List.getD_eq_getElem?_getD, List.getElem?_replicate, if_pos h]
  rfl
theorem LI_init {fP al : Nat → Int32} (Qh : Nat → HS) (h1 : ∀ k : Nat, k < 20 → fP k = 60) (h2 : ∀ p : Nat, p < 10 → al (8 + p) = 60 ∧ al (18 + p) = 60) (h3 : ∀ i : Nat, i < 8 → al i = 0) : LI (10 : Int32) fP (0 : Int32) (fun _ : Nat => (0 : Int32)) (0 : Int32) (fun _ : Nat => (0 : Int32)) (0 : Int32) (fun _ : Nat => (0 : Int32)) (0 : Int32) (fun _ : Nat => (0 : Int32)) (0 : Int32) (0 : Int32) (0 : Int32) (0 : Int32) (0 : Int32) (fun _ : Nat => (0 : Int32)) (0 : Int32) 0 Qh al (fun _ : Nat => (0 : Int32)) (0 : Int32) (fun _ : Nat => (0 : Int32)) (0 : Int32) := by
  have hP : ∀ p : Nat, p < 10 → (List.replicate 10 (g2 60 60)).getD p z_ = g2 60 60 := fun p hp => rep_getD hp
  have o60 : okN 101 (60 : Int32) := ⟨rfl, by decide⟩
  refine ⟨(List.replicate 10 (g2 60 60), [], [], [], 0, 0, 0, 0), 0, fun _ => ([], [], [], [], 0, 0, 0, 0), 0, ⟨List.length_replicate, fun p hp => ?_, ⟨by show 0 ≤ 40; omega, by show 0 ≤ 8; omega, fun k hk => absurd hk (by show ¬ k < 0; omega), fun k hk => absurd hk (by show ¬ k < 0; omega)⟩, by show 0 ≤ 12; omega⟩, ⟨⟨⟨?_, fun k j hk hj => ?_⟩, ⟨⟨rfl, fun k j hk => absurd hk (by show ¬ k < 0; omega)⟩, ⟨rfl, fun k j hk => absurd hk (by show ¬ k < 0; omega)⟩, rfl, fun i hi => absurd hi (by show ¬ i < 10 * 0; omega)⟩, ⟨rfl, fun k j hk => absurd hk (by show ¬ k < 0; omega)⟩⟩, rfl, rfl, rfl, rfl⟩, ⟨fun p hp => ?_, ⟨h3 4 (by omega), fun k j hk => absurd hk (by show ¬ k < 0; omega)⟩, ⟨h3 5 (by omega), fun k j hk => absurd hk (by show ¬ k < 0; omega)⟩, ⟨h3 6 (by omega), fun k j hk => absurd hk (by show ¬ k < 0; omega)⟩, h3 1 (by omega), h3 2 (by omega), h3 3 (by omega), h3 0 (by omega)⟩, ⟨rfl, rfl, by omega, by omega, fun i hi => absurd hi (by omega)⟩, ⟨rfl, rfl, by omega, fun i hi => absurd hi (by omega), fun i hi => absurd hi (by omega)⟩⟩
  · show okN 101 ((List.replicate 10 (g2 60 60)).getD p z_ 0) ∧ okN 101 ((List.replicate 10 (g2 60 60)).getD p z_ 1)
    rw [hP p hp]
    exact ⟨o60, o60⟩
  · show (10 : Int32) = nI (List.replicate 10 (g2 60 60)).length
    rw [List.length_replicate]
    rfl
  · have hk : k < (List.replicate 10 (g2 60 60)).length := hk
    rw [List.length_replicate] at hk
    show fP (k * 2 + j) = (List.replicate 10 (g2 60 60)).getD k z_ j
    rw [hP k hk, h1 _ (by omega)]
    unfold g2
    by_cases c : j = 0
    · rw [if_pos c]
    · rw [if_neg c]
  · show al (8 + p) = (List.replicate 10 (g2 60 60)).getD p z_ 0 ∧ al (18 + p) = (List.replicate 10 (g2 60 60)).getD p z_ 1
    rw [hP p hp]
    exact h2 p hp
