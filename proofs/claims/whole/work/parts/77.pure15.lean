/-! ===== PURE: tables that change ===== -/
theorem gd_set {L : List rw_} {R : Nat} {g : rw_} (h : R < L.length) : (L.set R g).getD R z_ = g := by
  rw [List.getD_eq_getElem?_getD, List.getElem?_set_self h]
  rfl
theorem gd_setn {L : List rw_} {R k : Nat} {g : rw_} (h : k ≠ R) : (L.set R g).getD k z_ = L.getD k z_ := by
  rw [List.getD_eq_getElem?_getD, List.getElem?_set_ne (Ne.symm h), ← List.getD_eq_getElem?_getD]
theorem gd_app {L M : List rw_} {k : Nat} (h : k < L.length) : (L ++ M).getD k z_ = L.getD k z_ := by
  rw [List.getD_eq_getElem?_getD, List.getElem?_append_left h, ← List.getD_eq_getElem?_getD]
theorem gd_mid {L M : List rw_} {g : rw_} : (L ++ g :: M).getD L.length z_ = g := by
  rw [List.getD_eq_getElem?_getD, List.getElem?_append_right (Nat.le_refl _), Nat.sub_self]
  rfl
theorem gd_er {L : List rw_} {R k : Nat} : (L.eraseIdx R).getD k z_ = if k < R then L.getD k z_ else L.getD (k + 1) z_ := by
  rw [List.getD_eq_getElem?_getD, List.getElem?_eraseIdx]
  split
  · rw [List.getD_eq_getElem?_getD]
  · rw [List.getD_eq_getElem?_getD]
theorem er_mid {L M : List rw_} {g : rw_} : (L ++ g :: M).eraseIdx L.length = L ++ M := by
  rw [List.eraseIdx_append_of_length_le (Nat.le_refl _), Nat.sub_self]
  rfl
theorem len_er {L : List rw_} {R : Nat} (h : R < L.length) : (L.eraseIdx R).length = L.length - 1 := List.length_eraseIdx_of_lt h
theorem p_add {n lim : Nat} (h : n < lim) (hl : lim < 100000) : f_X3_addRow (nI lim) (nI n) = some (nI n, nI (n + 1)) := by
  have e : nI n + (1 : Int32) = nI (n + 1) := n_at
  unfold f_X3_addRow
  rw [if_pos (q_lt (by omega) (by omega) h), nm_eq, nm_eq, e, nI_pred]
theorem RT.snoc {col : Nat} {f f' : Nat → Int32} {L : List rw_} {g : rw_} (h : RT col (nI L.length) f L) (h1 : ∀ i : Nat, i < L.length * col → f' i = f i) (h2 : ∀ j : Nat, j < col → f' (L.length * col + j) = g j) : RT col (nI (L.length + 1)) f' (L ++ [g]) := by
  refine ⟨by rw [List.length_append]; rfl, fun k j hk hj => ?_⟩
  rw [List.length_append] at hk
  have hk : k < L.length + 1 := hk
  by_cases e : k = L.length
  · rw [e, gd_mid]
    exact h2 j hj
  · have hk2 : k < L.length := by omega
    rw [gd_app hk2, h1 _ (n_idx hk2 hj (Nat.le_refl _))]
    exact h.2 k j hk2 hj
/-- a row is dropped -/
theorem p_dropL {col nn U : Nat} (hc : 0 < col) (hU : U ≤ nn) (hn : nn < 100000) (hcU : col ≤ U) : ∀ (n x F : Nat) (f : Nat → Int32), n + x = U - col → n < F → ∃ f' : Nat → Int32, f_X3_drop_L30 (nI U) (nI col) nn F (nI x) f = some f' ∧ (∀ i : Nat, x ≤ i → i < U - col → f' i = f (i + col)) ∧ (∀ i : Nat, i < x ∨ U - col ≤ i → f' i = f i)
  | _, _, 0, _, _, hF => absurd hF (by omega)
  | 0, x, F + 1, f, h, hF => by
    have e : nI U - nI col = nI (U - col) := pk_sub hcU
    unfold f_X3_drop_L30
    rw [e, if_pos (q_le (by omega) (by omega) (by omega))]
    exact ⟨f, rfl, fun i h1 h2 => absurd h1 (by omega), fun i _ => rfl⟩
  | n + 1, x, F + 1, f, h, hF => by
    have e : nI U - nI col = nI (U - col) := pk_sub hcU
    have e2 : nI x + nI col = nI (x + col) := n_at
    have e3 : nI x + (1 : Int32) = nI (x + 1) := n_at
    have c1 : ¬ Int32.ofNat nn ≤ nI x := q_nle (a := nn) (by omega) (by omega) (by omega)
    have c2 : ¬ Int32.ofNat nn ≤ nI (x + col) := q_nle (a := nn) (by omega) (by omega) (by omega)
    obtain ⟨f', i1, i2, i3⟩ := p_dropL hc hU hn hcU n (x + 1) F (upd f x (f (x + col))) (by omega) (by omega)
    refine ⟨f', ?_, fun i h1 h2 => ?_, fun i hi => ?_⟩
    · unfold f_X3_drop_L30
      rw [e, if_neg (q_nle (by omega) (by omega) (by omega)), nm_eq, e2, if_neg (nI_pos (by omega)), if_neg c1, if_neg (nI_pos (by omega)), if_neg c2, n_ix (by omega) (by omega), nm_eq, n_ix (by omega) (by omega), nm_eq, nm_eq, e3, n_cl (by omega), n_cl (by omega)]
      exact i1
    · by_cases ei : i = x
      · rw [ei, i3 x (by omega), pk_us]
      · rw [i2 i (by omega) h2, pk_un (by omega)]
    · rw [i3 i (by omega), pk_un (by omega)]
theorem RT.drop {col nn R lim : Nat} {r : Int32} {f : Nat → Int32} {L : List rw_} (h : RT col r f L) (hR : R < L.length) (hc : 0 < col) (hl : L.length ≤ lim) (hn : lim * col ≤ nn) (hb : nn < 4000) : ∃ f' : Nat → Int32, f_X3_drop (nI col) nn (nI R) r f = some (nI (L.length - 1), f') ∧ RT col (nI (L.length - 1)) f' (L.eraseIdx R) := by
  have hL : L.length * col ≤ nn := Nat.le_trans (Nat.mul_le_mul_right _ hl) hn
  have hRc : R * col + col ≤ L.length * col := by
    have := Nat.mul_le_mul_right col hR
    rw [Nat.succ_mul] at this
    exact this
  have hLb : L.length ≤ nn := Nat.le_trans (Nat.le_mul_of_pos_right _ hc) hL
  have hL1 : (L.length - 1) * col = L.length * col - col := by rw [Nat.sub_mul, Nat.one_mul]
  obtain ⟨f', e1, e2, e3⟩ := p_dropL (U := L.length * col) hc hL (by omega) (by omega) (L.length * col - col - R * col) (R * col) FU f (by omega) (by unfold FU; omega)
  refine ⟨f', ?_, by rw [len_er hR], fun k j hk hj => ?_⟩
  · unfold f_X3_drop
    rw [h.1, if_neg (nI_pos (by omega)), if_pos (q_lt (by omega) (by omega) hR), nm_eq, nm_eq, n_mul, n_mul, e1, bd_some, nm_eq, show (1 : Int32) = nI 1 from rfl, pk_sub (by omega)]
  · rw [len_er hR] at hk
    rw [gd_er]
    have hk1 : k * col + col ≤ (L.length - 1) * col := by
      have := Nat.mul_le_mul_right col (show k + 1 ≤ L.length - 1 by omega)
      rw [Nat.succ_mul] at this
      exact this
    by_cases hkR : k < R
    · have hk2 : k * col + col ≤ R * col := by
        have := Nat.mul_le_mul_right col hkR
        rw [Nat.succ_mul] at this
        exact this
      rw [if_pos hkR, e3 _ (by omega)]
      exact h.2 k j (by omega) hj
    · have hk2 : R * col ≤ k * col := Nat.mul_le_mul_right _ (by omega)
      rw [if_neg hkR, e2 _ (by omega) (by omega), show k * col + j + col = (k + 1) * col + j by rw [Nat.succ_mul]; omega]
      exact h.2 (k + 1) j (by omega) hj
/-- a table is taken over -/
theorem p_overL {nn nn2 U : Nat} {f2 : Nat → Int32} (hU : U ≤ nn) (hU2 : U ≤ nn2) (hn : nn < 100000) (hn2 : nn2 < 100000) : ∀ (n x F : Nat) (f : Nat → Int32), n + x = U → n < F → eqon x f f2 → ∃ f' : Nat → Int32, f_X3_takeOver_L38 (nI U) nn nn2 f2 F (nI x) f = some f' ∧ eqon U f' f2
  | _, _, 0, _, _, hF, _ => absurd hF (by omega)
  | 0, x, F + 1, f, h, hF, he => by
    have hx : x = U := by omega
    unfold f_X3_takeOver_L38
    rw [if_pos (q_le (by omega) (by omega) (by omega))]
    exact ⟨f, rfl, by rw [← hx]; exact he⟩
  | n + 1, x, F + 1, f, h, hF, he => by
    have e3 : nI x + (1 : Int32) = nI (x + 1) := n_at
    have c1 : ¬ Int32.ofNat nn ≤ nI x := q_nle (a := nn) (by omega) (by omega) (by omega)
    have c2 : ¬ Int32.ofNat nn2 ≤ nI x := q_nle (a := nn2) (by omega) (by omega) (by omega)
    unfold f_X3_takeOver_L38
    rw [if_neg (q_nle (by omega) (by omega) (by omega)), if_neg c1, if_neg c2, n_ix (by omega) (by omega), nm_eq, n_ix (by omega) (by omega), nm_eq, nm_eq, e3, n_cl (by omega)]
    refine p_overL hU hU2 hn hn2 n (x + 1) F _ (by omega) (by omega) (fun i hi => ?_)
    by_cases ei : i = x
    · rw [ei, pk_us]
    · rw [pk_un ei]
      exact he i (by omega)
theorem p_over {lim col nn nn2 n : Nat} {r : Int32} {f f2 : Nat → Int32} (hl : n ≤ lim) (hn : lim * col ≤ nn) (hn2 : lim * col ≤ nn2) (hb : nn < 4000) (hb2 : nn2 < 4000) (hlim : lim < 4000) : ∃ f' : Nat → Int32, f_X3_takeOver (nI lim) (nI col) nn nn2 r f (nI n) f2 = some (nI n, f') ∧ eqon (n * col) f' f2 := by
  have hU : n * col ≤ lim * col := Nat.mul_le_mul_right _ hl
  obtain ⟨f', e1, e2⟩ := p_overL (U := n * col) (nn := nn) (nn2 := nn2) (f2 := f2) (by omega) (by omega) (by omega) (by omega) (n * col) 0 FU f (by omega) (by unfold FU; omega) (fun i hi => absurd hi (by omega))
  have e1 : f_X3_takeOver_L38 (nI (n * col)) nn nn2 f2 FU (0 : Int32) f = some f' := e1
  refine ⟨f', ?_, e2⟩
  unfold f_X3_takeOver
  by_cases h : nI lim ≤ nI n
  · have : lim ≤ n := (n_le (by omega) (by omega)).mp h
    have : lim = n := by omega
    subst this
    rw [if_pos h, nm_eq, n_mul, e1, bd_some]
  · rw [if_neg h, nm_eq, n_mul, e1, bd_some]
theorem RT.over {col : Nat} {r : Int32} {f f' : Nat → Int32} {L : List rw_} (h : RT col r f L) (he : eqon (L.length * col) f' f) : RT col (nI L.length) f' L := ⟨rfl, fun k j hk hj => by rw [he _ (n_idx hk hj (Nat.le_refl _))]; exact h.2 k j hk hj⟩
/-! the model's parts see their own cells alone -/
theorem MP.c {al al' : Nat → Int32} {P : List rw_} (h : MP al P) (e : ∀ i : Nat, 8 ≤ i → i < 28 → al' i = al i) : MP al' P := fun p hp => ⟨by rw [e _ (by omega) (by omega)]; exact (h p hp).1, by rw [e _ (by omega) (by omega)]; exact (h p hp).2⟩
theorem MT.c {al al' : Nat → Int32} {T : List rw_} (h : MT al T) (hl : T.length ≤ 8) (e4 : al' 4 = al 4) (e : ∀ i : Nat, 28 ≤ i → i < 44 → al' i = al i) : MT al' T := ⟨by rw [e4]; exact h.1, fun t j ht hj => by rw [e _ (by omega) (by omega)]; exact h.2 t j ht hj⟩
theorem MG.c {al al' : Nat → Int32} {G : List rw_} (h : MG al G) (hl : G.length ≤ 40) (e5 : al' 5 = al 5) (e : ∀ i : Nat, 44 ≤ i → i < 284 → al' i = al i) : MG al' G := ⟨by rw [e5]; exact h.1, fun k j hk hj => by rw [e _ (by omega) (by omega)]; exact h.2 k j hk hj⟩
theorem ML.c {al al' : Nat → Int32} {Lg : List rw_} (h : ML al Lg) (hl : Lg.length ≤ 12) (e6 : al' 6 = al 6) (e : ∀ i : Nat, 284 ≤ i → i < 320 → al' i = al i) : ML al' Lg := ⟨by rw [e6]; exact h.1, fun k j hk hj => by rw [e _ (by omega) (by omega)]; exact h.2 k j hk hj⟩
theorem MN.c {al al' : Nat → Int32} {gi di re ti : Int32} (h : MN al gi di re ti) (e : ∀ i : Nat, i < 4 → al' i = al i) : MN al' gi di re ti := ⟨by rw [e 1 (by omega)]; exact h.1, by rw [e 2 (by omega)]; exact h.2.1, by rw [e 3 (by omega)]; exact h.2.2.1, by rw [e 0 (by omega)]; exact h.2.2.2⟩
/-- the states -/
def okPs (P : List rw_) : Prop := ∀ p : Nat, p < 10 → okN 101 (P.getD p z_ 0) ∧ okN 101 (P.getD p z_ 1)
def OS (P T G Lg : List rw_) : Prop := P.length = 10 ∧ okPs P ∧ QG T G ∧ Lg.length ≤ 12
def CS (rP : Int32) (fP : Nat → Int32) (rT : Int32) (fT : Nat → Int32) (rG : Int32) (fG : Nat → Int32) (rL : Int32) (fL : Nat → Int32) (rH : Int32) (fH : Nat → Int32) (P T G Lg : List rw_) : Prop := RT 2 rP fP P ∧ QC rT fT rG fG rH fH T G (hd T G) ∧ RT 3 rL fL Lg
def MS (al : Nat → Int32) (P T G Lg : List rw_) (gi di re ti : Int32) : Prop := MP al P ∧ MT al T ∧ MG al G ∧ ML al Lg ∧ MN al gi di re ti
theorem MS.c {al al' : Nat → Int32} {P T G Lg : List rw_} {gi di re ti : Int32} (h : MS al P T G Lg gi di re ti) (o : OS P T G Lg) (e : eqon 320 al' al) : MS al' P T G Lg gi di re ti := ⟨h.1.c (fun i _ _ => e i (by omega)), h.2.1.c o.2.2.1.2.1 (e 4 (by omega)) (fun i _ _ => e i (by omega)), h.2.2.1.c o.2.2.1.1 (e 5 (by omega)) (fun i _ _ => e i (by omega)), h.2.2.2.1.c o.2.2.2 (e 6 (by omega)) (fun i _ _ => e i (by omega)), h.2.2.2.2.c (fun i _ => e i (by omega))⟩
/-- a house is taken over -/
theorem c_over {rP rT rG rL rH rP2 rT2 rG2 rL2 rH2 gi di re ti gi2 di2 re2 ti2 : Int32} {fP fT fG fL fH fP2 fT2 fG2 fL2 fH2 : Nat → Int32} {P T G Lg : List rw_} (o : OS P T G Lg) (c : CS rP2 fP2 rT2 fT2 rG2 fG2 rL2 fL2 rH2 fH2 P T G Lg) : ∃ aP aT aG aL aH : Nat → Int32, f_X2_takeOver rP fP rT fT rG fG rL fL rH fH gi di re ti rP2 fP2 rT2 fT2 rG2 fG2 rL2 fL2 rH2 fH2 gi2 di2 re2 ti2 = some (nI P.length, aP, nI T.length, aT, nI G.length, aG, nI Lg.length, aL, nI T.length, aH, gi2, di2, re2, ti2) ∧ CS (nI P.length) aP (nI T.length) aT (nI G.length) aG (nI Lg.length) aL (nI T.length) aH P T G Lg := by
  obtain ⟨aP, p1, p2⟩ := p_over (lim := 10) (col := 2) (nn := 20) (nn2 := 20) (n := P.length) (r := rP) (f := fP) (f2 := fP2) (by have := o.1; omega) (by omega) (by omega) (by omega) (by omega) (by omega)
  obtain ⟨aT, t1, t2⟩ := p_over (lim := 8) (col := 2) (nn := 16) (nn2 := 16) (n := T.length) (r := rT) (f := fT) (f2 := fT2) o.2.2.1.2.1 (by omega) (by omega) (by omega) (by omega) (by omega)
  obtain ⟨aG, g1, g2⟩ := p_over (lim := 40) (col := 6) (nn := 240) (nn2 := 240) (n := G.length) (r := rG) (f := fG) (f2 := fG2) o.2.2.1.1 (by omega) (by omega) (by omega) (by omega) (by omega)
  obtain ⟨aL, l1, l2⟩ := p_over (lim := 12) (col := 3) (nn := 36) (nn2 := 36) (n := Lg.length) (r := rL) (f := fL) (f2 := fL2) o.2.2.2 (by omega) (by omega) (by omega) (by omega) (by omega)
  obtain ⟨aH, h1, h2⟩ := p_over (lim := 8) (col := 10) (nn := 80) (nn2 := 80) (n := T.length) (r := rH) (f := fH) (f2 := fH2) o.2.2.1.2.1 (by omega) (by omega) (by omega) (by omega) (by omega)
  have p1 : f_X3_takeOver (10 : Int32) (2 : Int32) 20 20 rP fP (nI P.length) fP2 = some (nI P.length, aP) := p1
  have t1 : f_X3_takeOver (8 : Int32) (2 : Int32) 16 16 rT fT (nI T.length) fT2 = some (nI T.length, aT) := t1
  have g1 : f_X3_takeOver (40 : Int32) (6 : Int32) 240 240 rG fG (nI G.length) fG2 = some (nI G.length, aG) := g1
  have l1 : f_X3_takeOver (12 : Int32) (3 : Int32) 36 36 rL fL (nI Lg.length) fL2 = some (nI Lg.length, aL) := l1
  have h1 : f_X3_takeOver (8 : Int32) (10 : Int32) 80 80 rH fH (nI T.length) fH2 = some (nI T.length, aH) := h1
  refine ⟨aP, aT, aG, aL, aH, ?_, c.1.over p2, ⟨c.2.1.1.over g2, c.2.1.2.1.over t2, rfl, fun i hi => ?_⟩, c.2.2.over l2⟩
  · unfold f_X2_takeOver
    rw [c.1.1, c.2.1.2.1.1, c.2.1.1.1, c.2.2.1, c.2.1.2.2.1, p1, bd2_some, t1, bd2_some, g1, bd2_some, l1, bd2_some, h1, bd2_some]
  · rw [h2 i (by omega)]
    exact c.2.1.2.2.2 i hi
