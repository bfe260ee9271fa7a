theorem gd_set {L : List rw_} {R : Nat} {g : rw_} (h : R < L.length) : (L.set R g).getD R z_ = g := by
  rw [List.getD_eq_getElem?_getD, List.getElem?_set_self h]
  rfl
theorem gd_setn {L : List rw_} {R k : Nat} {g : rw_} (h : k ≠ R) : (L.set R g).getD k z_ = L.getD k z_ := by
  rw [List.getD_eq_getElem?_getD, List.getElem?_set_ne (Ne.symm h), ← List.getD_eq_getElem?_getD]
theorem gd_app {L M : List rw_} {k : Nat} (h : k < L.length) : (L ++ M).getD k z_ = L.getD k z_ := by
  rw [List.getD_eq_getElem?_getD, List.getElem?_append_left h, ← List.getD_eq_getElem?_getD]
theorem gd_mid {L M : List rw_} {g : rw_} : (L ++ g :: M).getD L.length z_ = g := by
  rw [List.getD_eq_getElem?_getD, List.getElem?_append_right (Nat.le_refl _), Nat.sub_self]
  rfl
theorem gd_er {L : List rw_} {R k : Nat} : (L.eraseIdx R).getD k z_ = if k < R then L.getD k z_ else L.getD (k + 1) z_ := by
  rw [List.getD_eq_getElem?_getD, List.getElem?_eraseIdx]
  split
  · rw [List.getD_eq_getElem?_getD]
  · rw [List.getD_eq_getElem?_getD]
theorem er_mid {L M : List rw_} {g : rw_} : (L ++ g :: M).eraseIdx L.length = L ++ M := by
  rw [List.eraseIdx_append_of_length_le (Nat.le_refl _), Nat.sub_self]
  rfl
theorem len_er {L : List rw_} {R : Nat} (h : R < L.length) : (L.eraseIdx R).length = L.length - 1 := List.length_eraseIdx_of_lt h
theorem p_add {n lim : Nat} (h : n < lim) (hl : lim < 100000) : f_X3_addRow (nI lim) (nI n) = some (nI n, nI (n + 1)) := by
  have e : nI n + (1 : Int32) = nI (n + 1) := n_at
  unfold f_X3_addRow
  rw [if_pos (q_lt (by omega) (by omega) h), nm_eq, nm_eq, e, nI_pred]
theorem RT.snoc {col : Nat} {f f' : Nat → Int32} {L : List rw_} {g : rw_} (h : RT col (nI L.length) f L) (h1 : ∀ i : Nat, i < L.length * col → f' i = f i) (h2 : ∀ j : Nat, j < col → f' (L.length * col + j) = g j) : RT col (nI (L.length + 1)) f' (L ++ [g]) := by
  refine ⟨by rw [List.length_append]; rfl, fun k j hk hj => ?_⟩
  rw [List.length_append] at hk
  have hk : k < L.length + 1 := hk
  by_cases e : k = L.length
  · rw [e, gd_mid]
    exact h2 j hj
  · have hk2 : k < L.length := by omega
    rw [gd_app hk2, h1 _ (n_idx hk2 hj (Nat.le_refl _))]
    exact h.2 k j hk2 hj
/-- a row is dropped -/
theorem p_dropL {col nn U : Nat} (hc : 0 < col) (hU : U ≤ nn) (hn : nn < 100000) (hcU : col ≤ U) : ∀ (n x F : Nat) (f : Nat → Int32), n + x = U - col → n < F → ∃ f' : Nat → Int32, f_X3_drop_L30 (nI U) (nI col) nn F (nI x) f = some f' ∧ (∀ i : Nat, x ≤ i → i < U - col → f' i = f (i + col)) ∧ (∀ i : Nat, i < x ∨ U - col ≤ i → f' i = f i)
  | _, _, 0, _, _, hF => absurd hF (by omega)
  | 0, x, F + 1, f, h, hF => by
    have e : nI U - nI col = nI (U - col) := pk_sub hcU
    unfold f_X3_drop_L30
    rw [e, if_pos (q_le (by omega) (by omega) (by omega))]
    exact ⟨f, rfl, fun i h1 h2 => absurd h1 (by omega), fun i _ => rfl⟩
  | n + 1, x, F + 1, f, h, hF => by
    have e : nI U - nI col = nI (U - col) := pk_sub hcU
    have e2 : nI x + nI col = nI (x + col) := n_at
    have e3 : nI x + (1 : Int32) = nI (x + 1) := n_at
    have c1 : ¬ Int32.ofNat nn ≤ nI x := q_nle (a := nn) (by omega) (by omega) (by omega)
    have c2 : ¬ Int32.ofNat nn ≤ nI (x + col) := q_nle (a := nn) (by omega) (by omega) (by omega)
    obtain ⟨f', i1, i2, i3⟩ := p_dropL hc hU hn hcU n (x + 1) F (upd f x (f (x + col))) (by omega) (by omega)
    refine ⟨f', ?_, fun i h1 h2 => ?_, fun i hi => ?_⟩
    · unfold f_X3_drop_L30
      rw [e, if_neg (q_nle (by omega) (by omega) (by omega)), nm_eq, e2, if_neg (nI_pos (by omega)), if_neg c1, if_neg (nI_pos (by omega)), if_neg c2, n_ix (by omega) (by omega), nm_eq, n_ix (by omega) (by omega), nm_eq, nm_eq, e3, n_cl (by omega), n_cl (by omega)]
      exact i1
    · by_cases ei : i = x
      · rw [ei, i3 x (by omega), pk_us]
      · rw [i2 i (by omega) h2, pk_un (by omega)]
    · rw [i3 i (by omega), pk_un (by omega)]
theorem RT.drop {col nn R lim : Nat} {r : Int32} {f : Nat → Int32} {L : List rw_} (h : RT col r f L) (hR : R < L.length) (hc : 0 < col) (hl : L.length ≤ lim) (hn : lim * col ≤ nn) (hb : nn < 4000) : ∃ f' : Nat → Int32, f_X3_drop (nI col) nn (nI R) r f = some (nI (L.length - 1), f') ∧ RT col (nI (L.length - 1)) f' (L.eraseIdx R) := by
  have hL : L.length * col ≤ nn := Nat.le_trans (Nat.mul_le_mul_right _ hl) hn
  have hRc : R * col + col ≤ L.length * col := by
    have := Nat.mul_le_mul_right col hR
    rw [Nat.succ_mul] at this
    exact this
  have hLb : L.length ≤ nn := Nat.le_trans (Nat.le_mul_of_pos_right _ hc) hL
  have hL1 : (L.length - 1) * col = L.length * col - col := by rw [Nat.sub_mul, Nat.one_mul]
  obtain ⟨f', e1, e2, e3⟩ := p_dropL (U := L.length * col) hc hL (by omega) (by omega) (L.length * col - col - R * col) (R * col) FU f (by omega) (by unfold FU; omega)
  refine ⟨f', ?_, by rw [len_er hR], fun k j hk hj => ?_⟩
  · unfold f_X3_drop
    rw [h.1, if_neg (nI_pos (by omega)), if_pos (q_lt (by omega) (by omega) hR), nm_eq, nm_eq, n_mul, n_mul, e1, bd_some, nm_eq, show (1 : Int32) = nI 1 from rfl, pk_sub (by omega)]
  · rw [len_er hR] at hk
    rw [gd_er]
    have hk1 : k * col + col ≤ (L.length - 1) * col := by
      have := Nat.mul_le_mul_right col (show k + 1 ≤ L.length - 1 by omega)
      rw [Nat.succ_mul] at this
      exact this
    by_cases hkR : k < R
    · have hk2 : k * col + col ≤ R * col := by
        have := Nat.mul_le_mul_right col hkR
        rw [Nat.succ_mul] at this
        exact this
      rw [if_pos hkR, e3 _ (by omega)]
      exact h.2 k j (by omega) hj
    · have hk2 : R * col ≤ k * col := Nat.mul_le_mul_right _ (by omega)
      rw [if_neg hkR, e2 _ (by omega) (by omega), show k * col + j + col = (k + 1) * col + j by rw [Nat.succ_mul]; omega]
      exact h.2 (k + 1) j (by omega) hj
/-- a table is taken over -/
theorem p_overL {nn nn2 U : Nat} {f2 : Nat → Int32} (hU : U ≤ nn) (hU2 : U ≤ nn2) (hn : nn < 100000) (hn2 : nn2 < 100000) : ∀ (n x F : Nat) (f : Nat → Int32), n + x = U → n < F → eqon x f f2 → ∃ f' : Nat → Int32, f_X3_takeOver_L38 (nI U) nn nn2 f2 F (nI x) f = some f' ∧ eqon U f' f2
  | _, _, 0, _, _, hF, _ => absurd hF (by omega)
  | 0, x, F + 1, f, h, hF, he => by
    have hx : x = U := by omega
    unfold f_X3_takeOver_L38
    rw [if_pos (q_le (by omega) (by omega) (by omega))]
    exact ⟨f, rfl, by rw [← hx]; exact he⟩
  | n + 1, x, F + 1, f, h, hF, he => by
    have e3 : nI x + (1 : Int32) = nI (x + 1) := n_at
    have c1 : ¬ Int32.ofNat nn ≤ nI x := q_nle (a := nn) (by omega) (by omega) (by omega)
    have c2 : ¬ Int32.ofNat nn2 ≤ nI x := q_nle (a := nn2) (by omega) (by omega) (by omega)
    unfold f_X3_takeOver_L38
    rw [if_neg (q_nle (by omega) (by omega) (by omega)), if_neg c1, if_neg c2, n_ix (by omega) (by omega), nm_eq, n_ix (by omega) (by omega), nm_eq, nm_eq, e3, n_cl (by omega)]
    refine p_overL hU hU2 hn hn2 n (x + 1) F _ (by omega) (by omega) (fun i hi => ?_)
    by_cases ei : i = x
    · rw [ei, pk_us]
    · rw [pk_un ei]
      exact he i (by omega)
theorem p_over {lim col nn nn2 n : Nat} {r : Int32} {f f2 : Nat → Int32} (hl : n ≤ lim) (hn : lim * col ≤ nn) (hn2 : lim * col ≤ nn2) (hb : nn < 4000) (hb2 : nn2 < 4000) (hlim : lim < 4000) : ∃ f' : Nat → Int32, f_X3_takeOver (nI lim) (nI col) nn nn2 r f (nI n) f2 = some (nI n, f') ∧ eqon (n * col) f' f2 := by
  have hU : n * col ≤ lim * col := Nat.mul_le_mul_right _ hl
  obtain ⟨f', e1, e2⟩ := p_overL (U := n * col) (nn := nn) (nn2 := nn2) (f2 := f2) (by omega) (by omega) (by omega) (by omega) (n * col) 0 FU f (by omega) (by unfold FU; omega) (fun i hi => absurd hi (by omega))
  have e1 : f_X3_takeOver_L38 (nI (n * col)) nn nn2 f2 FU (0 : Int32) f = some f' := e1
  refine ⟨f', ?_, e2⟩
  unfold f_X3_takeOver
  by_cases h : nI lim ≤ nI n
  · have : lim ≤ n := (n_le (by omega) (by omega)).mp h
    have : lim = n := by omega
    subst this
    rw [if_pos h, nm_eq, n_mul, e1, bd_some]
  · rw [if_neg h, nm_eq, n_mul, e1, bd_some]
theorem RT.over {col : Nat} {r : Int32} {f f' : Nat → Int32} {L : List rw_} (h : RT col r f L) (he : eqon (L.length * col) f' f) : RT col (nI L.length) f' L := ⟨rfl, fun k j hk hj => by rw [he _ (n_idx hk hj (Nat.le_refl _))]; exact h.2 k j hk hj⟩
/-- the states -/
def okPs (P : List rw_) : Prop := ∀ p : Nat, p < 10 → okN 101 (P.getD p z_ 0) ∧ okN 101 (P.getD p z_ 1)
def OS (P T G Lg : List rw_) : Prop := P.length = 10 ∧ okPs P ∧ QG T G ∧ Lg.length ≤ 12
def CS (rP : Int32) (fP : Nat → Int32) (rT : Int32) (fT : Nat → Int32) (rG : Int32) (fG : Nat → Int32) (rL : Int32) (fL : Nat → Int32) (rH : Int32) (fH : Nat → Int32) (P T G Lg : List rw_) : Prop := RT 2 rP fP P ∧ QC rT fT rG fG rH fH T G (hd T G) ∧ RT 3 rL fL Lg
/-- a house is taken over -/
theorem c_over {rP rT rG rL rH rP2 rT2 rG2 rL2 rH2 gi di re ti gi2 di2 re2 ti2 : Int32} {fP fT fG fL fH fP2 fT2 fG2 fL2 fH2 : Nat → Int32} {P T G Lg : List rw_} (o : OS P T G Lg) (c : CS rP2 fP2 rT2 fT2 rG2 fG2 rL2 fL2 rH2 fH2 P T G Lg) : ∃ aP aT aG aL aH : Nat → Int32, f_X2_takeOver rP fP rT fT rG fG rL fL rH fH gi di re ti rP2 fP2 rT2 fT2 rG2 fG2 rL2 fL2 rH2 fH2 gi2 di2 re2 ti2 = some (nI P.length, aP, nI T.length, aT, nI G.length, aG, nI Lg.length, aL, nI T.length, aH, gi2, di2, re2, ti2) ∧ CS (nI P.length) aP (nI T.length) aT (nI G.length) aG (nI Lg.length) aL (nI T.length) aH P T G Lg := by
  obtain ⟨aP, p1, p2⟩ := p_over (lim := 10) (col := 2) (nn := 20) (nn2 := 20) (n := P.length) (r := rP) (f := fP) (f2 := fP2) (by have := o.1; omega) (by omega) (by omega) (by omega) (by omega) (by omega)
  obtain ⟨aT, t1, t2⟩ := p_over (lim := 8) (col := 2) (nn := 16) (nn2 := 16) (n := T.length) (r := rT) (f := fT) (f2 := fT2) o.2.2.1.2.1 (by omega) (by omega) (by omega) (by omega) (by omega)
  obtain ⟨aG, g1, g2⟩ := p_over (lim := 40) (col := 6) (nn := 240) (nn2 := 240) (n := G.length) (r := rG) (f := fG) (f2 := fG2) o.2.2.1.1 (by omega) (by omega) (by omega) (by omega) (by omega)
  obtain ⟨aL, l1, l2⟩ := p_over (lim := 12) (col := 3) (nn := 36) (nn2 := 36) (n := Lg.length) (r := rL) (f := fL) (f2 := fL2) o.2.2.2 (by omega) (by omega) (by omega) (by omega) (by omega)
  obtain ⟨aH, h1, h2⟩ := p_over (lim := 8) (col := 10) (nn := 80) (nn2 := 80) (n := T.length) (r := rH) (f := fH) (f2 := fH2) o.2.2.1.2.1 (by omega) (by omega) (by omega) (by omega) (by omega)
  have p1 : f_X3_takeOver (10 : Int32) (2 : Int32) 20 20 rP fP (nI P.length) fP2 = some (nI P.length, aP) := p1
  have t1 : f_X3_takeOver (8 : Int32) (2 : Int32) 16 16 rT fT (nI T.length) fT2 = some (nI T.length, aT) := t1
  have g1 : f_X3_takeOver (40 : Int32) (6 : Int32) 240 240 rG fG (nI G.length) fG2 = some (nI G.length, aG) := g1
  have l1 : f_X3_takeOver (12 : Int32) (3 : Int32) 36 36 rL fL (nI Lg.length) fL2 = some (nI Lg.length, aL) := l1
  have h1 : f_X3_takeOver (8 : Int32) (10 : Int32) 80 80 rH fH (nI T.length) fH2 = some (nI T.length, aH) := h1
  refine ⟨aP, aT, aG, aL, aH, ?_, c.1.over p2, ⟨c.2.1.1.over g2, c.2.1.2.1.over t2, rfl, fun i hi => ?_⟩, c.2.2.over l2⟩
  · unfold f_X2_takeOver
    rw [c.1.1, c.2.1.2.1.1, c.2.1.1.1, c.2.2.1, c.2.1.2.2.1, p1, bd2_some, t1, bd2_some, g1, bd2_some, l1, bd2_some, h1, bd2_some]
  · rw [h2 i (by omega)]
    exact c.2.1.2.2.2 i hi
def g2 (a b : Int32) : rw_ := fun j => if j = 0 then a else b
def g3 (a b c : Int32) : rw_ := fun j => if j = 0 then a else if j = 1 then b else c
def g6 (a b c d e f : Int32) : rw_ := fun j => if j = 0 then a else if j = 1 then b else if j = 2 then c else if j = 3 then d else if j = 4 then e else f
theorem CS.settle {rP rT rG rL rH : Int32} {fP fT fG fL fH : Nat → Int32} {P T G Lg : List rw_} (hP : RT 2 rP fP P) (hT : RT 2 rT fT T) (hG : RT 6 rG fG G) (hL : RT 3 rL fL Lg) (hH : rH = nI T.length) (q : QG T G) : ∃ fH' : Nat → Int32, f_X2_settle rT fT rG fG rH fH = some fH' ∧ CS rP fP rT fT rG fG rL fL rH fH' P T G Lg := by
  obtain ⟨h', e1, e2⟩ := h_settle (fH := fH) hG hT q.1 q.2.1 q.2.2.1 q.2.2.2
  refine ⟨h', by rw [hH]; exact e1, hP, ⟨hG, hT, hH, e2⟩, hL⟩
theorem okG.mono {n m : Nat} {g : rw_} (h : okG n g) (hm : n ≤ m) : okG m g := ⟨h.1, h.2.1, ⟨h.2.2.1.1, Nat.lt_of_lt_of_le h.2.2.1.2 hm⟩, h.2.2.2⟩
theorem QG.addT {T G : List rw_} {x y : Int32} (q : QG T G) (hl : T.length < 8) (hx : okN 10 x) (hy : okN 8 y) : QG (T ++ [g2 x y]) G := by
  have hlen : (T ++ [g2 x y]).length = T.length + 1 := by rw [List.length_append]; rfl
  refine ⟨q.1, by rw [hlen]; omega, fun k hk => (q.2.2.1 k hk).mono (by rw [hlen]; omega), fun t ht => ?_⟩
  rw [hlen] at ht
  by_cases e : t = T.length
  · rw [e, gd_mid]
    exact ⟨hx, hy⟩
  · rw [gd_app (by omega)]
    exact q.2.2.2 t (by omega)
theorem QG.setT {T G : List rw_} {t j : Nat} {v : Int32} (q : QG T G) (ht : t < T.length) (h : okT (upd (T.getD t z_) j v)) : QG (T.set t (upd (T.getD t z_) j v)) G := by
  refine ⟨q.1, by rw [List.length_set]; exact q.2.1, fun k hk => by rw [List.length_set]; exact q.2.2.1 k hk, fun i hi => ?_⟩
  rw [List.length_set] at hi
  by_cases e : i = t
  · rw [e, gd_set ht]
    exact h
  · rw [gd_setn e]
    exact q.2.2.2 i hi
theorem QG.addG {T G : List rw_} {g : rw_} (q : QG T G) (hl : G.length < 40) (h : okG T.length g) : QG T (G ++ [g]) := by
  have hlen : (G ++ [g]).length = G.length + 1 := by rw [List.length_append]; rfl
  refine ⟨by rw [hlen]; omega, q.2.1, fun k hk => ?_, q.2.2.2⟩
  rw [hlen] at hk
  by_cases e : k = G.length
  · rw [e, gd_mid]
    exact h
  · rw [gd_app (by omega)]
    exact q.2.2.1 k (by omega)
theorem QG.erG {T G : List rw_} {R : Nat} (q : QG T G) (hR : R < G.length) : QG T (G.eraseIdx R) := by
  have hlen := len_er hR
  refine ⟨by rw [hlen]; have := q.1; omega, q.2.1, fun k hk => ?_, q.2.2.2⟩
  rw [hlen] at hk
  rw [gd_er]
  split
  · exact q.2.2.1 k (by omega)
  · exact q.2.2.1 (k + 1) (by omega)
theorem putT {n j : Nat} {f : Nat → Int32} {v : Int32} (hn : n < 8) (hj : j < 2) : f_X3_put (2 : Int32) 16 (nI n) (nI j) v (nI (n + 1)) f = some (upd f (n * 2 + j) v) := by
  have e := p_put (col := 2) (n := 16) (R := n) (C := j) (rows := n + 1) (f := f) (v := v) (by omega) hj (by omega) (by omega) (by omega) (by omega)
  exact e
theorem putG {n j : Nat} {f : Nat → Int32} {v : Int32} (hn : n < 40) (hj : j < 6) : f_X3_put (6 : Int32) 240 (nI n) (nI j) v (nI (n + 1)) f = some (upd f (n * 6 + j) v) := by
  have e := p_put (col := 6) (n := 240) (R := n) (C := j) (rows := n + 1) (f := f) (v := v) (by omega) hj (by omega) (by omega) (by omega) (by omega)
  exact e
theorem putL {n j : Nat} {f : Nat → Int32} {v : Int32} (hn : n < 12) (hj : j < 3) : f_X3_put (3 : Int32) 36 (nI n) (nI j) v (nI (n + 1)) f = some (upd f (n * 3 + j) v) := by
  have e := p_put (col := 3) (n := 36) (R := n) (C := j) (rows := n + 1) (f := f) (v := v) (by omega) hj (by omega) (by omega) (by omega) (by omega)
  exact e
theorem c_takeIn {rP rT rG rL rH x y : Int32} {fP fT fG fL fH : Nat → Int32} {P T G Lg : List rw_} (o : OS P T G Lg) (c : CS rP fP rT fT rG fG rL fL rH fH P T G Lg) (hl : T.length < 8) (hx : okN 10 x) (hy : okN 8 y) : ∃ aT aH : Nat → Int32, f_X2_takeIn x y rT fT rG fG rH fH = some (nI T.length, nI (T.length + 1), aT, nI (T.length + 1), aH) ∧ CS rP fP (nI (T.length + 1)) aT rG fG rL fL (nI (T.length + 1)) aH P (T ++ [g2 x y]) G Lg := by
  have e1 : f_X3_addRow (8 : Int32) rT = some (nI T.length, nI (T.length + 1)) := by
    rw [c.2.1.2.1.1]
    have e := p_add (lim := 8) hl (by omega)
    exact e
  have e2 : f_X3_addRow (8 : Int32) rH = some (nI T.length, nI (T.length + 1)) := by
    rw [c.2.1.2.2.1]
    have e := p_add (lim := 8) hl (by omega)
    exact e
  have e3 := putT (f := fT) (v := x) hl (show 0 < 2 by omega)
  have e3 : f_X3_put (2 : Int32) 16 (nI T.length) (0 : Int32) x (nI (T.length + 1)) fT = some (upd fT (T.length * 2 + 0) x) := e3
  have e4 := putT (f := upd fT (T.length * 2 + 0) x) (v := y) hl (show 1 < 2 by omega)
  have e4 : f_X3_put (2 : Int32) 16 (nI T.length) (1 : Int32) y (nI (T.length + 1)) (upd fT (T.length * 2 + 0) x) = some (upd (upd fT (T.length * 2 + 0) x) (T.length * 2 + 1) y) := e4
  have hT0 : RT 2 (nI T.length) fT T := by rw [← c.2.1.2.1.1]; exact c.2.1.2.1
  have hT : RT 2 (nI (T.length + 1)) (upd (upd fT (T.length * 2 + 0) x) (T.length * 2 + 1) y) (T ++ [g2 x y]) := by
    refine hT0.snoc (fun i hi => by rw [pk_un (by omega), pk_un (by omega)]) (fun j hj => ?_)
    have hj : j = 0 ∨ j = 1 := by omega
    rcases hj with e | e
    · rw [e, pk_un (by omega), pk_us]
      rfl
    · rw [e, pk_us]
      rfl
  have hlen : (T ++ [g2 x y]).length = T.length + 1 := by rw [List.length_append]; rfl
  obtain ⟨aH, s1, s2⟩ := CS.settle (fH := fH) (rH := nI (T.length + 1)) c.1 hT c.2.1.1 c.2.2 (by rw [hlen]) (o.2.2.1.addT hl hx hy)
  refine ⟨_, aH, ?_, s2⟩
  unfold f_X2_takeIn
  rw [e1, bd2_some, e3, bd_some, e4, bd_some, e2, bd2_some, s1, bd_some]
theorem c_change {rP rT rG rL rH v : Int32} {fP fT fG fL fH : Nat → Int32} {P T G Lg : List rw_} {t j : Nat} (o : OS P T G Lg) (c : CS rP fP rT fT rG fG rL fL rH fH P T G Lg) (ht : t < T.length) (hj : j < 2) (hv : okT (upd (T.getD t z_) j v)) : ∃ aT aH : Nat → Int32, f_X2_changeThing (nI t) (nI j) v rT fT rG fG rH fH = some (T.getD t z_ j, aT, aH) ∧ CS rP fP rT aT rG fG rL fL rH aH P (T.set t (upd (T.getD t z_) j v)) G Lg := by
  have q := o.2.2.1
  have e1 := c.2.1.2.1.t ht q.2.1 hj
  have e2 := c.2.1.2.1.put (lim := 8) (n := 16) (v := v) ht hj q.2.1 (by omega) (by omega) (by omega) (by omega)
  have e3 : f_X3_put (2 : Int32) 16 (nI t) (nI j) v rT fT = some (upd fT (t * 2 + j) v) := e2.1
  obtain ⟨aH, s1, s2⟩ := CS.settle (fH := fH) (rH := rH) c.1 e2.2 c.2.1.1 c.2.2 (by rw [List.length_set]; exact c.2.1.2.2.1) (q.setT ht hv)
  refine ⟨_, aH, ?_, s2⟩
  unfold f_X2_changeThing
  rw [e1, bd_some, e3, bd_some, s1, bd_some]
theorem c_lendG {rP rT rG rL rH gi x1 x2 x3 x4 x5 : Int32} {fP fT fG fL fH : Nat → Int32} {P T G Lg : List rw_} (o : OS P T G Lg) (c : CS rP fP rT fT rG fG rL fL rH fH P T G Lg) (hl : G.length < 40) (hg : okG T.length (g6 x1 x2 x3 x4 x5 gi)) : ∃ aG aH : Nat → Int32, f_X2_lend x1 x2 x3 x4 x5 rT fT rG fG rH fH gi = some (gi, nI (G.length + 1), aG, aH, gi + 1) ∧ CS rP fP rT fT (nI (G.length + 1)) aG rL fL rH aH P T (G ++ [g6 x1 x2 x3 x4 x5 gi]) Lg := by
  have q := o.2.2.1
  have e1 : f_X3_addRow (40 : Int32) rG = some (nI G.length, nI (G.length + 1)) := by
    rw [c.2.1.1.1]
    have e := p_add (lim := 40) hl (by omega)
    exact e
  have p0 : ∀ (f : Nat → Int32) (v : Int32), f_X3_put (6 : Int32) 240 (nI G.length) (0 : Int32) v (nI (G.length + 1)) f = some (upd f (G.length * 6 + 0) v) := fun f v => by
    have e := putG (f := f) (v := v) hl (show 0 < 6 by omega)
    exact e
  have p1 : ∀ (f : Nat → Int32) (v : Int32), f_X3_put (6 : Int32) 240 (nI G.length) (1 : Int32) v (nI (G.length + 1)) f = some (upd f (G.length * 6 + 1) v) := fun f v => by
    have e := putG (f := f) (v := v) hl (show 1 < 6 by omega)
    exact e
  have p2 : ∀ (f : Nat → Int32) (v : Int32), f_X3_put (6 : Int32) 240 (nI G.length) (2 : Int32) v (nI (G.length + 1)) f = some (upd f (G.length * 6 + 2) v) := fun f v => by
    have e := putG (f := f) (v := v) hl (show 2 < 6 by omega)
    exact e
  have p3 : ∀ (f : Nat → Int32) (v : Int32), f_X3_put (6 : Int32) 240 (nI G.length) (3 : Int32) v (nI (G.length + 1)) f = some (upd f (G.length * 6 + 3) v) := fun f v => by
    have e := putG (f := f) (v := v) hl (show 3 < 6 by omega)
    exact e
  have p4 : ∀ (f : Nat → Int32) (v : Int32), f_X3_put (6 : Int32) 240 (nI G.length) (4 : Int32) v (nI (G.length + 1)) f = some (upd f (G.length * 6 + 4) v) := fun f v => by
    have e := putG (f := f) (v := v) hl (show 4 < 6 by omega)
    exact e
  have p5 : ∀ (f : Nat → Int32) (v : Int32), f_X3_put (6 : Int32) 240 (nI G.length) (5 : Int32) v (nI (G.length + 1)) f = some (upd f (G.length * 6 + 5) v) := fun f v => by
    have e := putG (f := f) (v := v) hl (show 5 < 6 by omega)
    exact e
  have hG0 : RT 6 (nI G.length) fG G := by rw [← c.2.1.1.1]; exact c.2.1.1
  have hG : RT 6 (nI (G.length + 1)) (upd (upd (upd (upd (upd (upd fG (G.length * 6 + 0) x1) (G.length * 6 + 1) x2) (G.length * 6 + 2) x3) (G.length * 6 + 3) x4) (G.length * 6 + 4) x5) (G.length * 6 + 5) gi) (G ++ [g6 x1 x2 x3 x4 x5 gi]) := by
    refine hG0.snoc (fun i hi => by rw [pk_un (by omega), pk_un (by omega), pk_un (by omega), pk_un (by omega), pk_un (by omega), pk_un (by omega)]) (fun j hj => ?_)
    have hj : j = 0 ∨ j = 1 ∨ j = 2 ∨ j = 3 ∨ j = 4 ∨ j = 5 := by omega
    rcases hj with e | e | e | e | e | e
    · rw [e, pk_un (by omega), pk_un (by omega), pk_un (by omega), pk_un (by omega), pk_un (by omega), pk_us]
      rfl
    · rw [e, pk_un (by omega), pk_un (by omega), pk_un (by omega), pk_un (by omega), pk_us]
      rfl
    · rw [e, pk_un (by omega), pk_un (by omega), pk_un (by omega), pk_us]
      rfl
    · rw [e, pk_un (by omega), pk_un (by omega), pk_us]
      rfl
    · rw [e, pk_un (by omega), pk_us]
      rfl
    · rw [e, pk_us]
      rfl
  obtain ⟨aH, s1, s2⟩ := CS.settle (fH := fH) (rH := rH) c.1 c.2.1.2.1 hG c.2.2 c.2.1.2.2.1 (q.addG hl hg)
  refine ⟨_, aH, ?_, s2⟩
  unfold f_X2_lend
  rw [e1, bd2_some, p0, bd_some, p1, bd_some, p2, bd_some, p3, bd_some, p4, bd_some, p5, bd_some, nm_eq, s1, bd_some]
def psh (Lg : List rw_) (r : rw_) : List rw_ := (if Lg.length < 12 then Lg else Lg.eraseIdx 0) ++ [r]
def dyb (P : List rw_) (g : rw_) : Bool := decide (P.getD (cN (g 0)) z_ 0 < g 4)
def kept (P S : List rw_) : List rw_ := S.filter (fun g => !dyb P g)
def bur (P : List rw_) (ti : Int32) : List rw_ → List rw_ → List rw_
  | [], Lg => Lg
  | g :: S, Lg => bur P ti S (if dyb P g = true then psh Lg (g3 (g 5) ti (g 0)) else Lg)
def ndy (P : List rw_) : List rw_ → Nat
  | [] => 0
  | g :: S => (if dyb P g = true then 1 else 0) + ndy P S
theorem psh_len {Lg : List rw_} {r : rw_} (h : Lg.length ≤ 12) : (psh Lg r).length ≤ 12 := by
  unfold psh
  rw [List.length_append]
  split
  · show Lg.length + 1 ≤ 12
    omega
  · rw [len_er (by omega)]
    show Lg.length - 1 + 1 ≤ 12
    omega
theorem bur_len {P : List rw_} {ti : Int32} : ∀ (S Lg : List rw_), Lg.length ≤ 12 → (bur P ti S Lg).length ≤ 12
  | [], _, h => h
  | g :: S, Lg, h => by
    unfold bur
    refine bur_len S _ ?_
    split
    · exact psh_len h
    · exact h
theorem kept_cons {P S : List rw_} {g : rw_} : kept P (g :: S) = if dyb P g = true then kept P S else g :: kept P S := by
  unfold kept
  rw [List.filter_cons]
  cases dyb P g <;> rfl
theorem kept_app {P S S' : List rw_} : kept P (S ++ S') = kept P S ++ kept P S' := List.filter_append _ _
theorem kept_len {P : List rw_} : ∀ S : List rw_, (kept P S).length + ndy P S = S.length
  | [] => rfl
  | g :: S => by
    have ih := kept_len (P := P) S
    rw [kept_cons]
    unfold ndy
    by_cases h : dyb P g = true
    · rw [if_pos h, if_pos h, List.length_cons]
      omega
    · rw [if_neg h, if_neg h, List.length_cons, List.length_cons]
      omega
theorem kept_id {P : List rw_} : ∀ S : List rw_, ndy P S = 0 → kept P S = S
  | [], _ => rfl
  | g :: S, h => by
    unfold ndy at h
    by_cases hd : dyb P g = true
    · rw [if_pos hd] at h
      omega
    · rw [if_neg hd] at h
      rw [kept_cons, if_neg hd, kept_id S (by omega)]
theorem mem_gd {S : List rw_} {k : Nat} (h : k < S.length) : S.getD k z_ ∈ S := by
  rw [List.getD_eq_getElem?_getD, List.getElem?_eq_getElem h]
  exact List.getElem_mem h
theorem gd_mem {S : List rw_} {g : rw_} (h : g ∈ S) : ∃ k : Nat, k < S.length ∧ S.getD k z_ = g := by
  obtain ⟨k, hk, e⟩ := List.getElem_of_mem h
  refine ⟨k, hk, ?_⟩
  rw [List.getD_eq_getElem?_getD, List.getElem?_eq_getElem hk]
  exact e
theorem QG.kept {T G : List rw_} (P : List rw_) (q : QG T G) : QG T (kept P G) := by
  have hl := kept_len (P := P) G
  refine ⟨by have := q.1; omega, q.2.1, fun k hk => ?_, q.2.2.2⟩
  have hm := mem_gd hk
  have hm := (List.mem_filter.mp hm).1
  obtain ⟨i, hi, e⟩ := gd_mem hm
  rw [← e]
  exact q.2.2.1 i hi
theorem c_moodN {rP : Int32} {fP : Nat → Int32} {P : List rw_} {x : Int32} (hP : RT 2 rP fP P) (hl : P.length = 10) (o : okN 10 x) : f_X3_at (2 : Int32) 20 x (0 : Int32) rP fP = some (P.getD (cN x) z_ 0) := by
  conv => lhs; rw [o.1]
  exact hP.m hl o.2
theorem c_dying {rP rG : Int32} {fP fG : Nat → Int32} {P G : List rw_} {k nT : Nat} (hP : RT 2 rP fP P) (hPl : P.length = 10) (hG : RT 6 rG fG G) (hl : G.length ≤ 40) (hk : k < G.length) (o : okG nT (G.getD k z_)) : f_X2_isDying (nI k) rP fP rG fG = some (if dyb P (G.getD k z_) = true then 1 else 0) := by
  unfold f_X2_isDying dyb
  rw [hG.gl hk hl, bd_some, c_moodN hP hPl o.1, bd_some, hG.gh hk hl, bd_some]
  by_cases h : G.getD k z_ 4 ≤ P.getD (cN (G.getD k z_ 0)) z_ 0
  · rw [if_pos h, decide_eq_false (Int32.not_lt.mpr h), if_neg (by decide)]
  · rw [if_neg h, decide_eq_true (Int32.not_le.mp h), if_pos rfl]
theorem c_push {fL : Nat → Int32} {L : List rw_} {a b d : Int32} (h : RT 3 (nI L.length) fL L) (hl : L.length < 12) : RT 3 (nI (L.length + 1)) (upd (upd (upd fL (L.length * 3 + 0) a) (L.length * 3 + 1) b) (L.length * 3 + 2) d) (L ++ [g3 a b d]) := by
  refine h.snoc (fun i hi => by rw [pk_un (by omega), pk_un (by omega), pk_un (by omega)]) (fun j hj => ?_)
  have hj : j = 0 ∨ j = 1 ∨ j = 2 := by omega
  rcases hj with e | e | e
  · rw [e, pk_un (by omega), pk_un (by omega), pk_us]
    rfl
  · rw [e, pk_un (by omega), pk_us]
    rfl
  · rw [e, pk_us]
    rfl
theorem c_enter {rG rL ti : Int32} {fG fL : Nat → Int32} {G Lg : List rw_} {k : Nat} (hG : RT 6 rG fG G) (hl : G.length ≤ 40) (hk : k < G.length) (hL : RT 3 rL fL Lg) (hLl : Lg.length ≤ 12) : ∃ aL : Nat → Int32, f_X2_enter (nI k) rG fG rL fL ti = some (nI (psh Lg (g3 (G.getD k z_ 5) ti (G.getD k z_ 0))).length, aL) ∧ RT 3 (nI (psh Lg (g3 (G.getD k z_ 5) ti (G.getD k z_ 0))).length) aL (psh Lg (g3 (G.getD k z_ 5) ti (G.getD k z_ 0))) := by
  have pp : ∀ (n : Nat) (f : Nat → Int32), n < 12 → (∀ v : Int32, f_X3_put (3 : Int32) 36 (nI n) (0 : Int32) v (nI (n + 1)) f = some (upd f (n * 3 + 0) v)) ∧ (∀ v : Int32, f_X3_put (3 : Int32) 36 (nI n) (1 : Int32) v (nI (n + 1)) f = some (upd f (n * 3 + 1) v)) ∧ (∀ v : Int32, f_X3_put (3 : Int32) 36 (nI n) (2 : Int32) v (nI (n + 1)) f = some (upd f (n * 3 + 2) v)) := by
    intro n f hn
    refine ⟨fun v => ?_, fun v => ?_, fun v => ?_⟩
    · have e := putL (f := f) (v := v) hn (show 0 < 3 by omega)
      exact e
    · have e := putL (f := f) (v := v) hn (show 1 < 3 by omega)
      exact e
    · have e := putL (f := f) (v := v) hn (show 2 < 3 by omega)
      exact e
  have ad : ∀ n : Nat, n < 12 → f_X3_addRow (12 : Int32) (nI n) = some (nI n, nI (n + 1)) := fun n hn => by
    have e := p_add (lim := 12) hn (by omega)
    exact e
  unfold f_X2_enter f_X3_isFull psh
  rw [hG.gn hk hl, hG.gl hk hl, hL.1]
  by_cases h : Lg.length < 12
  · rw [if_pos h, if_pos (show nI Lg.length < (12 : Int32) from q_lt (b := 12) (by omega) (by omega) h), bd_some, if_pos rfl, ad _ h, bd2_some, bd_some, (pp _ fL h).1, bd_some, (pp _ _ h).2.1, bd_some, bd_some, (pp _ _ h).2.2, bd_some, List.length_append]
    refine ⟨_, rfl, ?_⟩
    have hL0 : RT 3 (nI Lg.length) fL Lg := by rw [← hL.1]; exact hL
    exact c_push hL0 h
  · obtain ⟨f', d1, d2⟩ := hL.drop (R := 0) (lim := 12) (nn := 36) (by omega) (by omega) hLl (by omega) (by omega)
    rw [hL.1] at d1
    have d1 : f_X3_drop (3 : Int32) 36 (0 : Int32) (nI Lg.length) fL = some (nI (Lg.length - 1), f') := d1
    have hlen : (Lg.eraseIdx 0).length = Lg.length - 1 := len_er (by omega)
    have h2 : Lg.length - 1 < 12 := by omega
    rw [if_neg h, if_neg (show ¬ nI Lg.length < (12 : Int32) from q_nlt (b := 12) (by omega) (by omega) (by omega)), bd_some, if_neg (show ¬ (1 : Int32) = 0 by decide), d1, bd2_some, ad _ h2, bd2_some, bd_some, (pp _ f' h2).1, bd_some, (pp _ _ h2).2.1, bd_some, bd_some, (pp _ _ h2).2.2, bd_some, List.length_append, hlen]
    refine ⟨_, rfl, ?_⟩
    rw [← hlen] at d2 h2 ⊢
    exact c_push d2 h2
theorem split_at {G pre S : List rw_} {g : rw_} (h : G = pre ++ g :: S) : pre.length < G.length ∧ G.getD pre.length z_ = g := by
  rw [h]
  exact ⟨by rw [List.length_append, List.length_cons]; omega, gd_mid⟩
theorem c_buryL {rP rG ti : Int32} {fP fG : Nat → Int32} {P T G : List rw_} (hP : RT 2 rP fP P) (hPl : P.length = 10) (hG : RT 6 rG fG G) (q : QG T G) : ∀ (S pre : List rw_) (d F : Nat) (rL : Int32) (fL : Nat → Int32) (Lg : List rw_), G = pre ++ S → RT 3 rL fL Lg → Lg.length ≤ 12 → S.length < F → ∃ aL : Nat → Int32, f_X2_buryDying_L4 rP fP rG fG ti F (nI d) (nI pre.length) rL fL = some (nI (d + ndy P S), nI (bur P ti S Lg).length, aL) ∧ RT 3 (nI (bur P ti S Lg).length) aL (bur P ti S Lg)
  | _, _, _, 0, _, _, _, _, _, _, hF => absurd hF (by omega)
  | [], pre, d, F + 1, rL, fL, Lg, h, hL, hLl, hF => by
    have hp : G = pre := by rw [h, List.append_nil]
    have := q.1
    refine ⟨fL, ?_, ?_⟩
    · unfold f_X2_buryDying_L4
      rw [hG.rows, bd_some, hp, if_pos (q_le (by rw [← hp]; omega) (by rw [← hp]; omega) (Nat.le_refl _)), hL.1]
      rfl
    · show RT 3 (nI Lg.length) fL Lg
      rw [← hL.1]
      exact hL
  | g :: S, pre, d, F + 1, rL, fL, Lg, h, hL, hLl, hF => by
    have hs := split_at h
    have := q.1
    have hF : S.length + 1 < F + 1 := hF
    have ek : nI pre.length + (1 : Int32) = nI (pre ++ [g]).length := by rw [List.length_append]; exact n_at
    have h' : G = (pre ++ [g]) ++ S := by rw [h, List.append_assoc]; rfl
    have hy := c_dying hP hPl hG q.1 hs.1 (q.2.2.1 _ hs.1)
    obtain ⟨aL, e1, e2⟩ := c_enter (ti := ti) hG q.1 hs.1 hL hLl
    rw [hs.2] at hy e1 e2
    unfold f_X2_buryDying_L4 bur ndy
    rw [hG.rows, bd_some, if_neg (q_nle (by omega) (by omega) hs.1), hy, bd_some, e1, bd2_some, nm_eq, nm_eq, nm_eq, ek]
    by_cases hd : dyb P g = true
    · rw [if_pos hd, if_pos hd, if_pos hd, if_neg (show ¬ (1 : Int32) = 0 by decide), nI_1 d, ← Nat.add_assoc]
      exact c_buryL hP hPl hG q S (pre ++ [g]) (d + 1) F _ aL _ h' e2 (psh_len hLl) (by omega)
    · rw [if_neg hd, if_neg hd, if_neg hd, if_pos rfl, Nat.zero_add]
      exact c_buryL hP hPl hG q S (pre ++ [g]) d F rL fL Lg h' hL hLl (by omega)
theorem sub1 (a : Int32) : a - (1 : Int32) = a + (-1 : Int32) := Int32.sub_eq_add_neg a 1
theorem c_dropL {rP : Int32} {fP : Nat → Int32} {P T : List rw_} {d : Nat} (hP : RT 2 rP fP P) (hPl : P.length = 10) (hd : 0 < d) (hd2 : d < 1000) : ∀ (rp R : List rw_) (F : Nat) (rG : Int32) (fG : Nat → Int32), RT 6 rG fG (rp.reverse ++ R) → QG T (rp.reverse ++ R) → rp.length < F → ∃ aG : Nat → Int32, f_X2_buryDying_L47 (nI d) rP fP F (nI rp.length + (-1 : Int32)) rG fG = some (nI (kept P rp.reverse ++ R).length, aG) ∧ RT 6 (nI (kept P rp.reverse ++ R).length) aG (kept P rp.reverse ++ R)
  | _, _, 0, _, _, _, _, hF => absurd hF (by omega)
  | [], R, F + 1, rG, fG, hG, q, hF => by
    refine ⟨fG, ?_, ?_⟩
    · unfold f_X2_buryDying_L47
      rw [if_pos (show nI ([] : List rw_).length + (-1 : Int32) < 0 by decide), hG.1]
      rfl
    · show RT 6 (nI R.length) fG R
      have e : rG = nI R.length := hG.1
      rw [← e]
      exact hG
  | g :: rp, R, F + 1, rG, fG, hG, q, hF => by
    have hF : rp.length + 1 < F + 1 := hF
    have er : (g :: rp).reverse = rp.reverse ++ [g] := List.reverse_cons
    have ea : (g :: rp).reverse ++ R = rp.reverse ++ g :: R := by rw [er, List.append_assoc]; rfl
    rw [ea] at hG q
    have hrl : rp.reverse.length = rp.length := List.length_reverse
    have hs := split_at (G := rp.reverse ++ g :: R) rfl
    rw [hrl] at hs
    have hl := q.1
    have en : nI (g :: rp).length + (-1 : Int32) = nI rp.length := pk_m1 rp.length
    have hy := c_dying hP hPl hG hl hs.1 (q.2.2.1 _ hs.1)
    rw [hs.2] at hy
    have c1 : ¬ nI rp.length < (0 : Int32) := nI_pos (by omega)
    have c2 : ¬ nI d ≤ (0 : Int32) := q_nle (b := 0) (by omega) (by omega) hd
    have ek : kept P (g :: rp).reverse ++ R = kept P rp.reverse ++ (if dyb P g = true then R else g :: R) := by
      rw [er, kept_app, kept_cons]
      by_cases hdy : dyb P g = true
      · rw [if_pos hdy, if_pos hdy, List.append_assoc]
        rfl
      · rw [if_neg hdy, if_neg hdy, List.append_assoc]
        rfl
    unfold f_X2_buryDying_L47
    rw [en, if_neg c1, if_neg c2, hy, bd_some, ek]
    by_cases hdy : dyb P g = true
    · obtain ⟨a1, d1, d2⟩ := hG.drop (R := rp.length) (lim := 40) (nn := 240) hs.1 (by omega) hl (by omega) (by omega)
      have d1 : f_X3_drop (6 : Int32) 240 (nI rp.length) rG fG = some (nI ((rp.reverse ++ g :: R).length - 1), a1) := d1
      have q2 := q.erG hs.1
      have e2 : (rp.reverse ++ g :: R).eraseIdx rp.length = rp.reverse ++ R := by
        have e := er_mid (L := rp.reverse) (M := R) (g := g)
        rw [hrl] at e
        exact e
      rw [e2] at d2 q2
      rw [if_pos hdy, if_pos hdy, if_neg (show ¬ (1 : Int32) = 0 by decide), d1, bd2_some, nm_eq]
      exact c_dropL hP hPl hd hd2 rp R F _ a1 d2 q2 (by omega)
    · rw [if_neg hdy, if_neg hdy, if_pos rfl, nm_eq]
      exact c_dropL hP hPl hd hd2 rp (g :: R) F rG fG hG q (by omega)
theorem c_bury {rP rT rG rL rH di ti : Int32} {fP fT fG fL fH : Nat → Int32} {P T G Lg : List rw_} (hP : RT 2 rP fP P) (hPl : P.length = 10) (hG : RT 6 rG fG G) (q : QG T G) (hL : RT 3 rL fL Lg) (hLl : Lg.length ≤ 12) : ∃ aG aL : Nat → Int32, f_X2_buryDying rP fP rG fG rL fL di ti = some (nI (ndy P G), nI (kept P G).length, aG, nI (bur P ti G Lg).length, aL, di + nI (ndy P G)) ∧ RT 6 (nI (kept P G).length) aG (kept P G) ∧ RT 3 (nI (bur P ti G Lg).length) aL (bur P ti G Lg) := by
  have hl := q.1
  have hkl := kept_len (P := P) G
  obtain ⟨aL, l1, l2⟩ := c_buryL (ti := ti) hP hPl hG q G [] 0 FU rL fL Lg rfl hL hLl (by unfold FU; omega)
  have l1 : f_X2_buryDying_L4 rP fP rG fG ti FU (0 : Int32) (0 : Int32) rL fL = some (nI (0 + ndy P G), nI (bur P ti G Lg).length, aL) := l1
  rw [Nat.zero_add] at l1
  have bd3_some : ∀ {α β γ δ : Type} {a : α} {b : β} {c : γ} {f : α → β → γ → Option δ}, bd3 (some (a, b, c)) f = f a b c := rfl
  unfold f_X2_buryDying
  rw [l1, bd3_some, hG.rows, bd_some, nm_eq, sub1]
  by_cases h : ndy P G = 0
  · have hk := kept_id G h
    have e : f_X2_buryDying_L47 (nI (ndy P G)) rP fP FU (nI G.length + (-1 : Int32)) rG fG = some (rG, fG) := by
      show f_X2_buryDying_L47 (nI (ndy P G)) rP fP (3999 + 1) (nI G.length + (-1 : Int32)) rG fG = some (rG, fG)
      unfold f_X2_buryDying_L47
      split
      · rfl
      · rw [h, if_pos (show nI 0 ≤ (0 : Int32) by decide)]
    refine ⟨fG, aL, ?_, ?_, l2⟩
    · rw [e, bd2_some, nm_eq, hk, hG.1]
    · rw [hk, ← hG.1]
      exact hG
  · have hr : G.reverse.reverse = G := List.reverse_reverse G
    have h2 : RT 6 rG fG (G.reverse.reverse ++ []) := by rw [hr, List.append_nil]; exact hG
    have h3 : QG T (G.reverse.reverse ++ []) := by rw [hr, List.append_nil]; exact q
    obtain ⟨aG, e1, e2⟩ := c_dropL hP hPl (d := ndy P G) (by omega) (by omega) G.reverse [] FU rG fG h2 h3 (by rw [List.length_reverse]; unfold FU; omega)
    rw [hr, List.append_nil, List.length_reverse] at e1
    rw [hr, List.append_nil] at e2
    refine ⟨aG, aL, ?_, e2, l2⟩
    rw [e1, bd2_some, nm_eq]
theorem OS.er {P T G Lg : List rw_} {R : Nat} (o : OS P T G Lg) (hR : R < G.length) : OS P T (G.eraseIdx R) Lg := ⟨o.1, o.2.1, o.2.2.1.erG hR, o.2.2.2⟩
theorem OS.push {P T G Lg : List rw_} {r : rw_} (o : OS P T G Lg) : OS P T G (psh Lg r) := ⟨o.1, o.2.1, o.2.2.1, psh_len o.2.2.2⟩
theorem bd6_some {α β γ δ ε ζ η : Type} {a : α} {b : β} {c : γ} {d : δ} {e : ε} {z : ζ} {f : α → β → γ → δ → ε → ζ → Option η} : bd6 (some (a, b, c, d, e, z)) f = f a b c d e z := rfl
