/-! ===== PURE: things and grants that come; pairs before and after ===== -/
def g2 (a b : Int32) : rw_ := fun j => if j = 0 then a else b
def g3 (a b c : Int32) : rw_ := fun j => if j = 0 then a else if j = 1 then b else c
def g6 (a b c d e f : Int32) : rw_ := fun j => if j = 0 then a else if j = 1 then b else if j = 2 then c else if j = 3 then d else if j = 4 then e else f
theorem CS.settle {rP rT rG rL rH : Int32} {fP fT fG fL fH : Nat → Int32} {P T G Lg : List rw_} (hP : RT 2 rP fP P) (hT : RT 2 rT fT T) (hG : RT 6 rG fG G) (hL : RT 3 rL fL Lg) (hH : rH = nI T.length) (q : QG T G) : ∃ fH' : Nat → Int32, f_X2_settle rT fT rG fG rH fH = some fH' ∧ CS rP fP rT fT rG fG rL fL rH fH' P T G Lg := by
  obtain ⟨h', e1, e2⟩ := h_settle (fH := fH) hG hT q.1 q.2.1 q.2.2.1 q.2.2.2
  refine ⟨h', by rw [hH]; exact e1, hP, ⟨hG, hT, hH, e2⟩, hL⟩
theorem okG.mono {n m : Nat} {g : rw_} (h : okG n g) (hm : n ≤ m) : okG m g := ⟨h.1, h.2.1, ⟨h.2.2.1.1, Nat.lt_of_lt_of_le h.2.2.1.2 hm⟩, h.2.2.2⟩
theorem QG.addT {T G : List rw_} {x y : Int32} (q : QG T G) (hl : T.length < 8) (hx : okN 10 x) (hy : okN 8 y) : QG (T ++ [g2 x y]) G := by
  have hlen : (T ++ [g2 x y]).length = T.length + 1 := by rw [List.length_append]; rfl
  refine ⟨q.1, by rw [hlen]; omega, fun k hk => (q.2.2.1 k hk).mono (by rw [hlen]; omega), fun t ht => ?_⟩
  rw [hlen] at ht
  by_cases e : t = T.length
  · rw [e, gd_mid]
    exact ⟨hx, hy⟩
  · rw [gd_app (by omega)]
    exact q.2.2.2 t (by omega)
theorem QG.setT {T G : List rw_} {t j : Nat} {v : Int32} (q : QG T G) (ht : t < T.length) (h : okT (upd (T.getD t z_) j v)) : QG (T.set t (upd (T.getD t z_) j v)) G := by
  refine ⟨q.1, by rw [List.length_set]; exact q.2.1, fun k hk => by rw [List.length_set]; exact q.2.2.1 k hk, fun i hi => ?_⟩
  rw [List.length_set] at hi
  by_cases e : i = t
  · rw [e, gd_set ht]
    exact h
  · rw [gd_setn e]
    exact q.2.2.2 i hi
theorem QG.addG {T G : List rw_} {g : rw_} (q : QG T G) (hl : G.length < 40) (h : okG T.length g) : QG T (G ++ [g]) := by
  have hlen : (G ++ [g]).length = G.length + 1 := by rw [List.length_append]; rfl
  refine ⟨by rw [hlen]; omega, q.2.1, fun k hk => ?_, q.2.2.2⟩
  rw [hlen] at hk
  by_cases e : k = G.length
  · rw [e, gd_mid]
    exact h
  · rw [gd_app (by omega)]
    exact q.2.2.1 k (by omega)
theorem QG.erG {T G : List rw_} {R : Nat} (q : QG T G) (hR : R < G.length) : QG T (G.eraseIdx R) := by
  have hlen := len_er hR
  refine ⟨by rw [hlen]; have := q.1; omega, q.2.1, fun k hk => ?_, q.2.2.2⟩
  rw [hlen] at hk
  rw [gd_er]
  split
  · exact q.2.2.1 k (by omega)
  · exact q.2.2.1 (k + 1) (by omega)
theorem putT {n j : Nat} {f : Nat → Int32} {v : Int32} (hn : n < 8) (hj : j < 2) : f_X3_put (2 : Int32) 16 (nI n) (nI j) v (nI (n + 1)) f = some (upd f (n * 2 + j) v) := by
  have e := p_put (col := 2) (n := 16) (R := n) (C := j) (rows := n + 1) (f := f) (v := v) (by omega) hj (by omega) (by omega) (by omega) (by omega)
  exact e
theorem putG {n j : Nat} {f : Nat → Int32} {v : Int32} (hn : n < 40) (hj : j < 6) : f_X3_put (6 : Int32) 240 (nI n) (nI j) v (nI (n + 1)) f = some (upd f (n * 6 + j) v) := by
  have e := p_put (col := 6) (n := 240) (R := n) (C := j) (rows := n + 1) (f := f) (v := v) (by omega) hj (by omega) (by omega) (by omega) (by omega)
  exact e
theorem putL {n j : Nat} {f : Nat → Int32} {v : Int32} (hn : n < 12) (hj : j < 3) : f_X3_put (3 : Int32) 36 (nI n) (nI j) v (nI (n + 1)) f = some (upd f (n * 3 + j) v) := by
  have e := p_put (col := 3) (n := 36) (R := n) (C := j) (rows := n + 1) (f := f) (v := v) (by omega) hj (by omega) (by omega) (by omega) (by omega)
  exact e
theorem c_takeIn {rP rT rG rL rH x y : Int32} {fP fT fG fL fH : Nat → Int32} {P T G Lg : List rw_} (o : OS P T G Lg) (c : CS rP fP rT fT rG fG rL fL rH fH P T G Lg) (hl : T.length < 8) (hx : okN 10 x) (hy : okN 8 y) : ∃ aT aH : Nat → Int32, f_X2_takeIn x y rT fT rG fG rH fH = some (nI T.length, nI (T.length + 1), aT, nI (T.length + 1), aH) ∧ CS rP fP (nI (T.length + 1)) aT rG fG rL fL (nI (T.length + 1)) aH P (T ++ [g2 x y]) G Lg := by
  have e1 : f_X3_addRow (8 : Int32) rT = some (nI T.length, nI (T.length + 1)) := by
    rw [c.2.1.2.1.1]
    have e := p_add (lim := 8) hl (by omega)
    exact e
  have e2 : f_X3_addRow (8 : Int32) rH = some (nI T.length, nI (T.length + 1)) := by
    rw [c.2.1.2.2.1]
    have e := p_add (lim := 8) hl (by omega)
    exact e
  have e3 := putT (f := fT) (v := x) hl (show 0 < 2 by omega)
  have e3 : f_X3_put (2 : Int32) 16 (nI T.length) (0 : Int32) x (nI (T.length + 1)) fT = some (upd fT (T.length * 2 + 0) x) := e3
  have e4 := putT (f := upd fT (T.length * 2 + 0) x) (v := y) hl (show 1 < 2 by omega)
  have e4 : f_X3_put (2 : Int32) 16 (nI T.length) (1 : Int32) y (nI (T.length + 1)) (upd fT (T.length * 2 + 0) x) = some (upd (upd fT (T.length * 2 + 0) x) (T.length * 2 + 1) y) := e4
  have hT0 : RT 2 (nI T.length) fT T := by rw [← c.2.1.2.1.1]; exact c.2.1.2.1
  have hT : RT 2 (nI (T.length + 1)) (upd (upd fT (T.length * 2 + 0) x) (T.length * 2 + 1) y) (T ++ [g2 x y]) := by
    refine hT0.snoc (fun i hi => by rw [pk_un (by omega), pk_un (by omega)]) (fun j hj => ?_)
    have hj : j = 0 ∨ j = 1 := by omega
    rcases hj with e | e
    · rw [e, pk_un (by omega), pk_us]
      rfl
    · rw [e, pk_us]
      rfl
  have hlen : (T ++ [g2 x y]).length = T.length + 1 := by rw [List.length_append]; rfl
  obtain ⟨aH, s1, s2⟩ := CS.settle (fH := fH) (rH := nI (T.length + 1)) c.1 hT c.2.1.1 c.2.2 (by rw [hlen]) (o.2.2.1.addT hl hx hy)
  refine ⟨_, aH, ?_, s2⟩
  unfold f_X2_takeIn
  rw [e1, bd2_some, e3, bd_some, e4, bd_some, e2, bd2_some, s1, bd_some]
theorem c_change {rP rT rG rL rH v : Int32} {fP fT fG fL fH : Nat → Int32} {P T G Lg : List rw_} {t j : Nat} (o : OS P T G Lg) (c : CS rP fP rT fT rG fG rL fL rH fH P T G Lg) (ht : t < T.length) (hj : j < 2) (hv : okT (upd (T.getD t z_) j v)) : ∃ aT aH : Nat → Int32, f_X2_changeThing (nI t) (nI j) v rT fT rG fG rH fH = some (T.getD t z_ j, aT, aH) ∧ CS rP fP rT aT rG fG rL fL rH aH P (T.set t (upd (T.getD t z_) j v)) G Lg := by
  have q := o.2.2.1
  have e1 := c.2.1.2.1.t ht q.2.1 hj
  have e2 := c.2.1.2.1.put (lim := 8) (n := 16) (v := v) ht hj q.2.1 (by omega) (by omega) (by omega) (by omega)
  have e3 : f_X3_put (2 : Int32) 16 (nI t) (nI j) v rT fT = some (upd fT (t * 2 + j) v) := e2.1
  obtain ⟨aH, s1, s2⟩ := CS.settle (fH := fH) (rH := rH) c.1 e2.2 c.2.1.1 c.2.2 (by rw [List.length_set]; exact c.2.1.2.2.1) (q.setT ht hv)
  refine ⟨_, aH, ?_, s2⟩
  unfold f_X2_changeThing
  rw [e1, bd_some, e3, bd_some, s1, bd_some]
theorem c_lendG {rP rT rG rL rH gi x1 x2 x3 x4 x5 : Int32} {fP fT fG fL fH : Nat → Int32} {P T G Lg : List rw_} (o : OS P T G Lg) (c : CS rP fP rT fT rG fG rL fL rH fH P T G Lg) (hl : G.length < 40) (hg : okG T.length (g6 x1 x2 x3 x4 x5 gi)) : ∃ aG aH : Nat → Int32, f_X2_lend x1 x2 x3 x4 x5 rT fT rG fG rH fH gi = some (gi, nI (G.length + 1), aG, aH, gi + 1) ∧ CS rP fP rT fT (nI (G.length + 1)) aG rL fL rH aH P T (G ++ [g6 x1 x2 x3 x4 x5 gi]) Lg := by
  have q := o.2.2.1
  have e1 : f_X3_addRow (40 : Int32) rG = some (nI G.length, nI (G.length + 1)) := by
    rw [c.2.1.1.1]
    have e := p_add (lim := 40) hl (by omega)
    exact e
  have p0 : ∀ (f : Nat → Int32) (v : Int32), f_X3_put (6 : Int32) 240 (nI G.length) (0 : Int32) v (nI (G.length + 1)) f = some (upd f (G.length * 6 + 0) v) := fun f v => by
    have e := putG (f := f) (v := v) hl (show 0 < 6 by omega)
    exact e
  have p1 : ∀ (f : Nat → Int32) (v : Int32), f_X3_put (6 : Int32) 240 (nI G.length) (1 : Int32) v (nI (G.length + 1)) f = some (upd f (G.length * 6 + 1) v) := fun f v => by
    have e := putG (f := f) (v := v) hl (show 1 < 6 by omega)
    exact e
  have p2 : ∀ (f : Nat → Int32) (v : Int32), f_X3_put (6 : Int32) 240 (nI G.length) (2 : Int32) v (nI (G.length + 1)) f = some (upd f (G.length * 6 + 2) v) := fun f v => by
    have e := putG (f := f) (v := v) hl (show 2 < 6 by omega)
    exact e
  have p3 : ∀ (f : Nat → Int32) (v : Int32), f_X3_put (6 : Int32) 240 (nI G.length) (3 : Int32) v (nI (G.length + 1)) f = some (upd f (G.length * 6 + 3) v) := fun f v => by
    have e := putG (f := f) (v := v) hl (show 3 < 6 by omega)
    exact e
  have p4 : ∀ (f : Nat → Int32) (v : Int32), f_X3_put (6 : Int32) 240 (nI G.length) (4 : Int32) v (nI (G.length + 1)) f = some (upd f (G.length * 6 + 4) v) := fun f v => by
    have e := putG (f := f) (v := v) hl (show 4 < 6 by omega)
    exact e
  have p5 : ∀ (f : Nat → Int32) (v : Int32), f_X3_put (6 : Int32) 240 (nI G.length) (5 : Int32) v (nI (G.length + 1)) f = some (upd f (G.length * 6 + 5) v) := fun f v => by
    have e := putG (f := f) (v := v) hl (show 5 < 6 by omega)
    exact e
  have hG0 : RT 6 (nI G.length) fG G := by rw [← c.2.1.1.1]; exact c.2.1.1
  have hG : RT 6 (nI (G.length + 1)) (upd (upd (upd (upd (upd (upd fG (G.length * 6 + 0) x1) (G.length * 6 + 1) x2) (G.length * 6 + 2) x3) (G.length * 6 + 3) x4) (G.length * 6 + 4) x5) (G.length * 6 + 5) gi) (G ++ [g6 x1 x2 x3 x4 x5 gi]) := by
    refine hG0.snoc (fun i hi => by rw [pk_un (by omega), pk_un (by omega), pk_un (by omega), pk_un (by omega), pk_un (by omega), pk_un (by omega)]) (fun j hj => ?_)
    have hj : j = 0 ∨ j = 1 ∨ j = 2 ∨ j = 3 ∨ j = 4 ∨ j = 5 := by omega
    rcases hj with e | e | e | e | e | e
    · rw [e, pk_un (by omega), pk_un (by omega), pk_un (by omega), pk_un (by omega), pk_un (by omega), pk_us]
      rfl
    · rw [e, pk_un (by omega), pk_un (by omega), pk_un (by omega), pk_un (by omega), pk_us]
      rfl
    · rw [e, pk_un (by omega), pk_un (by omega), pk_un (by omega), pk_us]
      rfl
    · rw [e, pk_un (by omega), pk_un (by omega), pk_us]
      rfl
    · rw [e, pk_un (by omega), pk_us]
      rfl
    · rw [e, pk_us]
      rfl
  obtain ⟨aH, s1, s2⟩ := CS.settle (fH := fH) (rH := rH) c.1 c.2.1.2.1 hG c.2.2 c.2.1.2.2.1 (q.addG hl hg)
  refine ⟨_, aH, ?_, s2⟩
  unfold f_X2_lend
  rw [e1, bd2_some, p0, bd_some, p1, bd_some, p2, bd_some, p3, bd_some, p4, bd_some, p5, bd_some, nm_eq, s1, bd_some]
theorem e_44 (k : Nat) : (44 : Int32) + (6 : Int32) * nI k = nI (44 + 6 * k) := by
  rw [show (44 : Int32) = nI 44 from rfl, show (6 : Int32) = nI 6 from rfl, n_mul, n_at]
theorem m_lays {al : Nat → Int32} {P T G Lg : List rw_} {gi di re ti x1 x2 x3 x4 x5 : Int32} (o : OS P T G Lg) (m : MS al P T G Lg gi di re ti) (hl : G.length < 40) : ∃ al' : Nat → Int32, f_X6_lays x1 x2 x3 x4 x5 al = some al' ∧ MS al' P T (G ++ [g6 x1 x2 x3 x4 x5 gi]) Lg (gi + 1) di re ti ∧ al' 1 = gi + 1 := by
  have a5 : al (5 : Int32).toNatClampNeg = nI G.length := m.2.2.1.1
  have a1 : al (1 : Int32).toNatClampNeg = gi := m.2.2.2.2.1
  have a5' : al 5 = nI G.length := m.2.2.1.1
  have a1' : al 1 = gi := m.2.2.2.2.1
  have n1 : ∀ z : Option (Nat → Int32), ix (1 : Int32) 320 z = z := fun z => ixo z (by decide)
  have q1 : nI (44 + 6 * G.length) + (1 : Int32) = nI (44 + 6 * G.length + 1) := n_at
  have q2 : nI (44 + 6 * G.length) + (2 : Int32) = nI (44 + 6 * G.length + 2) := n_at
  have q3 : nI (44 + 6 * G.length) + (3 : Int32) = nI (44 + 6 * G.length + 3) := n_at
  have q4 : nI (44 + 6 * G.length) + (4 : Int32) = nI (44 + 6 * G.length + 4) := n_at
  have q5 : nI (44 + 6 * G.length) + (5 : Int32) = nI (44 + 6 * G.length + 5) := n_at
  have c5 : (5 : Int32).toNatClampNeg = 5 := by decide
  have c1 : (1 : Int32).toNatClampNeg = 1 := by decide
  let b := upd (upd (upd (upd (upd (upd al (44 + 6 * G.length) gi) (44 + 6 * G.length + 1) x1) (44 + 6 * G.length + 2) x2) (44 + 6 * G.length + 3) x3) (44 + 6 * G.length + 4) x4) (44 + 6 * G.length + 5) x5
  have hb : ∀ i : Nat, i < 44 + 6 * G.length ∨ 44 + 6 * G.length + 6 ≤ i → b i = al i := fun i hi => by
    show upd (upd (upd (upd (upd (upd al (44 + 6 * G.length) gi) (44 + 6 * G.length + 1) x1) (44 + 6 * G.length + 2) x2) (44 + 6 * G.length + 3) x3) (44 + 6 * G.length + 4) x4) (44 + 6 * G.length + 5) x5 i = al i
    rw [pk_un (by omega), pk_un (by omega), pk_un (by omega), pk_un (by omega), pk_un (by omega), pk_un (by omega)]
  have b5 : b (5 : Int32).toNatClampNeg = nI G.length := by rw [c5, hb 5 (by omega), a5']
  have b1 : upd b 5 (nI (G.length + 1)) (1 : Int32).toNatClampNeg = gi := by rw [c1, pk_un (by omega), hb 1 (by omega), a1']
  have hk : nI G.length + (1 : Int32) = nI (G.length + 1) := n_at
  refine ⟨upd (upd b 5 (nI (G.length + 1))) 1 (gi + 1), ?_, ⟨m.1.c (fun i h1 h2 => ?_), m.2.1.c o.2.2.1.2.1 ?_ (fun i h1 h2 => ?_), ⟨?_, fun k j hk hj => ?_⟩, m.2.2.2.1.c o.2.2.2 ?_ (fun i h1 h2 => ?_), ⟨?_, ?_, ?_, ?_⟩⟩, pk_us⟩
  · unfold f_X6_lays
    rw [ix5, a5, nm_eq, e_44, n1, nm_eq, a1, n_ix (by omega) (by omega), nm_eq, q1, n_ix (by omega) (by omega), nm_eq, q2, n_ix (by omega) (by omega), nm_eq, q3, n_ix (by omega) (by omega), nm_eq, q4, n_ix (by omega) (by omega), nm_eq, q5, n_ix (by omega) (by omega), nm_eq, n_cl (by omega), n_cl (by omega), n_cl (by omega), n_cl (by omega), n_cl (by omega), n_cl (by omega)]
    show ix (5 : Int32) 320 (nm (b (5 : Int32).toNatClampNeg + 1) (fun v_18 => ix (5 : Int32) 320 (nm (upd b (5 : Int32).toNatClampNeg v_18) (fun al_20 => ix (1 : Int32) 320 (nm ((al_20 (1 : Int32).toNatClampNeg) + (1 : Int32)) (fun v_22 => ix (1 : Int32) 320 (nm (upd al_20 (1 : Int32).toNatClampNeg v_22) (fun al_24 => some al_24)))))))) = _
    rw [ix5, b5, nm_eq, ix5, nm_eq, n1, nm_eq, n1, nm_eq, hk, c5, b1, c1]
  · rw [pk_un (by omega), pk_un (by omega), hb i (by omega)]
  · rw [pk_un (by omega), pk_un (by omega), hb 4 (by omega)]
  · rw [pk_un (by omega), pk_un (by omega), hb i (by omega)]
  · rw [pk_un (by omega), pk_us, List.length_append]
    rfl
  · rw [List.length_append] at hk
    have hk : k < G.length + 1 := hk
    rw [pk_un (by omega), pk_un (by omega)]
    by_cases e : k = G.length
    · subst e
      rw [gd_mid]
      show upd (upd (upd (upd (upd (upd al (44 + 6 * G.length) gi) (44 + 6 * G.length + 1) x1) (44 + 6 * G.length + 2) x2) (44 + 6 * G.length + 3) x3) (44 + 6 * G.length + 4) x4) (44 + 6 * G.length + 5) x5 _ = _
      have hj : j = 0 ∨ j = 1 ∨ j = 2 ∨ j = 3 ∨ j = 4 ∨ j = 5 := by omega
      rcases hj with e | e | e | e | e | e
      · rw [e, pk_un (by omega), pk_un (by omega), pk_un (by omega), pk_un (by omega), pk_us]
        rfl
      · rw [e, pk_un (by omega), pk_un (by omega), pk_un (by omega), pk_us]
        rfl
      · rw [e, pk_un (by omega), pk_un (by omega), pk_us]
        rfl
      · rw [e, pk_un (by omega), pk_us]
        rfl
      · rw [e, pk_us]
        rfl
      · rw [e, pk_un (by omega), pk_un (by omega), pk_un (by omega), pk_un (by omega), pk_un (by omega), show 44 + 6 * G.length + (5 + 1) % 6 = 44 + 6 * G.length by omega, pk_us]
        rfl
    · rw [gd_app (by omega), hb _ (by omega)]
      exact m.2.2.1.2 k j (by omega) hj
  · rw [pk_un (by omega), pk_un (by omega), hb 6 (by have := o.2.2.1.1; omega)]
  · rw [pk_un (by omega), pk_un (by omega), hb i (by omega)]
  · rw [pk_us]
  · rw [pk_un (by omega), pk_un (by omega), hb 2 (by omega)]
    exact m.2.2.2.2.2.1
  · rw [pk_un (by omega), pk_un (by omega), hb 3 (by omega)]
    exact m.2.2.2.2.2.2.1
  · rw [pk_un (by omega), pk_un (by omega), hb 0 (by omega)]
    exact m.2.2.2.2.2.2.2
