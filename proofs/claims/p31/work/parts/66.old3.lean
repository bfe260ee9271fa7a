theorem c_lend {rT rG rH : Int32} {fT fG fH H : Nat → Int32} {T G : List rw_} (c : QC rT fT rG fG rH fH T G H) (k : QK T G H) {t j : Nat} (hj : j < G.length) (ht : t < T.length) : f_X3_at (10 : Int32) 80 (nI t) (G.getD j z_ 0) rH fH = some (H (10 * t + cN (G.getD j z_ 0))) := by
  have o := (k.2.2.1 j hj).1
  conv => lhs; rw [o.1]
  exact c_hat c k o.2 ht
def rs1 (H : Nat → Int32) (p t : Nat) (x : Int32) (g : rw_) (a : Int32) : Int32 := if g 2 = nI t then (if g 1 = nI p then (if g 3 &&& x = (0 : Int32) then a else (if H (10 * t + cN (g 0)) &&& (4 : Int32) = 0 then (if a < 3 then 3 else a) else (if a < 4 then 4 else a))) else a) else a
def rs_ (G : List rw_) (H : Nat → Int32) (p t : Nat) (x : Int32) : Nat → Nat → Int32 → Int32
  | 0, _, a => a
  | n + 1, j, a => rs_ G H p t x n (j + 1) (rs1 H p t x (G.getD j z_) a)
theorem h_isG {rG : Int32} {fG : Nat → Int32} {G : List rw_} {x y z : Int32} {j : Nat} (h : RT 6 rG fG G) (hl : G.length ≤ 40) (hj : j < G.length) : f_X2_isGrantOf (nI j) x y z rG fG = some (if G.getD j z_ 2 = y then (if G.getD j z_ 1 = x then (if G.getD j z_ 3 &&& z = (0 : Int32) then 0 else 1) else 0) else 0) := by
  unfold f_X2_isGrantOf
  rw [h.gb hj hl, bd_some, h.gt hj hl, bd_some, h.gr hj hl, bd_some]
  by_cases h1 : G.getD j z_ 1 = x
  · by_cases h2 : G.getD j z_ 2 = y
    · rw [if_pos h1, if_pos h2, if_pos h2, if_pos h1]
      by_cases h3 : G.getD j z_ 3 &&& z = (0 : Int32)
      · rw [if_pos h3, if_pos h3]
      · rw [if_neg h3, if_neg h3]
    · rw [if_pos h1, if_neg h2, if_neg h2]
  · by_cases h2 : G.getD j z_ 2 = y
    · rw [if_neg h1, if_pos h2, if_neg h1]
    · rw [if_neg h1, if_neg h2]
theorem h_rs {rT rG rH : Int32} {fT fG fH H : Nat → Int32} {T G : List rw_} {p t : Nat} {x : Int32} (c : QC rT fT rG fG rH fH T G H) (k : QK T G H) (ht : t < T.length) : ∀ (n j F : Nat) (a : Int32), n + j = G.length → n < F → f_X2_reasonAgainst_L35 (nI p) (nI t) x rG fG rH fH F a (nI j) = some (rs_ G H p t x n j a)
  | _, _, 0, _, _, hF => absurd hF (by omega)
  | 0, j, F + 1, a, hk, hF => by
    have := k.1
    have hle : nI G.length ≤ nI j := q_le (by omega) (by omega) (by omega)
    unfold f_X2_reasonAgainst_L35 rs_
    rw [c.1.rows, bd_some, if_pos hle]
  | n + 1, j, F + 1, a, hk, hF => by
    have := k.1
    have hle : ¬ nI G.length ≤ nI j := q_nle (by omega) (by omega) (by omega)
    have ek : nI j + (1 : Int32) = nI (j + 1) := n_at
    have ih := fun a => h_rs (x := x) (p := p) c k ht n (j + 1) F a (by omega) (by omega)
    have el : f_X2_rightsOf (G.getD j z_ 0) (nI t) rH fH = some (H (10 * t + cN (G.getD j z_ 0))) := by
      unfold f_X2_rightsOf
      rw [c_lend c k (by omega) ht, bd_some]
    unfold f_X2_reasonAgainst_L35 rs_ rs1
    rw [c.1.rows, bd_some, if_neg hle, h_isG c.1 k.1 (by omega), bd_some, c.1.gl (by omega) k.1, bd_some, el, bd_some]
    simp only [nm_eq, ek, ih]
    by_cases h2 : G.getD j z_ 2 = nI t
    · rw [if_pos h2, if_pos h2]
      by_cases h1 : G.getD j z_ 1 = nI p
      · rw [if_pos h1, if_pos h1]
        by_cases h3 : G.getD j z_ 3 &&& x = (0 : Int32)
        · rw [if_pos h3, if_pos h3, if_pos rfl]
        · rw [if_neg h3, if_neg h3, if_neg (by decide)]
          by_cases h4 : H (10 * t + cN (G.getD j z_ 0)) &&& (4 : Int32) = 0
          · rw [if_pos h4, if_pos h4]
          · rw [if_neg h4, if_neg h4]
      · rw [if_neg h1, if_neg h1, if_pos rfl]
    · rw [if_neg h2, if_neg h2, if_pos rfl]
def cw_ (G : List rw_) (H : Nat → Int32) (p t : Nat) (x l : Int32) : Nat → Nat → Nat → Nat
  | 0, _, a => a
  | n + 1, j, a => cw_ G H p t x l n (j + 1) (if G.getD j z_ 2 = nI t then (if G.getD j z_ 1 = nI p then (if G.getD j z_ 3 &&& x = (0 : Int32) then a else (if H (10 * t + cN (G.getD j z_ 0)) &&& l = l then a + 1 else a)) else a) else a)
theorem cw_le {G : List rw_} {H : Nat → Int32} {p t : Nat} {x l : Int32} : ∀ (n j a : Nat), cw_ G H p t x l n j a ≤ a + n
  | 0, _, a => Nat.le_refl _
  | n + 1, j, a => by
    unfold cw_
    refine Nat.le_trans (cw_le n (j + 1) _) ?_
    split
    · split
      · split
        · omega
        · split <;> omega
      · omega
    · omega
theorem bit4 {x : Int32} (o : okN 8 x) : (x &&& (4 : Int32) = 0 ∧ ¬ x &&& (4 : Int32) = 4) ∨ (¬ x &&& (4 : Int32) = 0 ∧ x &&& (4 : Int32) = 4) := by
  refine b8 (P := fun x => (x &&& (4 : Int32) = 0 ∧ ¬ x &&& (4 : Int32) = 4) ∨ (¬ x &&& (4 : Int32) = 0 ∧ x &&& (4 : Int32) = 4)) ?_ o
  decide +kernel
theorem and_z {a : Int32} : a &&& (0 : Int32) = 0 := Int32.and_zero
theorem rs_cw {T G : List rw_} {H : Nat → Int32} {p t : Nat} {x : Int32} (k : QK T G H) (ht : t < T.length) : ∀ (n j a b : Nat), n + j = G.length → b ≤ a → rs_ G H p t x n j (if a = 0 then 2 else if b = 0 then 3 else 4) = (if cw_ G H p t x 0 n j a = 0 then 2 else if cw_ G H p t x 4 n j b = 0 then 3 else 4)
  | 0, _, _, _, _, _ => rfl
  | n + 1, j, a, b, hk, hb => by
    have oh := (k.2.2.1 j (by omega)).1
    have hh := k.2.2.2.2 (10 * t + cN (G.getD j z_ 0)) (by have := oh.2; omega)
    unfold rs_ cw_ rs1
    by_cases h2 : G.getD j z_ 2 = nI t
    · rw [if_pos h2, if_pos h2, if_pos h2]
      by_cases h1 : G.getD j z_ 1 = nI p
      · rw [if_pos h1, if_pos h1, if_pos h1]
        by_cases h3 : G.getD j z_ 3 &&& x = (0 : Int32)
        · rw [if_pos h3, if_pos h3, if_pos h3]
          exact rs_cw k ht n (j + 1) a b (by omega) hb
        · rw [if_neg h3, if_neg h3, if_neg h3, if_pos and_z]
          rcases bit4 hh with ⟨h4, h5⟩ | ⟨h4, h5⟩
          · rw [if_pos h4, if_neg h5, ← rs_cw k ht n (j + 1) (a + 1) b (by omega) (by omega)]
            congr 1
            rw [if_neg (show ¬ a + 1 = 0 by omega)]
            by_cases ha : a = 0
            · rw [if_pos ha, if_pos (show b = 0 by omega)]
              decide
            · rw [if_neg ha]
              by_cases hb0 : b = 0
              · rw [if_pos hb0]
                decide
              · rw [if_neg hb0]
                decide
          · rw [if_neg h4, if_pos h5, ← rs_cw k ht n (j + 1) (a + 1) (b + 1) (by omega) (by omega)]
            congr 1
            rw [if_neg (show ¬ a + 1 = 0 by omega), if_neg (show ¬ b + 1 = 0 by omega)]
            by_cases ha : a = 0
            · rw [if_pos ha]
              decide
            · rw [if_neg ha]
              by_cases hb0 : b = 0
              · rw [if_pos hb0]
                decide
              · rw [if_neg hb0]
                decide
      · rw [if_neg h1, if_neg h1, if_neg h1]
        exact rs_cw k ht n (j + 1) a b (by omega) hb
    · rw [if_neg h2, if_neg h2, if_neg h2]
      exact rs_cw k ht n (j + 1) a b (by omega) hb
/-- the reason -/
def why_ (T G : List rw_) (H : Nat → Int32) (p t : Nat) (x : Int32) : Int32 := if H (10 * t + p) &&& x = (0 : Int32) then (if T.getD t z_ 1 &&& x = (0 : Int32) then 1 else (if cw_ G H p t x 0 G.length 0 0 = 0 then 2 else if cw_ G H p t x 4 G.length 0 0 = 0 then 3 else 4)) else 0
theorem c_why {rT rG rH : Int32} {fT fG fH H : Nat → Int32} {T G : List rw_} {p t : Nat} {x : Int32} (c : QC rT fT rG fG rH fH T G H) (k : QK T G H) (hp : p < 10) (ht : t < T.length) : f_X2_reasonAgainst (nI p) (nI t) x rT fT rG fG rH fH = some (why_ T G H p t x) := by
  have := k.1
  have e := h_rs (x := x) (p := p) c k ht G.length 0 FU 2 (by omega) (by unfold FU; omega)
  have e : f_X2_reasonAgainst_L35 (nI p) (nI t) x rG fG rH fH FU 2 (0 : Int32) = some (rs_ G H p t x G.length 0 2) := e
  have e2 := rs_cw (p := p) (x := x) k ht G.length 0 0 0 (by omega) (by omega)
  have e2 : rs_ G H p t x G.length 0 2 = (if cw_ G H p t x 0 G.length 0 0 = 0 then 2 else if cw_ G H p t x 4 G.length 0 0 = 0 then 3 else 4) := e2
  have e0 : f_X2_rightsOf (nI p) (nI t) rH fH = some (H (10 * t + p)) := by
    unfold f_X2_rightsOf
    rw [c_hat c k hp ht, bd_some]
  unfold f_X2_reasonAgainst why_
  rw [e0, bd_some, c.2.1.mk_ ht k.2.1, bd_some, e, bd_some, e2]
  by_cases h1 : H (10 * t + p) &&& x = (0 : Int32)
  · rw [if_pos h1, if_pos h1]
    by_cases h2 : T.getD t z_ 1 &&& x = (0 : Int32)
    · rw [if_pos h2, if_pos h2]
    · rw [if_neg h2, if_neg h2]
  · rw [if_neg h1, if_neg h1]
theorem n_zero {a : Nat} (h : a < 100000) : nI a = (0 : Int32) ↔ a = 0 := nI_eq (b := 0) (by omega) (by omega)
theorem RT.m {rP : Int32} {fP : Nat → Int32} {P : List rw_} {p : Nat} (h : RT 2 rP fP P) (hl : P.length = 10) (hp : p < 10) : f_X3_at (2 : Int32) 20 (nI p) (0 : Int32) rP fP = some (P.getD p z_ 0) := by
  have e := h.at (lim := 10) (n := 20) (R := p) (C := 0) (by omega) (by omega) (by omega) (by omega) (by omega) (by omega) (by omega)
  exact e
theorem RT.bs {rP : Int32} {fP : Nat → Int32} {P : List rw_} {p : Nat} (h : RT 2 rP fP P) (hl : P.length = 10) (hp : p < 10) : f_X3_at (2 : Int32) 20 (nI p) (1 : Int32) rP fP = some (P.getD p z_ 1) := by
  have e := h.at (lim := 10) (n := 20) (R := p) (C := 1) (by omega) (by omega) (by omega) (by omega) (by omega) (by omega) (by omega)
  exact e
theorem s_at {fS : Nat → Int32} {p : Nat} (hp : p < 10) : f_X0_stepsTo (nI p) (1 : Int32) fS = some (fS p) := by
  have e := p_at (col := 10) (n := 10) (rows := 1) (R := 0) (C := p) (f := fS) (by omega) hp (by omega) (by omega) (by omega) (by omega)
  have e : f_X3_at (10 : Int32) 10 (0 : Int32) (nI p) (1 : Int32) fS = some (fS (0 * 10 + p)) := e
  unfold f_X0_stepsTo
  rw [e, bd_some, Nat.zero_mul, Nat.zero_add]
theorem s_put {fS : Nat → Int32} {p : Nat} {v : Int32} (hp : p < 10) : f_X3_put (10 : Int32) 10 (0 : Int32) (nI p) v (1 : Int32) fS = some (upd fS p v) := by
  have e := p_put (col := 10) (n := 10) (rows := 1) (R := 0) (C := p) (f := fS) (v := v) (by omega) hp (by omega) (by omega) (by omega) (by omega)
  have e : f_X3_put (10 : Int32) 10 (0 : Int32) (nI p) v (1 : Int32) fS = some (upd fS (0 * 10 + p) v) := e
  rw [e, Nat.zero_mul, Nat.zero_add]
theorem s_atN {fS : Nat → Int32} {x : Int32} (o : okN 10 x) : f_X0_stepsTo x (1 : Int32) fS = some (fS (cN x)) := by
  conv => lhs; rw [o.1]
  exact s_at o.2
theorem s_putN {fS : Nat → Int32} {x v : Int32} (o : okN 10 x) : f_X3_put (10 : Int32) 10 (0 : Int32) x v (1 : Int32) fS = some (upd fS (cN x) v) := by
  conv => lhs; rw [o.1]
  exact s_put o.2
theorem ixN {γ : Type} {n : Nat} {x : Int32} {z : Option γ} (o : okN n x) (hn : n < 100000) : ix x n z = z := by
  rw [o.1]
  exact n_ix o.2 (by omega)
def lkv (T G : List rw_) (H : Nat → Int32) (t j : Nat) : Int32 := if G.getD j z_ 2 = nI t then (if pa T G H j &&& (1 : Int32) = 0 then 0 else 1) else 0
theorem lnk8 {r h m : Int32} (o : okN 8 r) (o' : okN 8 h) (o'' : okN 8 m) : (if (if h &&& (4 : Int32) = 0 then (0 : Int32) else (r &&& h) &&& m) &&& (1 : Int32) = 0 then (0 : Int32) else 1) = (if r &&& (1 : Int32) = 0 then 0 else if h &&& (5 : Int32) = 5 then (if m &&& (1 : Int32) = 0 then 0 else 1) else 0) := by
  refine b8 (P := fun m => (if (if h &&& (4 : Int32) = 0 then (0 : Int32) else (r &&& h) &&& m) &&& (1 : Int32) = 0 then (0 : Int32) else 1) = (if r &&& (1 : Int32) = 0 then 0 else if h &&& (5 : Int32) = 5 then (if m &&& (1 : Int32) = 0 then 0 else 1) else 0)) ?_ o''
  refine b88 (P := fun r h => ∀ j : Fin 8, (if (if h &&& (4 : Int32) = 0 then (0 : Int32) else (r &&& h) &&& (nI j)) &&& (1 : Int32) = 0 then (0 : Int32) else 1) = (if r &&& (1 : Int32) = 0 then 0 else if h &&& (5 : Int32) = 5 then (if (nI j) &&& (1 : Int32) = 0 then 0 else 1) else 0)) ?_ o o'
  decide +kernel
theorem c_lnk {rT rG rH : Int32} {fT fG fH fS H : Nat → Int32} {T G : List rw_} (c : QC rT fT rG fG rH fH T G H) (k : QK T G H) {t j s : Nat} (hj : j < G.length) : f_X0_isLink (nI j) (nI t) (nI (s + 1)) (1 : Int32) fS rT fT rG fG rH fH = some (if fS (cN (G.getD j z_ 0)) = nI s then lkv T G H t j else 0) := by
  have o := k.2.2.1 j hj
  unfold f_X0_isLink lkv
  rw [c.1.gt hj k.1, bd_some, c.1.gl hj k.1, bd_some, s_atN o.1, bd_some, c_pass c k hj, bd_some, nI_pred]
  by_cases h : G.getD j z_ 2 = nI t
  · rw [if_pos h, if_pos h]
    by_cases h2 : fS (cN (G.getD j z_ 0)) = nI s
    · rw [if_pos h2, if_pos h2]
      split <;> rfl
    · rw [if_neg h2, if_neg h2]
  · rw [if_neg h, if_neg h]
    split <;> rfl
/-- one step of one pass -/
def c1_ (T G : List rw_) (H : Nat → Int32) (t s j : Nat) (q : Int32 × (Nat → Int32)) : Int32 × (Nat → Int32) :=
  if q.2 (cN (G.getD j z_ 1)) = -1 then (if lkv T G H t j = 0 then q else (if q.2 (cN (G.getD j z_ 0)) = nI s then (1, upd q.2 (cN (G.getD j z_ 1)) (nI (s + 1))) else q)) else q
def cl_ (T G : List rw_) (H : Nat → Int32) (t s : Nat) : Nat → Nat → Int32 × (Nat → Int32) → Int32 × (Nat → Int32)
  | 0, _, q => q
  | n + 1, j, q => cl_ T G H t s n (j + 1) (c1_ T G H t s j q)
theorem upd_id {f : Nat → Int32} {k : Nat} : upd f k (f k) = f := by
  funext j
  by_cases e : j = k
  · rw [e, pk_us]
  · rw [pk_un e]
theorem h_cl {rT rG rH : Int32} {fT fG fH H : Nat → Int32} {T G : List rw_} (c : QC rT fT rG fG rH fH T G H) (k : QK T G H) {t s : Nat} : ∀ (n j F : Nat) (q : Int32 × (Nat → Int32)), n + j = G.length → n < F → f_X0_measure_L62 (nI t) (nI (s + 1)) (1 : Int32) rT fT rG fG rH fH F q.1 (nI j) q.2 = some (cl_ T G H t s n j q)
  | _, _, 0, _, _, hF => absurd hF (by omega)
  | 0, j, F + 1, q, hk, hF => by
    have := k.1
    have hle : nI G.length ≤ nI j := q_le (by omega) (by omega) (by omega)
    unfold f_X0_measure_L62 cl_
    rw [c.1.rows, bd_some, if_pos hle]
  | n + 1, j, F + 1, q, hk, hF => by
    have := k.1
    have hle : ¬ nI G.length ≤ nI j := q_nle (by omega) (by omega) (by omega)
    have ek : nI j + (1 : Int32) = nI (j + 1) := n_at
    have o := k.2.2.1 j (by omega)
    have ih := fun q => h_cl (t := t) (s := s) c k n (j + 1) F q (by omega) (by omega)
    unfold f_X0_measure_L62 cl_ c1_
    rw [c.1.rows, bd_some, if_neg hle, c.1.gb (by omega) k.1, bd_some, s_atN o.2.1, bd_some, c_lnk c k (by omega), bd_some, s_putN o.2.1, bd_some]
    simp only [nm_eq, ek]
    by_cases h1 : q.2 (cN (G.getD j z_ 1)) = -1
    · rw [if_pos h1, if_pos h1]
      by_cases h2 : lkv T G H t j = 0
      · rw [h2, if_pos (by split <;> rfl), if_pos rfl, ih]
      · rw [if_neg h2]
        by_cases h3 : q.2 (cN (G.getD j z_ 0)) = nI s
        · rw [if_pos h3, if_neg h2, if_pos h3, ← ih]
        · rw [if_neg h3, if_pos rfl, if_neg h3, ih]
    · rw [if_neg h1, if_neg h1, ih]
/-- what stays true of the lengths: none greater than s; each but 0 and NONE has a grant before it -/
def cI (T G : List rw_) (H : Nat → Int32) (t s : Nat) (F : Nat → Int32) : Prop := (∀ p : Nat, p < 10 → F p = -1 ∨ ∃ v : Nat, v ≤ s ∧ F p = nI v) ∧ ∀ p v : Nat, p < 10 → v < 10 → F p = nI (v + 1) → ∃ j : Nat, j < G.length ∧ cN (G.getD j z_ 1) = p ∧ ¬ lkv T G H t j = 0 ∧ F (cN (G.getD j z_ 0)) = nI v
theorem n_m1 {v : Nat} (h : v < 100000) : ¬ nI v = (-1 : Int32) := by
  intro z
  have h1 : nI v < 0 := by rw [z]; decide
  exact nI_pos (by omega) h1
theorem c1_I {T G : List rw_} {H : Nat → Int32} {t s j : Nat} {q : Int32 × (Nat → Int32)} (hok : okGs T G) (hs : s < 10) (hj : j < G.length) (h : cI T G H t (s + 1) q.2) : cI T G H t (s + 1) (c1_ T G H t s j q).2 := by
  have o := hok j hj
  unfold c1_
  by_cases h1 : q.2 (cN (G.getD j z_ 1)) = -1
  · rw [if_pos h1]
    by_cases h2 : lkv T G H t j = 0
    · rw [if_pos h2]
      exact h
    · rw [if_neg h2]
      by_cases h3 : q.2 (cN (G.getD j z_ 0)) = nI s
      · rw [if_pos h3]
        show cI T G H t (s + 1) (upd q.2 (cN (G.getD j z_ 1)) (nI (s + 1)))
        have hne : ∀ i : Nat, ∀ v : Nat, v < 100000 → q.2 i = nI v → i ≠ cN (G.getD j z_ 1) := by
          intro i v hv e e2
          rw [e2, h1] at e
          exact n_m1 hv e.symm
        refine ⟨fun p hp => ?_, fun p v hp hv e => ?_⟩
        · by_cases e : p = cN (G.getD j z_ 1)
          · rw [e, pk_us]
            exact Or.inr ⟨s + 1, by omega, rfl⟩
          · rw [pk_un e]
            exact h.1 p hp
        · by_cases ep : p = cN (G.getD j z_ 1)
          · rw [ep, pk_us] at e
            have e : s = v := by
              have := (nI_eq (by omega) (by omega)).mp e
              omega
            refine ⟨j, hj, ep.symm, h2, ?_⟩
            rw [pk_un (hne _ s (by omega) h3), h3, e]
          · rw [pk_un ep] at e
            obtain ⟨i, i1, i2, i3, i4⟩ := h.2 p v hp hv e
            refine ⟨i, i1, i2, i3, ?_⟩
            rw [pk_un (hne _ v (by omega) i4), i4]
      · rw [if_neg h3]
        exact h
  · rw [if_neg h1]
    exact h
theorem cl_I {T G : List rw_} {H : Nat → Int32} {t s : Nat} (hok : okGs T G) (hs : s < 10) : ∀ (n j : Nat) (q : Int32 × (Nat → Int32)), n + j = G.length → cI T G H t (s + 1) q.2 → cI T G H t (s + 1) (cl_ T G H t s n j q).2
  | 0, _, _, _, h => h
  | n + 1, j, q, hk, h => by
    unfold cl_
    exact cl_I hok hs n (j + 1) _ (by omega) (c1_I hok hs (by omega) h)
theorem cI.up {T G : List rw_} {H : Nat → Int32} {t s : Nat} {F : Nat → Int32} (h : cI T G H t s F) : cI T G H t (s + 1) F := ⟨fun p hp => by
    rcases h.1 p hp with e | ⟨v, e1, e2⟩
    · exact Or.inl e
    · exact Or.inr ⟨v, by omega, e2⟩, h.2⟩
/-- how many are reached -/
def cn10 (F : Nat → Int32) : Nat → Nat
  | 0 => 0
  | m + 1 => cn10 F m + (if F m = -1 then 0 else 1)
theorem cn_le (F : Nat → Int32) : ∀ m : Nat, cn10 F m ≤ m
  | 0 => Nat.le_refl _
  | m + 1 => by
    have := cn_le F m
    unfold cn10
    split <;> omega
theorem cn_all {F : Nat → Int32} : ∀ m : Nat, m ≤ cn10 F m → ∀ p : Nat, p < m → ¬ F p = -1
  | 0, _, _, hp => absurd hp (by omega)
  | m + 1, h, p, hp => by
    have := cn_le F m
    unfold cn10 at h
    by_cases e : F m = -1
    · rw [if_pos e] at h
      omega
    · rw [if_neg e] at h
      by_cases ep : p = m
      · rw [ep]
        exact e
      · exact cn_all m (by omega) p (by omega)
theorem cn_out {F : Nat → Int32} {i : Nat} {v : Int32} : ∀ m : Nat, m ≤ i → cn10 (upd F i v) m = cn10 F m
  | 0, _ => rfl
  | m + 1, h => by
    unfold cn10
    rw [cn_out m (by omega), pk_un (by omega)]
theorem cn_upd {F : Nat → Int32} {i : Nat} {v : Int32} (h1 : F i = -1) (hv : ¬ v = -1) : ∀ m : Nat, i < m → cn10 (upd F i v) m = cn10 F m + 1
  | 0, h => absurd h (by omega)
  | m + 1, h => by
    unfold cn10
    by_cases e : m = i
    · rw [e, cn_out i (Nat.le_refl _), pk_us, if_neg hv, if_pos h1]
    · rw [cn_upd h1 hv m (by omega), pk_un e]
      omega
theorem cl_cn {T G : List rw_} {H : Nat → Int32} {t s : Nat} (hok : okGs T G) (hs : s < 10) : ∀ (n j : Nat) (q : Int32 × (Nat → Int32)), n + j = G.length → cn10 q.2 10 ≤ cn10 (cl_ T G H t s n j q).2 10 ∧ ((cl_ T G H t s n j q).1 = 0 → q.1 = 0 ∧ (cl_ T G H t s n j q).2 = q.2) ∧ (q.1 = 0 → ¬ (cl_ T G H t s n j q).1 = 0 → cn10 q.2 10 < cn10 (cl_ T G H t s n j q).2 10)
  | 0, _, q, _ => ⟨Nat.le_refl _, fun h => ⟨h, rfl⟩, fun h h' => absurd h h'⟩
  | n + 1, j, q, hk => by
    have o := hok j (by omega)
    have ih := cl_cn (t := t) (H := H) hok hs n (j + 1) (c1_ T G H t s j q) (by omega)
    have hc : c1_ T G H t s j q = q ∨ ((c1_ T G H t s j q).1 = 1 ∧ cn10 (c1_ T G H t s j q).2 10 = cn10 q.2 10 + 1) := by
      unfold c1_
      by_cases h1 : q.2 (cN (G.getD j z_ 1)) = -1
      · rw [if_pos h1]
        by_cases h2 : lkv T G H t j = 0
        · rw [if_pos h2]
          exact Or.inl rfl
        · rw [if_neg h2]
          by_cases h3 : q.2 (cN (G.getD j z_ 0)) = nI s
          · rw [if_pos h3]
            exact Or.inr ⟨rfl, cn_upd h1 (n_m1 (by omega)) 10 o.2.1.2⟩
          · rw [if_neg h3]
            exact Or.inl rfl
      · rw [if_neg h1]
        exact Or.inl rfl
    unfold cl_
    rcases hc with hc | ⟨hc1, hc2⟩
    · rw [hc] at ih ⊢
      exact ih
    · refine ⟨by omega, fun h => ?_, fun _ _ => by omega⟩
      have := (ih.2.1 h).1
      rw [hc1] at this
      exact absurd this (by decide)
theorem cl_no {T G : List rw_} {H : Nat → Int32} {t s : Nat} (hok : okGs T G) : ∀ (n j : Nat) (q : Int32 × (Nat → Int32)), n + j = G.length → ((∀ p : Nat, p < 10 → ¬ q.2 p = nI s) ∨ (∀ p : Nat, p < 10 → ¬ q.2 p = -1)) → cl_ T G H t s n j q = q
  | 0, _, _, _, _ => rfl
  | n + 1, j, q, hk, h => by
    have o := hok j (by omega)
    have hc : c1_ T G H t s j q = q := by
      unfold c1_
      by_cases h1 : q.2 (cN (G.getD j z_ 1)) = -1
      · rw [if_pos h1]
        by_cases h2 : lkv T G H t j = 0
        · rw [if_pos h2]
        · rw [if_neg h2]
          by_cases h3 : q.2 (cN (G.getD j z_ 0)) = nI s
          · rcases h with h | h
            · exact absurd h3 (h _ o.1.2)
            · exact absurd h1 (h _ o.2.1.2)
          · rw [if_neg h3]
      · rw [if_neg h1]
    unfold cl_
    rw [hc]
    exact cl_no hok n (j + 1) q (by omega) h
/-- the class's run and the model's -/
def cr_ (T G : List rw_) (H : Nat → Int32) (t : Nat) : Nat → Nat → Int32 × (Nat → Int32) → Nat → Int32
  | 0, _, q => q.2
  | n + 1, s, q => if q.1 = 0 then q.2 else cr_ T G H t n (s + 1) (cl_ T G H t s G.length 0 (0, q.2))
def mr_ (T G : List rw_) (H : Nat → Int32) (t : Nat) : Nat → Nat → (Nat → Int32) → Nat → Int32
  | 0, _, F => F
  | n + 1, s, F => mr_ T G H t n (s + 1) (cl_ T G H t s G.length 0 (0, F)).2
theorem mr_id {T G : List rw_} {H : Nat → Int32} {t : Nat} (hok : okGs T G) {F : Nat → Int32} : ∀ (n s : Nat), (∀ v p : Nat, s ≤ v → v < 100 → p < 10 → ¬ F p = nI v) → n + s ≤ 100 → mr_ T G H t n s F = F
  | 0, _, _, _ => rfl
  | n + 1, s, h, hs => by
    unfold mr_
    rw [cl_no hok G.length 0 (0, F) (by omega) (Or.inl (fun p hp => h s p (Nat.le_refl _) (by omega) hp))]
    exact mr_id hok n (s + 1) (fun v p h1 h2 h3 => h v p (by omega) h2 h3) (by omega)
theorem cI.ge {T G : List rw_} {H : Nat → Int32} {t s : Nat} {F : Nat → Int32} (h : cI T G H t s F) {v p : Nat} (hp : p < 10) (hv : s < v) (hv2 : v < 100) : ¬ F p = nI v := by
  intro e
  rcases h.1 p hp with e1 | ⟨w, e1, e2⟩
  · rw [e1] at e
    exact n_m1 (by omega) e.symm
  · rw [e2] at e
    have := (nI_eq (by omega) (by omega)).mp e
    omega
theorem mr_cr {T G : List rw_} {H : Nat → Int32} {t : Nat} (hok : okGs T G) : ∀ (n s : Nat) (q : Int32 × (Nat → Int32)), n + s = 9 → cI T G H t s q.2 → (q.1 = 0 → ∀ p : Nat, p < 10 → ¬ q.2 p = nI s) → (¬ q.1 = 0 → s + 1 ≤ cn10 q.2 10) → mr_ T G H t (n + 1) s q.2 = cr_ T G H t n s q ∧ cI T G H t 9 (cr_ T G H t n s q)
  | n, s, q, hn, hI, h0, h1 => by
    by_cases hc : q.1 = 0
    · have e : cr_ T G H t n s q = q.2 := by
        cases n with
        | zero => rfl
        | succ n => exact if_pos hc
      rw [e]
      refine ⟨mr_id hok (n + 1) s (fun v p hv hv2 hp => ?_) (by omega), ?_⟩
      · by_cases ev : v = s
        · rw [ev]
          exact h0 hc p hp
        · exact hI.ge hp (by omega) hv2
      · refine ⟨fun p hp => ?_, hI.2⟩
        rcases hI.1 p hp with e | ⟨v, e1, e2⟩
        · exact Or.inl e
        · exact Or.inr ⟨v, by omega, e2⟩
    · have hcn := h1 hc
      cases n with
      | zero =>
        have hs : s = 9 := by omega
        subst hs
        refine ⟨?_, hI⟩
        show (cl_ T G H t 9 G.length 0 (0, q.2)).2 = q.2
        rw [cl_no hok G.length 0 (0, q.2) (by omega) (Or.inr (cn_all 10 hcn))]
      | succ n =>
        have hC := cl_cn (t := t) (H := H) hok (show s < 10 by omega) G.length 0 (0, q.2) (by omega)
        have hI2 := cl_I (t := t) (H := H) hok (show s < 10 by omega) G.length 0 (0, q.2) (by omega) hI.up
        have e : cr_ T G H t (n + 1) s q = cr_ T G H t n (s + 1) (cl_ T G H t s G.length 0 (0, q.2)) := if_neg hc
        rw [e]
        refine mr_cr hok n (s + 1) (cl_ T G H t s G.length 0 (0, q.2)) (by omega) hI2 (fun hz p hp => ?_) (fun hz => ?_)
        · have h2 : (cl_ T G H t s G.length 0 (0, q.2)).2 = q.2 := (hC.2.1 hz).2
          rw [h2]
          exact hI.ge hp (by omega) (by omega)
        · have := hC.2.2 rfl hz
          have : cn10 q.2 10 < cn10 (cl_ T G H t s G.length 0 (0, q.2)).2 10 := this
          omega
/-- the passes see the first ten cells alone -/
theorem cl_congr {T G : List rw_} {H : Nat → Int32} {t s : Nat} (hok : okGs T G) : ∀ (n j : Nat) (q q' : Int32 × (Nat → Int32)), n + j = G.length → q.1 = q'.1 → eqon 10 q.2 q'.2 → (cl_ T G H t s n j q).1 = (cl_ T G H t s n j q').1 ∧ eqon 10 (cl_ T G H t s n j q).2 (cl_ T G H t s n j q').2
  | 0, _, _, _, _, h1, h2 => ⟨h1, h2⟩
  | n + 1, j, q, q', hk, h1, h2 => by
    have o := hok j (by omega)
    have hc : (c1_ T G H t s j q).1 = (c1_ T G H t s j q').1 ∧ eqon 10 (c1_ T G H t s j q).2 (c1_ T G H t s j q').2 := by
      unfold c1_
      rw [h2 _ o.1.2, h2 _ o.2.1.2]
      split
      · split
        · exact ⟨h1, h2⟩
        · split
          · exact ⟨rfl, h2.upd⟩
          · exact ⟨h1, h2⟩
      · exact ⟨h1, h2⟩
    unfold cl_
    exact cl_congr hok n (j + 1) _ _ (by omega) hc.1 hc.2
theorem cr_congr {T G : List rw_} {H : Nat → Int32} {t : Nat} (hok : okGs T G) : ∀ (n s : Nat) (q q' : Int32 × (Nat → Int32)), q.1 = q'.1 → eqon 10 q.2 q'.2 → eqon 10 (cr_ T G H t n s q) (cr_ T G H t n s q')
  | 0, _, _, _, _, h => h
  | n + 1, s, q, q', h1, h2 => by
    have hc := cl_congr (t := t) (s := s) (H := H) hok G.length 0 (0, q.2) (0, q'.2) (by omega) rfl h2
    unfold cr_
    rw [h1]
    split
    · exact h2
    · exact cr_congr hok n (s + 1) _ _ hc.1 hc.2
theorem mr_congr {T G : List rw_} {H : Nat → Int32} {t : Nat} (hok : okGs T G) : ∀ (n s : Nat) (F F' : Nat → Int32), eqon 10 F F' → eqon 10 (mr_ T G H t n s F) (mr_ T G H t n s F')
  | 0, _, _, _, h => h
  | n + 1, s, F, F', h => by
    have hc := cl_congr (t := t) (s := s) (H := H) hok G.length 0 (0, F) (0, F') (by omega) rfl h
    unfold mr_
    exact mr_congr hok n (s + 1) _ _ hc.2
def f0_ (T : List rw_) (t : Nat) : Nat → Int32 := fun p => if p = cN (T.getD t z_ 0) then 0 else -1
theorem h_f0 {rT rG rH : Int32} {fT fG fH H : Nat → Int32} {T G : List rw_} (c : QC rT fT rG fG rH fH T G H) (k : QK T G H) {t : Nat} (ht : t < T.length) : ∀ (n x F : Nat) (fS : Nat → Int32), n + x = 10 → n < F → eqon x fS (f0_ T t) → ∃ fS' : Nat → Int32, f_X0_measure_L2 (nI t) (1 : Int32) rT fT F (nI x) fS = some fS' ∧ eqon 10 fS' (f0_ T t)
  | _, _, 0, _, _, hF, _ => absurd hF (by omega)
  | 0, x, F + 1, fS, h, hF, he => by
    have hle : (10 : Int32) ≤ nI x := q_le (a := 10) (by omega) (by omega) (by omega)
    have hx : x = 10 := by omega
    unfold f_X0_measure_L2
    rw [if_pos hle]
    exact ⟨fS, rfl, by rw [← hx]; exact he⟩
  | n + 1, x, F + 1, fS, h, hF, he => by
    have hle : ¬ (10 : Int32) ≤ nI x := q_nle (a := 10) (by omega) (by omega) (by omega)
    have ek : nI x + (1 : Int32) = nI (x + 1) := n_at
    have o := (k.2.2.2.1 t ht).1
    have key : ∀ v : Int32, v = f0_ T t x → ∃ fS' : Nat → Int32, f_X0_measure_L2 (nI t) (1 : Int32) rT fT F (nI (x + 1)) (upd fS x v) = some fS' ∧ eqon 10 fS' (f0_ T t) := by
      intro v hv
      refine h_f0 c k ht n (x + 1) F _ (by omega) (by omega) (fun i hi => ?_)
      by_cases e : i = x
      · rw [e, pk_us, hv]
      · rw [pk_un e]
        exact he i (by omega)
    unfold f_X0_measure_L2
    rw [if_neg hle, c.2.1.o ht k.2.1, bd_some, s_put (by omega), s_put (by omega), bd_some, bd_some]
    simp only [nm_eq, ek]
    by_cases hx : nI x = T.getD t z_ 0
    · rw [if_pos hx]
      refine key 0 ?_
      unfold f0_
      rw [← hx, cN_nI (by omega), if_pos rfl]
    · rw [if_neg hx]
      refine key (-1) ?_
      unfold f0_
      rw [if_neg (fun z => hx (by rw [z]; exact o.1.symm))]
theorem h_cr {rT rG rH : Int32} {fT fG fH H : Nat → Int32} {T G : List rw_} (c : QC rT fT rG fG rH fH T G H) (k : QK T G H) {t : Nat} : ∀ (n s F : Nat) (q : Int32 × (Nat → Int32)), n + s = 9 → n < F → f_X0_measure_L46 (nI t) (1 : Int32) rT fT rG fG rH fH F q.1 (nI (s + 1)) q.2 = some (cr_ T G H t n s q)
  | _, _, 0, _, _, hF => absurd hF (by omega)
  | 0, s, F + 1, q, h, hF => by
    have hle : (10 : Int32) ≤ nI (s + 1) := q_le (a := 10) (by omega) (by omega) (by omega)
    unfold f_X0_measure_L46 cr_
    rw [if_pos hle]
  | n + 1, s, F + 1, q, h, hF => by
    have := k.1
    have hle : ¬ (10 : Int32) ≤ nI (s + 1) := q_nle (a := 10) (by omega) (by omega) (by omega)
    have ek : nI (s + 1) + (1 : Int32) = nI (s + 1 + 1) := n_at
    have e := h_cl (t := t) (s := s) c k G.length 0 FU (0, q.2) (by omega) (by unfold FU; omega)
    have e : f_X0_measure_L62 (nI t) (nI (s + 1)) (1 : Int32) rT fT rG fG rH fH FU (0 : Int32) (0 : Int32) q.2 = some (cl_ T G H t s G.length 0 (0, q.2)) := e
    unfold f_X0_measure_L46 cr_
    rw [if_neg hle]
    by_cases h0 : q.1 = 0
    · rw [if_pos h0, if_pos h0]
    · rw [if_neg h0, if_neg h0, e, bd2_mk, nm_eq, ek]
      exact h_cr c k n (s + 1) F _ (by omega) (by omega)
def far_ (T G : List rw_) (H : Nat → Int32) (t : Nat) : Nat → Int32 := cr_ T G H t 9 0 (1, f0_ T t)
theorem f0_I {T G : List rw_} {H : Nat → Int32} {t : Nat} : cI T G H t 0 (f0_ T t) := by
  refine ⟨fun p _ => ?_, fun p v _ hv e => ?_⟩
  · unfold f0_
    split
    · exact Or.inr ⟨0, by omega, rfl⟩
    · exact Or.inl rfl
  · unfold f0_ at e
    split at e
    · have := (nI_eq (a := 0) (b := v + 1) (by omega) (by omega)).mp e
      omega
    · exact absurd e.symm (n_m1 (by omega))
theorem cn_pos {F : Nat → Int32} {i : Nat} (h : ¬ F i = -1) : ∀ m : Nat, i < m → 1 ≤ cn10 F m
  | 0, hi => absurd hi (by omega)
  | m + 1, hi => by
    unfold cn10
    by_cases e : m = i
    · rw [e, if_neg h]
      omega
    · have := cn_pos h m (by omega)
      omega
theorem far_mr {T G : List rw_} {H : Nat → Int32} {t : Nat} (k : QK T G H) (ht : t < T.length) : mr_ T G H t 10 0 (f0_ T t) = far_ T G H t ∧ cI T G H t 9 (far_ T G H t) := by
  have o := (k.2.2.2.1 t ht).1
  refine mr_cr k.2.2.1 9 0 (1, f0_ T t) (by omega) f0_I (fun z => absurd z (show ¬ (1 : Int32) = 0 by decide)) (fun _ => ?_)
  refine cn_pos (i := cN (T.getD t z_ 0)) ?_ 10 o.2
  show ¬ f0_ T t (cN (T.getD t z_ 0)) = -1
  unfold f0_
  rw [if_pos rfl]
  decide
theorem c_measure {rT rG rH : Int32} {fT fG fH H : Nat → Int32} {T G : List rw_} (c : QC rT fT rG fG rH fH T G H) (k : QK T G H) {t : Nat} (ht : t < T.length) (fS : Nat → Int32) : ∃ fS' : Nat → Int32, f_X0_measure (nI t) (1 : Int32) fS rT fT rG fG rH fH = some fS' ∧ eqon 10 fS' (far_ T G H t) := by
  obtain ⟨f1, e1, e2⟩ := h_f0 c k ht 10 0 FU fS (by omega) (by unfold FU; omega) (fun i hi => absurd hi (by omega))
  have e1 : f_X0_measure_L2 (nI t) (1 : Int32) rT fT FU (0 : Int32) fS = some f1 := e1
  have e3 := h_cr (t := t) c k 9 0 FU (1, f1) (by omega) (by unfold FU; omega)
  have e3 : f_X0_measure_L46 (nI t) (1 : Int32) rT fT rG fG rH fH FU (1 : Int32) (1 : Int32) f1 = some (cr_ T G H t 9 0 (1, f1)) := e3
  refine ⟨_, ?_, cr_congr k.2.2.1 9 0 (1, f1) (1, f0_ T t) rfl e2⟩
  unfold f_X0_measure
  rw [e1, bd_some, e3, bd_some]
