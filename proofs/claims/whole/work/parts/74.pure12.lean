/-! ===== PURE: chains ===== -/
theorem s_at {fS : Nat → Int32} {p : Nat} (hp : p < 10) : f_X0_stepsTo (nI p) (1 : Int32) fS = some (fS p) := by
  have e := p_at (col := 10) (n := 10) (rows := 1) (R := 0) (C := p) (f := fS) (by omega) hp (by omega) (by omega) (by omega) (by omega)
  have e : f_X3_at (10 : Int32) 10 (0 : Int32) (nI p) (1 : Int32) fS = some (fS (0 * 10 + p)) := e
  unfold f_X0_stepsTo
  rw [e, bd_some, Nat.zero_mul, Nat.zero_add]
theorem s_put {fS : Nat → Int32} {p : Nat} {v : Int32} (hp : p < 10) : f_X3_put (10 : Int32) 10 (0 : Int32) (nI p) v (1 : Int32) fS = some (upd fS p v) := by
  have e := p_put (col := 10) (n := 10) (rows := 1) (R := 0) (C := p) (f := fS) (v := v) (by omega) hp (by omega) (by omega) (by omega) (by omega)
  have e : f_X3_put (10 : Int32) 10 (0 : Int32) (nI p) v (1 : Int32) fS = some (upd fS (0 * 10 + p) v) := e
  rw [e, Nat.zero_mul, Nat.zero_add]
theorem s_atN {fS : Nat → Int32} {x : Int32} (o : okN 10 x) : f_X0_stepsTo x (1 : Int32) fS = some (fS (cN x)) := by
  conv => lhs; rw [o.1]
  exact s_at o.2
theorem s_putN {fS : Nat → Int32} {x v : Int32} (o : okN 10 x) : f_X3_put (10 : Int32) 10 (0 : Int32) x v (1 : Int32) fS = some (upd fS (cN x) v) := by
  conv => lhs; rw [o.1]
  exact s_put o.2
theorem ixN {γ : Type} {n : Nat} {x : Int32} {z : Option γ} (o : okN n x) (hn : n < 100000) : ix x n z = z := by
  rw [o.1]
  exact n_ix o.2 (by omega)
def lkv (T G : List rw_) (H : Nat → Int32) (t j : Nat) : Int32 := if G.getD j z_ 2 = nI t then (if pa T G H j &&& (1 : Int32) = 0 then 0 else 1) else 0
theorem lnk8 {r h m : Int32} (o : okN 8 r) (o' : okN 8 h) (o'' : okN 8 m) : (if (if h &&& (4 : Int32) = 0 then (0 : Int32) else (r &&& h) &&& m) &&& (1 : Int32) = 0 then (0 : Int32) else 1) = (if r &&& (1 : Int32) = 0 then 0 else if h &&& (5 : Int32) = 5 then (if m &&& (1 : Int32) = 0 then 0 else 1) else 0) := by
  refine b8 (P := fun m => (if (if h &&& (4 : Int32) = 0 then (0 : Int32) else (r &&& h) &&& m) &&& (1 : Int32) = 0 then (0 : Int32) else 1) = (if r &&& (1 : Int32) = 0 then 0 else if h &&& (5 : Int32) = 5 then (if m &&& (1 : Int32) = 0 then 0 else 1) else 0)) ?_ o''
  refine b88 (P := fun r h => ∀ j : Fin 8, (if (if h &&& (4 : Int32) = 0 then (0 : Int32) else (r &&& h) &&& (nI j)) &&& (1 : Int32) = 0 then (0 : Int32) else 1) = (if r &&& (1 : Int32) = 0 then 0 else if h &&& (5 : Int32) = 5 then (if (nI j) &&& (1 : Int32) = 0 then 0 else 1) else 0)) ?_ o o'
  decide +kernel
theorem q_lnk {al ho H : Nat → Int32} {T G : List rw_} (m : QM al ho T G H) (k : QK T G H) {t j : Nat} (hj : j < G.length) (ht : t < T.length) : f_X6_isLink (nI j) (nI t) al ho = some (lkv T G H t j) := by
  have o := k.2.2.1 j hj
  have hh := k.2.2.2.2 (10 * t + cN (G.getD j z_ 0)) (by have := o.1.2; omega)
  unfold f_X6_isLink lkv
  rw [m.1.t hj k.1, bd_some, m.1.r hj k.1, bd_some, m.1.l hj k.1, bd_some, q_lend m k hj ht, bd_some, m.2.1.mask ht k.2.1, bd_some]
  by_cases h : G.getD j z_ 2 = nI t
  · rw [if_pos h, if_pos h]
    have et : cN (G.getD j z_ 2) = t := by rw [h, cN_nI (by have := k.2.1; omega)]
    have hp : pa T G H j = (if H (10 * t + cN (G.getD j z_ 0)) &&& (4 : Int32) = 0 then (0 : Int32) else (G.getD j z_ 3 &&& H (10 * t + cN (G.getD j z_ 0))) &&& T.getD t z_ 1) := by
      unfold pa
      rw [et]
    rw [hp, lnk8 o.2.2.2.1 hh (k.2.2.2.1 t ht).2]
    split
    · rfl
    · split
      · split <;> rfl
      · rfl
  · rw [if_neg h, if_neg h]
theorem c_lnk {rT rG rH : Int32} {fT fG fH fS H : Nat → Int32} {T G : List rw_} (c : QC rT fT rG fG rH fH T G H) (k : QK T G H) {t j s : Nat} (hj : j < G.length) : f_X0_isLink (nI j) (nI t) (nI (s + 1)) (1 : Int32) fS rT fT rG fG rH fH = some (if fS (cN (G.getD j z_ 0)) = nI s then lkv T G H t j else 0) := by
  have o := k.2.2.1 j hj
  unfold f_X0_isLink lkv
  rw [c.1.gt hj k.1, bd_some, c.1.gl hj k.1, bd_some, s_atN o.1, bd_some, c_pass c k hj, bd_some, nI_pred]
  by_cases h : G.getD j z_ 2 = nI t
  · rw [if_pos h, if_pos h]
    by_cases h2 : fS (cN (G.getD j z_ 0)) = nI s
    · rw [if_pos h2, if_pos h2]
      split <;> rfl
    · rw [if_neg h2, if_neg h2]
  · rw [if_neg h, if_neg h]
    split <;> rfl
/-- one step of one pass -/
def c1_ (T G : List rw_) (H : Nat → Int32) (t s j : Nat) (q : Int32 × (Nat → Int32)) : Int32 × (Nat → Int32) :=
  if q.2 (cN (G.getD j z_ 1)) = -1 then (if lkv T G H t j = 0 then q else (if q.2 (cN (G.getD j z_ 0)) = nI s then (1, upd q.2 (cN (G.getD j z_ 1)) (nI (s + 1))) else q)) else q
def cl_ (T G : List rw_) (H : Nat → Int32) (t s : Nat) : Nat → Nat → Int32 × (Nat → Int32) → Int32 × (Nat → Int32)
  | 0, _, q => q
  | n + 1, j, q => cl_ T G H t s n (j + 1) (c1_ T G H t s j q)
theorem upd_id {f : Nat → Int32} {k : Nat} : upd f k (f k) = f := by
  funext j
  by_cases e : j = k
  · rw [e, pk_us]
  · rw [pk_un e]
theorem h_cl {rT rG rH : Int32} {fT fG fH H : Nat → Int32} {T G : List rw_} (c : QC rT fT rG fG rH fH T G H) (k : QK T G H) {t s : Nat} : ∀ (n j F : Nat) (q : Int32 × (Nat → Int32)), n + j = G.length → n < F → f_X0_measure_L62 (nI t) (nI (s + 1)) (1 : Int32) rT fT rG fG rH fH F q.1 (nI j) q.2 = some (cl_ T G H t s n j q)
  | _, _, 0, _, _, hF => absurd hF (by omega)
  | 0, j, F + 1, q, hk, hF => by
    have := k.1
    have hle : nI G.length ≤ nI j := q_le (by omega) (by omega) (by omega)
    unfold f_X0_measure_L62 cl_
    rw [c.1.rows, bd_some, if_pos hle]
  | n + 1, j, F + 1, q, hk, hF => by
    have := k.1
    have hle : ¬ nI G.length ≤ nI j := q_nle (by omega) (by omega) (by omega)
    have ek : nI j + (1 : Int32) = nI (j + 1) := n_at
    have o := k.2.2.1 j (by omega)
    have ih := fun q => h_cl (t := t) (s := s) c k n (j + 1) F q (by omega) (by omega)
    unfold f_X0_measure_L62 cl_ c1_
    rw [c.1.rows, bd_some, if_neg hle, c.1.gb (by omega) k.1, bd_some, s_atN o.2.1, bd_some, c_lnk c k (by omega), bd_some, s_putN o.2.1, bd_some]
    simp only [nm_eq, ek]
    by_cases h1 : q.2 (cN (G.getD j z_ 1)) = -1
    · rw [if_pos h1, if_pos h1]
      by_cases h2 : lkv T G H t j = 0
      · rw [h2, if_pos (by split <;> rfl), if_pos rfl, ih]
      · rw [if_neg h2]
        by_cases h3 : q.2 (cN (G.getD j z_ 0)) = nI s
        · rw [if_pos h3, if_neg h2, if_pos h3, ← ih]
        · rw [if_neg h3, if_pos rfl, if_neg h3, ih]
    · rw [if_neg h1, if_neg h1, ih]
theorem m_cl {al ho H : Nat → Int32} {T G : List rw_} (m : QM al ho T G H) (k : QK T G H) {t s : Nat} (ht : t < T.length) : ∀ (n j F : Nat) (q : Int32 × (Nat → Int32)), n + j = G.length → n < F → f_X6_measure_L44 (nI t) (nI s) al ho F (nI j) q.2 = some (cl_ T G H t s n j q).2
  | _, _, 0, _, _, hF => absurd hF (by omega)
  | 0, j, F + 1, q, hk, hF => by
    have := k.1
    have hle : nI G.length ≤ nI j := q_le (by omega) (by omega) (by omega)
    unfold f_X6_measure_L44 cl_
    rw [ix5, m.1.e5, if_pos hle]
  | n + 1, j, F + 1, q, hk, hF => by
    have := k.1
    have hle : ¬ nI G.length ≤ nI j := q_nle (by omega) (by omega) (by omega)
    have ek : nI j + (1 : Int32) = nI (j + 1) := n_at
    have es : nI s + (1 : Int32) = nI (s + 1) := n_at
    have o := k.2.2.1 j (by omega)
    have ih := fun q => m_cl (t := t) (s := s) m k ht n (j + 1) F q (by omega) (by omega)
    have eb : (G.getD j z_ 1).toNatClampNeg = cN (G.getD j z_ 1) := rfl
    have el : (G.getD j z_ 0).toNatClampNeg = cN (G.getD j z_ 0) := rfl
    unfold f_X6_measure_L44 cl_ c1_
    rw [ix5, m.1.e5, if_neg hle, q_lnk m k (by omega) ht, bd_some, m.1.b (by omega) k.1, bd_some, m.1.l (by omega) k.1, bd_some]
    simp only [bd_some, ixN o.2.1 (show 10 < 100000 by omega), ixN o.1 (show 10 < 100000 by omega), nm_eq, ek, es, eb, el, upd_id, ih]
    by_cases h2 : lkv T G H t j = 0
    · rw [if_pos h2, if_pos h2]
      rw [show (if q.2 (cN (G.getD j z_ 1)) = -1 then q else q) = q by split <;> rfl]
    · rw [if_neg h2, if_neg h2]
      by_cases h3 : q.2 (cN (G.getD j z_ 0)) = nI s
      · rw [if_pos h3, if_pos h3]
        by_cases h1 : q.2 (cN (G.getD j z_ 1)) = -1
        · rw [if_pos h1, if_pos h1, ← ih]
        · rw [if_neg h1, if_neg h1]
      · rw [if_neg h3, if_neg h3]
        rw [show (if q.2 (cN (G.getD j z_ 1)) = -1 then q else q) = q by split <;> rfl]
