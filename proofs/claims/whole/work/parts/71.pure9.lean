/-! ===== PURE: counting bits, pairs, idle grants; patience; reasons ===== -/
theorem nI_or (a b : Nat) : nI a ||| nI b = nI (a ||| b) := by
  apply Int32.toBitVec_inj.mp
  show BitVec.ofNat 32 a ||| BitVec.ofNat 32 b = BitVec.ofNat 32 (a ||| b)
  exact (BitVec.ofNat_or).symm
theorem or1k {x y : Int32} (o : okN 1024 x) (o' : okN 1024 y) : okN 1024 (x ||| y) := by
  rw [o.1, o'.1, nI_or]
  exact okN_nI (Nat.or_lt_two_pow (n := 10) o.2 o'.2) (by omega)
theorem shl_ok : ∀ p : Fin 10, okN 1024 ((1 : Int32) <<< (nI p &&& 31)) := by
  show ∀ p : Fin 10, (1 : Int32) <<< (nI p &&& 31) = nI (cN ((1 : Int32) <<< (nI p &&& 31))) ∧ cN ((1 : Int32) <<< (nI p &&& 31)) < 1024
  decide +kernel
theorem okN_0 : okN 1024 0 := by
  show (0 : Int32) = nI (cN 0) ∧ cN 0 < 1024
  decide +kernel
theorem who_ok {H : Nat → Int32} {t : Nat} {x : Int32} : ∀ (n p : Nat) (a : Int32), n + p = 10 → okN 1024 a → okN 1024 (who_ H t x n p a)
  | 0, _, _, _, h => h
  | n + 1, p, a, hp, h => by
    unfold who_
    refine who_ok n (p + 1) _ (by omega) ?_
    split
    · exact h
    · exact or1k h (shl_ok ⟨p, by omega⟩)
theorem see_ok {H : Nat → Int32} {p : Nat} : ∀ (n t : Nat) (a : Int32), n + t ≤ 10 → okN 1024 a → okN 1024 (see_ H p n t a)
  | 0, _, _, _, h => h
  | n + 1, t, a, hp, h => by
    unfold see_
    refine see_ok n (t + 1) _ (by omega) ?_
    split
    · exact h
    · exact or1k h (shl_ok ⟨t, by omega⟩)
theorem bits_eq : ∀ n : Fin 1024, f_X6_bits (nI n) = f_J6_bitCount_0f7a4 (nI n) := by decide +kernel
theorem q_bits {x : Int32} (o : okN 1024 x) : ∃ v : Int32, f_J6_bitCount_0f7a4 x = some v ∧ f_X6_bits x = some v := by
  have e := bits_eq ⟨cN x, o.2⟩
  have e : f_X6_bits (nI (cN x)) = f_J6_bitCount_0f7a4 (nI (cN x)) := e
  rw [← o.1] at e
  exact ⟨_, rfl, e⟩
theorem h_whoHas {rT rG rH : Int32} {fT fG fH H : Nat → Int32} {T G : List rw_} (c : QC rT fT rG fG rH fH T G H) (k : QK T G H) {t : Nat} {x : Int32} (ht : t < T.length) : f_X2_holdersOf (nI t) x rH fH = some (who_ H t x 10 0 0) := by
  have e := h_who (x := x) c k ht 10 0 FU 0 (by omega) (by unfold FU; omega)
  have e : f_X2_holdersOf_L5 (nI t) x rH fH FU 0 (0 : Int32) = some (who_ H t x 10 0 0) := e
  unfold f_X2_holdersOf
  rw [e, bd_some]
theorem m_whoHas {al ho H : Nat → Int32} {T G : List rw_} (m : QM al ho T G H) (k : QK T G H) {t : Nat} {x : Int32} (ht : t < T.length) : f_X6_whoHas (nI t) x ho = some (who_ H t x 10 0 0) := by
  have e := m_who (x := x) m k ht 10 0 FU 0 (by omega) (by unfold FU; omega)
  have e : f_X6_whoHas_L5 (nI t) x ho FU 0 (0 : Int32) = some (who_ H t x 10 0 0) := e
  unfold f_X6_whoHas
  rw [e, bd_some]
def bcv (x : Int32) : Int32 := (f_J6_bitCount_0f7a4 x).getD 0
theorem bc_c {x : Int32} : f_J6_bitCount_0f7a4 x = some (bcv x) := rfl
theorem bc_m {x : Int32} (o : okN 1024 x) : f_X6_bits x = some (bcv x) := by
  have e := bits_eq ⟨cN x, o.2⟩
  have e : f_X6_bits (nI (cN x)) = f_J6_bitCount_0f7a4 (nI (cN x)) := e
  rw [← o.1] at e
  exact e
/-- the pairs that see -/
def prs_ (H : Nat → Int32) : Nat → Nat → Int32 → Int32
  | 0, _, a => a
  | n + 1, t, a => prs_ H n (t + 1) (a + bcv (who_ H t 1 10 0 0))
def prs (T : List rw_) (H : Nat → Int32) : Int32 := prs_ H T.length 0 0
theorem h_prs {rT rG rH : Int32} {fT fG fH H : Nat → Int32} {T G : List rw_} (c : QC rT fT rG fG rH fH T G H) (k : QK T G H) : ∀ (n t F : Nat) (a : Int32), n + t = T.length → n < F → f_X2_countPairs_L4 rT rH fH F a (nI t) = some (prs_ H n t a)
  | _, _, 0, _, _, hF => absurd hF (by omega)
  | 0, t, F + 1, a, hk, hF => by
    have := k.2.1
    have hle : nI T.length ≤ nI t := q_le (by omega) (by omega) (by omega)
    unfold f_X2_countPairs_L4 prs_
    rw [c.2.1.rows, bd_some, if_pos hle]
  | n + 1, t, F + 1, a, hk, hF => by
    have := k.2.1
    have hle : ¬ nI T.length ≤ nI t := q_nle (by omega) (by omega) (by omega)
    have ek : nI t + (1 : Int32) = nI (t + 1) := n_at
    unfold f_X2_countPairs_L4 prs_
    rw [c.2.1.rows, bd_some, if_neg hle, h_whoHas c k (by omega), bd_some, bc_c, bd_some, nm_eq, nm_eq, ek]
    exact h_prs c k n (t + 1) F _ (by omega) (by omega)
theorem c_pairs {rT rG rH : Int32} {fT fG fH H : Nat → Int32} {T G : List rw_} (c : QC rT fT rG fG rH fH T G H) (k : QK T G H) : f_X2_countPairs rT rH fH = some (prs T H) := by
  have := k.2.1
  have e := h_prs c k T.length 0 FU 0 (by omega) (by unfold FU; omega)
  have e : f_X2_countPairs_L4 rT rH fH FU 0 (0 : Int32) = some (prs T H) := e
  unfold f_X2_countPairs
  rw [e, bd_some]
theorem m_prs {al ho H : Nat → Int32} {T G : List rw_} (m : QM al ho T G H) (k : QK T G H) : ∀ (n t F : Nat) (a : Int32), n + t = T.length → n < F → f_X6_pairs_L8 al ho F a (nI t) = some (prs_ H n t a)
  | _, _, 0, _, _, hF => absurd hF (by omega)
  | 0, t, F + 1, a, hk, hF => by
    have := k.2.1
    have hle : nI T.length ≤ nI t := q_le (by omega) (by omega) (by omega)
    unfold f_X6_pairs_L8 prs_
    rw [ix4, m.2.1.e4, if_pos hle]
  | n + 1, t, F + 1, a, hk, hF => by
    have := k.2.1
    have hle : ¬ nI T.length ≤ nI t := q_nle (by omega) (by omega) (by omega)
    have ek : nI t + (1 : Int32) = nI (t + 1) := n_at
    unfold f_X6_pairs_L8 prs_
    rw [ix4, m.2.1.e4, if_neg hle, m_whoHas m k (by omega), bd_some, bc_m (who_ok 10 0 0 (by omega) okN_0), bd_some, nm_eq, nm_eq, ek]
    exact m_prs m k n (t + 1) F _ (by omega) (by omega)
/-- the model's conditions without what is laid out -/
def QA (al : Nat → Int32) (T G : List rw_) : Prop := MG al G ∧ MT al T
def QG (T G : List rw_) : Prop := G.length ≤ 40 ∧ T.length ≤ 8 ∧ okGs T G ∧ okTs T
theorem QG.k {T G : List rw_} (h : QG T G) : QK T G (hd T G) := ⟨h.1, h.2.1, h.2.2.1, h.2.2.2, hd_ok h.2.2.1 h.2.2.2⟩
theorem q_lay {al : Nat → Int32} {T G : List rw_} (a : QA al T G) (g : QG T G) (ho : Nat → Int32) : ∃ ho' : Nat → Int32, f_X6_lay al ho = some ho' ∧ QM al ho' T G (hd T G) := by
  obtain ⟨h', e1, e2⟩ := m_lay (ho := ho) a.1 a.2 g.1 g.2.1 g.2.2.1 g.2.2.2
  exact ⟨h', e1, a.1, a.2, e2⟩
theorem q_pairs {al : Nat → Int32} {T G : List rw_} (a : QA al T G) (g : QG T G) (ho : Nat → Int32) : ∃ ho' : Nat → Int32, f_X6_pairs al ho = some (prs T (hd T G), ho') ∧ QM al ho' T G (hd T G) := by
  obtain ⟨h', e1, m⟩ := q_lay a g ho
  have := g.2.1
  have e := m_prs m g.k T.length 0 FU 0 (by omega) (by unfold FU; omega)
  have e : f_X6_pairs_L8 al h' FU 0 (0 : Int32) = some (prs T (hd T G)) := e
  refine ⟨h', ?_, m⟩
  unfold f_X6_pairs
  rw [e1, bd_some, e, bd_some]
/-- idle grants -/
def idl_ (T G : List rw_) (H : Nat → Int32) : Nat → Nat → Int32 → Int32
  | 0, _, a => a
  | n + 1, j, a => idl_ T G H n (j + 1) (if pa T G H j = 0 then a + 1 else a)
theorem h_idle {rT rG rH : Int32} {fT fG fH H : Nat → Int32} {T G : List rw_} (c : QC rT fT rG fG rH fH T G H) (k : QK T G H) : ∀ (n j F : Nat) (a : Int32), n + j = G.length → n < F → f_X2_countIdleGrants_L4 rT fT rG fG rH fH F a (nI j) = some (idl_ T G H n j a)
  | _, _, 0, _, _, hF => absurd hF (by omega)
  | 0, j, F + 1, a, hk, hF => by
    have := k.1
    have hle : nI G.length ≤ nI j := q_le (by omega) (by omega) (by omega)
    unfold f_X2_countIdleGrants_L4 idl_
    rw [c.1.rows, bd_some, if_pos hle]
  | n + 1, j, F + 1, a, hk, hF => by
    have := k.1
    have hle : ¬ nI G.length ≤ nI j := q_nle (by omega) (by omega) (by omega)
    have ek : nI j + (1 : Int32) = nI (j + 1) := n_at
    unfold f_X2_countIdleGrants_L4 idl_
    rw [c.1.rows, bd_some, if_neg hle, c_pass c k (by omega), bd_some]
    by_cases hx : pa T G H j = 0
    · rw [if_pos hx, if_pos hx, nm_eq, nm_eq, ek]
      exact h_idle c k n (j + 1) F _ (by omega) (by omega)
    · rw [if_neg hx, if_neg hx, nm_eq, ek]
      exact h_idle c k n (j + 1) F _ (by omega) (by omega)
theorem m_idle {al ho H : Nat → Int32} {T G : List rw_} (m : QM al ho T G H) (k : QK T G H) : ∀ (n j F : Nat) (a : Int32), n + j = G.length → n < F → f_X6_idle_L4 al ho F a (nI j) = some (idl_ T G H n j a)
  | _, _, 0, _, _, hF => absurd hF (by omega)
  | 0, j, F + 1, a, hk, hF => by
    have := k.1
    have hle : nI G.length ≤ nI j := q_le (by omega) (by omega) (by omega)
    unfold f_X6_idle_L4 idl_
    rw [ix5, m.1.e5, if_pos hle]
  | n + 1, j, F + 1, a, hk, hF => by
    have := k.1
    have hle : ¬ nI G.length ≤ nI j := q_nle (by omega) (by omega) (by omega)
    have ek : nI j + (1 : Int32) = nI (j + 1) := n_at
    unfold f_X6_idle_L4 idl_
    rw [ix5, m.1.e5, if_neg hle, q_pass m k (by omega), bd_some]
    by_cases hx : pa T G H j = 0
    · rw [if_pos hx, if_pos hx, nm_eq, nm_eq, ek]
      exact m_idle m k n (j + 1) F _ (by omega) (by omega)
    · rw [if_neg hx, if_neg hx, nm_eq, nm_eq, ek, z_add]
      exact m_idle m k n (j + 1) F _ (by omega) (by omega)
theorem c_idle {rT rG rH : Int32} {fT fG fH H : Nat → Int32} {T G : List rw_} (c : QC rT fT rG fG rH fH T G H) (k : QK T G H) : f_X2_countIdleGrants rT fT rG fG rH fH = some (idl_ T G H G.length 0 0) := by
  have := k.1
  have e := h_idle c k G.length 0 FU 0 (by omega) (by unfold FU; omega)
  have e : f_X2_countIdleGrants_L4 rT fT rG fG rH fH FU 0 (0 : Int32) = some (idl_ T G H G.length 0 0) := e
  unfold f_X2_countIdleGrants
  rw [e, bd_some]
theorem q_idle {al ho H : Nat → Int32} {T G : List rw_} (m : QM al ho T G H) (k : QK T G H) : f_X6_idle al ho = some (idl_ T G H G.length 0 0) := by
  have := k.1
  have e := m_idle m k G.length 0 FU 0 (by omega) (by unfold FU; omega)
  have e : f_X6_idle_L4 al ho FU 0 (0 : Int32) = some (idl_ T G H G.length 0 0) := e
  unfold f_X6_idle
  rw [e, bd_some]
/-- the greatest threshold -/
def gre_ (G : List rw_) (x : Int32) : Nat → Nat → Int32 → Int32
  | 0, _, a => a
  | n + 1, j, a => gre_ G x n (j + 1) (if G.getD j z_ 0 = x then (if a < G.getD j z_ 4 then G.getD j z_ 4 else a) else a)
theorem h_gre {rG : Int32} {fG : Nat → Int32} {G : List rw_} {x : Int32} (h : RT 6 rG fG G) (hl : G.length ≤ 40) : ∀ (n j F : Nat) (a : Int32), n + j = G.length → n < F → f_X2_greatestThreshold_L4 x rG fG F a (nI j) = some (gre_ G x n j a)
  | _, _, 0, _, _, hF => absurd hF (by omega)
  | 0, j, F + 1, a, hk, hF => by
    have hle : nI G.length ≤ nI j := q_le (by omega) (by omega) (by omega)
    unfold f_X2_greatestThreshold_L4 gre_
    rw [h.rows, bd_some, if_pos hle]
  | n + 1, j, F + 1, a, hk, hF => by
    have hle : ¬ nI G.length ≤ nI j := q_nle (by omega) (by omega) (by omega)
    have ek : nI j + (1 : Int32) = nI (j + 1) := n_at
    unfold f_X2_greatestThreshold_L4 gre_
    rw [h.rows, bd_some, if_neg hle, h.gl (by omega) hl, bd_some]
    by_cases hx : G.getD j z_ 0 = x
    · rw [if_pos hx, if_pos hx, h.gh (by omega) hl, bd_some, nm_eq, nm_eq, ek]
      exact h_gre h hl n (j + 1) F _ (by omega) (by omega)
    · rw [if_neg hx, if_neg hx, nm_eq, ek]
      exact h_gre h hl n (j + 1) F _ (by omega) (by omega)
theorem m_gre {al : Nat → Int32} {G : List rw_} {x : Int32} (h : MG al G) (hl : G.length ≤ 40) : ∀ (n j F : Nat) (a : Int32), n + j = G.length → n < F → f_X6_patience_L19 x al F a (nI j) = some (gre_ G x n j a)
  | _, _, 0, _, _, hF => absurd hF (by omega)
  | 0, j, F + 1, a, hk, hF => by
    have hle : nI G.length ≤ nI j := q_le (by omega) (by omega) (by omega)
    unfold f_X6_patience_L19 gre_
    rw [ix5, h.e5, if_pos hle]
  | n + 1, j, F + 1, a, hk, hF => by
    have hle : ¬ nI G.length ≤ nI j := q_nle (by omega) (by omega) (by omega)
    have ek : nI j + (1 : Int32) = nI (j + 1) := n_at
    unfold f_X6_patience_L19 gre_
    rw [ix5, h.e5, if_neg hle, h.l (by omega) hl, bd_some]
    by_cases hx : G.getD j z_ 0 = x
    · rw [if_pos hx, if_pos hx, h.h (by omega) hl, bd_some]
      by_cases hy : G.getD j z_ 4 ≤ a
      · rw [if_pos hy, if_neg (Int32.not_lt.mpr hy), nm_eq, ek]
        exact m_gre h hl n (j + 1) F _ (by omega) (by omega)
      · rw [if_neg hy, if_pos (Int32.not_le.mp hy), bd_some, nm_eq, ek]
        exact m_gre h hl n (j + 1) F _ (by omega) (by omega)
    · rw [if_neg hx, if_neg hx, nm_eq, ek]
      exact m_gre h hl n (j + 1) F _ (by omega) (by omega)
