/-! ===== PURE: the mean of the chains ===== -/
def sumr (f : Nat → Nat) : Nat → Nat → Nat
  | 0, _ => 0
  | n + 1, x => f x + sumr f n (x + 1)
theorem sumr_c (f : Nat → Nat) : sumr f 10 0 = c10 f := by
  show f 0 + (f 1 + (f 2 + (f 3 + (f 4 + (f 5 + (f 6 + (f 7 + (f 8 + (f 9 + 0))))))))) = _
  unfold c10
  omega
theorem sumr_congr {f g : Nat → Nat} : ∀ (n x : Nat), (∀ i : Nat, i < n + x → g i = f i) → sumr g n x = sumr f n x
  | 0, _, _ => rfl
  | n + 1, x, h => by
    unfold sumr
    rw [h x (by omega), sumr_congr n (x + 1) (fun i hi => h i (by omega))]
def m1_ (F : Nat → Int32) (p : Nat) : Nat := if F p = -1 then 0 else 1
def s1_ (F : Nat → Int32) (p : Nat) : Nat := if F p = -1 then 0 else cN (F p)
theorem h_mean1 {fS : Nat → Int32} (h : ∀ p : Nat, p < 10 → fS p = -1 ∨ ∃ v : Nat, v ≤ 9 ∧ fS p = nI v) : ∀ (n x F M S : Nat), n + x = 10 → n < F → f_X5_meanChain_L35 (1 : Int32) fS F (nI M) (nI S) (nI x) = some (nI (M + sumr (m1_ fS) n x), nI (S + sumr (s1_ fS) n x))
  | _, _, 0, _, _, _, hF => absurd hF (by omega)
  | 0, x, F + 1, M, S, e, hF => by
    unfold f_X5_meanChain_L35 sumr
    rw [if_pos (show (10 : Int32) ≤ nI x from q_le (a := 10) (by omega) (by omega) (by omega))]
    rfl
  | n + 1, x, F + 1, M, S, e, hF => by
    have ek : nI x + (1 : Int32) = nI (x + 1) := n_at
    have eM : nI M + (1 : Int32) = nI (M + 1) := n_at
    unfold f_X5_meanChain_L35 sumr
    rw [if_neg (show ¬ (10 : Int32) ≤ nI x from q_nle (a := 10) (by omega) (by omega) (by omega)), s_at (by omega), bd_some]
    rcases h x (by omega) with h1 | ⟨v, h1, h2⟩
    · have a1 : m1_ fS x = 0 := if_pos h1
      have a2 : s1_ fS x = 0 := if_pos h1
      rw [if_pos h1, nm_eq, ek, h_mean1 h n (x + 1) F M S (by omega) (by omega), a1, a2, Nat.zero_add, Nat.zero_add]
    · have hn : ¬ fS x = -1 := by
        rw [h2]
        exact n_m1 (by omega)
      have a1 : m1_ fS x = 1 := if_neg hn
      have a2 : s1_ fS x = v := by
        unfold s1_
        rw [if_neg hn, h2, cN_nI (by omega)]
      have eS : nI S + fS x = nI (S + v) := by rw [h2, n_at]
      rw [if_neg hn, nm_eq, nm_eq, nm_eq, ek, eM, eS, h_mean1 h n (x + 1) F (M + 1) (S + v) (by omega) (by omega), a1, a2]
      congr 2
      · congr 1
        omega
      · congr 1
        omega
def mt_ (T G : List rw_) : Nat → Nat → Nat
  | 0, _ => 0
  | n + 1, t => c10 (m1_ (far_ T G (hd T G) t)) + mt_ T G n (t + 1)
def st_ (T G : List rw_) : Nat → Nat → Nat
  | 0, _ => 0
  | n + 1, t => c10 (s1_ (far_ T G (hd T G) t)) + st_ T G n (t + 1)
theorem far_v {T G : List rw_} {t : Nat} (q : QG T G) (ht : t < T.length) : ∀ p : Nat, p < 10 → far_ T G (hd T G) t p = -1 ∨ ∃ v : Nat, v ≤ 9 ∧ far_ T G (hd T G) t p = nI v := (far_mr q.k ht).2.1
theorem h_mean2 {rT rG rH : Int32} {fT fG fH : Nat → Int32} {T G : List rw_} (c : QC rT fT rG fG rH fH T G (hd T G)) (q : QG T G) : ∀ (n t F M S : Nat) (fS : Nat → Int32), n + t = T.length → n < F → ∃ fS' : Nat → Int32, f_X5_meanChain_L6 rT fT rG fG rH fH (1 : Int32) F (nI M) (nI S) (nI t) fS = some (nI (M + mt_ T G n t), nI (S + st_ T G n t), fS')
  | _, _, 0, _, _, _, _, hF => absurd hF (by omega)
  | 0, t, F + 1, M, S, fS, e, hF => by
    have := q.2.1
    refine ⟨fS, ?_⟩
    unfold f_X5_meanChain_L6 mt_ st_
    rw [c.2.1.rows, bd_some, if_pos (q_le (by omega) (by omega) (by omega))]
    rfl
  | n + 1, t, F + 1, M, S, fS, e, hF => by
    have := q.2.1
    have ek : nI t + (1 : Int32) = nI (t + 1) := n_at
    obtain ⟨f', e1, e2⟩ := c_measure c q.k (show t < T.length by omega) fS
    have hv : ∀ p : Nat, p < 10 → f' p = -1 ∨ ∃ v : Nat, v ≤ 9 ∧ f' p = nI v := fun p hp => by
      rw [e2 p hp]
      exact far_v q (by omega) p hp
    have e3 := h_mean1 hv 10 0 FU M S (by omega) (by unfold FU; omega)
    have e3 : f_X5_meanChain_L35 (1 : Int32) f' FU (nI M) (nI S) (0 : Int32) = some (nI (M + sumr (m1_ f') 10 0), nI (S + sumr (s1_ f') 10 0)) := e3
    have a1 : sumr (m1_ f') 10 0 = c10 (m1_ (far_ T G (hd T G) t)) := by
      rw [sumr_c]
      refine c10_eq fun p hp => ?_
      unfold m1_
      rw [e2 p hp]
    have a2 : sumr (s1_ f') 10 0 = c10 (s1_ (far_ T G (hd T G) t)) := by
      rw [sumr_c]
      refine c10_eq fun p hp => ?_
      unfold s1_
      rw [e2 p hp]
    rw [a1, a2] at e3
    obtain ⟨fS', e4⟩ := h_mean2 c q n (t + 1) F (M + c10 (m1_ (far_ T G (hd T G) t))) (S + c10 (s1_ (far_ T G (hd T G) t))) f' (by omega) (by omega)
    refine ⟨fS', ?_⟩
    unfold f_X5_meanChain_L6 mt_ st_
    rw [c.2.1.rows, bd_some, if_neg (q_nle (by omega) (by omega) (by omega)), e1, bd_some, e3, bd2_some, nm_eq, ek, e4, Nat.add_assoc, Nat.add_assoc]
theorem m1_le {F : Nat → Int32} {p : Nat} : m1_ F p ≤ 1 := by
  unfold m1_
  split <;> omega
theorem s1_le {F : Nat → Int32} {p : Nat} (h : F p = -1 ∨ ∃ v : Nat, v ≤ 9 ∧ F p = nI v) : s1_ F p ≤ 9 := by
  unfold s1_
  rcases h with h | ⟨v, h1, h2⟩
  · rw [if_pos h]
    omega
  · split
    · omega
    · rw [h2, cN_nI (by omega)]
      exact h1
theorem mt_le {T G : List rw_} : ∀ n t : Nat, mt_ T G n t ≤ 10 * n
  | 0, _ => Nat.le_refl _
  | n + 1, t => by
    have h1 := mt_le (T := T) (G := G) n (t + 1)
    have h2 := c10_b (f := m1_ (far_ T G (hd T G) t)) 1 (fun p _ => m1_le)
    unfold mt_
    omega
theorem st_le {T G : List rw_} (q : QG T G) : ∀ n t : Nat, n + t ≤ T.length → st_ T G n t ≤ 90 * n
  | 0, _, _ => Nat.le_refl _
  | n + 1, t, h => by
    have h1 := st_le q n (t + 1) (by omega)
    have h2 := c10_b (f := s1_ (far_ T G (hd T G) t)) 9 (fun p hp => s1_le (far_v q (by omega) p hp))
    unfold st_
    omega
theorem mt_m {T G : List rw_} (q : QG T G) : ∀ n t : Nat, n + t ≤ T.length → mt_ (T.map mT) (G.map mG) n t = mt_ T G n t
  | 0, _, _ => rfl
  | n + 1, t, h => by
    have hf := far_m (t := t) q (by omega)
    unfold mt_
    rw [mt_m q n (t + 1) (by omega), c10_rev (f := m1_ (far_ T G (hd T G) t)) (fun p hp => by unfold m1_; rw [hf p hp])]
theorem st_m {T G : List rw_} (q : QG T G) : ∀ n t : Nat, n + t ≤ T.length → st_ (T.map mT) (G.map mG) n t = st_ T G n t
  | 0, _, _ => rfl
  | n + 1, t, h => by
    have hf := far_m (t := t) q (by omega)
    unfold st_
    rw [st_m q n (t + 1) (by omega), c10_rev (f := s1_ (far_ T G (hd T G) t)) (fun p hp => by unfold s1_; rw [hf p hp])]
def mv_ (M S : Nat) : UInt64 := if M = 0 then FP.dconst0 else FP.ddiv (FP.i2d (nI S)) (FP.i2d (nI M))
def mean_ (T G : List rw_) : UInt64 := mv_ (mt_ T G T.length 0) (st_ T G T.length 0)
theorem mean_m {T G : List rw_} (q : QG T G) : mean_ (T.map mT) (G.map mG) = mean_ T G := by
  unfold mean_
  rw [List.length_map, mt_m q _ _ (by omega), st_m q _ _ (by omega)]
theorem x_mean {rP rT rG rL rH : Int32} {fP fT fG fL fH : Nat → Int32} {P T G Lg : List rw_} (o : OS P T G Lg) (c : CS rP fP rT fT rG fG rL fL rH fH P T G Lg) (fS : Nat → Int32) : ∃ fS' : Nat → Int32, f_X5_meanChain rT fT rG fG rH fH 1 fS = some (mean_ T G, fS') := by
  have q := o.2.2.1
  have hT := q.2.1
  obtain ⟨f', e⟩ := h_mean2 c.2.1 q T.length 0 FU 0 0 fS (by omega) (by unfold FU; omega)
  have e : f_X5_meanChain_L6 rT fT rG fG rH fH (1 : Int32) FU (0 : Int32) (0 : Int32) (0 : Int32) fS = some (nI (0 + mt_ T G T.length 0), nI (0 + st_ T G T.length 0), f') := e
  rw [Nat.zero_add, Nat.zero_add] at e
  have h1 := mt_le (T := T) (G := G) T.length 0
  have h2 := st_le q T.length 0 (by omega)
  refine ⟨f', ?_⟩
  unfold f_X5_meanChain mean_ mv_
  rw [e, bd3_some]
  by_cases h0 : mt_ T G T.length 0 = 0
  · rw [h0, if_pos (show nI 0 = (0 : Int32) from rfl), if_pos rfl]
  · rw [if_neg (fun z => h0 ((n_zero (by omega)).mp z)), if_neg h0, nz_ok (by omega) (by omega) (by omega)]
/-! a mean is the same as itself: it is no NaN -/
theorem cmp_self (a : Int) : compare a a = Ordering.eq := by
  show compareOfLessAndEq a a = Ordering.eq
  unfold compareOfLessAndEq
  rw [if_neg (Int.lt_irrefl a), if_pos rfl]
theorem ord_self (d : FP.Core.Datum) (h : ¬ d = .nan) : FP.Core.order d d = some Ordering.eq := by
  cases d with
  | nan => exact absurd rfl h
  | inf s => exact congrArg some (cmp_self _)
  | fin s c q => exact congrArg some (cmp_self _)
theorem dec_nn {n : Nat} (h : n % 2 ^ 63 ≤ 9218868437227405312) : ¬ FP.Core.decode FP.Core.b64 n = .nan := by
  have h2 : n % 2 ^ 63 = n % 2 ^ 52 + 2 ^ 52 * (n / 2 ^ 52 % 2 ^ 11) := by
    rw [show (2 : Nat) ^ 63 = 2 ^ 52 * 2 ^ 11 from rfl, Nat.mod_mul]
  unfold FP.Core.decode
  by_cases c1 : FP.Core.fieldE FP.Core.b64 n = FP.Core.b64.exps - 1
  · rw [if_pos c1]
    have c1 : n / 2 ^ 52 % 2 ^ 11 = 2047 := c1
    have c2 : FP.Core.fieldT FP.Core.b64 n = 0 := by
      show n % 2 ^ 52 = 0
      rw [c1] at h2
      omega
    rw [if_pos c2]
    exact fun z => nomatch z
  · rw [if_neg c1]
    split
    · exact fun z => nomatch z
    · exact fun z => nomatch z
theorem mv_self {M S : Nat} (hM : M < 1000) (hS : S < 1000) : Op.cmpValue (FP.dcmp (mv_ M S) (mv_ M S)) .l = 0 := by
  have key : ¬ FP.Core.decode FP.Core.b64 (mv_ M S).toNat = .nan := by
    refine dec_nn ?_
    unfold mv_
    by_cases h0 : M = 0
    · rw [if_pos h0]
      decide
    · rw [if_neg h0]
      have h1 := (nz_of (nz_ok (γ := Unit) (k := some ()) hS hM (by omega))).1
      have h1 : FP.ddiv (FP.i2d (nI S)) (FP.i2d (nI M)) &&& 0x7fffffffffffffff ≤ 0x7ff0000000000000 := h1
      rw [UInt64.le_iff_toNat_le, UInt64.toNat_and] at h1
      have h1 : (FP.ddiv (FP.i2d (nI S)) (FP.i2d (nI M))).toNat &&& (2 ^ 63 - 1) ≤ 9218868437227405312 := h1
      rw [Nat.and_two_pow_sub_one_eq_mod] at h1
      exact h1
  have e : FP.dcmp (mv_ M S) (mv_ M S) = some Ordering.eq := ord_self _ key
  rw [e]
  rfl
