/-! ===== PURE: the digest ===== -/
theorem m_adds (v : Int32) (s : Int64) : f_X6_adds v s = some (((31 : Int64) * s) + v.toInt64) := rfl
theorem d_house {rP rT rG rL rH gi di re ti : Int32} {fP fT fG fL fH al : Nat → Int32} {P T G Lg : List rw_} (o : OS P T G Lg) (c : CS rP fP rT fT rG fG rL fL rH fH P T G Lg) (ms : MS al P T G Lg gi di re ti) : ∀ (n j F F' : Nat) (s : Int64) (ho : Nat → Int32), n + j = 9 → n < F → n < F' → ∃ (s' : Int64) (ho' : Nat → Int32), f_X5_digest_L15 rT fT rG fG rL rH fH gi di re ti F s (nI j) = some s' ∧ f_X6_digest_L22 al F' (nI j) ho s = some (ho', s')
  | _, _, 0, _, _, _, _, hF, _ => absurd hF (by omega)
  | _, _, _, 0, _, _, _, _, hF => absurd hF (by omega)
  | 0, j, F + 1, F' + 1, s, ho, h, _, _ => by
    refine ⟨s, ho, ?_, ?_⟩
    · unfold f_X5_digest_L15
      rw [if_pos (show (8 : Int32) < nI j from q_lt (a := 8) (by omega) (by omega) (by omega))]
    · unfold f_X6_digest_L22
      rw [if_pos (show (9 : Int32) ≤ nI j from q_le (a := 9) (by omega) (by omega) (by omega))]
  | n + 1, j, F + 1, F' + 1, s, ho, h, h1, h2 => by
    have ek : nI j + (1 : Int32) = nI (j + 1) := n_at
    obtain ⟨v, h', v1, v2⟩ := t_house c.2.1 c.2.2 o.2.2.1 ms.qa ms.2.2.2.2 ms.2.2.2.1 ho (j := j) (by omega)
    obtain ⟨s', ho', r1, r2⟩ := d_house o c ms n (j + 1) F F' (((31 : Int64) * s) + v.toInt64) h' (by omega) (by omega) (by omega)
    refine ⟨s', ho', ?_, ?_⟩
    · unfold f_X5_digest_L15
      rw [if_neg (show ¬ (8 : Int32) < nI j from q_nlt (a := 8) (by omega) (by omega) (by omega)), v1, bd_some, nm_eq, nm_eq, ek]
      exact r1
    · unfold f_X6_digest_L22
      rw [if_neg (show ¬ (9 : Int32) ≤ nI j from q_nle (a := 9) (by omega) (by omega) (by omega)), v2, bd2_some, m_adds, bd_some, nm_eq, ek]
      exact r2
theorem d_per1 {rP rT rG rH : Int32} {fP fT fG fH al ho : Nat → Int32} {P T G : List rw_} (hP : RT 2 rP fP P) (hPl : P.length = 10) (c : QC rT fT rG fG rH fH T G (hd T G)) (k : QK T G (hd T G)) (mp : MP al P) (m : QM al ho T G (hd T G)) {p : Nat} (hp : p < 10) : ∀ (n j F : Nat) (s : Int64), n + j = 7 → n < F → ∃ s' : Int64, f_X5_hashOfPersons_L15 (nI p) rP fP rT fT rG fG rH fH F s (nI j) = some s' ∧ ∀ F' : Nat, f_X6_digest_L49 al ho (F' + n) (nI (7 * p + j)) s = f_X6_digest_L49 al ho F' (nI (7 * p + 7)) s'
  | _, _, 0, _, _, hF => absurd hF (by omega)
  | 0, j, F + 1, s, h, _ => by
    have hj : j = 7 := by omega
    subst hj
    refine ⟨s, ?_, fun F' => rfl⟩
    unfold f_X5_hashOfPersons_L15
    rw [if_pos (show (6 : Int32) < nI 7 by decide)]
  | n + 1, j, F + 1, s, h, h1 => by
    have ek : nI j + (1 : Int32) = nI (j + 1) := n_at
    obtain ⟨v, v1, v2⟩ := t_person hP hPl c k mp m hp (nI j)
    obtain ⟨s', r1, r2⟩ := d_per1 hP hPl c k mp m hp n (j + 1) F (((31 : Int64) * s) + v.toInt64) (by omega) (by omega)
    refine ⟨s', ?_, fun F' => ?_⟩
    · unfold f_X5_hashOfPersons_L15
      rw [if_neg (show ¬ (6 : Int32) < nI j from q_nlt (a := 6) (by omega) (by omega) (by omega)), v1, bd_some, nm_eq, nm_eq, ek]
      exact r1
    · have ed : nI (7 * p + j) / (7 : Int32) = nI p := by
        have e := pk_div (a := 7 * p + j) (d := 7) (by omega) (by omega) (by omega)
        rw [show (7 * p + j) / 7 = p by omega] at e
        exact e
      have er : nI (7 * p + j) - nI p * (7 : Int32) = nI j := by
        rw [show (7 : Int32) = nI 7 from rfl, n_mul, pk_sub (by omega), show 7 * p + j - p * 7 = j by omega]
      have e1 : nI (7 * p + j) + (1 : Int32) = nI (7 * p + (j + 1)) := n_at
      have := r2 F'
      rw [← Nat.add_assoc]
      conv => lhs; unfold f_X6_digest_L49
      rw [if_neg (show ¬ (70 : Int32) ≤ nI (7 * p + j) from q_nle (a := 70) (by omega) (by omega) (by omega)), ed, er, v2, bd_some, m_adds, bd_some, nm_eq, e1]
      exact this
theorem d_per {rP rT rG rH : Int32} {fP fT fG fH al ho : Nat → Int32} {P T G : List rw_} (hP : RT 2 rP fP P) (hPl : P.length = 10) (c : QC rT fT rG fG rH fH T G (hd T G)) (k : QK T G (hd T G)) (mp : MP al P) (m : QM al ho T G (hd T G)) : ∀ (n p F F' : Nat) (s : Int64), n + p = 10 → n < F → 0 < F' → ∃ s' : Int64, f_X5_hashOfPersons_L5 rP fP rT fT rG fG rH fH F s (nI p) = some s' ∧ f_X6_digest_L49 al ho (F' + 7 * n) (nI (7 * p)) s = some s'
  | _, _, 0, _, _, _, hF, _ => absurd hF (by omega)
  | _, _, _, 0, _, _, _, hF => absurd hF (by omega)
  | 0, p, F + 1, F' + 1, s, h, _, _ => by
    refine ⟨s, ?_, ?_⟩
    · unfold f_X5_hashOfPersons_L5
      rw [if_pos (show (10 : Int32) ≤ nI p from q_le (a := 10) (by omega) (by omega) (by omega))]
    · show f_X6_digest_L49 al ho (F' + 1) (nI (7 * p)) s = some s
      unfold f_X6_digest_L49
      rw [if_pos (show (70 : Int32) ≤ nI (7 * p) from q_le (a := 70) (by omega) (by omega) (by omega))]
  | n + 1, p, F + 1, F' + 1, s, h, h1, h2 => by
    have ek : nI p + (1 : Int32) = nI (p + 1) := n_at
    obtain ⟨s1, a1, a2⟩ := d_per1 hP hPl c k mp m (p := p) (by omega) 7 0 FU s (by omega) (by unfold FU; omega)
    have a1 : f_X5_hashOfPersons_L15 (nI p) rP fP rT fT rG fG rH fH FU s (0 : Int32) = some s1 := a1
    obtain ⟨s', r1, r2⟩ := d_per hP hPl c k mp m n (p + 1) F (F' + 1) s1 (by omega) (by omega) (by omega)
    refine ⟨s', ?_, ?_⟩
    · unfold f_X5_hashOfPersons_L5
      rw [if_neg (show ¬ (10 : Int32) ≤ nI p from q_nle (a := 10) (by omega) (by omega) (by omega)), a1, bd_some, nm_eq, ek]
      exact r1
    · have a3 := a2 (F' + 1 + 7 * n)
      rw [Nat.add_zero (7 * p)] at a3
      rw [show F' + 1 + 7 * (n + 1) = F' + 1 + 7 * n + 7 by omega, a3]
      exact r2
theorem d_thi1 {rT rG rH : Int32} {fT fG fH al ho : Nat → Int32} {T G : List rw_} (c : QC rT fT rG fG rH fH T G (hd T G)) (k : QK T G (hd T G)) (m : QM al ho T G (hd T G)) {t : Nat} (ht : t < T.length) : ∀ (n j F : Nat) (s : Int64), n + j = 6 → n < F → ∃ s' : Int64, f_X5_hashOfThings_L23 (nI t) rT fT rG fG rH fH F s (nI j) = some s' ∧ ∀ F' : Nat, f_X6_digest_L79 al ho (F' + n) (nI (6 * t + j)) s = f_X6_digest_L79 al ho F' (nI (6 * t + 6)) s'
  | _, _, 0, _, _, hF => absurd hF (by omega)
  | 0, j, F + 1, s, h, _ => by
    have hj : j = 6 := by omega
    subst hj
    refine ⟨s, ?_, fun F' => rfl⟩
    unfold f_X5_hashOfThings_L23
    rw [if_pos (show (5 : Int32) < nI 6 by decide)]
  | n + 1, j, F + 1, s, h, h1 => by
    have hT := k.2.1
    have ek : nI j + (1 : Int32) = nI (j + 1) := n_at
    obtain ⟨v, v1, v2⟩ := t_thing c k m ht (j := j) (by omega)
    obtain ⟨s', r1, r2⟩ := d_thi1 c k m ht n (j + 1) F (((31 : Int64) * s) + v.toInt64) (by omega) (by omega)
    refine ⟨s', ?_, fun F' => ?_⟩
    · unfold f_X5_hashOfThings_L23
      rw [if_neg (show ¬ (5 : Int32) < nI j from q_nlt (a := 5) (by omega) (by omega) (by omega)), v1, bd_some, nm_eq, nm_eq, ek]
      exact r1
    · have ed : nI (6 * t + j) / (6 : Int32) = nI t := by
        have e := pk_div (a := 6 * t + j) (d := 6) (by omega) (by omega) (by omega)
        rw [show (6 * t + j) / 6 = t by omega] at e
        exact e
      have er : nI (6 * t + j) - nI t * (6 : Int32) = nI j := by
        rw [show (6 : Int32) = nI 6 from rfl, n_mul, pk_sub (by omega), show 6 * t + j - t * 6 = j by omega]
      have e1 : nI (6 * t + j) + (1 : Int32) = nI (6 * t + (j + 1)) := n_at
      have e6 : (6 : Int32) * nI T.length = nI (6 * T.length) := n_mul
      have := r2 F'
      rw [← Nat.add_assoc]
      conv => lhs; unfold f_X6_digest_L79
      rw [ix4, m.2.1.e4, e6, if_neg (q_nle (a := 6 * T.length) (b := 6 * t + j) (by omega) (by omega) (by omega)), ed, er, v2, bd_some, m_adds, bd_some, nm_eq, e1]
      exact this
theorem d_thi {rT rG rH : Int32} {fT fG fH al ho : Nat → Int32} {T G : List rw_} (c : QC rT fT rG fG rH fH T G (hd T G)) (k : QK T G (hd T G)) (m : QM al ho T G (hd T G)) : ∀ (n t F F' : Nat) (s : Int64), n + t = T.length → n < F → 0 < F' → ∃ s' : Int64, f_X5_hashOfThings_L5 rT fT rG fG rH fH F s (nI t) = some s' ∧ f_X6_digest_L79 al ho (F' + 6 * n) (nI (6 * t)) s = some s'
  | _, _, 0, _, _, _, hF, _ => absurd hF (by omega)
  | _, _, _, 0, _, _, _, hF => absurd hF (by omega)
  | 0, t, F + 1, F' + 1, s, h, _, _ => by
    have hT := k.2.1
    have e6 : (6 : Int32) * nI T.length = nI (6 * T.length) := n_mul
    refine ⟨s, ?_, ?_⟩
    · unfold f_X5_hashOfThings_L5
      rw [c.2.1.rows, bd_some, if_pos (q_le (by omega) (by omega) (by omega))]
    · show f_X6_digest_L79 al ho (F' + 1) (nI (6 * t)) s = some s
      unfold f_X6_digest_L79
      rw [ix4, m.2.1.e4, e6, if_pos (q_le (by omega) (by omega) (by omega))]
  | n + 1, t, F + 1, F' + 1, s, h, h1, h2 => by
    have hT := k.2.1
    have ek : nI t + (1 : Int32) = nI (t + 1) := n_at
    obtain ⟨s1, a1, a2⟩ := d_thi1 c k m (t := t) (by omega) 6 0 FU s (by omega) (by unfold FU; omega)
    have a1 : f_X5_hashOfThings_L23 (nI t) rT fT rG fG rH fH FU s (0 : Int32) = some s1 := a1
    obtain ⟨s', r1, r2⟩ := d_thi c k m n (t + 1) F (F' + 1) s1 (by omega) (by omega) (by omega)
    refine ⟨s', ?_, ?_⟩
    · unfold f_X5_hashOfThings_L5
      rw [c.2.1.rows, bd_some, if_neg (q_nle (by omega) (by omega) (by omega)), a1, bd_some, nm_eq, ek]
      exact r1
    · have a3 := a2 (F' + 1 + 6 * n)
      rw [Nat.add_zero (6 * t)] at a3
      rw [show F' + 1 + 6 * (n + 1) = F' + 1 + 6 * n + 6 by omega, a3]
      exact r2
theorem d_gra1 {rT rG rH : Int32} {fT fG fH al ho : Nat → Int32} {T G : List rw_} (c : QC rT fT rG fG rH fH T G (hd T G)) (k : QK T G (hd T G)) (m : QM al ho T G (hd T G)) {g : Nat} (hg : g < G.length) : ∀ (n j F F' : Nat) (s : Int64), n + j = 6 → n < F → n < F' → ∃ s' : Int64, f_X5_hashOfGrants_L44 (nI g) rT fT rG fG rH fH F s (nI j) = some s' ∧ f_X6_digest_L138 (nI g) al ho F' (nI j) s = some s'
  | _, _, 0, _, _, _, hF, _ => absurd hF (by omega)
  | _, _, _, 0, _, _, _, hF => absurd hF (by omega)
  | 0, j, F + 1, F' + 1, s, h, _, _ => by
    refine ⟨s, ?_, ?_⟩
    · unfold f_X5_hashOfGrants_L44
      rw [if_pos (show (5 : Int32) < nI j from q_lt (a := 5) (by omega) (by omega) (by omega))]
    · unfold f_X6_digest_L138
      rw [if_pos (show (6 : Int32) ≤ nI j from q_le (a := 6) (by omega) (by omega) (by omega))]
  | n + 1, j, F + 1, F' + 1, s, h, h1, h2 => by
    have ek : nI j + (1 : Int32) = nI (j + 1) := n_at
    obtain ⟨v, v1, v2⟩ := t_grant c k m hg (j := j) (by omega)
    obtain ⟨s', r1, r2⟩ := d_gra1 c k m hg n (j + 1) F F' (((31 : Int64) * s) + v.toInt64) (by omega) (by omega) (by omega)
    refine ⟨s', ?_, ?_⟩
    · unfold f_X5_hashOfGrants_L44
      rw [if_neg (show ¬ (5 : Int32) < nI j from q_nlt (a := 5) (by omega) (by omega) (by omega)), v1, bd_some, nm_eq, nm_eq, ek]
      exact r1
    · unfold f_X6_digest_L138
      rw [if_neg (show ¬ (6 : Int32) ≤ nI j from q_nle (a := 6) (by omega) (by omega) (by omega)), v2, bd_some, m_adds, bd_some, nm_eq, ek]
      exact r2
theorem d_gra {rT rG rH : Int32} {fT fG fH al ho : Nat → Int32} {T G : List rw_} (c : QC rT fT rG fG rH fH T G (hd T G)) (k : QK T G (hd T G)) (m : QM al ho T G (hd T G)) : ∀ (n g F F' : Nat) (s : Int64), n + g = G.length → n < F → n < F' → ∃ s' : Int64, f_X5_hashOfGrants_L5 rT fT rG fG rH fH F s (nI g) = some s' ∧ f_X6_digest_L116 al ho F' (nI g) s = some s'
  | _, _, 0, _, _, _, hF, _ => absurd hF (by omega)
  | _, _, _, 0, _, _, _, hF => absurd hF (by omega)
  | 0, g, F + 1, F' + 1, s, h, _, _ => by
    have hl := k.1
    refine ⟨s, ?_, ?_⟩
    · unfold f_X5_hashOfGrants_L5
      rw [c.1.rows, bd_some, if_pos (q_le (by omega) (by omega) (by omega))]
    · unfold f_X6_digest_L116
      rw [ix5, m.1.e5, if_pos (q_le (by omega) (by omega) (by omega))]
  | n + 1, g, F + 1, F' + 1, s, h, h1, h2 => by
    have hl := k.1
    have ek : nI g + (1 : Int32) = nI (g + 1) := n_at
    obtain ⟨s1, a1, a2⟩ := d_gra1 c k m (g := g) (by omega) 6 0 FU FU (((31 : Int64) * s) + (G.getD g z_ 5).toInt64) (by omega) (by unfold FU; omega) (by unfold FU; omega)
    have a1 : f_X5_hashOfGrants_L44 (nI g) rT fT rG fG rH fH FU (((31 : Int64) * s) + (G.getD g z_ 5).toInt64) (0 : Int32) = some s1 := a1
    have a2 : f_X6_digest_L138 (nI g) al ho FU (0 : Int32) (((31 : Int64) * s) + (G.getD g z_ 5).toInt64) = some s1 := a2
    obtain ⟨s', r1, r2⟩ := d_gra c k m n (g + 1) F F' s1 (by omega) (by omega) (by omega)
    refine ⟨s', ?_, ?_⟩
    · unfold f_X5_hashOfGrants_L5
      rw [c.1.rows, bd_some, if_neg (q_nle (by omega) (by omega) (by omega)), c.1.gn (by omega) hl, bd_some, nm_eq, a1, bd_some, nm_eq, ek]
      exact r1
    · unfold f_X6_digest_L116
      rw [ix5, m.1.e5, if_neg (q_nle (by omega) (by omega) (by omega)), m.1.n (by omega) hl, bd_some, m_adds, bd_some, a2, bd_some, nm_eq, ek]
      exact r2
theorem d_log1 {rL : Int32} {fL al : Nat → Int32} {Lg : List rw_} (hL : RT 3 rL fL Lg) (hl : Lg.length ≤ 12) (ml : ML al Lg) {i : Nat} (hi : i < Lg.length) : ∀ (n j F : Nat) (s : Int64), n + j = 3 → n < F → ∃ s' : Int64, f_X5_hashOfLog_L23 (nI i) rL fL F s (nI j) = some s' ∧ ∀ F' : Nat, f_X6_digest_L168 al (F' + n) (nI (3 * i + j)) s = f_X6_digest_L168 al F' (nI (3 * i + 3)) s'
  | _, _, 0, _, _, hF => absurd hF (by omega)
  | 0, j, F + 1, s, h, _ => by
    have hj : j = 3 := by omega
    subst hj
    refine ⟨s, ?_, fun F' => rfl⟩
    unfold f_X5_hashOfLog_L23
    rw [if_pos (show (2 : Int32) < nI 3 by decide)]
  | n + 1, j, F + 1, s, h, h1 => by
    have ek : nI j + (1 : Int32) = nI (j + 1) := n_at
    have hv := t_entry hL hl ml hi (j := j) (by omega)
    obtain ⟨s', r1, r2⟩ := d_log1 hL hl ml hi n (j + 1) F (((31 : Int64) * s) + (Lg.getD (Lg.length - 1 - i) z_ j).toInt64) (by omega) (by omega)
    refine ⟨s', ?_, fun F' => ?_⟩
    · unfold f_X5_hashOfLog_L23
      rw [if_neg (show ¬ (2 : Int32) < nI j from q_nlt (a := 2) (by omega) (by omega) (by omega)), hv.1, bd_some, nm_eq, nm_eq, ek]
      exact r1
    · have e1 : nI (3 * i + j) + (1 : Int32) = nI (3 * i + (j + 1)) := n_at
      have e3 : (3 : Int32) * nI Lg.length = nI (3 * Lg.length) := n_mul
      have a6 : al (6 : Int32).toNatClampNeg = nI Lg.length := ml.1
      have z6 : ∀ z : Option Int64, ix (6 : Int32) 320 z = z := fun z => ixo z (by decide)
      have hv2 : al (284 + (3 * i + j)) = Lg.getD (Lg.length - 1 - i) z_ j := by rw [← Nat.add_assoc]; exact hv.2
      have := r2 F'
      rw [← Nat.add_assoc]
      conv => lhs; unfold f_X6_digest_L168
      rw [z6, a6, e3, if_neg (q_nle (a := 3 * Lg.length) (b := 3 * i + j) (by omega) (by omega) (by omega)), e_284, n_ix (by omega) (by omega), n_cl (by omega), hv2, m_adds, bd_some, nm_eq, e1]
      exact this
theorem d_log {rL : Int32} {fL al : Nat → Int32} {Lg : List rw_} (hL : RT 3 rL fL Lg) (hl : Lg.length ≤ 12) (ml : ML al Lg) : ∀ (n i F F' : Nat) (s : Int64), n + i = Lg.length → n < F → 0 < F' → ∃ s' : Int64, f_X5_hashOfLog_L5 rL fL F s (nI i) = some s' ∧ f_X6_digest_L168 al (F' + 3 * n) (nI (3 * i)) s = some s'
  | _, _, 0, _, _, _, hF, _ => absurd hF (by omega)
  | _, _, _, 0, _, _, _, hF => absurd hF (by omega)
  | 0, i, F + 1, F' + 1, s, h, _, _ => by
    have e3 : (3 : Int32) * nI Lg.length = nI (3 * Lg.length) := n_mul
    have a6 : al (6 : Int32).toNatClampNeg = nI Lg.length := ml.1
    have z6 : ∀ z : Option Int64, ix (6 : Int32) 320 z = z := fun z => ixo z (by decide)
    refine ⟨s, ?_, ?_⟩
    · unfold f_X5_hashOfLog_L5
      rw [hL.rows, bd_some, if_pos (q_le (by omega) (by omega) (by omega))]
    · show f_X6_digest_L168 al (F' + 1) (nI (3 * i)) s = some s
      unfold f_X6_digest_L168
      rw [z6, a6, e3, if_pos (q_le (by omega) (by omega) (by omega))]
  | n + 1, i, F + 1, F' + 1, s, h, h1, h2 => by
    have ek : nI i + (1 : Int32) = nI (i + 1) := n_at
    obtain ⟨s1, a1, a2⟩ := d_log1 hL hl ml (i := i) (by omega) 3 0 FU s (by omega) (by unfold FU; omega)
    have a1 : f_X5_hashOfLog_L23 (nI i) rL fL FU s (0 : Int32) = some s1 := a1
    obtain ⟨s', r1, r2⟩ := d_log hL hl ml n (i + 1) F (F' + 1) s1 (by omega) (by omega) (by omega)
    refine ⟨s', ?_, ?_⟩
    · unfold f_X5_hashOfLog_L5
      rw [hL.rows, bd_some, if_neg (q_nle (by omega) (by omega) (by omega)), a1, bd_some, nm_eq, ek]
      exact r1
    · have a3 := a2 (F' + 1 + 3 * n)
      rw [Nat.add_zero (3 * i)] at a3
      rw [show F' + 1 + 3 * (n + 1) = F' + 1 + 3 * n + 3 by omega, a3]
      exact r2
theorem w_digest {rP rT rG rL rH gi di re ti : Int32} {fP fT fG fL fH al : Nat → Int32} {P T G Lg : List rw_} (o : OS P T G Lg) (c : CS rP fP rT fT rG fG rL fL rH fH P T G Lg) (ms : MS al P T G Lg gi di re ti) {rB tl cn sm : Int32} {n mm : Nat} (e1 : rB = nI n) (e2 : tl = nI n) (e3 : cn = nI mm) (e4 : sm = nI mm) (th : Int32) (ho : Nat → Int32) (su : Int64) : ∃ (r : Int64) (th' : Int32) (ho' : Nat → Int32) (su' : Int64), f_X5_digest rP fP rT fT rG fG rL fL rH fH gi di re ti rB cn = some r ∧ f_X6_digest al sm th ho tl su = some (r, th', ho', su') := by
  have hT := o.2.2.1.2.1
  have hG := o.2.2.1.1
  have hl := o.2.2.2
  have k := o.2.2.1.k
  obtain ⟨s1, h1, a1, a2⟩ := d_house o c ms 9 0 FU FU (((31 : Int64) * 3671) + (nI n).toInt64) ho (by omega) (by unfold FU; omega) (by unfold FU; omega)
  have a1 : f_X5_digest_L15 rT fT rG fG rL rH fH gi di re ti FU ((113801 : Int64) + (nI n).toInt64) (0 : Int32) = some s1 := a1
  have a2 : f_X6_digest_L22 al FU (0 : Int32) ho (((31 : Int64) * 3671) + (nI n).toInt64) = some (h1, s1) := a2
  obtain ⟨h2, l1, l2⟩ := q_lay ms.qa o.2.2.1 h1
  obtain ⟨s2, b1, b2⟩ := d_per c.1 o.1 c.2.1 k ms.1 l2 10 0 FU 3930 s1 (by omega) (by unfold FU; omega) (by omega)
  have b1 : f_X5_hashOfPersons_L5 rP fP rT fT rG fG rH fH FU s1 (0 : Int32) = some s2 := b1
  have b2 : f_X6_digest_L49 al h2 FU (0 : Int32) s1 = some s2 := b2
  obtain ⟨s3, c1, c2⟩ := d_thi c.2.1 k l2 T.length 0 FU (FU - 6 * T.length) s2 (by omega) (by unfold FU; omega) (by unfold FU; omega)
  have c1 : f_X5_hashOfThings_L5 rT fT rG fG rH fH FU s2 (0 : Int32) = some s3 := c1
  rw [show FU - 6 * T.length + 6 * T.length = FU by unfold FU; omega] at c2
  have c2 : f_X6_digest_L79 al h2 FU (0 : Int32) s2 = some s3 := c2
  obtain ⟨s4, d1, d2⟩ := d_gra c.2.1 k l2 G.length 0 FU FU s3 (by omega) (by unfold FU; omega) (by unfold FU; omega)
  have d1 : f_X5_hashOfGrants_L5 rT fT rG fG rH fH FU s3 (0 : Int32) = some s4 := d1
  have d2 : f_X6_digest_L116 al h2 FU (0 : Int32) s3 = some s4 := d2
  obtain ⟨s5, f1, f2⟩ := d_log c.2.2 hl ms.2.2.2.1 Lg.length 0 FU (FU - 3 * Lg.length) s4 (by omega) (by unfold FU; omega) (by unfold FU; omega)
  have f1 : f_X5_hashOfLog_L5 rL fL FU s4 (0 : Int32) = some s5 := f1
  rw [show FU - 3 * Lg.length + 3 * Lg.length = FU by unfold FU; omega] at f2
  have f2 : f_X6_digest_L168 al FU (0 : Int32) s4 = some s5 := f2
  refine ⟨((31 : Int64) * s5) + (nI mm).toInt64, 0, h2, ((31 : Int64) * s5) + (nI mm).toInt64, ?_, ?_⟩
  · unfold f_X5_digest f_X4_length f_X3_rows f_X5_hashOfPersons f_X5_hashOfThings f_X5_hashOfGrants f_X5_hashOfLog f_X1_count
    rw [bd_some, bd_some, nm_eq, e1, a1, bd_some, b1, bd_some, bd_some, c1, bd_some, bd_some, d1, bd_some, bd_some, f1, bd_some, bd_some, bd_some, nm_eq, e3]
  · unfold f_X6_digest
    rw [e2, m_adds, bd_some, a2, bd2_some, l1, bd_some, b2, bd_some, c2, bd_some, d2, bd_some, f2, bd_some, e4, m_adds, bd_some]
