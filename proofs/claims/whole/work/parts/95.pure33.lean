/-! ===== PURE: the law's calls: text, undo, the mean ===== -/
def e_ok (d : FP.Core.Datum) : Prop := match d with
  | .nan => False
  | .inf _ => True
  | .fin _ c q => c < 2 ^ 53 ∧ -1074 ≤ q ∧ q ≤ 971
theorem e_asm (s : Bool) (e t : Nat) (he : e < 2048) (ht : t < 2 ^ 52) : FP.Core.assemble FP.Core.b64 s e t % 2 ^ 63 = e * 2 ^ 52 + t := by
  have h1 : FP.Core.b64.exps = 2048 := by decide
  have h2 : FP.Core.b64.tails = 2 ^ 52 := by decide
  unfold FP.Core.assemble
  rw [h1, h2]
  cases s
  · show ((0 * 2048 + e) * 2 ^ 52 + t) % 2 ^ 63 = e * 2 ^ 52 + t
    omega
  · show ((1 * 2048 + e) * 2 ^ 52 + t) % 2 ^ 63 = e * 2 ^ 52 + t
    omega
theorem e_enc {d : FP.Core.Datum} (h : e_ok d) : FP.Core.encode FP.Core.b64 d % 2 ^ 63 ≤ 9218868437227405312 := by
  have h1 : FP.Core.b64.exps = 2048 := by decide
  have h2 : FP.Core.b64.tails = 2 ^ 52 := by decide
  have h3 : FP.Core.b64.qmin = -1074 := by decide
  cases d with
  | nan => exact absurd h (fun z => z)
  | inf s =>
    unfold FP.Core.encode
    rw [h1, e_asm s 2047 0 (by omega) (by omega)]
    omega
  | fin s c q =>
    obtain ⟨k1, k2, k3⟩ := h
    show (if c < FP.Core.b64.tails then FP.Core.assemble FP.Core.b64 s 0 c else FP.Core.assemble FP.Core.b64 s ((q - FP.Core.b64.qmin).toNat + 1) (c - FP.Core.b64.tails)) % 2 ^ 63 ≤ 9218868437227405312
    rw [h2, h3]
    by_cases hc : c < 2 ^ 52
    · rw [if_pos hc, e_asm s 0 c (by omega) hc]
      omega
    · have hq : (q - -1074).toNat + 1 < 2047 := by omega
      rw [if_neg hc, e_asm s _ _ (by omega) (by omega)]
      generalize (q - -1074).toNat + 1 = e at *
      omega
theorem e_bound (s : Bool) (c : Nat) (q : Int) (hc : c < 2 ^ 53) (hq : -1074 ≤ q) : e_ok (FP.Core.bound FP.Core.b64 s c q) := by
  have h4 : FP.Core.b64.qmax = 971 := by decide
  unfold FP.Core.bound
  rw [h4]
  split
  · rename_i hh
    exact ⟨hc, hq, hh⟩
  · trivial
theorem e_round (s : Bool) (num den : Nat) (e : Int) : e_ok (FP.Core.roundRatio FP.Core.b64 s num den e) := by
  have h2 : FP.Core.b64.tails = 2 ^ 52 := by decide
  have h3 : FP.Core.b64.qmin = -1074 := by decide
  have h5 : FP.Core.b64.p = 53 := by decide
  unfold FP.Core.roundRatio
  split
  · rw [h3]
    exact ⟨by omega, by omega, by omega⟩
  · have hq : -1074 ≤ FP.Core.quantum FP.Core.b64 num den e := by
      unfold FP.Core.quantum
      rw [h3]
      omega
    generalize FP.Core.quantum FP.Core.b64 num den e = q at *
    unfold FP.Core.roundAt FP.Core.settle
    rw [h2, h5]
    split
    · rename_i hh
      exact e_bound s _ q hh hq
    · exact e_bound s _ (q + 1) (by omega) (by omega)
def isF (d : FP.Core.Datum) (i : Nat) : Bool := match d with
  | .fin _ c _ => decide (¬ c = 0 ∨ i = 0)
  | _ => false
theorem dec_i2d : ∀ i : Fin 1000, isF (FP.Core.decode FP.Core.b64 (FP.i2d (nI i)).toNat) i = true := by decide +kernel
theorem nz_ok {γ : Type} {S M : Nat} {k : Option γ} (hS : S < 1000) (hM : M < 1000) (h0 : 0 < M) : nz (FP.ddiv (FP.i2d (nI S)) (FP.i2d (nI M))) k = k := by
  have d1 : isF (FP.Core.decode FP.Core.b64 (FP.i2d (nI S)).toNat) S = true := dec_i2d ⟨S, hS⟩
  have d2 : isF (FP.Core.decode FP.Core.b64 (FP.i2d (nI M)).toNat) M = true := dec_i2d ⟨M, hM⟩
  have hq : e_ok (FP.Core.quotient FP.Core.b64 (FP.Core.decode FP.Core.b64 (FP.i2d (nI S)).toNat) (FP.Core.decode FP.Core.b64 (FP.i2d (nI M)).toNat)) := by
    generalize FP.Core.decode FP.Core.b64 (FP.i2d (nI S)).toNat = x at *
    generalize FP.Core.decode FP.Core.b64 (FP.i2d (nI M)).toNat = y at *
    cases x with
    | nan => exact absurd (show false = true from d1) (by decide)
    | inf s => exact absurd (show false = true from d1) (by decide)
    | fin s c q =>
      cases y with
      | nan => exact absurd (show false = true from d2) (by decide)
      | inf s => exact absurd (show false = true from d2) (by decide)
      | fin t d r =>
        have hd : ¬ d = 0 ∨ M = 0 := of_decide_eq_true d2
        have hd : ¬ d = 0 := by
          rcases hd with z | z
          · exact z
          · omega
        unfold FP.Core.quotient
        show e_ok (if d = 0 then _ else _)
        rw [if_neg hd]
        exact e_round _ _ _ _
  have he := e_enc hq
  have hn : (FP.ddiv (FP.i2d (nI S)) (FP.i2d (nI M))).toNat = FP.Core.div FP.Core.b64 (FP.i2d (nI S)).toNat (FP.i2d (nI M)).toNat % 2 ^ 64 := UInt64.toNat_ofNat'
  have hb : FP.ddiv (FP.i2d (nI S)) (FP.i2d (nI M)) &&& 0x7fffffffffffffff ≤ 0x7ff0000000000000 := by
    rw [UInt64.le_iff_toNat_le, UInt64.toNat_and, hn]
    show _ &&& (2 ^ 63 - 1) ≤ 9218868437227405312
    rw [Nat.and_two_pow_sub_one_eq_mod]
    have he : FP.Core.div FP.Core.b64 (FP.i2d (nI S)).toNat (FP.i2d (nI M)).toNat % 2 ^ 63 ≤ 9218868437227405312 := he
    generalize FP.Core.div FP.Core.b64 (FP.i2d (nI S)).toNat (FP.i2d (nI M)).toNat = n at *
    omega
  unfold nz
  rw [if_pos hb]
theorem p_mean1 {fS fr Fa : Nat → Int32} (e1 : eqon 10 fS Fa) (e2 : eqon 10 fr Fa) (hF : ∀ p : Nat, p < 10 → Fa p = -1 ∨ ∃ v : Nat, v ≤ 9 ∧ Fa p = nI v) : ∀ (n x F F' M S : Nat), n + x = 10 → n < F → n < F' → ∃ M' S' : Nat, f_X5_meanChain_L35 (1 : Int32) fS F (nI M) (nI S) (nI x) = some (nI M', nI S') ∧ f_X6_meanChain_L33 fr F' (nI S) (nI M) (nI x) = some (nI S', nI M') ∧ M' ≤ M + n ∧ S' ≤ S + 9 * n
  | _, _, 0, _, _, _, _, hF, _ => absurd hF (by omega)
  | _, _, _, 0, _, _, _, _, hF => absurd hF (by omega)
  | 0, x, F + 1, F' + 1, M, S, h, _, _ => by
    have hle : (10 : Int32) ≤ nI x := q_le (a := 10) (by omega) (by omega) (by omega)
    refine ⟨M, S, ?_, ?_, by omega, by omega⟩
    · unfold f_X5_meanChain_L35
      rw [if_pos hle]
    · unfold f_X6_meanChain_L33
      rw [if_pos hle]
  | n + 1, x, F + 1, F' + 1, M, S, h, h1, h2 => by
    have hle : ¬ (10 : Int32) ≤ nI x := q_nle (a := 10) (by omega) (by omega) (by omega)
    have ek : nI x + (1 : Int32) = nI (x + 1) := n_at
    have eM : nI M + (1 : Int32) = nI (M + 1) := n_at
    have hx : x < 10 := by omega
    have hi : ∀ z : Option (Int32 × Int32), ix (nI x) 10 z = z := fun z => n_ix hx (by omega)
    unfold f_X5_meanChain_L35 f_X6_meanChain_L33
    rw [if_neg hle, if_neg hle, s_at hx, bd_some, n_cl (by omega), e1 x hx, e2 x hx]
    simp only [hi, nm_eq, ek, eM, z_add]
    rcases hF x hx with hf | ⟨v, hv, hf⟩
    · obtain ⟨M', S', r1, r2, r3, r4⟩ := p_mean1 e1 e2 hF n (x + 1) F F' M S (by omega) (by omega) (by omega)
      rw [hf, if_pos rfl, if_pos (show (-1 : Int32) ≤ 0 by decide), if_pos (show (-1 : Int32) < 0 by decide)]
      exact ⟨M', S', r1, r2, by omega, by omega⟩
    · obtain ⟨M', S', r1, r2, r3, r4⟩ := p_mean1 e1 e2 hF n (x + 1) F F' (M + 1) (S + v) (by omega) (by omega) (by omega)
      have eS : nI S + nI v = nI (S + v) := n_at
      rw [hf, if_neg (n_m1 (by omega)), if_neg (nI_pos (by omega)), eS]
      by_cases hv0 : v = 0
      · subst hv0
        rw [if_pos (show nI 0 ≤ (0 : Int32) by decide)]
        exact ⟨M', S', r1, r2, by omega, by omega⟩
      · rw [if_neg (show ¬ nI v ≤ (0 : Int32) from q_nle (b := 0) (by omega) (by omega) (by omega)), if_neg (nI_pos (by omega))]
        exact ⟨M', S', r1, r2, by omega, by omega⟩
theorem p_mean2 {rT rG rH : Int32} {fT fG fH al ho : Nat → Int32} {T G : List rw_} (c : QC rT fT rG fG rH fH T G (hd T G)) (m : QM al ho T G (hd T G)) (k : QK T G (hd T G)) : ∀ (n t F F' M S : Nat) (fS fr : Nat → Int32), n + t = T.length → n < F → n < F' → ∃ (M' S' : Nat) (fS' fr' : Nat → Int32), f_X5_meanChain_L6 rT fT rG fG rH fH (1 : Int32) F (nI M) (nI S) (nI t) fS = some (nI M', nI S', fS') ∧ f_X6_meanChain_L15 al ho F' (nI S) (nI M) (nI t) fr = some (nI S', nI M', fr') ∧ M' ≤ M + 10 * n ∧ S' ≤ S + 90 * n
  | _, _, 0, _, _, _, _, _, _, hF, _ => absurd hF (by omega)
  | _, _, _, 0, _, _, _, _, _, _, hF => absurd hF (by omega)
  | 0, t, F + 1, F' + 1, M, S, fS, fr, h, _, _ => by
    have := k.2.1
    have hle : nI T.length ≤ nI t := q_le (by omega) (by omega) (by omega)
    refine ⟨M, S, fS, fr, ?_, ?_, by omega, by omega⟩
    · unfold f_X5_meanChain_L6
      rw [c.2.1.rows, bd_some, if_pos hle]
    · unfold f_X6_meanChain_L15
      rw [ix4, m.2.1.e4, if_pos hle]
  | n + 1, t, F + 1, F' + 1, M, S, fS, fr, h, h1, h2 => by
    have := k.2.1
    have hle : ¬ nI T.length ≤ nI t := q_nle (by omega) (by omega) (by omega)
    have ek : nI t + (1 : Int32) = nI (t + 1) := n_at
    have ht : t < T.length := by omega
    obtain ⟨f1, a1, a2⟩ := c_measure c k ht fS
    obtain ⟨f2, b1, b2⟩ := q_measure m k ht fr
    obtain ⟨M1, S1, r1, r2, r3, r4⟩ := p_mean1 a2 b2 (far_mr k ht).2.1 10 0 FU FU M S (by omega) (by unfold FU; omega) (by unfold FU; omega)
    have r1 : f_X5_meanChain_L35 (1 : Int32) f1 FU (nI M) (nI S) (0 : Int32) = some (nI M1, nI S1) := r1
    have r2 : f_X6_meanChain_L33 f2 FU (nI S) (nI M) (0 : Int32) = some (nI S1, nI M1) := r2
    obtain ⟨M', S', f1', f2', s1, s2, s3, s4⟩ := p_mean2 c m k n (t + 1) F F' M1 S1 f1 f2 (by omega) (by omega) (by omega)
    refine ⟨M', S', f1', f2', ?_, ?_, by omega, by omega⟩
    · unfold f_X5_meanChain_L6
      rw [c.2.1.rows, bd_some, if_neg hle, a1, bd_some, r1, bd2_some, nm_eq, ek]
      exact s1
    · unfold f_X6_meanChain_L15
      rw [ix4, m.2.1.e4, if_neg hle, b1, bd_some, r2, bd2_some, nm_eq, ek]
      exact s2
theorem w_mean {rP rT rG rL rH gi di re ti : Int32} {fP fT fG fL fH al : Nat → Int32} {P T G Lg : List rw_} (o : OS P T G Lg) (c : CS rP fP rT fT rG fG rL fL rH fH P T G Lg) (ms : MS al P T G Lg gi di re ti) (th : Int32) (ho fS fr : Nat → Int32) : ∃ (r : UInt64) (th' : Int32) (ho' fS' fr' : Nat → Int32), f_X5_meanChain rT fT rG fG rH fH 1 fS = some (r, fS') ∧ f_X6_meanChain al th ho fr = some (r, th', ho', fr') := by
  have hT := o.2.2.1.2.1
  obtain ⟨h', l1, l2⟩ := q_lay ms.qa o.2.2.1 ho
  obtain ⟨M, S, fS', fr', r1, r2, r3, r4⟩ := p_mean2 c.2.1 l2 o.2.2.1.k T.length 0 FU FU 0 0 fS fr (by omega) (by unfold FU; omega) (by unfold FU; omega)
  have r1 : f_X5_meanChain_L6 rT fT rG fG rH fH (1 : Int32) FU (0 : Int32) (0 : Int32) (0 : Int32) fS = some (nI M, nI S, fS') := r1
  have r2 : f_X6_meanChain_L15 al h' FU (0 : Int32) (0 : Int32) (0 : Int32) fr = some (nI S, nI M, fr') := r2
  by_cases h : M = 0
  · subst h
    refine ⟨FP.dconst0, 0, h', fS', fr', ?_, ?_⟩
    · unfold f_X5_meanChain
      rw [r1, bd3_some, if_pos (show nI 0 = (0 : Int32) from rfl)]
    · unfold f_X6_meanChain
      rw [l1, bd_some, r2, bd3_some, if_pos (show nI 0 = (0 : Int32) from rfl)]
  · have hn : ¬ nI M = 0 := q_ne (b := 0) (by omega) (by omega) h
    refine ⟨FP.ddiv (FP.i2d (nI S)) (FP.i2d (nI M)), 0, h', fS', fr', ?_, ?_⟩
    · unfold f_X5_meanChain
      rw [r1, bd3_some, if_neg hn, nz_ok (by omega) (by omega) (by omega)]
    · unfold f_X6_meanChain
      rw [l1, bd_some, r2, bd3_some, if_neg hn, nz_ok (by omega) (by omega) (by omega)]
theorem w_append {rB tl : Int32} {fB txt : Nat → Int32} {n : Nat} (tx : TX rB fB tl txt n) (x1 th : Int32) (fo : Nat → Int64) : ∃ (k b rB' : Int32) (fB' : Nat → Int32) (fo' : Nat → Int64) (txt' : Nat → Int32) (tl' : Int32) (n' : Nat), f_L_append x1 rB fB fo = some (k, rB', fB', fo') ∧ f_X6_append x1 th txt tl = some (b, k, txt', tl') ∧ (k = 0 → fo' 0 = b.toInt64) ∧ TX rB' fB' tl' txt' n' := by
  have hn := tx.2.2.1
  have ei : f_X6_in x1.toInt64 (0 : Int64) (127 : Int64) = some (btw x1 0 127) := m_in x1 0 127
  have e1 := tx.1
  have e2 := tx.2.1
  unfold f_L_append f_X5_append f_X6_append f_X4_isFull f_X3_isFull
  rw [c_reqR, ei, bd_some]
  by_cases h1 : btw x1 0 127 = 0
  · rw [if_pos h1, bx_l, bx_l, if_pos rfl]
    refine ⟨1, 0, rB, fB, fo, txt, tl, n, rfl, ?_, o_no n10, tx⟩
    rw [g_1 h1, g_1 h1, bd2_some, if_pos rfl]
    split <;> rfl
  · rw [if_neg h1, bx_r]
    by_cases h2 : n < 100
    · have x1' : nI n < (100 : Int32) := q_lt (b := 100) (by omega) (by omega) h2
      have x2' : ¬ (100 : Int32) ≤ nI n := q_nle (a := 100) (by omega) (by omega) h2
      have ha : f_X3_addRow (100 : Int32) (nI n) = some (nI n, nI (n + 1)) := by
        have e := p_add (lim := 100) h2 (by omega)
        exact e
      have hp := p_put (col := 1) (n := 100) (rows := n + 1) (R := n) (C := 0) (f := fB) (v := x1) (by omega) (by omega) (by omega) (by omega) (by omega) (by omega)
      have hp : f_X3_put (1 : Int32) 100 (nI n) (0 : Int32) x1 (nI (n + 1)) fB = some (upd fB (n * 1 + 0) x1) := hp
      have ek : nI n + (1 : Int32) = nI (n + 1) := n_at
      have hadd : f_X4_add x1 rB fB = some (nI (n + 1), upd fB (n * 1 + 0) x1) := by
        unfold f_X4_add
        rw [e1, ha, bd2_some, hp, bd_some]
      have hlen : f_X4_length (nI (n + 1)) = some (nI (n + 1)) := rfl
      rw [hadd, e1, if_pos x1', bd_some, bd_some, if_pos rfl, bd2_some, hlen, bd_some, bx_r, o_set, e2, if_neg x2', g_0 h1 n10 n10, bd2_some, if_neg n10, n_ix (by omega) (by omega), n_cl (by omega), nm_eq, nm_eq, ek]
      refine ⟨0, _, _, _, _, _, _, n + 1, rfl, rfl, o_at, rfl, rfl, by omega, fun i hi => ?_, fun i hi => ?_⟩
      · show upd fB (n * 1 + 0) x1 i = upd txt n x1 i
        rw [Nat.mul_one, Nat.add_zero]
        by_cases e : i = n
        · rw [e, pk_us, pk_us]
        · rw [pk_un e, pk_un e]
          exact tx.2.2.2.1 i (by omega)
      · by_cases e : i = n
        · rw [e, pk_us]
          obtain ⟨j, hj, ej⟩ := b_nI (n := 127) (by decide) h1
          rw [ej]
          exact okN_nI (by omega) (by omega)
        · rw [pk_un e]
          exact tx.2.2.2.2 i (by omega)
    · have x1' : ¬ nI n < (100 : Int32) := q_nlt (b := 100) (by omega) (by omega) (by omega)
      have x2' : (100 : Int32) ≤ nI n := q_le (a := 100) (by omega) (by omega) (by omega)
      rw [e1, if_neg x1', bd_some, bd_some, if_neg n10, bx_l, if_neg s_sa, if_pos rfl, e2, if_pos x2', g_2 h1 rfl, bd2_some, if_pos rfl]
      exact ⟨2, 0, nI n, fB, fo, txt, nI n, n, rfl, rfl, o_no n20, rfl, rfl, hn, tx.2.2.2.1, tx.2.2.2.2⟩
theorem w_clear {rB tl : Int32} {fB txt : Nat → Int32} {n : Nat} (tx : TX rB fB tl txt n) (th : Int32) : ∃ (r rB' th' tl' : Int32), f_X5_clearText rB = some (r, rB') ∧ f_X6_clearText th tl = some (r, th', tl') ∧ TX rB' fB tl' txt 0 := by
  have e1 := tx.1
  have e2 := tx.2.1
  refine ⟨nI n, 0, 0, 0, ?_, ?_, rfl, rfl, by omega, fun i hi => absurd hi (by omega), fun i hi => absurd hi (by omega)⟩
  · rw [e1]
    rfl
  · rw [e2]
    rfl
theorem w_undo {rP rT rG rL rH gi di re ti rB cn sm tl : Int32} {fP fT fG fL fH fB al sv txt : Nat → Int32} {ro : Nat} {Qh : Nat → HS} (h : LI rP fP rT fT rG fG rL fL rH fH gi di re ti rB fB cn ro Qh al sv sm txt tl) (th : Int32) (fo : Nat → Int64) : ∃ (k b : Int32) (q : HS) (cn' : Int32) (fo' : Nat → Int64) (al' : Nat → Int32) (sm' : Int32), f_L_undo rP fP rT fT rG fG rL fL rH fH gi di re ti cn ro Qh fo = some (k, q.1, q.2.1, q.2.2.1, q.2.2.2.1, q.2.2.2.2.1, q.2.2.2.2.2.1, q.2.2.2.2.2.2.1, q.2.2.2.2.2.2.2.1, q.2.2.2.2.2.2.2.2.1, q.2.2.2.2.2.2.2.2.2.1, q.2.2.2.2.2.2.2.2.2.2.1, q.2.2.2.2.2.2.2.2.2.2.2.1, q.2.2.2.2.2.2.2.2.2.2.2.2.1, q.2.2.2.2.2.2.2.2.2.2.2.2.2, cn', fo') ∧ f_X6_undo al sv sm th = some (b, al', sm', k) ∧ (k = 0 → fo' 0 = b.toInt64) ∧ LI q.1 q.2.1 q.2.2.1 q.2.2.2.1 q.2.2.2.2.1 q.2.2.2.2.2.1 q.2.2.2.2.2.2.1 q.2.2.2.2.2.2.2.1 q.2.2.2.2.2.2.2.2.1 q.2.2.2.2.2.2.2.2.2.1 q.2.2.2.2.2.2.2.2.2.2.1 q.2.2.2.2.2.2.2.2.2.2.2.1 q.2.2.2.2.2.2.2.2.2.2.2.2.1 q.2.2.2.2.2.2.2.2.2.2.2.2.2 rB fB cn' ro Qh al' sv sm' txt tl := by
  obtain ⟨⟨P, T, G, Lg, gi0, di0, re0, ti0⟩, m, Sf, n, o, ⟨c, e1, e2, e3, e4⟩, ms, hr, tx⟩ := h
  have e1 : gi = gi0 := e1
  have e2 : di = di0 := e2
  have e3 : re = re0 := e3
  have e4 : ti = ti0 := e4
  subst e1 e2 e3 e4
  have o : OS P T G Lg := o
  have c : CS rP fP rT fT rG fG rL fL rH fH P T G Lg := c
  have ms : MS al P T G Lg gi di re ti := ms
  have hT := o.2.2.1.2.1
  have hG := o.2.2.1.1
  have hr2 := hr
  obtain ⟨h1, h2, h3, h4, h5⟩ := hr
  subst h1 h2
  unfold f_L_undo f_X5_undo f_X6_undo f_X1_count
  rw [bd_some]
  cases m with
  | zero =>
    rw [if_pos (show nI 0 = (0 : Int32) from rfl), bx_l, if_pos rfl, if_pos (show nI 0 ≤ (0 : Int32) by decide), g_1 rfl, bd2_some, if_pos rfl]
    exact ⟨1, 0, (rP, fP, rT, fT, rG, fG, rL, fL, rH, fH, gi, di, re, ti), nI 0, fo, al, nI 0, rfl, rfl, o_no n10, ⟨(P, T, G, Lg, gi, di, re, ti), 0, Sf, n, o, ⟨c, rfl, rfl, rfl, rfl⟩, ms, hr2, tx⟩⟩
  | succ m =>
    have n1 : ¬ nI (m + 1) = 0 := q_ne (b := 0) (by omega) (by omega) (by omega)
    have n2 : ¬ nI (m + 1) ≤ 0 := q_nle (b := 0) (by omega) (by omega) (by omega)
    have hh := h5 m (by omega)
    obtain ⟨q, t1, t2⟩ := c_overs (q := (rP, fP, rT, fT, rG, fG, rL, fL, rH, fH, gi, di, re, ti)) (s := Sf m) hh.1 (show CSs (Qh ((m + ro) % 4)) (Sf m) from hh.2.1)
    have t1 : f_X2_takeOver rP fP rT fT rG fG rL fL rH fH gi di re ti (Qh ((m + ro) % 4)).1 (Qh ((m + ro) % 4)).2.1 (Qh ((m + ro) % 4)).2.2.1 (Qh ((m + ro) % 4)).2.2.2.1 (Qh ((m + ro) % 4)).2.2.2.2.1 (Qh ((m + ro) % 4)).2.2.2.2.2.1 (Qh ((m + ro) % 4)).2.2.2.2.2.2.1 (Qh ((m + ro) % 4)).2.2.2.2.2.2.2.1 (Qh ((m + ro) % 4)).2.2.2.2.2.2.2.2.1 (Qh ((m + ro) % 4)).2.2.2.2.2.2.2.2.2.1 (Qh ((m + ro) % 4)).2.2.2.2.2.2.2.2.2.2.1 (Qh ((m + ro) % 4)).2.2.2.2.2.2.2.2.2.2.2.1 (Qh ((m + ro) % 4)).2.2.2.2.2.2.2.2.2.2.2.2.1 (Qh ((m + ro) % 4)).2.2.2.2.2.2.2.2.2.2.2.2.2 = some q := t1
    obtain ⟨al', u1, u2⟩ := m_undoL (sv := sv) (m := m) (by omega) 320 0 FU al (by omega) (by unfold FU; omega) (fun k hk => absurd hk (by omega))
    have u1 : f_X6_undo_L35 sv (nI m) FU (0 : Int32) al = some al' := u1
    have es : nI (m + 1) - (1 : Int32) = nI m := nI_pred m
    have hgb : f_X1_giveBack (nI (m + 1)) ro Qh rP fP rT fT rG fG rL fL rH fH gi di re ti = some (nI m, q) := by
      rw [back_eq (by omega) h4]
      unfold hk_gb
      rw [t1, bd14_mk]
    rw [if_neg n1, hgb, bd15_mk, bd_some, bx_r, o_set, if_neg n2, g_0 n10 n10 n10, bd2_some, if_neg n10, es, nm_eq, u1, bd_some]
    exact ⟨0, nI m, q, nI m, _, al', nI m, rfl, rfl, o_at, ⟨Sf m, m, Sf, n, hh.1, t2, MSs.c hh.2.2 hh.1 u2, ⟨rfl, rfl, by omega, h4, fun i hi => h5 i (by omega)⟩, tx⟩⟩
