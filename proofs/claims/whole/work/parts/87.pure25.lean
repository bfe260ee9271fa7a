/-! ===== PURE: the text is read (4): all of it; what a grant needs ===== -/
def ch_ (txt : Nat → Int32) (tl : Int32) (n : Nat) : Nat → List rw_ → Prop
  | p, [] => n ≤ p ∧ p < 900
  | p, g :: S => p < n ∧ ∃ p' : Nat, p < p' ∧ p' ≤ n ∧ (∀ (od : Int32) (nu : Nat → Int32), ∃ nu' : Nat → Int32, f_X6_takesOrder txt tl (nI p) od nu = some (1, nI p', g 0, nu') ∧ ow g nu') ∧ ch_ txt tl n p' S
def kO (al sv : Nat → Int32) (sm th : Int32) (ho txt : Nat → Int32) (tl od : Int32) (nu : Nat → Int32) : Option (Int32 × (Nat → Int32) × (Nat → Int32) × Int32 × Int32 × (Nat → Int32) × Int32 × Int32 × (Nat → Int32)) :=
  bd2 (f_X6_save al sv sm) (fun sv_15 sm_16 => bd6 (f_X6_carryOut_L47 txt tl FU (0 : Int32) al ho (0 : Int32) od nu) (fun y1_18 al_19 ho_20 pos_21 od_22 nu_23 => some (y1_18, al_19, sv_15, sm_16, th, ho_20, pos_21, od_22, nu_23)))
theorem p_read {rB tl sm th : Int32} {fB txt al sv ho : Nat → Int32} {n : Nat} (h : TX rB fB tl txt n) : ∀ (m p F F' : Nat) (fO : Nat → Int32) (Os : List rw_), n ≤ p + m → p ≤ 100 → Os.length ≤ p → m + 1 < F → m < F' → RT 6 (nI Os.length) fO Os → (∃ (S : List rw_) (fO' : Nat → Int32) (pl' : Int32), f_X4_read_L19 rB fB F (nI Os.length) (nI Os.length) fO (nI p) (-1) = some (nI (Os ++ S).length, fO', pl', -1) ∧ RT 6 (nI (Os ++ S).length) fO' (Os ++ S) ∧ (Os ++ S).length ≤ 100 ∧ ch_ txt tl n p S ∧ ∀ (od : Int32) (nu : Nat → Int32), ∃ (od' : Int32) (nu' : Nat → Int32), f_X6_carryOut_L10 al sv sm th ho txt tl F' (nI p) od nu = kO al sv sm th ho txt tl od' nu') ∨ (∃ (q : Nat) (rO' : Int32) (fO' : Nat → Int32) (pl' : Int32), q < 900 ∧ f_X4_read_L19 rB fB F (nI Os.length) (nI Os.length) fO (nI p) (-1) = some (rO', fO', pl', nI q) ∧ ∀ (od : Int32) (nu : Nat → Int32), ∃ (od' : Int32) (nu' : Nat → Int32), f_X6_carryOut_L10 al sv sm th ho txt tl F' (nI p) od nu = some ((-10 : Int32) - nI q, al, sv, sm, th, ho, nI q, od', nu'))
  | _, _, 0, _, _, _, _, _, _, hF, _, _ => absurd hF (by omega)
  | _, _, _, 0, _, _, _, _, _, _, hF, _ => absurd hF (by omega)
  | m, p, F + 1, F' + 1, fO, Os, hm, hp, hR, hF, hF', hO => by
    have hn := h.2.2.1
    have e0 : Os ++ [] = Os := List.append_nil Os
    by_cases c : n ≤ p
    · refine Or.inl ⟨[], fO, nI p, ?_, by rw [e0]; exact hO, by rw [e0]; omega, ⟨c, by omega⟩, fun od nu => ⟨od, nu, ?_⟩⟩
      · rw [e0]
        unfold f_X4_read_L19 f_X4_length f_X3_rows
        rw [bd_some, bd_some, h.1, if_pos (q_le (by omega) (by omega) c)]
        split <;> rfl
      · unfold f_X6_carryOut_L10
        rw [h.2.1, if_pos (q_le (by omega) (by omega) c)]
        rfl
    · have hpn : p < n := by omega
      have hR1 : Os.length < 100 := by omega
      have hadd : f_X3_addRow (100 : Int32) (nI Os.length) = some (nI Os.length, nI (Os.length + 1)) := by
        have e := p_add (lim := 100) hR1 (by omega)
        exact e
      have c1 : ¬ (100 : Int32) ≤ nI Os.length := q_nle (a := 100) (by omega) (by omega) (by omega)
      have c2 : ¬ nI n ≤ nI p := q_nle (by omega) (by omega) (by omega)
      have eR : nI Os.length + (1 : Int32) = nI (Os.length + 1) := n_at
      obtain ⟨fO', p', e, r1, r2, r3⟩ := r_order h hpn hR1 fO
      have n1 : ¬ (1 : Int32) = 0 := by decide
      rcases r3 with ⟨ee, h1, h2, h3⟩ | ⟨q, ee, h1, h2⟩
      · subst ee
        have hO2 : RT 6 (nI (Os.length + 1)) fO' (Os ++ [fun j => fO' (Os.length * 6 + j)]) := hO.snoc r2 (fun j _ => rfl)
        have hlen : (Os ++ [fun j => fO' (Os.length * 6 + j)]).length = Os.length + 1 := by rw [List.length_append]; rfl
        cases m with
        | zero => omega
        | succ m =>
          rw [← hlen] at hO2
          have ih := p_read (sm := sm) (th := th) (al := al) (sv := sv) (ho := ho) h m p' F F' fO' (Os ++ [fun j => fO' (Os.length * 6 + j)]) (by omega) (by omega) (by omega) (by omega) (by omega) hO2
          rw [hlen] at ih
          have cc : f_X4_read_L19 rB fB (F + 1) (nI Os.length) (nI Os.length) fO (nI p) (-1) = f_X4_read_L19 rB fB F (nI (Os.length + 1)) (nI (Os.length + 1)) fO' (nI p') (-1) := by
            have hf : fj (-1) none = (-1 : Int32) := rfl
            conv => lhs; unfold f_X4_read_L19 f_X4_length f_X3_rows
            rw [if_neg c1, bd_some, bd_some, h.1, if_neg c2, if_pos rfl, hadd, bd2_some, ← h.1, r1, bd3_some, nm_eq, eR, hf]
          rw [cc]
          rcases ih with ⟨S, gO, pl', i1, i2, i3, i4, i5⟩ | ⟨q, rO', gO, pl', i1, i2, i3⟩
          · have ea : Os ++ [fun j => fO' (Os.length * 6 + j)] ++ S = Os ++ ((fun j => fO' (Os.length * 6 + j)) :: S) := by rw [List.append_assoc]; rfl
            rw [ea] at i1 i2 i3
            refine Or.inl ⟨(fun j => fO' (Os.length * 6 + j)) :: S, gO, pl', i1, i2, i3, ⟨hpn, p', h1, h2, h3, i4⟩, fun od nu => ?_⟩
            obtain ⟨nu', t1, _⟩ := h3 od nu
            obtain ⟨od2, nu2, t2⟩ := i5 (fO' (Os.length * 6 + 0)) nu'
            refine ⟨od2, nu2, ?_⟩
            unfold f_X6_carryOut_L10
            rw [t1, bd4_some, h.2.1, if_neg c2, if_neg n1, ← h.2.1]
            exact t2
          · refine Or.inr ⟨q, rO', gO, pl', i1, i2, fun od nu => ?_⟩
            obtain ⟨nu', t1, _⟩ := h3 od nu
            obtain ⟨od2, nu2, t2⟩ := i3 (fO' (Os.length * 6 + 0)) nu'
            refine ⟨od2, nu2, ?_⟩
            unfold f_X6_carryOut_L10
            rw [t1, bd4_some, h.2.1, if_neg c2, if_neg n1, ← h.2.1]
            exact t2
      · subst ee
        have hf : fj (-1) (some q) = nI q := by
          unfold fj
          exact if_pos rfl
        refine Or.inr ⟨q, nI (Os.length + 1), fO', nI p', h1, ?_, fun od nu => ?_⟩
        · obtain ⟨F1, hF1⟩ : ∃ F1, F = F1 + 1 := ⟨F - 1, by omega⟩
          conv => lhs; unfold f_X4_read_L19 f_X4_length f_X3_rows
          rw [if_neg c1, bd_some, bd_some, h.1, if_neg c2, if_pos rfl, hadd, bd2_some, ← h.1, r1, bd3_some, nm_eq, eR, hf, hF1]
          unfold f_X4_read_L19 f_X4_length f_X3_rows
          rw [bd_some, bd_some, if_neg (n_m1 (by omega))]
          split
          · rfl
          · split <;> rfl
        · obtain ⟨od', nu', t1⟩ := h2 od nu
          refine ⟨od', nu', ?_⟩
          unfold f_X6_carryOut_L10
          rw [t1, bd4_some, h.2.1, if_neg c2, if_pos rfl, nm_eq]
/-! what a grant needs -/
theorem b_nI {x hi : Int32} {n : Nat} (hM : hi.toInt = n) (h : ¬ btw x 0 hi = 0) : ∃ j : Nat, j ≤ n ∧ x = nI j := by
  unfold btw at h
  by_cases h1 : x < 0
  · rw [if_pos h1] at h
    exact absurd rfl h
  · rw [if_neg h1] at h
    by_cases h2 : hi < x
    · rw [if_pos h2] at h
      exact absurd rfl h
    · exact nI_of2 hM h1 (Int32.not_lt.mp h2)
theorem b_per {x : Int32} (h : ¬ btw x 0 9 = 0) : ∃ p : Nat, p < 10 ∧ x = nI p := by
  obtain ⟨j, hj, e⟩ := b_nI (n := 9) (by decide) h
  exact ⟨j, by omega, e⟩
def hs_ (x : Int32) (n : Nat) : Int32 := if x < 0 then 0 else if nI n ≤ x then 0 else 1
theorem c_has (x : Int32) (n : Nat) : f_X3_has x (nI n) = some (hs_ x n) := by
  unfold f_X3_has hs_
  split
  · rfl
  · split <;> rfl
theorem hs_t {x : Int32} {n : Nat} (hn : n < 100000) (h : ¬ hs_ x n = 0) : ∃ t : Nat, t < n ∧ x = nI t := by
  unfold hs_ at h
  rcases pk_ix x (n := n) (by omega) with h1 | h1 | h1
  · rw [if_pos h1] at h
    exact absurd rfl h
  · by_cases h0 : x < 0
    · rw [if_pos h0] at h
      exact absurd rfl h
    · rw [if_neg h0, if_pos h1] at h
      exact absurd rfl h
  · exact h1
theorem m_hasN {x : Int32} {n : Nat} (hn : n ≤ 100) : f_X6_in x.toInt64 (0 : Int64) ((nI n).toInt64 - (1 : Int64)) = some (hs_ x n) := by
  have hS : ∀ n : Fin 101, ((nI n).toInt64 - (1 : Int64)).toInt = (n : Int) - 1 := by decide +kernel
  have h1 := hS ⟨n, by omega⟩
  have h1 : ((nI n).toInt64 - (1 : Int64)).toInt = (n : Int) - 1 := h1
  have h0 : (0 : Int64) = (0 : Int32).toInt64 := by decide
  have hx : x.toInt64.toInt = x.toInt := Int32.toInt_toInt64 x
  have hnI : (nI n).toInt = (n : Int) := nI_toInt (by omega)
  unfold f_X6_in hs_
  by_cases c1 : x < 0
  · rw [if_pos c1, if_pos ((lg_cmp_lt _ _).mpr (by rw [h0]; exact (l_lt _ _).mpr c1))]
  · rw [if_neg c1, if_neg (fun z => c1 ((l_lt _ _).mp (by rw [← h0]; exact (lg_cmp_lt _ _).mp z)))]
    by_cases c2 : nI n ≤ x
    · rw [if_pos c2, if_pos ((lg_cmp_gt _ _).mpr (by
        rw [Int64.lt_iff_toInt_lt, h1, hx]
        rw [Int32.le_iff_toInt_le, hnI] at c2
        omega))]
    · rw [if_neg c2, if_neg (fun z => c2 (by
        have z := (lg_cmp_gt _ _).mp z
        rw [Int64.lt_iff_toInt_lt, h1, hx] at z
        rw [Int32.le_iff_toInt_le, hnI]
        omega))]
theorem m_isThing {x : Int32} {al : Nat → Int32} {T : List rw_} (m : MT al T) (hl : T.length ≤ 8) : f_X6_isThing x al = some (hs_ x T.length) := by
  have e : al (4 : Int32).toNatClampNeg = nI T.length := m.1
  unfold f_X6_isThing
  rw [ix4, e, m_hasN (by omega), bd_some]
theorem c_isPer (x : Int32) : f_X5_isPerson x = some (btw x 0 9) := by
  unfold f_X5_isPerson
  rw [c_btw, bd_some]
theorem m_isPer (x : Int32) : f_X6_isPerson x = some (btw x 0 9) := by
  have e : f_X6_in x.toInt64 (0 : Int64) (9 : Int64) = some (btw x 0 9) := m_in x 0 9
  unfold f_X6_isPerson
  rw [e, bd_some]
def alw (P T G : List rw_) (p t : Nat) (x4 x5 : Int32) : Int32 := if hd T G (10 * t + p) &&& (x4 ||| (4 : Int32)) = x4 ||| (4 : Int32) then (if P.getD p z_ 0 < x5 then 0 else if (40 : Int32) ≤ nI G.length then 0 else 1) else 0
theorem m_may {al : Nat → Int32} {P T G Lg : List rw_} {gi di re ti x4 x5 : Int32} {p t : Nat} (ho : Nat → Int32) (o : OS P T G Lg) (m : MS al P T G Lg gi di re ti) (hp : p < 10) (ht : t < T.length) : ∃ ho' : Nat → Int32, f_X6_mayGrant (nI p) (nI t) x4 x5 al ho = some (alw P T G p t x4 x5, ho') := by
  obtain ⟨h', l1, l2⟩ := q_lay m.qa o.2.2.1 ho
  refine ⟨h', ?_⟩
  have e5 : al (5 : Int32).toNatClampNeg = nI G.length := m.2.2.1.1
  unfold f_X6_mayGrant alw
  rw [l1, bd_some, q_hat l2 o.2.2.1.k hp ht, bd_some, e_8, n_ix (by omega) (by omega), n_cl (by omega), (m.1 p hp).1, ix5, e5]
  split
  · split
    · rfl
    · split <;> rfl
  · rfl
/-- the fault of a grant, of persons and a thing that there are -/
theorem c_fault {rP rT rG rL rH x4 x5 : Int32} {fP fT fG fL fH : Nat → Int32} {P T G Lg : List rw_} {p b t : Nat} (o : OS P T G Lg) (c : CS rP fP rT fT rG fG rL fL rH fH P T G Lg) (hp : p < 10) (hb : b < 10) (ht : t < T.length) : f_X2_faultOfGrant (nI p) (nI b) (nI t) x4 x5 rP fP rT rG rH fH = some (if btw x4 1 7 = 0 then 2 else if btw x5 0 100 = 0 then 2 else if p = b then 2 else if alw P T G p t x4 x5 = 0 then 3 else 0) := by
  have hT := o.2.2.1.2.1
  have hG := o.2.2.1.1
  have bp : ∀ q : Nat, q < 10 → ¬ btw (nI q) 0 9 = 0 := fun q hq => by
    unfold btw
    rw [if_neg (nI_pos (by omega)), if_neg (show ¬ (9 : Int32) < nI q from q_nlt (a := 9) (by omega) (by omega) (by omega))]
    decide
  have bt : ¬ hs_ (nI t) T.length = 0 := by
    unfold hs_
    rw [if_neg (nI_pos (by omega)), if_neg (q_nle (by omega) (by omega) ht)]
    decide
  have er : f_X2_rightsOf (nI p) (nI t) rH fH = some (hd T G (10 * t + p)) := by
    unfold f_X2_rightsOf
    rw [c_hat c.2.1 o.2.2.1.k hp ht, bd_some]
  have ef : f_X3_isFull (40 : Int32) rG = some (if (40 : Int32) ≤ nI G.length then 1 else 0) := by
    unfold f_X3_isFull
    rw [c.2.1.1.1]
    by_cases z : G.length < 40
    · rw [if_pos (show nI G.length < (40 : Int32) from q_lt (b := 40) (by omega) (by omega) z), if_neg (show ¬ (40 : Int32) ≤ nI G.length from q_nle (a := 40) (by omega) (by omega) z)]
    · rw [if_neg (show ¬ nI G.length < (40 : Int32) from q_nlt (b := 40) (by omega) (by omega) (by omega)), if_pos (show (40 : Int32) ≤ nI G.length from q_le (a := 40) (by omega) (by omega) (by omega))]
  have eh : f_X3_has (nI t) rT = some (hs_ (nI t) T.length) := by
    rw [c.2.1.2.1.1]
    exact c_has _ _
  have epb : (nI p = nI b) ↔ p = b := nI_eq (by omega) (by omega)
  unfold f_X2_faultOfGrant alw
  rw [c_isPer, bd_some, if_neg (bp p hp), c_isPer, bd_some, if_neg (bp b hb), eh, bd_some, if_neg bt, c_btw, bd_some, c_btw, bd_some, nm_eq, er, bd_some, c.1.m o.1 hp, bd_some, bd_some, ef, bd_some]
  by_cases c4 : btw x4 1 7 = 0
  · rw [if_pos c4, if_pos c4]
  rw [if_neg c4, if_neg c4]
  by_cases c5 : btw x5 0 100 = 0
  · rw [if_pos c5, if_pos c5]
  rw [if_neg c5, if_neg c5]
  by_cases c6 : p = b
  · rw [if_pos (epb.mpr c6), if_pos c6]
  rw [if_neg (fun z => c6 (epb.mp z)), if_neg c6]
  by_cases c7 : hd T G (10 * t + p) &&& (x4 ||| (4 : Int32)) = x4 ||| (4 : Int32)
  · rw [if_pos c7, if_pos c7]
    by_cases c8 : P.getD p z_ 0 < x5
    · rw [if_pos c8, if_pos c8, if_pos rfl]
    · rw [if_neg c8, if_neg c8]
      by_cases c9 : (40 : Int32) ≤ nI G.length
      · rw [if_pos c9, if_pos c9, if_pos rfl, if_neg (show ¬ (1 : Int32) = 0 by decide)]
      · rw [if_neg c9, if_neg c9, if_pos rfl, if_neg (show ¬ (1 : Int32) = 0 by decide)]
  · rw [if_neg c7, if_neg c7, if_pos rfl]
    split <;> rfl
