/-! ===== PURE: the text is read ===== -/
def btw (x lo hi : Int32) : Int32 := if x < lo then 0 else if hi < x then 0 else 1
theorem c_btw (x lo hi : Int32) : f_X5_isBetween x lo hi = some (btw x lo hi) := by
  unfold f_X5_isBetween btw
  split
  · rfl
  · split <;> rfl
theorem l_lt (x y : Int32) : x.toInt64 < y.toInt64 ↔ x < y := by
  rw [Int64.lt_iff_toInt_lt, Int32.lt_iff_toInt_lt, Int32.toInt_toInt64, Int32.toInt_toInt64]
theorem m_in (x lo hi : Int32) : f_X6_in x.toInt64 lo.toInt64 hi.toInt64 = some (btw x lo hi) := by
  unfold f_X6_in btw
  by_cases h1 : x < lo
  · rw [if_pos h1, if_pos ((lg_cmp_lt _ _).mpr ((l_lt _ _).mpr h1))]
  · rw [if_neg h1, if_neg (fun z => h1 ((l_lt _ _).mp ((lg_cmp_lt _ _).mp z)))]
    by_cases h2 : hi < x
    · rw [if_pos h2, if_pos ((lg_cmp_gt _ _).mpr ((l_lt _ _).mpr h2))]
    · rw [if_neg h2, if_neg (fun z => h2 ((l_lt _ _).mp ((lg_cmp_gt _ _).mp z)))]
def TX (rB : Int32) (fB : Nat → Int32) (tl : Int32) (txt : Nat → Int32) (n : Nat) : Prop := rB = nI n ∧ tl = nI n ∧ n ≤ 100 ∧ eqon n fB txt ∧ ∀ i : Nat, i < n → okN 128 (txt i)
def cur (n : Nat) (txt : Nat → Int32) (p : Nat) : Int32 := if p < n then txt p else -1
theorem c_cur {rB tl : Int32} {fB txt : Nat → Int32} {n p : Nat} (h : TX rB fB tl txt n) (hp : p < 1000) : f_X4_current rB fB (nI p) = some (cur n txt p) := by
  have hn := h.2.2.1
  unfold f_X4_current f_X3_has cur
  rw [h.1, if_neg (nI_pos (by omega))]
  by_cases c : p < n
  · have e := p_at (col := 1) (n := 100) (rows := n) (R := p) (C := 0) (f := fB) c (by omega) (by omega) (by omega) (by omega) (by omega)
    have e : f_X3_at (1 : Int32) 100 (nI p) (0 : Int32) (nI n) fB = some (fB (p * 1 + 0)) := e
    rw [if_neg (q_nle (by omega) (by omega) c), bd_some, if_neg (show ¬ (1 : Int32) = 0 by decide), e, bd_some, if_pos c, Nat.mul_one, Nat.add_zero, h.2.2.2.1 p c]
  · rw [if_pos (q_le (by omega) (by omega) (by omega)), bd_some, if_pos rfl, if_neg c]
theorem m_cur {rB tl : Int32} {fB txt : Nat → Int32} {n p : Nat} (h : TX rB fB tl txt n) (hp : p < 1000) : f_X6_here txt tl (nI p) = some (cur n txt p) := by
  have hn := h.2.2.1
  unfold f_X6_here cur
  rw [h.2.1]
  by_cases c : p < n
  · rw [if_neg (q_nle (by omega) (by omega) c), n_ix (by omega) (by omega), n_cl (by omega), nm_eq, if_pos c]
  · rw [if_pos (q_le (by omega) (by omega) (by omega)), if_neg c]
theorem cur_c {rB tl : Int32} {fB txt : Nat → Int32} {n p : Nat} (h : TX rB fB tl txt n) {Q : Int32 → Prop} (h1 : Q (-1)) (h2 : ∀ k : Fin 128, Q (nI k)) : Q (cur n txt p) := by
  unfold cur
  by_cases c : p < n
  · rw [if_pos c]
    have o := h.2.2.2.2 p c
    rw [o.1]
    exact h2 ⟨cN (txt p), o.2⟩
  · rw [if_neg c]
    exact h1
theorem cur_lt {n p : Nat} {txt : Nat → Int32} (h : ¬ cur n txt p = -1) : p < n := by
  unfold cur at h
  by_cases c : p < n
  · exact c
  · rw [if_neg c] at h
    exact absurd rfl h
/-- the first fault is kept -/
def fj (fa : Int32) : Option Nat → Int32
  | none => fa
  | some q => if fa = -1 then nI q else fa
theorem fj_q {q : Nat} (hq : q < 100000) : ∀ e : Option Nat, fj (nI q) e = nI q
  | none => rfl
  | some _ => if_neg (n_m1 hq)
theorem c_fail (p : Nat) (fa : Int32) : f_X4_fail (nI p) fa = some (fj fa (some p)) := by
  unfold f_X4_fail fj
  split <;> rfl
/-- a byte -/
theorem r_byte {rB tl : Int32} {fB txt : Nat → Int32} {n p : Nat} (h : TX rB fB tl txt n) (hp : p < 900) (x : Int32) (hx : ¬ x = -1) : ∃ e : Option Nat, (∀ fa : Int32, f_X4_readByte x rB fB (nI p) fa = some (nI (p + 1), fj fa e)) ∧ ((e = none ∧ p < n ∧ cur n txt p = x ∧ f_X6_takesByte x txt tl (nI p) = some (1, nI (p + 1))) ∨ (e = some p ∧ ¬ cur n txt p = x ∧ f_X6_takesByte x txt tl (nI p) = some (0, nI p))) := by
  have ek : nI p + (1 : Int32) = nI (p + 1) := n_at
  by_cases c : cur n txt p = x
  · refine ⟨none, fun fa => ?_, Or.inl ⟨rfl, cur_lt (by rw [c]; exact hx), c, ?_⟩⟩
    · unfold f_X4_readByte
      rw [c_cur h (by omega), bd_some, if_pos c, nm_eq, ek]
      rfl
    · unfold f_X6_takesByte
      rw [m_cur h (by omega), bd_some, if_pos c, nm_eq, ek]
  · refine ⟨some p, fun fa => ?_, Or.inr ⟨rfl, c, ?_⟩⟩
    · unfold f_X4_readByte
      rw [c_cur h (by omega), bd_some, if_neg c, c_fail, bd_some, nm_eq, ek]
    · unfold f_X6_takesByte
      rw [m_cur h (by omega), bd_some, if_neg c, nm_eq, z_add]
/-- a sign -/
theorem r_sign {rB tl : Int32} {fB txt : Nat → Int32} {n p : Nat} (h : TX rB fB tl txt n) (hp : p < 900) : ∃ (s : Int32) (e : Option Nat), (∀ fa : Int32, f_X4_readSign rB fB (nI p) fa = some (s, nI (p + 1), fj fa e)) ∧ ((e = none ∧ p < n ∧ ∀ nu : Nat → Int32, f_X6_takesSign txt tl (nI p) nu = some (1, nI (p + 1), upd nu 2 s)) ∨ (e = some p ∧ ∀ nu : Nat → Int32, f_X6_takesSign txt tl (nI p) nu = some (0, nI p, upd nu 2 s))) := by
  have ek : nI p + (1 : Int32) = nI (p + 1) := n_at
  have c2 : (2 : Int32).toNatClampNeg = 2 := by decide
  have n2 : ∀ z : Option (Int32 × Int32 × (Nat → Int32)), ix (2 : Int32) 5 z = z := fun z => ixo z (by decide)
  by_cases c : cur n txt p = (45 : Int32)
  · have c' : ¬ cur n txt p = (43 : Int32) := by rw [c]; decide
    refine ⟨-1, none, fun fa => ?_, Or.inl ⟨rfl, cur_lt (by rw [c]; decide), fun nu => ?_⟩⟩
    · unfold f_X4_readSign
      rw [c_cur h (by omega), bd_some, if_pos c, bd_some, if_neg c', bd_some, if_pos c, nm_eq, ek]
      rfl
    · unfold f_X6_takesSign
      rw [m_cur h (by omega), bd_some, if_pos c, n2, nm_eq, bd_some, if_neg c', bd_some, if_pos c, nm_eq, ek, c2]
  · by_cases c' : cur n txt p = (43 : Int32)
    · refine ⟨1, none, fun fa => ?_, Or.inl ⟨rfl, cur_lt (by rw [c']; decide), fun nu => ?_⟩⟩
      · unfold f_X4_readSign
        rw [c_cur h (by omega), bd_some, if_neg c, bd_some, if_pos c', nm_eq, ek]
        rfl
      · unfold f_X6_takesSign
        rw [m_cur h (by omega), bd_some, if_neg c, n2, nm_eq, bd_some, if_pos c', nm_eq, ek, c2]
    · refine ⟨1, some p, fun fa => ?_, Or.inr ⟨rfl, fun nu => ?_⟩⟩
      · unfold f_X4_readSign
        rw [c_cur h (by omega), bd_some, if_neg c, bd_some, if_neg c', bd_some, if_neg c, c_fail, bd_some, nm_eq, ek]
      · unfold f_X6_takesSign
        rw [m_cur h (by omega), bd_some, if_neg c, n2, nm_eq, bd_some, if_neg c', bd_some, if_neg c, nm_eq, z_add, c2]
/-- a digit -/
theorem dig_eq {rB tl : Int32} {fB txt : Nat → Int32} {n p : Nat} (h : TX rB fB tl txt n) (lo hi : Int32) (hl : (lo = 0 ∧ (hi = 9 ∨ hi = 7)) ∨ (lo = 1 ∧ hi = 7)) : btw (cur n txt p) (48 + lo) (48 + hi) = btw (cur n txt p - 48) lo hi ∧ (¬ btw (cur n txt p - 48) lo hi = 0 → ¬ cur n txt p = -1 ∧ okN (cN hi + 1) (cur n txt p - 48) ∧ lo ≤ cur n txt p - 48) := by
  rcases hl with ⟨h1, h2 | h2⟩ | ⟨h1, h2⟩
  · subst h1 h2
    refine cur_c h (Q := fun x => btw x (48 + 0) (48 + 9) = btw (x - 48) 0 9 ∧ (¬ btw (x - 48) 0 9 = 0 → ¬ x = -1 ∧ (x - 48 = nI (cN (x - 48)) ∧ cN (x - 48) < cN 9 + 1) ∧ 0 ≤ x - 48)) ?_ ?_ <;> decide +kernel
  · subst h1 h2
    refine cur_c h (Q := fun x => btw x (48 + 0) (48 + 7) = btw (x - 48) 0 7 ∧ (¬ btw (x - 48) 0 7 = 0 → ¬ x = -1 ∧ (x - 48 = nI (cN (x - 48)) ∧ cN (x - 48) < cN 7 + 1) ∧ 0 ≤ x - 48)) ?_ ?_ <;> decide +kernel
  · subst h1 h2
    refine cur_c h (Q := fun x => btw x (48 + 1) (48 + 7) = btw (x - 48) 1 7 ∧ (¬ btw (x - 48) 1 7 = 0 → ¬ x = -1 ∧ (x - 48 = nI (cN (x - 48)) ∧ cN (x - 48) < cN 7 + 1) ∧ 1 ≤ x - 48)) ?_ ?_ <;> decide +kernel
theorem r_digit {rB tl : Int32} {fB txt : Nat → Int32} {n p : Nat} (h : TX rB fB tl txt n) (hp : p < 900) (lo hi : Int32) (hl : (lo = 0 ∧ (hi = 9 ∨ hi = 7)) ∨ (lo = 1 ∧ hi = 7)) : ∃ (v : Int32) (e : Option Nat), (∀ fa : Int32, f_X4_readDigit lo hi rB fB (nI p) fa = some (v, nI (p + 1), fj fa e)) ∧ ((e = none ∧ p < n ∧ okN (cN hi + 1) v ∧ lo ≤ v ∧ ∀ (k : Nat) (nu : Nat → Int32), k < 5 → f_X6_takesDigit (nI k) lo hi txt tl (nI p) nu = some (1, nI (p + 1), upd nu k v)) ∨ (e = some p ∧ ∀ (k : Nat) (nu : Nat → Int32), f_X6_takesDigit (nI k) lo hi txt tl (nI p) nu = some (0, nI p, nu))) := by
  have ek : nI p + (1 : Int32) = nI (p + 1) := n_at
  have hd := dig_eq (p := p) h lo hi hl
  have hin := m_in (cur n txt p) (48 + lo) (48 + hi)
  rw [hd.1] at hin
  by_cases c : btw (cur n txt p - 48) lo hi = 0
  · refine ⟨cur n txt p - 48, some p, fun fa => ?_, Or.inr ⟨rfl, fun k nu => ?_⟩⟩
    · unfold f_X4_readDigit
      rw [c_cur h (by omega), bd_some, nm_eq, c_btw, bd_some, if_pos c, c_fail, bd_some, nm_eq, ek]
    · unfold f_X6_takesDigit
      rw [m_cur h (by omega), bd_some, hin, bd_some, if_pos c]
  · have h3 := hd.2 c
    refine ⟨cur n txt p - 48, none, fun fa => ?_, Or.inl ⟨rfl, cur_lt h3.1, h3.2.1, h3.2.2, fun k nu hk => ?_⟩⟩
    · unfold f_X4_readDigit
      rw [c_cur h (by omega), bd_some, nm_eq, c_btw, bd_some, if_neg c, nm_eq, ek]
      rfl
    · unfold f_X6_takesDigit
      rw [m_cur h (by omega), bd_some, hin, bd_some, if_neg c, bd_some, nm_eq, n_ix hk (by omega), n_cl (by omega), nm_eq, nm_eq, ek]
/-- the digits of a number -/
def nl_ (n : Nat) (txt : Nat → Int32) : Nat → Nat → Int32 → Int32 × Nat
  | 0, p, v => (v, p)
  | m + 1, p, v => if btw (cur n txt p) 48 57 = 0 then (v, p) else nl_ n txt m (p + 1) (((10 : Int32) * v + cur n txt p) - 48)
theorem nl_p {n : Nat} {txt : Nat → Int32} : ∀ (m p : Nat) (v : Int32), p ≤ (nl_ n txt m p v).2 ∧ (nl_ n txt m p v).2 ≤ p + m ∧ (p ≤ n → (nl_ n txt m p v).2 ≤ n)
  | 0, p, v => ⟨Nat.le_refl _, Nat.le_refl _, fun h => h⟩
  | m + 1, p, v => by
    unfold nl_
    by_cases c : btw (cur n txt p) 48 57 = 0
    · rw [if_pos c]
      exact ⟨Nat.le_refl _, by show p ≤ p + (m + 1); omega, fun h => h⟩
    · rw [if_neg c]
      have ih := nl_p (n := n) (txt := txt) m (p + 1) (((10 : Int32) * v + cur n txt p) - 48)
      have hp : p < n := by
        refine cur_lt (txt := txt) (fun z => c ?_)
        rw [z]
        decide
      exact ⟨by omega, by omega, fun _ => ih.2.2 (by omega)⟩
theorem c_dig (x : Int32) : f_X4_isDigit x = some (btw x 48 57) := by
  unfold f_X4_isDigit
  rw [c_btw, bd_some]
theorem m_dig (x : Int32) : f_X6_in x.toInt64 (48 : Int64) (57 : Int64) = some (btw x 48 57) := m_in x 48 57
theorem c_nl {rB tl : Int32} {fB txt : Nat → Int32} {n M : Nat} (h : TX rB fB tl txt n) (hM : M < 10) : ∀ (m x p F : Nat) (v : Int32), m + x = M → p + m < 900 → m < F → f_X4_readNumber_L12 (nI M) rB fB F v (nI x) (nI p) = some ((nl_ n txt m p v).1, nI (nl_ n txt m p v).2)
  | _, _, _, 0, _, _, _, hF => absurd hF (by omega)
  | 0, x, p, F + 1, v, hx, hp, hF => by
    unfold f_X4_readNumber_L12 nl_
    rw [if_pos (q_le (by omega) (by omega) (by omega))]
  | m + 1, x, p, F + 1, v, hx, hp, hF => by
    have ek : nI p + (1 : Int32) = nI (p + 1) := n_at
    have ex : nI x + (1 : Int32) = nI (x + 1) := n_at
    unfold f_X4_readNumber_L12 nl_
    rw [if_neg (q_nle (by omega) (by omega) (by omega)), c_cur h (by omega), bd_some, c_dig, bd_some]
    by_cases c : btw (cur n txt p) 48 57 = 0
    · rw [if_pos c, if_pos c]
    · rw [if_neg c, if_neg c, bd_some, nm_eq, nm_eq, nm_eq, ek, ex]
      exact c_nl h hM m (x + 1) (p + 1) F _ (by omega) (by omega) (by omega)
theorem m_nl {rB tl : Int32} {fB txt : Nat → Int32} {n M s : Nat} (h : TX rB fB tl txt n) (hM : M < 10) (hs : s < 900) : ∀ (m p F : Nat) (v : Int32), m + p = s + M → p + m < 900 → m < F → f_X6_takesNumber_L9 (nI M) (nI s) txt tl F v (nI p) = some ((nl_ n txt m p v).1, nI (nl_ n txt m p v).2)
  | _, _, 0, _, _, _, hF => absurd hF (by omega)
  | 0, p, F + 1, v, hx, hp, hF => by
    have es : nI s + nI M = nI (s + M) := n_at
    unfold f_X6_takesNumber_L9 nl_
    rw [m_cur h (by omega), bd_some, m_dig, bd_some, es, if_pos (q_le (a := s + M) (b := p) (by omega) (by omega) (by omega))]
    split <;> rfl
  | m + 1, p, F + 1, v, hx, hp, hF => by
    have es : nI s + nI M = nI (s + M) := n_at
    have ek : nI p + (1 : Int32) = nI (p + 1) := n_at
    unfold f_X6_takesNumber_L9 nl_
    rw [m_cur h (by omega), bd_some, m_dig, bd_some, es, if_neg (q_nle (a := s + M) (b := p) (by omega) (by omega) (by omega))]
    by_cases c : btw (cur n txt p) 48 57 = 0
    · rw [if_pos c, if_pos c]
    · rw [if_neg c, if_neg c, bd_some, nm_eq, nm_eq, ek]
      exact m_nl h hM hs m (p + 1) F _ (by omega) (by omega) (by omega)
theorem r_number {rB tl : Int32} {fB txt : Nat → Int32} {n p M : Nat} (h : TX rB fB tl txt n) (hp : p < 800) (hM : M < 10) (lo hi : Int32) : ∃ (v : Int32) (p' : Nat) (e : Option Nat), (∀ fa : Int32, f_X4_readNumber (nI M) lo hi rB fB (nI p) fa = some (v, nI p', fj fa e)) ∧ p' ≤ p + M ∧ ((e = none ∧ p < p' ∧ (p ≤ n → p' ≤ n) ∧ ¬ btw v lo hi = 0 ∧ ∀ (k : Nat) (nu : Nat → Int32), k < 5 → f_X6_takesNumber (nI k) (nI M) lo hi txt tl (nI p) nu = some (1, nI p', upd nu k v)) ∨ (∃ q : Nat, e = some q ∧ q < 900 ∧ ∀ (k : Nat) (nu : Nat → Int32), k < 5 → ∃ nu' : Nat → Int32, f_X6_takesNumber (nI k) (nI M) lo hi txt tl (nI p) nu = some (0, nI q, nu'))) := by
  have e1 := c_nl h hM M 0 p FU 0 (by omega) (by omega) (by unfold FU; omega)
  have e1 : f_X4_readNumber_L12 (nI M) rB fB FU 0 (0 : Int32) (nI p) = some ((nl_ n txt M p 0).1, nI (nl_ n txt M p 0).2) := e1
  have e2 := m_nl (s := p) h hM (by omega) M p FU 0 (by omega) (by omega) (by unfold FU; omega)
  have hb := nl_p (n := n) (txt := txt) M p 0
  have em := m_in (nl_ n txt M p 0).1 lo hi
  have ec := c_btw (nl_ n txt M p 0).1 lo hi
  refine ⟨(nl_ n txt M p 0).1, (nl_ n txt M p 0).2, ?_⟩
  generalize (nl_ n txt M p 0).1 = v at *
  generalize (nl_ n txt M p 0).2 = w at *
  have hw : ∀ fa : Int32, f_X4_current rB fB (nI w) = some (cur n txt w) := fun _ => c_cur h (by omega)
  have hm := m_cur (p := w) h (by omega)
  by_cases c1 : w = p
  · refine ⟨some w, fun fa => ?_, hb.2.1, Or.inr ⟨w, rfl, by omega, fun k nu _ => ⟨nu, ?_⟩⟩⟩
    · unfold f_X4_readNumber
      rw [e1, bd2_some, if_pos (by rw [c1]), c_fail, bd_some]
    · unfold f_X6_takesNumber
      rw [e2, bd2_some, if_pos (by rw [c1])]
  · have n1 : ¬ nI w = nI p := q_ne (by omega) (by omega) c1
    by_cases c2 : btw (cur n txt w) 48 57 = 0
    · by_cases c3 : btw v lo hi = 0
      · refine ⟨some p, fun fa => ?_, hb.2.1, Or.inr ⟨p, rfl, by omega, fun k nu hk => ⟨upd nu k v, ?_⟩⟩⟩
        · unfold f_X4_readNumber
          rw [e1, bd2_some, if_neg n1, hw 0, bd_some, c_dig, bd_some, if_pos c2, ec, bd_some, if_pos c3, c_fail, bd_some]
        · unfold f_X6_takesNumber
          rw [e2, bd2_some, if_neg n1, hm, bd_some, m_dig, bd_some, if_pos c2, n_ix hk (by omega), n_cl (by omega), nm_eq, em, bd_some, if_pos c3, if_pos (q_le (by omega) (by omega) (Nat.le_refl _))]
      · refine ⟨none, fun fa => ?_, hb.2.1, Or.inl ⟨rfl, by omega, hb.2.2, c3, fun k nu hk => ?_⟩⟩
        · unfold f_X4_readNumber
          rw [e1, bd2_some, if_neg n1, hw 0, bd_some, c_dig, bd_some, if_pos c2, ec, bd_some, if_neg c3]
          rfl
        · unfold f_X6_takesNumber
          rw [e2, bd2_some, if_neg n1, hm, bd_some, m_dig, bd_some, if_pos c2, n_ix hk (by omega), n_cl (by omega), nm_eq, em, bd_some, if_neg c3, if_neg (q_nle (by omega) (by omega) (by omega))]
    · refine ⟨some w, fun fa => ?_, hb.2.1, Or.inr ⟨w, rfl, by omega, fun k nu _ => ⟨nu, ?_⟩⟩⟩
      · unfold f_X4_readNumber
        rw [e1, bd2_some, if_neg n1, hw 0, bd_some, c_dig, bd_some, if_neg c2, c_fail, bd_some]
      · unfold f_X6_takesNumber
        rw [e2, bd2_some, if_neg n1, hm, bd_some, m_dig, bd_some, if_neg c2]
