/-! ===== PURE: the text is read (3): orders c and g, any order ===== -/
theorem some_lt {P : Prop} {e : Option Nat} {b : Nat} (h : (e = none ∧ P) ∨ ∃ q : Nat, e = some q ∧ q < b) (hb : b ≤ 100000) : ∀ q : Nat, e = some q → q < 100000 := fun q hq => by
  rcases h with ⟨a, _⟩ | ⟨q', a, b⟩
  · rw [a] at hq
    exact absurd hq (by simp)
  · rw [a] at hq
    have := Option.some.inj hq
    omega
theorem ej_lt {e1 e2 : Option Nat} (h1 : ∀ q : Nat, e1 = some q → q < 100000) (h2 : ∀ q : Nat, e2 = some q → q < 100000) : ∀ q : Nat, ej e1 e2 = some q → q < 100000 := by
  cases e1 with
  | none => exact h2
  | some q => exact h1
theorem putsO {R : Nat} (hR : R < 100) : (∀ (f : Nat → Int32) (v : Int32), f_X3_put (6 : Int32) 600 (nI R) (0 : Int32) v (nI (R + 1)) f = some (upd f (R * 6 + 0) v)) ∧ (∀ (f : Nat → Int32) (v : Int32), f_X3_put (6 : Int32) 600 (nI R) (1 : Int32) v (nI (R + 1)) f = some (upd f (R * 6 + 1) v)) ∧ (∀ (f : Nat → Int32) (v : Int32), f_X3_put (6 : Int32) 600 (nI R) (2 : Int32) v (nI (R + 1)) f = some (upd f (R * 6 + 2) v)) ∧ (∀ (f : Nat → Int32) (v : Int32), f_X3_put (6 : Int32) 600 (nI R) (3 : Int32) v (nI (R + 1)) f = some (upd f (R * 6 + 3) v)) ∧ (∀ (f : Nat → Int32) (v : Int32), f_X3_put (6 : Int32) 600 (nI R) (4 : Int32) v (nI (R + 1)) f = some (upd f (R * 6 + 4) v)) ∧ (∀ (f : Nat → Int32) (v : Int32), f_X3_put (6 : Int32) 600 (nI R) (5 : Int32) v (nI (R + 1)) f = some (upd f (R * 6 + 5) v)) := by
  refine ⟨fun f v => ?_, fun f v => ?_, fun f v => ?_, fun f v => ?_, fun f v => ?_, fun f v => ?_⟩
  · have e := putO (f := f) (v := v) hR (show 0 < 6 by omega)
    exact e
  · have e := putO (f := f) (v := v) hR (show 1 < 6 by omega)
    exact e
  · have e := putO (f := f) (v := v) hR (show 2 < 6 by omega)
    exact e
  · have e := putO (f := f) (v := v) hR (show 3 < 6 by omega)
    exact e
  · have e := putO (f := f) (v := v) hR (show 4 < 6 by omega)
    exact e
  · have e := putO (f := f) (v := v) hR (show 5 < 6 by omega)
    exact e
theorem r_ordC {rB tl : Int32} {fB txt : Nat → Int32} {n p R : Nat} (h : TX rB fB tl txt n) (hp : p < n) (hR : R < 100) (fO : Nat → Int32) (hK : cur n txt p = 99) : r_Q rB fB tl txt n p R fO := by
  have hn := h.2.2.1
  have ek : nI p + (1 : Int32) = nI (p + 1) := n_at
  obtain ⟨u0, u1, u2, _, _, _⟩ := putsO hR
  obtain ⟨v1, e1, c1, alt1⟩ := r_digit (p := p + 1) h (by omega) 0 9 (Or.inl ⟨rfl, Or.inl rfl⟩)
  obtain ⟨s, e2, c2, alt2⟩ := r_sign (p := p + 1 + 1) h (by omega)
  obtain ⟨v3, p3, e3, c3, hp3, alt3⟩ := r_number (M := 3) (p := p + 1 + 1 + 1) h (by omega) (by omega) 0 100
  have c3 : ∀ fa : Int32, f_X4_readNumber (3 : Int32) 0 100 rB fB (nI (p + 1 + 1 + 1)) fa = some (v3, nI p3, fj fa e3) := c3
  obtain ⟨e4, c4, alt4⟩ := r_byte (p := p3) h (by omega) 59 (by decide)
  have b1 : ∀ q : Nat, e1 = some q → q < 100000 := some_lt (P := True) (b := 900) (by
    rcases alt1 with ⟨a, _⟩ | ⟨a, _⟩
    · exact Or.inl ⟨a, trivial⟩
    · exact Or.inr ⟨_, a, by omega⟩) (by omega)
  have b2 : ∀ q : Nat, e2 = some q → q < 100000 := some_lt (P := True) (b := 900) (by
    rcases alt2 with ⟨a, _⟩ | ⟨a, _⟩
    · exact Or.inl ⟨a, trivial⟩
    · exact Or.inr ⟨_, a, by omega⟩) (by omega)
  have b3 : ∀ q : Nat, e3 = some q → q < 100000 := some_lt (P := True) (b := 900) (by
    rcases alt3 with ⟨a, _⟩ | ⟨q, a, b, _⟩
    · exact Or.inl ⟨a, trivial⟩
    · exact Or.inr ⟨q, a, b⟩) (by omega)
  refine ⟨upd (upd (upd fO (R * 6 + 0) 99) (R * 6 + 1) v1) (R * 6 + 2) (s * v3), p3 + 1, ej (ej (ej e1 e2) e3) e4, ?_, fun i hi => by rw [pk_un (by omega), pk_un (by omega), pk_un (by omega)], ?_⟩
  · unfold f_X4_readOrder
    rw [c_cur h (by omega), bd_some, hK, u0, bd_some, nm_eq, ek, if_pos rfl, c1, bd3_some, u1, bd_some, c2, bd3_some, c3, bd3_some, u2, bd_some, c4, bd2_some, fj_ej b1, fj_ej (ej_lt b1 b2), fj_ej (ej_lt (ej_lt b1 b2) b3)]
  · have n1 : ¬ (1 : Int32) = 0 := by decide
    rcases alt1 with ⟨a1, a2, a3, _, a5⟩ | ⟨a1, a2⟩
    · subst a1
      rcases alt2 with ⟨d1, d2, d3⟩ | ⟨d1, d2⟩
      · subst d1
        rcases alt3 with ⟨g1, g2, g3', g4, g5⟩ | ⟨q, g1, g2, g3'⟩
        · subst g1
          have tp : ∀ nu : Nat → Int32, f_X6_takesParts txt tl (nI (p + 1)) 99 nu = some (1, nI p3, upd (upd (upd nu 0 v1) 2 s) 1 v3) := fun nu => by
            have i1 : f_X6_takesDigit (0 : Int32) 0 9 txt tl (nI (p + 1)) nu = _ := a5 0 nu (by omega)
            have i3 : f_X6_takesNumber (1 : Int32) (3 : Int32) 0 100 txt tl (nI (p + 1 + 1 + 1)) (upd (upd nu 0 v1) 2 s) = _ := g5 1 (upd (upd nu 0 v1) 2 s) (by omega)
            unfold f_X6_takesParts
            rw [if_pos rfl, i1, bd3_some, if_neg n1, d3, bd3_some, if_neg n1, i3, bd3_some, if_neg n1]
          rcases alt4 with ⟨k1, k2, k3, _⟩ | ⟨k1, k2, _⟩
          · subst k1
            refine Or.inl ⟨rfl, by omega, by omega, fun od nu => ⟨upd (upd (upd nu 0 v1) 2 s) 1 v3, ?_, ?_⟩⟩
            · have hf := (fin_order h (by omega) hK (by decide) od nu _).2 p3 (by omega) (tp nu)
              rw [hf, if_pos k3, pk_un (by omega), pk_un (by omega), pk_us]
            · refine Or.inr (Or.inr (Or.inl ⟨?_, ?_, ?_, ?_⟩))
              · show upd (upd (upd fO (R * 6 + 0) 99) (R * 6 + 1) v1) (R * 6 + 2) (s * v3) (R * 6 + 0) = 99
                rw [pk_un (by omega), pk_un (by omega), pk_us]
              · show okN 10 (upd (upd (upd fO (R * 6 + 0) 99) (R * 6 + 1) v1) (R * 6 + 2) (s * v3) (R * 6 + 1))
                rw [pk_un (by omega), pk_us]
                exact a3
              · show upd (upd (upd nu 0 v1) 2 s) 1 v3 0 = upd (upd (upd fO (R * 6 + 0) 99) (R * 6 + 1) v1) (R * 6 + 2) (s * v3) (R * 6 + 1)
                rw [pk_un (by omega), pk_un (by omega), pk_us, pk_un (by omega), pk_us]
              · show upd (upd (upd nu 0 v1) 2 s) 1 v3 2 * upd (upd (upd nu 0 v1) 2 s) 1 v3 1 = upd (upd (upd fO (R * 6 + 0) 99) (R * 6 + 1) v1) (R * 6 + 2) (s * v3) (R * 6 + 2)
                rw [pk_un (by omega), pk_us, pk_us, pk_us]
          · subst k1
            refine Or.inr ⟨p3, rfl, by omega, fun od nu => ⟨99, upd (upd (upd nu 0 v1) 2 s) 1 v3, ?_⟩⟩
            have hf := (fin_order h (by omega) hK (by decide) od nu _).2 p3 (by omega) (tp nu)
            rw [hf, if_neg k2]
        · subst g1
          refine Or.inr ⟨q, rfl, g2, fun od nu => ?_⟩
          obtain ⟨nu', i3⟩ := g3' 1 (upd (upd nu 0 v1) 2 s) (by omega)
          have i3 : f_X6_takesNumber (1 : Int32) (3 : Int32) 0 100 txt tl (nI (p + 1 + 1 + 1)) (upd (upd nu 0 v1) 2 s) = some (0, nI q, nu') := i3
          have i1 : f_X6_takesDigit (0 : Int32) 0 9 txt tl (nI (p + 1)) nu = _ := a5 0 nu (by omega)
          refine ⟨99, nu', (fin_order h (by omega) hK (by decide) od nu nu').1 q ?_⟩
          unfold f_X6_takesParts
          rw [if_pos rfl, i1, bd3_some, if_neg n1, d3, bd3_some, if_neg n1, i3, bd3_some, if_pos rfl]
      · subst d1
        refine Or.inr ⟨p + 1 + 1, rfl, by omega, fun od nu => ⟨99, upd (upd nu 0 v1) 2 s, (fin_order h (by omega) hK (by decide) od nu _).1 (p + 1 + 1) ?_⟩⟩
        have i1 : f_X6_takesDigit (0 : Int32) 0 9 txt tl (nI (p + 1)) nu = _ := a5 0 nu (by omega)
        unfold f_X6_takesParts
        rw [if_pos rfl, i1, bd3_some, if_neg n1, d2, bd3_some, if_pos rfl]
    · subst a1
      refine Or.inr ⟨p + 1, rfl, by omega, fun od nu => ⟨99, nu, (fin_order h (by omega) hK (by decide) od nu _).1 (p + 1) ?_⟩⟩
      have i1 : f_X6_takesDigit (0 : Int32) 0 9 txt tl (nI (p + 1)) nu = _ := a2 0 nu
      unfold f_X6_takesParts
      rw [if_pos rfl, i1, bd3_some, if_pos rfl]
theorem r_ordG {rB tl : Int32} {fB txt : Nat → Int32} {n p R : Nat} (h : TX rB fB tl txt n) (hp : p < n) (hR : R < 100) (fO : Nat → Int32) (hK : cur n txt p = 103) : r_Q rB fB tl txt n p R fO := by
  have hn := h.2.2.1
  have ek : nI p + (1 : Int32) = nI (p + 1) := n_at
  obtain ⟨u0, u1, u2, u3, u4, u5⟩ := putsO hR
  obtain ⟨v1, e1, c1, alt1⟩ := r_digit (p := p + 1) h (by omega) 0 9 (Or.inl ⟨rfl, Or.inl rfl⟩)
  obtain ⟨v2, e2, c2, alt2⟩ := r_digit (p := p + 1 + 1) h (by omega) 0 9 (Or.inl ⟨rfl, Or.inl rfl⟩)
  obtain ⟨v3, e3, c3, alt3⟩ := r_digit (p := p + 1 + 1 + 1) h (by omega) 0 7 (Or.inl ⟨rfl, Or.inr rfl⟩)
  obtain ⟨v4, e4, c4, alt4⟩ := r_digit (p := p + 1 + 1 + 1 + 1) h (by omega) 1 7 (Or.inr ⟨rfl, rfl⟩)
  obtain ⟨e5, c5, alt5⟩ := r_byte (p := p + 1 + 1 + 1 + 1 + 1) h (by omega) 44 (by decide)
  obtain ⟨v6, p6, e6, c6, hp6, alt6⟩ := r_number (M := 3) (p := p + 1 + 1 + 1 + 1 + 1 + 1) h (by omega) (by omega) 0 100
  have c6 : ∀ fa : Int32, f_X4_readNumber (3 : Int32) 0 100 rB fB (nI (p + 1 + 1 + 1 + 1 + 1 + 1)) fa = some (v6, nI p6, fj fa e6) := c6
  obtain ⟨e7, c7, alt7⟩ := r_byte (p := p6) h (by omega) 59 (by decide)
  have b1 : ∀ q : Nat, e1 = some q → q < 100000 := some_lt (P := True) (b := 900) (by
    rcases alt1 with ⟨a, _⟩ | ⟨a, _⟩
    · exact Or.inl ⟨a, trivial⟩
    · exact Or.inr ⟨_, a, by omega⟩) (by omega)
  have b2 : ∀ q : Nat, e2 = some q → q < 100000 := some_lt (P := True) (b := 900) (by
    rcases alt2 with ⟨a, _⟩ | ⟨a, _⟩
    · exact Or.inl ⟨a, trivial⟩
    · exact Or.inr ⟨_, a, by omega⟩) (by omega)
  have b3 : ∀ q : Nat, e3 = some q → q < 100000 := some_lt (P := True) (b := 900) (by
    rcases alt3 with ⟨a, _⟩ | ⟨a, _⟩
    · exact Or.inl ⟨a, trivial⟩
    · exact Or.inr ⟨_, a, by omega⟩) (by omega)
  have b4 : ∀ q : Nat, e4 = some q → q < 100000 := some_lt (P := True) (b := 900) (by
    rcases alt4 with ⟨a, _⟩ | ⟨a, _⟩
    · exact Or.inl ⟨a, trivial⟩
    · exact Or.inr ⟨_, a, by omega⟩) (by omega)
  have b5 : ∀ q : Nat, e5 = some q → q < 100000 := some_lt (P := True) (b := 900) (by
    rcases alt5 with ⟨a, _⟩ | ⟨a, _⟩
    · exact Or.inl ⟨a, trivial⟩
    · exact Or.inr ⟨_, a, by omega⟩) (by omega)
  have b6 : ∀ q : Nat, e6 = some q → q < 100000 := some_lt (P := True) (b := 900) (by
    rcases alt6 with ⟨a, _⟩ | ⟨q, a, b, _⟩
    · exact Or.inl ⟨a, trivial⟩
    · exact Or.inr ⟨q, a, b⟩) (by omega)
  have f2 := ej_lt b1 b2
  have f3 := ej_lt f2 b3
  have f4 := ej_lt f3 b4
  have f5 := ej_lt f4 b5
  have f6 := ej_lt f5 b6
  refine ⟨upd (upd (upd (upd (upd (upd fO (R * 6 + 0) 103) (R * 6 + 1) v1) (R * 6 + 2) v2) (R * 6 + 3) v3) (R * 6 + 4) v4) (R * 6 + 5) v6, p6 + 1, ej (ej (ej (ej (ej (ej e1 e2) e3) e4) e5) e6) e7, ?_, fun i hi => by rw [pk_un (by omega), pk_un (by omega), pk_un (by omega), pk_un (by omega), pk_un (by omega), pk_un (by omega)], ?_⟩
  · unfold f_X4_readOrder f_X4_readGrant
    rw [c_cur h (by omega), bd_some, hK, u0, bd_some, nm_eq, ek, if_neg (show ¬ (103 : Int32) = 99 by decide), if_pos rfl, c1, bd3_some, u1, bd_some, c2, bd3_some, u2, bd_some, c3, bd3_some, u3, bd_some, c4, bd3_some, u4, bd_some, c5, bd2_some, c6, bd3_some, u5, bd_some, bd3_some, c7, bd2_some, fj_ej b1, fj_ej f2, fj_ej f3, fj_ej f4, fj_ej f5, fj_ej f6]
  · have n1 : ¬ (1 : Int32) = 0 := by decide
    have m9 : ¬ (103 : Int32) = 99 := by decide
    rcases alt1 with ⟨a1, a2, a3, _, a5⟩ | ⟨a1, a2⟩
    · subst a1
      have i1 : ∀ nu : Nat → Int32, f_X6_takesDigit (0 : Int32) 0 9 txt tl (nI (p + 1)) nu = some (1, nI (p + 1 + 1), upd nu 0 v1) := fun nu => a5 0 nu (by omega)
      rcases alt2 with ⟨d1, d2, d3, _, d5⟩ | ⟨d1, d2⟩
      · subst d1
        have i2 : ∀ nu : Nat → Int32, f_X6_takesDigit (1 : Int32) 0 9 txt tl (nI (p + 1 + 1)) nu = some (1, nI (p + 1 + 1 + 1), upd nu 1 v2) := fun nu => d5 1 nu (by omega)
        rcases alt3 with ⟨g1, g2, g3', _, g5⟩ | ⟨g1, g2⟩
        · subst g1
          have i3 : ∀ nu : Nat → Int32, f_X6_takesDigit (2 : Int32) 0 7 txt tl (nI (p + 1 + 1 + 1)) nu = some (1, nI (p + 1 + 1 + 1 + 1), upd nu 2 v3) := fun nu => g5 2 nu (by omega)
          rcases alt4 with ⟨k1, k2, k3, k4, k5⟩ | ⟨k1, k2⟩
          · subst k1
            have i4 : ∀ nu : Nat → Int32, f_X6_takesDigit (3 : Int32) 1 7 txt tl (nI (p + 1 + 1 + 1 + 1)) nu = some (1, nI (p + 1 + 1 + 1 + 1 + 1), upd nu 3 v4) := fun nu => k5 3 nu (by omega)
            rcases alt5 with ⟨l1, l2, _, l4⟩ | ⟨l1, _, l4⟩
            · subst l1
              rcases alt6 with ⟨o1, o2, o3, o4, o5⟩ | ⟨q, o1, o2, o3⟩
              · subst o1
                have tp : ∀ nu : Nat → Int32, f_X6_takesParts txt tl (nI (p + 1)) 103 nu = some (1, nI p6, upd (upd (upd (upd (upd nu 0 v1) 1 v2) 2 v3) 3 v4) 4 v6) := fun nu => by
                  have i6 : f_X6_takesNumber (4 : Int32) (3 : Int32) 0 100 txt tl (nI (p + 1 + 1 + 1 + 1 + 1 + 1)) (upd (upd (upd (upd nu 0 v1) 1 v2) 2 v3) 3 v4) = _ := o5 4 _ (by omega)
                  unfold f_X6_takesParts
                  rw [if_neg m9, if_pos rfl, i1, bd3_some, if_neg n1, i2, bd3_some, if_neg n1, i3, bd3_some, if_neg n1, i4, bd3_some, if_neg n1, l4, bd2_some, if_neg n1, i6, bd3_some, if_neg n1]
                rcases alt7 with ⟨s1, s2, s3, _⟩ | ⟨s1, s2, _⟩
                · subst s1
                  refine Or.inl ⟨rfl, by omega, by omega, fun od nu => ⟨upd (upd (upd (upd (upd nu 0 v1) 1 v2) 2 v3) 3 v4) 4 v6, ?_, ?_⟩⟩
                  · have hf := (fin_order h (by omega) hK (by decide) od nu _).2 p6 (by omega) (tp nu)
                    rw [hf, if_pos s3, pk_un (by omega), pk_un (by omega), pk_un (by omega), pk_un (by omega), pk_un (by omega), pk_us]
                  · have w0 : upd (upd (upd (upd (upd (upd fO (R * 6 + 0) 103) (R * 6 + 1) v1) (R * 6 + 2) v2) (R * 6 + 3) v3) (R * 6 + 4) v4) (R * 6 + 5) v6 (R * 6 + 0) = 103 := by
                      rw [pk_un (by omega), pk_un (by omega), pk_un (by omega), pk_un (by omega), pk_un (by omega), pk_us]
                    have w1 : upd (upd (upd (upd (upd (upd fO (R * 6 + 0) 103) (R * 6 + 1) v1) (R * 6 + 2) v2) (R * 6 + 3) v3) (R * 6 + 4) v4) (R * 6 + 5) v6 (R * 6 + 1) = v1 := by
                      rw [pk_un (by omega), pk_un (by omega), pk_un (by omega), pk_un (by omega), pk_us]
                    have w2 : upd (upd (upd (upd (upd (upd fO (R * 6 + 0) 103) (R * 6 + 1) v1) (R * 6 + 2) v2) (R * 6 + 3) v3) (R * 6 + 4) v4) (R * 6 + 5) v6 (R * 6 + 2) = v2 := by
                      rw [pk_un (by omega), pk_un (by omega), pk_un (by omega), pk_us]
                    have w3 : upd (upd (upd (upd (upd (upd fO (R * 6 + 0) 103) (R * 6 + 1) v1) (R * 6 + 2) v2) (R * 6 + 3) v3) (R * 6 + 4) v4) (R * 6 + 5) v6 (R * 6 + 3) = v3 := by
                      rw [pk_un (by omega), pk_un (by omega), pk_us]
                    have w4 : upd (upd (upd (upd (upd (upd fO (R * 6 + 0) 103) (R * 6 + 1) v1) (R * 6 + 2) v2) (R * 6 + 3) v3) (R * 6 + 4) v4) (R * 6 + 5) v6 (R * 6 + 4) = v4 := by
                      rw [pk_un (by omega), pk_us]
                    have w5 : upd (upd (upd (upd (upd (upd fO (R * 6 + 0) 103) (R * 6 + 1) v1) (R * 6 + 2) v2) (R * 6 + 3) v3) (R * 6 + 4) v4) (R * 6 + 5) v6 (R * 6 + 5) = v6 := pk_us
                    refine Or.inl ⟨w0, ?_, ?_, ?_, ?_, ?_, ?_⟩
                    · show okN 10 (upd _ _ _ (R * 6 + 1)) ∧ okN 10 (upd _ _ _ (R * 6 + 2)) ∧ okN 8 (upd _ _ _ (R * 6 + 3)) ∧ okN 8 (upd _ _ _ (R * 6 + 4)) ∧ 1 ≤ upd _ _ _ (R * 6 + 4) ∧ ¬ btw (upd _ _ _ (R * 6 + 5)) 0 100 = 0
                      rw [w1, w2, w3, w4, w5]
                      exact ⟨a3, d3, g3', k3, k4, o4⟩
                    · show upd (upd (upd (upd (upd nu 0 v1) 1 v2) 2 v3) 3 v4) 4 v6 0 = upd _ _ _ (R * 6 + 1)
                      rw [w1, pk_un (by omega), pk_un (by omega), pk_un (by omega), pk_un (by omega), pk_us]
                    · show upd (upd (upd (upd (upd nu 0 v1) 1 v2) 2 v3) 3 v4) 4 v6 1 = upd _ _ _ (R * 6 + 2)
                      rw [w2, pk_un (by omega), pk_un (by omega), pk_un (by omega), pk_us]
                    · show upd (upd (upd (upd (upd nu 0 v1) 1 v2) 2 v3) 3 v4) 4 v6 2 = upd _ _ _ (R * 6 + 3)
                      rw [w3, pk_un (by omega), pk_un (by omega), pk_us]
                    · show upd (upd (upd (upd (upd nu 0 v1) 1 v2) 2 v3) 3 v4) 4 v6 3 = upd _ _ _ (R * 6 + 4)
                      rw [w4, pk_un (by omega), pk_us]
                    · show upd (upd (upd (upd (upd nu 0 v1) 1 v2) 2 v3) 3 v4) 4 v6 4 = upd _ _ _ (R * 6 + 5)
                      rw [w5, pk_us]
                · subst s1
                  refine Or.inr ⟨p6, rfl, by omega, fun od nu => ⟨103, upd (upd (upd (upd (upd nu 0 v1) 1 v2) 2 v3) 3 v4) 4 v6, ?_⟩⟩
                  have hf := (fin_order h (by omega) hK (by decide) od nu _).2 p6 (by omega) (tp nu)
                  rw [hf, if_neg s2]
              · subst o1
                refine Or.inr ⟨q, rfl, o2, fun od nu => ?_⟩
                obtain ⟨nu', i6⟩ := o3 4 (upd (upd (upd (upd nu 0 v1) 1 v2) 2 v3) 3 v4) (by omega)
                have i6 : f_X6_takesNumber (4 : Int32) (3 : Int32) 0 100 txt tl (nI (p + 1 + 1 + 1 + 1 + 1 + 1)) (upd (upd (upd (upd nu 0 v1) 1 v2) 2 v3) 3 v4) = some (0, nI q, nu') := i6
                refine ⟨103, nu', (fin_order h (by omega) hK (by decide) od nu nu').1 q ?_⟩
                unfold f_X6_takesParts
                rw [if_neg m9, if_pos rfl, i1, bd3_some, if_neg n1, i2, bd3_some, if_neg n1, i3, bd3_some, if_neg n1, i4, bd3_some, if_neg n1, l4, bd2_some, if_neg n1, i6, bd3_some, if_pos rfl]
            · subst l1
              refine Or.inr ⟨p + 1 + 1 + 1 + 1 + 1, rfl, by omega, fun od nu => ⟨103, _, (fin_order h (by omega) hK (by decide) od nu (upd (upd (upd (upd nu 0 v1) 1 v2) 2 v3) 3 v4)).1 (p + 1 + 1 + 1 + 1 + 1) ?_⟩⟩
              unfold f_X6_takesParts
              rw [if_neg m9, if_pos rfl, i1, bd3_some, if_neg n1, i2, bd3_some, if_neg n1, i3, bd3_some, if_neg n1, i4, bd3_some, if_neg n1, l4, bd2_some, if_pos rfl]
          · subst k1
            have i4 : ∀ nu : Nat → Int32, f_X6_takesDigit (3 : Int32) 1 7 txt tl (nI (p + 1 + 1 + 1 + 1)) nu = some (0, nI (p + 1 + 1 + 1 + 1), nu) := fun nu => k2 3 nu
            refine Or.inr ⟨p + 1 + 1 + 1 + 1, rfl, by omega, fun od nu => ⟨103, _, (fin_order h (by omega) hK (by decide) od nu (upd (upd (upd nu 0 v1) 1 v2) 2 v3)).1 (p + 1 + 1 + 1 + 1) ?_⟩⟩
            unfold f_X6_takesParts
            rw [if_neg m9, if_pos rfl, i1, bd3_some, if_neg n1, i2, bd3_some, if_neg n1, i3, bd3_some, if_neg n1, i4, bd3_some, if_pos rfl]
        · subst g1
          have i3 : ∀ nu : Nat → Int32, f_X6_takesDigit (2 : Int32) 0 7 txt tl (nI (p + 1 + 1 + 1)) nu = some (0, nI (p + 1 + 1 + 1), nu) := fun nu => g2 2 nu
          refine Or.inr ⟨p + 1 + 1 + 1, rfl, by omega, fun od nu => ⟨103, _, (fin_order h (by omega) hK (by decide) od nu (upd (upd nu 0 v1) 1 v2)).1 (p + 1 + 1 + 1) ?_⟩⟩
          unfold f_X6_takesParts
          rw [if_neg m9, if_pos rfl, i1, bd3_some, if_neg n1, i2, bd3_some, if_neg n1, i3, bd3_some, if_pos rfl]
      · subst d1
        have i2 : ∀ nu : Nat → Int32, f_X6_takesDigit (1 : Int32) 0 9 txt tl (nI (p + 1 + 1)) nu = some (0, nI (p + 1 + 1), nu) := fun nu => d2 1 nu
        refine Or.inr ⟨p + 1 + 1, rfl, by omega, fun od nu => ⟨103, _, (fin_order h (by omega) hK (by decide) od nu (upd nu 0 v1)).1 (p + 1 + 1) ?_⟩⟩
        unfold f_X6_takesParts
        rw [if_neg m9, if_pos rfl, i1, bd3_some, if_neg n1, i2, bd3_some, if_pos rfl]
    · subst a1
      have i1 : ∀ nu : Nat → Int32, f_X6_takesDigit (0 : Int32) 0 9 txt tl (nI (p + 1)) nu = some (0, nI (p + 1), nu) := fun nu => a2 0 nu
      refine Or.inr ⟨p + 1, rfl, by omega, fun od nu => ⟨103, nu, (fin_order h (by omega) hK (by decide) od nu _).1 (p + 1) ?_⟩⟩
      unfold f_X6_takesParts
      rw [if_neg m9, if_pos rfl, i1, bd3_some, if_pos rfl]
theorem r_order {rB tl : Int32} {fB txt : Nat → Int32} {n p R : Nat} (h : TX rB fB tl txt n) (hp : p < n) (hR : R < 100) (fO : Nat → Int32) : r_Q rB fB tl txt n p R fO := by
  by_cases k1 : cur n txt p = 99
  · exact r_ordC h hp hR fO k1
  by_cases k2 : cur n txt p = 103
  · exact r_ordG h hp hR fO k2
  by_cases k3 : cur n txt p = 116
  · exact r_ordT h hp hR fO k3
  by_cases k4 : cur n txt p = 118
  · exact r_ordV h hp hR fO k4
  have hn := h.2.2.1
  have ek : nI p + (1 : Int32) = nI (p + 1) := n_at
  have em : nI (p + 1) - (1 : Int32) = nI p := nI_pred p
  obtain ⟨u0, _⟩ := putsO hR
  obtain ⟨e2, c2, alt2⟩ := r_byte (p := p + 1) h (by omega) 59 (by decide)
  refine ⟨upd fO (R * 6 + 0) (cur n txt p), p + 1 + 1, some p, ?_, fun i hi => pk_un (by omega), Or.inr ⟨p, rfl, by omega, fun od nu => ⟨cur n txt p, nu, ?_⟩⟩⟩
  · have hf : fj (-1) (some p) = nI p := by
      unfold fj
      exact if_pos rfl
    unfold f_X4_readOrder
    rw [c_cur h (by omega), bd_some, u0, bd_some, nm_eq, ek, if_neg k1, if_neg k2, if_neg k3, if_neg k4, em, c_fail, bd_some, c2, bd2_some, hf, fj_q (by omega)]
  · unfold f_X6_takesOrder
    rw [m_cur h (by omega), bd_some, if_neg k2, if_neg k4, if_neg k1, if_neg k3]
