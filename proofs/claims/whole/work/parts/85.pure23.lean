/-! ===== PURE: the text is read (2): orders ===== -/
theorem bd3_some {α β γ δ : Type} {a : α} {b : β} {c : γ} {f : α → β → γ → Option δ} : bd3 (some (a, b, c)) f = f a b c := rfl
theorem bd4_some {α β γ δ ε : Type} {a : α} {b : β} {c : γ} {d : δ} {f : α → β → γ → δ → Option ε} : bd4 (some (a, b, c, d)) f = f a b c d := rfl
theorem putO {R j : Nat} {f : Nat → Int32} {v : Int32} (hn : R < 100) (hj : j < 6) : f_X3_put (6 : Int32) 600 (nI R) (nI j) v (nI (R + 1)) f = some (upd f (R * 6 + j) v) := by
  have e := p_put (col := 6) (n := 600) (R := R) (C := j) (rows := R + 1) (f := f) (v := v) (by omega) hj (by omega) (by omega) (by omega) (by omega)
  exact e
def ej : Option Nat → Option Nat → Option Nat
  | none, e => e
  | some q, _ => some q
theorem fj_ej {e1 e2 : Option Nat} (h : ∀ q : Nat, e1 = some q → q < 100000) : fj (fj (-1) e1) e2 = fj (-1) (ej e1 e2) := by
  cases e1 with
  | none => rfl
  | some q =>
    show fj (if (-1 : Int32) = -1 then nI q else -1) e2 = (if (-1 : Int32) = -1 then nI q else -1)
    rw [if_pos rfl]
    exact fj_q (h q rfl) e2
/-- what an order is: the row of the class's table, and the numbers that the model holds of it -/
def ow (g : rw_) (nu : Nat → Int32) : Prop := (g 0 = 103 ∧ (okN 10 (g 1) ∧ okN 10 (g 2) ∧ okN 8 (g 3) ∧ okN 8 (g 4) ∧ 1 ≤ g 4 ∧ ¬ btw (g 5) 0 100 = 0) ∧ nu 0 = g 1 ∧ nu 1 = g 2 ∧ nu 2 = g 3 ∧ nu 3 = g 4 ∧ nu 4 = g 5) ∨ (g 0 = 118 ∧ nu 0 = g 1) ∨ (g 0 = 99 ∧ okN 10 (g 1) ∧ nu 0 = g 1 ∧ nu 2 * nu 1 = g 2) ∨ (g 0 = 116 ∧ ¬ btw (g 1) 1 50 = 0 ∧ nu 0 = g 1)
theorem fin_order {rB tl K : Int32} {fB txt : Nat → Int32} {n p : Nat} (h : TX rB fB tl txt n) (hp : p < 500) (hK : cur n txt p = K) (hk : K = 103 ∨ K = 118 ∨ K = 99 ∨ K = 116) (od : Int32) (nu nu' : Nat → Int32) : (∀ q : Nat, f_X6_takesParts txt tl (nI (p + 1)) K nu = some (0, nI q, nu') → f_X6_takesOrder txt tl (nI p) od nu = some (0, nI q, K, nu')) ∧ (∀ p1 : Nat, p1 < 900 → f_X6_takesParts txt tl (nI (p + 1)) K nu = some (1, nI p1, nu') → f_X6_takesOrder txt tl (nI p) od nu = (if cur n txt p1 = 59 then some (1, nI (p1 + 1), K, nu') else some (0, nI p1, K, nu'))) := by
  have ek : nI p + (1 : Int32) = nI (p + 1) := n_at
  have n1 : ¬ (1 : Int32) = 0 := by decide
  constructor
  · intro q hq
    unfold f_X6_takesOrder
    rw [m_cur h (by omega), bd_some, hK, nm_eq, ek, hq, bd3_some, if_pos rfl]
    rcases hk with e | e | e | e
    · rw [if_pos e]
    · rw [if_neg (by rw [e]; decide), if_pos e]
    · rw [if_neg (by rw [e]; decide), if_neg (by rw [e]; decide), if_pos e]
    · rw [if_neg (by rw [e]; decide), if_neg (by rw [e]; decide), if_neg (by rw [e]; decide), if_pos e]
  · intro p1 h1 hq
    have e1 : nI p1 + (1 : Int32) = nI (p1 + 1) := n_at
    unfold f_X6_takesOrder
    rw [m_cur h (by omega), bd_some, hK, nm_eq, ek, hq, bd3_some, if_neg n1, m_cur h (by omega), bd_some, nm_eq, e1]
    rcases hk with e | e | e | e
    · rw [if_pos e]
    · rw [if_neg (by rw [e]; decide), if_pos e]
    · rw [if_neg (by rw [e]; decide), if_neg (by rw [e]; decide), if_pos e]
    · rw [if_neg (by rw [e]; decide), if_neg (by rw [e]; decide), if_neg (by rw [e]; decide), if_pos e]
def r_Q (rB : Int32) (fB : Nat → Int32) (tl : Int32) (txt : Nat → Int32) (n p R : Nat) (fO : Nat → Int32) : Prop := ∃ (fO' : Nat → Int32) (p' : Nat) (e : Option Nat), f_X4_readOrder (nI R) rB fB (nI (R + 1)) fO (nI p) (-1) = some (fO', nI p', fj (-1) e) ∧ (∀ i : Nat, i < R * 6 → fO' i = fO i) ∧ ((e = none ∧ p < p' ∧ p' ≤ n ∧ ∀ (od : Int32) (nu : Nat → Int32), ∃ nu' : Nat → Int32, f_X6_takesOrder txt tl (nI p) od nu = some (1, nI p', fO' (R * 6 + 0), nu') ∧ ow (fun j => fO' (R * 6 + j)) nu') ∨ (∃ q : Nat, e = some q ∧ q < 900 ∧ ∀ (od : Int32) (nu : Nat → Int32), ∃ (od' : Int32) (nu' : Nat → Int32), f_X6_takesOrder txt tl (nI p) od nu = some (0, nI q, od', nu')))
theorem r_ordV {rB tl : Int32} {fB txt : Nat → Int32} {n p R : Nat} (h : TX rB fB tl txt n) (hp : p < n) (hR : R < 100) (fO : Nat → Int32) (hK : cur n txt p = 118) : r_Q rB fB tl txt n p R fO := by
  have hn := h.2.2.1
  have ek : nI p + (1 : Int32) = nI (p + 1) := n_at
  have u0 : ∀ (f : Nat → Int32) (v : Int32), f_X3_put (6 : Int32) 600 (nI R) (0 : Int32) v (nI (R + 1)) f = some (upd f (R * 6 + 0) v) := fun f v => by
    have e := putO (f := f) (v := v) hR (show 0 < 6 by omega)
    exact e
  have u1 : ∀ (f : Nat → Int32) (v : Int32), f_X3_put (6 : Int32) 600 (nI R) (1 : Int32) v (nI (R + 1)) f = some (upd f (R * 6 + 1) v) := fun f v => by
    have e := putO (f := f) (v := v) hR (show 1 < 6 by omega)
    exact e
  obtain ⟨v, p1, e1, c1, hp1, alt1⟩ := r_number (M := 3) (p := p + 1) h (by omega) (by omega) 0 999
  have c1 : ∀ fa : Int32, f_X4_readNumber (3 : Int32) 0 999 rB fB (nI (p + 1)) fa = some (v, nI p1, fj fa e1) := c1
  obtain ⟨e2, c2, alt2⟩ := r_byte (p := p1) h (by omega) 59 (by decide)
  have q1 : ∀ q : Nat, e1 = some q → q < 100000 := fun q hq => by
    rcases alt1 with ⟨a, _⟩ | ⟨q', a, b, _⟩
    · rw [a] at hq
      exact absurd hq (by simp)
    · rw [a] at hq
      have := Option.some.inj hq
      omega
  refine ⟨upd (upd fO (R * 6 + 0) 118) (R * 6 + 1) v, p1 + 1, ej e1 e2, ?_, fun i hi => by rw [pk_un (by omega), pk_un (by omega)], ?_⟩
  · unfold f_X4_readOrder
    rw [c_cur h (by omega), bd_some, hK, u0, bd_some, nm_eq, ek, if_neg (show ¬ (118 : Int32) = 99 by decide), if_neg (show ¬ (118 : Int32) = 103 by decide), if_neg (show ¬ (118 : Int32) = 116 by decide), if_pos rfl, c1, bd3_some, u1, bd_some, c2, bd2_some, fj_ej q1]
  · have tp : ∀ nu : Nat → Int32, f_X6_takesParts txt tl (nI (p + 1)) 118 nu = f_X6_takesNumber (nI 0) (nI 3) 0 999 txt tl (nI (p + 1)) nu := fun nu => by
      unfold f_X6_takesParts
      rw [if_neg (show ¬ (118 : Int32) = 99 by decide), if_neg (show ¬ (118 : Int32) = 103 by decide), if_pos rfl]
      show bd3 (f_X6_takesNumber (nI 0) (nI 3) 0 999 txt tl (nI (p + 1)) nu) (fun a b c => some (a, b, c)) = _
      cases f_X6_takesNumber (nI 0) (nI 3) 0 999 txt tl (nI (p + 1)) nu <;> rfl
    rcases alt1 with ⟨a1, a2, a3, a4, a5⟩ | ⟨q, a1, a2, a3⟩
    · subst a1
      rcases alt2 with ⟨b1, b2, b3, _⟩ | ⟨b1, b2, _⟩
      · subst b1
        refine Or.inl ⟨rfl, by omega, by omega, fun od nu => ⟨upd nu 0 v, ?_, ?_⟩⟩
        · have hf := (fin_order h (by omega) hK (by decide) od nu (upd nu 0 v)).2 p1 (by omega) (by rw [tp, a5 0 nu (by omega)])
          rw [hf, if_pos b3, pk_un (by omega), pk_us]
        · refine Or.inr (Or.inl ⟨?_, ?_⟩)
          · show upd (upd fO (R * 6 + 0) 118) (R * 6 + 1) v (R * 6 + 0) = 118
            rw [pk_un (by omega), pk_us]
          · show upd nu 0 v 0 = upd (upd fO (R * 6 + 0) 118) (R * 6 + 1) v (R * 6 + 1)
            rw [pk_us, pk_us]
      · subst b1
        refine Or.inr ⟨p1, rfl, by omega, fun od nu => ⟨118, upd nu 0 v, ?_⟩⟩
        have hf := (fin_order h (by omega) hK (by decide) od nu (upd nu 0 v)).2 p1 (by omega) (by rw [tp, a5 0 nu (by omega)])
        rw [hf, if_neg b2]
    · subst a1
      refine Or.inr ⟨q, rfl, a2, fun od nu => ?_⟩
      obtain ⟨nu', a4⟩ := a3 0 nu (by omega)
      exact ⟨118, nu', (fin_order h (by omega) hK (by decide) od nu nu').1 q (by rw [tp, a4])⟩
theorem r_ordT {rB tl : Int32} {fB txt : Nat → Int32} {n p R : Nat} (h : TX rB fB tl txt n) (hp : p < n) (hR : R < 100) (fO : Nat → Int32) (hK : cur n txt p = 116) : r_Q rB fB tl txt n p R fO := by
  have hn := h.2.2.1
  have ek : nI p + (1 : Int32) = nI (p + 1) := n_at
  have u0 : ∀ (f : Nat → Int32) (v : Int32), f_X3_put (6 : Int32) 600 (nI R) (0 : Int32) v (nI (R + 1)) f = some (upd f (R * 6 + 0) v) := fun f v => by
    have e := putO (f := f) (v := v) hR (show 0 < 6 by omega)
    exact e
  have u1 : ∀ (f : Nat → Int32) (v : Int32), f_X3_put (6 : Int32) 600 (nI R) (1 : Int32) v (nI (R + 1)) f = some (upd f (R * 6 + 1) v) := fun f v => by
    have e := putO (f := f) (v := v) hR (show 1 < 6 by omega)
    exact e
  obtain ⟨v, p1, e1, c1, hp1, alt1⟩ := r_number (M := 2) (p := p + 1) h (by omega) (by omega) 1 50
  have c1 : ∀ fa : Int32, f_X4_readNumber (2 : Int32) 1 50 rB fB (nI (p + 1)) fa = some (v, nI p1, fj fa e1) := c1
  obtain ⟨e2, c2, alt2⟩ := r_byte (p := p1) h (by omega) 59 (by decide)
  have q1 : ∀ q : Nat, e1 = some q → q < 100000 := fun q hq => by
    rcases alt1 with ⟨a, _⟩ | ⟨q', a, b, _⟩
    · rw [a] at hq
      exact absurd hq (by simp)
    · rw [a] at hq
      have := Option.some.inj hq
      omega
  refine ⟨upd (upd fO (R * 6 + 0) 116) (R * 6 + 1) v, p1 + 1, ej e1 e2, ?_, fun i hi => by rw [pk_un (by omega), pk_un (by omega)], ?_⟩
  · unfold f_X4_readOrder
    rw [c_cur h (by omega), bd_some, hK, u0, bd_some, nm_eq, ek, if_neg (show ¬ (116 : Int32) = 99 by decide), if_neg (show ¬ (116 : Int32) = 103 by decide), if_pos rfl, c1, bd3_some, u1, bd_some, c2, bd2_some, fj_ej q1]
  · have tp : ∀ nu : Nat → Int32, f_X6_takesParts txt tl (nI (p + 1)) 116 nu = f_X6_takesNumber (nI 0) (nI 2) 1 50 txt tl (nI (p + 1)) nu := fun nu => by
      unfold f_X6_takesParts
      rw [if_neg (show ¬ (116 : Int32) = 99 by decide), if_neg (show ¬ (116 : Int32) = 103 by decide), if_neg (show ¬ (116 : Int32) = 118 by decide)]
      show bd3 (f_X6_takesNumber (nI 0) (nI 2) 1 50 txt tl (nI (p + 1)) nu) (fun a b c => some (a, b, c)) = _
      cases f_X6_takesNumber (nI 0) (nI 2) 1 50 txt tl (nI (p + 1)) nu <;> rfl
    rcases alt1 with ⟨a1, a2, a3, a4, a5⟩ | ⟨q, a1, a2, a3⟩
    · subst a1
      rcases alt2 with ⟨b1, b2, b3, _⟩ | ⟨b1, b2, _⟩
      · subst b1
        refine Or.inl ⟨rfl, by omega, by omega, fun od nu => ⟨upd nu 0 v, ?_, ?_⟩⟩
        · have hf := (fin_order h (by omega) hK (by decide) od nu (upd nu 0 v)).2 p1 (by omega) (by rw [tp, a5 0 nu (by omega)])
          rw [hf, if_pos b3, pk_un (by omega), pk_us]
        · refine Or.inr (Or.inr (Or.inr ⟨?_, ?_, ?_⟩))
          · show upd (upd fO (R * 6 + 0) 116) (R * 6 + 1) v (R * 6 + 0) = 116
            rw [pk_un (by omega), pk_us]
          · show ¬ btw (upd (upd fO (R * 6 + 0) 116) (R * 6 + 1) v (R * 6 + 1)) 1 50 = 0
            rw [pk_us]
            exact a4
          · show upd nu 0 v 0 = upd (upd fO (R * 6 + 0) 116) (R * 6 + 1) v (R * 6 + 1)
            rw [pk_us, pk_us]
      · subst b1
        refine Or.inr ⟨p1, rfl, by omega, fun od nu => ⟨116, upd nu 0 v, ?_⟩⟩
        have hf := (fin_order h (by omega) hK (by decide) od nu (upd nu 0 v)).2 p1 (by omega) (by rw [tp, a5 0 nu (by omega)])
        rw [hf, if_neg b2]
    · subst a1
      refine Or.inr ⟨q, rfl, a2, fun od nu => ?_⟩
      obtain ⟨nu', a4⟩ := a3 0 nu (by omega)
      exact ⟨116, nu', (fin_order h (by omega) hK (by decide) od nu nu').1 q (by rw [tp, a4])⟩
