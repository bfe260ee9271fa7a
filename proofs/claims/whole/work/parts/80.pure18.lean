/-! ===== PURE: grants that die (2) ===== -/
theorem sub1 (a : Int32) : a - (1 : Int32) = a + (-1 : Int32) := Int32.sub_eq_add_neg a 1
theorem c_dropL {rP : Int32} {fP : Nat → Int32} {P T : List rw_} {d : Nat} (hP : RT 2 rP fP P) (hPl : P.length = 10) (hd : 0 < d) (hd2 : d < 1000) : ∀ (rp R : List rw_) (F : Nat) (rG : Int32) (fG : Nat → Int32), RT 6 rG fG (rp.reverse ++ R) → QG T (rp.reverse ++ R) → rp.length < F → ∃ aG : Nat → Int32, f_X2_buryDying_L47 (nI d) rP fP F (nI rp.length + (-1 : Int32)) rG fG = some (nI (kept P rp.reverse ++ R).length, aG) ∧ RT 6 (nI (kept P rp.reverse ++ R).length) aG (kept P rp.reverse ++ R)
  | _, _, 0, _, _, _, _, hF => absurd hF (by omega)
  | [], R, F + 1, rG, fG, hG, q, hF => by
    refine ⟨fG, ?_, ?_⟩
    · unfold f_X2_buryDying_L47
      rw [if_pos (show nI ([] : List rw_).length + (-1 : Int32) < 0 by decide), hG.1]
      rfl
    · show RT 6 (nI R.length) fG R
      have e : rG = nI R.length := hG.1
      rw [← e]
      exact hG
  | g :: rp, R, F + 1, rG, fG, hG, q, hF => by
    have hF : rp.length + 1 < F + 1 := hF
    have er : (g :: rp).reverse = rp.reverse ++ [g] := List.reverse_cons
    have ea : (g :: rp).reverse ++ R = rp.reverse ++ g :: R := by rw [er, List.append_assoc]; rfl
    rw [ea] at hG q
    have hrl : rp.reverse.length = rp.length := List.length_reverse
    have hs := split_at (G := rp.reverse ++ g :: R) rfl
    rw [hrl] at hs
    have hl := q.1
    have en : nI (g :: rp).length + (-1 : Int32) = nI rp.length := pk_m1 rp.length
    have hy := c_dying hP hPl hG hl hs.1 (q.2.2.1 _ hs.1)
    rw [hs.2] at hy
    have c1 : ¬ nI rp.length < (0 : Int32) := nI_pos (by omega)
    have c2 : ¬ nI d ≤ (0 : Int32) := q_nle (b := 0) (by omega) (by omega) hd
    have ek : kept P (g :: rp).reverse ++ R = kept P rp.reverse ++ (if dyb P g = true then R else g :: R) := by
      rw [er, kept_app, kept_cons]
      by_cases hdy : dyb P g = true
      · rw [if_pos hdy, if_pos hdy, List.append_assoc]
        rfl
      · rw [if_neg hdy, if_neg hdy, List.append_assoc]
        rfl
    unfold f_X2_buryDying_L47
    rw [en, if_neg c1, if_neg c2, hy, bd_some, ek]
    by_cases hdy : dyb P g = true
    · obtain ⟨a1, d1, d2⟩ := hG.drop (R := rp.length) (lim := 40) (nn := 240) hs.1 (by omega) hl (by omega) (by omega)
      have d1 : f_X3_drop (6 : Int32) 240 (nI rp.length) rG fG = some (nI ((rp.reverse ++ g :: R).length - 1), a1) := d1
      have q2 := q.erG hs.1
      have e2 : (rp.reverse ++ g :: R).eraseIdx rp.length = rp.reverse ++ R := by
        have e := er_mid (L := rp.reverse) (M := R) (g := g)
        rw [hrl] at e
        exact e
      rw [e2] at d2 q2
      rw [if_pos hdy, if_pos hdy, if_neg (show ¬ (1 : Int32) = 0 by decide), d1, bd2_some, nm_eq]
      exact c_dropL hP hPl hd hd2 rp R F _ a1 d2 q2 (by omega)
    · rw [if_neg hdy, if_neg hdy, if_pos rfl, nm_eq]
      exact c_dropL hP hPl hd hd2 rp (g :: R) F rG fG hG q (by omega)
theorem c_bury {rP rT rG rL rH di ti : Int32} {fP fT fG fL fH : Nat → Int32} {P T G Lg : List rw_} (hP : RT 2 rP fP P) (hPl : P.length = 10) (hG : RT 6 rG fG G) (q : QG T G) (hL : RT 3 rL fL Lg) (hLl : Lg.length ≤ 12) : ∃ aG aL : Nat → Int32, f_X2_buryDying rP fP rG fG rL fL di ti = some (nI (ndy P G), nI (kept P G).length, aG, nI (bur P ti G Lg).length, aL, di + nI (ndy P G)) ∧ RT 6 (nI (kept P G).length) aG (kept P G) ∧ RT 3 (nI (bur P ti G Lg).length) aL (bur P ti G Lg) := by
  have hl := q.1
  have hkl := kept_len (P := P) G
  obtain ⟨aL, l1, l2⟩ := c_buryL (ti := ti) hP hPl hG q G [] 0 FU rL fL Lg rfl hL hLl (by unfold FU; omega)
  have l1 : f_X2_buryDying_L4 rP fP rG fG ti FU (0 : Int32) (0 : Int32) rL fL = some (nI (0 + ndy P G), nI (bur P ti G Lg).length, aL) := l1
  rw [Nat.zero_add] at l1
  have bd3_some : ∀ {α β γ δ : Type} {a : α} {b : β} {c : γ} {f : α → β → γ → Option δ}, bd3 (some (a, b, c)) f = f a b c := rfl
  unfold f_X2_buryDying
  rw [l1, bd3_some, hG.rows, bd_some, nm_eq, sub1]
  by_cases h : ndy P G = 0
  · have hk := kept_id G h
    have e : f_X2_buryDying_L47 (nI (ndy P G)) rP fP FU (nI G.length + (-1 : Int32)) rG fG = some (rG, fG) := by
      show f_X2_buryDying_L47 (nI (ndy P G)) rP fP (3999 + 1) (nI G.length + (-1 : Int32)) rG fG = some (rG, fG)
      unfold f_X2_buryDying_L47
      split
      · rfl
      · rw [h, if_pos (show nI 0 ≤ (0 : Int32) by decide)]
    refine ⟨fG, aL, ?_, ?_, l2⟩
    · rw [e, bd2_some, nm_eq, hk, hG.1]
    · rw [hk, ← hG.1]
      exact hG
  · have hr : G.reverse.reverse = G := List.reverse_reverse G
    have h2 : RT 6 rG fG (G.reverse.reverse ++ []) := by rw [hr, List.append_nil]; exact hG
    have h3 : QG T (G.reverse.reverse ++ []) := by rw [hr, List.append_nil]; exact q
    obtain ⟨aG, e1, e2⟩ := c_dropL hP hPl (d := ndy P G) (by omega) (by omega) G.reverse [] FU rG fG h2 h3 (by rw [List.length_reverse]; unfold FU; omega)
    rw [hr, List.append_nil, List.length_reverse] at e1
    rw [hr, List.append_nil] at e2
    refine ⟨aG, aL, ?_, e2, l2⟩
    rw [e1, bd2_some, nm_eq]
/-! the model -/
theorem e_284 (x : Nat) : (284 : Int32) + nI x = nI (284 + x) := n_at
theorem m_logL : ∀ (n F : Nat) (al : Nat → Int32), n ≤ 33 → n < F → ∃ al' : Nat → Int32, f_X6_log_L3 F (nI (n + 2)) al = some al' ∧ (∀ i : Nat, 3 ≤ i → i ≤ n + 2 → al' (284 + i) = al (284 + i - 3)) ∧ (∀ i : Nat, i < 287 ∨ 284 + n + 2 < i → al' i = al i)
  | _, 0, _, _, hF => absurd hF (by omega)
  | 0, F + 1, al, h, hF => by
    unfold f_X6_log_L3
    rw [if_pos (show nI (0 + 2) < (3 : Int32) by decide)]
    exact ⟨al, rfl, fun i h1 h2 => absurd h1 (by omega), fun i _ => rfl⟩
  | n + 1, F + 1, al, h, hF => by
    have c1 : ¬ nI (n + 1 + 2) < (3 : Int32) := q_nlt (b := 3) (by omega) (by omega) (by omega)
    have e1 : (284 : Int32) + nI (n + 1 + 2) = nI (284 + (n + 1 + 2)) := n_at
    have e2 : nI (284 + (n + 1 + 2)) - (3 : Int32) = nI (284 + (n + 1 + 2) - 3) := pk_sub (b := 3) (by omega)
    have e3 : nI (n + 1 + 2) + (-1 : Int32) = nI (n + 2) := pk_m1 (n + 2)
    obtain ⟨al', i1, i2, i3⟩ := m_logL n F (upd al (284 + (n + 1 + 2)) (al (284 + (n + 1 + 2) - 3))) (by omega) (by omega)
    refine ⟨al', ?_, fun i h1 h2 => ?_, fun i hi => ?_⟩
    · unfold f_X6_log_L3
      rw [if_neg c1, e1, e2, n_ix (by omega) (by omega), nm_eq, n_ix (by omega) (by omega), nm_eq, nm_eq, e3, n_cl (by omega), n_cl (by omega)]
      exact i1
    · by_cases e : i = n + 1 + 2
      · rw [e, i3 _ (by omega), pk_us]
      · rw [i2 i h1 (by omega), pk_un (by omega)]
    · rw [i3 i (by omega), pk_un (by omega)]
theorem m_log {al : Nat → Int32} {P T G Lg : List rw_} {gi di re ti : Int32} {k : Nat} (o : OS P T G Lg) (m : MS al P T G Lg gi di re ti) (hk : k < G.length) : ∃ al' : Nat → Int32, f_X6_log (nI k) al = some al' ∧ MS al' P T G (psh Lg (g3 (G.getD k z_ 5) ti (G.getD k z_ 0))) gi di re ti := by
  obtain ⟨b, e1, e2, e3⟩ := m_logL 33 FU al (by omega) (by unfold FU; omega)
  have e1 : f_X6_log_L3 FU (35 : Int32) al = some b := e1
  have hl := o.2.2.1.1
  have hLl := o.2.2.2
  have c0 : (0 : Int32).toNatClampNeg = 0 := by decide
  have c6 : (6 : Int32).toNatClampNeg = 6 := by decide
  have c284 : (284 : Int32).toNatClampNeg = 284 := by decide
  have c285 : (285 : Int32).toNatClampNeg = 285 := by decide
  have c286 : (286 : Int32).toNatClampNeg = 286 := by decide
  have n0 : ∀ z : Option (Nat → Int32), ix (0 : Int32) 320 z = z := fun z => ixo z (by decide)
  have n6 : ∀ z : Option (Nat → Int32), ix (6 : Int32) 320 z = z := fun z => ixo z (by decide)
  have n284 : ∀ z : Option (Nat → Int32), ix (284 : Int32) 320 z = z := fun z => ixo z (by decide)
  have n285 : ∀ z : Option (Nat → Int32), ix (285 : Int32) 320 z = z := fun z => ixo z (by decide)
  have n286 : ∀ z : Option (Nat → Int32), ix (286 : Int32) 320 z = z := fun z => ixo z (by decide)
  have mb : MG b G := m.2.2.1.c hl (e3 5 (by omega)) (fun i h1 h2 => e3 i (by omega))
  have q1 := mb.n hk hl
  have b0 : upd b 284 (G.getD k z_ 5) 0 = ti := by rw [pk_un (by omega), e3 0 (by omega)]; exact m.2.2.2.2.2.2.2
  let d := upd (upd b 284 (G.getD k z_ 5)) 285 ti
  have md : MG d G := mb.c hl (by show upd _ _ _ _ = _; rw [pk_un (by omega), pk_un (by omega)]) (fun i h1 h2 => by show upd _ _ _ _ = _; rw [pk_un (by omega), pk_un (by omega)])
  have q2 := md.l hk hl
  let w := upd d 286 (G.getD k z_ 0)
  have hw : ∀ i : Nat, i < 284 ∨ 287 ≤ i → w i = b i := fun i hi => by
    show upd (upd (upd b 284 (G.getD k z_ 5)) 285 ti) 286 (G.getD k z_ 0) i = b i
    rw [pk_un (by omega), pk_un (by omega), pk_un (by omega)]
  have w6 : w 6 = nI Lg.length := by rw [hw 6 (by omega), e3 6 (by omega)]; exact m.2.2.2.1.1
  have hfin : f_X6_log (nI k) al = some (upd w 6 (nI (psh Lg (g3 (G.getD k z_ 5) ti (G.getD k z_ 0))).length)) := by
    unfold f_X6_log
    rw [e1, bd_some, q1, bd_some, n284, nm_eq, n0, c284, nm_eq, c0, b0, n285, nm_eq, c285]
    show bd (f_X6_of (nI k) (1 : Int32) d) _ = _
    rw [q2, bd_some, n286, nm_eq, n6, n6, c286, c6]
    show (if (12 : Int32) ≤ w 6 then _ else _) = _
    unfold psh
    by_cases h : Lg.length < 12
    · have e : nI Lg.length + (1 : Int32) = nI (Lg.length + 1) := n_at
      rw [w6, if_neg (show ¬ (12 : Int32) ≤ nI Lg.length from q_nle (a := 12) (by omega) (by omega) h), if_pos h, List.length_append]
      show nm (w 6 + 1) _ = _
      rw [w6, e, nm_eq, n6, nm_eq]
      rfl
    · rw [w6, if_pos (show (12 : Int32) ≤ nI Lg.length from q_le (a := 12) (by omega) (by omega) (by omega)), if_neg h, List.length_append, len_er (by omega)]
      show nm (w 6 + 0) _ = _
      rw [w6, z_add, nm_eq, n6, nm_eq, show Lg.length - 1 + [g3 (G.getD k z_ 5) ti (G.getD k z_ 0)].length = Lg.length from (by show Lg.length - 1 + 1 = Lg.length; omega)]
  refine ⟨_, hfin, m.1.c (fun i h1 h2 => ?_), m.2.1.c o.2.2.1.2.1 ?_ (fun i h1 h2 => ?_), m.2.2.1.c hl ?_ (fun i h1 h2 => ?_), ⟨by rw [pk_us], fun i j hi hj => ?_⟩, m.2.2.2.2.c (fun i hi => ?_)⟩
  · rw [pk_un (by omega), hw i (by omega), e3 i (by omega)]
  · rw [pk_un (by omega), hw 4 (by omega), e3 4 (by omega)]
  · rw [pk_un (by omega), hw i (by omega), e3 i (by omega)]
  · rw [pk_un (by omega), hw 5 (by omega), e3 5 (by omega)]
  · rw [pk_un (by omega), hw i (by omega), e3 i (by omega)]
  · rw [pk_un (by omega)]
    have hpl := psh_len (r := g3 (G.getD k z_ 5) ti (G.getD k z_ 0)) hLl
    by_cases hi0 : i = 0
    · subst hi0
      have hlast : (psh Lg (g3 (G.getD k z_ 5) ti (G.getD k z_ 0))).getD ((psh Lg (g3 (G.getD k z_ 5) ti (G.getD k z_ 0))).length - 1 - 0) z_ = g3 (G.getD k z_ 5) ti (G.getD k z_ 0) := by
        unfold psh
        rw [List.length_append]
        show (_ ++ _ :: []).getD (_ + 1 - 1 - 0) z_ = _
        rw [show ∀ a : Nat, a + 1 - 1 - 0 = a from fun a => by omega]
        exact gd_mid
      rw [hlast]
      show upd (upd (upd b 284 (G.getD k z_ 5)) 285 ti) 286 (G.getD k z_ 0) _ = _
      have hj : j = 0 ∨ j = 1 ∨ j = 2 := by omega
      rcases hj with e | e | e
      · rw [e, pk_un (by omega), pk_un (by omega), pk_us]
        rfl
      · rw [e, pk_un (by omega), pk_us]
        rfl
      · rw [e, pk_us]
        rfl
    · have hx := e2 (3 * i + j) (by omega) (by omega)
      rw [hw _ (by omega), show 284 + 3 * i + j = 284 + (3 * i + j) by omega, hx, show 284 + (3 * i + j) - 3 = 284 + 3 * (i - 1) + j by omega]
      by_cases h : Lg.length < 12
      · have hp : psh Lg (g3 (G.getD k z_ 5) ti (G.getD k z_ 0)) = Lg ++ [g3 (G.getD k z_ 5) ti (G.getD k z_ 0)] := by unfold psh; rw [if_pos h]
        have hpL : (psh Lg (g3 (G.getD k z_ 5) ti (G.getD k z_ 0))).length = Lg.length + 1 := by rw [hp, List.length_append]; rfl
        rw [hpL] at hi ⊢
        rw [m.2.2.2.1.2 (i - 1) j (by omega) hj, hp, gd_app (by omega), show Lg.length - 1 - (i - 1) = Lg.length + 1 - 1 - i by omega]
      · have hp : psh Lg (g3 (G.getD k z_ 5) ti (G.getD k z_ 0)) = Lg.eraseIdx 0 ++ [g3 (G.getD k z_ 5) ti (G.getD k z_ 0)] := by unfold psh; rw [if_neg h]
        have hlen : (Lg.eraseIdx 0).length = Lg.length - 1 := len_er (by omega)
        have hpL : (psh Lg (g3 (G.getD k z_ 5) ti (G.getD k z_ 0))).length = Lg.length := by
          rw [hp, List.length_append, hlen]
          show Lg.length - 1 + 1 = Lg.length
          omega
        rw [hpL] at hi ⊢
        rw [m.2.2.2.1.2 (i - 1) j (by omega) hj, hp, gd_app (by omega), gd_er, if_neg (by omega), show Lg.length - 1 - (i - 1) = Lg.length - 1 - i + 1 by omega]
  · rw [pk_un (by omega), hw i (by omega), e3 i (by omega)]
