/-! ===== PURE: the text is carried out ===== -/
theorem bd11_some {α0 α1 α2 α3 α4 α5 α6 α7 α8 α9 α10 γ : Type} {a0 : α0} {a1 : α1} {a2 : α2} {a3 : α3} {a4 : α4} {a5 : α5} {a6 : α6} {a7 : α7} {a8 : α8} {a9 : α9} {a10 : α10} {f : α0 → α1 → α2 → α3 → α4 → α5 → α6 → α7 → α8 → α9 → α10 → Option γ} : bd11 (some (a0, a1, a2, a3, a4, a5, a6, a7, a8, a9, a10)) f = f a0 a1 a2 a3 a4 a5 a6 a7 a8 a9 a10 := rfl
theorem bd15_some {α0 α1 α2 α3 α4 α5 α6 α7 α8 α9 α10 α11 α12 α13 α14 γ : Type} {a0 : α0} {a1 : α1} {a2 : α2} {a3 : α3} {a4 : α4} {a5 : α5} {a6 : α6} {a7 : α7} {a8 : α8} {a9 : α9} {a10 : α10} {a11 : α11} {a12 : α12} {a13 : α13} {a14 : α14} {f : α0 → α1 → α2 → α3 → α4 → α5 → α6 → α7 → α8 → α9 → α10 → α11 → α12 → α13 → α14 → Option γ} : bd15 (some (a0, a1, a2, a3, a4, a5, a6, a7, a8, a9, a10, a11, a12, a13, a14)) f = f a0 a1 a2 a3 a4 a5 a6 a7 a8 a9 a10 a11 a12 a13 a14 := rfl
theorem bd7_some {α0 α1 α2 α3 α4 α5 α6 γ : Type} {a0 : α0} {a1 : α1} {a2 : α2} {a3 : α3} {a4 : α4} {a5 : α5} {a6 : α6} {f : α0 → α1 → α2 → α3 → α4 → α5 → α6 → Option γ} : bd7 (some (a0, a1, a2, a3, a4, a5, a6)) f = f a0 a1 a2 a3 a4 a5 a6 := rfl
theorem p_exec {rP rT rH rO tl : Int32} {fT fO txt : Nat → Int32} {n : Nat} (rB : Int32) (fB : Nat → Int32) (pl fa cn : Int32) (ro : Nat) (Qh : Nat → HS) {T : List rw_} (htl : tl = nI n) (hn : n ≤ 100) : ∀ (S pre : List rw_) (p F F' : Nat) (P G Lg : List rw_) (fP : Nat → Int32) (rG : Int32) (fG : Nat → Int32) (rL : Int32) (fL fH : Nat → Int32) (gi di re ti : Int32) (al ho : Nat → Int32) (od : Int32) (nu : Nat → Int32), RT 6 rO fO (pre ++ S) → (pre ++ S).length ≤ 100 → ch_ txt tl n p S → S.length < F → S.length < F' → OS P T G Lg → CS rP fP rT fT rG fG rL fL rH fH P T G Lg → MS al P T G Lg gi di re ti → ∃ (d : Int32) (P' G' Lg' : List rw_) (aP : Nat → Int32) (rG' : Int32) (aG : Nat → Int32) (rL' : Int32) (aL aH : Nat → Int32) (gi' di' re' ti' : Int32) (al' ho' : Nat → Int32) (pos' od' : Int32) (nu' : Nat → Int32), f_X5_carryOut_L39 rP rT fT rH rB fB rO fO pl fa cn ro Qh F (nI pre.length) fP rG fG rL fL fH gi di re ti = some (d, aP, rG', aG, rL', aL, aH, gi', di', re', ti', rO, fO, pl, fa, cn, ro, Qh) ∧ f_X6_carryOut_L47 txt tl F' (nI pre.length) al ho (nI p) od nu = some (d, al', ho', pos', od', nu') ∧ OS P' T G' Lg' ∧ CS rP aP rT fT rG' aG rL' aL rH aH P' T G' Lg' ∧ MS al' P' T G' Lg' gi' di' re' ti'
  | _, _, _, 0, _, _, _, _, _, _, _, _, _, _, _, _, _, _, _, _, _, _, _, _, _, hF, _, _, _, _ => absurd hF (by omega)
  | _, _, _, _, 0, _, _, _, _, _, _, _, _, _, _, _, _, _, _, _, _, _, _, _, _, _, hF, _, _, _ => absurd hF (by omega)
  | [], pre, p, F + 1, F' + 1, P, G, Lg, fP, rG, fG, rL, fL, fH, gi, di, re, ti, al, ho, od, nu, hO, hl, hc, _, _, o, c, m => by
    have hc : n ≤ p ∧ p < 900 := hc
    have e0 : pre ++ [] = pre := List.append_nil pre
    rw [e0] at hO hl
    refine ⟨nI pre.length, P, G, Lg, fP, rG, fG, rL, fL, fH, gi, di, re, ti, al, ho, nI p, od, nu, ?_, ?_, o, c, m⟩
    · unfold f_X5_carryOut_L39
      rw [hO.rows, bd_some, if_pos (q_le (by omega) (by omega) (Nat.le_refl _)), bd_some]
    · unfold f_X6_carryOut_L47
      rw [htl, if_pos (q_le (by omega) (by omega) hc.1)]
  | g :: S, pre, p, F + 1, F' + 1, P, G, Lg, fP, rG, fG, rL, fL, fH, gi, di, re, ti, al, ho, od, nu, hO, hl, hc, hF, hF', o, c, m => by
    obtain ⟨h1, p', h2, h3, h4, h5⟩ := hc
    obtain ⟨nu1, k1, k2⟩ := h4 od nu
    have hF : S.length + 1 < F + 1 := hF
    have hF' : S.length + 1 < F' + 1 := hF'
    have hs := split_at (G := pre ++ g :: S) rfl
    have ek : nI pre.length + (1 : Int32) = nI (pre ++ [g]).length := by rw [List.length_append]; exact n_at
    have ea : (pre ++ [g]) ++ S = pre ++ g :: S := by rw [List.append_assoc]; rfl
    have n1 : ¬ (1 : Int32) = 0 := by decide
    obtain ⟨k, P', G', Lg', rG', rL', gi', di', re', ti', aP, aG, aL, aH, al', ho', b1, b2, b3, b4, b5⟩ := j_obey o c m hO hl hs.1 ho nu1 (by rw [hs.2]; exact k2)
    rw [hs.2] at b2
    have x1 : ¬ nI (pre ++ g :: S).length ≤ nI pre.length := q_nle (by omega) (by omega) hs.1
    have x2 : ¬ nI n ≤ nI p := q_nle (by omega) (by omega) h1
    by_cases hk : k = 0
    · refine ⟨nI pre.length, P', G', Lg', aP, rG', aG, rL', aL, aH, gi', di', re', ti', al', ho', nI p', g 0, nu1, ?_, ?_, b3, b4, b5⟩
      · unfold f_X5_carryOut_L39
        rw [hO.rows, bd_some, if_neg x1, b1, bd11_some, if_pos hk]
      · unfold f_X6_carryOut_L47
        rw [k1, bd4_some, b2, bd3_some, htl, if_neg x2, if_neg n1, if_pos hk]
    · rw [← ea] at hO hl
      obtain ⟨d, P2, G2, Lg2, aP2, rG2, aG2, rL2, aL2, aH2, gi2, di2, re2, ti2, al2, ho2, pos2, od2, nu2, r1, r2, r3, r4, r5⟩ := p_exec rB fB pl fa cn ro Qh htl hn S (pre ++ [g]) p' F F' P' G' Lg' aP rG' aG rL' aL aH gi' di' re' ti' al' ho' (g 0) nu1 hO hl h5 (by omega) (by omega) b3 b4 b5
      refine ⟨d, P2, G2, Lg2, aP2, rG2, aG2, rL2, aL2, aH2, gi2, di2, re2, ti2, al2, ho2, pos2, od2, nu2, ?_, ?_, r3, r4, r5⟩
      · rw [ea] at hO
        unfold f_X5_carryOut_L39
        rw [hO.rows, bd_some, if_neg x1, b1, bd11_some, if_neg hk, nm_eq, ek]
        exact r1
      · unfold f_X6_carryOut_L47
        rw [k1, bd4_some, b2, bd3_some, nm_eq, ek, htl, if_neg x2, if_neg n1, if_neg hk, ← htl]
        exact r2
/-- the loop's state -/
def LI (rP : Int32) (fP : Nat → Int32) (rT : Int32) (fT : Nat → Int32) (rG : Int32) (fG : Nat → Int32) (rL : Int32) (fL : Nat → Int32) (rH : Int32) (fH : Nat → Int32) (gi : Int32) (di : Int32) (re : Int32) (ti : Int32) (rB : Int32) (fB : Nat → Int32) (cn : Int32) (ro : Nat) (Qh : Nat → HS) (al sv : Nat → Int32) (sm : Int32) (txt : Nat → Int32) (tl : Int32) : Prop := ∃ (s : AS) (m : Nat) (Sf : Nat → AS) (n : Nat), OSs s ∧ CSs (rP, fP, rT, fT, rG, fG, rL, fL, rH, fH, gi, di, re, ti) s ∧ MSs al s ∧ HR cn ro Qh sm sv m Sf ∧ TX rB fB tl txt n
theorem j_carry {rP rT rG rL rH gi di re ti rB rO pl fa cn sm tl th pos od : Int32} {fP fT fG fL fH fB fO al sv ho txt nu : Nat → Int32} {ro : Nat} {Qh : Nat → HS} (h : LI rP fP rT fT rG fG rL fL rH fH gi di re ti rB fB cn ro Qh al sv sm txt tl) : ∃ (d : Int32) (aP : Nat → Int32) (rG' : Int32) (aG : Nat → Int32) (rL' : Int32) (aL aH : Nat → Int32) (gi' di' re' ti' rO' : Int32) (aO : Nat → Int32) (pl' fa' cn' : Int32) (ro' : Nat) (Q' : Nat → HS) (al' sv' : Nat → Int32) (sm' th' : Int32) (ho' : Nat → Int32) (pos' od' : Int32) (nu' : Nat → Int32), f_X5_carryOut rP fP rT fT rG fG rL fL rH fH gi di re ti rB fB rO fO pl fa cn ro Qh = some (d, aP, rG', aG, rL', aL, aH, gi', di', re', ti', rO', aO, pl', fa', cn', ro', Q') ∧ f_X6_carryOut al sv sm th ho txt tl pos od nu = some (d, al', sv', sm', th', ho', pos', od', nu') ∧ LI rP aP rT fT rG' aG rL' aL rH aH gi' di' re' ti' rB fB cn' ro' Q' al' sv' sm' txt tl := by
  obtain ⟨⟨P, T, G, Lg, gi0, di0, re0, ti0⟩, m, Sf, n, o, ⟨c, e1, e2, e3, e4⟩, ms, hr, tx⟩ := h
  have e1 : gi = gi0 := e1
  have e2 : di = di0 := e2
  have e3 : re = re0 := e3
  have e4 : ti = ti0 := e4
  subst e1 e2 e3 e4
  have o : OS P T G Lg := o
  have c : CS rP fP rT fT rG fG rL fL rH fH P T G Lg := c
  have ms : MS al P T G Lg gi di re ti := ms
  have hn := tx.2.2.1
  have hO : RT 6 (nI ([] : List rw_).length) fO [] := ⟨rfl, fun k j hk => absurd hk (by show ¬ k < 0; omega)⟩
  have hrd := p_read (sm := sm) (th := 0) (al := al) (sv := sv) (ho := ho) tx n 0 FU FU fO [] (by omega) (by omega) (Nat.le_refl _) (by unfold FU; omega) (by unfold FU; omega) hO
  have hX : ∀ (r : Option (Int32 × (Nat → Int32) × Int32 × Int32)), f_X4_read_L19 rB fB FU (nI ([] : List rw_).length) (nI ([] : List rw_).length) fO (nI 0) (-1) = r → f_X4_read rB fB rO fO pl fa = bd4 r (fun rO_16 fO_17 pl_18 fa_19 => some (fa_19, rO_16, fO_17, pl_18, fa_19)) := fun r hr => by
    rw [← hr]
    unfold f_X4_read f_X3_dropAll
    rfl
  rcases hrd with ⟨S, aO, pl', r1, r2, r3, r4, r5⟩ | ⟨q, rO', aO, pl', q1, r1, r2⟩
  · have hx := hX _ r1
    rw [bd4_some] at hx
    have e0 : ([] : List rw_) ++ S = S := rfl
    rw [e0] at hx r2 r3
    obtain ⟨od1, nu1, t1⟩ := r5 od nu
    obtain ⟨cn', ro', Q', sv', sm', m', Sf', k1, k2, k3⟩ := j_keep (fP := fP) (fT := fT) (fG := fG) (fL := fL) (fH := fH) (rP := rP) (rT := rT) (rG := rG) (rL := rL) (rH := rH) (gi := gi) (di := di) (re := re) (ti := ti) hr (s := (P, T, G, Lg, gi, di, re, ti)) o ⟨c, rfl, rfl, rfl, rfl⟩ ms
    obtain ⟨d, P2, G2, Lg2, aP2, rG2, aG2, rL2, aL2, aH2, gi2, di2, re2, ti2, al2, ho2, pos2, od2, nu2, x1, x2, x3, x4, x5⟩ := p_exec rB fB pl' (-1) cn' ro' Q' tx.2.1 hn S [] 0 FU FU P G Lg fP rG fG rL fL fH gi di re ti al ho od1 nu1 r2 r3 r4 (by unfold FU; omega) (by unfold FU; omega) o c ms
    have x1 : f_X5_carryOut_L39 rP rT fT rH rB fB (nI S.length) aO pl' (-1) cn' ro' Q' FU (0 : Int32) fP rG fG rL fL fH gi di re ti = some (d, aP2, rG2, aG2, rL2, aL2, aH2, gi2, di2, re2, ti2, nI S.length, aO, pl', -1, cn', ro', Q') := x1
    have x2 : f_X6_carryOut_L47 txt tl FU (0 : Int32) al ho (0 : Int32) od1 nu1 = some (d, al2, ho2, pos2, od2, nu2) := x2
    have t1 : f_X6_carryOut_L10 al sv sm (0 : Int32) ho txt tl FU (0 : Int32) od nu = kO al sv sm 0 ho txt tl od1 nu1 := t1
    refine ⟨d, aP2, rG2, aG2, rL2, aL2, aH2, gi2, di2, re2, ti2, nI S.length, aO, pl', -1, cn', ro', Q', al2, sv', sm', 0, ho2, pos2, od2, nu2, ?_, ?_, ⟨(P2, T, G2, Lg2, gi2, di2, re2, ti2), m', Sf', n, x3, ⟨x4, rfl, rfl, rfl, rfl⟩, x5, k3, tx⟩⟩
    · unfold f_X5_carryOut
      rw [hx, bd5_some, if_pos rfl, k1, bd3_some]
      exact x1
    · unfold f_X6_carryOut
      rw [t1]
      unfold kO
      rw [k2, bd2_some, x2, bd6_some]
  · have hx := hX _ r1
    rw [bd4_some] at hx
    obtain ⟨od1, nu1, t1⟩ := r2 od nu
    have t1 : f_X6_carryOut_L10 al sv sm (0 : Int32) ho txt tl FU (0 : Int32) od nu = some ((-10 : Int32) - nI q, al, sv, sm, 0, ho, nI q, od1, nu1) := t1
    refine ⟨(-10 : Int32) - nI q, fP, rG, fG, rL, fL, fH, gi, di, re, ti, rO', aO, pl', nI q, cn, ro, Qh, al, sv, sm, 0, ho, nI q, od1, nu1, ?_, ?_, ⟨(P, T, G, Lg, gi, di, re, ti), m, Sf, n, o, ⟨c, rfl, rfl, rfl, rfl⟩, ms, hr, tx⟩⟩
    · unfold f_X5_carryOut
      rw [hx, bd5_some, if_neg (n_m1 (by omega)), nm_eq]
    · unfold f_X6_carryOut
      exact t1
