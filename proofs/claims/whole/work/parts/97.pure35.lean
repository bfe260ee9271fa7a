/-! ===== PURE: the law's loop answers 1 ===== -/
theorem bd12_some {α0 α1 α2 α3 α4 α5 α6 α7 α8 α9 α10 α11 γ : Type} {a0 : α0} {a1 : α1} {a2 : α2} {a3 : α3} {a4 : α4} {a5 : α5} {a6 : α6} {a7 : α7} {a8 : α8} {a9 : α9} {a10 : α10} {a11 : α11} {f : α0 → α1 → α2 → α3 → α4 → α5 → α6 → α7 → α8 → α9 → α10 → α11 → Option γ} : bd12 (some (a0, a1, a2, a3, a4, a5, a6, a7, a8, a9, a10, a11)) f = f a0 a1 a2 a3 a4 a5 a6 a7 a8 a9 a10 a11 := rfl
theorem bd13_some {α0 α1 α2 α3 α4 α5 α6 α7 α8 α9 α10 α11 α12 γ : Type} {a0 : α0} {a1 : α1} {a2 : α2} {a3 : α3} {a4 : α4} {a5 : α5} {a6 : α6} {a7 : α7} {a8 : α8} {a9 : α9} {a10 : α10} {a11 : α11} {a12 : α12} {f : α0 → α1 → α2 → α3 → α4 → α5 → α6 → α7 → α8 → α9 → α10 → α11 → α12 → Option γ} : bd13 (some (a0, a1, a2, a3, a4, a5, a6, a7, a8, a9, a10, a11, a12)) f = f a0 a1 a2 a3 a4 a5 a6 a7 a8 a9 a10 a11 a12 := rfl
theorem bd16_some {α0 α1 α2 α3 α4 α5 α6 α7 α8 α9 α10 α11 α12 α13 α14 α15 γ : Type} {a0 : α0} {a1 : α1} {a2 : α2} {a3 : α3} {a4 : α4} {a5 : α5} {a6 : α6} {a7 : α7} {a8 : α8} {a9 : α9} {a10 : α10} {a11 : α11} {a12 : α12} {a13 : α13} {a14 : α14} {a15 : α15} {f : α0 → α1 → α2 → α3 → α4 → α5 → α6 → α7 → α8 → α9 → α10 → α11 → α12 → α13 → α14 → α15 → Option γ} : bd16 (some (a0, a1, a2, a3, a4, a5, a6, a7, a8, a9, a10, a11, a12, a13, a14, a15)) f = f a0 a1 a2 a3 a4 a5 a6 a7 a8 a9 a10 a11 a12 a13 a14 a15 := rfl
theorem bd17_some {α0 α1 α2 α3 α4 α5 α6 α7 α8 α9 α10 α11 α12 α13 α14 α15 α16 γ : Type} {a0 : α0} {a1 : α1} {a2 : α2} {a3 : α3} {a4 : α4} {a5 : α5} {a6 : α6} {a7 : α7} {a8 : α8} {a9 : α9} {a10 : α10} {a11 : α11} {a12 : α12} {a13 : α13} {a14 : α14} {a15 : α15} {a16 : α16} {f : α0 → α1 → α2 → α3 → α4 → α5 → α6 → α7 → α8 → α9 → α10 → α11 → α12 → α13 → α14 → α15 → α16 → Option γ} : bd17 (some (a0, a1, a2, a3, a4, a5, a6, a7, a8, a9, a10, a11, a12, a13, a14, a15, a16)) f = f a0 a1 a2 a3 a4 a5 a6 a7 a8 a9 a10 a11 a12 a13 a14 a15 a16 := rfl
theorem bd18_some {α0 α1 α2 α3 α4 α5 α6 α7 α8 α9 α10 α11 α12 α13 α14 α15 α16 α17 γ : Type} {a0 : α0} {a1 : α1} {a2 : α2} {a3 : α3} {a4 : α4} {a5 : α5} {a6 : α6} {a7 : α7} {a8 : α8} {a9 : α9} {a10 : α10} {a11 : α11} {a12 : α12} {a13 : α13} {a14 : α14} {a15 : α15} {a16 : α16} {a17 : α17} {f : α0 → α1 → α2 → α3 → α4 → α5 → α6 → α7 → α8 → α9 → α10 → α11 → α12 → α13 → α14 → α15 → α16 → α17 → Option γ} : bd18 (some (a0, a1, a2, a3, a4, a5, a6, a7, a8, a9, a10, a11, a12, a13, a14, a15, a16, a17)) f = f a0 a1 a2 a3 a4 a5 a6 a7 a8 a9 a10 a11 a12 a13 a14 a15 a16 a17 := rfl
theorem thr {x : Int32} : f_X6_thrown x = some x := rfl
theorem tail_ {k b : Int32} {fo' : Nat → Int64} {A : Option Int32} (hA : A = some 1) (h : k = 0 → fo' 0 = b.toInt64) : (if k = k then (if k = (0 : Int32) then ix (0 : Int32) 1 (if lg_cmp (fo' (0 : Int32).toNatClampNeg) b.toInt64 = (0 : Int32) then A else some (0 : Int32)) else A) else some (0 : Int32)) = some 1 := by
  rw [if_pos rfl]
  by_cases hk : k = 0
  · have e : fo' (0 : Int32).toNatClampNeg = b.toInt64 := h hk
    rw [if_pos hk, ixo _ (by decide), e, if_pos ((lg_cmp_eq _ _).mpr rfl)]
    exact hA
  · rw [if_neg hk]
    exact hA
theorem l_end {L i : Nat} (hL : L ≤ 3072) (hi : i ≤ 3072) : (Int32.ofNat L - (6 : Int32) < nI i) ↔ L < i + 6 := by
  have h : (nI L - nI 6).toInt = (L : Int) - 6 := pk_sub_toInt (by omega) (by omega)
  have h : (Int32.ofNat L - (6 : Int32)).toInt = (L : Int) - 6 := h
  rw [Int32.lt_iff_toInt_lt, h, nI_toInt (by omega)]
  omega
theorem p_law {L : Nat} {xs : Nat → Int32} (hL : L ≤ 3072) : ∀ (F i : Nat) {rP : Int32} {fP : Nat → Int32} {rT : Int32} {fT : Nat → Int32} {rG : Int32} {fG : Nat → Int32} {rL : Int32} {fL : Nat → Int32} {rH : Int32} {fH : Nat → Int32} {gi : Int32} {di : Int32} {re : Int32} {ti : Int32} {rPT : Int32} {fPT : Nat → Int32} {rTT : Int32} {fTT : Nat → Int32} {rGT : Int32} {fGT : Nat → Int32} {rLT : Int32} {fLT : Nat → Int32} {rHT : Int32} {fHT : Nat → Int32} {giT : Int32} {diT : Int32} {reT : Int32} {tiT : Int32} {fS : Nat → Int32} {rB : Int32} {fB : Nat → Int32} {rO : Int32} {fO : Nat → Int32} {pl : Int32} {fa : Int32} {cn : Int32} {ro : Nat} {Qh : Nat → HS} {fo : Nat → Int64} {al : Nat → Int32} {sv : Nat → Int32} {sm : Int32} {asd : Nat → Int32} {th : Int32} {ho : Nat → Int32} {fr : Nat → Int32} {txt : Nat → Int32} {tl : Int32} {pos : Int32} {od : Int32} {nu : Nat → Int32} {su : Int64}, i ≤ L → L < i + 6 * F → LI rP fP rT fT rG fG rL fL rH fH gi di re ti rB fB cn ro Qh al sv sm txt tl → f_L_law_L23 L xs (1 : Int32) F (nI i) rP fP rT fT rG fG rL fL rH fH gi di re ti rPT fPT rTT fTT rGT fGT rLT fLT rHT fHT giT diT reT tiT fS rB fB rO fO pl fa cn ro Qh fo al sv sm asd th ho fr txt tl pos od nu su = some 1 := by
  intro F
  induction F with
  | zero =>
    intro i rP fP rT fT rG fG rL fL rH fH gi di re ti rPT fPT rTT fTT rGT fGT rLT fLT rHT fHT giT diT reT tiT fS rB fB rO fO pl fa cn ro Qh fo al sv sm asd th ho fr txt tl pos od nu su h1 h2 _
    omega
  | succ F ih =>
    intro i rP fP rT fT rG fG rL fL rH fH gi di re ti rPT fPT rTT fTT rGT fGT rLT fLT rHT fHT giT diT reT tiT fS rB fB rO fO pl fa cn ro Qh fo al sv sm asd th ho fr txt tl pos od nu su h1 h2 hLI
    conv => lhs; unfold f_L_law_L23
    by_cases hend : L < i + 6
    · rw [if_pos ((l_end hL (by omega)).mpr hend)]
    have hx0 : ∀ z : Option Int32, ix (nI i) L z = z := fun z => n_ix (by omega) (by omega)
    have hx1 : ∀ z : Option Int32, ix (nI (i + 1)) L z = z := fun z => n_ix (by omega) (by omega)
    have hx2 : ∀ z : Option Int32, ix (nI (i + 2)) L z = z := fun z => n_ix (by omega) (by omega)
    have hx3 : ∀ z : Option Int32, ix (nI (i + 3)) L z = z := fun z => n_ix (by omega) (by omega)
    have hx4 : ∀ z : Option Int32, ix (nI (i + 4)) L z = z := fun z => n_ix (by omega) (by omega)
    have hx5 : ∀ z : Option Int32, ix (nI (i + 5)) L z = z := fun z => n_ix (by omega) (by omega)
    have e1 : nI i + (1 : Int32) = nI (i + 1) := n_at
    have e2 : nI i + (2 : Int32) = nI (i + 2) := n_at
    have e3 : nI i + (3 : Int32) = nI (i + 3) := n_at
    have e4 : nI i + (4 : Int32) = nI (i + 4) := n_at
    have e5 : nI i + (5 : Int32) = nI (i + 5) := n_at
    have e6 : nI i + (6 : Int32) = nI (i + 6) := n_at
    have c1 : (nI (i + 1)).toNatClampNeg = i + 1 := n_cl (by omega)
    have c2 : (nI (i + 2)).toNatClampNeg = i + 2 := n_cl (by omega)
    have c3 : (nI (i + 3)).toNatClampNeg = i + 3 := n_cl (by omega)
    have c4 : (nI (i + 4)).toNatClampNeg = i + 4 := n_cl (by omega)
    have c5 : (nI (i + 5)).toNatClampNeg = i + 5 := n_cl (by omega)
    rw [if_neg (fun z => hend ((l_end hL (by omega)).mp z)), hx0, nm_eq]
    generalize xs (nI i).toNatClampNeg &&& (31 : Int32) = v
    have hLI2 := hLI
    obtain ⟨⟨P, T, G, Lg, gi0, di0, re0, ti0⟩, m, Sf, n, o, ⟨c, q1, q2, q3, q4⟩, ms, hr, tx⟩ := hLI2
    have q1 : gi = gi0 := q1
    have q2 : di = di0 := q2
    have q3 : re = re0 := q3
    have q4 : ti = ti0 := q4
    subst q1 q2 q3 q4
    have o : OS P T G Lg := o
    have c : CS rP fP rT fT rG fG rL fL rH fH P T G Lg := c
    have ms : MS al P T G Lg gi di re ti := ms
    have i1 : i + 6 ≤ L := by omega
    have i2 : L < i + 6 + 6 * F := by omega
    by_cases h0 : v = 0
    · rw [if_pos h0]
      obtain ⟨k, b, rT', fT', rH', fH', cn', ro', Q', fo', al', sv', sm', w1, w2, w3, w4⟩ := w_addThing hLI (xs (i + 1)) (xs (i + 2)) th fo
      simp only [e1, e2, hx1, hx2, c1, c2]
      rw [w1, bd9_some, w2, bd5_some, thr, bd_some]
      refine tail_ ?_ w3
      rw [nm_eq, e6]
      exact ih (i + 6) i1 i2 w4
    rw [if_neg h0]
    by_cases h1 : v = 1
    · rw [if_pos h1]
      obtain ⟨k, b, fT', fH', cn', ro', Q', fo', al', sv', sm', w1, w2, w3, w4⟩ := w_setMask hLI (xs (i + 1)) (xs (i + 2)) th fo
      simp only [e1, e2, hx1, hx2, c1, c2]
      rw [w1, bd7_some, w2, bd5_some, thr, bd_some]
      refine tail_ ?_ w3
      rw [nm_eq, e6]
      exact ih (i + 6) i1 i2 w4
    rw [if_neg h1]
    by_cases h2 : v = 2
    · rw [if_pos h2]
      obtain ⟨k, b, fP', cn', ro', Q', fo', al', sv', sm', w1, w2, w3, w4⟩ := w_setBase hLI (xs (i + 1)) (xs (i + 2)) th fo
      simp only [e1, e2, hx1, hx2, c1, c2]
      rw [w1, bd6_some, w2, bd5_some, thr, bd_some]
      refine tail_ ?_ w3
      rw [nm_eq, e6]
      exact ih (i + 6) i1 i2 w4
    rw [if_neg h2]
    by_cases h3 : v = 3
    · rw [if_pos h3]
      obtain ⟨k, b, fT', fH', cn', ro', Q', fo', al', sv', sm', w1, w2, w3, w4⟩ := w_give hLI (xs (i + 1)) (xs (i + 2)) th fo
      simp only [e1, e2, hx1, hx2, c1, c2]
      rw [w1, bd7_some, w2, bd5_some, thr, bd_some]
      refine tail_ ?_ w3
      rw [nm_eq, e6]
      exact ih (i + 6) i1 i2 w4
    rw [if_neg h3]
    by_cases h4 : v = 4
    · rw [if_pos h4]
      obtain ⟨k, b, rG', fG', fH', gi', cn', ro', Q', fo', al', sv', sm', ho', w1, w2, w3, w4⟩ := w_grant hLI (xs (i + 1)) (xs (i + 2)) (xs (i + 3)) (xs (i + 4)) (xs (i + 5)) th ho fo
      simp only [e1, e2, e3, e4, e5, hx1, hx2, hx3, hx4, hx5, c1, c2, c3, c4, c5]
      rw [w1, bd9_some, w2, bd6_some, thr, bd_some]
      refine tail_ ?_ w3
      rw [nm_eq, e6]
      exact ih (i + 6) i1 i2 w4
    rw [if_neg h4]
    by_cases h5 : v = 5
    · rw [if_pos h5]
      obtain ⟨k, b, rG', fG', fH', re', cn', ro', Q', fo', al', sv', sm', ho', w1, w2, w3, w4⟩ := w_revoke hLI (xs (i + 1)) th ho fo
      simp only [e1, hx1, c1]
      rw [w1, bd9_some, w2, bd6_some, thr, bd_some]
      refine tail_ ?_ w3
      rw [nm_eq, e6]
      exact ih (i + 6) i1 i2 w4
    rw [if_neg h5]
    by_cases h6 : v = 6
    · rw [if_pos h6]
      obtain ⟨k, b, fP', rG', fG', rL', fL', fH', di', cn', ro', Q', fo', al', sv', sm', w1, w2, w3, w4⟩ := w_cheer hLI (xs (i + 1)) (xs (i + 2)) th fo
      simp only [e1, e2, hx1, hx2, c1, c2]
      rw [w1, bd12_some, w2, bd5_some, thr, bd_some]
      refine tail_ ?_ w3
      rw [nm_eq, e6]
      exact ih (i + 6) i1 i2 w4
    rw [if_neg h6]
    by_cases h7 : v = 7
    · rw [if_pos h7]
      obtain ⟨k, b, fP', rG', fG', rL', fL', fH', di', ti', cn', ro', Q', fo', al', sv', sm', w1, w2, w3, w4⟩ := w_pass hLI (xs (i + 1)) th fo
      simp only [e1, hx1, c1]
      rw [w1, bd13_some, w2, bd5_some, thr, bd_some]
      refine tail_ ?_ w3
      rw [nm_eq, e6]
      exact ih (i + 6) i1 i2 w4
    rw [if_neg h7]
    by_cases h8 : v = 8
    · rw [if_pos h8]
      obtain ⟨k, b, fo', ho', w1, w2, w3⟩ := w_held o c ms (xs (i + 1)) (xs (i + 2)) th ho fo
      simp only [e1, e2, hx1, hx2, c1, c2]
      rw [w1, bd2_some, w2, bd3_some, thr, bd_some]
      refine tail_ ?_ w3
      rw [nm_eq, e6]
      exact ih (i + 6) i1 i2 hLI
    rw [if_neg h8]
    by_cases h9 : v = 9
    · rw [if_pos h9]
      obtain ⟨k, b, fo', ho', w1, w2, w3⟩ := w_person o c ms (xs (i + 1)) (xs (i + 2)) th ho fo
      simp only [e1, e2, hx1, hx2, c1, c2]
      rw [w1, bd2_some, w2, bd3_some, thr, bd_some]
      refine tail_ ?_ w3
      rw [nm_eq, e6]
      exact ih (i + 6) i1 i2 hLI
    rw [if_neg h9]
    by_cases h10 : v = 10
    · rw [if_pos h10]
      obtain ⟨k, b, fo', ho', w1, w2, w3⟩ := w_thing o c ms (xs (i + 1)) (xs (i + 2)) th ho fo
      simp only [e1, e2, hx1, hx2, c1, c2]
      rw [w1, bd2_some, w2, bd3_some, thr, bd_some]
      refine tail_ ?_ w3
      rw [nm_eq, e6]
      exact ih (i + 6) i1 i2 hLI
    rw [if_neg h10]
    by_cases h11 : v = 11
    · rw [if_pos h11]
      obtain ⟨k, b, fo', ho', w1, w2, w3⟩ := w_grantOf o c ms (xs (i + 1)) (xs (i + 2)) th ho fo
      simp only [e1, e2, hx1, hx2, c1, c2]
      rw [w1, bd2_some, w2, bd3_some, thr, bd_some]
      refine tail_ ?_ w3
      rw [nm_eq, e6]
      exact ih (i + 6) i1 i2 hLI
    rw [if_neg h11]
    by_cases h12 : v = 12
    · rw [if_pos h12]
      obtain ⟨k, b, fo', ho', fS', fr', w1, w2, w3⟩ := w_chain o c ms (xs (i + 1)) (xs (i + 2)) th ho fS fr fo
      simp only [e1, e2, hx1, hx2, c1, c2]
      rw [w1, bd3_some, w2, bd4_some, thr, bd_some]
      refine tail_ ?_ w3
      rw [nm_eq, e6]
      exact ih (i + 6) i1 i2 hLI
    rw [if_neg h12]
    by_cases h13 : v = 13
    · rw [if_pos h13]
      obtain ⟨k, b, fo', ho', fS', fr', w1, w2, w3⟩ := w_link o c ms (xs (i + 1)) (xs (i + 2)) (xs (i + 3)) th ho fS fr fo
      simp only [e1, e2, e3, hx1, hx2, hx3, c1, c2, c3]
      rw [w1, bd3_some, w2, bd4_some, thr, bd_some]
      refine tail_ ?_ w3
      rw [nm_eq, e6]
      exact ih (i + 6) i1 i2 hLI
    rw [if_neg h13]
    by_cases h14 : v = 14
    · rw [if_pos h14]
      obtain ⟨k, b, fo', ho', w1, w2, w3⟩ := w_why o c ms (xs (i + 1)) (xs (i + 2)) (xs (i + 3)) th ho fo
      simp only [e1, e2, e3, hx1, hx2, hx3, c1, c2, c3]
      rw [w1, bd2_some, w2, bd3_some, thr, bd_some]
      refine tail_ ?_ w3
      rw [nm_eq, e6]
      exact ih (i + 6) i1 i2 hLI
    rw [if_neg h14]
    by_cases h15 : v = 15
    · rw [if_pos h15]
      obtain ⟨k, b, fo', ho', w1, w2, w3⟩ := w_value o c ms (xs (i + 1)) th ho fo
      simp only [e1, hx1, c1]
      rw [w1, bd2_some, w2, bd3_some, thr, bd_some]
      refine tail_ ?_ w3
      rw [nm_eq, e6]
      exact ih (i + 6) i1 i2 hLI
    rw [if_neg h15]
    by_cases h16 : v = 16
    · rw [if_pos h16]
      obtain ⟨k, b, fo', w1, w2, w3⟩ := w_entry o c ms (xs (i + 1)) (xs (i + 2)) th fo
      simp only [e1, e2, hx1, hx2, c1, c2]
      rw [w1, bd2_some, w2, bd2_some, thr, bd_some]
      refine tail_ ?_ w3
      rw [nm_eq, e6]
      exact ih (i + 6) i1 i2 hLI
    rw [if_neg h16]
    by_cases h17 : v = 17
    · rw [if_pos h17]
      obtain ⟨k, b, q, fo', al', asd', ho', w1, w2, w3, w4⟩ := w_lostBy o c ms (xs (i + 1)) th rPT fPT rTT fTT rGT fGT rLT fLT rHT fHT giT diT reT tiT asd ho fo
      simp only [e1, hx1, c1]
      rw [w1, bd16_some, w2, bd5_some, thr, bd_some]
      refine tail_ ?_ w3
      rw [nm_eq, e6]
      exact ih (i + 6) i1 i2 ⟨(P, T, G, Lg, gi, di, re, ti), m, Sf, n, o, ⟨c, rfl, rfl, rfl, rfl⟩, w4, hr, tx⟩
    rw [if_neg h17]
    by_cases h18 : v = 18
    · rw [if_pos h18]
      obtain ⟨w, q, th', al', asd', ho', w1, w2, w4⟩ := w_most o c ms th rPT fPT rTT fTT rGT fGT rLT fLT rHT fHT giT diT reT tiT asd ho
      rw [w1, bd15_mk, w2, bd5_some]
      dsimp only
      rw [if_pos rfl, nm_eq, e6]
      exact ih (i + 6) i1 i2 ⟨(P, T, G, Lg, gi, di, re, ti), m, Sf, n, o, ⟨c, rfl, rfl, rfl, rfl⟩, w4, hr, tx⟩
    rw [if_neg h18]
    by_cases h19 : v = 19
    · rw [if_pos h19]
      obtain ⟨k, b, q, fo', al', asd', ho', w1, w2, w3, w4⟩ := w_seenIn o c ms (xs (i + 1)) th rPT fPT rTT fTT rGT fGT rLT fLT rHT fHT giT diT reT tiT asd ho fo
      simp only [e1, hx1, c1]
      rw [w1, bd16_some, w2, bd5_some, thr, bd_some]
      refine tail_ ?_ w3
      rw [nm_eq, e6]
      exact ih (i + 6) i1 i2 ⟨(P, T, G, Lg, gi, di, re, ti), m, Sf, n, o, ⟨c, rfl, rfl, rfl, rfl⟩, w4, hr, tx⟩
    rw [if_neg h19]
    by_cases h20 : v = 20
    · rw [if_pos h20]
      obtain ⟨k, b, q, fo', al', asd', ho', w1, w2, w3, w4⟩ := w_gainBy o c ms (xs (i + 1)) (xs (i + 2)) (xs (i + 3)) (xs (i + 4)) (xs (i + 5)) th rPT fPT rTT fTT rGT fGT rLT fLT rHT fHT giT diT reT tiT asd ho fo
      simp only [e1, e2, e3, e4, e5, hx1, hx2, hx3, hx4, hx5, c1, c2, c3, c4, c5]
      rw [w1, bd16_some, w2, bd5_some, thr, bd_some]
      refine tail_ ?_ w3
      rw [nm_eq, e6]
      exact ih (i + 6) i1 i2 ⟨(P, T, G, Lg, gi, di, re, ti), m, Sf, n, o, ⟨c, rfl, rfl, rfl, rfl⟩, w4, hr, tx⟩
    rw [if_neg h20]
    by_cases h21 : v = 21
    · rw [if_pos h21]
      obtain ⟨k, b, fo', w1, w2, w3⟩ := w_patience o c ms (xs (i + 1)) th fo
      simp only [e1, hx1, c1]
      rw [w1, bd2_some, w2, bd2_some, thr, bd_some]
      refine tail_ ?_ w3
      rw [nm_eq, e6]
      exact ih (i + 6) i1 i2 hLI
    rw [if_neg h21]
    by_cases h22 : v = 22
    · rw [if_pos h22]
      obtain ⟨r, th', ho', fS', fr', w1, w2⟩ := w_mean o c ms th ho fS fr
      rw [w1, bd2_some, w2, bd4_some]
      rw [nm_eq, e6]
      by_cases hz : Op.cmpValue (FP.dcmp r r) .l = (0 : Int32)
      · rw [if_pos hz]
        exact ih (i + 6) i1 i2 hLI
      · rw [if_neg hz, if_neg hz, if_neg hz]
        exact ih (i + 6) i1 i2 hLI
    rw [if_neg h22]
    by_cases h23 : v = 23
    · rw [if_pos h23]
      obtain ⟨k, b, rB', fB', fo', txt', tl', n', w1, w2, w3, w4⟩ := w_append tx (xs (i + 1)) th fo
      simp only [e1, hx1, c1]
      rw [w1, bd4_some, w2, bd4_some, thr, bd_some]
      refine tail_ ?_ w3
      rw [nm_eq, e6]
      exact ih (i + 6) i1 i2 ⟨(P, T, G, Lg, gi, di, re, ti), m, Sf, n', o, ⟨c, rfl, rfl, rfl, rfl⟩, ms, hr, w4⟩
    rw [if_neg h23]
    by_cases h24 : v = 24
    · rw [if_pos h24]
      obtain ⟨r, rB', th', tl', w1, w2, w4⟩ := w_clear tx th
      rw [w1, bd2_some, w2, bd3_some, if_pos rfl, nm_eq, e6]
      exact ih (i + 6) i1 i2 ⟨(P, T, G, Lg, gi, di, re, ti), m, Sf, 0, o, ⟨c, rfl, rfl, rfl, rfl⟩, ms, hr, w4⟩
    rw [if_neg h24]
    by_cases h25 : v = 25
    · rw [if_pos h25]
      obtain ⟨d, aP, rG', aG, rL', aL, aH, gi', di', re', ti', rO', aO, pl', fa', cn', ro', Q', al', sv', sm', th', ho', pos', od', nu', w1, w2, w4⟩ := j_carry (rO := rO) (fO := fO) (pl := pl) (fa := fa) (th := th) (ho := ho) (pos := pos) (od := od) (nu := nu) hLI
      rw [w1, bd18_some, w2, bd9_some, if_pos rfl, nm_eq, e6]
      exact ih (i + 6) i1 i2 w4
    rw [if_neg h25]
    by_cases h26 : v = 26
    · rw [if_pos h26]
      obtain ⟨k, b, q, cn', fo', al', sm', w1, w2, w3, w4⟩ := w_undo hLI th fo
      rw [w1, bd17_some, w2, bd4_some, thr, bd_some]
      refine tail_ ?_ w3
      rw [nm_eq, e6]
      exact ih (i + 6) i1 i2 w4
    rw [if_neg h26]
    by_cases h27 : v = 27
    · rw [if_pos h27]
      obtain ⟨r, th', ho', su', w1, w2⟩ := w_digest o c ms tx.1 tx.2.1 hr.1 hr.2.1 th ho su
      rw [w1, bd_some, w2, bd4_some, if_pos ((lg_cmp_eq _ _).mpr rfl), nm_eq, e6]
      exact ih (i + 6) i1 i2 hLI
    rw [if_neg h27]
    rw [nm_eq, e6]
    exact ih (i + 6) i1 i2 hLI
