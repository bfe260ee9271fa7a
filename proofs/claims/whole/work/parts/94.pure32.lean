/-! ===== PURE: the law's calls: the house ===== -/
theorem OS.setT {P T G Lg : List rw_} {t j : Nat} {v : Int32} (o : OS P T G Lg) (ht : t < T.length) (h : okT (upd (T.getD t z_) j v)) : OS P (T.set t (upd (T.getD t z_) j v)) G Lg := ⟨o.1, o.2.1, o.2.2.1.setT ht h, o.2.2.2⟩
theorem MS.setT {al : Nat → Int32} {P T G Lg : List rw_} {gi di re ti v : Int32} {t j : Nat} (o : OS P T G Lg) (m : MS al P T G Lg gi di re ti) (ht : t < T.length) (hj : j < 2) : MS (upd al (28 + 2 * t + j) v) P (T.set t (upd (T.getD t z_) j v)) G Lg gi di re ti := by
  have hl := o.2.2.1.2.1
  refine ⟨m.1.c (fun i h1 h2 => pk_un (by omega)), ⟨by rw [List.length_set, pk_un (by omega)]; exact m.2.1.1, fun i k hi hk => ?_⟩, m.2.2.1.c o.2.2.1.1 (pk_un (by omega)) (fun i h1 h2 => pk_un (by omega)), m.2.2.2.1.c o.2.2.2 (pk_un (by omega)) (fun i h1 h2 => pk_un (by omega)), m.2.2.2.2.c (fun i hi => pk_un (by omega))⟩
  rw [List.length_set] at hi
  by_cases e : i = t
  · rw [e, gd_set ht]
    by_cases ek : k = j
    · rw [ek, pk_us, pk_us]
    · rw [pk_un (by omega), pk_un ek]
      exact m.2.1.2 t k ht hk
  · rw [gd_setn e, pk_un (by omega)]
    exact m.2.1.2 i k hi hk
def sPb (P : List rw_) (p : Nat) (v : Int32) : List rw_ := P.set p (upd (P.getD p z_) 1 v)
theorem sPb_at {P : List rw_} {p i : Nat} {v : Int32} (hp : p < P.length) : (sPb P p v).getD i z_ 1 = (if i = p then v else P.getD i z_ 1) ∧ (sPb P p v).getD i z_ 0 = P.getD i z_ 0 := by
  unfold sPb
  by_cases e : i = p
  · rw [e, gd_set hp, if_pos rfl, pk_us, pk_un (by omega)]
    exact ⟨rfl, rfl⟩
  · rw [gd_setn e, if_neg e]
    exact ⟨rfl, rfl⟩
theorem OS.sB {P T G Lg : List rw_} {p : Nat} {v : Int32} (o : OS P T G Lg) (hp : p < 10) (hv : okN 101 v) : OS (sPb P p v) T G Lg := by
  have hl := o.1
  refine ⟨by unfold sPb; rw [List.length_set]; exact hl, fun i hi => ?_, o.2.2⟩
  have h := sPb_at (i := i) (v := v) (show p < P.length by omega)
  rw [h.1, h.2]
  refine ⟨(o.2.1 i hi).1, ?_⟩
  split
  · exact hv
  · exact (o.2.1 i hi).2
theorem MS.sB {al : Nat → Int32} {P T G Lg : List rw_} {gi di re ti v : Int32} {p : Nat} (o : OS P T G Lg) (m : MS al P T G Lg gi di re ti) (hp : p < 10) : MS (upd al (18 + p) v) (sPb P p v) T G Lg gi di re ti := by
  have hl := o.1
  refine ⟨fun i hi => ?_, m.2.1.c o.2.2.1.2.1 (pk_un (by omega)) (fun i h1 h2 => pk_un (by omega)), m.2.2.1.c o.2.2.1.1 (pk_un (by omega)) (fun i h1 h2 => pk_un (by omega)), m.2.2.2.1.c o.2.2.2 (pk_un (by omega)) (fun i h1 h2 => pk_un (by omega)), m.2.2.2.2.c (fun i hi => pk_un (by omega))⟩
  have h := sPb_at (i := i) (v := v) (show p < P.length by omega)
  rw [h.1, h.2]
  refine ⟨by rw [pk_un (by omega)]; exact (m.1 i hi).1, ?_⟩
  by_cases e : i = p
  · rw [if_pos e, e, pk_us]
  · rw [if_neg e, pk_un (by omega)]
    exact (m.1 i hi).2
theorem m_exch {al sv sv' : Nat → Int32} {sm sm' v : Int32} {k : Nat} (hk : k < 320) (h : f_X6_save al sv sm = some (sv', sm')) : f_X6_exchange (nI k) v al sv sm = some (al k, upd al k v, sv', sm') := by
  unfold f_X6_exchange
  rw [h, bd2_some, n_ix hk (by omega), n_cl (by omega), nm_eq, n_ix hk (by omega), nm_eq]
theorem ok8 {x : Int32} (h : ¬ btw x 0 7 = 0) : okN 8 x := by
  obtain ⟨j, hj, e⟩ := b_nI (n := 7) (by decide) h
  rw [e]
  exact okN_nI (by omega) (by omega)
theorem ok101 {x : Int32} (h : ¬ btw x 0 100 = 0) : okN 101 x := by
  obtain ⟨j, hj, e⟩ := b_nI (n := 100) (by decide) h
  rw [e]
  exact okN_nI (by omega) (by omega)
theorem w_addThing {rP rT rG rL rH gi di re ti rB cn sm tl : Int32} {fP fT fG fL fH fB al sv txt : Nat → Int32} {ro : Nat} {Qh : Nat → HS} (h : LI rP fP rT fT rG fG rL fL rH fH gi di re ti rB fB cn ro Qh al sv sm txt tl) (x1 x2 th : Int32) (fo : Nat → Int64) : ∃ (k b rT' : Int32) (fT' : Nat → Int32) (rH' : Int32) (fH' : Nat → Int32) (cn' : Int32) (ro' : Nat) (Q' : Nat → HS) (fo' : Nat → Int64) (al' sv' : Nat → Int32) (sm' : Int32), f_L_addThing x1 x2 rP fP rT fT rG fG rL fL rH fH gi di re ti cn ro Qh fo = some (k, rT', fT', rH', fH', cn', ro', Q', fo') ∧ f_X6_addThing x1 x2 al sv sm th = some (b, al', sv', sm', k) ∧ (k = 0 → fo' 0 = b.toInt64) ∧ LI rP fP rT' fT' rG fG rL fL rH' fH' gi di re ti rB fB cn' ro' Q' al' sv' sm' txt tl := by
  obtain ⟨⟨P, T, G, Lg, gi0, di0, re0, ti0⟩, m, Sf, n, o, ⟨c, e1, e2, e3, e4⟩, ms, hr, tx⟩ := h
  have e1 : gi = gi0 := e1
  have e2 : di = di0 := e2
  have e3 : re = re0 := e3
  have e4 : ti = ti0 := e4
  subst e1 e2 e3 e4
  have o : OS P T G Lg := o
  have c : CS rP fP rT fT rG fG rL fL rH fH P T G Lg := c
  have ms : MS al P T G Lg gi di re ti := ms
  have hT := o.2.2.1.2.1
  have hG := o.2.2.1.1
  have a4 : al (4 : Int32).toNatClampNeg = nI T.length := ms.2.1.1
  have ei : f_X6_in x2.toInt64 (0 : Int64) (7 : Int64) = some (btw x2 0 7) := m_in x2 0 7
  have ef : f_X3_isFull (8 : Int32) rT = some (if (8 : Int32) ≤ nI T.length then 1 else 0) := by
    unfold f_X3_isFull
    rw [c.2.1.2.1.1]
    by_cases z : T.length < 8
    · rw [if_pos (show nI T.length < (8 : Int32) from q_lt (b := 8) (by omega) (by omega) z), if_neg (show ¬ (8 : Int32) ≤ nI T.length from q_nle (a := 8) (by omega) (by omega) z)]
    · rw [if_neg (show ¬ nI T.length < (8 : Int32) from q_nlt (b := 8) (by omega) (by omega) (by omega)), if_pos (show (8 : Int32) ≤ nI T.length from q_le (a := 8) (by omega) (by omega) (by omega))]
  unfold f_L_addThing f_X5_addThing f_X6_addThing
  rw [c_reqP, m_isPer, bd_some, c_reqM, ei, bd_some, ix4, a4, ef, bd_some]
  by_cases h1 : btw x1 0 9 = 0
  · rw [if_pos h1, bx_l, bx_l, if_pos rfl]
    refine ⟨1, 0, rT, fT, rH, fH, cn, ro, Qh, fo, al, sv, sm, rfl, ?_, o_no n10, ⟨(P, T, G, Lg, gi, di, re, ti), m, Sf, n, o, ⟨c, rfl, rfl, rfl, rfl⟩, ms, hr, tx⟩⟩
    rw [g_1 h1, g_1 h1, bd2_some, if_pos rfl]
    split <;> rfl
  · rw [if_neg h1, bx_r]
    by_cases h2 : btw x2 0 7 = 0
    · rw [if_pos h2, bx_l, bx_l, if_neg s_ai, if_pos rfl]
      refine ⟨2, 0, rT, fT, rH, fH, cn, ro, Qh, fo, al, sv, sm, rfl, ?_, o_no n20, ⟨(P, T, G, Lg, gi, di, re, ti), m, Sf, n, o, ⟨c, rfl, rfl, rfl, rfl⟩, ms, hr, tx⟩⟩
      rw [g_2 h1 h2, g_2 h1 h2, bd2_some, if_pos rfl]
      split <;> rfl
    · rw [if_neg h2, bx_r]
      by_cases h3 : T.length < 8
      · have x3 : ¬ (8 : Int32) ≤ nI T.length := q_nle (a := 8) (by omega) (by omega) h3
        obtain ⟨p, hp, ep⟩ := b_per h1
        obtain ⟨cn', ro', Q', sv', sm', m', Sf', k1, k2, k3⟩ := j_keep (fP := fP) (fT := fT) (fG := fG) (fL := fL) (fH := fH) (rP := rP) (rT := rT) (rG := rG) (rL := rL) (rH := rH) (gi := gi) (di := di) (re := re) (ti := ti) hr (s := (P, T, G, Lg, gi, di, re, ti)) o ⟨c, rfl, rfl, rfl, rfl⟩ ms
        obtain ⟨aT, aH, t1, t2⟩ := c_takeIn (x := x1) (y := x2) o c h3 (by rw [ep]; exact okN_nI hp (by omega)) (ok8 h2)
        have o2 : OS P (T ++ [g2 x1 x2]) G Lg := ⟨o.1, o.2.1, o.2.2.1.addT h3 (by rw [ep]; exact okN_nI hp (by omega)) (ok8 h2), o.2.2.2⟩
        have e28 := e_28 T.length
        have e29 : nI (28 + 2 * T.length) + (1 : Int32) = nI (28 + 2 * T.length + 1) := n_at
        have c4 : (4 : Int32).toNatClampNeg = 4 := by decide
        have ek : nI T.length + (1 : Int32) = nI (T.length + 1) := n_at
        have a4' : upd (upd al (28 + 2 * T.length) x1) (28 + 2 * T.length + 1) x2 (4 : Int32).toNatClampNeg = nI T.length := by rw [c4, pk_un (by omega), pk_un (by omega)]; exact ms.2.1.1
        have m2 : MS (upd (upd (upd al (28 + 2 * T.length) x1) (28 + 2 * T.length + 1) x2) 4 (nI (T.length + 1))) P (T ++ [g2 x1 x2]) G Lg gi di re ti := by
          refine ⟨ms.1.c (fun i h1 h2 => by rw [pk_un (by omega), pk_un (by omega), pk_un (by omega)]), ⟨by rw [pk_us, List.length_append]; rfl, fun i j hi hj => ?_⟩, ms.2.2.1.c hG (by rw [pk_un (by omega), pk_un (by omega), pk_un (by omega)]) (fun i h1 h2 => by rw [pk_un (by omega), pk_un (by omega), pk_un (by omega)]), ms.2.2.2.1.c o.2.2.2 (by rw [pk_un (by omega), pk_un (by omega), pk_un (by omega)]) (fun i h1 h2 => by rw [pk_un (by omega), pk_un (by omega), pk_un (by omega)]), ms.2.2.2.2.c (fun i hi => by rw [pk_un (by omega), pk_un (by omega), pk_un (by omega)])⟩
          rw [List.length_append] at hi
          have hi : i < T.length + 1 := hi
          rw [pk_un (by omega)]
          by_cases e : i = T.length
          · rw [e, gd_mid]
            have hj : j = 0 ∨ j = 1 := by omega
            rcases hj with ej | ej
            · rw [ej, pk_un (by omega), Nat.add_zero, pk_us]
              rfl
            · rw [ej, pk_us]
              rfl
          · rw [gd_app (by omega), pk_un (by omega), pk_un (by omega)]
            exact ms.2.1.2 i j (by omega) hj
        rw [if_neg x3, if_neg x3, if_pos rfl, k1, bd3_some, t1, bd5_some, bx_r, o_set, g_0 h1 h2 n10, bd2_some, if_neg n10, k2, bd2_some, ix4, nm_eq, e28, n_ix (by omega) (by omega), nm_eq, e29, n_ix (by omega) (by omega), nm_eq, n_cl (by omega), n_cl (by omega), ix4, a4', nm_eq, ix4, nm_eq, c4, ek]
        exact ⟨0, _, _, _, _, _, _, _, _, _, _, _, _, rfl, rfl, o_at, ⟨(P, T ++ [g2 x1 x2], G, Lg, gi, di, re, ti), m', Sf', n, o2, ⟨t2, rfl, rfl, rfl, rfl⟩, m2, k3, tx⟩⟩
      · have x3 : (8 : Int32) ≤ nI T.length := q_le (a := 8) (by omega) (by omega) (by omega)
        rw [if_pos x3, if_pos x3, if_neg n10, bx_l, if_neg s_si, if_neg s_sa, if_pos rfl, g_3 h1 h2 rfl, bd2_some, if_pos rfl]
        exact ⟨3, 0, rT, fT, rH, fH, cn, ro, Qh, fo, al, sv, sm, rfl, rfl, o_no n30, ⟨(P, T, G, Lg, gi, di, re, ti), m, Sf, n, o, ⟨c, rfl, rfl, rfl, rfl⟩, ms, hr, tx⟩⟩
theorem w_setMask {rP rT rG rL rH gi di re ti rB cn sm tl : Int32} {fP fT fG fL fH fB al sv txt : Nat → Int32} {ro : Nat} {Qh : Nat → HS} (h : LI rP fP rT fT rG fG rL fL rH fH gi di re ti rB fB cn ro Qh al sv sm txt tl) (x1 x2 th : Int32) (fo : Nat → Int64) : ∃ (k b : Int32) (fT' fH' : Nat → Int32) (cn' : Int32) (ro' : Nat) (Q' : Nat → HS) (fo' : Nat → Int64) (al' sv' : Nat → Int32) (sm' : Int32), f_L_setMask x1 x2 rP fP rT fT rG fG rL fL rH fH gi di re ti cn ro Qh fo = some (k, fT', fH', cn', ro', Q', fo') ∧ f_X6_setMask x1 x2 al sv sm th = some (b, al', sv', sm', k) ∧ (k = 0 → fo' 0 = b.toInt64) ∧ LI rP fP rT fT' rG fG rL fL rH fH' gi di re ti rB fB cn' ro' Q' al' sv' sm' txt tl := by
  obtain ⟨⟨P, T, G, Lg, gi0, di0, re0, ti0⟩, m, Sf, n, o, ⟨c, e1, e2, e3, e4⟩, ms, hr, tx⟩ := h
  have e1 : gi = gi0 := e1
  have e2 : di = di0 := e2
  have e3 : re = re0 := e3
  have e4 : ti = ti0 := e4
  subst e1 e2 e3 e4
  have o : OS P T G Lg := o
  have c : CS rP fP rT fT rG fG rL fL rH fH P T G Lg := c
  have ms : MS al P T G Lg gi di re ti := ms
  have hT := o.2.2.1.2.1
  have hG := o.2.2.1.1
  have ei : f_X6_in x2.toInt64 (0 : Int64) (7 : Int64) = some (btw x2 0 7) := m_in x2 0 7
  unfold f_L_setMask f_X5_setMask f_X6_setMask
  rw [c_reqT x1 c.2.1.2.1, m_isThing ms.2.1 hT, bd_some, c_reqM, ei, bd_some]
  by_cases h1 : hs_ x1 T.length = 0
  · rw [if_pos h1, bx_l, bx_l, if_pos rfl, g_1 h1, bd2_some, if_pos rfl]
    exact ⟨1, 0, fT, fH, cn, ro, Qh, fo, al, sv, sm, rfl, rfl, o_no n10, ⟨(P, T, G, Lg, gi, di, re, ti), m, Sf, n, o, ⟨c, rfl, rfl, rfl, rfl⟩, ms, hr, tx⟩⟩
  · rw [if_neg h1, bx_r]
    by_cases h2 : btw x2 0 7 = 0
    · rw [if_pos h2, bx_l, bx_l, if_neg s_ai, if_pos rfl, g_2 h1 h2, bd2_some, if_pos rfl]
      exact ⟨2, 0, fT, fH, cn, ro, Qh, fo, al, sv, sm, rfl, rfl, o_no n20, ⟨(P, T, G, Lg, gi, di, re, ti), m, Sf, n, o, ⟨c, rfl, rfl, rfl, rfl⟩, ms, hr, tx⟩⟩
    · obtain ⟨t, ht, et⟩ := hs_t (by omega) h1
      obtain ⟨cn', ro', Q', sv', sm', m', Sf', k1, k2, k3⟩ := j_keep (fP := fP) (fT := fT) (fG := fG) (fL := fL) (fH := fH) (rP := rP) (rT := rT) (rG := rG) (rL := rL) (rH := rH) (gi := gi) (di := di) (re := re) (ti := ti) hr (s := (P, T, G, Lg, gi, di, re, ti)) o ⟨c, rfl, rfl, rfl, rfl⟩ ms
      have hk : okT (upd (T.getD t z_) 1 x2) := ⟨by rw [pk_un (by omega)]; exact (o.2.2.1.2.2.2 t ht).1, by rw [pk_us]; exact ok8 h2⟩
      obtain ⟨aT, aH, t1, t2⟩ := c_change (v := x2) o c ht (show 1 < 2 by omega) hk
      have t1 : f_X2_changeThing (nI t) (1 : Int32) x2 rT fT rG fG rH fH = some (T.getD t z_ 1, aT, aH) := t1
      have ea : (28 : Int32) + (2 : Int32) * x1 + (1 : Int32) = nI (28 + 2 * t + 1) := by rw [et, e_28]; exact n_at
      have o2 := o.setT ht hk
      have m2 := ms.setT (v := x2) o ht (show 1 < 2 by omega)
      rw [← et] at t1
      rw [if_neg h2, bx_r, k1, bd3_some, t1, bd3_some, bx_r, o_set, g_0 h1 h2 n10, bd2_some, if_neg n10, ea, m_exch (by omega) k2, bd4_some, (ms.2.1.at ht hT).2]
      exact ⟨0, _, _, _, _, _, _, _, _, _, _, rfl, rfl, o_at, ⟨(P, T.set t (upd (T.getD t z_) 1 x2), G, Lg, gi, di, re, ti), m', Sf', n, o2, ⟨t2, rfl, rfl, rfl, rfl⟩, m2, k3, tx⟩⟩
theorem w_give {rP rT rG rL rH gi di re ti rB cn sm tl : Int32} {fP fT fG fL fH fB al sv txt : Nat → Int32} {ro : Nat} {Qh : Nat → HS} (h : LI rP fP rT fT rG fG rL fL rH fH gi di re ti rB fB cn ro Qh al sv sm txt tl) (x1 x2 th : Int32) (fo : Nat → Int64) : ∃ (k b : Int32) (fT' fH' : Nat → Int32) (cn' : Int32) (ro' : Nat) (Q' : Nat → HS) (fo' : Nat → Int64) (al' sv' : Nat → Int32) (sm' : Int32), f_L_give x1 x2 rP fP rT fT rG fG rL fL rH fH gi di re ti cn ro Qh fo = some (k, fT', fH', cn', ro', Q', fo') ∧ f_X6_give x1 x2 al sv sm th = some (b, al', sv', sm', k) ∧ (k = 0 → fo' 0 = b.toInt64) ∧ LI rP fP rT fT' rG fG rL fL rH fH' gi di re ti rB fB cn' ro' Q' al' sv' sm' txt tl := by
  obtain ⟨⟨P, T, G, Lg, gi0, di0, re0, ti0⟩, m, Sf, n, o, ⟨c, e1, e2, e3, e4⟩, ms, hr, tx⟩ := h
  have e1 : gi = gi0 := e1
  have e2 : di = di0 := e2
  have e3 : re = re0 := e3
  have e4 : ti = ti0 := e4
  subst e1 e2 e3 e4
  have o : OS P T G Lg := o
  have c : CS rP fP rT fT rG fG rL fL rH fH P T G Lg := c
  have ms : MS al P T G Lg gi di re ti := ms
  have hT := o.2.2.1.2.1
  have hG := o.2.2.1.1
  unfold f_L_give f_X5_give f_X6_give
  rw [c_reqP, c_reqT x1 c.2.1.2.1, m_isThing ms.2.1 hT, bd_some, m_isPer, bd_some]
  by_cases h1 : btw x2 0 9 = 0
  · rw [if_pos h1, if_pos h1, bx_l, bx_l, if_pos rfl]
    refine ⟨1, 0, fT, fH, cn, ro, Qh, fo, al, sv, sm, rfl, ?_, o_no n10, ⟨(P, T, G, Lg, gi, di, re, ti), m, Sf, n, o, ⟨c, rfl, rfl, rfl, rfl⟩, ms, hr, tx⟩⟩
    rw [g_1 rfl, bd2_some, if_pos rfl]
    split <;> rfl
  · rw [if_neg h1, if_neg h1, bx_r]
    by_cases h2 : hs_ x1 T.length = 0
    · rw [if_pos h2, if_pos h2, bx_l, bx_l, if_pos rfl, g_1 rfl, bd2_some, if_pos rfl]
      exact ⟨1, 0, fT, fH, cn, ro, Qh, fo, al, sv, sm, rfl, rfl, o_no n10, ⟨(P, T, G, Lg, gi, di, re, ti), m, Sf, n, o, ⟨c, rfl, rfl, rfl, rfl⟩, ms, hr, tx⟩⟩
    · obtain ⟨t, ht, et⟩ := hs_t (by omega) h2
      obtain ⟨p, hp, ep⟩ := b_per h1
      obtain ⟨cn', ro', Q', sv', sm', m', Sf', k1, k2, k3⟩ := j_keep (fP := fP) (fT := fT) (fG := fG) (fL := fL) (fH := fH) (rP := rP) (rT := rT) (rG := rG) (rL := rL) (rH := rH) (gi := gi) (di := di) (re := re) (ti := ti) hr (s := (P, T, G, Lg, gi, di, re, ti)) o ⟨c, rfl, rfl, rfl, rfl⟩ ms
      have hk : okT (upd (T.getD t z_) 0 x2) := ⟨by rw [pk_us, ep]; exact okN_nI hp (by omega), by rw [pk_un (by omega)]; exact (o.2.2.1.2.2.2 t ht).2⟩
      obtain ⟨aT, aH, t1, t2⟩ := c_change (v := x2) o c ht (show 0 < 2 by omega) hk
      have t1 : f_X2_changeThing (nI t) (0 : Int32) x2 rT fT rG fG rH fH = some (T.getD t z_ 0, aT, aH) := t1
      have ea : (28 : Int32) + (2 : Int32) * x1 = nI (28 + 2 * t) := by rw [et, e_28]
      have o2 := o.setT ht hk
      have m2 := ms.setT (v := x2) o ht (show 0 < 2 by omega)
      rw [Nat.add_zero] at m2
      rw [← et] at t1
      rw [if_neg h2, if_neg h2, bx_r, k1, bd3_some, t1, bd3_some, bx_r, o_set, g_0 n10 n10 n10, bd2_some, if_neg n10, ea, m_exch (by omega) k2, bd4_some, (ms.2.1.at ht hT).1]
      exact ⟨0, _, _, _, _, _, _, _, _, _, _, rfl, rfl, o_at, ⟨(P, T.set t (upd (T.getD t z_) 0 x2), G, Lg, gi, di, re, ti), m', Sf', n, o2, ⟨t2, rfl, rfl, rfl, rfl⟩, m2, k3, tx⟩⟩
theorem w_setBase {rP rT rG rL rH gi di re ti rB cn sm tl : Int32} {fP fT fG fL fH fB al sv txt : Nat → Int32} {ro : Nat} {Qh : Nat → HS} (h : LI rP fP rT fT rG fG rL fL rH fH gi di re ti rB fB cn ro Qh al sv sm txt tl) (x1 x2 th : Int32) (fo : Nat → Int64) : ∃ (k b : Int32) (fP' : Nat → Int32) (cn' : Int32) (ro' : Nat) (Q' : Nat → HS) (fo' : Nat → Int64) (al' sv' : Nat → Int32) (sm' : Int32), f_L_setBase x1 x2 rP fP rT fT rG fG rL fL rH fH gi di re ti cn ro Qh fo = some (k, fP', cn', ro', Q', fo') ∧ f_X6_setBase x1 x2 al sv sm th = some (b, al', sv', sm', k) ∧ (k = 0 → fo' 0 = b.toInt64) ∧ LI rP fP' rT fT rG fG rL fL rH fH gi di re ti rB fB cn' ro' Q' al' sv' sm' txt tl := by
  obtain ⟨⟨P, T, G, Lg, gi0, di0, re0, ti0⟩, m, Sf, n, o, ⟨c, e1, e2, e3, e4⟩, ms, hr, tx⟩ := h
  have e1 : gi = gi0 := e1
  have e2 : di = di0 := e2
  have e3 : re = re0 := e3
  have e4 : ti = ti0 := e4
  subst e1 e2 e3 e4
  have o : OS P T G Lg := o
  have c : CS rP fP rT fT rG fG rL fL rH fH P T G Lg := c
  have ms : MS al P T G Lg gi di re ti := ms
  have hT := o.2.2.1.2.1
  have hG := o.2.2.1.1
  have ei : f_X6_in x2.toInt64 (0 : Int64) (100 : Int64) = some (btw x2 0 100) := m_in x2 0 100
  unfold f_L_setBase f_X5_setBase f_X6_setBase
  rw [c_reqP, m_isPer, bd_some, c_reqR, ei, bd_some]
  by_cases h1 : btw x1 0 9 = 0
  · rw [if_pos h1, bx_l, bx_l, if_pos rfl, g_1 h1, bd2_some, if_pos rfl]
    exact ⟨1, 0, fP, cn, ro, Qh, fo, al, sv, sm, rfl, rfl, o_no n10, ⟨(P, T, G, Lg, gi, di, re, ti), m, Sf, n, o, ⟨c, rfl, rfl, rfl, rfl⟩, ms, hr, tx⟩⟩
  · rw [if_neg h1, bx_r]
    by_cases h2 : btw x2 0 100 = 0
    · rw [if_pos h2, bx_l, bx_l, if_neg s_ai, if_pos rfl, g_2 h1 h2, bd2_some, if_pos rfl]
      exact ⟨2, 0, fP, cn, ro, Qh, fo, al, sv, sm, rfl, rfl, o_no n20, ⟨(P, T, G, Lg, gi, di, re, ti), m, Sf, n, o, ⟨c, rfl, rfl, rfl, rfl⟩, ms, hr, tx⟩⟩
    · obtain ⟨p, hp, ep⟩ := b_per h1
      obtain ⟨cn', ro', Q', sv', sm', m', Sf', k1, k2, k3⟩ := j_keep (fP := fP) (fT := fT) (fG := fG) (fL := fL) (fH := fH) (rP := rP) (rT := rT) (rG := rG) (rL := rL) (rH := rH) (gi := gi) (di := di) (re := re) (ti := ti) hr (s := (P, T, G, Lg, gi, di, re, ti)) o ⟨c, rfl, rfl, rfl, rfl⟩ ms
      have hl := o.1
      have u1 := c.1.put (lim := 10) (n := 20) (R := p) (C := 1) (v := x2) (by omega) (by omega) (by omega) (by omega) (by omega) (by omega) (by omega)
      have u2 : f_X3_put (2 : Int32) 20 (nI p) (1 : Int32) x2 rP fP = some (upd fP (p * 2 + 1) x2) := u1.1
      have u3 : RT 2 rP (upd fP (p * 2 + 1) x2) (sPb P p x2) := u1.2
      have v1 := c.1.bs hl hp
      have ea : (18 : Int32) + x1 = nI (18 + p) := by rw [ep, e_18]
      have o2 := o.sB hp (ok101 h2)
      have m2 := ms.sB (v := x2) o hp
      have c2 : CS rP (upd fP (p * 2 + 1) x2) rT fT rG fG rL fL rH fH (sPb P p x2) T G Lg := ⟨u3, c.2⟩
      rw [← ep] at u2 v1
      rw [if_neg h2, bx_r, k1, bd3_some, v1, bd_some, u2, bd_some, bx_r, o_set, g_0 h1 h2 n10, bd2_some, if_neg n10, ea, m_exch (by omega) k2, bd4_some, (ms.1 p hp).2]
      exact ⟨0, _, _, _, _, _, _, _, _, _, rfl, rfl, o_at, ⟨(sPb P p x2, T, G, Lg, gi, di, re, ti), m', Sf', n, o2, ⟨c2, rfl, rfl, rfl, rfl⟩, m2, k3, tx⟩⟩
theorem w_grant {rP rT rG rL rH gi di re ti rB cn sm tl : Int32} {fP fT fG fL fH fB al sv txt : Nat → Int32} {ro : Nat} {Qh : Nat → HS} (h : LI rP fP rT fT rG fG rL fL rH fH gi di re ti rB fB cn ro Qh al sv sm txt tl) (x1 x2 x3 x4 x5 th : Int32) (ho : Nat → Int32) (fo : Nat → Int64) : ∃ (k b rG' : Int32) (fG' fH' : Nat → Int32) (gi' cn' : Int32) (ro' : Nat) (Q' : Nat → HS) (fo' : Nat → Int64) (al' sv' : Nat → Int32) (sm' : Int32) (ho' : Nat → Int32), f_L_grant x1 x2 x3 x4 x5 rP fP rT fT rG fG rL fL rH fH gi di re ti cn ro Qh fo = some (k, rG', fG', fH', gi', cn', ro', Q', fo') ∧ f_X6_grant x1 x2 x3 x4 x5 al sv sm th ho = some (b, al', sv', sm', k, ho') ∧ (k = 0 → fo' 0 = b.toInt64) ∧ LI rP fP rT fT rG' fG' rL fL rH fH' gi' di re ti rB fB cn' ro' Q' al' sv' sm' txt tl := by
  obtain ⟨⟨P, T, G, Lg, gi0, di0, re0, ti0⟩, m, Sf, n, o, ⟨c, e1, e2, e3, e4⟩, ms, hr, tx⟩ := h
  have e1 : gi = gi0 := e1
  have e2 : di = di0 := e2
  have e3 : re = re0 := e3
  have e4 : ti = ti0 := e4
  subst e1 e2 e3 e4
  have o : OS P T G Lg := o
  have c : CS rP fP rT fT rG fG rL fL rH fH P T G Lg := c
  have ms : MS al P T G Lg gi di re ti := ms
  have hT := o.2.2.1.2.1
  have hG := o.2.2.1.1
  obtain ⟨ap, ig, f1, f2, f3⟩ := j_fault o c ms x1 x2 x3 x4 x5
  have n1 : ∀ z : Option (Int32 × (Nat → Int32) × (Nat → Int32) × Int32 × Int32 × (Nat → Int32)), ix (1 : Int32) 320 z = z := fun z => ixo z (by decide)
  unfold f_L_grant f_X5_grant f_X6_grant
  rw [f1, bd_some, f2, bd_some]
  rcases f3 with ⟨h1, hf⟩ | ⟨h1, p, b, t, hp, hb, ht, e1, e2, e3, ⟨h2, hf⟩ | ⟨h2, h4, h5, hf⟩⟩
  · rw [hf, bd_some, c_fit, if_pos rfl, bx_l, bx_l, if_pos rfl, if_pos h1, g_1 h1, bd2_some, if_pos rfl]
    exact ⟨1, 0, rG, fG, fH, gi, cn, ro, Qh, fo, al, sv, sm, ho, rfl, rfl, o_no n10, ⟨(P, T, G, Lg, gi, di, re, ti), m, Sf, n, o, ⟨c, rfl, rfl, rfl, rfl⟩, ms, hr, tx⟩⟩
  · rw [hf, bd_some, c_fit, if_neg (show ¬ (2 : Int32) = 1 by decide), if_pos rfl, bx_l, bx_l, if_neg s_ai, if_pos rfl, if_neg h1, if_pos h2, g_2 h1 h2, bd2_some, if_pos rfl]
    exact ⟨2, 0, rG, fG, fH, gi, cn, ro, Qh, fo, al, sv, sm, ho, rfl, rfl, o_no n20, ⟨(P, T, G, Lg, gi, di, re, ti), m, Sf, n, o, ⟨c, rfl, rfl, rfl, rfl⟩, ms, hr, tx⟩⟩
  · obtain ⟨h', my⟩ := m_may (x4 := x4) (x5 := x5) ho o ms hp ht
    rw [← e1, ← e3] at my
    rw [hf, bd_some, if_neg h1, if_neg h2, my, bd2_some]
    by_cases ha : alw P T G p t x4 x5 = 0
    · rw [if_pos ha, if_pos ha, c_fit, if_neg (show ¬ (3 : Int32) = 1 by decide), if_neg (show ¬ (3 : Int32) = 2 by decide), bx_r, if_pos rfl, bx_l, if_neg s_si, if_neg s_sa, if_pos rfl, g_3 h1 h2 rfl, bd2_some, if_pos rfl]
      exact ⟨3, 0, rG, fG, fH, gi, cn, ro, Qh, fo, al, sv, sm, h', rfl, rfl, o_no n30, ⟨(P, T, G, Lg, gi, di, re, ti), m, Sf, n, o, ⟨c, rfl, rfl, rfl, rfl⟩, ms, hr, tx⟩⟩
    · obtain ⟨cn', ro', Q', sv', sm', m', Sf', k1, k2, k3⟩ := j_keep (fP := fP) (fT := fT) (fG := fG) (fL := fL) (fH := fH) (rP := rP) (rT := rT) (rG := rG) (rL := rL) (rH := rH) (gi := gi) (di := di) (re := re) (ti := ti) hr (s := (P, T, G, Lg, gi, di, re, ti)) o ⟨c, rfl, rfl, rfl, rfl⟩ ms
      obtain ⟨aG, aH, b', l1, l2, l3, o2, c2, m2⟩ := j_lend o c ms hp hb ht h4 h5 ha
      have c1 : (1 : Int32).toNatClampNeg = 1 := by decide
      have eg : gi + 1 - 1 = gi := by rw [Int32.sub_eq_add_neg, Int32.add_assoc, ← Int32.sub_eq_add_neg]; exact Int32.add_zero gi
      rw [← e1, ← e2, ← e3] at l1 l2
      rw [if_neg ha, if_neg ha, c_fit, if_neg (show ¬ (0 : Int32) = 1 by decide), if_neg (show ¬ (0 : Int32) = 2 by decide), bx_r, if_neg (show ¬ (0 : Int32) = 3 by decide), k1, bd3_some, l1, bd5_some, bx_r, o_set, g_0 h1 h2 n10, bd2_some, if_neg n10, k2, bd2_some, l2, bd_some, n1, nm_eq, c1, l3, eg]
      exact ⟨0, _, _, _, _, _, _, _, _, _, _, _, _, h', rfl, rfl, o_at, ⟨(P, T, G ++ [g6 (nI p) (nI b) (nI t) x4 x5 gi], Lg, gi + 1, di, re, ti), m', Sf', n, o2, ⟨c2, rfl, rfl, rfl, rfl⟩, m2, k3, tx⟩⟩
theorem w_revoke {rP rT rG rL rH gi di re ti rB cn sm tl : Int32} {fP fT fG fL fH fB al sv txt : Nat → Int32} {ro : Nat} {Qh : Nat → HS} (h : LI rP fP rT fT rG fG rL fL rH fH gi di re ti rB fB cn ro Qh al sv sm txt tl) (x1 th : Int32) (ho : Nat → Int32) (fo : Nat → Int64) : ∃ (k b rG' : Int32) (fG' fH' : Nat → Int32) (re' cn' : Int32) (ro' : Nat) (Q' : Nat → HS) (fo' : Nat → Int64) (al' sv' : Nat → Int32) (sm' : Int32) (ho' : Nat → Int32), f_L_revoke x1 rP fP rT fT rG fG rL fL rH fH gi di re ti cn ro Qh fo = some (k, rG', fG', fH', re', cn', ro', Q', fo') ∧ f_X6_revoke x1 al sv sm th ho = some (b, al', sv', sm', k, ho') ∧ (k = 0 → fo' 0 = b.toInt64) ∧ LI rP fP rT fT rG' fG' rL fL rH fH' gi di re' ti rB fB cn' ro' Q' al' sv' sm' txt tl := by
  obtain ⟨⟨P, T, G, Lg, gi0, di0, re0, ti0⟩, m, Sf, n, o, ⟨c, e1, e2, e3, e4⟩, ms, hr, tx⟩ := h
  have e1 : gi = gi0 := e1
  have e2 : di = di0 := e2
  have e3 : re = re0 := e3
  have e4 : ti = ti0 := e4
  subst e1 e2 e3 e4
  have o : OS P T G Lg := o
  have c : CS rP fP rT fT rG fG rL fL rH fH P T G Lg := c
  have ms : MS al P T G Lg gi di re ti := ms
  have hT := o.2.2.1.2.1
  have hG := o.2.2.1.1
  obtain ⟨v, p1, p2, p3⟩ := q_place c.2.1.1 ms.2.2.1 o.2.2.1.1 x1
  unfold f_L_revoke f_X5_revoke f_X6_revoke f_X5_requireGrant
  rw [p1, p2, bd_some, bd_some]
  by_cases h1 : v = -1
  · rw [if_pos h1, if_pos h1, bx_l, bx_l, if_pos rfl, g_1 rfl, bd2_some, if_pos rfl]
    exact ⟨1, 0, rG, fG, fH, re, cn, ro, Qh, fo, al, sv, sm, ho, rfl, rfl, o_no n10, ⟨(P, T, G, Lg, gi, di, re, ti), m, Sf, n, o, ⟨c, rfl, rfl, rfl, rfl⟩, ms, hr, tx⟩⟩
  · rcases p3 with p3 | ⟨i, hi, ev⟩
    · exact absurd p3 h1
    · obtain ⟨cn', ro', Q', sv', sm', m', Sf', k1, k2, k3⟩ := j_keep (fP := fP) (fT := fT) (fG := fG) (fL := fL) (fH := fH) (rP := rP) (rT := rT) (rG := rG) (rL := rL) (rH := rH) (gi := gi) (di := di) (re := re) (ti := ti) hr (s := (P, T, G, Lg, gi, di, re, ti)) o ⟨c, rfl, rfl, rfl, rfl⟩ ms
      obtain ⟨aG, aH, b1, c2⟩ := c_back (re := re) o c hi
      obtain ⟨al', h', d1, m2⟩ := m_back ho o ms hi
      have o2 := o.er hi
      rw [← ev] at b1 d1
      rw [if_neg h1, if_neg h1, bx_r, k1, bd3_some, b1, bd5_some, bx_r, o_set, g_0 n10 n10 n10, bd2_some, if_neg n10, k2, bd2_some, bd_some, d1, bd3_some]
      exact ⟨0, _, _, _, _, _, _, _, _, _, _, _, _, h', rfl, rfl, o_at, ⟨(P, T, G.eraseIdx i, Lg, gi, di, re + 1, ti), m', Sf', n, o2, ⟨c2, rfl, rfl, rfl, rfl⟩, m2, k3, tx⟩⟩
theorem w_cheer {rP rT rG rL rH gi di re ti rB cn sm tl : Int32} {fP fT fG fL fH fB al sv txt : Nat → Int32} {ro : Nat} {Qh : Nat → HS} (h : LI rP fP rT fT rG fG rL fL rH fH gi di re ti rB fB cn ro Qh al sv sm txt tl) (x1 x2 th : Int32) (fo : Nat → Int64) : ∃ (k b : Int32) (fP' : Nat → Int32) (rG' : Int32) (fG' : Nat → Int32) (rL' : Int32) (fL' fH' : Nat → Int32) (di' cn' : Int32) (ro' : Nat) (Q' : Nat → HS) (fo' : Nat → Int64) (al' sv' : Nat → Int32) (sm' : Int32), f_L_cheer x1 x2 rP fP rT fT rG fG rL fL rH fH gi di re ti cn ro Qh fo = some (k, fP', rG', fG', rL', fL', fH', di', cn', ro', Q', fo') ∧ f_X6_cheer x1 x2 al sv sm th = some (b, al', sv', sm', k) ∧ (k = 0 → fo' 0 = b.toInt64) ∧ LI rP fP' rT fT rG' fG' rL' fL' rH fH' gi di' re ti rB fB cn' ro' Q' al' sv' sm' txt tl := by
  obtain ⟨⟨P, T, G, Lg, gi0, di0, re0, ti0⟩, m, Sf, n, o, ⟨c, e1, e2, e3, e4⟩, ms, hr, tx⟩ := h
  have e1 : gi = gi0 := e1
  have e2 : di = di0 := e2
  have e3 : re = re0 := e3
  have e4 : ti = ti0 := e4
  subst e1 e2 e3 e4
  have o : OS P T G Lg := o
  have c : CS rP fP rT fT rG fG rL fL rH fH P T G Lg := c
  have ms : MS al P T G Lg gi di re ti := ms
  have hT := o.2.2.1.2.1
  have hG := o.2.2.1.1
  have ei : f_X6_in x2.toInt64 (-100 : Int64) (100 : Int64) = some (btw x2 (-100) 100) := m_in x2 (-100) 100
  unfold f_L_cheer f_X5_cheer f_X6_cheer
  rw [c_reqP, m_isPer, bd_some, c_reqR, ei, bd_some]
  by_cases h1 : btw x1 0 9 = 0
  · rw [if_pos h1, bx_l, bx_l, if_pos rfl, g_1 h1, bd2_some, if_pos rfl]
    exact ⟨1, 0, fP, rG, fG, rL, fL, fH, di, cn, ro, Qh, fo, al, sv, sm, rfl, rfl, o_no n10, ⟨(P, T, G, Lg, gi, di, re, ti), m, Sf, n, o, ⟨c, rfl, rfl, rfl, rfl⟩, ms, hr, tx⟩⟩
  · rw [if_neg h1, bx_r]
    by_cases h2 : btw x2 (-100) 100 = 0
    · rw [if_pos h2, bx_l, bx_l, if_neg s_ai, if_pos rfl, g_2 h1 h2, bd2_some, if_pos rfl]
      exact ⟨2, 0, fP, rG, fG, rL, fL, fH, di, cn, ro, Qh, fo, al, sv, sm, rfl, rfl, o_no n20, ⟨(P, T, G, Lg, gi, di, re, ti), m, Sf, n, o, ⟨c, rfl, rfl, rfl, rfl⟩, ms, hr, tx⟩⟩
    · obtain ⟨p, hp, ep⟩ := b_per h1
      obtain ⟨cn', ro', Q', sv', sm', m', Sf', k1, k2, k3⟩ := j_keep (fP := fP) (fT := fT) (fG := fG) (fL := fL) (fH := fH) (rP := rP) (rT := rT) (rG := rG) (rL := rL) (rH := rH) (gi := gi) (di := di) (re := re) (ti := ti) hr (s := (P, T, G, Lg, gi, di, re, ti)) o ⟨c, rfl, rfl, rfl, rfl⟩ ms
      have hl := o.1
      obtain ⟨v, rG', rL', aP, aG, aL, aH, ev, b1, c2⟩ := c_mood (di := di) (ti := ti) (a := x2) o c hp
      obtain ⟨al', d1, m2⟩ := m_cheers o ms hp ev
      have o2 := (o.sP hp (v := v) (by rw [ev]; exact clv_ok _)).die (ti := ti)
      have hv : al' (8 + p) = v := by
        rw [(m2.1 p hp).1, (sPm_at (i := p) (v := v) (show p < P.length by omega)).1, if_pos rfl]
      have e8 : (8 : Int32) + x1 = nI (8 + p) := by rw [ep, e_8]
      rw [← ep] at b1 d1
      rw [if_neg h2, bx_r, k1, bd3_some, b1, bd8_some, bx_r, o_set, g_0 h1 h2 n10, bd2_some, if_neg n10, k2, bd2_some, d1, bd_some, e8, n_ix (by omega) (by omega), n_cl (by omega), nm_eq, hv]
      exact ⟨0, _, _, _, _, _, _, _, _, _, _, _, _, _, _, _, rfl, rfl, o_at, ⟨(sPm P p v, T, kept (sPm P p v) G, bur (sPm P p v) ti G Lg, gi, di + nI (ndy (sPm P p v) G), re, ti), m', Sf', n, o2, ⟨c2, rfl, rfl, rfl, rfl⟩, m2, k3, tx⟩⟩
theorem w_pass {rP rT rG rL rH gi di re ti rB cn sm tl : Int32} {fP fT fG fL fH fB al sv txt : Nat → Int32} {ro : Nat} {Qh : Nat → HS} (h : LI rP fP rT fT rG fG rL fL rH fH gi di re ti rB fB cn ro Qh al sv sm txt tl) (x1 th : Int32) (fo : Nat → Int64) : ∃ (k b : Int32) (fP' : Nat → Int32) (rG' : Int32) (fG' : Nat → Int32) (rL' : Int32) (fL' fH' : Nat → Int32) (di' ti' cn' : Int32) (ro' : Nat) (Q' : Nat → HS) (fo' : Nat → Int64) (al' sv' : Nat → Int32) (sm' : Int32), f_L_pass x1 rP fP rT fT rG fG rL fL rH fH gi di re ti cn ro Qh fo = some (k, fP', rG', fG', rL', fL', fH', di', ti', cn', ro', Q', fo') ∧ f_X6_pass x1 al sv sm th = some (b, al', sv', sm', k) ∧ (k = 0 → fo' 0 = b.toInt64) ∧ LI rP fP' rT fT rG' fG' rL' fL' rH fH' gi di' re ti' rB fB cn' ro' Q' al' sv' sm' txt tl := by
  obtain ⟨⟨P, T, G, Lg, gi0, di0, re0, ti0⟩, m, Sf, n, o, ⟨c, e1, e2, e3, e4⟩, ms, hr, tx⟩ := h
  have e1 : gi = gi0 := e1
  have e2 : di = di0 := e2
  have e3 : re = re0 := e3
  have e4 : ti = ti0 := e4
  subst e1 e2 e3 e4
  have o : OS P T G Lg := o
  have c : CS rP fP rT fT rG fG rL fL rH fH P T G Lg := c
  have ms : MS al P T G Lg gi di re ti := ms
  have hT := o.2.2.1.2.1
  have hG := o.2.2.1.1
  have ei : f_X6_in x1.toInt64 (1 : Int64) (100 : Int64) = some (btw x1 1 100) := m_in x1 1 100
  have a0 : al (0 : Int32).toNatClampNeg = ti := ms.2.2.2.2.2.2.2
  have z0 : ∀ z : Option Int32, ix (0 : Int32) 320 z = z := fun z => ixo z (by decide)
  have hmp : f_X6_mayPass x1 al = some (if (100000 : Int32) < ti + x1 then 0 else 1) := by
    unfold f_X6_mayPass
    rw [z0, a0]
    split <;> rfl
  have hht : f_X2_hasTimeFor x1 ti = some (if (100000 : Int32) < ti + x1 then 0 else 1) := by
    unfold f_X2_hasTimeFor
    split <;> rfl
  unfold f_L_pass f_X5_pass f_X6_pass
  rw [c_reqR, ei, bd_some, hht, bd_some, hmp, bd_some]
  by_cases h1 : btw x1 1 100 = 0
  · rw [if_pos h1, if_pos h1, bx_l, bx_l, if_pos rfl, g_1 h1, bd2_some, if_pos rfl]
    exact ⟨1, 0, fP, rG, fG, rL, fL, fH, di, ti, cn, ro, Qh, fo, al, sv, sm, rfl, rfl, o_no n10, ⟨(P, T, G, Lg, gi, di, re, ti), m, Sf, n, o, ⟨c, rfl, rfl, rfl, rfl⟩, ms, hr, tx⟩⟩
  · rw [if_neg h1, if_neg h1, bx_r]
    by_cases h2 : (100000 : Int32) < ti + x1
    · rw [if_pos h2, if_pos rfl, if_pos rfl, bx_l, if_neg (show ¬ "java/lang/IllegalStateException" = "java/lang/IllegalArgumentException" from s_sa), if_pos rfl, g_2 h1 rfl, bd2_some, if_pos rfl]
      exact ⟨2, 0, fP, rG, fG, rL, fL, fH, di, ti, cn, ro, Qh, fo, al, sv, sm, rfl, rfl, o_no n20, ⟨(P, T, G, Lg, gi, di, re, ti), m, Sf, n, o, ⟨c, rfl, rfl, rfl, rfl⟩, ms, hr, tx⟩⟩
    · obtain ⟨N, hN, eN⟩ := b_nI2 (n := 100) (by decide) (by decide) h1
      obtain ⟨cn', ro', Q', sv', sm', m', Sf', k1, k2, k3⟩ := j_keep (fP := fP) (fT := fT) (fG := fG) (fL := fL) (fH := fH) (rP := rP) (rT := rT) (rG := rG) (rL := rL) (rH := rH) (gi := gi) (di := di) (re := re) (ti := ti) hr (s := (P, T, G, Lg, gi, di, re, ti)) o ⟨c, rfl, rfl, rfl, rfl⟩ ms
      obtain ⟨d, P', G', Lg', di', ti', rG', rL', aP, aG, aL, aH, al', b1, b2, o2, c2, m2⟩ := j_pass (N := N) hN o c ms
      rw [← eN] at b1 b2
      rw [if_neg h2, if_neg n10, if_neg n10, k1, bd3_some, b1, bd9_some, bx_r, o_set, g_0 h1 n10 n10, bd2_some, if_neg n10, k2, bd2_some, b2, bd2_some]
      exact ⟨0, _, _, _, _, _, _, _, _, _, _, _, _, _, _, _, _, rfl, rfl, o_at, ⟨(P', T, G', Lg', gi, di', re, ti'), m', Sf', n, o2, ⟨c2, rfl, rfl, rfl, rfl⟩, m2, k3, tx⟩⟩
