/-! ===== PURE: saved states ===== -/
theorem bd14_some {α0 α1 α2 α3 α4 α5 α6 α7 α8 α9 α10 α11 α12 α13 γ : Type} {a0 : α0} {a1 : α1} {a2 : α2} {a3 : α3} {a4 : α4} {a5 : α5} {a6 : α6} {a7 : α7} {a8 : α8} {a9 : α9} {a10 : α10} {a11 : α11} {a12 : α12} {a13 : α13} {f : α0 → α1 → α2 → α3 → α4 → α5 → α6 → α7 → α8 → α9 → α10 → α11 → α12 → α13 → Option γ} : bd14 (some (a0, a1, a2, a3, a4, a5, a6, a7, a8, a9, a10, a11, a12, a13)) f = f a0 a1 a2 a3 a4 a5 a6 a7 a8 a9 a10 a11 a12 a13 := rfl
abbrev AS : Type := List rw_ × List rw_ × List rw_ × List rw_ × Int32 × Int32 × Int32 × Int32
def OSs (s : AS) : Prop := OS s.1 s.2.1 s.2.2.1 s.2.2.2.1
def CSs (q : HS) (s : AS) : Prop := CS q.1 q.2.1 q.2.2.1 q.2.2.2.1 q.2.2.2.2.1 q.2.2.2.2.2.1 q.2.2.2.2.2.2.1 q.2.2.2.2.2.2.2.1 q.2.2.2.2.2.2.2.2.1 q.2.2.2.2.2.2.2.2.2.1 s.1 s.2.1 s.2.2.1 s.2.2.2.1 ∧ q.2.2.2.2.2.2.2.2.2.2.1 = s.2.2.2.2.1 ∧ q.2.2.2.2.2.2.2.2.2.2.2.1 = s.2.2.2.2.2.1 ∧ q.2.2.2.2.2.2.2.2.2.2.2.2.1 = s.2.2.2.2.2.2.1 ∧ q.2.2.2.2.2.2.2.2.2.2.2.2.2 = s.2.2.2.2.2.2.2
def MSs (al : Nat → Int32) (s : AS) : Prop := MS al s.1 s.2.1 s.2.2.1 s.2.2.2.1 s.2.2.2.2.1 s.2.2.2.2.2.1 s.2.2.2.2.2.2.1 s.2.2.2.2.2.2.2
def HR (cn : Int32) (ro : Nat) (Q : Nat → HS) (sm : Int32) (sv : Nat → Int32) (m : Nat) (Sf : Nat → AS) : Prop := cn = nI m ∧ sm = nI m ∧ m ≤ 4 ∧ ro < 4 ∧ ∀ i : Nat, i < m → OSs (Sf i) ∧ CSs (Q ((i + ro) % 4)) (Sf i) ∧ MSs (fun k => sv (320 * i + k)) (Sf i)
theorem c_overs {q : HS} {rP rT rG rL rH gi di re ti : Int32} {fP fT fG fL fH : Nat → Int32} {s : AS} (o : OSs s) (c : CSs (rP, fP, rT, fT, rG, fG, rL, fL, rH, fH, gi, di, re, ti) s) : ∃ q' : HS, f_X2_takeOver q.1 q.2.1 q.2.2.1 q.2.2.2.1 q.2.2.2.2.1 q.2.2.2.2.2.1 q.2.2.2.2.2.2.1 q.2.2.2.2.2.2.2.1 q.2.2.2.2.2.2.2.2.1 q.2.2.2.2.2.2.2.2.2.1 q.2.2.2.2.2.2.2.2.2.2.1 q.2.2.2.2.2.2.2.2.2.2.2.1 q.2.2.2.2.2.2.2.2.2.2.2.2.1 q.2.2.2.2.2.2.2.2.2.2.2.2.2 rP fP rT fT rG fG rL fL rH fH gi di re ti = some q' ∧ CSs q' s := by
  obtain ⟨aP, aT, aG, aL, aH, e1, e2⟩ := c_over (rP := q.1) (fP := q.2.1) (rT := q.2.2.1) (fT := q.2.2.2.1) (rG := q.2.2.2.2.1) (fG := q.2.2.2.2.2.1) (rL := q.2.2.2.2.2.2.1) (fL := q.2.2.2.2.2.2.2.1) (rH := q.2.2.2.2.2.2.2.2.1) (fH := q.2.2.2.2.2.2.2.2.2.1) (gi := q.2.2.2.2.2.2.2.2.2.2.1) (di := q.2.2.2.2.2.2.2.2.2.2.2.1) (re := q.2.2.2.2.2.2.2.2.2.2.2.2.1) (ti := q.2.2.2.2.2.2.2.2.2.2.2.2.2) (gi2 := gi) (di2 := di) (re2 := re) (ti2 := ti) o c.1
  exact ⟨_, e1, e2, c.2⟩
theorem bd14_mk {α0 α1 α2 α3 α4 α5 α6 α7 α8 α9 α10 α11 α12 α13 γ : Type} {x : α0 × α1 × α2 × α3 × α4 × α5 × α6 × α7 × α8 × α9 × α10 × α11 × α12 × α13} {f : α0 → α1 → α2 → α3 → α4 → α5 → α6 → α7 → α8 → α9 → α10 → α11 → α12 → α13 → Option γ} : bd14 (some x) f = f x.1 x.2.1 x.2.2.1 x.2.2.2.1 x.2.2.2.2.1 x.2.2.2.2.2.1 x.2.2.2.2.2.2.1 x.2.2.2.2.2.2.2.1 x.2.2.2.2.2.2.2.2.1 x.2.2.2.2.2.2.2.2.2.1 x.2.2.2.2.2.2.2.2.2.2.1 x.2.2.2.2.2.2.2.2.2.2.2.1 x.2.2.2.2.2.2.2.2.2.2.2.2.1 x.2.2.2.2.2.2.2.2.2.2.2.2.2 := rfl
theorem hk_putS {Q : Nat → HS} {cn' rP rT rG rL rH gi di re ti : Int32} {ro' j : Nat} {fP fT fG fL fH : Nat → Int32} {s : AS} (o : OSs s) (c : CSs (rP, fP, rT, fT, rG, fG, rL, fL, rH, fH, gi, di, re, ti) s) : ∃ q' : HS, hk_put cn' ro' j Q rP fP rT fT rG fG rL fL rH fH gi di re ti = some (cn', ro', fun i => if i = j then q' else Q i) ∧ CSs q' s := by
  obtain ⟨q', e1, e2⟩ := c_overs (q := Q j) o c
  refine ⟨q', ?_, e2⟩
  unfold hk_put
  rw [e1, bd14_mk]
theorem keep_eq {Q : Nat → HS} {rP rT rG rL rH gi di re ti : Int32} {m ro : Nat} {fP fT fG fL fH : Nat → Int32} (hm : m ≤ 4) (hr : ro < 4) : f_X1_keep (nI m) ro Q rP fP rT fT rG fG rL fL rH fH gi di re ti = if m < 4 then hk_put (nI (m + 1)) ro ((m + ro) % 4) Q rP fP rT fT rG fG rL fL rH fH gi di re ti else hk_put 4 ((ro + 1) % 4) ro Q rP fP rT fT rG fG rL fL rH fH gi di re ti := by
  have hm : m = 0 ∨ m = 1 ∨ m = 2 ∨ m = 3 ∨ m = 4 := by omega
  unfold f_X1_keep
  rw [if_neg (show ¬ 4 ≤ ro by omega)]
  rcases hm with e | e | e | e | e
  · subst e
    rw [if_pos (show nI 0 = (0 : Int32) from rfl), if_pos (show 0 < 4 by omega)]
    rfl
  · subst e
    rw [if_neg (show ¬ nI 1 = (0 : Int32) by decide), if_pos (show nI 1 = (1 : Int32) from rfl), if_pos (show 1 < 4 by omega)]
    rfl
  · subst e
    rw [if_neg (show ¬ nI 2 = (0 : Int32) by decide), if_neg (show ¬ nI 2 = (1 : Int32) by decide), if_pos (show nI 2 = (2 : Int32) from rfl), if_pos (show 2 < 4 by omega)]
    rfl
  · subst e
    rw [if_neg (show ¬ nI 3 = (0 : Int32) by decide), if_neg (show ¬ nI 3 = (1 : Int32) by decide), if_neg (show ¬ nI 3 = (2 : Int32) by decide), if_pos (show nI 3 = (3 : Int32) from rfl), if_pos (show 3 < 4 by omega)]
    rfl
  · subst e
    rw [if_neg (show ¬ nI 4 = (0 : Int32) by decide), if_neg (show ¬ nI 4 = (1 : Int32) by decide), if_neg (show ¬ nI 4 = (2 : Int32) by decide), if_neg (show ¬ nI 4 = (3 : Int32) by decide), if_pos (show nI 4 = (4 : Int32) from rfl), if_neg (show ¬ 4 < 4 by omega)]
theorem m_saveL {al : Nat → Int32} {m : Nat} (hm : m < 4) : ∀ (n x F : Nat) (sv : Nat → Int32), n + x = 320 → n < F → ∃ sv' : Nat → Int32, f_X6_save_L51 al (nI m) F (nI x) sv = some sv' ∧ (∀ k : Nat, x ≤ k → k < 320 → sv' (320 * m + k) = al k) ∧ (∀ i : Nat, i < 320 * m + x ∨ 320 * m + 320 ≤ i → sv' i = sv i)
  | _, _, 0, _, _, hF => absurd hF (by omega)
  | 0, x, F + 1, sv, h, hF => by
    unfold f_X6_save_L51
    rw [if_pos (show (320 : Int32) ≤ nI x from q_le (a := 320) (by omega) (by omega) (by omega))]
    exact ⟨sv, rfl, fun k h1 h2 => absurd h1 (by omega), fun i _ => rfl⟩
  | n + 1, x, F + 1, sv, h, hF => by
    have ek : nI x + (1 : Int32) = nI (x + 1) := n_at
    have e1 : (320 : Int32) * nI m = nI (320 * m) := n_mul
    have e2 : nI (320 * m) + nI x = nI (320 * m + x) := n_at
    obtain ⟨sv', i1, i2, i3⟩ := m_saveL hm n (x + 1) F (upd sv (320 * m + x) (al x)) (by omega) (by omega)
    refine ⟨sv', ?_, fun k h1 h2 => ?_, fun i hi => ?_⟩
    · unfold f_X6_save_L51
      rw [if_neg (show ¬ (320 : Int32) ≤ nI x from q_nle (a := 320) (by omega) (by omega) (by omega)), n_ix (by omega) (by omega), nm_eq, e1, e2, n_ix (by omega) (by omega), nm_eq, nm_eq, ek, n_cl (by omega), n_cl (by omega)]
      exact i1
    · by_cases e : k = x
      · rw [e, i3 _ (by omega), pk_us]
      · exact i2 k (by omega) h2
    · rw [i3 i (by omega), pk_un (by omega)]
theorem m_shiftL : ∀ (n x F : Nat) (sv : Nat → Int32), n + x = 960 → n < F → ∃ sv' : Nat → Int32, f_X6_save_L10 F (nI x) sv = some sv' ∧ (∀ k : Nat, x ≤ k → k < 960 → sv' k = sv (k + 320)) ∧ (∀ i : Nat, i < x ∨ 960 ≤ i → sv' i = sv i)
  | _, _, 0, _, _, hF => absurd hF (by omega)
  | 0, x, F + 1, sv, h, hF => by
    unfold f_X6_save_L10
    rw [if_pos (show (960 : Int32) ≤ nI x from q_le (a := 960) (by omega) (by omega) (by omega))]
    exact ⟨sv, rfl, fun k h1 h2 => absurd h1 (by omega), fun i _ => rfl⟩
  | n + 1, x, F + 1, sv, h, hF => by
    have ek : nI x + (1 : Int32) = nI (x + 1) := n_at
    have e2 : nI x + (320 : Int32) = nI (x + 320) := n_at
    obtain ⟨sv', i1, i2, i3⟩ := m_shiftL n (x + 1) F (upd sv x (sv (x + 320))) (by omega) (by omega)
    refine ⟨sv', ?_, fun k h1 h2 => ?_, fun i hi => ?_⟩
    · unfold f_X6_save_L10
      rw [if_neg (show ¬ (960 : Int32) ≤ nI x from q_nle (a := 960) (by omega) (by omega) (by omega)), e2, n_ix (by omega) (by omega), nm_eq, n_ix (by omega) (by omega), nm_eq, nm_eq, ek, n_cl (by omega), n_cl (by omega)]
      exact i1
    · by_cases e : k = x
      · rw [e, i3 _ (by omega), pk_us]
      · rw [i2 k (by omega) h2, pk_un (by omega)]
    · rw [i3 i (by omega), pk_un (by omega)]
theorem MSs.c {al al' : Nat → Int32} {s : AS} (h : MSs al s) (o : OSs s) (e : eqon 320 al' al) : MSs al' s := MS.c h o e
theorem j_keep {Q : Nat → HS} {cn sm rP rT rG rL rH gi di re ti : Int32} {m ro : Nat} {fP fT fG fL fH al sv : Nat → Int32} {Sf : Nat → AS} {s : AS} (hr : HR cn ro Q sm sv m Sf) (o : OSs s) (c : CSs (rP, fP, rT, fT, rG, fG, rL, fL, rH, fH, gi, di, re, ti) s) (ms : MSs al s) : ∃ (cn' : Int32) (ro' : Nat) (Q' : Nat → HS) (sv' : Nat → Int32) (sm' : Int32) (m' : Nat) (Sf' : Nat → AS), f_X1_keep cn ro Q rP fP rT fT rG fG rL fL rH fH gi di re ti = some (cn', ro', Q') ∧ f_X6_save al sv sm = some (sv', sm') ∧ HR cn' ro' Q' sm' sv' m' Sf' := by
  obtain ⟨h1, h2, h3, h4, h5⟩ := hr
  subst h1 h2
  rw [keep_eq h3 h4]
  by_cases hm : m < 4
  · obtain ⟨q', e1, e2⟩ := hk_putS (Q := Q) (cn' := nI (m + 1)) (ro' := ro) (j := (m + ro) % 4) o c
    obtain ⟨sv', i1, i2, i3⟩ := m_saveL (al := al) hm 320 0 FU sv (by omega) (by unfold FU; omega)
    have i1 : f_X6_save_L51 al (nI m) FU (0 : Int32) sv = some sv' := i1
    have ek : nI m + (1 : Int32) = nI (m + 1) := n_at
    refine ⟨_, _, _, sv', nI (m + 1), m + 1, fun i => if i = m then s else Sf i, by rw [if_pos hm]; exact e1, ?_, rfl, rfl, by omega, h4, fun i hi => ?_⟩
    · unfold f_X6_save
      rw [if_neg (show ¬ nI m = (4 : Int32) from q_ne (b := 4) (by omega) (by omega) (by omega)), i1, bd_some, nm_eq, ek]
    · by_cases e : i = m
      · subst e
        show OSs (if i = i then s else Sf i) ∧ CSs (if (i + ro) % 4 = (i + ro) % 4 then q' else Q ((i + ro) % 4)) (if i = i then s else Sf i) ∧ MSs (fun k => sv' (320 * i + k)) (if i = i then s else Sf i)
        rw [if_pos rfl, if_pos rfl]
        exact ⟨o, e2, MSs.c ms o (fun k hk => i2 k (by omega) hk)⟩
      · show OSs (if i = m then s else Sf i) ∧ CSs (if (i + ro) % 4 = (m + ro) % 4 then q' else Q ((i + ro) % 4)) (if i = m then s else Sf i) ∧ MSs (fun k => sv' (320 * i + k)) (if i = m then s else Sf i)
        rw [if_neg e, if_neg (show ¬ (i + ro) % 4 = (m + ro) % 4 by omega)]
        have hh := h5 i (by omega)
        exact ⟨hh.1, hh.2.1, MSs.c hh.2.2 hh.1 (fun k hk => i3 _ (by omega))⟩
  · have hm4 : m = 4 := by omega
    subst hm4
    obtain ⟨q', e1, e2⟩ := hk_putS (Q := Q) (cn' := 4) (ro' := (ro + 1) % 4) (j := ro) o c
    obtain ⟨sv1, s1, s2, _⟩ := m_shiftL 960 0 FU sv (by omega) (by unfold FU; omega)
    have s1 : f_X6_save_L10 FU (0 : Int32) sv = some sv1 := s1
    obtain ⟨sv', i1, i2, i3⟩ := m_saveL (al := al) (m := 3) (by omega) 320 0 FU sv1 (by omega) (by unfold FU; omega)
    have i1 : f_X6_save_L51 al (nI 3) FU (0 : Int32) sv1 = some sv' := i1
    have e3 : nI 4 - (1 : Int32) = nI 3 := nI_pred 3
    have e4 : nI 3 + (1 : Int32) = nI 4 := n_at
    refine ⟨_, _, _, sv', nI 4, 4, fun i => if i = 3 then s else Sf (i + 1), by rw [if_neg hm]; exact e1, ?_, rfl, rfl, by omega, by omega, fun i hi => ?_⟩
    · unfold f_X6_save
      rw [if_pos (show nI 4 = (4 : Int32) from rfl), s1, bd_some, nm_eq, e3, i1, bd_some, nm_eq, e4]
    · by_cases e : i = 3
      · subst e
        show OSs (if 3 = 3 then s else Sf (3 + 1)) ∧ CSs (if (3 + (ro + 1) % 4) % 4 = ro then q' else Q ((3 + (ro + 1) % 4) % 4)) (if 3 = 3 then s else Sf (3 + 1)) ∧ MSs (fun k => sv' (320 * 3 + k)) (if 3 = 3 then s else Sf (3 + 1))
        rw [if_pos rfl, if_pos (show (3 + (ro + 1) % 4) % 4 = ro by omega)]
        exact ⟨o, e2, MSs.c ms o (fun k hk => i2 k (by omega) hk)⟩
      · show OSs (if i = 3 then s else Sf (i + 1)) ∧ CSs (if (i + (ro + 1) % 4) % 4 = ro then q' else Q ((i + (ro + 1) % 4) % 4)) (if i = 3 then s else Sf (i + 1)) ∧ MSs (fun k => sv' (320 * i + k)) (if i = 3 then s else Sf (i + 1))
        rw [if_neg e, if_neg (show ¬ (i + (ro + 1) % 4) % 4 = ro by omega)]
        have hh := h5 (i + 1) (by omega)
        rw [show (i + (ro + 1) % 4) % 4 = (i + 1 + ro) % 4 by omega]
        refine ⟨hh.1, hh.2.1, MSs.c hh.2.2 hh.1 (fun k hk => ?_)⟩
        show sv' (320 * i + k) = sv (320 * (i + 1) + k)
        rw [i3 _ (by omega), s2 _ (by omega) (by omega), show 320 * i + k + 320 = 320 * (i + 1) + k by omega]
theorem back_eq {Q : Nat → HS} {rP rT rG rL rH gi di re ti : Int32} {m ro : Nat} {fP fT fG fL fH : Nat → Int32} (hm : m < 4) (hr : ro < 4) : f_X1_giveBack (nI (m + 1)) ro Q rP fP rT fT rG fG rL fL rH fH gi di re ti = hk_gb (nI m) ((m + ro) % 4) Q rP fP rT fT rG fG rL fL rH fH gi di re ti := by
  have hm : m = 0 ∨ m = 1 ∨ m = 2 ∨ m = 3 := by omega
  unfold f_X1_giveBack
  rw [if_neg (show ¬ 4 ≤ ro by omega)]
  rcases hm with e | e | e | e
  · subst e
    rw [if_pos (show nI (0 + 1) = (1 : Int32) from rfl)]
    rfl
  · subst e
    rw [if_neg (show ¬ nI (1 + 1) = (1 : Int32) by decide), if_pos (show nI (1 + 1) = (2 : Int32) from rfl)]
    rfl
  · subst e
    rw [if_neg (show ¬ nI (2 + 1) = (1 : Int32) by decide), if_neg (show ¬ nI (2 + 1) = (2 : Int32) by decide), if_pos (show nI (2 + 1) = (3 : Int32) from rfl)]
    rfl
  · subst e
    rw [if_neg (show ¬ nI (3 + 1) = (1 : Int32) by decide), if_neg (show ¬ nI (3 + 1) = (2 : Int32) by decide), if_neg (show ¬ nI (3 + 1) = (3 : Int32) by decide), if_pos (show nI (3 + 1) = (4 : Int32) from rfl)]
    rfl
theorem m_undoL {sv : Nat → Int32} {m : Nat} (hm : m < 4) : ∀ (n x F : Nat) (al : Nat → Int32), n + x = 320 → n < F → (∀ k : Nat, k < x → al k = sv (320 * m + k)) → ∃ al' : Nat → Int32, f_X6_undo_L35 sv (nI m) F (nI x) al = some al' ∧ eqon 320 al' (fun k => sv (320 * m + k))
  | _, _, 0, _, _, hF, _ => absurd hF (by omega)
  | 0, x, F + 1, al, h, hF, hk => by
    unfold f_X6_undo_L35
    rw [if_pos (show (320 : Int32) ≤ nI x from q_le (a := 320) (by omega) (by omega) (by omega))]
    exact ⟨al, rfl, fun k h1 => hk k (by omega)⟩
  | n + 1, x, F + 1, al, h, hF, hk => by
    have ek : nI x + (1 : Int32) = nI (x + 1) := n_at
    have e1 : (320 : Int32) * nI m = nI (320 * m) := n_mul
    have e2 : nI (320 * m) + nI x = nI (320 * m + x) := n_at
    unfold f_X6_undo_L35
    rw [if_neg (show ¬ (320 : Int32) ≤ nI x from q_nle (a := 320) (by omega) (by omega) (by omega)), e1, e2, n_ix (by omega) (by omega), nm_eq, n_ix (by omega) (by omega), nm_eq, nm_eq, ek, n_cl (by omega), n_cl (by omega)]
    refine m_undoL hm n (x + 1) F _ (by omega) (by omega) (fun k hx => ?_)
    by_cases e : k = x
    · rw [e, pk_us]
    · rw [pk_un e]
      exact hk k (by omega)
