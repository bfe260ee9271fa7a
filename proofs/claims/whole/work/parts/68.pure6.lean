/-! ===== PURE: sets of rights as small numbers; what is held, laid out to its end ===== -/
theorem b8 {P : Int32 → Prop} (h : ∀ j : Fin 8, P (nI j)) {x : Int32} (o : okN 8 x) : P x := by
  rw [o.1]
  exact h ⟨cN x, o.2⟩
theorem b88 {P : Int32 → Int32 → Prop} (h : ∀ j k : Fin 8, P (nI j) (nI k)) {x y : Int32} (o : okN 8 x) (o' : okN 8 y) : P x y := by
  rw [o.1, o'.1]
  exact h ⟨cN x, o.2⟩ ⟨cN y, o'.2⟩
def pc (x : Int32) : Nat := cN x % 2 + cN x / 2 % 2 + cN x / 4 % 2
theorem or8 {x y : Int32} (o : okN 8 x) (o' : okN 8 y) : okN 8 (x ||| y) := by
  refine b88 (P := fun x y => okN 8 (x ||| y)) ?_ o o'
  show ∀ j k : Fin 8, (nI j ||| nI k) = nI (cN (nI j ||| nI k)) ∧ cN (nI j ||| nI k) < 8
  decide +kernel
theorem and8 {x y : Int32} (o : okN 8 x) (o' : okN 8 y) : okN 8 (x &&& y) := by
  refine b88 (P := fun x y => okN 8 (x &&& y)) ?_ o o'
  show ∀ j k : Fin 8, (nI j &&& nI k) = nI (cN (nI j &&& nI k)) ∧ cN (nI j &&& nI k) < 8
  decide +kernel
theorem ok0 : okN 8 0 := by
  show (0 : Int32) = nI (cN 0) ∧ cN 0 < 8
  decide +kernel
theorem ok7 : okN 8 7 := by
  show (7 : Int32) = nI (cN 7) ∧ cN 7 < 8
  decide +kernel
theorem pc_le {x : Int32} : pc x ≤ 3 := by
  unfold pc
  omega
theorem pc_or {x y : Int32} (o : okN 8 x) (o' : okN 8 y) : pc x ≤ pc (x ||| y) ∧ (x ||| y ≠ x → pc x < pc (x ||| y)) := by
  refine b88 (P := fun x y => pc x ≤ pc (x ||| y) ∧ (x ||| y ≠ x → pc x < pc (x ||| y))) ?_ o o'
  decide +kernel
theorem okN_nI {n k : Nat} (h : k < n) (hn : n < 1000000) : okN n (nI k) := by
  have e : cN (nI k) = k := nI_clamp (by omega)
  exact ⟨by rw [e], by rw [e]; exact h⟩
theorem cN_nI {k : Nat} (h : k < 2 ^ 31) : cN (nI k) = k := nI_clamp h
def eqon (n : Nat) (f g : Nat → Int32) : Prop := ∀ i : Nat, i < n → f i = g i
theorem eqon.upd {n i : Nat} {f g : Nat → Int32} {v : Int32} (h : eqon n f g) : eqon n (upd f i v) (upd g i v) := by
  intro j hj
  by_cases e : j = i
  · subst e
    rw [pk_us, pk_us]
  · rw [pk_un e, pk_un e]
    exact h j hj
theorem eqon.symm {n : Nat} {f g : Nat → Int32} (h : eqon n f g) : eqon n g f := fun i hi => (h i hi).symm
theorem eqon.trans {n : Nat} {f g k : Nat → Int32} (h : eqon n f g) (h' : eqon n g k) : eqon n f k := fun i hi => (h i hi).trans (h' i hi)
theorem eqon.rfl' {n : Nat} {f : Nat → Int32} : eqon n f f := fun _ _ => rfl
def okH (m : Nat) (H : Nat → Int32) : Prop := ∀ i : Nat, i < m → okN 8 (H i)
def okGs (T G : List rw_) : Prop := ∀ k : Nat, k < G.length → okG T.length (G.getD k z_)
def okTs (T : List rw_) : Prop := ∀ t : Nat, t < T.length → okT (T.getD t z_)
theorem pi_lt {T G : List rw_} {k : Nat} (o : okG T.length (G.getD k z_)) : 10 * cN (G.getD k z_ 2) + cN (G.getD k z_ 0) < 10 * T.length := by
  have := o.1.2
  have := o.2.2.1.2
  omega
theorem pa_congr {T G : List rw_} {H H' : Nat → Int32} {k : Nat} (h : eqon (10 * T.length) H H') (o : okG T.length (G.getD k z_)) : pa T G H k = pa T G H' k := by
  unfold pa
  rw [h _ (pi_lt o)]
theorem ic_m {T G : List rw_} {k : Nat} (o : okG T.length (G.getD k z_)) : ic G k < 10 * T.length := by
  have := o.2.1.2
  have := o.2.2.1.2
  unfold ic
  omega
theorem nv_congr {T G : List rw_} {H H' : Nat → Int32} {k : Nat} (h : eqon (10 * T.length) H H') (o : okG T.length (G.getD k z_)) : nv T G H k = nv T G H' k := by
  unfold nv
  rw [pa_congr h o, h _ (ic_m o)]
theorem lp_congr {T G : List rw_} (hok : okGs T G) : ∀ (n k : Nat) (c : Int32) (H H' : Nat → Int32), n + k = G.length → eqon (10 * T.length) H H' → (lp T G n k c H).1 = (lp T G n k c H').1 ∧ eqon (10 * T.length) (lp T G n k c H).2 (lp T G n k c H').2
  | 0, _, _, _, _, _, h => ⟨rfl, h⟩
  | n + 1, k, c, H, H', hk, h => by
    have o := hok k (by omega)
    unfold lp
    rw [nv_congr h o, h _ (ic_m o)]
    exact lp_congr hok n (k + 1) _ _ _ (by omega) h.upd
theorem pa_ok {T G : List rw_} {H : Nat → Int32} {k : Nat} (hH : okH (10 * T.length) H) (hT : okTs T) (o : okG T.length (G.getD k z_)) : okN 8 (pa T G H k) := by
  unfold pa
  split
  · exact ok0
  · exact and8 (and8 o.2.2.2.1 (hH _ (pi_lt o))) (hT _ o.2.2.1.2).2
theorem bd2_mk {α β γ : Type} {x : α × β} {f : α → β → Option γ} : bd2 (some x) f = f x.1 x.2 := rfl
def sm_ (H : Nat → Int32) : Nat → Nat
  | 0 => 0
  | m + 1 => sm_ H m + pc (H m)
theorem sm_le (H : Nat → Int32) : ∀ m : Nat, sm_ H m ≤ 3 * m
  | 0 => Nat.le_refl _
  | m + 1 => by
    have := sm_le H m
    have := pc_le (x := H m)
    unfold sm_
    omega
theorem sm_out {H : Nat → Int32} {i : Nat} {v : Int32} : ∀ m : Nat, m ≤ i → sm_ (upd H i v) m = sm_ H m
  | 0, _ => rfl
  | m + 1, h => by
    unfold sm_
    rw [sm_out m (by omega), pk_un (by omega)]
theorem sm_upd {H : Nat → Int32} {i : Nat} {v : Int32} : ∀ m : Nat, i < m → sm_ (upd H i v) m + pc (H i) = sm_ H m + pc v
  | 0, h => absurd h (by omega)
  | m + 1, h => by
    unfold sm_
    by_cases e : m = i
    · subst e
      rw [sm_out m (Nat.le_refl _), pk_us]
      omega
    · have := sm_upd (H := H) (i := i) (v := v) m (by omega)
      rw [pk_un e]
      omega
theorem okH.upd {m i : Nat} {H : Nat → Int32} {v : Int32} (h : okH m H) (hv : okN 8 v) : okH m (upd H i v) := by
  intro j hj
  by_cases e : j = i
  · subst e
    rw [pk_us]
    exact hv
  · rw [pk_un e]
    exact h j hj
theorem lp_up {T G : List rw_} (hok : okGs T G) (hT : okTs T) : ∀ (n k : Nat) (c : Int32) (H : Nat → Int32), n + k = G.length → okH (10 * T.length) H → okH (10 * T.length) (lp T G n k c H).2 ∧ sm_ H (10 * T.length) ≤ sm_ (lp T G n k c H).2 (10 * T.length) ∧ ((lp T G n k c H).1 ≠ 0 → c ≠ 0 ∨ sm_ H (10 * T.length) < sm_ (lp T G n k c H).2 (10 * T.length))
  | 0, _, _, _, _, h => ⟨h, Nat.le_refl _, fun z => Or.inl z⟩
  | n + 1, k, c, H, hk, h => by
    have o := hok k (by omega)
    have hp := pa_ok h hT o
    have hi := h _ (ic_m o)
    have hs := sm_upd (H := H) (v := nv T G H k) _ (ic_m o)
    have hq := pc_or hi hp
    have ih := lp_up hok hT n (k + 1) (if c = 0 then (if nv T G H k = H (ic G k) then 0 else 1) else 1) (upd H (ic G k) (nv T G H k)) (by omega) (h.upd (or8 hi hp))
    have hq1 : pc (H (ic G k)) ≤ pc (nv T G H k) := hq.1
    have hq2 : nv T G H k ≠ H (ic G k) → pc (H (ic G k)) < pc (nv T G H k) := hq.2
    unfold lp
    generalize hc : (if c = 0 then (if nv T G H k = H (ic G k) then (0 : Int32) else 1) else 1) = c' at ih ⊢
    refine ⟨ih.1, by omega, fun z => ?_⟩
    have i3 := ih.2.2 z
    by_cases h0 : c = 0
    · right
      rw [if_pos h0] at hc
      by_cases hv : nv T G H k = H (ic G k)
      · rw [if_pos hv] at hc
        rcases i3 with i3 | i3
        · exact absurd hc.symm i3
        · omega
      · have := hq2 hv
        omega
    · exact Or.inl h0
def rn (T G : List rw_) : Nat → Int32 → (Nat → Int32) → Nat → Int32
  | 0, _, H => H
  | f + 1, c, H => if c = 0 then H else rn T G f (lp T G G.length 0 0 H).1 (lp T G G.length 0 0 H).2
theorem rn_congr {T G : List rw_} (hok : okGs T G) : ∀ (f : Nat) (c : Int32) (H H' : Nat → Int32), eqon (10 * T.length) H H' → eqon (10 * T.length) (rn T G f c H) (rn T G f c H')
  | 0, _, _, _, h => h
  | f + 1, c, H, H', h => by
    have hh := lp_congr hok G.length 0 0 H H' (by omega) h
    unfold rn
    by_cases h0 : c = 0
    · rw [if_pos h0, if_pos h0]
      exact h
    · rw [if_neg h0, if_neg h0, hh.1]
      exact rn_congr hok f _ _ _ hh.2
theorem rn_ok {T G : List rw_} (hok : okGs T G) (hT : okTs T) : ∀ (f : Nat) (c : Int32) (H : Nat → Int32), okH (10 * T.length) H → okH (10 * T.length) (rn T G f c H)
  | 0, _, _, h => h
  | f + 1, c, H, h => by
    unfold rn
    split
    · exact h
    · exact rn_ok hok hT f _ _ (lp_up hok hT G.length 0 0 H (by omega) h).1
theorem h_run {rT rG : Int32} {fT fG : Nat → Int32} {T G : List rw_} (hG : RT 6 rG fG G) (hT : RT 2 rT fT T) (hl : G.length ≤ 40) (hlT : T.length ≤ 8) (hok : okGs T G) : ∀ (f x F : Nat) (c : Int32) (H : Nat → Int32), f + x = 241 → f < F → f_X2_settle_L65 rT fT rG fG (nI T.length) F c (nI x) H = some (rn T G f c H)
  | _, _, 0, _, _, _, hF => absurd hF (by omega)
  | 0, x, F + 1, c, H, h, hF => by
    have hle : (241 : Int32) ≤ nI x := (n_le (a := 241) (by omega) (by omega)).mpr (by omega)
    unfold f_X2_settle_L65 rn
    rw [if_pos hle]
  | f + 1, x, F + 1, c, H, h, hF => by
    have hle : ¬ (241 : Int32) ≤ nI x := fun z => absurd ((n_le (a := 241) (by omega) (by omega)).mp z) (by omega)
    have e := h_lap hG hT hl hlT hok G.length 0 FU 0 H (by omega) (by unfold FU; omega)
    have e : f_X2_settle_L80 rT fT rG fG (nI T.length) FU 0 (0 : Int32) H = some (lp T G G.length 0 0 H) := e
    have ek : nI x + (1 : Int32) = nI (x + 1) := n_at
    unfold f_X2_settle_L65 rn
    rw [if_neg hle]
    by_cases h0 : c = 0
    · rw [if_pos h0, if_pos h0]
    · rw [if_neg h0, if_neg h0, e, bd2_mk, nm_eq, ek]
      exact h_run hG hT hl hlT hok f (x + 1) F _ _ (by omega) (by omega)
theorem m_run {al : Nat → Int32} {T G : List rw_} (hG : MG al G) (hT : MT al T) (hl : G.length ≤ 40) (hlT : T.length ≤ 8) (hok : okGs T G) (hTs : okTs T) : ∀ (f F : Nat) (c : Int32) (H : Nat → Int32), okH (10 * T.length) H → (c = 0 ∨ 241 ≤ sm_ H (10 * T.length) + f) → f < F → f_X6_lay_L58 al F c H = some (rn T G f c H)
  | _, 0, _, _, _, _, hF => absurd hF (by omega)
  | 0, F + 1, c, H, ho, hc, hF => by
    have h0 : c = 0 := by
      rcases hc with hc | hc
      · exact hc
      · have := sm_le H (10 * T.length)
        omega
    unfold f_X6_lay_L58 rn
    rw [if_pos h0]
  | f + 1, F + 1, c, H, ho, hc, hF => by
    have e := m_lap hG hT hl hlT hok G.length 0 FU 0 H (by omega) (by unfold FU; omega)
    have e : f_X6_lay_L66 al FU 0 (0 : Int32) H = some (lp T G G.length 0 0 H) := e
    have hu := lp_up hok hTs G.length 0 0 H (by omega) ho
    unfold f_X6_lay_L58 rn
    by_cases h0 : c = 0
    · rw [if_pos h0, if_pos h0]
    · rw [if_neg h0, if_neg h0, e]
      refine m_run hG hT hl hlT hok hTs f F _ _ hu.1 ?_ (by omega)
      by_cases h1 : (lp T G G.length 0 0 H).1 = 0
      · exact Or.inl h1
      · rcases hu.2.2 h1 with h2 | h2
        · exact absurd rfl h2
        · rcases hc with hc | hc
          · exact absurd hc h0
          · exact Or.inr (by omega)
