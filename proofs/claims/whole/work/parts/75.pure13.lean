/-! ===== PURE: chains, measured to the end ===== -/
/-- what stays true of the lengths: none greater than s; each but 0 and NONE has a grant before it -/
def cI (T G : List rw_) (H : Nat → Int32) (t s : Nat) (F : Nat → Int32) : Prop := (∀ p : Nat, p < 10 → F p = -1 ∨ ∃ v : Nat, v ≤ s ∧ F p = nI v) ∧ ∀ p v : Nat, p < 10 → v < 10 → F p = nI (v + 1) → ∃ j : Nat, j < G.length ∧ cN (G.getD j z_ 1) = p ∧ ¬ lkv T G H t j = 0 ∧ F (cN (G.getD j z_ 0)) = nI v
theorem n_m1 {v : Nat} (h : v < 100000) : ¬ nI v = (-1 : Int32) := by
  intro z
  have h1 : nI v < 0 := by rw [z]; decide
  exact nI_pos (by omega) h1
theorem c1_I {T G : List rw_} {H : Nat → Int32} {t s j : Nat} {q : Int32 × (Nat → Int32)} (hok : okGs T G) (hs : s < 10) (hj : j < G.length) (h : cI T G H t (s + 1) q.2) : cI T G H t (s + 1) (c1_ T G H t s j q).2 := by
  have o := hok j hj
  unfold c1_
  by_cases h1 : q.2 (cN (G.getD j z_ 1)) = -1
  · rw [if_pos h1]
    by_cases h2 : lkv T G H t j = 0
    · rw [if_pos h2]
      exact h
    · rw [if_neg h2]
      by_cases h3 : q.2 (cN (G.getD j z_ 0)) = nI s
      · rw [if_pos h3]
        show cI T G H t (s + 1) (upd q.2 (cN (G.getD j z_ 1)) (nI (s + 1)))
        have hne : ∀ i : Nat, ∀ v : Nat, v < 100000 → q.2 i = nI v → i ≠ cN (G.getD j z_ 1) := by
          intro i v hv e e2
          rw [e2, h1] at e
          exact n_m1 hv e.symm
        refine ⟨fun p hp => ?_, fun p v hp hv e => ?_⟩
        · by_cases e : p = cN (G.getD j z_ 1)
          · rw [e, pk_us]
            exact Or.inr ⟨s + 1, by omega, rfl⟩
          · rw [pk_un e]
            exact h.1 p hp
        · by_cases ep : p = cN (G.getD j z_ 1)
          · rw [ep, pk_us] at e
            have e : s = v := by
              have := (nI_eq (by omega) (by omega)).mp e
              omega
            refine ⟨j, hj, ep.symm, h2, ?_⟩
            rw [pk_un (hne _ s (by omega) h3), h3, e]
          · rw [pk_un ep] at e
            obtain ⟨i, i1, i2, i3, i4⟩ := h.2 p v hp hv e
            refine ⟨i, i1, i2, i3, ?_⟩
            rw [pk_un (hne _ v (by omega) i4), i4]
      · rw [if_neg h3]
        exact h
  · rw [if_neg h1]
    exact h
theorem cl_I {T G : List rw_} {H : Nat → Int32} {t s : Nat} (hok : okGs T G) (hs : s < 10) : ∀ (n j : Nat) (q : Int32 × (Nat → Int32)), n + j = G.length → cI T G H t (s + 1) q.2 → cI T G H t (s + 1) (cl_ T G H t s n j q).2
  | 0, _, _, _, h => h
  | n + 1, j, q, hk, h => by
    unfold cl_
    exact cl_I hok hs n (j + 1) _ (by omega) (c1_I hok hs (by omega) h)
theorem cI.up {T G : List rw_} {H : Nat → Int32} {t s : Nat} {F : Nat → Int32} (h : cI T G H t s F) : cI T G H t (s + 1) F := ⟨fun p hp => by
    rcases h.1 p hp with e | ⟨v, e1, e2⟩
    · exact Or.inl e
    · exact Or.inr ⟨v, by omega, e2⟩, h.2⟩
/-- how many are reached -/
def cn10 (F : Nat → Int32) : Nat → Nat
  | 0 => 0
  | m + 1 => cn10 F m + (if F m = -1 then 0 else 1)
theorem cn_le (F : Nat → Int32) : ∀ m : Nat, cn10 F m ≤ m
  | 0 => Nat.le_refl _
  | m + 1 => by
    have := cn_le F m
    unfold cn10
    split <;> omega
theorem cn_all {F : Nat → Int32} : ∀ m : Nat, m ≤ cn10 F m → ∀ p : Nat, p < m → ¬ F p = -1
  | 0, _, _, hp => absurd hp (by omega)
  | m + 1, h, p, hp => by
    have := cn_le F m
    unfold cn10 at h
    by_cases e : F m = -1
    · rw [if_pos e] at h
      omega
    · rw [if_neg e] at h
      by_cases ep : p = m
      · rw [ep]
        exact e
      · exact cn_all m (by omega) p (by omega)
theorem cn_out {F : Nat → Int32} {i : Nat} {v : Int32} : ∀ m : Nat, m ≤ i → cn10 (upd F i v) m = cn10 F m
  | 0, _ => rfl
  | m + 1, h => by
    unfold cn10
    rw [cn_out m (by omega), pk_un (by omega)]
theorem cn_upd {F : Nat → Int32} {i : Nat} {v : Int32} (h1 : F i = -1) (hv : ¬ v = -1) : ∀ m : Nat, i < m → cn10 (upd F i v) m = cn10 F m + 1
  | 0, h => absurd h (by omega)
  | m + 1, h => by
    unfold cn10
    by_cases e : m = i
    · rw [e, cn_out i (Nat.le_refl _), pk_us, if_neg hv, if_pos h1]
    · rw [cn_upd h1 hv m (by omega), pk_un e]
      omega
theorem cl_cn {T G : List rw_} {H : Nat → Int32} {t s : Nat} (hok : okGs T G) (hs : s < 10) : ∀ (n j : Nat) (q : Int32 × (Nat → Int32)), n + j = G.length → cn10 q.2 10 ≤ cn10 (cl_ T G H t s n j q).2 10 ∧ ((cl_ T G H t s n j q).1 = 0 → q.1 = 0 ∧ (cl_ T G H t s n j q).2 = q.2) ∧ (q.1 = 0 → ¬ (cl_ T G H t s n j q).1 = 0 → cn10 q.2 10 < cn10 (cl_ T G H t s n j q).2 10)
  | 0, _, q, _ => ⟨Nat.le_refl _, fun h => ⟨h, rfl⟩, fun h h' => absurd h h'⟩
  | n + 1, j, q, hk => by
    have o := hok j (by omega)
    have ih := cl_cn (t := t) (H := H) hok hs n (j + 1) (c1_ T G H t s j q) (by omega)
    have hc : c1_ T G H t s j q = q ∨ ((c1_ T G H t s j q).1 = 1 ∧ cn10 (c1_ T G H t s j q).2 10 = cn10 q.2 10 + 1) := by
      unfold c1_
      by_cases h1 : q.2 (cN (G.getD j z_ 1)) = -1
      · rw [if_pos h1]
        by_cases h2 : lkv T G H t j = 0
        · rw [if_pos h2]
          exact Or.inl rfl
        · rw [if_neg h2]
          by_cases h3 : q.2 (cN (G.getD j z_ 0)) = nI s
          · rw [if_pos h3]
            exact Or.inr ⟨rfl, cn_upd h1 (n_m1 (by omega)) 10 o.2.1.2⟩
          · rw [if_neg h3]
            exact Or.inl rfl
      · rw [if_neg h1]
        exact Or.inl rfl
    unfold cl_
    rcases hc with hc | ⟨hc1, hc2⟩
    · rw [hc] at ih ⊢
      exact ih
    · refine ⟨by omega, fun h => ?_, fun _ _ => by omega⟩
      have := (ih.2.1 h).1
      rw [hc1] at this
      exact absurd this (by decide)
theorem cl_no {T G : List rw_} {H : Nat → Int32} {t s : Nat} (hok : okGs T G) : ∀ (n j : Nat) (q : Int32 × (Nat → Int32)), n + j = G.length → ((∀ p : Nat, p < 10 → ¬ q.2 p = nI s) ∨ (∀ p : Nat, p < 10 → ¬ q.2 p = -1)) → cl_ T G H t s n j q = q
  | 0, _, _, _, _ => rfl
  | n + 1, j, q, hk, h => by
    have o := hok j (by omega)
    have hc : c1_ T G H t s j q = q := by
      unfold c1_
      by_cases h1 : q.2 (cN (G.getD j z_ 1)) = -1
      · rw [if_pos h1]
        by_cases h2 : lkv T G H t j = 0
        · rw [if_pos h2]
        · rw [if_neg h2]
          by_cases h3 : q.2 (cN (G.getD j z_ 0)) = nI s
          · rcases h with h | h
            · exact absurd h3 (h _ o.1.2)
            · exact absurd h1 (h _ o.2.1.2)
          · rw [if_neg h3]
      · rw [if_neg h1]
    unfold cl_
    rw [hc]
    exact cl_no hok n (j + 1) q (by omega) h
/-- the class's run and the model's -/
def cr_ (T G : List rw_) (H : Nat → Int32) (t : Nat) : Nat → Nat → Int32 × (Nat → Int32) → Nat → Int32
  | 0, _, q => q.2
  | n + 1, s, q => if q.1 = 0 then q.2 else cr_ T G H t n (s + 1) (cl_ T G H t s G.length 0 (0, q.2))
def mr_ (T G : List rw_) (H : Nat → Int32) (t : Nat) : Nat → Nat → (Nat → Int32) → Nat → Int32
  | 0, _, F => F
  | n + 1, s, F => mr_ T G H t n (s + 1) (cl_ T G H t s G.length 0 (0, F)).2
theorem mr_id {T G : List rw_} {H : Nat → Int32} {t : Nat} (hok : okGs T G) {F : Nat → Int32} : ∀ (n s : Nat), (∀ v p : Nat, s ≤ v → v < 100 → p < 10 → ¬ F p = nI v) → n + s ≤ 100 → mr_ T G H t n s F = F
  | 0, _, _, _ => rfl
  | n + 1, s, h, hs => by
    unfold mr_
    rw [cl_no hok G.length 0 (0, F) (by omega) (Or.inl (fun p hp => h s p (Nat.le_refl _) (by omega) hp))]
    exact mr_id hok n (s + 1) (fun v p h1 h2 h3 => h v p (by omega) h2 h3) (by omega)
theorem cI.ge {T G : List rw_} {H : Nat → Int32} {t s : Nat} {F : Nat → Int32} (h : cI T G H t s F) {v p : Nat} (hp : p < 10) (hv : s < v) (hv2 : v < 100) : ¬ F p = nI v := by
  intro e
  rcases h.1 p hp with e1 | ⟨w, e1, e2⟩
  · rw [e1] at e
    exact n_m1 (by omega) e.symm
  · rw [e2] at e
    have := (nI_eq (by omega) (by omega)).mp e
    omega
theorem mr_cr {T G : List rw_} {H : Nat → Int32} {t : Nat} (hok : okGs T G) : ∀ (n s : Nat) (q : Int32 × (Nat → Int32)), n + s = 9 → cI T G H t s q.2 → (q.1 = 0 → ∀ p : Nat, p < 10 → ¬ q.2 p = nI s) → (¬ q.1 = 0 → s + 1 ≤ cn10 q.2 10) → mr_ T G H t (n + 1) s q.2 = cr_ T G H t n s q ∧ cI T G H t 9 (cr_ T G H t n s q)
  | n, s, q, hn, hI, h0, h1 => by
    by_cases hc : q.1 = 0
    · have e : cr_ T G H t n s q = q.2 := by
        cases n with
        | zero => rfl
        | succ n => exact if_pos hc
      rw [e]
      refine ⟨mr_id hok (n + 1) s (fun v p hv hv2 hp => ?_) (by omega), ?_⟩
      · by_cases ev : v = s
        · rw [ev]
          exact h0 hc p hp
        · exact hI.ge hp (by omega) hv2
      · refine ⟨fun p hp => ?_, hI.2⟩
        rcases hI.1 p hp with e | ⟨v, e1, e2⟩
        · exact Or.inl e
        · exact Or.inr ⟨v, by omega, e2⟩
    · have hcn := h1 hc
      cases n with
      | zero =>
        have hs : s = 9 := by omega
        subst hs
        refine ⟨?_, hI⟩
        show (cl_ T G H t 9 G.length 0 (0, q.2)).2 = q.2
        rw [cl_no hok G.length 0 (0, q.2) (by omega) (Or.inr (cn_all 10 hcn))]
      | succ n =>
        have hC := cl_cn (t := t) (H := H) hok (show s < 10 by omega) G.length 0 (0, q.2) (by omega)
        have hI2 := cl_I (t := t) (H := H) hok (show s < 10 by omega) G.length 0 (0, q.2) (by omega) hI.up
        have e : cr_ T G H t (n + 1) s q = cr_ T G H t n (s + 1) (cl_ T G H t s G.length 0 (0, q.2)) := if_neg hc
        rw [e]
        refine mr_cr hok n (s + 1) (cl_ T G H t s G.length 0 (0, q.2)) (by omega) hI2 (fun hz p hp => ?_) (fun hz => ?_)
        · have h2 : (cl_ T G H t s G.length 0 (0, q.2)).2 = q.2 := (hC.2.1 hz).2
          rw [h2]
          exact hI.ge hp (by omega) (by omega)
        · have := hC.2.2 rfl hz
          have : cn10 q.2 10 < cn10 (cl_ T G H t s G.length 0 (0, q.2)).2 10 := this
          omega
/-- the passes see the first ten cells alone -/
theorem cl_congr {T G : List rw_} {H : Nat → Int32} {t s : Nat} (hok : okGs T G) : ∀ (n j : Nat) (q q' : Int32 × (Nat → Int32)), n + j = G.length → q.1 = q'.1 → eqon 10 q.2 q'.2 → (cl_ T G H t s n j q).1 = (cl_ T G H t s n j q').1 ∧ eqon 10 (cl_ T G H t s n j q).2 (cl_ T G H t s n j q').2
  | 0, _, _, _, _, h1, h2 => ⟨h1, h2⟩
  | n + 1, j, q, q', hk, h1, h2 => by
    have o := hok j (by omega)
    have hc : (c1_ T G H t s j q).1 = (c1_ T G H t s j q').1 ∧ eqon 10 (c1_ T G H t s j q).2 (c1_ T G H t s j q').2 := by
      unfold c1_
      rw [h2 _ o.1.2, h2 _ o.2.1.2]
      split
      · split
        · exact ⟨h1, h2⟩
        · split
          · exact ⟨rfl, h2.upd⟩
          · exact ⟨h1, h2⟩
      · exact ⟨h1, h2⟩
    unfold cl_
    exact cl_congr hok n (j + 1) _ _ (by omega) hc.1 hc.2
theorem cr_congr {T G : List rw_} {H : Nat → Int32} {t : Nat} (hok : okGs T G) : ∀ (n s : Nat) (q q' : Int32 × (Nat → Int32)), q.1 = q'.1 → eqon 10 q.2 q'.2 → eqon 10 (cr_ T G H t n s q) (cr_ T G H t n s q')
  | 0, _, _, _, _, h => h
  | n + 1, s, q, q', h1, h2 => by
    have hc := cl_congr (t := t) (s := s) (H := H) hok G.length 0 (0, q.2) (0, q'.2) (by omega) rfl h2
    unfold cr_
    rw [h1]
    split
    · exact h2
    · exact cr_congr hok n (s + 1) _ _ hc.1 hc.2
theorem mr_congr {T G : List rw_} {H : Nat → Int32} {t : Nat} (hok : okGs T G) : ∀ (n s : Nat) (F F' : Nat → Int32), eqon 10 F F' → eqon 10 (mr_ T G H t n s F) (mr_ T G H t n s F')
  | 0, _, _, _, h => h
  | n + 1, s, F, F', h => by
    have hc := cl_congr (t := t) (s := s) (H := H) hok G.length 0 (0, F) (0, F') (by omega) rfl h
    unfold mr_
    exact mr_congr hok n (s + 1) _ _ hc.2
