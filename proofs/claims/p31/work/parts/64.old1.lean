theorem n_at {a b : Nat} : nI a + nI b = nI (a + b) := nI_add a b
theorem n_mul {a b : Nat} : nI a * nI b = nI (a * b) := pk_mul a b
theorem n_le {a b : Nat} (ha : a < 2 ^ 31) (hb : b < 2 ^ 31) : nI a ≤ nI b ↔ a ≤ b := nI_leI ha hb
theorem n_lt {a b : Nat} (ha : a < 2 ^ 31) (hb : b < 2 ^ 31) : nI a < nI b ↔ a < b := nI_ltI ha hb
theorem n_ix {γ : Type} {i n : Nat} {k : Option γ} (h : i < n) (hn : n < 2 ^ 31) : ix (nI i) n k = k := by
  unfold ix
  rw [if_neg (nI_in h hn)]
theorem n_cl {i : Nat} (h : i < 2 ^ 31) : (nI i).toNatClampNeg = i := nI_clamp h
theorem n_idx {R C rows col n : Nat} (hR : R < rows) (hC : C < col) (hn : rows * col ≤ n) : R * col + C < n := by
  have h1 : (R + 1) * col ≤ rows * col := Nat.mul_le_mul_right _ hR
  rw [Nat.add_mul, Nat.one_mul] at h1
  omega
abbrev rw_ : Type := Nat → Int32
def z_ : rw_ := fun _ => 0
theorem p_at {col n R C rows : Nat} {f : Nat → Int32} (hR : R < rows) (hC : C < col) (hn : rows * col ≤ n) (hb : n < 100000) (h1 : rows < 100000) (h2 : col < 100000) : f_X3_at (nI col) n (nI R) (nI C) (nI rows) f = some (f (R * col + C)) := by
  have hi := n_idx hR hC hn
  unfold f_X3_at
  rw [if_neg (nI_pos (by omega)), if_neg (by rw [n_le (by omega) (by omega)]; omega), if_neg (nI_pos (by omega)), if_neg (by rw [n_le (by omega) (by omega)]; omega)]
  simp only [nm]
  rw [n_mul, n_at, if_neg (nI_pos (by omega)), if_neg (show ¬ Int32.ofNat n ≤ nI (R * col + C) from fun z => absurd ((n_le (a := n) (by omega) (by omega)).mp z) (by omega)), n_ix hi (by omega), n_cl (by omega)]
theorem p_put {col n R C rows : Nat} {f : Nat → Int32} {v : Int32} (hR : R < rows) (hC : C < col) (hn : rows * col ≤ n) (hb : n < 100000) (h1 : rows < 100000) (h2 : col < 100000) : f_X3_put (nI col) n (nI R) (nI C) v (nI rows) f = some (upd f (R * col + C) v) := by
  have hi := n_idx hR hC hn
  unfold f_X3_put
  rw [if_neg (nI_pos (by omega)), if_neg (by rw [n_le (by omega) (by omega)]; omega), if_neg (nI_pos (by omega)), if_neg (by rw [n_le (by omega) (by omega)]; omega)]
  simp only [nm]
  rw [n_mul, n_at]
  rw [if_neg (nI_pos (by omega)), if_neg (show ¬ Int32.ofNat n ≤ nI (R * col + C) from fun z => absurd ((n_le (a := n) (by omega) (by omega)).mp z) (by omega)), n_ix hi (by omega), n_cl (by omega)]
/-- a table's rows in use -/
def RT (col : Nat) (rows : Int32) (f : Nat → Int32) (L : List rw_) : Prop := rows = nI L.length ∧ ∀ k j : Nat, k < L.length → j < col → f (k * col + j) = L.getD k z_ j
theorem idx_inj {col k k' j j' : Nat} (hj : j < col) (hj' : j' < col) (h : k * col + j = k' * col + j') : k = k' ∧ j = j' := by
  have h0 : 0 < col := by omega
  have e1 : (k * col + j) / col = k := by rw [Nat.add_comm, Nat.add_mul_div_right _ _ h0, Nat.div_eq_of_lt hj, Nat.zero_add]
  have e2 : (k' * col + j') / col = k' := by rw [Nat.add_comm, Nat.add_mul_div_right _ _ h0, Nat.div_eq_of_lt hj', Nat.zero_add]
  have hk : k = k' := by rw [← e1, ← e2, h]
  subst hk
  exact ⟨rfl, by omega⟩
theorem RT.at {col n lim R C : Nat} {rows : Int32} {f : Nat → Int32} {L : List rw_} (h : RT col rows f L) (hR : R < L.length) (hC : C < col) (hl : L.length ≤ lim) (hn : lim * col ≤ n) (hb : n < 100000) (h1 : lim < 100000) (h2 : col < 100000) : f_X3_at (nI col) n (nI R) (nI C) rows f = some (L.getD R z_ C) := by
  rw [h.1, p_at hR hC (Nat.le_trans (Nat.mul_le_mul_right _ hl) hn) hb (by omega) h2, h.2 R C hR hC]
theorem RT.put {col n lim R C : Nat} {rows v : Int32} {f : Nat → Int32} {L : List rw_} (h : RT col rows f L) (hR : R < L.length) (hC : C < col) (hl : L.length ≤ lim) (hn : lim * col ≤ n) (hb : n < 100000) (h1 : lim < 100000) (h2 : col < 100000) :
    f_X3_put (nI col) n (nI R) (nI C) v rows f = some (upd f (R * col + C) v) ∧ RT col rows (upd f (R * col + C) v) (L.set R (upd (L.getD R z_) C v)) := by
  refine ⟨by rw [h.1, p_put hR hC (Nat.le_trans (Nat.mul_le_mul_right _ hl) hn) hb (by omega) h2], by rw [List.length_set]; exact h.1, fun k j hk hj => ?_⟩
  rw [List.length_set] at hk
  by_cases e : k = R
  · subst e
    rw [List.getD_eq_getElem?_getD, List.getElem?_set_self hk]
    show upd f (k * col + C) v (k * col + j) = upd (L.getD k z_) C v j
    by_cases ej : j = C
    · subst ej
      rw [pk_us, pk_us]
    · rw [pk_un (by omega), pk_un ej]
      exact h.2 k j hk hj
  · rw [pk_un (fun z => e (idx_inj hj hC z).1), List.getD_eq_getElem?_getD, List.getElem?_set_ne (Ne.symm e), ← List.getD_eq_getElem?_getD]
    exact h.2 k j hk hj
def cN (x : Int32) : Nat := x.toNatClampNeg
def okN (n : Nat) (x : Int32) : Prop := x = nI (cN x) ∧ cN x < n
def okG (nT : Nat) (g : rw_) : Prop := okN 10 (g 0) ∧ okN 10 (g 1) ∧ okN nT (g 2) ∧ okN 8 (g 3) ∧ okN 101 (g 4)
def okT (t : rw_) : Prop := okN 10 (t 0) ∧ okN 8 (t 1)
def pa (T G : List rw_) (H : Nat → Int32) (k : Nat) : Int32 :=
  if H (10 * cN (G.getD k z_ 2) + cN (G.getD k z_ 0)) &&& (4 : Int32) = (0 : Int32) then 0
  else (G.getD k z_ 3 &&& H (10 * cN (G.getD k z_ 2) + cN (G.getD k z_ 0))) &&& T.getD (cN (G.getD k z_ 2)) z_ 1
theorem bd_some {α β : Type} {a : α} {f : α → Option β} : bd (some a) f = f a := rfl
theorem h_at {nT t p : Nat} {fH : Nat → Int32} (hp : p < 10) (ht : t < nT) (hT : nT ≤ 8) : f_X3_at (10 : Int32) 80 (nI t) (nI p) (nI nT) fH = some (fH (10 * t + p)) := by
  have h := p_at (col := 10) (n := 80) (rows := nT) (f := fH) ht hp (by omega) (by omega) (by omega) (by omega)
  rw [Nat.mul_comm t 10] at h
  exact h
theorem h_put {nT t p : Nat} {fH : Nat → Int32} {v : Int32} (hp : p < 10) (ht : t < nT) (hT : nT ≤ 8) : f_X3_put (10 : Int32) 80 (nI t) (nI p) v (nI nT) fH = some (upd fH (10 * t + p) v) := by
  have h := p_put (col := 10) (n := 80) (rows := nT) (f := fH) (v := v) ht hp (by omega) (by omega) (by omega) (by omega)
  rw [Nat.mul_comm t 10] at h
  exact h
theorem RT.g {rG : Int32} {fG : Nat → Int32} {G : List rw_} {k j : Nat} (h : RT 6 rG fG G) (hk : k < G.length) (hl : G.length ≤ 40) (hj : j < 6) : f_X3_at (6 : Int32) 240 (nI k) (nI j) rG fG = some (G.getD k z_ j) :=
  h.at (lim := 40) hk hj hl (by omega) (by omega) (by omega) (by omega)
theorem RT.t {rT : Int32} {fT : Nat → Int32} {T : List rw_} {t j : Nat} (h : RT 2 rT fT T) (ht : t < T.length) (hl : T.length ≤ 8) (hj : j < 2) : f_X3_at (2 : Int32) 16 (nI t) (nI j) rT fT = some (T.getD t z_ j) :=
  h.at (lim := 8) ht hj hl (by omega) (by omega) (by omega) (by omega)
theorem h_passes {rT rG : Int32} {fT fG fH : Nat → Int32} {T G : List rw_} {k : Nat} (hG : RT 6 rG fG G) (hT : RT 2 rT fT T) (hk : k < G.length) (hl : G.length ≤ 40) (hlT : T.length ≤ 8) (ho1 : okG T.length (G.getD k z_)) : f_X2_passedOn (nI k) rT fT rG fG (nI T.length) fH = some (pa T G fH k) := by
  have e1 : f_X3_at (6 : Int32) 240 (nI k) (2 : Int32) rG fG = some (G.getD k z_ 2) := hG.g hk hl (show 2 < 6 by omega)
  have e2 : f_X3_at (6 : Int32) 240 (nI k) (0 : Int32) rG fG = some (G.getD k z_ 0) := hG.g hk hl (show 0 < 6 by omega)
  have e3 : f_X3_at (6 : Int32) 240 (nI k) (3 : Int32) rG fG = some (G.getD k z_ 3) := hG.g hk hl (show 3 < 6 by omega)
  have hh : f_X3_at (10 : Int32) 80 (G.getD k z_ 2) (G.getD k z_ 0) (nI T.length) fH = some (fH (10 * cN (G.getD k z_ 2) + cN (G.getD k z_ 0))) := by
    conv => lhs; rw [ho1.1.1, ho1.2.2.1.1]
    exact h_at ho1.1.2 ho1.2.2.1.2 hlT
  have hm : f_X3_at (2 : Int32) 16 (G.getD k z_ 2) (1 : Int32) rT fT = some (T.getD (cN (G.getD k z_ 2)) z_ 1) := by
    conv => lhs; rw [ho1.2.2.1.1]
    exact hT.t ho1.2.2.1.2 hlT (show 1 < 2 by omega)
  unfold f_X2_passedOn pa
  simp only [e1, e2, e3, hh, hm, bd_some, nm]
  split <;> rfl
theorem ixo {γ : Type} {i : Int32} {n : Nat} (z : Option γ) (h : ¬ (i < 0 ∨ n ≤ i.toNatClampNeg)) : ix i n z = z := if_neg h
theorem ix5 {γ : Type} (z : Option γ) : ix (5 : Int32) 320 z = z := ixo z (by decide)
theorem ix4 {γ : Type} (z : Option γ) : ix (4 : Int32) 320 z = z := ixo z (by decide)
theorem bd2_some {α β γ : Type} {a : α} {b : β} {f : α → β → Option γ} : bd2 (some (a, b)) f = f a b := rfl
theorem nm_eq {α β : Type} {e : α} {k : α → β} : nm e k = k e := rfl
def ic (G : List rw_) (k : Nat) : Nat := 10 * cN (G.getD k z_ 2) + cN (G.getD k z_ 1)
def nv (T G : List rw_) (H : Nat → Int32) (k : Nat) : Int32 := H (ic G k) ||| pa T G H k
def lp (T G : List rw_) : Nat → Nat → Int32 → (Nat → Int32) → Int32 × (Nat → Int32)
  | 0, _, c, H => (c, H)
  | n + 1, k, c, H => lp T G n (k + 1) (if c = 0 then (if nv T G H k = H (ic G k) then 0 else 1) else 1) (upd H (ic G k) (nv T G H k))
theorem ic_lt {G : List rw_} {k nT : Nat} (h : okG nT (G.getD k z_)) (hT : nT ≤ 8) : ic G k < 80 ∧ ic G k < 10 * nT := by
  have := h.2.1.2
  have := h.2.2.1.2
  unfold ic
  omega
theorem h_lap {rT rG : Int32} {fT fG : Nat → Int32} {T G : List rw_} (hG : RT 6 rG fG G) (hT : RT 2 rT fT T) (hl : G.length ≤ 40) (hlT : T.length ≤ 8) (hok : ∀ k : Nat, k < G.length → okG T.length (G.getD k z_)) : ∀ (n k F : Nat) (c : Int32) (ho : Nat → Int32), n + k = G.length → n < F → f_X2_settle_L80 rT fT rG fG (nI T.length) F c (nI k) ho = some (lp T G n k c ho)
  | _, _, 0, _, _, _, hF => absurd hF (by omega)
  | 0, k, F + 1, c, ho, h, hF => by
    have hle : nI G.length ≤ nI k := (n_le (by omega) (by omega)).mpr (by omega)
    unfold f_X2_settle_L80 lp f_X3_rows
    rw [hG.1, bd_some, if_pos hle]
  | n + 1, k, F + 1, c, ho, h, hF => by
    have hk : k < G.length := by omega
    have hle : ¬ nI G.length ≤ nI k := fun z => absurd ((n_le (by omega) (by omega)).mp z) (by omega)
    have o1 := hok k hk
    have er : f_X3_rows rG = some (nI G.length) := by rw [hG.1]; rfl
    have e1 : f_X3_at (6 : Int32) 240 (nI k) (2 : Int32) rG fG = some (G.getD k z_ 2) := hG.g hk hl (show 2 < 6 by omega)
    have e2 : f_X3_at (6 : Int32) 240 (nI k) (1 : Int32) rG fG = some (G.getD k z_ 1) := hG.g hk hl (show 1 < 6 by omega)
    have e3 : f_X3_at (10 : Int32) 80 (G.getD k z_ 2) (G.getD k z_ 1) (nI T.length) ho = some (ho (ic G k)) := by
      conv => lhs; rw [o1.2.1.1, o1.2.2.1.1]
      exact h_at o1.2.1.2 o1.2.2.1.2 hlT
    have e4 : ∀ v : Int32, f_X3_put (10 : Int32) 80 (G.getD k z_ 2) (G.getD k z_ 1) v (nI T.length) ho = some (upd ho (ic G k) v) := fun v => by
      conv => lhs; rw [o1.2.1.1, o1.2.2.1.1]
      exact h_put o1.2.1.2 o1.2.2.1.2 hlT
    have ek : nI k + (1 : Int32) = nI (k + 1) := n_at
    have ih := fun c ho => h_lap hG hT hl hlT hok n (k + 1) F c ho (by omega) (by omega)
    unfold f_X2_settle_L80 lp
    rw [er, bd_some, if_neg hle, e1, bd_some, e2, bd_some, e3, bd_some, h_passes hG hT hk hl hlT o1, bd_some, nm_eq, e4, bd_some]
    simp only [nm_eq, ek, ih]
    by_cases h0 : c = 0
    · rw [if_pos h0, if_pos h0]
      by_cases hv : nv T G ho k = ho (ic G k)
      · rw [if_pos hv]
        exact if_pos hv
      · rw [if_neg hv]
        exact if_neg hv
    · rw [if_neg h0, if_neg h0]
      rfl
theorem b8 {P : Int32 → Prop} (h : ∀ j : Fin 8, P (nI j)) {x : Int32} (o : okN 8 x) : P x := by
  rw [o.1]
  exact h ⟨cN x, o.2⟩
theorem b88 {P : Int32 → Int32 → Prop} (h : ∀ j k : Fin 8, P (nI j) (nI k)) {x y : Int32} (o : okN 8 x) (o' : okN 8 y) : P x y := by
  rw [o.1, o'.1]
  exact h ⟨cN x, o.2⟩ ⟨cN y, o'.2⟩
def pc (x : Int32) : Nat := cN x % 2 + cN x / 2 % 2 + cN x / 4 % 2
theorem or8 {x y : Int32} (o : okN 8 x) (o' : okN 8 y) : okN 8 (x ||| y) := by
  refine b88 (P := fun x y => okN 8 (x ||| y)) ?_ o o'
  show ∀ j k : Fin 8, (nI j ||| nI k) = nI (cN (nI j ||| nI k)) ∧ cN (nI j ||| nI k) < 8
  decide +kernel
theorem and8 {x y : Int32} (o : okN 8 x) (o' : okN 8 y) : okN 8 (x &&& y) := by
  refine b88 (P := fun x y => okN 8 (x &&& y)) ?_ o o'
  show ∀ j k : Fin 8, (nI j &&& nI k) = nI (cN (nI j &&& nI k)) ∧ cN (nI j &&& nI k) < 8
  decide +kernel
theorem ok0 : okN 8 0 := by
  show (0 : Int32) = nI (cN 0) ∧ cN 0 < 8
  decide +kernel
theorem ok7 : okN 8 7 := by
  show (7 : Int32) = nI (cN 7) ∧ cN 7 < 8
  decide +kernel
theorem pc_le {x : Int32} : pc x ≤ 3 := by
  unfold pc
  omega
theorem pc_or {x y : Int32} (o : okN 8 x) (o' : okN 8 y) : pc x ≤ pc (x ||| y) ∧ (x ||| y ≠ x → pc x < pc (x ||| y)) := by
  refine b88 (P := fun x y => pc x ≤ pc (x ||| y) ∧ (x ||| y ≠ x → pc x < pc (x ||| y))) ?_ o o'
  decide +kernel
theorem okN_nI {n k : Nat} (h : k < n) (hn : n < 1000000) : okN n (nI k) := by
  have e : cN (nI k) = k := nI_clamp (by omega)
  exact ⟨by rw [e], by rw [e]; exact h⟩
theorem cN_nI {k : Nat} (h : k < 2 ^ 31) : cN (nI k) = k := nI_clamp h
def eqon (n : Nat) (f g : Nat → Int32) : Prop := ∀ i : Nat, i < n → f i = g i
theorem eqon.upd {n i : Nat} {f g : Nat → Int32} {v : Int32} (h : eqon n f g) : eqon n (upd f i v) (upd g i v) := by
  intro j hj
  by_cases e : j = i
  · subst e
    rw [pk_us, pk_us]
  · rw [pk_un e, pk_un e]
    exact h j hj
theorem eqon.symm {n : Nat} {f g : Nat → Int32} (h : eqon n f g) : eqon n g f := fun i hi => (h i hi).symm
theorem eqon.trans {n : Nat} {f g k : Nat → Int32} (h : eqon n f g) (h' : eqon n g k) : eqon n f k := fun i hi => (h i hi).trans (h' i hi)
theorem eqon.rfl' {n : Nat} {f : Nat → Int32} : eqon n f f := fun _ _ => rfl
def okH (m : Nat) (H : Nat → Int32) : Prop := ∀ i : Nat, i < m → okN 8 (H i)
def okGs (T G : List rw_) : Prop := ∀ k : Nat, k < G.length → okG T.length (G.getD k z_)
def okTs (T : List rw_) : Prop := ∀ t : Nat, t < T.length → okT (T.getD t z_)
theorem pi_lt {T G : List rw_} {k : Nat} (o : okG T.length (G.getD k z_)) : 10 * cN (G.getD k z_ 2) + cN (G.getD k z_ 0) < 10 * T.length := by
  have := o.1.2
  have := o.2.2.1.2
  omega
theorem pa_congr {T G : List rw_} {H H' : Nat → Int32} {k : Nat} (h : eqon (10 * T.length) H H') (o : okG T.length (G.getD k z_)) : pa T G H k = pa T G H' k := by
  unfold pa
  rw [h _ (pi_lt o)]
theorem ic_m {T G : List rw_} {k : Nat} (o : okG T.length (G.getD k z_)) : ic G k < 10 * T.length := by
  have := o.2.1.2
  have := o.2.2.1.2
  unfold ic
  omega
theorem nv_congr {T G : List rw_} {H H' : Nat → Int32} {k : Nat} (h : eqon (10 * T.length) H H') (o : okG T.length (G.getD k z_)) : nv T G H k = nv T G H' k := by
  unfold nv
  rw [pa_congr h o, h _ (ic_m o)]
theorem lp_congr {T G : List rw_} (hok : okGs T G) : ∀ (n k : Nat) (c : Int32) (H H' : Nat → Int32), n + k = G.length → eqon (10 * T.length) H H' → (lp T G n k c H).1 = (lp T G n k c H').1 ∧ eqon (10 * T.length) (lp T G n k c H).2 (lp T G n k c H').2
  | 0, _, _, _, _, _, h => ⟨rfl, h⟩
  | n + 1, k, c, H, H', hk, h => by
    have o := hok k (by omega)
    unfold lp
    rw [nv_congr h o, h _ (ic_m o)]
    exact lp_congr hok n (k + 1) _ _ _ (by omega) h.upd
theorem pa_ok {T G : List rw_} {H : Nat → Int32} {k : Nat} (hH : okH (10 * T.length) H) (hT : okTs T) (o : okG T.length (G.getD k z_)) : okN 8 (pa T G H k) := by
  unfold pa
  split
  · exact ok0
  · exact and8 (and8 o.2.2.2.1 (hH _ (pi_lt o))) (hT _ o.2.2.1.2).2
theorem bd2_mk {α β γ : Type} {x : α × β} {f : α → β → Option γ} : bd2 (some x) f = f x.1 x.2 := rfl
def sm_ (H : Nat → Int32) : Nat → Nat
  | 0 => 0
  | m + 1 => sm_ H m + pc (H m)
theorem sm_le (H : Nat → Int32) : ∀ m : Nat, sm_ H m ≤ 3 * m
  | 0 => Nat.le_refl _
  | m + 1 => by
    have := sm_le H m
    have := pc_le (x := H m)
    unfold sm_
    omega
theorem sm_out {H : Nat → Int32} {i : Nat} {v : Int32} : ∀ m : Nat, m ≤ i → sm_ (upd H i v) m = sm_ H m
  | 0, _ => rfl
  | m + 1, h => by
    unfold sm_
    rw [sm_out m (by omega), pk_un (by omega)]
theorem sm_upd {H : Nat → Int32} {i : Nat} {v : Int32} : ∀ m : Nat, i < m → sm_ (upd H i v) m + pc (H i) = sm_ H m + pc v
  | 0, h => absurd h (by omega)
  | m + 1, h => by
    unfold sm_
    by_cases e : m = i
    · subst e
      rw [sm_out m (Nat.le_refl _), pk_us]
      omega
    · have := sm_upd (H := H) (i := i) (v := v) m (by omega)
      rw [pk_un e]
      omega
theorem okH.upd {m i : Nat} {H : Nat → Int32} {v : Int32} (h : okH m H) (hv : okN 8 v) : okH m (upd H i v) := by
  intro j hj
  by_cases e : j = i
  · subst e
    rw [pk_us]
    exact hv
  · rw [pk_un e]
    exact h j hj
theorem lp_up {T G : List rw_} (hok : okGs T G) (hT : okTs T) : ∀ (n k : Nat) (c : Int32) (H : Nat → Int32), n + k = G.length → okH (10 * T.length) H → okH (10 * T.length) (lp T G n k c H).2 ∧ sm_ H (10 * T.length) ≤ sm_ (lp T G n k c H).2 (10 * T.length) ∧ ((lp T G n k c H).1 ≠ 0 → c ≠ 0 ∨ sm_ H (10 * T.length) < sm_ (lp T G n k c H).2 (10 * T.length))
  | 0, _, _, _, _, h => ⟨h, Nat.le_refl _, fun z => Or.inl z⟩
  | n + 1, k, c, H, hk, h => by
    have o := hok k (by omega)
    have hp := pa_ok h hT o
    have hi := h _ (ic_m o)
    have hs := sm_upd (H := H) (v := nv T G H k) _ (ic_m o)
    have hq := pc_or hi hp
    have ih := lp_up hok hT n (k + 1) (if c = 0 then (if nv T G H k = H (ic G k) then 0 else 1) else 1) (upd H (ic G k) (nv T G H k)) (by omega) (h.upd (or8 hi hp))
    have hq1 : pc (H (ic G k)) ≤ pc (nv T G H k) := hq.1
    have hq2 : nv T G H k ≠ H (ic G k) → pc (H (ic G k)) < pc (nv T G H k) := hq.2
    unfold lp
    generalize hc : (if c = 0 then (if nv T G H k = H (ic G k) then (0 : Int32) else 1) else 1) = c' at ih ⊢
    refine ⟨ih.1, by omega, fun z => ?_⟩
    have i3 := ih.2.2 z
    by_cases h0 : c = 0
    · right
      rw [if_pos h0] at hc
      by_cases hv : nv T G H k = H (ic G k)
      · rw [if_pos hv] at hc
        rcases i3 with i3 | i3
        · exact absurd hc.symm i3
        · omega
      · have := hq2 hv
        omega
    · exact Or.inl h0
def rn (T G : List rw_) : Nat → Int32 → (Nat → Int32) → Nat → Int32
  | 0, _, H => H
  | f + 1, c, H => if c = 0 then H else rn T G f (lp T G G.length 0 0 H).1 (lp T G G.length 0 0 H).2
theorem rn_congr {T G : List rw_} (hok : okGs T G) : ∀ (f : Nat) (c : Int32) (H H' : Nat → Int32), eqon (10 * T.length) H H' → eqon (10 * T.length) (rn T G f c H) (rn T G f c H')
  | 0, _, _, _, h => h
  | f + 1, c, H, H', h => by
    have hh := lp_congr hok G.length 0 0 H H' (by omega) h
    unfold rn
    by_cases h0 : c = 0
    · rw [if_pos h0, if_pos h0]
      exact h
    · rw [if_neg h0, if_neg h0, hh.1]
      exact rn_congr hok f _ _ _ hh.2
theorem rn_ok {T G : List rw_} (hok : okGs T G) (hT : okTs T) : ∀ (f : Nat) (c : Int32) (H : Nat → Int32), okH (10 * T.length) H → okH (10 * T.length) (rn T G f c H)
  | 0, _, _, h => h
  | f + 1, c, H, h => by
    unfold rn
    split
    · exact h
    · exact rn_ok hok hT f _ _ (lp_up hok hT G.length 0 0 H (by omega) h).1
theorem h_run {rT rG : Int32} {fT fG : Nat → Int32} {T G : List rw_} (hG : RT 6 rG fG G) (hT : RT 2 rT fT T) (hl : G.length ≤ 40) (hlT : T.length ≤ 8) (hok : okGs T G) : ∀ (f x F : Nat) (c : Int32) (H : Nat → Int32), f + x = 241 → f < F → f_X2_settle_L65 rT fT rG fG (nI T.length) F c (nI x) H = some (rn T G f c H)
  | _, _, 0, _, _, _, hF => absurd hF (by omega)
  | 0, x, F + 1, c, H, h, hF => by
    have hle : (241 : Int32) ≤ nI x := (n_le (a := 241) (by omega) (by omega)).mpr (by omega)
    unfold f_X2_settle_L65 rn
    rw [if_pos hle]
  | f + 1, x, F + 1, c, H, h, hF => by
    have hle : ¬ (241 : Int32) ≤ nI x := fun z => absurd ((n_le (a := 241) (by omega) (by omega)).mp z) (by omega)
    have e := h_lap hG hT hl hlT hok G.length 0 FU 0 H (by omega) (by unfold FU; omega)
    have e : f_X2_settle_L80 rT fT rG fG (nI T.length) FU 0 (0 : Int32) H = some (lp T G G.length 0 0 H) := e
    have ek : nI x + (1 : Int32) = nI (x + 1) := n_at
    unfold f_X2_settle_L65 rn
    rw [if_neg hle]
    by_cases h0 : c = 0
    · rw [if_pos h0, if_pos h0]
    · rw [if_neg h0, if_neg h0, e, bd2_mk, nm_eq, ek]
      exact h_run hG hT hl hlT hok f (x + 1) F _ _ (by omega) (by omega)
