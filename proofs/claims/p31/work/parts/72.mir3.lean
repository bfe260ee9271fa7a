/-! ===== PURE: chains, the persons from the last one on ===== -/
def mf (F F' : Nat → Int32) : Prop := ∀ p : Nat, p < 10 → F' (9 - p) = F p
theorem mf.upd {F F' : Nat → Int32} {i : Nat} {v : Int32} (h : mf F F') (hi : i < 10) : mf (upd F i v) (upd F' (9 - i) v) := by
  intro p hp
  by_cases e : p = i
  · subst e
    rw [pk_us, pk_us]
  · rw [pk_un e, pk_un (show 9 - p ≠ 9 - i by omega), h p hp]
theorem lkv_m {T G : List rw_} {H H' : Nat → Int32} {t j : Nat} (h : mh T.length H H') (hj : j < G.length) (o : okG T.length (G.getD j z_)) : lkv (T.map mT) (G.map mG) H' t j = lkv T G H t j := by
  have e2 : mG (G.getD j z_) 2 = G.getD j z_ 2 := rfl
  unfold lkv
  rw [pa_m h hj o, gd_map hj, e2]
theorem c1_m {T G : List rw_} {H H' : Nat → Int32} {t s j : Nat} {q q' : Int32 × (Nat → Int32)} (h : mh T.length H H') (hj : j < G.length) (o : okG T.length (G.getD j z_)) (h1 : q'.1 = q.1) (h2 : mf q.2 q'.2) : (c1_ (T.map mT) (G.map mG) H' t s j q').1 = (c1_ T G H t s j q).1 ∧ mf (c1_ T G H t s j q).2 (c1_ (T.map mT) (G.map mG) H' t s j q').2 := by
  have e0 : cN (mG (G.getD j z_) 0) = 9 - cN (G.getD j z_ 0) := (mi_ok o.1).2
  have e1 : cN (mG (G.getD j z_) 1) = 9 - cN (G.getD j z_ 1) := (mi_ok o.2.1).2
  unfold c1_
  rw [gd_map hj, e0, e1, lkv_m h hj o, h2 _ o.1.2, h2 _ o.2.1.2]
  by_cases c : q.2 (cN (G.getD j z_ 1)) = -1
  · rw [if_pos c, if_pos c]
    by_cases d : lkv T G H t j = 0
    · rw [if_pos d, if_pos d]
      exact ⟨h1, h2⟩
    · rw [if_neg d, if_neg d]
      by_cases e : q.2 (cN (G.getD j z_ 0)) = nI s
      · rw [if_pos e, if_pos e]
        exact ⟨rfl, h2.upd o.2.1.2⟩
      · rw [if_neg e, if_neg e]
        exact ⟨h1, h2⟩
  · rw [if_neg c, if_neg c]
    exact ⟨h1, h2⟩
theorem cl_m {T G : List rw_} {H H' : Nat → Int32} {t s : Nat} (hok : okGs T G) (h : mh T.length H H') : ∀ (n j : Nat) (q q' : Int32 × (Nat → Int32)), n + j = G.length → q'.1 = q.1 → mf q.2 q'.2 → (cl_ (T.map mT) (G.map mG) H' t s n j q').1 = (cl_ T G H t s n j q).1 ∧ mf (cl_ T G H t s n j q).2 (cl_ (T.map mT) (G.map mG) H' t s n j q').2
  | 0, _, _, _, _, h1, h2 => ⟨h1, h2⟩
  | n + 1, j, q, q', e, h1, h2 => by
    have hh := c1_m (s := s) (t := t) h (show j < G.length by omega) (hok j (by omega)) h1 h2
    unfold cl_
    exact cl_m hok h n (j + 1) _ _ (by omega) hh.1 hh.2
theorem cr_m {T G : List rw_} {H H' : Nat → Int32} {t : Nat} (hok : okGs T G) (h : mh T.length H H') : ∀ (n s : Nat) (q q' : Int32 × (Nat → Int32)), q'.1 = q.1 → mf q.2 q'.2 → mf (cr_ T G H t n s q) (cr_ (T.map mT) (G.map mG) H' t n s q')
  | 0, _, _, _, _, h2 => h2
  | n + 1, s, q, q', h1, h2 => by
    have hh := cl_m (t := t) (s := s) hok h G.length 0 (0, q.2) (0, q'.2) (by omega) rfl h2
    unfold cr_
    rw [h1, List.length_map]
    by_cases c : q.1 = 0
    · rw [if_pos c, if_pos c]
      exact h2
    · rw [if_neg c, if_neg c]
      exact cr_m hok h n (s + 1) _ _ hh.1 hh.2
theorem f0_m {T : List rw_} {t : Nat} (hT : okTs T) (ht : t < T.length) : mf (f0_ T t) (f0_ (T.map mT) t) := by
  intro p hp
  have o := (hT t ht).1
  have e : cN (mT (T.getD t z_) 0) = 9 - cN (T.getD t z_ 0) := (mi_ok o).2
  have := o.2
  unfold f0_
  rw [gd_map ht, e]
  by_cases c : p = cN (T.getD t z_ 0)
  · rw [if_pos c, if_pos (by omega)]
  · rw [if_neg c, if_neg (by omega)]
theorem far_m {T G : List rw_} {t : Nat} (q : QG T G) (ht : t < T.length) : mf (far_ T G (hd T G) t) (far_ (T.map mT) (G.map mG) (hd (T.map mT) (G.map mG)) t) :=
  cr_m q.2.2.1 (hd_m q) 9 0 _ _ rfl (f0_m q.2.2.2 ht)
/-! the last link -/
def fi_ (b : Nat → Bool) : Nat → Nat → Int32
  | 0, _ => -1
  | n + 1, j => if b j = true then nI j else fi_ b n (j + 1)
theorem fi_congr {b b' : Nat → Bool} : ∀ (n j : Nat), (∀ i : Nat, i < n + j → b' i = b i) → fi_ b' n j = fi_ b n j
  | 0, _, _ => rfl
  | n + 1, j, h => by
    unfold fi_
    rw [h j (by omega), fi_congr n (j + 1) (fun i hi => h i (by omega))]
theorem fi_ex {b : Nat → Bool} : ∀ (n j : Nat), (∃ i : Nat, j ≤ i ∧ i < n + j ∧ b i = true) → ∃ i : Nat, i < n + j ∧ b i = true ∧ fi_ b n j = nI i
  | 0, _, h => by
    obtain ⟨i, h1, h2, _⟩ := h
    omega
  | n + 1, j, h => by
    unfold fi_
    by_cases c : b j = true
    · rw [if_pos c]
      exact ⟨j, by omega, c, rfl⟩
    · rw [if_neg c]
      obtain ⟨i, h1, h2, h3⟩ := h
      have hij : i ≠ j := fun e => c (by rw [← e]; exact h3)
      obtain ⟨i', a1, a2, a3⟩ := fi_ex (b := b) n (j + 1) ⟨i, by omega, by omega, h3⟩
      exact ⟨i', by omega, a2, a3⟩
def lkb (T G : List rw_) (H F : Nat → Int32) (t w v j : Nat) : Bool := decide (G.getD j z_ 1 = nI w ∧ F (cN (G.getD j z_ 0)) = nI v ∧ ¬ lkv T G H t j = 0)
theorem lkb_m {T G : List rw_} {H H' F F' : Nat → Int32} {t w v j : Nat} (h : mh T.length H H') (hF : mf F F') (hw : w < 10) (hj : j < G.length) (o : okG T.length (G.getD j z_)) : lkb (T.map mT) (G.map mG) H' F' t (9 - w) v j = lkb T G H F t w v j := by
  have e0 : cN (mG (G.getD j z_) 0) = 9 - cN (G.getD j z_ 0) := (mi_ok o.1).2
  have e1 : mG (G.getD j z_) 1 = mi (G.getD j z_ 1) := rfl
  unfold lkb
  rw [gd_map hj, e0, e1, lkv_m h hj o, hF _ o.1.2]
  exact decide_eq_decide.mpr ⟨fun z => ⟨(mi_eq o.2.1 hw).mp z.1, z.2⟩, fun z => ⟨(mi_eq o.2.1 hw).mpr z.1, z.2⟩⟩
theorem h_last {rT rG rH : Int32} {fT fG fH fS H Fa : Nat → Int32} {T G : List rw_} (c : QC rT fT rG fG rH fH T G H) (k : QK T G H) {t w v : Nat} (e1 : eqon 10 fS Fa) : ∀ (n j F : Nat), n + j = G.length → n < F → f_X0_lastLink_L3 (nI w) (nI t) (nI (v + 1)) (1 : Int32) fS rT fT rG fG rH fH F (nI j) = some (fi_ (lkb T G H Fa t w v) n j)
  | _, _, 0, _, hF => absurd hF (by omega)
  | 0, j, F + 1, h, hF => by
    have := k.1
    unfold f_X0_lastLink_L3 fi_
    rw [c.1.rows, bd_some, if_pos (q_le (by omega) (by omega) (by omega))]
  | n + 1, j, F + 1, h, hF => by
    have hl := k.1
    have ek : nI j + (1 : Int32) = nI (j + 1) := n_at
    have o := k.2.2.1 j (by omega)
    have ih := h_last c k (t := t) (w := w) (v := v) e1 n (j + 1) F (by omega) (by omega)
    unfold f_X0_lastLink_L3 fi_
    rw [c.1.rows, bd_some, if_neg (q_nle (by omega) (by omega) (by omega)), c.1.gb (by omega) hl, bd_some]
    have eb : (lkb T G H Fa t w v j = true) = (G.getD j z_ 1 = nI w ∧ Fa (cN (G.getD j z_ 0)) = nI v ∧ ¬ lkv T G H t j = 0) := by
      unfold lkb
      exact decide_eq_true_eq
    simp only [eb]
    by_cases c1 : G.getD j z_ 1 = nI w
    · rw [if_pos c1, c_lnk c k (by omega), bd_some, e1 _ o.1.2]
      by_cases c2 : Fa (cN (G.getD j z_ 0)) = nI v
      · rw [if_pos c2]
        by_cases c3 : lkv T G H t j = 0
        · rw [if_pos c3, nm_eq, ek, if_neg (fun z => z.2.2 c3)]
          exact ih
        · rw [if_neg c3, if_pos ⟨c1, c2, c3⟩]
      · rw [if_neg c2, if_pos rfl, nm_eq, ek, if_neg (fun z => c2 z.2.1)]
        exact ih
    · rw [if_neg c1, nm_eq, ek, if_neg (fun z => c1 z.1)]
      exact ih
/-- the last link of a chain, by its number -/
def lnk_ (T G : List rw_) (t w v : Nat) : Int32 := G.getD (cN (fi_ (lkb T G (hd T G) (far_ T G (hd T G) t) t w v) G.length 0)) z_ 5
theorem h_link {rT rG rH : Int32} {fT fG fH fS : Nat → Int32} {T G : List rw_} (c : QC rT fT rG fG rH fH T G (hd T G)) (q : QG T G) {t w v : Nat} (ht : t < T.length) (hw : w < 10) (hv : v < 9) (e1 : eqon 10 fS (far_ T G (hd T G) t)) (hF : far_ T G (hd T G) t w = nI (v + 1)) : f_X0_numberAt (nI w) (nI t) (nI v) (1 : Int32) fS rT fT rG fG rH fH = some (lnk_ T G t w v) := by
  have hl := q.1
  have hI := (far_mr q.k ht).2
  obtain ⟨j, j1, j2, j3, j4⟩ := hI.2 w v hw (by omega) hF
  have oj := q.2.2.1 j j1
  obtain ⟨i, i1, i2, i3⟩ := fi_ex (b := lkb T G (hd T G) (far_ T G (hd T G) t) t w v) G.length 0 ⟨j, by omega, by omega, by
    unfold lkb
    refine decide_eq_true ⟨?_, j4, j3⟩
    rw [oj.2.1.1, j2]⟩
  have hL := h_last c q.k (t := t) (w := w) (v := v) e1 G.length 0 FU (by omega) (by unfold FU; omega)
  have hL : f_X0_lastLink_L3 (nI w) (nI t) (nI (v + 1)) (1 : Int32) fS rT fT rG fG rH fH FU (0 : Int32) = some (fi_ (lkb T G (hd T G) (far_ T G (hd T G) t) t w v) G.length 0) := hL
  have em : nI (v + 1) + (-1 : Int32) = nI v := by
    rw [← n_at (a := v) (b := 1)]
    show nI v + (1 : Int32) + (-1 : Int32) = nI v
    rw [Int32.add_assoc]
    exact Int32.add_zero _
  have ei : cN (nI i) = i := cN_nI (by omega)
  have g5 := c.1.gn (k := i) (by omega) hl
  have g0 := c.1.gl (k := i) (by omega) hl
  unfold f_X0_numberAt lnk_
  rw [s_at hw, bd_some, e1 w hw, hF]
  have eF : FU = 3998 + 1 + 1 := rfl
  rw [eF]
  unfold f_X0_numberAt_L13
  rw [if_neg (q_nle (by omega) (by omega) (by omega)), if_neg (show ¬ nI (v + 1) ≤ (0 : Int32) from q_nle (b := 0) (by omega) (by omega) (by omega))]
  unfold f_X0_lastLink
  rw [hL, i3, bd_some, g5, bd_some, g0, bd_some, nm_eq, em, ei]
  unfold f_X0_numberAt_L13
  rw [if_pos (q_le (by omega) (by omega) (by omega)), bd_some]
theorem lnk_m {T G : List rw_} {t w v : Nat} (q : QG T G) (ht : t < T.length) (hw : w < 10) (hv : v < 10) (hF : far_ T G (hd T G) t w = nI (v + 1)) : lnk_ (T.map mT) (G.map mG) t (9 - w) v = lnk_ T G t w v := by
  have hl := q.1
  have hI := (far_mr q.k ht).2
  obtain ⟨j, j1, j2, j3, j4⟩ := hI.2 w v hw hv hF
  have oj := q.2.2.1 j j1
  obtain ⟨i, i1, i2, i3⟩ := fi_ex (b := lkb T G (hd T G) (far_ T G (hd T G) t) t w v) G.length 0 ⟨j, by omega, by omega, by
    unfold lkb
    refine decide_eq_true ⟨?_, j4, j3⟩
    rw [oj.2.1.1, j2]⟩
  unfold lnk_
  rw [List.length_map, fi_congr (b := lkb T G (hd T G) (far_ T G (hd T G) t) t w v) G.length 0 (fun i hi => lkb_m (hd_m q) (far_m q ht) hw (by omega) (q.2.2.1 i (by omega))), i3, cN_nI (by omega), gd_map (by omega)]
  rfl
