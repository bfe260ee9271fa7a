/-! ===== PURE: the persons from the last one on ===== -/
theorem b10 {P : Int32 → Prop} (h : ∀ j : Fin 10, P (nI j)) {x : Int32} (o : okN 10 x) : P x := by
  rw [o.1]
  exact h ⟨cN x, o.2⟩
def mi (x : Int32) : Int32 := (9 : Int32) - x
theorem mi_n : ∀ p : Fin 10, mi (nI p) = nI (9 - p) := by decide +kernel
theorem mi_nI {p : Nat} (h : p < 10) : mi (nI p) = nI (9 - p) := mi_n ⟨p, h⟩
theorem mi_ok {x : Int32} (o : okN 10 x) : okN 10 (mi x) ∧ cN (mi x) = 9 - cN x := by
  refine b10 (P := fun x => okN 10 (mi x) ∧ cN (mi x) = 9 - cN x) ?_ o
  show ∀ j : Fin 10, (mi (nI j) = nI (cN (mi (nI j))) ∧ cN (mi (nI j)) < 10) ∧ cN (mi (nI j)) = 9 - cN (nI j)
  decide +kernel
theorem mi_e : ∀ j p : Fin 10, (mi (nI j) = nI (9 - p) ↔ nI j = nI p) := by decide +kernel
theorem mi_eq {x : Int32} {p : Nat} (o : okN 10 x) (hp : p < 10) : (mi x = nI (9 - p) ↔ x = nI p) :=
  b10 (P := fun x => (mi x = nI (9 - p) ↔ x = nI p)) (fun j => mi_e j ⟨p, hp⟩) o
theorem mi_mi {x : Int32} (o : okN 10 x) : (9 : Int32) - mi x = x := by
  refine b10 (P := fun x => (9 : Int32) - mi x = x) ?_ o
  decide +kernel
def mT (r : rw_) : rw_ := fun j => if j = 0 then mi (r 0) else r j
def mG (g : rw_) : rw_ := fun j => if j = 0 then mi (g 0) else if j = 1 then mi (g 1) else g j
def mL (r : rw_) : rw_ := fun j => if j = 0 then r 0 else if j = 1 then r 1 else mi (r j)
theorem gd_map {f : rw_ → rw_} {L : List rw_} {k : Nat} (h : k < L.length) : (L.map f).getD k z_ = f (L.getD k z_) := by
  rw [List.getD_eq_getElem?_getD, List.getElem?_map, List.getElem?_eq_getElem h, List.getD_eq_getElem?_getD, List.getElem?_eq_getElem h]
  rfl
theorem okG.m {n : Nat} {g : rw_} (o : okG n g) : okG n (mG g) := ⟨(mi_ok o.1).1, (mi_ok o.2.1).1, o.2.2.1, o.2.2.2.1, o.2.2.2.2⟩
theorem okT.m {g : rw_} (o : okT g) : okT (mT g) := ⟨(mi_ok o.1).1, o.2⟩
theorem okGs.m {T G : List rw_} (h : okGs T G) : okGs (T.map mT) (G.map mG) := fun k hk => by
  rw [List.length_map] at hk ⊢
  rw [gd_map hk]
  exact (h k hk).m
theorem okTs.m {T : List rw_} (h : okTs T) : okTs (T.map mT) := fun k hk => by
  rw [List.length_map] at hk
  rw [gd_map hk]
  exact (h k hk).m
theorem QG.m {T G : List rw_} (q : QG T G) : QG (T.map mT) (G.map mG) := ⟨by rw [List.length_map]; exact q.1, by rw [List.length_map]; exact q.2.1, q.2.2.1.m, q.2.2.2.m⟩
def sg (i : Nat) : Nat := 10 * (i / 10) + (9 - i % 10)
theorem sg_at {t p : Nat} (hp : p < 10) : sg (10 * t + p) = 10 * t + (9 - p) := by
  unfold sg
  omega
theorem sg_lt {i m : Nat} (h : i < 10 * m) : sg i < 10 * m := by
  unfold sg
  omega
theorem sg_sg (i : Nat) : sg (sg i) = i := by
  unfold sg
  omega
/-- the same of each thing, the persons from the last one on -/
def mh (m : Nat) (H H' : Nat → Int32) : Prop := ∀ i : Nat, i < 10 * m → H' i = H (sg i)
theorem mh.at {m : Nat} {H H' : Nat → Int32} (h : mh m H H') {t p : Nat} (hp : p < 10) (ht : t < m) : H' (10 * t + (9 - p)) = H (10 * t + p) := by
  rw [h _ (by omega), sg_at (by omega)]
  congr 1
  omega
theorem mh.upd {m i : Nat} {H H' : Nat → Int32} {v : Int32} (h : mh m H H') : mh m (upd H i v) (upd H' (sg i) v) := by
  intro j hj
  by_cases e : j = sg i
  · subst e
    rw [pk_us, sg_sg, pk_us]
  · rw [pk_un e, pk_un (show sg j ≠ i from fun z => e (by rw [← z, sg_sg])), h j hj]
theorem pa_m {T G : List rw_} {H H' : Nat → Int32} {k : Nat} (h : mh T.length H H') (hk : k < G.length) (o : okG T.length (G.getD k z_)) : pa (T.map mT) (G.map mG) H' k = pa T G H k := by
  unfold pa
  rw [gd_map hk]
  have e1 : cN (mG (G.getD k z_) 0) = 9 - cN (G.getD k z_ 0) := (mi_ok o.1).2
  have e2 : mG (G.getD k z_) 2 = G.getD k z_ 2 := rfl
  have e3 : mG (G.getD k z_) 3 = G.getD k z_ 3 := rfl
  have e4 : mT (T.getD (cN (G.getD k z_ 2)) z_) 1 = T.getD (cN (G.getD k z_ 2)) z_ 1 := rfl
  rw [e1, e2, e3, h.at o.1.2 o.2.2.1.2, gd_map o.2.2.1.2, e4]
theorem ic_mi {T G : List rw_} {k : Nat} (hk : k < G.length) (o : okG T.length (G.getD k z_)) : ic (G.map mG) k = sg (ic G k) := by
  unfold ic
  rw [gd_map hk]
  have e1 : cN (mG (G.getD k z_) 1) = 9 - cN (G.getD k z_ 1) := (mi_ok o.2.1).2
  have e2 : mG (G.getD k z_) 2 = G.getD k z_ 2 := rfl
  rw [e1, e2, sg_at o.2.1.2]
theorem nv_m {T G : List rw_} {H H' : Nat → Int32} {k : Nat} (h : mh T.length H H') (hk : k < G.length) (o : okG T.length (G.getD k z_)) : nv (T.map mT) (G.map mG) H' k = nv T G H k := by
  unfold nv
  rw [ic_mi hk o, pa_m h hk o, h _ (sg_lt (ic_m o)), sg_sg]
theorem lp_m {T G : List rw_} (hok : okGs T G) : ∀ (n k : Nat) (c : Int32) (H H' : Nat → Int32), n + k = G.length → mh T.length H H' → (lp (T.map mT) (G.map mG) n k c H').1 = (lp T G n k c H).1 ∧ mh T.length (lp T G n k c H).2 (lp (T.map mT) (G.map mG) n k c H').2
  | 0, _, _, _, _, _, h => ⟨rfl, h⟩
  | n + 1, k, c, H, H', hk, h => by
    have o := hok k (by omega)
    have e : H' (sg (ic G k)) = H (ic G k) := by rw [h _ (sg_lt (ic_m o)), sg_sg]
    unfold lp
    rw [nv_m h (by omega) o, ic_mi (by omega) o, e]
    exact lp_m hok n (k + 1) _ _ _ (by omega) h.upd
theorem h0_m {T : List rw_} (hT : okTs T) : mh T.length (h0 T) (h0 (T.map mT)) := by
  intro i hi
  unfold h0
  have h1 : sg i / 10 = i / 10 := by
    unfold sg
    omega
  have h2 : sg i % 10 = 9 - i % 10 := by
    unfold sg
    omega
  have o := (hT (i / 10) (by omega)).1
  have e1 : cN (mT (T.getD (i / 10) z_) 0) = 9 - cN (T.getD (i / 10) z_ 0) := (mi_ok o).2
  have := o.2
  rw [gd_map (by omega), e1, h1, h2]
  by_cases c : i % 10 = 9 - cN (T.getD (i / 10) z_ 0)
  · rw [if_pos c, if_pos (by omega)]
  · rw [if_neg c, if_neg (by omega)]
theorem rn_m {T G : List rw_} (hok : okGs T G) : ∀ (f : Nat) (c : Int32) (H H' : Nat → Int32), mh T.length H H' → mh T.length (rn T G f c H) (rn (T.map mT) (G.map mG) f c H')
  | 0, _, _, _, h => h
  | f + 1, c, H, H', h => by
    have hh := lp_m hok G.length 0 0 H H' (by omega) h
    unfold rn
    rw [List.length_map]
    by_cases h0 : c = 0
    · rw [if_pos h0, if_pos h0]
      exact h
    · rw [if_neg h0, if_neg h0, hh.1]
      exact rn_m hok f _ _ _ hh.2
theorem hd_m {T G : List rw_} (q : QG T G) : mh T.length (hd T G) (hd (T.map mT) (G.map mG)) := rn_m q.2.2.1 241 1 _ _ (h0_m q.2.2.2)
/-! lists of counts -/
theorem see_m {H H' : Nat → Int32} {p : Nat} : ∀ (n t : Nat) (a : Int32), mh (n + t) H H' → p < 10 → see_ H' (9 - p) n t a = see_ H p n t a
  | 0, _, _, _, _ => rfl
  | n + 1, t, a, h, hp => by
    unfold see_
    rw [h.at hp (show t < n + 1 + t by omega)]
    exact see_m n (t + 1) _ (by rw [show n + (t + 1) = n + 1 + t by omega]; exact h) hp
theorem cnt_congr {L L' : List rw_} {j : Nat} {x x' : Int32} : ∀ (n k : Nat) (a : Int32), (∀ i : Nat, i < n + k → (L'.getD i z_ j = x' ↔ L.getD i z_ j = x)) → cnt_ L' j x' n k a = cnt_ L j x n k a
  | 0, _, _, _ => rfl
  | n + 1, k, a, h => by
    have e : (if L'.getD k z_ j = x' then a + 1 else a) = (if L.getD k z_ j = x then a + 1 else a) := by
      by_cases c : L.getD k z_ j = x
      · rw [if_pos c, if_pos ((h k (by omega)).mpr c)]
      · rw [if_neg c, if_neg (fun z => c ((h k (by omega)).mp z))]
    unfold cnt_
    rw [e]
    exact cnt_congr n (k + 1) _ (fun i hi => h i (by omega))
theorem cnt_T {T : List rw_} {p : Nat} (hT : okTs T) (hp : p < 10) : cnt_ (T.map mT) 0 (nI (9 - p)) (T.map mT).length 0 0 = cnt_ T 0 (nI p) T.length 0 0 := by
  rw [List.length_map]
  refine cnt_congr T.length 0 0 fun i hi => ?_
  rw [gd_map (by omega)]
  exact mi_eq (hT i (by omega)).1 hp
theorem cnt_G0 {T G : List rw_} {p : Nat} (hG : okGs T G) (hp : p < 10) : cnt_ (G.map mG) 0 (nI (9 - p)) (G.map mG).length 0 0 = cnt_ G 0 (nI p) G.length 0 0 := by
  rw [List.length_map]
  refine cnt_congr G.length 0 0 fun i hi => ?_
  rw [gd_map (by omega)]
  exact mi_eq (hG i (by omega)).1 hp
theorem cnt_G1 {T G : List rw_} {p : Nat} (hG : okGs T G) (hp : p < 10) : cnt_ (G.map mG) 1 (nI (9 - p)) (G.map mG).length 0 0 = cnt_ G 1 (nI p) G.length 0 0 := by
  rw [List.length_map]
  refine cnt_congr G.length 0 0 fun i hi => ?_
  rw [gd_map (by omega)]
  exact mi_eq (hG i (by omega)).2.1 hp
theorem gre_m {T G : List rw_} {p : Nat} (hG : okGs T G) (hp : p < 10) : ∀ (n j : Nat) (a : Int32), n + j = G.length → gre_ (G.map mG) (nI (9 - p)) n j a = gre_ G (nI p) n j a
  | 0, _, _, _ => rfl
  | n + 1, j, a, h => by
    have o := (hG j (by omega)).1
    have e0 : mG (G.getD j z_) 0 = mi (G.getD j z_ 0) := rfl
    have e4 : mG (G.getD j z_) 4 = G.getD j z_ 4 := rfl
    unfold gre_
    rw [gd_map (by omega), e0, e4]
    by_cases c : G.getD j z_ 0 = nI p
    · rw [if_pos c, if_pos ((mi_eq o hp).mpr c)]
      exact gre_m hG hp n (j + 1) _ (by omega)
    · rw [if_neg c, if_neg (fun z => c ((mi_eq o hp).mp z))]
      exact gre_m hG hp n (j + 1) _ (by omega)
theorem idl_m {T G : List rw_} {H H' : Nat → Int32} (hG : okGs T G) (h : mh T.length H H') : ∀ (n j : Nat) (a : Int32), n + j = G.length → idl_ (T.map mT) (G.map mG) H' n j a = idl_ T G H n j a
  | 0, _, _, _ => rfl
  | n + 1, j, a, e => by
    unfold idl_
    rw [pa_m h (by omega) (hG j (by omega))]
    exact idl_m hG h n (j + 1) _ (by omega)
theorem cw_m {T G : List rw_} {H H' : Nat → Int32} {p t : Nat} {x l : Int32} (hG : okGs T G) (h : mh T.length H H') (hp : p < 10) (ht : t < T.length) : ∀ (n j a : Nat), n + j = G.length → cw_ (G.map mG) H' (9 - p) t x l n j a = cw_ G H p t x l n j a
  | 0, _, _, _ => rfl
  | n + 1, j, a, e => by
    have o := hG j (by omega)
    have e0 : cN (mG (G.getD j z_) 0) = 9 - cN (G.getD j z_ 0) := (mi_ok o.1).2
    have e1 : mG (G.getD j z_) 1 = mi (G.getD j z_ 1) := rfl
    have e2 : mG (G.getD j z_) 2 = G.getD j z_ 2 := rfl
    have e3 : mG (G.getD j z_) 3 = G.getD j z_ 3 := rfl
    unfold cw_
    rw [gd_map (by omega), e0, e1, e2, e3, h.at o.1.2 ht]
    by_cases c : G.getD j z_ 1 = nI p
    · rw [if_pos c, if_pos ((mi_eq o.2.1 hp).mpr c)]
      exact cw_m hG h hp ht n (j + 1) _ (by omega)
    · rw [if_neg c, if_neg (fun z => c ((mi_eq o.2.1 hp).mp z))]
      exact cw_m hG h hp ht n (j + 1) _ (by omega)
theorem why_m {T G : List rw_} {H H' : Nat → Int32} {p t : Nat} {x : Int32} (hG : okGs T G) (h : mh T.length H H') (hp : p < 10) (ht : t < T.length) : why_ (T.map mT) (G.map mG) H' (9 - p) t x = why_ T G H p t x := by
  have e1 : mT (T.getD t z_) 1 = T.getD t z_ 1 := rfl
  unfold why_
  rw [List.length_map, h.at hp ht, gd_map ht, e1, cw_m hG h hp ht _ _ _ (by omega), cw_m hG h hp ht _ _ _ (by omega)]
