/-! ===== PURE: what is held is the least that the grants let ===== -/
def le8 (x y : Int32) : Prop := x ||| y = y
def leH (m : Nat) (H K : Nat → Int32) : Prop := ∀ i : Nat, i < 10 * m → le8 (H i) (K i)
theorem le8_rfl {x : Int32} : le8 x x := Int32.or_self
theorem le8_0 {x : Int32} : le8 0 x := Int32.zero_or
theorem b888 {P : Int32 → Int32 → Int32 → Prop} (h : ∀ j k l : Fin 8, P (nI j) (nI k) (nI l)) {x y z : Int32} (o : okN 8 x) (o' : okN 8 y) (o'' : okN 8 z) : P x y z := by
  rw [o.1, o'.1, o''.1]
  exact h ⟨cN x, o.2⟩ ⟨cN y, o'.2⟩ ⟨cN z, o''.2⟩
theorem le8_tr {x y z : Int32} (h : le8 x y) (h' : le8 y z) : le8 x z := by
  unfold le8 at *
  rw [← h', ← Int32.or_assoc, h]
theorem le8_or {x y z : Int32} (h : le8 x z) (h' : le8 y z) : le8 (x ||| y) z := by
  unfold le8 at *
  rw [Int32.or_assoc, h', h]
theorem le8_l {x y : Int32} : le8 x (x ||| y) := by
  unfold le8
  rw [← Int32.or_assoc, Int32.or_self]
theorem le8_r {x y : Int32} : le8 y (x ||| y) := by
  unfold le8
  rw [Int32.or_comm x y, ← Int32.or_assoc, Int32.or_self]
theorem le8_as {x y : Int32} (h : le8 x y) (h' : le8 y x) : x = y := by
  unfold le8 at *
  rw [← h', Int32.or_comm, h]
/-- what is passed on grows with what is held -/
def pa1 (r h m : Int32) : Int32 := if h &&& (4 : Int32) = (0 : Int32) then 0 else (r &&& h) &&& m
theorem pa1_n : ∀ j : Fin 8, ∀ k l r : Fin 8, nI k ||| nI l = nI l → pa1 (nI r) (nI k) (nI j) ||| pa1 (nI r) (nI l) (nI j) = pa1 (nI r) (nI l) (nI j) := by decide +kernel
theorem pa1_mono {r m h k : Int32} (or : okN 8 r) (om : okN 8 m) (oh : okN 8 h) (ok : okN 8 k) (hk : le8 h k) : le8 (pa1 r h m) (pa1 r k m) := by
  have e := pa1_n ⟨cN m, om.2⟩ ⟨cN h, oh.2⟩ ⟨cN k, ok.2⟩ ⟨cN r, or.2⟩
  unfold le8 at *
  rw [or.1, om.1, oh.1, ok.1]
  refine e ?_
  rw [← oh.1, ← ok.1]
  exact hk
theorem pa1_m {r m h : Int32} (or : okN 8 r) (om : okN 8 m) (oh : okN 8 h) : le8 (pa1 r h m) m := by
  refine b888 (P := fun r h m => pa1 r h m ||| m = m) ?_ or oh om
  decide +kernel
theorem pa_1 {T G : List rw_} {H : Nat → Int32} {k : Nat} : pa T G H k = pa1 (G.getD k z_ 3) (H (10 * cN (G.getD k z_ 2) + cN (G.getD k z_ 0))) (T.getD (cN (G.getD k z_ 2)) z_ 1) := rfl
theorem pa_mono {T G : List rw_} {H K : Nat → Int32} {k : Nat} (hT : okTs T) (o : okG T.length (G.getD k z_)) (hH : okH (10 * T.length) H) (hK : okH (10 * T.length) K) (h : leH T.length H K) : le8 (pa T G H k) (pa T G K k) := by
  rw [pa_1, pa_1]
  exact pa1_mono o.2.2.2.1 (hT _ o.2.2.1.2).2 (hH _ (pi_lt o)) (hK _ (pi_lt o)) (h _ (pi_lt o))
/-- a holding that no grant makes greater -/
def clo (T G : List rw_) (K : Nat → Int32) : Prop := ∀ k : Nat, k < G.length → le8 (pa T G K k) (K (ic G k))
theorem lp_least {T G : List rw_} {K : Nat → Int32} (hok : okGs T G) (hT : okTs T) (hK : okH (10 * T.length) K) (hc : clo T G K) : ∀ (n k : Nat) (c : Int32) (H : Nat → Int32), n + k = G.length → okH (10 * T.length) H → leH T.length H K → leH T.length (lp T G n k c H).2 K
  | 0, _, _, _, _, _, h => h
  | n + 1, k, c, H, e, oH, h => by
    have o := hok k (by omega)
    unfold lp
    refine lp_least hok hT hK hc n (k + 1) _ _ (by omega) (oH.upd (or8 (oH _ (ic_m o)) (pa_ok oH hT o))) ?_
    intro i hi
    by_cases ei : i = ic G k
    · subst ei
      rw [pk_us]
      exact le8_or (h _ hi) (le8_tr (pa_mono hT o oH hK h) (hc k (by omega)))
    · rw [pk_un ei]
      exact h i hi
theorem rn_least {T G : List rw_} {K : Nat → Int32} (hok : okGs T G) (hT : okTs T) (hK : okH (10 * T.length) K) (hc : clo T G K) : ∀ (f : Nat) (c : Int32) (H : Nat → Int32), okH (10 * T.length) H → leH T.length H K → leH T.length (rn T G f c H) K
  | 0, _, _, _, h => h
  | f + 1, c, H, oH, h => by
    unfold rn
    by_cases h0 : c = 0
    · rw [if_pos h0]
      exact h
    · rw [if_neg h0]
      exact rn_least hok hT hK hc f _ _ (lp_up hok hT G.length 0 0 H (by omega) oH).1 (lp_least hok hT hK hc G.length 0 0 H (by omega) oH h)
theorem hd_least {T G : List rw_} {K : Nat → Int32} (q : QG T G) (hK : okH (10 * T.length) K) (hc : clo T G K) (h : leH T.length (h0 T) K) : leH T.length (hd T G) K := rn_least q.2.2.1 q.2.2.2 hK hc 241 1 _ (h0_ok _) h
theorem lp_ge {T G : List rw_} (hok : okGs T G) : ∀ (n k : Nat) (c : Int32) (H : Nat → Int32), n + k = G.length → leH T.length H (lp T G n k c H).2
  | 0, _, _, _, _ => fun _ _ => le8_rfl
  | n + 1, k, c, H, e => by
    have ih := lp_ge hok n (k + 1) (if c = 0 then (if nv T G H k = H (ic G k) then 0 else 1) else 1) (upd H (ic G k) (nv T G H k)) (by omega)
    unfold lp
    intro i hi
    refine le8_tr ?_ (ih i hi)
    by_cases ei : i = ic G k
    · subst ei
      rw [pk_us]
      exact le8_l
    · rw [pk_un ei]
      exact le8_rfl
theorem rn_ge {T G : List rw_} (hok : okGs T G) : ∀ (f : Nat) (c : Int32) (H : Nat → Int32), leH T.length H (rn T G f c H)
  | 0, _, _ => fun _ _ => le8_rfl
  | f + 1, c, H => by
    unfold rn
    by_cases h0 : c = 0
    · rw [if_pos h0]
      exact fun _ _ => le8_rfl
    · rw [if_neg h0]
      exact fun i hi => le8_tr (lp_ge hok G.length 0 0 H (by omega) i hi) (rn_ge hok f _ _ i hi)
theorem hd_ge {T G : List rw_} (q : QG T G) : leH T.length (h0 T) (hd T G) := rn_ge q.2.2.1 241 1 _
theorem lp_clo {T G : List rw_} : ∀ (n k : Nat) (c : Int32) (H : Nat → Int32), n + k = G.length → (lp T G n k c H).1 = 0 → c = 0 ∧ (lp T G n k c H).2 = H ∧ ∀ j : Nat, k ≤ j → j < G.length → nv T G H j = H (ic G j)
  | 0, k, _, _, e, h => ⟨h, rfl, fun j h1 h2 => absurd h1 (by omega)⟩
  | n + 1, k, c, H, e, h => by
    unfold lp at h ⊢
    obtain ⟨h1, h2, h3⟩ := lp_clo n (k + 1) _ _ (by omega) h
    by_cases c0 : c = 0
    · rw [if_pos c0] at h1
      by_cases cv : nv T G H k = H (ic G k)
      · have eu : upd H (ic G k) (nv T G H k) = H := by rw [cv, upd_id]
        rw [eu] at h2 h3 ⊢
        refine ⟨c0, h2, fun j j1 j2 => ?_⟩
        by_cases ej : j = k
        · rw [ej]
          exact cv
        · exact h3 j (by omega) j2
      · rw [if_neg cv] at h1
        exact absurd h1 (by decide)
    · rw [if_neg c0] at h1
      exact absurd h1 (by decide)
theorem rn_clo {T G : List rw_} (hok : okGs T G) (hT : okTs T) (hl : T.length ≤ 8) : ∀ (f : Nat) (c : Int32) (H : Nat → Int32), okH (10 * T.length) H → (c = 0 → clo T G H) → (c = 0 ∨ 241 ≤ sm_ H (10 * T.length) + f) → clo T G (rn T G f c H)
  | 0, c, H, oH, hc, h => by
    have hs := sm_le H (10 * T.length)
    rcases h with h | h
    · exact hc h
    · omega
  | f + 1, c, H, oH, hc, h => by
    unfold rn
    by_cases h0 : c = 0
    · rw [if_pos h0]
      exact hc h0
    · rw [if_neg h0]
      have hu := lp_up hok hT G.length 0 0 H (by omega) oH
      refine rn_clo hok hT hl f _ _ hu.1 (fun z => ?_) ?_
      · obtain ⟨_, h2, h3⟩ := lp_clo G.length 0 0 H (by omega) z
        rw [h2]
        intro k hk
        have e : nv T G H k = H (ic G k) := h3 k (by omega) hk
        unfold nv at e
        unfold le8
        rw [Int32.or_comm]
        exact e
      · by_cases z : (lp T G G.length 0 0 H).1 = 0
        · exact Or.inl z
        · rcases hu.2.2 z with z1 | z1
          · exact absurd rfl z1
          · rcases h with h | h
            · exact absurd h h0
            · exact Or.inr (by omega)
theorem hd_clo {T G : List rw_} (q : QG T G) : clo T G (hd T G) := rn_clo q.2.2.1 q.2.2.2 q.2.1 241 1 _ (h0_ok _) (fun z => absurd z (by decide)) (Or.inr (by omega))
theorem hd_o {T G : List rw_} (q : QG T G) {t p : Nat} (hp : p < 10) (ht : t < T.length) : okN 8 (hd T G (10 * t + p)) := hd_ok q.2.2.1 q.2.2.2 _ (by omega)
theorem le7 {x : Int32} (o : okN 8 x) (h : le8 7 x) : x = 7 := by
  refine b8 (P := fun x => le8 7 x → x = 7) ?_ o h
  show ∀ j : Fin 8, (7 : Int32) ||| nI j = nI j → nI j = 7
  decide +kernel
theorem x7 {x : Int32} (o : okN 8 x) : le8 x 7 := by
  refine b8 (P := fun x => le8 x 7) ?_ o
  show ∀ j : Fin 8, nI j ||| (7 : Int32) = 7
  decide +kernel
theorem h0_at {T : List rw_} {t p : Nat} (hp : p < 10) : h0 T (10 * t + p) = if p = cN (T.getD t z_ 0) then 7 else 0 := by
  unfold h0
  rw [show (10 * t + p) % 10 = p by omega, show (10 * t + p) / 10 = t by omega]
/-- an owner holds all -/
theorem hd_own {T G : List rw_} (q : QG T G) {t p : Nat} (hp : p < 10) (ht : t < T.length) (h : T.getD t z_ 0 = nI p) : hd T G (10 * t + p) = 7 := by
  have h1 := hd_ge q (10 * t + p) (by omega)
  rw [h0_at hp, if_pos (by rw [h, cN_nI (by omega)])] at h1
  exact le7 (hd_o q hp ht) h1
/-- others hold nothing beyond the mask -/
theorem hd_msk {T G : List rw_} (q : QG T G) {t p : Nat} (hp : p < 10) (ht : t < T.length) (h : ¬ T.getD t z_ 0 = nI p) : le8 (hd T G (10 * t + p)) (T.getD t z_ 1) := by
  have key := hd_least (K := fun i => if i % 10 = cN (T.getD (i / 10) z_ 0) then 7 else T.getD (i / 10) z_ 1) q (fun i hi => by
    show okN 8 (if i % 10 = cN (T.getD (i / 10) z_ 0) then 7 else T.getD (i / 10) z_ 1)
    split
    · exact ok7
    · exact (q.2.2.2 (i / 10) (by omega)).2) (fun k hk => by
    have o := q.2.2.1 k hk
    have ol := o.2.1.2
    have od : ic G k / 10 = cN (G.getD k z_ 2) := by
      unfold ic
      omega
    show le8 _ (if ic G k % 10 = cN (T.getD (ic G k / 10) z_ 0) then 7 else T.getD (ic G k / 10) z_ 1)
    have oh : okN 8 ((fun i => if i % 10 = cN (T.getD (i / 10) z_ 0) then (7 : Int32) else T.getD (i / 10) z_ 1) (10 * cN (G.getD k z_ 2) + cN (G.getD k z_ 0))) := by
      show okN 8 (if _ then _ else _)
      split
      · exact ok7
      · have := pi_lt o
        exact (q.2.2.2 _ (by omega)).2
    have h1 : le8 (pa T G (fun i => if i % 10 = cN (T.getD (i / 10) z_ 0) then (7 : Int32) else T.getD (i / 10) z_ 1) k) (T.getD (cN (G.getD k z_ 2)) z_ 1) := pa1_m o.2.2.2.1 (q.2.2.2 _ o.2.2.1.2).2 oh
    by_cases c : ic G k % 10 = cN (T.getD (ic G k / 10) z_ 0)
    · rw [if_pos c]
      exact le8_tr h1 (x7 (q.2.2.2 _ o.2.2.1.2).2)
    · rw [if_neg c, od]
      exact h1) (fun i hi => by
    show le8 (h0 T i) (if i % 10 = cN (T.getD (i / 10) z_ 0) then 7 else T.getD (i / 10) z_ 1)
    unfold h0
    split
    · exact le8_rfl
    · exact le8_0)
  have h1 := key (10 * t + p) (by omega)
  have h2 : le8 (hd T G (10 * t + p)) (if (10 * t + p) % 10 = cN (T.getD ((10 * t + p) / 10) z_ 0) then 7 else T.getD ((10 * t + p) / 10) z_ 1) := h1
  rw [show (10 * t + p) % 10 = p by omega, show (10 * t + p) / 10 = t by omega, if_neg (fun z => h (by rw [(q.2.2.2 t ht).1.1, ← z]))] at h2
  exact h2
/-! chains and what is held -/
theorem c1_old {T G : List rw_} {H : Nat → Int32} {t s j : Nat} {q : Int32 × (Nat → Int32)} (p : Nat) : (c1_ T G H t s j q).2 p = q.2 p ∨ (q.2 p = -1 ∧ (c1_ T G H t s j q).2 p = nI (s + 1)) := by
  unfold c1_
  by_cases a : q.2 (cN (G.getD j z_ 1)) = -1
  · rw [if_pos a]
    by_cases b : lkv T G H t j = 0
    · rw [if_pos b]
      exact Or.inl rfl
    · rw [if_neg b]
      by_cases c : q.2 (cN (G.getD j z_ 0)) = nI s
      · rw [if_pos c]
        by_cases d : p = cN (G.getD j z_ 1)
        · right
          rw [d]
          exact ⟨a, pk_us⟩
        · left
          exact pk_un d
      · rw [if_neg c]
        exact Or.inl rfl
  · rw [if_neg a]
    exact Or.inl rfl
theorem cl_old {T G : List rw_} {H : Nat → Int32} {t s : Nat} (hs : s < 100) (p : Nat) : ∀ (n j : Nat) (q : Int32 × (Nat → Int32)), (cl_ T G H t s n j q).2 p = q.2 p ∨ (q.2 p = -1 ∧ (cl_ T G H t s n j q).2 p = nI (s + 1))
  | 0, _, _ => Or.inl rfl
  | n + 1, j, q => by
    have h1 := c1_old (T := T) (G := G) (H := H) (t := t) (s := s) (j := j) (q := q) p
    have h2 := cl_old (T := T) (G := G) (H := H) (t := t) hs p n (j + 1) (c1_ T G H t s j q)
    unfold cl_
    rcases h1 with h1 | ⟨h1, h1'⟩
    · rw [h1] at h2
      exact h2
    · rcases h2 with h2 | ⟨h2, _⟩
      · exact Or.inr ⟨h1, by rw [h2, h1']⟩
      · rw [h1'] at h2
        exact absurd h2 (n_m1 (by omega))
theorem cl_close {T G : List rw_} {H : Nat → Int32} {t s : Nat} (hs : s < 100) : ∀ (n j : Nat) (q : Int32 × (Nat → Int32)), n + j = G.length → ∀ i : Nat, j ≤ i → i < G.length → ¬ lkv T G H t i = 0 → q.2 (cN (G.getD i z_ 0)) = nI s → ¬ (cl_ T G H t s n j q).2 (cN (G.getD i z_ 1)) = -1
  | 0, j, _, e, i, h1, h2, _, _ => absurd h1 (by omega)
  | n + 1, j, q, e, i, h1, h2, h3, h4 => by
    unfold cl_
    have hl := c1_old (T := T) (G := G) (H := H) (t := t) (s := s) (j := j) (q := q) (cN (G.getD i z_ 0))
    have hl : (c1_ T G H t s j q).2 (cN (G.getD i z_ 0)) = nI s := by
      rcases hl with z | ⟨z, _⟩
      · rw [z, h4]
      · rw [h4] at z
        exact absurd z (n_m1 (by omega))
    by_cases ei : i = j
    · subst ei
      have hb : ¬ (c1_ T G H t s i q).2 (cN (G.getD i z_ 1)) = -1 := by
        unfold c1_
        by_cases a : q.2 (cN (G.getD i z_ 1)) = -1
        · rw [if_pos a, if_neg h3, if_pos h4]
          show ¬ upd q.2 (cN (G.getD i z_ 1)) (nI (s + 1)) (cN (G.getD i z_ 1)) = -1
          rw [pk_us]
          exact n_m1 (by omega)
        · rw [if_neg a]
          exact a
      rcases cl_old (T := T) (G := G) (H := H) (t := t) hs (cN (G.getD i z_ 1)) n (i + 1) (c1_ T G H t s i q) with z | ⟨z, _⟩
      · rw [z]
        exact hb
      · exact absurd z hb
    · exact cl_close hs n (j + 1) _ (by omega) i (by omega) h2 h3 hl
def fcl (T G : List rw_) (H : Nat → Int32) (t s : Nat) (F : Nat → Int32) : Prop := ∀ j : Nat, j < G.length → ¬ lkv T G H t j = 0 → (∃ v : Nat, v < s ∧ F (cN (G.getD j z_ 0)) = nI v) → ¬ F (cN (G.getD j z_ 1)) = -1
theorem cl_fcl {T G : List rw_} {H : Nat → Int32} {t s : Nat} (hs : s < 90) {q : Int32 × (Nat → Int32)} (h : fcl T G H t s q.2) : fcl T G H t (s + 1) (cl_ T G H t s G.length 0 q).2 := by
  intro j hj hk ⟨v, v1, v2⟩
  have hl : q.2 (cN (G.getD j z_ 0)) = nI v := by
    rcases cl_old (T := T) (G := G) (H := H) (t := t) (s := s) (by omega) (cN (G.getD j z_ 0)) G.length 0 q with z | ⟨_, z⟩
    · rw [← z, v2]
    · rw [z] at v2
      have := (nI_eq (by omega) (by omega)).mp v2
      omega
  by_cases ev : v = s
  · rw [ev] at hl
    exact cl_close (by omega) G.length 0 q (by omega) j (by omega) hj hk hl
  · have hb := h j hj hk ⟨v, by omega, hl⟩
    rcases cl_old (T := T) (G := G) (H := H) (t := t) (s := s) (by omega) (cN (G.getD j z_ 1)) G.length 0 q with z | ⟨z, _⟩
    · rw [z]
      exact hb
    · exact absurd z hb
theorem mr_fcl {T G : List rw_} {H : Nat → Int32} {t : Nat} : ∀ (n s : Nat) (F : Nat → Int32), n + s ≤ 20 → fcl T G H t s F → fcl T G H t (n + s) (mr_ T G H t n s F)
  | 0, s, F, _, h => by
    rw [Nat.zero_add]
    exact h
  | n + 1, s, F, e, h => by
    unfold mr_
    rw [show n + 1 + s = n + (s + 1) by omega]
    exact mr_fcl n (s + 1) _ (by omega) (cl_fcl (by omega) h)
theorem far_fcl {T G : List rw_} {t : Nat} (q : QG T G) (ht : t < T.length) {j : Nat} (hj : j < G.length) (h : ¬ lkv T G (hd T G) t j = 0) (h1 : ¬ far_ T G (hd T G) t (cN (G.getD j z_ 0)) = -1) : ¬ far_ T G (hd T G) t (cN (G.getD j z_ 1)) = -1 := by
  have hm := far_mr q.k ht
  have hc := mr_fcl (T := T) (G := G) (H := hd T G) (t := t) 10 0 (f0_ T t) (by omega) (fun j _ _ z => by
    obtain ⟨v, v1, _⟩ := z
    omega)
  rw [hm.1] at hc
  rcases hm.2.1 _ (q.2.2.1 j hj).1.2 with z | ⟨v, v1, v2⟩
  · exact absurd z h1
  · exact hc j hj h ⟨v, by omega, v2⟩
theorem cr_z {T G : List rw_} {H : Nat → Int32} {t w : Nat} : ∀ (n s : Nat) (q : Int32 × (Nat → Int32)), n + s ≤ 50 → (∀ p : Nat, q.2 p = 0 → p = w) → ∀ p : Nat, cr_ T G H t n s q p = 0 → p = w
  | 0, _, _, _, h => h
  | n + 1, s, q, e, h => by
    unfold cr_
    by_cases c : q.1 = 0
    · rw [if_pos c]
      exact h
    · rw [if_neg c]
      refine cr_z n (s + 1) _ (by omega) (fun p hp => ?_)
      rcases cl_old (T := T) (G := G) (H := H) (t := t) (s := s) (by omega) p G.length 0 (0, q.2) with z | ⟨_, z⟩
      · exact h p (by rw [← hp, z])
      · rw [z] at hp
        exact absurd hp (q_ne (b := 0) (by omega) (by omega) (by omega))
theorem far_z {T G : List rw_} {t p : Nat} (h : far_ T G (hd T G) t p = 0) : p = cN (T.getD t z_ 0) :=
  cr_z 9 0 (1, f0_ T t) (by omega) (fun p hp => by
    have hp : (if p = cN (T.getD t z_ 0) then (0 : Int32) else -1) = 0 := hp
    by_cases c : p = cN (T.getD t z_ 0)
    · exact c
    · rw [if_neg c] at hp
      exact absurd hp (by decide)) p h
theorem an1_n : ∀ j k : Fin 8, nI j ||| nI k = nI k → ¬ nI j &&& (1 : Int32) = 0 → ¬ nI k &&& (1 : Int32) = 0 := by decide +kernel
theorem an1 {x y : Int32} (o : okN 8 x) (o' : okN 8 y) (h : le8 x y) (h1 : ¬ x &&& (1 : Int32) = 0) : ¬ y &&& (1 : Int32) = 0 := by
  have e := an1_n ⟨cN x, o.2⟩ ⟨cN y, o'.2⟩
  unfold le8 at h
  rw [o.1] at h1
  rw [o.1, o'.1] at h
  rw [o'.1]
  exact e h h1
theorem lkv_pa {T G : List rw_} {H : Nat → Int32} {t j : Nat} (h : ¬ lkv T G H t j = 0) : G.getD j z_ 2 = nI t ∧ ¬ pa T G H j &&& (1 : Int32) = 0 := by
  unfold lkv at h
  by_cases c : G.getD j z_ 2 = nI t
  · rw [if_pos c] at h
    refine ⟨c, fun z => h ?_⟩
    rw [if_pos z]
  · rw [if_neg c] at h
    exact absurd rfl h
theorem pa_lkv {T G : List rw_} {H : Nat → Int32} {t j : Nat} (h : G.getD j z_ 2 = nI t) (h1 : ¬ pa T G H j &&& (1 : Int32) = 0) : ¬ lkv T G H t j = 0 := by
  unfold lkv
  rw [if_pos h, if_neg h1]
  decide
/-- who is reached sees -/
theorem far_see {T G : List rw_} {t p : Nat} (q : QG T G) (hp : p < 10) (ht : t < T.length) (h : ¬ far_ T G (hd T G) t p = -1) : ¬ hd T G (10 * t + p) &&& (1 : Int32) = 0 := by
  have hI := (far_mr q.k ht).2
  rcases hI.1 p hp with z | ⟨v, v1, v2⟩
  · exact absurd z h
  · match v, v1, v2 with
    | 0, _, v2 =>
      have e := far_z v2
      have ow : T.getD t z_ 0 = nI p := by rw [(q.2.2.2 t ht).1.1, e]
      rw [hd_own q hp ht ow]
      decide
    | v + 1, v1, v2 =>
      obtain ⟨j, j1, j2, j3, j4⟩ := hI.2 p v hp (by omega) v2
      obtain ⟨a1, a2⟩ := lkv_pa j3
      have o := q.2.2.1 j j1
      have hc := hd_clo q j j1
      have ei : ic G j = 10 * t + p := by
        unfold ic
        rw [a1, j2, cN_nI (by have := q.2.1; omega)]
      rw [ei] at hc
      exact an1 (pa_ok (hd_ok q.2.2.1 q.2.2.2) q.2.2.2 o) (hd_o q hp ht) hc a2
theorem a6_n : ∀ j : Fin 8, (nI j &&& 6) ||| nI j = nI j ∧ (nI j &&& 6) &&& 1 = 0 ∧ okN 8 (nI j &&& 6) := by
  show ∀ j : Fin 8, (nI j &&& 6) ||| nI j = nI j ∧ (nI j &&& 6) &&& 1 = 0 ∧ ((nI j &&& 6) = nI (cN (nI j &&& 6)) ∧ cN (nI j &&& 6) < 8)
  decide +kernel
theorem a6 {x : Int32} (o : okN 8 x) : (x &&& 6) ||| x = x ∧ (x &&& 6) &&& 1 = 0 ∧ okN 8 (x &&& 6) :=
  b8 (P := fun x => (x &&& 6) ||| x = x ∧ (x &&& 6) &&& 1 = 0 ∧ okN 8 (x &&& 6)) a6_n o
theorem b6_n : ∀ j k : Fin 8, nI j ||| nI k = nI k → nI j &&& (1 : Int32) = 0 → nI j ||| (nI k &&& 6) = nI k &&& 6 := by decide +kernel
theorem b6 {x y : Int32} (o : okN 8 x) (o' : okN 8 y) (h : le8 x y) (h1 : x &&& (1 : Int32) = 0) : le8 x (y &&& 6) := by
  have e := b6_n ⟨cN x, o.2⟩ ⟨cN y, o'.2⟩
  unfold le8 at h ⊢
  rw [o.1] at h1
  rw [o.1, o'.1] at h
  rw [o.1, o'.1]
  exact e h h1
theorem pa_b : ∀ r h m : Fin 8, ¬ pa1 (nI r) (nI h) (nI m) &&& (1 : Int32) = 0 → ¬ nI h &&& (1 : Int32) = 0 := by decide +kernel
theorem pa_bit {r h m : Int32} (or : okN 8 r) (oh : okN 8 h) (om : okN 8 m) (e : ¬ pa1 r h m &&& (1 : Int32) = 0) : ¬ h &&& (1 : Int32) = 0 := by
  have k := pa_b ⟨cN r, or.2⟩ ⟨cN h, oh.2⟩ ⟨cN m, om.2⟩
  rw [or.1, oh.1, om.1] at e
  rw [oh.1]
  exact k e
theorem mr_own {T G : List rw_} {H : Nat → Int32} {t w : Nat} : ∀ (n s : Nat) (F : Nat → Int32), n + s ≤ 50 → F w = 0 → mr_ T G H t n s F w = 0
  | 0, _, _, _, h => h
  | n + 1, s, F, e, h => by
    unfold mr_
    refine mr_own n (s + 1) _ (by omega) ?_
    rcases cl_old (T := T) (G := G) (H := H) (t := t) (s := s) (by omega) w G.length 0 (0, F) with z | ⟨z, _⟩
    · rw [z]
      exact h
    · have z : F w = -1 := z
      rw [h] at z
      exact absurd z (by decide)
/-- who sees is reached -/
theorem see_far {T G : List rw_} {t p : Nat} (q : QG T G) (hp : p < 10) (ht : t < T.length) (h : far_ T G (hd T G) t p = -1) : hd T G (10 * t + p) &&& (1 : Int32) = 0 := by
  have hH := hd_ok q.2.2.1 q.2.2.2
  have hT8 := q.2.1
  obtain ⟨K, hKd⟩ : ∃ K : Nat → Int32, ∀ i : Nat, K i = if i / 10 = t ∧ far_ T G (hd T G) t (i % 10) = -1 then hd T G i &&& 6 else hd T G i := ⟨_, fun _ => rfl⟩
  have hKok : okH (10 * T.length) K := fun i hi => by
    rw [hKd]
    split
    · exact (a6 (hH i hi)).2.2
    · exact hH i hi
  have hKle : leH T.length K (hd T G) := fun i hi => by
    rw [hKd]
    split
    · exact (a6 (hH i hi)).1
    · exact le8_rfl
  have key := hd_least (K := K) q hKok (fun k hk => by
    have o := q.2.2.1 k hk
    have hpa := pa_mono q.2.2.2 o hKok hH hKle
    have hcl := le8_tr hpa (hd_clo q k hk)
    have ol := o.2.1.2
    have oz := o.1.2
    have ed : ic G k / 10 = cN (G.getD k z_ 2) := by
      unfold ic
      omega
    have em : ic G k % 10 = cN (G.getD k z_ 1) := by
      unfold ic
      omega
    rw [hKd (ic G k)]
    by_cases c : ic G k / 10 = t ∧ far_ T G (hd T G) t (ic G k % 10) = -1
    · rw [if_pos c]
      rw [ed, em] at c
      have okp := pa_ok hKok q.2.2.2 o
      refine b6 okp (hH _ (ic_m o)) hcl ?_
      by_cases z : pa T G K k &&& (1 : Int32) = 0
      · exact z
      · exfalso
        have z1 := an1 okp (pa_ok hH q.2.2.2 o) hpa z
        have zt : G.getD k z_ 2 = nI t := by rw [o.2.2.1.1, c.1]
        have zl := pa_lkv zt z1
        rw [pa_1] at z
        have zb := pa_bit o.2.2.2.1 (hKok _ (pi_lt o)) (q.2.2.2 _ o.2.2.1.2).2 z
        have zf : ¬ far_ T G (hd T G) t (cN (G.getD k z_ 0)) = -1 := fun w => by
          rw [hKd, show (10 * cN (G.getD k z_ 2) + cN (G.getD k z_ 0)) / 10 = cN (G.getD k z_ 2) by omega, show (10 * cN (G.getD k z_ 2) + cN (G.getD k z_ 0)) % 10 = cN (G.getD k z_ 0) by omega, if_pos ⟨c.1, w⟩] at zb
          exact zb (a6 (hH _ (pi_lt o))).2.1
        exact far_fcl q ht hk zl zf c.2
    · rw [if_neg c]
      exact hcl) (fun i hi => by
    rw [hKd]
    by_cases c : i / 10 = t ∧ far_ T G (hd T G) t (i % 10) = -1
    · rw [if_pos c]
      unfold h0
      by_cases w : i % 10 = cN (T.getD (i / 10) z_ 0)
      · exfalso
        rw [c.1] at w
        have hf : far_ T G (hd T G) t (cN (T.getD t z_ 0)) = 0 := by
          rw [← (far_mr q.k ht).1]
          exact mr_own 10 0 (f0_ T t) (by omega) (if_pos rfl)
        rw [w, hf] at c
        exact absurd c.2 (by decide)
      · rw [if_neg w]
        exact le8_0
    · rw [if_neg c]
      exact hd_ge q i hi)
  have h1 := key (10 * t + p) (by omega)
  rw [hKd, show (10 * t + p) / 10 = t by omega, show (10 * t + p) % 10 = p by omega, if_pos ⟨rfl, h⟩] at h1
  by_cases z : hd T G (10 * t + p) &&& (1 : Int32) = 0
  · exact z
  · exact absurd (a6 (hd_o q hp ht)).2.1 (an1 (hd_o q hp ht) (a6 (hd_o q hp ht)).2.2 h1 z)
