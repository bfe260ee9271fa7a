theorem RT.o {rT : Int32} {fT : Nat → Int32} {T : List rw_} {t : Nat} (h : RT 2 rT fT T) (ht : t < T.length) (hl : T.length ≤ 8) : f_X3_at (2 : Int32) 16 (nI t) (0 : Int32) rT fT = some (T.getD t z_ 0) := by
  have e := h.t (j := 0) ht hl (by omega)
  exact e
theorem RT.mk_ {rT : Int32} {fT : Nat → Int32} {T : List rw_} {t : Nat} (h : RT 2 rT fT T) (ht : t < T.length) (hl : T.length ≤ 8) : f_X3_at (2 : Int32) 16 (nI t) (1 : Int32) rT fT = some (T.getD t z_ 1) := by
  have e := h.t (j := 1) ht hl (by omega)
  exact e
theorem RT.gl {rG : Int32} {fG : Nat → Int32} {G : List rw_} {k : Nat} (h : RT 6 rG fG G) (hk : k < G.length) (hl : G.length ≤ 40) : f_X3_at (6 : Int32) 240 (nI k) (0 : Int32) rG fG = some (G.getD k z_ 0) := by
  have e := h.g (j := 0) hk hl (by omega)
  exact e
theorem RT.gb {rG : Int32} {fG : Nat → Int32} {G : List rw_} {k : Nat} (h : RT 6 rG fG G) (hk : k < G.length) (hl : G.length ≤ 40) : f_X3_at (6 : Int32) 240 (nI k) (1 : Int32) rG fG = some (G.getD k z_ 1) := by
  have e := h.g (j := 1) hk hl (by omega)
  exact e
theorem RT.gt {rG : Int32} {fG : Nat → Int32} {G : List rw_} {k : Nat} (h : RT 6 rG fG G) (hk : k < G.length) (hl : G.length ≤ 40) : f_X3_at (6 : Int32) 240 (nI k) (2 : Int32) rG fG = some (G.getD k z_ 2) := by
  have e := h.g (j := 2) hk hl (by omega)
  exact e
theorem RT.gr {rG : Int32} {fG : Nat → Int32} {G : List rw_} {k : Nat} (h : RT 6 rG fG G) (hk : k < G.length) (hl : G.length ≤ 40) : f_X3_at (6 : Int32) 240 (nI k) (3 : Int32) rG fG = some (G.getD k z_ 3) := by
  have e := h.g (j := 3) hk hl (by omega)
  exact e
theorem RT.gh {rG : Int32} {fG : Nat → Int32} {G : List rw_} {k : Nat} (h : RT 6 rG fG G) (hk : k < G.length) (hl : G.length ≤ 40) : f_X3_at (6 : Int32) 240 (nI k) (4 : Int32) rG fG = some (G.getD k z_ 4) := by
  have e := h.g (j := 4) hk hl (by omega)
  exact e
theorem RT.gn {rG : Int32} {fG : Nat → Int32} {G : List rw_} {k : Nat} (h : RT 6 rG fG G) (hk : k < G.length) (hl : G.length ≤ 40) : f_X3_at (6 : Int32) 240 (nI k) (5 : Int32) rG fG = some (G.getD k z_ 5) := by
  have e := h.g (j := 5) hk hl (by omega)
  exact e
theorem RT.rows {col : Nat} {r : Int32} {f : Nat → Int32} {L : List rw_} (h : RT col r f L) : f_X3_rows r = some (nI L.length) := by
  rw [h.1]
  rfl
theorem q_le {a b : Nat} (ha : a < 100000) (hb : b < 100000) (h : a ≤ b) : nI a ≤ nI b := (n_le (by omega) (by omega)).mpr h
theorem q_nle {a b : Nat} (ha : a < 100000) (hb : b < 100000) (h : b < a) : ¬ nI a ≤ nI b := fun z => absurd ((n_le (by omega) (by omega)).mp z) (by omega)
theorem q_lt {a b : Nat} (ha : a < 100000) (hb : b < 100000) (h : a < b) : nI a < nI b := (n_lt (by omega) (by omega)).mpr h
theorem q_nlt {a b : Nat} (ha : a < 100000) (hb : b < 100000) (h : b ≤ a) : ¬ nI a < nI b := fun z => absurd ((n_lt (by omega) (by omega)).mp z) (by omega)
theorem q_ne {a b : Nat} (ha : a < 100000) (hb : b < 100000) (h : a ≠ b) : ¬ nI a = nI b := fun z => h ((nI_eq (by omega) (by omega)).mp z)
/-- what is held at first: the owners' rights -/
def h0 (T : List rw_) : Nat → Int32 := fun i => if i % 10 = cN (T.getD (i / 10) z_ 0) then 7 else 0
theorem h_st1 {rT : Int32} {fT : Nat → Int32} {T : List rw_} (hT : RT 2 rT fT T) (hlT : T.length ≤ 8) (hTs : okTs T) {t : Nat} (ht : t < T.length) : ∀ (n x F : Nat) (H : Nat → Int32), n + x = 10 → n < F → ∃ H' : Nat → Int32, f_X2_settle_L15 (nI t) rT fT (nI T.length) F (nI x) H = some H' ∧ (∀ i : Nat, i < 10 * t + x → H' i = H i) ∧ (∀ i : Nat, 10 * t + x ≤ i → i < 10 * t + 10 → H' i = h0 T i)
  | _, _, 0, _, _, hF => absurd hF (by omega)
  | 0, x, F + 1, H, h, hF => by
    have hle : (10 : Int32) ≤ nI x := q_le (a := 10) (by omega) (by omega) (by omega)
    unfold f_X2_settle_L15
    rw [if_pos hle]
    exact ⟨H, rfl, fun _ _ => rfl, fun _ _ _ => absurd h (by omega)⟩
  | n + 1, x, F + 1, H, h, hF => by
    have hle : ¬ (10 : Int32) ≤ nI x := q_nle (a := 10) (by omega) (by omega) (by omega)
    have ek : nI x + (1 : Int32) = nI (x + 1) := n_at
    have ep : ∀ v : Int32, f_X3_put (10 : Int32) 80 (nI t) (nI x) v (nI T.length) H = some (upd H (10 * t + x) v) := fun v => h_put (by omega) ht hlT
    have o := (hTs t ht).1
    have key : ∀ v : Int32, v = h0 T (10 * t + x) → ∃ H' : Nat → Int32, f_X2_settle_L15 (nI t) rT fT (nI T.length) F (nI (x + 1)) (upd H (10 * t + x) v) = some H' ∧ (∀ i : Nat, i < 10 * t + x → H' i = H i) ∧ (∀ i : Nat, 10 * t + x ≤ i → i < 10 * t + 10 → H' i = h0 T i) := by
      intro v hv
      obtain ⟨H', e1, e2, e3⟩ := h_st1 hT hlT hTs ht n (x + 1) F (upd H (10 * t + x) v) (by omega) (by omega)
      refine ⟨H', e1, fun i hi => ?_, fun i hi hj => ?_⟩
      · rw [e2 i (by omega), pk_un (by omega)]
      · by_cases e : i = 10 * t + x
        · rw [e, e2 _ (by omega), pk_us, hv]
        · exact e3 i (by omega) hj
    unfold f_X2_settle_L15
    rw [if_neg hle, hT.o ht hlT, bd_some, ep, ep, bd_some, bd_some]
    simp only [nm_eq, ek]
    have hv : h0 T (10 * t + x) = if x = cN (T.getD t z_ 0) then 7 else 0 := by
      unfold h0
      rw [show (10 * t + x) % 10 = x by omega, show (10 * t + x) / 10 = t by omega]
    by_cases hx : nI x = T.getD t z_ 0
    · rw [if_pos hx]
      exact key 7 (by rw [hv, ← hx, cN_nI (by omega), if_pos rfl])
    · rw [if_neg hx]
      refine key 0 ?_
      rw [hv, if_neg (fun z => hx ?_)]
      rw [z]
      exact o.1.symm
theorem h_st2 {rT : Int32} {fT : Nat → Int32} {T : List rw_} (hT : RT 2 rT fT T) (hlT : T.length ≤ 8) (hTs : okTs T) : ∀ (n t F : Nat) (H : Nat → Int32), n + t = T.length → n < F → eqon (10 * t) H (h0 T) → ∃ H' : Nat → Int32, f_X2_settle_L2 rT fT (nI T.length) F (nI t) H = some H' ∧ eqon (10 * T.length) H' (h0 T)
  | _, _, 0, _, _, hF, _ => absurd hF (by omega)
  | 0, t, F + 1, H, h, hF, he => by
    have hle : nI T.length ≤ nI t := q_le (by omega) (by omega) (by omega)
    have ht : t = T.length := by omega
    unfold f_X2_settle_L2
    rw [hT.rows, bd_some, if_pos hle]
    exact ⟨H, rfl, by rw [← ht]; exact he⟩
  | n + 1, t, F + 1, H, h, hF, he => by
    have hle : ¬ nI T.length ≤ nI t := q_nle (by omega) (by omega) (by omega)
    have ek : nI t + (1 : Int32) = nI (t + 1) := n_at
    obtain ⟨H1, e1, e2, e3⟩ := h_st1 hT hlT hTs (t := t) (by omega) 10 0 FU H (by omega) (by unfold FU; omega)
    have e1 : f_X2_settle_L15 (nI t) rT fT (nI T.length) FU (0 : Int32) H = some H1 := e1
    unfold f_X2_settle_L2
    rw [hT.rows, bd_some, if_neg hle, e1, bd_some, nm_eq, ek]
    refine h_st2 hT hlT hTs n (t + 1) F H1 (by omega) (by omega) (fun i hi => ?_)
    by_cases hi2 : i < 10 * t
    · rw [e2 i (by omega)]
      exact he i hi2
    · exact e3 i (by omega) (by omega)
/-- what is held -/
def hd (T G : List rw_) : Nat → Int32 := rn T G 241 1 (h0 T)
theorem h0_ok {T : List rw_} (m : Nat) : okH m (h0 T) := by
  intro i _
  unfold h0
  split
  · exact ok7
  · exact ok0
theorem hd_ok {T G : List rw_} (hok : okGs T G) (hTs : okTs T) : okH (10 * T.length) (hd T G) := rn_ok hok hTs 241 1 _ (h0_ok _)
theorem okH.congr {m : Nat} {f g : Nat → Int32} (h : eqon m f g) (hg : okH m g) : okH m f := fun i hi => by rw [h i hi]; exact hg i hi
theorem h_settle {rT rG : Int32} {fT fG fH : Nat → Int32} {T G : List rw_} (hG : RT 6 rG fG G) (hT : RT 2 rT fT T) (hl : G.length ≤ 40) (hlT : T.length ≤ 8) (hok : okGs T G) (hTs : okTs T) : ∃ fH' : Nat → Int32, f_X2_settle rT fT rG fG (nI T.length) fH = some fH' ∧ eqon (10 * T.length) fH' (hd T G) := by
  obtain ⟨H1, e1, e2⟩ := h_st2 hT hlT hTs T.length 0 FU fH (by omega) (by unfold FU; omega) (fun i hi => absurd hi (by omega))
  have e1 : f_X2_settle_L2 rT fT (nI T.length) FU (0 : Int32) fH = some H1 := e1
  have e3 := h_run hG hT hl hlT hok 241 0 FU 1 H1 (by omega) (by unfold FU; omega)
  have e3 : f_X2_settle_L65 rT fT rG fG (nI T.length) FU 1 (0 : Int32) H1 = some (rn T G 241 1 H1) := e3
  refine ⟨rn T G 241 1 H1, ?_, rn_congr hok 241 1 _ _ e2⟩
  unfold f_X2_settle
  rw [e1, bd_some, e3, bd_some]
def QC (rT : Int32) (fT : Nat → Int32) (rG : Int32) (fG : Nat → Int32) (rH : Int32) (fH : Nat → Int32) (T G : List rw_) (H : Nat → Int32) : Prop := RT 6 rG fG G ∧ RT 2 rT fT T ∧ rH = nI T.length ∧ eqon (10 * T.length) fH H
def QK (T G : List rw_) (H : Nat → Int32) : Prop := G.length ≤ 40 ∧ T.length ≤ 8 ∧ okGs T G ∧ okTs T ∧ okH (10 * T.length) H
theorem c_hat {rT rG rH : Int32} {fT fG fH H : Nat → Int32} {T G : List rw_} (c : QC rT fT rG fG rH fH T G H) (k : QK T G H) {t p : Nat} (hp : p < 10) (ht : t < T.length) : f_X3_at (10 : Int32) 80 (nI t) (nI p) rH fH = some (H (10 * t + p)) := by
  have e := h_at (fH := fH) hp ht k.2.1
  rw [c.2.2.1, e, c.2.2.2 _ (by omega)]
theorem c_pass {rT rG rH : Int32} {fT fG fH H : Nat → Int32} {T G : List rw_} (c : QC rT fT rG fG rH fH T G H) (k : QK T G H) {j : Nat} (hj : j < G.length) : f_X2_passedOn (nI j) rT fT rG fG rH fH = some (pa T G H j) := by
  rw [c.2.2.1, h_passes c.1 c.2.1 hj k.1 k.2.1 (k.2.2.1 j hj), pa_congr c.2.2.2 (k.2.2.1 j hj)]
/-- counting -/
def cnt_ (L : List rw_) (j : Nat) (x : Int32) : Nat → Nat → Int32 → Int32
  | 0, _, a => a
  | n + 1, k, a => cnt_ L j x n (k + 1) (if L.getD k z_ j = x then a + 1 else a)
theorem h_cnt {col nn lim C : Nat} {r x : Int32} {f : Nat → Int32} {L : List rw_} (h : RT col r f L) (hC : C < col) (hl : L.length ≤ lim) (hn : lim * col ≤ nn) (hb : nn < 100000) (h1 : lim < 3000) (h2 : col < 100000) : ∀ (n k F : Nat) (a : Int32), n + k = L.length → n < F → f_X2_countEqual_L5 (nI C) x (nI col) nn r f F a (nI k) = some (cnt_ L C x n k a)
  | _, _, 0, _, _, hF => absurd hF (by omega)
  | 0, k, F + 1, a, hk, hF => by
    have hle : nI L.length ≤ nI k := q_le (by omega) (by omega) (by omega)
    unfold f_X2_countEqual_L5 cnt_
    rw [h.rows, bd_some, if_pos hle]
  | n + 1, k, F + 1, a, hk, hF => by
    have hle : ¬ nI L.length ≤ nI k := q_nle (by omega) (by omega) (by omega)
    have ek : nI k + (1 : Int32) = nI (k + 1) := n_at
    have e := h.at (R := k) (by omega) hC hl hn hb (by omega) h2
    unfold f_X2_countEqual_L5 cnt_
    rw [h.rows, bd_some, if_neg hle, e, bd_some]
    by_cases hx : L.getD k z_ C = x
    · rw [if_pos hx, if_pos hx, nm_eq, nm_eq, ek]
      exact h_cnt h hC hl hn hb h1 h2 n (k + 1) F _ (by omega) (by omega)
    · rw [if_neg hx, if_neg hx, nm_eq, ek]
      exact h_cnt h hC hl hn hb h1 h2 n (k + 1) F _ (by omega) (by omega)
theorem h_ctT {rT : Int32} {fT : Nat → Int32} {T : List rw_} (h : RT 2 rT fT T) (hl : T.length ≤ 8) (x : Int32) : f_X2_countEqual (2 : Int32) 16 (0 : Int32) x rT fT = some (cnt_ T 0 x T.length 0 0) := by
  have e := h_cnt (x := x) (C := 0) (nn := 16) h (by omega) hl (by omega) (by omega) (by omega) (by omega) T.length 0 FU 0 (by omega) (by unfold FU; omega)
  have e : f_X2_countEqual_L5 (0 : Int32) x (2 : Int32) 16 rT fT FU 0 (0 : Int32) = some (cnt_ T 0 x T.length 0 0) := e
  unfold f_X2_countEqual
  rw [e, bd_some]
theorem h_ctG {rG : Int32} {fG : Nat → Int32} {G : List rw_} (h : RT 6 rG fG G) (hl : G.length ≤ 40) (x : Int32) (C : Nat) (hC : C < 6) : f_X2_countEqual (6 : Int32) 240 (nI C) x rG fG = some (cnt_ G C x G.length 0 0) := by
  have e := h_cnt (x := x) (nn := 240) h hC hl (by omega) (by omega) (by omega) (by omega) G.length 0 FU 0 (by omega) (by unfold FU; omega)
  have e : f_X2_countEqual_L5 (nI C) x (6 : Int32) 240 rG fG FU 0 (0 : Int32) = some (cnt_ G C x G.length 0 0) := e
  unfold f_X2_countEqual
  rw [e, bd_some]
theorem z_add {a : Int32} : a + (0 : Int32) = a := Int32.add_zero a
/-- the things that somebody sees -/
def see_ (H : Nat → Int32) (p : Nat) : Nat → Nat → Int32 → Int32
  | 0, _, a => a
  | n + 1, t, a => see_ H p n (t + 1) (if H (10 * t + p) &&& (1 : Int32) = 0 then a else a ||| ((1 : Int32) <<< (nI t &&& 31)))
theorem h_see {rT rG rH : Int32} {fT fG fH H : Nat → Int32} {T G : List rw_} (c : QC rT fT rG fG rH fH T G H) (k : QK T G H) {p : Nat} (hp : p < 10) : ∀ (n t F : Nat) (a : Int32), n + t = T.length → n < F → f_X2_thingsSeenBy_L4 (nI p) rT rH fH F a (nI t) = some (see_ H p n t a)
  | _, _, 0, _, _, hF => absurd hF (by omega)
  | 0, t, F + 1, a, hk, hF => by
    have := k.2.1
    have hle : nI T.length ≤ nI t := q_le (by omega) (by omega) (by omega)
    unfold f_X2_thingsSeenBy_L4 see_
    rw [c.2.1.rows, bd_some, if_pos hle]
  | n + 1, t, F + 1, a, hk, hF => by
    have := k.2.1
    have hle : ¬ nI T.length ≤ nI t := q_nle (by omega) (by omega) (by omega)
    have ek : nI t + (1 : Int32) = nI (t + 1) := n_at
    unfold f_X2_thingsSeenBy_L4 see_
    rw [c.2.1.rows, bd_some, if_neg hle, c_hat c k hp (by omega), bd_some]
    by_cases hx : H (10 * t + p) &&& (1 : Int32) = 0
    · rw [if_pos hx, if_pos hx, nm_eq, ek]
      exact h_see c k hp n (t + 1) F _ (by omega) (by omega)
    · rw [if_neg hx, if_neg hx, nm_eq, nm_eq, ek]
      exact h_see c k hp n (t + 1) F _ (by omega) (by omega)
theorem bit1 {x : Int32} (o : okN 8 x) : x &&& (1 : Int32) = 0 ∨ x &&& (1 : Int32) = 1 := by
  refine b8 (P := fun x => x &&& (1 : Int32) = 0 ∨ x &&& (1 : Int32) = 1) ?_ o
  decide +kernel
theorem or_z {a : Int32} : a ||| (0 : Int32) = a := Int32.or_zero
theorem z_shl {a : Int32} : (0 : Int32) <<< a = 0 := Int32.zero_shiftLeft
/-- who has a right to a thing -/
def who_ (H : Nat → Int32) (t : Nat) (x : Int32) : Nat → Nat → Int32 → Int32
  | 0, _, a => a
  | n + 1, p, a => who_ H t x n (p + 1) (if H (10 * t + p) &&& x = (0 : Int32) then a else a ||| ((1 : Int32) <<< (nI p &&& 31)))
theorem h_who {rT rG rH : Int32} {fT fG fH H : Nat → Int32} {T G : List rw_} (c : QC rT fT rG fG rH fH T G H) (k : QK T G H) {t : Nat} {x : Int32} (ht : t < T.length) : ∀ (n p F : Nat) (a : Int32), n + p = 10 → n < F → f_X2_holdersOf_L5 (nI t) x rH fH F a (nI p) = some (who_ H t x n p a)
  | _, _, 0, _, _, hF => absurd hF (by omega)
  | 0, p, F + 1, a, hk, hF => by
    have hle : (10 : Int32) ≤ nI p := q_le (a := 10) (by omega) (by omega) (by omega)
    unfold f_X2_holdersOf_L5 who_
    rw [if_pos hle]
  | n + 1, p, F + 1, a, hk, hF => by
    have hle : ¬ (10 : Int32) ≤ nI p := q_nle (a := 10) (by omega) (by omega) (by omega)
    have ek : nI p + (1 : Int32) = nI (p + 1) := n_at
    unfold f_X2_holdersOf_L5 who_
    rw [if_neg hle, c_hat c k (by omega) ht, bd_some]
    by_cases hx : H (10 * t + p) &&& x = (0 : Int32)
    · rw [if_pos hx, if_pos hx, nm_eq, ek]
      exact h_who c k ht n (p + 1) F _ (by omega) (by omega)
    · rw [if_neg hx, if_neg hx, nm_eq, nm_eq, ek]
      exact h_who c k ht n (p + 1) F _ (by omega) (by omega)
theorem nI_or (a b : Nat) : nI a ||| nI b = nI (a ||| b) := by
  apply Int32.toBitVec_inj.mp
  show BitVec.ofNat 32 a ||| BitVec.ofNat 32 b = BitVec.ofNat 32 (a ||| b)
  exact (BitVec.ofNat_or).symm
theorem or1k {x y : Int32} (o : okN 1024 x) (o' : okN 1024 y) : okN 1024 (x ||| y) := by
  rw [o.1, o'.1, nI_or]
  exact okN_nI (Nat.or_lt_two_pow (n := 10) o.2 o'.2) (by omega)
theorem shl_ok : ∀ p : Fin 10, okN 1024 ((1 : Int32) <<< (nI p &&& 31)) := by
  show ∀ p : Fin 10, (1 : Int32) <<< (nI p &&& 31) = nI (cN ((1 : Int32) <<< (nI p &&& 31))) ∧ cN ((1 : Int32) <<< (nI p &&& 31)) < 1024
  decide +kernel
theorem okN_0 : okN 1024 0 := by
  show (0 : Int32) = nI (cN 0) ∧ cN 0 < 1024
  decide +kernel
theorem who_ok {H : Nat → Int32} {t : Nat} {x : Int32} : ∀ (n p : Nat) (a : Int32), n + p = 10 → okN 1024 a → okN 1024 (who_ H t x n p a)
  | 0, _, _, _, h => h
  | n + 1, p, a, hp, h => by
    unfold who_
    refine who_ok n (p + 1) _ (by omega) ?_
    split
    · exact h
    · exact or1k h (shl_ok ⟨p, by omega⟩)
theorem see_ok {H : Nat → Int32} {p : Nat} : ∀ (n t : Nat) (a : Int32), n + t ≤ 10 → okN 1024 a → okN 1024 (see_ H p n t a)
  | 0, _, _, _, h => h
  | n + 1, t, a, hp, h => by
    unfold see_
    refine see_ok n (t + 1) _ (by omega) ?_
    split
    · exact h
    · exact or1k h (shl_ok ⟨t, by omega⟩)
theorem h_whoHas {rT rG rH : Int32} {fT fG fH H : Nat → Int32} {T G : List rw_} (c : QC rT fT rG fG rH fH T G H) (k : QK T G H) {t : Nat} {x : Int32} (ht : t < T.length) : f_X2_holdersOf (nI t) x rH fH = some (who_ H t x 10 0 0) := by
  have e := h_who (x := x) c k ht 10 0 FU 0 (by omega) (by unfold FU; omega)
  have e : f_X2_holdersOf_L5 (nI t) x rH fH FU 0 (0 : Int32) = some (who_ H t x 10 0 0) := e
  unfold f_X2_holdersOf
  rw [e, bd_some]
def bcv (x : Int32) : Int32 := (f_J6_bitCount_0f7a4 x).getD 0
theorem bc_c {x : Int32} : f_J6_bitCount_0f7a4 x = some (bcv x) := rfl
/-- the pairs that see -/
def prs_ (H : Nat → Int32) : Nat → Nat → Int32 → Int32
  | 0, _, a => a
  | n + 1, t, a => prs_ H n (t + 1) (a + bcv (who_ H t 1 10 0 0))
def prs (T : List rw_) (H : Nat → Int32) : Int32 := prs_ H T.length 0 0
theorem h_prs {rT rG rH : Int32} {fT fG fH H : Nat → Int32} {T G : List rw_} (c : QC rT fT rG fG rH fH T G H) (k : QK T G H) : ∀ (n t F : Nat) (a : Int32), n + t = T.length → n < F → f_X2_countPairs_L4 rT rH fH F a (nI t) = some (prs_ H n t a)
  | _, _, 0, _, _, hF => absurd hF (by omega)
  | 0, t, F + 1, a, hk, hF => by
    have := k.2.1
    have hle : nI T.length ≤ nI t := q_le (by omega) (by omega) (by omega)
    unfold f_X2_countPairs_L4 prs_
    rw [c.2.1.rows, bd_some, if_pos hle]
  | n + 1, t, F + 1, a, hk, hF => by
    have := k.2.1
    have hle : ¬ nI T.length ≤ nI t := q_nle (by omega) (by omega) (by omega)
    have ek : nI t + (1 : Int32) = nI (t + 1) := n_at
    unfold f_X2_countPairs_L4 prs_
    rw [c.2.1.rows, bd_some, if_neg hle, h_whoHas c k (by omega), bd_some, bc_c, bd_some, nm_eq, nm_eq, ek]
    exact h_prs c k n (t + 1) F _ (by omega) (by omega)
theorem c_pairs {rT rG rH : Int32} {fT fG fH H : Nat → Int32} {T G : List rw_} (c : QC rT fT rG fG rH fH T G H) (k : QK T G H) : f_X2_countPairs rT rH fH = some (prs T H) := by
  have := k.2.1
  have e := h_prs c k T.length 0 FU 0 (by omega) (by unfold FU; omega)
  have e : f_X2_countPairs_L4 rT rH fH FU 0 (0 : Int32) = some (prs T H) := e
  unfold f_X2_countPairs
  rw [e, bd_some]
def QG (T G : List rw_) : Prop := G.length ≤ 40 ∧ T.length ≤ 8 ∧ okGs T G ∧ okTs T
theorem QG.k {T G : List rw_} (h : QG T G) : QK T G (hd T G) := ⟨h.1, h.2.1, h.2.2.1, h.2.2.2, hd_ok h.2.2.1 h.2.2.2⟩
/-- idle grants -/
def idl_ (T G : List rw_) (H : Nat → Int32) : Nat → Nat → Int32 → Int32
  | 0, _, a => a
  | n + 1, j, a => idl_ T G H n (j + 1) (if pa T G H j = 0 then a + 1 else a)
theorem h_idle {rT rG rH : Int32} {fT fG fH H : Nat → Int32} {T G : List rw_} (c : QC rT fT rG fG rH fH T G H) (k : QK T G H) : ∀ (n j F : Nat) (a : Int32), n + j = G.length → n < F → f_X2_countIdleGrants_L4 rT fT rG fG rH fH F a (nI j) = some (idl_ T G H n j a)
  | _, _, 0, _, _, hF => absurd hF (by omega)
  | 0, j, F + 1, a, hk, hF => by
    have := k.1
    have hle : nI G.length ≤ nI j := q_le (by omega) (by omega) (by omega)
    unfold f_X2_countIdleGrants_L4 idl_
    rw [c.1.rows, bd_some, if_pos hle]
  | n + 1, j, F + 1, a, hk, hF => by
    have := k.1
    have hle : ¬ nI G.length ≤ nI j := q_nle (by omega) (by omega) (by omega)
    have ek : nI j + (1 : Int32) = nI (j + 1) := n_at
    unfold f_X2_countIdleGrants_L4 idl_
    rw [c.1.rows, bd_some, if_neg hle, c_pass c k (by omega), bd_some]
    by_cases hx : pa T G H j = 0
    · rw [if_pos hx, if_pos hx, nm_eq, nm_eq, ek]
      exact h_idle c k n (j + 1) F _ (by omega) (by omega)
    · rw [if_neg hx, if_neg hx, nm_eq, ek]
      exact h_idle c k n (j + 1) F _ (by omega) (by omega)
theorem c_idle {rT rG rH : Int32} {fT fG fH H : Nat → Int32} {T G : List rw_} (c : QC rT fT rG fG rH fH T G H) (k : QK T G H) : f_X2_countIdleGrants rT fT rG fG rH fH = some (idl_ T G H G.length 0 0) := by
  have := k.1
  have e := h_idle c k G.length 0 FU 0 (by omega) (by unfold FU; omega)
  have e : f_X2_countIdleGrants_L4 rT fT rG fG rH fH FU 0 (0 : Int32) = some (idl_ T G H G.length 0 0) := e
  unfold f_X2_countIdleGrants
  rw [e, bd_some]
/-- the greatest threshold -/
def gre_ (G : List rw_) (x : Int32) : Nat → Nat → Int32 → Int32
  | 0, _, a => a
  | n + 1, j, a => gre_ G x n (j + 1) (if G.getD j z_ 0 = x then (if a < G.getD j z_ 4 then G.getD j z_ 4 else a) else a)
theorem h_gre {rG : Int32} {fG : Nat → Int32} {G : List rw_} {x : Int32} (h : RT 6 rG fG G) (hl : G.length ≤ 40) : ∀ (n j F : Nat) (a : Int32), n + j = G.length → n < F → f_X2_greatestThreshold_L4 x rG fG F a (nI j) = some (gre_ G x n j a)
  | _, _, 0, _, _, hF => absurd hF (by omega)
  | 0, j, F + 1, a, hk, hF => by
    have hle : nI G.length ≤ nI j := q_le (by omega) (by omega) (by omega)
    unfold f_X2_greatestThreshold_L4 gre_
    rw [h.rows, bd_some, if_pos hle]
  | n + 1, j, F + 1, a, hk, hF => by
    have hle : ¬ nI G.length ≤ nI j := q_nle (by omega) (by omega) (by omega)
    have ek : nI j + (1 : Int32) = nI (j + 1) := n_at
    unfold f_X2_greatestThreshold_L4 gre_
    rw [h.rows, bd_some, if_neg hle, h.gl (by omega) hl, bd_some]
    by_cases hx : G.getD j z_ 0 = x
    · rw [if_pos hx, if_pos hx, h.gh (by omega) hl, bd_some, nm_eq, nm_eq, ek]
      exact h_gre h hl n (j + 1) F _ (by omega) (by omega)
    · rw [if_neg hx, if_neg hx, nm_eq, ek]
      exact h_gre h hl n (j + 1) F _ (by omega) (by omega)
