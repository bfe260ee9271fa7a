/-! ===== PURE: questions ===== -/
def QC (rT : Int32) (fT : Nat → Int32) (rG : Int32) (fG : Nat → Int32) (rH : Int32) (fH : Nat → Int32) (T G : List rw_) (H : Nat → Int32) : Prop := RT 6 rG fG G ∧ RT 2 rT fT T ∧ rH = nI T.length ∧ eqon (10 * T.length) fH H
def QM (al ho : Nat → Int32) (T G : List rw_) (H : Nat → Int32) : Prop := MG al G ∧ MT al T ∧ eqon (10 * T.length) ho H
def QK (T G : List rw_) (H : Nat → Int32) : Prop := G.length ≤ 40 ∧ T.length ≤ 8 ∧ okGs T G ∧ okTs T ∧ okH (10 * T.length) H
theorem c_hat {rT rG rH : Int32} {fT fG fH H : Nat → Int32} {T G : List rw_} (c : QC rT fT rG fG rH fH T G H) (k : QK T G H) {t p : Nat} (hp : p < 10) (ht : t < T.length) : f_X3_at (10 : Int32) 80 (nI t) (nI p) rH fH = some (H (10 * t + p)) := by
  have e := h_at (fH := fH) hp ht k.2.1
  rw [c.2.2.1, e, c.2.2.2 _ (by omega)]
theorem q_hat {al ho H : Nat → Int32} {T G : List rw_} (m : QM al ho T G H) (k : QK T G H) {t p : Nat} (hp : p < 10) (ht : t < T.length) : f_X6_holds (nI p) (nI t) ho = some (H (10 * t + p)) := by
  have := k.2.1
  rw [m_holds hp (by omega), m.2.2 _ (by omega)]
theorem c_pass {rT rG rH : Int32} {fT fG fH H : Nat → Int32} {T G : List rw_} (c : QC rT fT rG fG rH fH T G H) (k : QK T G H) {j : Nat} (hj : j < G.length) : f_X2_passedOn (nI j) rT fT rG fG rH fH = some (pa T G H j) := by
  rw [c.2.2.1, h_passes c.1 c.2.1 hj k.1 k.2.1 (k.2.2.1 j hj), pa_congr c.2.2.2 (k.2.2.1 j hj)]
theorem q_pass {al ho H : Nat → Int32} {T G : List rw_} (m : QM al ho T G H) (k : QK T G H) {j : Nat} (hj : j < G.length) : f_X6_passes (nI j) al ho = some (pa T G H j) := by
  rw [m_passes m.1 m.2.1 hj k.1 k.2.1 (k.2.2.1 j hj), pa_congr m.2.2 (k.2.2.1 j hj)]
theorem MG.e5 {al : Nat → Int32} {G : List rw_} (h : MG al G) : al (5 : Int32).toNatClampNeg = nI G.length := h.1
theorem MT.e4 {al : Nat → Int32} {T : List rw_} (h : MT al T) : al (4 : Int32).toNatClampNeg = nI T.length := h.1
/-- the place of a grant -/
theorem p_place {rG : Int32} {fG al : Nat → Int32} {G : List rw_} (hG : RT 6 rG fG G) (hM : MG al G) (hl : G.length ≤ 40) (x : Int32) : ∀ (n j F F' : Nat), n + j = G.length → n < F → n < F' → ∃ v : Int32, f_X2_placeOf_L2 x rG fG F (nI j) = some v ∧ f_X6_placeOf_L2 x al F' (nI j) = some v ∧ (v = -1 ∨ ∃ i : Nat, i < G.length ∧ v = nI i)
  | _, _, 0, _, _, hF, _ => absurd hF (by omega)
  | _, _, _, 0, _, _, hF => absurd hF (by omega)
  | 0, j, F + 1, F' + 1, h, hF, hF' => by
    have hle : nI G.length ≤ nI j := q_le (by omega) (by omega) (by omega)
    unfold f_X2_placeOf_L2 f_X6_placeOf_L2
    rw [hG.rows, bd_some, if_pos hle, ix5, hM.e5, if_pos hle]
    exact ⟨-1, rfl, rfl, Or.inl rfl⟩
  | n + 1, j, F + 1, F' + 1, h, hF, hF' => by
    have hle : ¬ nI G.length ≤ nI j := q_nle (by omega) (by omega) (by omega)
    have ek : nI j + (1 : Int32) = nI (j + 1) := n_at
    unfold f_X2_placeOf_L2 f_X6_placeOf_L2
    rw [hG.rows, bd_some, if_neg hle, ix5, hM.e5, if_neg hle, hG.gn (by omega) hl, hM.n (by omega) hl, bd_some, bd_some]
    by_cases e : G.getD j z_ 5 = x
    · rw [if_pos e, if_pos e]
      exact ⟨nI j, rfl, rfl, Or.inr ⟨j, by omega, rfl⟩⟩
    · rw [if_neg e, if_neg e, nm_eq, nm_eq, ek]
      exact p_place hG hM hl x n (j + 1) F F' (by omega) (by omega) (by omega)
theorem q_place {rG : Int32} {fG al : Nat → Int32} {G : List rw_} (hG : RT 6 rG fG G) (hM : MG al G) (hl : G.length ≤ 40) (x : Int32) : ∃ v : Int32, f_X2_placeOf x rG fG = some v ∧ f_X6_placeOf x al = some v ∧ (v = -1 ∨ ∃ i : Nat, i < G.length ∧ v = nI i) := by
  have e := p_place hG hM hl x G.length 0 FU FU (by omega) (by unfold FU; omega) (by unfold FU; omega)
  exact e
/-- counting -/
def cnt_ (L : List rw_) (j : Nat) (x : Int32) : Nat → Nat → Int32 → Int32
  | 0, _, a => a
  | n + 1, k, a => cnt_ L j x n (k + 1) (if L.getD k z_ j = x then a + 1 else a)
theorem h_cnt {col nn lim C : Nat} {r x : Int32} {f : Nat → Int32} {L : List rw_} (h : RT col r f L) (hC : C < col) (hl : L.length ≤ lim) (hn : lim * col ≤ nn) (hb : nn < 100000) (h1 : lim < 3000) (h2 : col < 100000) : ∀ (n k F : Nat) (a : Int32), n + k = L.length → n < F → f_X2_countEqual_L5 (nI C) x (nI col) nn r f F a (nI k) = some (cnt_ L C x n k a)
  | _, _, 0, _, _, hF => absurd hF (by omega)
  | 0, k, F + 1, a, hk, hF => by
    have hle : nI L.length ≤ nI k := q_le (by omega) (by omega) (by omega)
    unfold f_X2_countEqual_L5 cnt_
    rw [h.rows, bd_some, if_pos hle]
  | n + 1, k, F + 1, a, hk, hF => by
    have hle : ¬ nI L.length ≤ nI k := q_nle (by omega) (by omega) (by omega)
    have ek : nI k + (1 : Int32) = nI (k + 1) := n_at
    have e := h.at (R := k) (by omega) hC hl hn hb (by omega) h2
    unfold f_X2_countEqual_L5 cnt_
    rw [h.rows, bd_some, if_neg hle, e, bd_some]
    by_cases hx : L.getD k z_ C = x
    · rw [if_pos hx, if_pos hx, nm_eq, nm_eq, ek]
      exact h_cnt h hC hl hn hb h1 h2 n (k + 1) F _ (by omega) (by omega)
    · rw [if_neg hx, if_neg hx, nm_eq, ek]
      exact h_cnt h hC hl hn hb h1 h2 n (k + 1) F _ (by omega) (by omega)
theorem h_ctT {rT : Int32} {fT : Nat → Int32} {T : List rw_} (h : RT 2 rT fT T) (hl : T.length ≤ 8) (x : Int32) : f_X2_countEqual (2 : Int32) 16 (0 : Int32) x rT fT = some (cnt_ T 0 x T.length 0 0) := by
  have e := h_cnt (x := x) (C := 0) (nn := 16) h (by omega) hl (by omega) (by omega) (by omega) (by omega) T.length 0 FU 0 (by omega) (by unfold FU; omega)
  have e : f_X2_countEqual_L5 (0 : Int32) x (2 : Int32) 16 rT fT FU 0 (0 : Int32) = some (cnt_ T 0 x T.length 0 0) := e
  unfold f_X2_countEqual
  rw [e, bd_some]
theorem h_ctG {rG : Int32} {fG : Nat → Int32} {G : List rw_} (h : RT 6 rG fG G) (hl : G.length ≤ 40) (x : Int32) (C : Nat) (hC : C < 6) : f_X2_countEqual (6 : Int32) 240 (nI C) x rG fG = some (cnt_ G C x G.length 0 0) := by
  have e := h_cnt (x := x) (nn := 240) h hC hl (by omega) (by omega) (by omega) (by omega) G.length 0 FU 0 (by omega) (by unfold FU; omega)
  have e : f_X2_countEqual_L5 (nI C) x (6 : Int32) 240 rG fG FU 0 (0 : Int32) = some (cnt_ G C x G.length 0 0) := e
  unfold f_X2_countEqual
  rw [e, bd_some]
theorem z_add {a : Int32} : a + (0 : Int32) = a := Int32.add_zero a
theorem m_cnt {al : Nat → Int32} {G : List rw_} {x : Int32} {C : Nat} (h : MG al G) (hl : G.length ≤ 40) (hC : C < 6) : ∀ (n k F : Nat) (a : Int32), n + k = G.length → n < F → f_X6_grantsBy_L5 x (nI ((C + 1) % 6)) al F a (nI k) = some (cnt_ G C x n k a)
  | _, _, 0, _, _, hF => absurd hF (by omega)
  | 0, k, F + 1, a, hk, hF => by
    have hle : nI G.length ≤ nI k := q_le (by omega) (by omega) (by omega)
    unfold f_X6_grantsBy_L5 cnt_
    rw [ix5, h.e5, if_pos hle]
  | n + 1, k, F + 1, a, hk, hF => by
    have hle : ¬ nI G.length ≤ nI k := q_nle (by omega) (by omega) (by omega)
    have ek : nI k + (1 : Int32) = nI (k + 1) := n_at
    unfold f_X6_grantsBy_L5 cnt_
    rw [ix5, h.e5, if_neg hle, h.of (by omega) hl hC, bd_some]
    by_cases hx : G.getD k z_ C = x
    · rw [if_pos hx, if_pos hx, nm_eq, nm_eq, ek]
      exact m_cnt h hl hC n (k + 1) F _ (by omega) (by omega)
    · rw [if_neg hx, if_neg hx, nm_eq, nm_eq, ek, z_add]
      exact m_cnt h hl hC n (k + 1) F _ (by omega) (by omega)
theorem m_ct {al : Nat → Int32} {G : List rw_} (h : MG al G) (hl : G.length ≤ 40) (x : Int32) (C : Nat) (hC : C < 6) : f_X6_grantsBy x (nI ((C + 1) % 6)) al = some (cnt_ G C x G.length 0 0) := by
  have e := m_cnt (x := x) h hl hC G.length 0 FU 0 (by omega) (by unfold FU; omega)
  have e : f_X6_grantsBy_L5 x (nI ((C + 1) % 6)) al FU 0 (0 : Int32) = some (cnt_ G C x G.length 0 0) := e
  unfold f_X6_grantsBy
  rw [e, bd_some]
/-- the things that somebody sees -/
def see_ (H : Nat → Int32) (p : Nat) : Nat → Nat → Int32 → Int32
  | 0, _, a => a
  | n + 1, t, a => see_ H p n (t + 1) (if H (10 * t + p) &&& (1 : Int32) = 0 then a else a ||| ((1 : Int32) <<< (nI t &&& 31)))
theorem h_see {rT rG rH : Int32} {fT fG fH H : Nat → Int32} {T G : List rw_} (c : QC rT fT rG fG rH fH T G H) (k : QK T G H) {p : Nat} (hp : p < 10) : ∀ (n t F : Nat) (a : Int32), n + t = T.length → n < F → f_X2_thingsSeenBy_L4 (nI p) rT rH fH F a (nI t) = some (see_ H p n t a)
  | _, _, 0, _, _, hF => absurd hF (by omega)
  | 0, t, F + 1, a, hk, hF => by
    have := k.2.1
    have hle : nI T.length ≤ nI t := q_le (by omega) (by omega) (by omega)
    unfold f_X2_thingsSeenBy_L4 see_
    rw [c.2.1.rows, bd_some, if_pos hle]
  | n + 1, t, F + 1, a, hk, hF => by
    have := k.2.1
    have hle : ¬ nI T.length ≤ nI t := q_nle (by omega) (by omega) (by omega)
    have ek : nI t + (1 : Int32) = nI (t + 1) := n_at
    unfold f_X2_thingsSeenBy_L4 see_
    rw [c.2.1.rows, bd_some, if_neg hle, c_hat c k hp (by omega), bd_some]
    by_cases hx : H (10 * t + p) &&& (1 : Int32) = 0
    · rw [if_pos hx, if_pos hx, nm_eq, ek]
      exact h_see c k hp n (t + 1) F _ (by omega) (by omega)
    · rw [if_neg hx, if_neg hx, nm_eq, nm_eq, ek]
      exact h_see c k hp n (t + 1) F _ (by omega) (by omega)
theorem bit1 {x : Int32} (o : okN 8 x) : x &&& (1 : Int32) = 0 ∨ x &&& (1 : Int32) = 1 := by
  refine b8 (P := fun x => x &&& (1 : Int32) = 0 ∨ x &&& (1 : Int32) = 1) ?_ o
  decide +kernel
theorem or_z {a : Int32} : a ||| (0 : Int32) = a := Int32.or_zero
theorem z_shl {a : Int32} : (0 : Int32) <<< a = 0 := Int32.zero_shiftLeft
theorem m_see {al ho H : Nat → Int32} {T G : List rw_} (m : QM al ho T G H) (k : QK T G H) {p : Nat} (hp : p < 10) : ∀ (n t F : Nat) (a b : Int32), n + t = T.length → n < F → f_X6_personValue_L8 (nI p) al ho F b a (nI t) = some (cnt_ T 0 (nI p) n t b, see_ H p n t a)
  | _, _, 0, _, _, _, hF => absurd hF (by omega)
  | 0, t, F + 1, a, b, hk, hF => by
    have := k.2.1
    have hle : nI T.length ≤ nI t := q_le (by omega) (by omega) (by omega)
    unfold f_X6_personValue_L8 see_ cnt_
    rw [ix4, m.2.1.e4, if_pos hle]
  | n + 1, t, F + 1, a, b, hk, hF => by
    have := k.2.1
    have hle : ¬ nI T.length ≤ nI t := q_nle (by omega) (by omega) (by omega)
    have ek : nI t + (1 : Int32) = nI (t + 1) := n_at
    have ho := k.2.2.2.2 (10 * t + p) (by omega)
    have eo : a ||| (H (10 * t + p) &&& (1 : Int32)) <<< (nI t &&& 31) = if H (10 * t + p) &&& (1 : Int32) = 0 then a else a ||| ((1 : Int32) <<< (nI t &&& 31)) := by
      rcases bit1 ho with hb | hb
      · rw [if_pos hb, hb, z_shl, or_z]
      · rw [if_neg (by rw [hb]; decide), hb]
    unfold f_X6_personValue_L8 see_ cnt_
    rw [ix4, m.2.1.e4, if_neg hle, m.2.1.owner (by omega) k.2.1, bd_some]
    by_cases hx : T.getD t z_ 0 = nI p
    · rw [if_pos hx, if_pos hx, nm_eq, q_hat m k hp (by omega), bd_some, nm_eq, nm_eq, ek, eo]
      exact m_see m k hp n (t + 1) F _ _ (by omega) (by omega)
    · rw [if_neg hx, if_neg hx, nm_eq, q_hat m k hp (by omega), bd_some, nm_eq, nm_eq, ek, eo, z_add]
      exact m_see m k hp n (t + 1) F _ _ (by omega) (by omega)
/-- who has a right to a thing -/
def who_ (H : Nat → Int32) (t : Nat) (x : Int32) : Nat → Nat → Int32 → Int32
  | 0, _, a => a
  | n + 1, p, a => who_ H t x n (p + 1) (if H (10 * t + p) &&& x = (0 : Int32) then a else a ||| ((1 : Int32) <<< (nI p &&& 31)))
theorem h_who {rT rG rH : Int32} {fT fG fH H : Nat → Int32} {T G : List rw_} (c : QC rT fT rG fG rH fH T G H) (k : QK T G H) {t : Nat} {x : Int32} (ht : t < T.length) : ∀ (n p F : Nat) (a : Int32), n + p = 10 → n < F → f_X2_holdersOf_L5 (nI t) x rH fH F a (nI p) = some (who_ H t x n p a)
  | _, _, 0, _, _, hF => absurd hF (by omega)
  | 0, p, F + 1, a, hk, hF => by
    have hle : (10 : Int32) ≤ nI p := q_le (a := 10) (by omega) (by omega) (by omega)
    unfold f_X2_holdersOf_L5 who_
    rw [if_pos hle]
  | n + 1, p, F + 1, a, hk, hF => by
    have hle : ¬ (10 : Int32) ≤ nI p := q_nle (a := 10) (by omega) (by omega) (by omega)
    have ek : nI p + (1 : Int32) = nI (p + 1) := n_at
    unfold f_X2_holdersOf_L5 who_
    rw [if_neg hle, c_hat c k (by omega) ht, bd_some]
    by_cases hx : H (10 * t + p) &&& x = (0 : Int32)
    · rw [if_pos hx, if_pos hx, nm_eq, ek]
      exact h_who c k ht n (p + 1) F _ (by omega) (by omega)
    · rw [if_neg hx, if_neg hx, nm_eq, nm_eq, ek]
      exact h_who c k ht n (p + 1) F _ (by omega) (by omega)
theorem m_who {al ho H : Nat → Int32} {T G : List rw_} (m : QM al ho T G H) (k : QK T G H) {t : Nat} {x : Int32} (ht : t < T.length) : ∀ (n p F : Nat) (a : Int32), n + p = 10 → n < F → f_X6_whoHas_L5 (nI t) x ho F a (nI p) = some (who_ H t x n p a)
  | _, _, 0, _, _, hF => absurd hF (by omega)
  | 0, p, F + 1, a, hk, hF => by
    have hle : (10 : Int32) ≤ nI p := q_le (a := 10) (by omega) (by omega) (by omega)
    unfold f_X6_whoHas_L5 who_
    rw [if_pos hle]
  | n + 1, p, F + 1, a, hk, hF => by
    have hle : ¬ (10 : Int32) ≤ nI p := q_nle (a := 10) (by omega) (by omega) (by omega)
    have ek : nI p + (1 : Int32) = nI (p + 1) := n_at
    unfold f_X6_whoHas_L5 who_
    rw [if_neg hle, q_hat m k (by omega) ht, bd_some]
    by_cases hx : H (10 * t + p) &&& x = (0 : Int32)
    · rw [if_pos hx, if_pos hx, nm_eq, nm_eq, ek, or_z]
      exact m_who m k ht n (p + 1) F _ (by omega) (by omega)
    · rw [if_neg hx, if_neg hx, nm_eq, nm_eq, ek]
      exact m_who m k ht n (p + 1) F _ (by omega) (by omega)
