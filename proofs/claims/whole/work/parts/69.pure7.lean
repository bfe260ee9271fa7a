/-! ===== PURE: the starts of what is held; settle and lay ===== -/
theorem RT.o {rT : Int32} {fT : Nat → Int32} {T : List rw_} {t : Nat} (h : RT 2 rT fT T) (ht : t < T.length) (hl : T.length ≤ 8) : f_X3_at (2 : Int32) 16 (nI t) (0 : Int32) rT fT = some (T.getD t z_ 0) := by
  have e := h.t (j := 0) ht hl (by omega)
  exact e
theorem RT.mk_ {rT : Int32} {fT : Nat → Int32} {T : List rw_} {t : Nat} (h : RT 2 rT fT T) (ht : t < T.length) (hl : T.length ≤ 8) : f_X3_at (2 : Int32) 16 (nI t) (1 : Int32) rT fT = some (T.getD t z_ 1) := by
  have e := h.t (j := 1) ht hl (by omega)
  exact e
theorem RT.gl {rG : Int32} {fG : Nat → Int32} {G : List rw_} {k : Nat} (h : RT 6 rG fG G) (hk : k < G.length) (hl : G.length ≤ 40) : f_X3_at (6 : Int32) 240 (nI k) (0 : Int32) rG fG = some (G.getD k z_ 0) := by
  have e := h.g (j := 0) hk hl (by omega)
  exact e
theorem RT.gb {rG : Int32} {fG : Nat → Int32} {G : List rw_} {k : Nat} (h : RT 6 rG fG G) (hk : k < G.length) (hl : G.length ≤ 40) : f_X3_at (6 : Int32) 240 (nI k) (1 : Int32) rG fG = some (G.getD k z_ 1) := by
  have e := h.g (j := 1) hk hl (by omega)
  exact e
theorem RT.gt {rG : Int32} {fG : Nat → Int32} {G : List rw_} {k : Nat} (h : RT 6 rG fG G) (hk : k < G.length) (hl : G.length ≤ 40) : f_X3_at (6 : Int32) 240 (nI k) (2 : Int32) rG fG = some (G.getD k z_ 2) := by
  have e := h.g (j := 2) hk hl (by omega)
  exact e
theorem RT.gr {rG : Int32} {fG : Nat → Int32} {G : List rw_} {k : Nat} (h : RT 6 rG fG G) (hk : k < G.length) (hl : G.length ≤ 40) : f_X3_at (6 : Int32) 240 (nI k) (3 : Int32) rG fG = some (G.getD k z_ 3) := by
  have e := h.g (j := 3) hk hl (by omega)
  exact e
theorem RT.gh {rG : Int32} {fG : Nat → Int32} {G : List rw_} {k : Nat} (h : RT 6 rG fG G) (hk : k < G.length) (hl : G.length ≤ 40) : f_X3_at (6 : Int32) 240 (nI k) (4 : Int32) rG fG = some (G.getD k z_ 4) := by
  have e := h.g (j := 4) hk hl (by omega)
  exact e
theorem RT.gn {rG : Int32} {fG : Nat → Int32} {G : List rw_} {k : Nat} (h : RT 6 rG fG G) (hk : k < G.length) (hl : G.length ≤ 40) : f_X3_at (6 : Int32) 240 (nI k) (5 : Int32) rG fG = some (G.getD k z_ 5) := by
  have e := h.g (j := 5) hk hl (by omega)
  exact e
theorem RT.rows {col : Nat} {r : Int32} {f : Nat → Int32} {L : List rw_} (h : RT col r f L) : f_X3_rows r = some (nI L.length) := by
  rw [h.1]
  rfl
theorem q_le {a b : Nat} (ha : a < 100000) (hb : b < 100000) (h : a ≤ b) : nI a ≤ nI b := (n_le (by omega) (by omega)).mpr h
theorem q_nle {a b : Nat} (ha : a < 100000) (hb : b < 100000) (h : b < a) : ¬ nI a ≤ nI b := fun z => absurd ((n_le (by omega) (by omega)).mp z) (by omega)
theorem q_lt {a b : Nat} (ha : a < 100000) (hb : b < 100000) (h : a < b) : nI a < nI b := (n_lt (by omega) (by omega)).mpr h
theorem q_nlt {a b : Nat} (ha : a < 100000) (hb : b < 100000) (h : b ≤ a) : ¬ nI a < nI b := fun z => absurd ((n_lt (by omega) (by omega)).mp z) (by omega)
theorem q_ne {a b : Nat} (ha : a < 100000) (hb : b < 100000) (h : a ≠ b) : ¬ nI a = nI b := fun z => h ((nI_eq (by omega) (by omega)).mp z)
/-- what is held at first: the owners' rights -/
def h0 (T : List rw_) : Nat → Int32 := fun i => if i % 10 = cN (T.getD (i / 10) z_ 0) then 7 else 0
theorem h_st1 {rT : Int32} {fT : Nat → Int32} {T : List rw_} (hT : RT 2 rT fT T) (hlT : T.length ≤ 8) (hTs : okTs T) {t : Nat} (ht : t < T.length) : ∀ (n x F : Nat) (H : Nat → Int32), n + x = 10 → n < F → ∃ H' : Nat → Int32, f_X2_settle_L15 (nI t) rT fT (nI T.length) F (nI x) H = some H' ∧ (∀ i : Nat, i < 10 * t + x → H' i = H i) ∧ (∀ i : Nat, 10 * t + x ≤ i → i < 10 * t + 10 → H' i = h0 T i)
  | _, _, 0, _, _, hF => absurd hF (by omega)
  | 0, x, F + 1, H, h, hF => by
    have hle : (10 : Int32) ≤ nI x := q_le (a := 10) (by omega) (by omega) (by omega)
    unfold f_X2_settle_L15
    rw [if_pos hle]
    exact ⟨H, rfl, fun _ _ => rfl, fun _ _ _ => absurd h (by omega)⟩
  | n + 1, x, F + 1, H, h, hF => by
    have hle : ¬ (10 : Int32) ≤ nI x := q_nle (a := 10) (by omega) (by omega) (by omega)
    have ek : nI x + (1 : Int32) = nI (x + 1) := n_at
    have ep : ∀ v : Int32, f_X3_put (10 : Int32) 80 (nI t) (nI x) v (nI T.length) H = some (upd H (10 * t + x) v) := fun v => h_put (by omega) ht hlT
    have o := (hTs t ht).1
    have key : ∀ v : Int32, v = h0 T (10 * t + x) → ∃ H' : Nat → Int32, f_X2_settle_L15 (nI t) rT fT (nI T.length) F (nI (x + 1)) (upd H (10 * t + x) v) = some H' ∧ (∀ i : Nat, i < 10 * t + x → H' i = H i) ∧ (∀ i : Nat, 10 * t + x ≤ i → i < 10 * t + 10 → H' i = h0 T i) := by
      intro v hv
      obtain ⟨H', e1, e2, e3⟩ := h_st1 hT hlT hTs ht n (x + 1) F (upd H (10 * t + x) v) (by omega) (by omega)
      refine ⟨H', e1, fun i hi => ?_, fun i hi hj => ?_⟩
      · rw [e2 i (by omega), pk_un (by omega)]
      · by_cases e : i = 10 * t + x
        · rw [e, e2 _ (by omega), pk_us, hv]
        · exact e3 i (by omega) hj
    unfold f_X2_settle_L15
    rw [if_neg hle, hT.o ht hlT, bd_some, ep, ep, bd_some, bd_some]
    simp only [nm_eq, ek]
    have hv : h0 T (10 * t + x) = if x = cN (T.getD t z_ 0) then 7 else 0 := by
      unfold h0
      rw [show (10 * t + x) % 10 = x by omega, show (10 * t + x) / 10 = t by omega]
    by_cases hx : nI x = T.getD t z_ 0
    · rw [if_pos hx]
      exact key 7 (by rw [hv, ← hx, cN_nI (by omega), if_pos rfl])
    · rw [if_neg hx]
      refine key 0 ?_
      rw [hv, if_neg (fun z => hx ?_)]
      rw [z]
      exact o.1.symm
theorem h_st2 {rT : Int32} {fT : Nat → Int32} {T : List rw_} (hT : RT 2 rT fT T) (hlT : T.length ≤ 8) (hTs : okTs T) : ∀ (n t F : Nat) (H : Nat → Int32), n + t = T.length → n < F → eqon (10 * t) H (h0 T) → ∃ H' : Nat → Int32, f_X2_settle_L2 rT fT (nI T.length) F (nI t) H = some H' ∧ eqon (10 * T.length) H' (h0 T)
  | _, _, 0, _, _, hF, _ => absurd hF (by omega)
  | 0, t, F + 1, H, h, hF, he => by
    have hle : nI T.length ≤ nI t := q_le (by omega) (by omega) (by omega)
    have ht : t = T.length := by omega
    unfold f_X2_settle_L2
    rw [hT.rows, bd_some, if_pos hle]
    exact ⟨H, rfl, by rw [← ht]; exact he⟩
  | n + 1, t, F + 1, H, h, hF, he => by
    have hle : ¬ nI T.length ≤ nI t := q_nle (by omega) (by omega) (by omega)
    have ek : nI t + (1 : Int32) = nI (t + 1) := n_at
    obtain ⟨H1, e1, e2, e3⟩ := h_st1 hT hlT hTs (t := t) (by omega) 10 0 FU H (by omega) (by unfold FU; omega)
    have e1 : f_X2_settle_L15 (nI t) rT fT (nI T.length) FU (0 : Int32) H = some H1 := e1
    unfold f_X2_settle_L2
    rw [hT.rows, bd_some, if_neg hle, e1, bd_some, nm_eq, ek]
    refine h_st2 hT hlT hTs n (t + 1) F H1 (by omega) (by omega) (fun i hi => ?_)
    by_cases hi2 : i < 10 * t
    · rw [e2 i (by omega)]
      exact he i hi2
    · exact e3 i (by omega) (by omega)
theorem m_st1 : ∀ (n x F : Nat) (H : Nat → Int32), n + x = 80 → n < F → eqon x H (fun _ => 0) → ∃ H' : Nat → Int32, f_X6_lay_L2 F (nI x) H = some H' ∧ eqon 80 H' (fun _ => 0)
  | _, _, 0, _, _, hF, _ => absurd hF (by omega)
  | 0, x, F + 1, H, h, hF, he => by
    have hle : (80 : Int32) ≤ nI x := q_le (a := 80) (by omega) (by omega) (by omega)
    have hx : x = 80 := by omega
    unfold f_X6_lay_L2
    rw [if_pos hle]
    exact ⟨H, rfl, by rw [← hx]; exact he⟩
  | n + 1, x, F + 1, H, h, hF, he => by
    have hle : ¬ (80 : Int32) ≤ nI x := q_nle (a := 80) (by omega) (by omega) (by omega)
    have ek : nI x + (1 : Int32) = nI (x + 1) := n_at
    unfold f_X6_lay_L2
    rw [if_neg hle, n_ix (by omega) (by omega), n_cl (by omega), nm_eq, nm_eq, ek]
    refine m_st1 n (x + 1) F _ (by omega) (by omega) (fun i hi => ?_)
    by_cases e : i = x
    · rw [e, pk_us]
    · rw [pk_un e]
      exact he i (by omega)
theorem m_st2 {al : Nat → Int32} {T : List rw_} (hT : MT al T) (hlT : T.length ≤ 8) (hTs : okTs T) : ∀ (n t F : Nat) (H : Nat → Int32), n + t = T.length → n < F → (∀ i : Nat, i < 80 → H i = if i < 10 * t then h0 T i else 0) → ∃ H' : Nat → Int32, f_X6_lay_L23 al F (nI t) H = some H' ∧ eqon (10 * T.length) H' (h0 T)
  | _, _, 0, _, _, hF, _ => absurd hF (by omega)
  | 0, t, F + 1, H, h, hF, he => by
    have e4 : al (4 : Int32).toNatClampNeg = nI T.length := hT.1
    have hle : nI T.length ≤ nI t := q_le (by omega) (by omega) (by omega)
    have ht : t = T.length := by omega
    unfold f_X6_lay_L23
    rw [ix4, e4, if_pos hle]
    exact ⟨H, rfl, fun i hi => by rw [he i (by omega), if_pos (by omega)]⟩
  | n + 1, t, F + 1, H, h, hF, he => by
    have e4 : al (4 : Int32).toNatClampNeg = nI T.length := hT.1
    have hle : ¬ nI T.length ≤ nI t := q_nle (by omega) (by omega) (by omega)
    have ek : nI t + (1 : Int32) = nI (t + 1) := n_at
    have o := (hTs t (by omega)).1
    have o2 := o.2
    have ei : (10 : Int32) * nI t + T.getD t z_ 0 = nI (10 * t + cN (T.getD t z_ 0)) := by
      conv => lhs; rw [o.1]
      rw [show (10 : Int32) = nI 10 from rfl, n_mul, n_at]
    unfold f_X6_lay_L23
    rw [ix4, e4, if_neg hle, hT.owner (by omega) hlT, bd_some, ei, n_ix (by omega) (by omega), n_cl (by omega), nm_eq, nm_eq, ek]
    refine m_st2 hT hlT hTs n (t + 1) F _ (by omega) (by omega) (fun i hi => ?_)
    by_cases e : i = 10 * t + cN (T.getD t z_ 0)
    · rw [e, pk_us, if_pos (by omega)]
      unfold h0
      rw [show (10 * t + cN (T.getD t z_ 0)) / 10 = t by omega, if_pos (by omega)]
    · rw [pk_un e, he i hi]
      by_cases h1 : i < 10 * t
      · rw [if_pos h1, if_pos (by omega)]
      · rw [if_neg h1]
        by_cases h2 : i < 10 * (t + 1)
        · rw [if_pos h2]
          unfold h0
          rw [show i / 10 = t by omega, if_neg (by omega)]
        · rw [if_neg h2]
/-- what is held -/
def hd (T G : List rw_) : Nat → Int32 := rn T G 241 1 (h0 T)
theorem h0_ok {T : List rw_} (m : Nat) : okH m (h0 T) := by
  intro i _
  unfold h0
  split
  · exact ok7
  · exact ok0
theorem hd_ok {T G : List rw_} (hok : okGs T G) (hTs : okTs T) : okH (10 * T.length) (hd T G) := rn_ok hok hTs 241 1 _ (h0_ok _)
theorem okH.congr {m : Nat} {f g : Nat → Int32} (h : eqon m f g) (hg : okH m g) : okH m f := fun i hi => by rw [h i hi]; exact hg i hi
theorem h_settle {rT rG : Int32} {fT fG fH : Nat → Int32} {T G : List rw_} (hG : RT 6 rG fG G) (hT : RT 2 rT fT T) (hl : G.length ≤ 40) (hlT : T.length ≤ 8) (hok : okGs T G) (hTs : okTs T) : ∃ fH' : Nat → Int32, f_X2_settle rT fT rG fG (nI T.length) fH = some fH' ∧ eqon (10 * T.length) fH' (hd T G) := by
  obtain ⟨H1, e1, e2⟩ := h_st2 hT hlT hTs T.length 0 FU fH (by omega) (by unfold FU; omega) (fun i hi => absurd hi (by omega))
  have e1 : f_X2_settle_L2 rT fT (nI T.length) FU (0 : Int32) fH = some H1 := e1
  have e3 := h_run hG hT hl hlT hok 241 0 FU 1 H1 (by omega) (by unfold FU; omega)
  have e3 : f_X2_settle_L65 rT fT rG fG (nI T.length) FU 1 (0 : Int32) H1 = some (rn T G 241 1 H1) := e3
  refine ⟨rn T G 241 1 H1, ?_, rn_congr hok 241 1 _ _ e2⟩
  unfold f_X2_settle
  rw [e1, bd_some, e3, bd_some]
theorem m_lay {al ho : Nat → Int32} {T G : List rw_} (hG : MG al G) (hT : MT al T) (hl : G.length ≤ 40) (hlT : T.length ≤ 8) (hok : okGs T G) (hTs : okTs T) : ∃ ho' : Nat → Int32, f_X6_lay al ho = some ho' ∧ eqon (10 * T.length) ho' (hd T G) := by
  obtain ⟨H0, e0, e0'⟩ := m_st1 80 0 FU ho (by omega) (by unfold FU; omega) (fun i hi => absurd hi (by omega))
  have e0 : f_X6_lay_L2 FU (0 : Int32) ho = some H0 := e0
  obtain ⟨H1, e1, e2⟩ := m_st2 hT hlT hTs T.length 0 FU H0 (by omega) (by unfold FU; omega) (fun i hi => by rw [e0' i hi, if_neg (by omega)])
  have e1 : f_X6_lay_L23 al FU (0 : Int32) H0 = some H1 := e1
  have e3 := m_run hG hT hl hlT hok hTs 241 FU 1 H1 (okH.congr e2 (h0_ok _)) (Or.inr (by omega)) (by unfold FU; omega)
  refine ⟨rn T G 241 1 H1, ?_, rn_congr hok 241 1 _ _ e2⟩
  unfold f_X6_lay
  rw [e0, bd_some, e1, bd_some, e3, bd_some]
