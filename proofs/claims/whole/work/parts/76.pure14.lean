/-! ===== PURE: the lengths of the shortest chains, in both; their links ===== -/
def f0_ (T : List rw_) (t : Nat) : Nat → Int32 := fun p => if p = cN (T.getD t z_ 0) then 0 else -1
theorem h_f0 {rT rG rH : Int32} {fT fG fH H : Nat → Int32} {T G : List rw_} (c : QC rT fT rG fG rH fH T G H) (k : QK T G H) {t : Nat} (ht : t < T.length) : ∀ (n x F : Nat) (fS : Nat → Int32), n + x = 10 → n < F → eqon x fS (f0_ T t) → ∃ fS' : Nat → Int32, f_X0_measure_L2 (nI t) (1 : Int32) rT fT F (nI x) fS = some fS' ∧ eqon 10 fS' (f0_ T t)
  | _, _, 0, _, _, hF, _ => absurd hF (by omega)
  | 0, x, F + 1, fS, h, hF, he => by
    have hle : (10 : Int32) ≤ nI x := q_le (a := 10) (by omega) (by omega) (by omega)
    have hx : x = 10 := by omega
    unfold f_X0_measure_L2
    rw [if_pos hle]
    exact ⟨fS, rfl, by rw [← hx]; exact he⟩
  | n + 1, x, F + 1, fS, h, hF, he => by
    have hle : ¬ (10 : Int32) ≤ nI x := q_nle (a := 10) (by omega) (by omega) (by omega)
    have ek : nI x + (1 : Int32) = nI (x + 1) := n_at
    have o := (k.2.2.2.1 t ht).1
    have key : ∀ v : Int32, v = f0_ T t x → ∃ fS' : Nat → Int32, f_X0_measure_L2 (nI t) (1 : Int32) rT fT F (nI (x + 1)) (upd fS x v) = some fS' ∧ eqon 10 fS' (f0_ T t) := by
      intro v hv
      refine h_f0 c k ht n (x + 1) F _ (by omega) (by omega) (fun i hi => ?_)
      by_cases e : i = x
      · rw [e, pk_us, hv]
      · rw [pk_un e]
        exact he i (by omega)
    unfold f_X0_measure_L2
    rw [if_neg hle, c.2.1.o ht k.2.1, bd_some, s_put (by omega), s_put (by omega), bd_some, bd_some]
    simp only [nm_eq, ek]
    by_cases hx : nI x = T.getD t z_ 0
    · rw [if_pos hx]
      refine key 0 ?_
      unfold f0_
      rw [← hx, cN_nI (by omega), if_pos rfl]
    · rw [if_neg hx]
      refine key (-1) ?_
      unfold f0_
      rw [if_neg (fun z => hx (by rw [z]; exact o.1.symm))]
theorem m_f0 {al ho H : Nat → Int32} {T G : List rw_} (m : QM al ho T G H) (k : QK T G H) {t : Nat} (ht : t < T.length) : ∀ (n x F : Nat) (fr : Nat → Int32), n + x = 10 → n < F → eqon x fr (f0_ T t) → ∃ fr' : Nat → Int32, f_X6_measure_L2 (nI t) al F (nI x) fr = some fr' ∧ eqon 10 fr' (f0_ T t)
  | _, _, 0, _, _, hF, _ => absurd hF (by omega)
  | 0, x, F + 1, fr, h, hF, he => by
    have hle : (10 : Int32) ≤ nI x := q_le (a := 10) (by omega) (by omega) (by omega)
    have hx : x = 10 := by omega
    unfold f_X6_measure_L2
    rw [if_pos hle]
    exact ⟨fr, rfl, by rw [← hx]; exact he⟩
  | n + 1, x, F + 1, fr, h, hF, he => by
    have hle : ¬ (10 : Int32) ≤ nI x := q_nle (a := 10) (by omega) (by omega) (by omega)
    have ek : nI x + (1 : Int32) = nI (x + 1) := n_at
    have o := (k.2.2.2.1 t ht).1
    have key : ∀ v : Int32, v = f0_ T t x → ∃ fr' : Nat → Int32, f_X6_measure_L2 (nI t) al F (nI (x + 1)) (upd fr x v) = some fr' ∧ eqon 10 fr' (f0_ T t) := by
      intro v hv
      refine m_f0 m k ht n (x + 1) F _ (by omega) (by omega) (fun i hi => ?_)
      by_cases e : i = x
      · rw [e, pk_us, hv]
      · rw [pk_un e]
        exact he i (by omega)
    have hc : (nI x).toNatClampNeg = x := n_cl (by omega)
    unfold f_X6_measure_L2
    rw [if_neg hle, m.2.1.owner ht k.2.1, bd_some, n_ix (by omega) (by omega), n_ix (by omega) (by omega), hc]
    simp only [nm_eq, ek]
    by_cases hx : nI x = T.getD t z_ 0
    · rw [if_pos hx]
      refine key 0 ?_
      unfold f0_
      rw [← hx, cN_nI (by omega), if_pos rfl]
    · rw [if_neg hx]
      refine key (-1) ?_
      unfold f0_
      rw [if_neg (fun z => hx (by rw [z]; exact o.1.symm))]
theorem h_cr {rT rG rH : Int32} {fT fG fH H : Nat → Int32} {T G : List rw_} (c : QC rT fT rG fG rH fH T G H) (k : QK T G H) {t : Nat} : ∀ (n s F : Nat) (q : Int32 × (Nat → Int32)), n + s = 9 → n < F → f_X0_measure_L46 (nI t) (1 : Int32) rT fT rG fG rH fH F q.1 (nI (s + 1)) q.2 = some (cr_ T G H t n s q)
  | _, _, 0, _, _, hF => absurd hF (by omega)
  | 0, s, F + 1, q, h, hF => by
    have hle : (10 : Int32) ≤ nI (s + 1) := q_le (a := 10) (by omega) (by omega) (by omega)
    unfold f_X0_measure_L46 cr_
    rw [if_pos hle]
  | n + 1, s, F + 1, q, h, hF => by
    have := k.1
    have hle : ¬ (10 : Int32) ≤ nI (s + 1) := q_nle (a := 10) (by omega) (by omega) (by omega)
    have ek : nI (s + 1) + (1 : Int32) = nI (s + 1 + 1) := n_at
    have e := h_cl (t := t) (s := s) c k G.length 0 FU (0, q.2) (by omega) (by unfold FU; omega)
    have e : f_X0_measure_L62 (nI t) (nI (s + 1)) (1 : Int32) rT fT rG fG rH fH FU (0 : Int32) (0 : Int32) q.2 = some (cl_ T G H t s G.length 0 (0, q.2)) := e
    unfold f_X0_measure_L46 cr_
    rw [if_neg hle]
    by_cases h0 : q.1 = 0
    · rw [if_pos h0, if_pos h0]
    · rw [if_neg h0, if_neg h0, e, bd2_mk, nm_eq, ek]
      exact h_cr c k n (s + 1) F _ (by omega) (by omega)
theorem m_mr {al ho H : Nat → Int32} {T G : List rw_} (m : QM al ho T G H) (k : QK T G H) {t : Nat} (ht : t < T.length) : ∀ (n s F : Nat) (fr : Nat → Int32), n + s = 10 → n < F → f_X6_measure_L36 (nI t) al ho F (nI s) fr = some (mr_ T G H t n s fr)
  | _, _, 0, _, _, hF => absurd hF (by omega)
  | 0, s, F + 1, fr, h, hF => by
    have hle : (10 : Int32) ≤ nI s := q_le (a := 10) (by omega) (by omega) (by omega)
    unfold f_X6_measure_L36 mr_
    rw [if_pos hle]
  | n + 1, s, F + 1, fr, h, hF => by
    have := k.1
    have hle : ¬ (10 : Int32) ≤ nI s := q_nle (a := 10) (by omega) (by omega) (by omega)
    have ek : nI s + (1 : Int32) = nI (s + 1) := n_at
    have e := m_cl (t := t) (s := s) m k ht G.length 0 FU (0, fr) (by omega) (by unfold FU; omega)
    have e : f_X6_measure_L44 (nI t) (nI s) al ho FU (0 : Int32) fr = some (cl_ T G H t s G.length 0 (0, fr)).2 := e
    unfold f_X6_measure_L36 mr_
    rw [if_neg hle, e, bd_some, nm_eq, ek]
    exact m_mr m k ht n (s + 1) F _ (by omega) (by omega)
def far_ (T G : List rw_) (H : Nat → Int32) (t : Nat) : Nat → Int32 := cr_ T G H t 9 0 (1, f0_ T t)
theorem f0_I {T G : List rw_} {H : Nat → Int32} {t : Nat} : cI T G H t 0 (f0_ T t) := by
  refine ⟨fun p _ => ?_, fun p v _ hv e => ?_⟩
  · unfold f0_
    split
    · exact Or.inr ⟨0, by omega, rfl⟩
    · exact Or.inl rfl
  · unfold f0_ at e
    split at e
    · have := (nI_eq (a := 0) (b := v + 1) (by omega) (by omega)).mp e
      omega
    · exact absurd e.symm (n_m1 (by omega))
theorem cn_pos {F : Nat → Int32} {i : Nat} (h : ¬ F i = -1) : ∀ m : Nat, i < m → 1 ≤ cn10 F m
  | 0, hi => absurd hi (by omega)
  | m + 1, hi => by
    unfold cn10
    by_cases e : m = i
    · rw [e, if_neg h]
      omega
    · have := cn_pos h m (by omega)
      omega
theorem far_mr {T G : List rw_} {H : Nat → Int32} {t : Nat} (k : QK T G H) (ht : t < T.length) : mr_ T G H t 10 0 (f0_ T t) = far_ T G H t ∧ cI T G H t 9 (far_ T G H t) := by
  have o := (k.2.2.2.1 t ht).1
  refine mr_cr k.2.2.1 9 0 (1, f0_ T t) (by omega) f0_I (fun z => absurd z (show ¬ (1 : Int32) = 0 by decide)) (fun _ => ?_)
  refine cn_pos (i := cN (T.getD t z_ 0)) ?_ 10 o.2
  show ¬ f0_ T t (cN (T.getD t z_ 0)) = -1
  unfold f0_
  rw [if_pos rfl]
  decide
theorem c_measure {rT rG rH : Int32} {fT fG fH H : Nat → Int32} {T G : List rw_} (c : QC rT fT rG fG rH fH T G H) (k : QK T G H) {t : Nat} (ht : t < T.length) (fS : Nat → Int32) : ∃ fS' : Nat → Int32, f_X0_measure (nI t) (1 : Int32) fS rT fT rG fG rH fH = some fS' ∧ eqon 10 fS' (far_ T G H t) := by
  obtain ⟨f1, e1, e2⟩ := h_f0 c k ht 10 0 FU fS (by omega) (by unfold FU; omega) (fun i hi => absurd hi (by omega))
  have e1 : f_X0_measure_L2 (nI t) (1 : Int32) rT fT FU (0 : Int32) fS = some f1 := e1
  have e3 := h_cr (t := t) c k 9 0 FU (1, f1) (by omega) (by unfold FU; omega)
  have e3 : f_X0_measure_L46 (nI t) (1 : Int32) rT fT rG fG rH fH FU (1 : Int32) (1 : Int32) f1 = some (cr_ T G H t 9 0 (1, f1)) := e3
  refine ⟨_, ?_, cr_congr k.2.2.1 9 0 (1, f1) (1, f0_ T t) rfl e2⟩
  unfold f_X0_measure
  rw [e1, bd_some, e3, bd_some]
theorem q_measure {al ho H : Nat → Int32} {T G : List rw_} (m : QM al ho T G H) (k : QK T G H) {t : Nat} (ht : t < T.length) (fr : Nat → Int32) : ∃ fr' : Nat → Int32, f_X6_measure (nI t) al ho fr = some fr' ∧ eqon 10 fr' (far_ T G H t) := by
  obtain ⟨f1, e1, e2⟩ := m_f0 m k ht 10 0 FU fr (by omega) (by unfold FU; omega) (fun i hi => absurd hi (by omega))
  have e1 : f_X6_measure_L2 (nI t) al FU (0 : Int32) fr = some f1 := e1
  have e3 := m_mr m k ht 10 0 FU f1 (by omega) (by unfold FU; omega)
  have e3 : f_X6_measure_L36 (nI t) al ho FU (0 : Int32) f1 = some (mr_ T G H t 10 0 f1) := e3
  refine ⟨_, ?_, (mr_congr k.2.2.1 10 0 f1 (f0_ T t) e2).trans (by rw [(far_mr k ht).1]; exact eqon.rfl')⟩
  unfold f_X6_measure
  rw [e1, bd_some, e3, bd_some]
/-- a last link, in both -/
theorem p_last {rT rG rH : Int32} {fT fG fH H al ho fS fr Fa : Nat → Int32} {T G : List rw_} (c : QC rT fT rG fG rH fH T G H) (m : QM al ho T G H) (k : QK T G H) {t w v : Nat} (ht : t < T.length) (hw : w < 10) (hv : v < 10) (e1 : eqon 10 fS Fa) (e2 : eqon 10 fr Fa) (hF : Fa w = nI (v + 1)) : ∀ (n j F F' : Nat), n + j = G.length → n < F → n < F' → (∃ i : Nat, j ≤ i ∧ i < G.length ∧ cN (G.getD i z_ 1) = w ∧ ¬ lkv T G H t i = 0 ∧ Fa (cN (G.getD i z_ 0)) = nI v) → ∃ i : Nat, f_X0_lastLink_L3 (nI w) (nI t) (nI (v + 1)) (1 : Int32) fS rT fT rG fG rH fH F (nI j) = some (nI i) ∧ f_X6_lastLink_L2 (nI w) (nI t) al ho fr F' (nI j) = some (nI i) ∧ i < G.length ∧ Fa (cN (G.getD i z_ 0)) = nI v
  | _, _, 0, _, _, hF, _, _ => absurd hF (by omega)
  | _, _, _, 0, _, _, hF, _ => absurd hF (by omega)
  | 0, j, F + 1, F' + 1, h, _, _, hx => by
    obtain ⟨i, i1, i2, _⟩ := hx
    omega
  | n + 1, j, F + 1, F' + 1, h, h1, h2, hx => by
    have := k.1
    have hj : j < G.length := by omega
    have o := k.2.2.1 j hj
    have hle : ¬ nI G.length ≤ nI j := q_nle (by omega) (by omega) (by omega)
    have ek : nI j + (1 : Int32) = nI (j + 1) := n_at
    have eb : (G.getD j z_ 1 = nI w) ↔ cN (G.getD j z_ 1) = w := ⟨fun z => by rw [z, cN_nI (by omega)], fun z => by rw [← z]; exact o.2.1.1⟩
    have el : (G.getD j z_ 0).toNatClampNeg = cN (G.getD j z_ 0) := rfl
    have ew : (nI w).toNatClampNeg = w := n_cl (by omega)
    have nx : ¬ (cN (G.getD j z_ 1) = w ∧ ¬ lkv T G H t j = 0 ∧ Fa (cN (G.getD j z_ 0)) = nI v) → ∃ i : Nat, f_X0_lastLink_L3 (nI w) (nI t) (nI (v + 1)) (1 : Int32) fS rT fT rG fG rH fH F (nI (j + 1)) = some (nI i) ∧ f_X6_lastLink_L2 (nI w) (nI t) al ho fr F' (nI (j + 1)) = some (nI i) ∧ i < G.length ∧ Fa (cN (G.getD i z_ 0)) = nI v := by
      intro hn
      refine p_last c m k ht hw hv e1 e2 hF n (j + 1) F F' (by omega) (by omega) (by omega) ?_
      obtain ⟨i, i1, i2, i3⟩ := hx
      refine ⟨i, ?_, i2, i3⟩
      by_cases e : i = j
      · rw [e] at i3
        exact absurd i3 hn
      · omega
    unfold f_X0_lastLink_L3 f_X6_lastLink_L2
    rw [c.1.rows, bd_some, if_neg hle, c.1.gb hj k.1, bd_some, c_lnk c k hj, bd_some, ix5, m.1.e5, if_neg hle, q_lnk m k hj ht, bd_some, m.1.b hj k.1, bd_some, m.1.l hj k.1, bd_some, ixN o.1 (show 10 < 100000 by omega), n_ix (i := w) (by omega) (by omega), el, ew, e1 _ o.1.2, e2 _ o.1.2, e2 _ hw, hF, nI_pred]
    simp only [nm_eq, ek]
    by_cases c1 : G.getD j z_ 1 = nI w
    · rw [if_pos c1]
      by_cases c2 : lkv T G H t j = 0
      · rw [c2, if_pos (by split <;> rfl), if_pos rfl]
        exact nx (fun z => z.2.1 c2)
      · rw [if_neg c2, if_pos c1]
        by_cases c3 : Fa (cN (G.getD j z_ 0)) = nI v
        · rw [if_pos c3, if_neg c2, if_pos c3]
          exact ⟨j, rfl, rfl, hj, c3⟩
        · rw [if_neg c3, if_pos rfl, if_neg c3]
          exact nx (fun z => c3 z.2.2)
    · rw [if_neg c1, if_neg c1]
      have := nx (fun z => c1 (eb.mpr z.1))
      by_cases c2 : lkv T G H t j = 0
      · rw [if_pos c2]
        exact this
      · rw [if_neg c2]
        exact this
theorem q_last {rT rG rH : Int32} {fT fG fH H al ho fS fr : Nat → Int32} {T G : List rw_} (c : QC rT fT rG fG rH fH T G H) (m : QM al ho T G H) (k : QK T G H) {t w v : Nat} (ht : t < T.length) (hw : w < 10) (hv : v < 10) (e1 : eqon 10 fS (far_ T G H t)) (e2 : eqon 10 fr (far_ T G H t)) (hF : far_ T G H t w = nI (v + 1)) : ∃ i : Nat, f_X0_lastLink (nI w) (nI t) (nI (v + 1)) (1 : Int32) fS rT fT rG fG rH fH = some (nI i) ∧ f_X6_lastLink (nI w) (nI t) al ho fr = some (nI i) ∧ i < G.length ∧ far_ T G H t (cN (G.getD i z_ 0)) = nI v := by
  have := k.1
  obtain ⟨j, j1, j2, j3, j4⟩ := (far_mr k ht).2.2 w v hw hv hF
  have e := p_last c m k ht hw hv e1 e2 hF G.length 0 FU FU (by omega) (by unfold FU; omega) (by unfold FU; omega) ⟨j, by omega, j1, j2, j3, j4⟩
  exact e
/-- the links from the end, in both -/
theorem p_link {rT rG rH : Int32} {fT fG fH H al ho fS fr : Nat → Int32} {T G : List rw_} (c : QC rT fT rG fG rH fH T G H) (m : QM al ho T G H) (k : QK T G H) {t pl : Nat} (ht : t < T.length) (e1 : eqon 10 fS (far_ T G H t)) (e2 : eqon 10 fr (far_ T G H t)) : ∀ (l w F F' : Nat) (x : Int32), w < 10 → l + pl < 10 → l + 1 < F → l < F' → far_ T G H t w = nI (l + pl + 1) → ∃ i i' : Nat, f_X6_lastLink (nI w) (nI t) al ho fr = some (nI i) ∧ f_X6_link_L97 (nI t) al ho fr F' (nI i) (nI l) = some (nI i') ∧ i' < G.length ∧ f_X0_numberAt_L13 (nI t) (nI pl) (1 : Int32) fS rT fT rG fG rH fH F x (nI w) (nI (l + pl + 1)) = some (G.getD i' z_ 5)
  | _, _, 0, _, _, _, _, hF, _, _ => absurd hF (by omega)
  | _, _, _, 0, _, _, _, _, hF, _ => absurd hF (by omega)
  | 0, w, F + 1, F' + 1, x, hw, hl, h1, h2, hf => by
    obtain ⟨i, i1, i2, i3, i4⟩ := q_last c m k ht hw (v := 0 + pl) (by omega) e1 e2 hf
    refine ⟨i, i, i2, ?_, i3, ?_⟩
    · unfold f_X6_link_L97
      rw [if_pos (show nI 0 ≤ (0 : Int32) by decide)]
    · obtain ⟨F1, hF1⟩ : ∃ F1, F = F1 + 1 := ⟨F - 1, by omega⟩
      have hm : nI (0 + pl + 1) + (-1 : Int32) = nI (0 + pl) := pk_m1 _
      unfold f_X0_numberAt_L13
      rw [if_neg (q_nle (by omega) (by omega) (by omega)), if_neg (show ¬ nI (0 + pl + 1) ≤ (0 : Int32) from q_nle (b := 0) (by omega) (by omega) (by omega)), i1, bd_some, c.1.gn i3 k.1, bd_some, c.1.gl i3 k.1, bd_some, nm_eq, hm, hF1]
      unfold f_X0_numberAt_L13
      rw [if_pos (q_le (by omega) (by omega) (by omega))]
  | l + 1, w, F + 1, F' + 1, x, hw, hl, h1, h2, hf => by
    obtain ⟨i, i1, i2, i3, i4⟩ := q_last c m k ht hw (v := l + 1 + pl) (by omega) e1 e2 hf
    have o := k.2.2.1 i i3
    have hf2 : far_ T G H t (cN (G.getD i z_ 0)) = nI (l + pl + 1) := by rw [i4, show l + 1 + pl = l + pl + 1 by omega]
    obtain ⟨a, b, a1, a2, a3, a4⟩ := p_link c m k ht e1 e2 l (cN (G.getD i z_ 0)) F F' (G.getD i z_ 5) o.1.2 (by omega) (by omega) (by omega) hf2
    rw [← o.1.1] at a1 a4
    have hm : nI (l + 1) + (-1 : Int32) = nI l := pk_m1 _
    have hm2 : nI (l + 1 + pl + 1) + (-1 : Int32) = nI (l + pl + 1) := by
      rw [pk_m1, show l + 1 + pl = l + pl + 1 by omega]
    refine ⟨i, b, i2, ?_, a3, ?_⟩
    · unfold f_X6_link_L97
      rw [if_neg (show ¬ nI (l + 1) ≤ (0 : Int32) from q_nle (b := 0) (by omega) (by omega) (by omega)), m.1.l i3 k.1, bd_some, a1, bd_some, nm_eq, hm]
      exact a2
    · unfold f_X0_numberAt_L13
      rw [if_neg (q_nle (by omega) (by omega) (by omega)), if_neg (show ¬ nI (l + 1 + pl + 1) ≤ (0 : Int32) from q_nle (b := 0) (by omega) (by omega) (by omega)), i1, bd_some, c.1.gn i3 k.1, bd_some, c.1.gl i3 k.1, bd_some, nm_eq, hm2]
      exact a4
