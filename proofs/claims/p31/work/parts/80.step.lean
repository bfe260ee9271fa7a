/-! ===== PURE: one step in both houses ===== -/
/-- what stays true of a house: three things; numbers, times and counts -/
def NI (k : Nat) (A : AS) : Prop := A.2.1.length = 3 ∧ A.2.2.2.2.1 = nI A.2.2.1.length + A.2.2.2.2.2.1 + A.2.2.2.2.2.2.1 ∧ (∃ g0 : Nat, g0 ≤ k ∧ A.2.2.2.2.1 = nI g0 ∧ ∀ g ∈ A.2.2.1, ∃ n : Nat, n < g0 ∧ g 5 = nI n) ∧ ∃ t0 : Nat, t0 ≤ 40 * k ∧ A.2.2.2.2.2.2.2 = nI t0
theorem up_ok (v : Int32) {n : Nat} (h0 : 0 < n) (hn : n < 1000) : ∃ r : Nat, r < n ∧ f_L_up v (nI n) = some (nI r) := by
  obtain ⟨a, ha, ea⟩ := pk_andE v (m := 2147483647) 31 (by decide)
  refine ⟨a % n, Nat.mod_lt _ h0, ?_⟩
  unfold f_L_up dz
  rw [if_neg (nI_ne0 h0 (by omega)), nm_eq, ea, pk_rem ha h0 (by omega)]
theorem cell_ok {L k : Nat} {xs : Nat → Int32} (hL : L < 1000) (hk : k < 1000) : ∃ r : Int32, f_L_cell L xs (nI k) = some r := by
  unfold f_L_cell
  by_cases c : Int32.ofNat L ≤ nI k
  · rw [if_pos c]
    exact ⟨_, rfl⟩
  · rw [if_neg c, n_ix (show k < L from Nat.not_le.mp fun z => c (q_le (a := L) (by omega) (by omega) z)) (by omega)]
    exact ⟨_, rfl⟩
theorem bt1 : ∀ a : Fin 120, ¬ btw (nI a - 80) (-100) 100 = 0 := by decide +kernel
theorem bt2 : ∀ a : Fin 101, ¬ btw (nI a) 0 100 = 0 := by decide +kernel
theorem bt3 : ∀ a : Fin 8, ¬ btw (nI a ||| 5) 0 7 = 0 := by decide +kernel
theorem bt4 : ∀ (a : Fin 7) (c : Fin 2), ¬ btw (((1 : Int32) + nI a) ||| (nI c * 5)) 1 7 = 0 := by decide +kernel
theorem ok5 : okN 8 5 := by
  show (5 : Int32) = nI (cN 5) ∧ cN 5 < 8
  decide +kernel
theorem kept_in {P : List rw_} {S : List rw_} {g : rw_} (h : g ∈ kept P S) : g ∈ S := (List.mem_filter.mp h).1
theorem tks_in {g : rw_} : ∀ (n : Nat) (q : TK), g ∈ (tks n q).2.1 → g ∈ q.2.1
  | 0, _, h => h
  | n + 1, q, h => kept_in (P := tkP q.1) (tks_in n (tk1 q) h)
theorem alw_m {P T G Lg : List rw_} {p t : Nat} {x4 x5 : Int32} (o : OS P T G Lg) (hp : p < 10) (ht : t < T.length) : alw P.reverse (T.map mT) (G.map mG) (9 - p) t x4 x5 = alw P T G p t x4 x5 := by
  unfold alw
  rw [(hd_m o.2.2.1).at hp ht, rev_at o.1 hp, List.length_map]
/-- with a grant more, no pair sees less -/
theorem gr_mono {T G : List rw_} {g : rw_} (q : QG T G) (hl : G.length < 40) (hg : okG T.length g) : pn_ (hd T G) T.length 0 ≤ pn_ (hd T (G ++ [g])) T.length 0 := by
  have q2 := q.addG hl hg
  have hle := hd_least (K := hd T (G ++ [g])) q (hd_ok q2.2.2.1 q2.2.2.2) (fun k hk => by
    have e := hd_clo q2 k (by rw [List.length_append]; show k < G.length + 1; omega)
    have eg : (G ++ [g]).getD k z_ = G.getD k z_ := gd_app hk
    unfold ic pa at e
    rw [eg] at e
    exact e) (hd_ge q2)
  refine pn_mono T.length 0 fun s p h1 h2 h3 => ?_
  have hs : s < T.length := by omega
  unfold o1
  by_cases c : hd T G (10 * s + p) &&& (1 : Int32) = 0
  · rw [if_pos c]
    exact Nat.zero_le _
  · rw [if_neg c, if_neg (an1 (hd_o q h3 hs) (hd_o q2 h3 hs) (hle _ (by omega)) c)]
    exact Nat.le_refl _
def gr_blk (x1 x2 x3 x4 x5 : Int32) (so sp : LSt) : Option (LSt × LSt) :=
  (bd2 (f_B_gainBy x1 x2 x3 x4 x5 so) (fun r_79 so_80 =>
  bd2 (f_B_gainBy ((9 : Int32) - x1) ((9 : Int32) - x2) x3 x4 x5 sp) (fun r_82 sp_83 =>
  if r_79 = r_82 then
  (if r_79 = (-1 : Int32) then
  (some (so_80, sp_83))
  else
  (bd (f_B_value (6 : Int32) so_80) (fun r_87 =>
  bd2 (f_B_grant x1 x2 x3 x4 x5 so_80) (fun r_89 so_90 =>
  if r_79 < (0 : Int32) then
  (none)
  else
  (bd2 (f_B_grant ((9 : Int32) - x1) ((9 : Int32) - x2) x3 x4 x5 sp_83) (fun r_93 sp_94 =>
  if r_89 = r_93 then
  (bd (f_B_value (6 : Int32) so_90) (fun r_97 =>
  if r_97 = r_87 + r_79 then
  (bd (f_B_grantOf r_89 (3 : Int32) so_90) (fun r_100 =>
  if r_100 = x4 then
  (some (so_90, sp_94))
  else
  (none)))
  else
  (none)))
  else
  (none)))))))
  else
  (none))))
theorem app_m {G : List rw_} {p b t : Nat} {r h gi : Int32} (hp : p < 10) (hb : b < 10) : G.map mG ++ [g6 (nI (9 - p)) (nI (9 - b)) (nI t) r h gi] = (G ++ [g6 (nI p) (nI b) (nI t) r h gi]).map mG := by
  rw [List.map_append, List.map_cons, mG_g6, mi_nI hp, mi_nI hb]
  rfl
theorem p_gr {so sp : LSt} {P T G Lg : List rw_} {gi di re ti : Int32} {k f b t : Nat} {r th : Int32} (h : CR so (P, T, G, Lg, gi, di, re, ti)) (h' : CR sp (P.reverse, T.map mT, G.map mG, Lg.map mL, gi, di, re, ti)) (ni : NI k (P, T, G, Lg, gi, di, re, ti)) (hk : k < 60) (hf : f < 10) (hb : b < 10) (ht : t < 3) (h4 : ¬ btw r 1 7 = 0) (h5 : ¬ btw th 0 100 = 0) (hfb : f ≠ b) : ∃ (so' sp' : LSt) (A' : AS), gr_blk (nI f) (nI b) (nI t) r th so sp = some (so', sp') ∧ CR so' A' ∧ CR sp' (mA A') ∧ NI (k + 1) A' := by
  obtain ⟨n1, n2, ⟨g0, n3, n4, n5⟩, ⟨t0, n6, n7⟩⟩ := ni
  have n1 : T.length = 3 := n1
  have n2 : gi = nI G.length + di + re := n2
  have n4 : gi = nI g0 := n4
  have n5 : ∀ g ∈ G, ∃ n : Nat, n < g0 ∧ g 5 = nI n := n5
  have n7 : ti = nI t0 := n7
  have o : OS P T G Lg := cr_f h
  have q := o.2.2.1
  have hl := q.1
  have htT : t < T.length := by omega
  have htM : t < (T.map mT).length := by rw [List.length_map]; exact htT
  obtain ⟨s1, c1, h1⟩ := b_gainBy h hf hb htT h4 h5 hfb
  obtain ⟨s2, c2, h2⟩ := b_gainBy h' (show 9 - f < 10 by omega) (show 9 - b < 10 by omega) htM h4 h5 (show 9 - f ≠ 9 - b by omega)
  rw [alw_m o hf htT, app_m hf hb, prs_m (hd_m q)] at c2
  unfold gr_blk
  rw [e9_ hf, e9_ hb, c1, bd2_some]
  by_cases ha : alw P T G f t r th = 0
  · rw [if_pos ha] at c2
    rw [c2, bd2_some, if_pos ha, if_pos rfl, if_pos rfl]
    exact ⟨s1, s2, (P, T, G, Lg, gi, di, re, ti), rfl, h1, h2, n1, n2, ⟨g0, by omega, n4, n5⟩, ⟨t0, by omega, n7⟩⟩
  · have hl4 := alw_lt hl ha
    have hg := okG_g (gi := gi) (r := r) (h := th) q.2.1 hf hb htT h4 h5
    have q2 := q.addG hl4 hg
    rw [if_neg ha, prs_m (hd_m q2)] at c2
    rw [c2, bd2_some, if_neg ha, if_pos rfl]
    have hmo := gr_mono q hl4 hg
    have hbd := pn_le (H := hd T (G ++ [g6 (nI f) (nI b) (nI t) r th gi])) T.length 0
    have ed : prs T (hd T (G ++ [g6 (nI f) (nI b) (nI t) r th gi])) - prs T (hd T G) = nI (pn_ (hd T (G ++ [g6 (nI f) (nI b) (nI t) r th gi])) T.length 0 - pn_ (hd T G) T.length 0) := by
      rw [prs_p, prs_p, pk_sub hmo]
    have es : prs T (hd T (G ++ [g6 (nI f) (nI b) (nI t) r th gi])) = prs T (hd T G) + (prs T (hd T (G ++ [g6 (nI f) (nI b) (nI t) r th gi])) - prs T (hd T G)) := by
      rw [ed, prs_p, prs_p, n_at]
      congr 1
      omega
    obtain ⟨s3, c3, h3⟩ := b_grant h1 hf hb htT h4 h5 hfb ha
    obtain ⟨s4, c4, h4'⟩ := b_grant h2 (show 9 - f < 10 by omega) (show 9 - b < 10 by omega) htM h4 h5 (show 9 - f ≠ 9 - b by omega) (by rw [alw_m o hf htT]; exact ha)
    rw [app_m hf hb] at h4'
    have v6 : f_B_value (6 : Int32) s1 = some (prs T (hd T G)) := b_value h1 (j := 6) (by omega)
    have w6 : f_B_value (6 : Int32) s3 = some (prs T (hd T (G ++ [g6 (nI f) (nI b) (nI t) r th gi]))) := b_value h3 (j := 6) (by omega)
    have hlen : (G ++ [g6 (nI f) (nI b) (nI t) r th gi]).length = G.length + 1 := by
      rw [List.length_append]
      rfl
    have elast : (G ++ [g6 (nI f) (nI b) (nI t) r th gi]).getD G.length z_ = g6 (nI f) (nI b) (nI t) r th gi := gd_mid
    obtain ⟨i, i1, i2, i3⟩ := b_grantOf (x := gi) h3 ⟨G.length, by omega, by rw [elast]; rfl⟩
    have ei : i = G.length := by
      by_cases c : i < G.length
      · exfalso
        rw [gd_app c] at i2
        obtain ⟨n, m1, m2⟩ := n5 _ (mem_gd c)
        rw [m2, n4] at i2
        have := (nI_eq (by omega) (by omega)).mp i2
        omega
      · omega
    have e3 : (G ++ [g6 (nI f) (nI b) (nI t) r th gi]).getD i z_ 3 = r := by
      rw [ei, elast]
      rfl
    rw [e3] at i3
    refine ⟨s3, s4, (P, T, G ++ [g6 (nI f) (nI b) (nI t) r th gi], Lg, gi + 1, di, re, ti), ?_, h3, h4', n1, ?_, ⟨g0 + 1, by omega, ?_, ?_⟩, ⟨t0, by omega, n7⟩⟩
    · rw [if_neg (show ¬ prs T (hd T (G ++ [g6 (nI f) (nI b) (nI t) r th gi])) - prs T (hd T G) = (-1 : Int32) by rw [ed]; exact n_m1 (by omega)), v6, bd_some, c3, bd2_some, if_neg (show ¬ prs T (hd T (G ++ [g6 (nI f) (nI b) (nI t) r th gi])) - prs T (hd T G) < (0 : Int32) by rw [ed]; exact nI_pos (by omega)), c4, bd2_some, if_pos rfl, w6, bd_some, if_pos es, i3, bd_some, if_pos rfl]
    · show gi + 1 = nI (G ++ [g6 (nI f) (nI b) (nI t) r th gi]).length + di + re
      rw [hlen, n2, ← n_at (a := G.length) (b := 1), Int32.add_assoc, Int32.add_assoc, Int32.add_assoc, Int32.add_assoc]
      congr 1
      show di + (re + 1) = 1 + (di + re)
      rw [Int32.add_comm 1, Int32.add_assoc]
    · show gi + 1 = nI (g0 + 1)
      rw [n4]
      exact n_at
    · show ∀ g ∈ G ++ [g6 (nI f) (nI b) (nI t) r th gi], ∃ n : Nat, n < g0 + 1 ∧ g 5 = nI n
      intro g hg
      rcases List.mem_append.mp hg with z | z
      · obtain ⟨n, m1, m2⟩ := n5 g z
        exact ⟨n, by omega, m2⟩
      · have z : g = g6 (nI f) (nI b) (nI t) r th gi := by simpa using z
        refine ⟨g0, by omega, ?_⟩
        rw [z, ← n4]
        rfl
