/-! ===== PURE: an object's state and the house that it stands for ===== -/
def CR (s : LSt) (A : AS) : Prop := OSs A ∧ CSs s.1 A ∧ s.2.2.1.1 = 1 ∧ KP s.2.2.2.2.1 s.2.2.2.2.2.1
theorem b_held {s : LSt} {P T G Lg : List rw_} {gi di re ti : Int32} (h : CR s (P, T, G, Lg, gi, di, re, ti)) {p t : Nat} (hp : p < 10) (ht : t < T.length) : f_B_held (nI p) (nI t) s = some (hd T G (10 * t + p)) := by
  obtain ⟨o, ⟨c, e1, e2, e3, e4⟩, h1, kp⟩ := h
  have e1 : s.1.2.2.2.2.2.2.2.2.2.2.1 = gi := e1
  have e2 : s.1.2.2.2.2.2.2.2.2.2.2.2.1 = di := e2
  have e3 : s.1.2.2.2.2.2.2.2.2.2.2.2.2.1 = re := e3
  have e4 : s.1.2.2.2.2.2.2.2.2.2.2.2.2.2 = ti := e4
  subst e1 e2 e3 e4
  have o : OS P T G Lg := o
  unfold f_B_held
  rw [x_held o c hp ht, bx_r]
theorem b_why {s : LSt} {P T G Lg : List rw_} {gi di re ti : Int32} (h : CR s (P, T, G, Lg, gi, di, re, ti)) {p t : Nat} {x : Int32} (hp : p < 10) (ht : t < T.length) (hx : x = 1 ∨ x = 2 ∨ x = 4) : f_B_why (nI p) (nI t) x s = some (why_ T G (hd T G) p t x) := by
  obtain ⟨o, ⟨c, e1, e2, e3, e4⟩, h1, kp⟩ := h
  have e1 : s.1.2.2.2.2.2.2.2.2.2.2.1 = gi := e1
  have e2 : s.1.2.2.2.2.2.2.2.2.2.2.2.1 = di := e2
  have e3 : s.1.2.2.2.2.2.2.2.2.2.2.2.2.1 = re := e3
  have e4 : s.1.2.2.2.2.2.2.2.2.2.2.2.2.2 = ti := e4
  subst e1 e2 e3 e4
  have o : OS P T G Lg := o
  unfold f_B_why
  rw [x_why o c hp ht hx, bx_r]
theorem b_value {s : LSt} {P T G Lg : List rw_} {gi di re ti : Int32} (h : CR s (P, T, G, Lg, gi, di, re, ti)) {j : Nat} (hj : j < 9) : f_B_value (nI j) s = some (val_ T G Lg gi di re ti j) := by
  obtain ⟨o, ⟨c, e1, e2, e3, e4⟩, h1, kp⟩ := h
  have e1 : s.1.2.2.2.2.2.2.2.2.2.2.1 = gi := e1
  have e2 : s.1.2.2.2.2.2.2.2.2.2.2.2.1 = di := e2
  have e3 : s.1.2.2.2.2.2.2.2.2.2.2.2.2.1 = re := e3
  have e4 : s.1.2.2.2.2.2.2.2.2.2.2.2.2.2 = ti := e4
  subst e1 e2 e3 e4
  have o : OS P T G Lg := o
  unfold f_B_value
  rw [x_value (gi := s.1.2.2.2.2.2.2.2.2.2.2.1) (di := s.1.2.2.2.2.2.2.2.2.2.2.2.1) (re := s.1.2.2.2.2.2.2.2.2.2.2.2.2.1) (ti := s.1.2.2.2.2.2.2.2.2.2.2.2.2.2) o c hj, bx_r]
theorem b_thing {s : LSt} {P T G Lg : List rw_} {gi di re ti : Int32} (h : CR s (P, T, G, Lg, gi, di, re, ti)) {t j : Nat} (ht : t < T.length) (hj : j = 0 ∨ j = 1 ∨ j = 4) : f_B_thing (nI t) (nI j) s = some (thg_ T G t j) := by
  obtain ⟨o, ⟨c, e1, e2, e3, e4⟩, h1, kp⟩ := h
  have e1 : s.1.2.2.2.2.2.2.2.2.2.2.1 = gi := e1
  have e2 : s.1.2.2.2.2.2.2.2.2.2.2.2.1 = di := e2
  have e3 : s.1.2.2.2.2.2.2.2.2.2.2.2.2.1 = re := e3
  have e4 : s.1.2.2.2.2.2.2.2.2.2.2.2.2.2 = ti := e4
  subst e1 e2 e3 e4
  have o : OS P T G Lg := o
  unfold f_B_thing
  rw [x_thing o c ht hj, bx_r]
theorem b_person {s : LSt} {P T G Lg : List rw_} {gi di re ti : Int32} (h : CR s (P, T, G, Lg, gi, di, re, ti)) {p j : Nat} (hp : p < 10) (hj : j < 7) : f_B_person (nI p) (nI j) s = some (per_ P T G p j) := by
  obtain ⟨o, ⟨c, e1, e2, e3, e4⟩, h1, kp⟩ := h
  have e1 : s.1.2.2.2.2.2.2.2.2.2.2.1 = gi := e1
  have e2 : s.1.2.2.2.2.2.2.2.2.2.2.2.1 = di := e2
  have e3 : s.1.2.2.2.2.2.2.2.2.2.2.2.2.1 = re := e3
  have e4 : s.1.2.2.2.2.2.2.2.2.2.2.2.2.2 = ti := e4
  subst e1 e2 e3 e4
  have o : OS P T G Lg := o
  unfold f_B_person
  rw [x_person o c hp hj, bx_r]
theorem b_patience {s : LSt} {P T G Lg : List rw_} {gi di re ti : Int32} (h : CR s (P, T, G, Lg, gi, di, re, ti)) {p : Nat} (hp : p < 10) : f_B_patience (nI p) s = some (P.getD p z_ 0 - gre_ G (nI p) G.length 0 0) := by
  obtain ⟨o, ⟨c, e1, e2, e3, e4⟩, h1, kp⟩ := h
  have e1 : s.1.2.2.2.2.2.2.2.2.2.2.1 = gi := e1
  have e2 : s.1.2.2.2.2.2.2.2.2.2.2.2.1 = di := e2
  have e3 : s.1.2.2.2.2.2.2.2.2.2.2.2.2.1 = re := e3
  have e4 : s.1.2.2.2.2.2.2.2.2.2.2.2.2.2 = ti := e4
  subst e1 e2 e3 e4
  have o : OS P T G Lg := o
  unfold f_B_patience
  rw [x_patience o c hp, bx_r]
theorem b_grantOf {s : LSt} {P T G Lg : List rw_} {gi di re ti : Int32} (h : CR s (P, T, G, Lg, gi, di, re, ti)) {x : Int32} (hx : ∃ i : Nat, i < G.length ∧ G.getD i z_ 5 = x) : ∃ i : Nat, i < G.length ∧ G.getD i z_ 5 = x ∧ f_B_grantOf x 3 s = some (G.getD i z_ 3) := by
  obtain ⟨o, ⟨c, e1, e2, e3, e4⟩, h1, kp⟩ := h
  have e1 : s.1.2.2.2.2.2.2.2.2.2.2.1 = gi := e1
  have e2 : s.1.2.2.2.2.2.2.2.2.2.2.2.1 = di := e2
  have e3 : s.1.2.2.2.2.2.2.2.2.2.2.2.2.1 = re := e3
  have e4 : s.1.2.2.2.2.2.2.2.2.2.2.2.2.2 = ti := e4
  subst e1 e2 e3 e4
  have o : OS P T G Lg := o
  obtain ⟨i, i1, i2, i3⟩ := x_grantOf o c hx
  refine ⟨i, i1, i2, ?_⟩
  unfold f_B_grantOf
  rw [i3, bx_r]
theorem b_chain {s : LSt} {P T G Lg : List rw_} {gi di re ti : Int32} (h : CR s (P, T, G, Lg, gi, di, re, ti)) {p t : Nat} (hp : p < 10) (ht : t < T.length) : ∃ s' : LSt, f_B_chain (nI p) (nI t) s = some (far_ T G (hd T G) t p, s') ∧ CR s' (P, T, G, Lg, gi, di, re, ti) := by
  obtain ⟨o, ⟨c, e1, e2, e3, e4⟩, h1, kp⟩ := h
  have e1 : s.1.2.2.2.2.2.2.2.2.2.2.1 = gi := e1
  have e2 : s.1.2.2.2.2.2.2.2.2.2.2.2.1 = di := e2
  have e3 : s.1.2.2.2.2.2.2.2.2.2.2.2.2.1 = re := e3
  have e4 : s.1.2.2.2.2.2.2.2.2.2.2.2.2.2 = ti := e4
  subst e1 e2 e3 e4
  have o : OS P T G Lg := o
  obtain ⟨f', e⟩ := x_chain o c hp ht s.2.2.1.2
  refine ⟨(s.1, s.2.1, (1, f'), s.2.2.2.1, s.2.2.2.2), ?_, o, ⟨c, rfl, rfl, rfl, rfl⟩, rfl, kp⟩
  unfold f_B_chain
  rw [h1, e, bx_r]
theorem b_link {s : LSt} {P T G Lg : List rw_} {gi di re ti : Int32} (h : CR s (P, T, G, Lg, gi, di, re, ti)) {p t v : Nat} (hp : p < 10) (ht : t < T.length) (hv : v < 9) (hF : far_ T G (hd T G) t p = nI (v + 1)) : ∃ s' : LSt, f_B_link (nI p) (nI t) (nI v) s = some (lnk_ T G t p v, s') ∧ CR s' (P, T, G, Lg, gi, di, re, ti) := by
  obtain ⟨o, ⟨c, e1, e2, e3, e4⟩, h1, kp⟩ := h
  have e1 : s.1.2.2.2.2.2.2.2.2.2.2.1 = gi := e1
  have e2 : s.1.2.2.2.2.2.2.2.2.2.2.2.1 = di := e2
  have e3 : s.1.2.2.2.2.2.2.2.2.2.2.2.2.1 = re := e3
  have e4 : s.1.2.2.2.2.2.2.2.2.2.2.2.2.2 = ti := e4
  subst e1 e2 e3 e4
  have o : OS P T G Lg := o
  obtain ⟨f', e⟩ := x_link o c hp ht hv hF s.2.2.1.2
  refine ⟨(s.1, s.2.1, (1, f'), s.2.2.2.1, s.2.2.2.2), ?_, o, ⟨c, rfl, rfl, rfl, rfl⟩, rfl, kp⟩
  unfold f_B_link
  rw [h1, e, bx_r]
theorem b_meanChain {s : LSt} {P T G Lg : List rw_} {gi di re ti : Int32} (h : CR s (P, T, G, Lg, gi, di, re, ti))   : ∃ s' : LSt, f_B_meanChain  s = some (mean_ T G, s') ∧ CR s' (P, T, G, Lg, gi, di, re, ti) := by
  obtain ⟨o, ⟨c, e1, e2, e3, e4⟩, h1, kp⟩ := h
  have e1 : s.1.2.2.2.2.2.2.2.2.2.2.1 = gi := e1
  have e2 : s.1.2.2.2.2.2.2.2.2.2.2.2.1 = di := e2
  have e3 : s.1.2.2.2.2.2.2.2.2.2.2.2.2.1 = re := e3
  have e4 : s.1.2.2.2.2.2.2.2.2.2.2.2.2.2 = ti := e4
  subst e1 e2 e3 e4
  have o : OS P T G Lg := o
  obtain ⟨f', e⟩ := x_mean o c s.2.2.1.2
  refine ⟨(s.1, s.2.1, (1, f'), s.2.2.2.1, s.2.2.2.2), ?_, o, ⟨c, rfl, rfl, rfl, rfl⟩, rfl, kp⟩
  unfold f_B_meanChain
  rw [h1, e, bd_some]
theorem b_seenIn {s : LSt} {P T G Lg : List rw_} {gi di re ti : Int32} (h : CR s (P, T, G, Lg, gi, di, re, ti)) {N : Nat} (hN : N ≤ 100) : ∃ s' : LSt, f_B_seenIn (nI N) s = some (prs T (hd T (tks N (P, G, Lg, ti, 0)).2.1), s') ∧ CR s' (P, T, G, Lg, gi, di, re, ti) := by
  obtain ⟨o, ⟨c, e1, e2, e3, e4⟩, h1, kp⟩ := h
  have e1 : s.1.2.2.2.2.2.2.2.2.2.2.1 = gi := e1
  have e2 : s.1.2.2.2.2.2.2.2.2.2.2.2.1 = di := e2
  have e3 : s.1.2.2.2.2.2.2.2.2.2.2.2.2.1 = re := e3
  have e4 : s.1.2.2.2.2.2.2.2.2.2.2.2.2.2 = ti := e4
  subst e1 e2 e3 e4
  have o : OS P T G Lg := o
  obtain ⟨q, e⟩ := x_seenIn (gi := s.1.2.2.2.2.2.2.2.2.2.2.1) (di := s.1.2.2.2.2.2.2.2.2.2.2.2.1) (re := s.1.2.2.2.2.2.2.2.2.2.2.2.2.1) (ti := s.1.2.2.2.2.2.2.2.2.2.2.2.2.2) (rPT := s.2.1.1) (fPT := s.2.1.2.1) (rTT := s.2.1.2.2.1) (fTT := s.2.1.2.2.2.1) (rGT := s.2.1.2.2.2.2.1) (fGT := s.2.1.2.2.2.2.2.1) (rLT := s.2.1.2.2.2.2.2.2.1) (fLT := s.2.1.2.2.2.2.2.2.2.1) (rHT := s.2.1.2.2.2.2.2.2.2.2.1) (fHT := s.2.1.2.2.2.2.2.2.2.2.2.1) (giT := s.2.1.2.2.2.2.2.2.2.2.2.2.1) (diT := s.2.1.2.2.2.2.2.2.2.2.2.2.2.1) (reT := s.2.1.2.2.2.2.2.2.2.2.2.2.2.2.1) (tiT := s.2.1.2.2.2.2.2.2.2.2.2.2.2.2.2) o c hN
  refine ⟨(s.1, q, s.2.2.1, s.2.2.2.1, s.2.2.2.2), ?_, o, ⟨c, rfl, rfl, rfl, rfl⟩, h1, kp⟩
  unfold f_B_seenIn
  rw [e, bx_r]
theorem b_lostBy {s : LSt} {P T G Lg : List rw_} {gi di re ti : Int32} (h : CR s (P, T, G, Lg, gi, di, re, ti)) {p : Nat} (hp : p < 10) : ∃ s' : LSt, f_B_lostBy (nI p) s = some (prs T (hd T G) - prs T (hd T (kept (sPm P p (clv (P.getD p z_ 0 + (-100 : Int32)))) G)), s') ∧ CR s' (P, T, G, Lg, gi, di, re, ti) := by
  obtain ⟨o, ⟨c, e1, e2, e3, e4⟩, h1, kp⟩ := h
  have e1 : s.1.2.2.2.2.2.2.2.2.2.2.1 = gi := e1
  have e2 : s.1.2.2.2.2.2.2.2.2.2.2.2.1 = di := e2
  have e3 : s.1.2.2.2.2.2.2.2.2.2.2.2.2.1 = re := e3
  have e4 : s.1.2.2.2.2.2.2.2.2.2.2.2.2.2 = ti := e4
  subst e1 e2 e3 e4
  have o : OS P T G Lg := o
  obtain ⟨q, e⟩ := x_lostBy (gi := s.1.2.2.2.2.2.2.2.2.2.2.1) (di := s.1.2.2.2.2.2.2.2.2.2.2.2.1) (re := s.1.2.2.2.2.2.2.2.2.2.2.2.2.1) (ti := s.1.2.2.2.2.2.2.2.2.2.2.2.2.2) (rPT := s.2.1.1) (fPT := s.2.1.2.1) (rTT := s.2.1.2.2.1) (fTT := s.2.1.2.2.2.1) (rGT := s.2.1.2.2.2.2.1) (fGT := s.2.1.2.2.2.2.2.1) (rLT := s.2.1.2.2.2.2.2.2.1) (fLT := s.2.1.2.2.2.2.2.2.2.1) (rHT := s.2.1.2.2.2.2.2.2.2.2.1) (fHT := s.2.1.2.2.2.2.2.2.2.2.2.1) (giT := s.2.1.2.2.2.2.2.2.2.2.2.2.1) (diT := s.2.1.2.2.2.2.2.2.2.2.2.2.2.1) (reT := s.2.1.2.2.2.2.2.2.2.2.2.2.2.2.1) (tiT := s.2.1.2.2.2.2.2.2.2.2.2.2.2.2.2) o c hp
  refine ⟨(s.1, q, s.2.2.1, s.2.2.2.1, s.2.2.2.2), ?_, o, ⟨c, rfl, rfl, rfl, rfl⟩, h1, kp⟩
  unfold f_B_lostBy
  rw [e, bx_r]
theorem b_gainBy {s : LSt} {P T G Lg : List rw_} {gi di re ti : Int32} (h : CR s (P, T, G, Lg, gi, di, re, ti)) {p b t : Nat} {r k : Int32} (hp : p < 10) (hb : b < 10) (ht : t < T.length) (h4 : ¬ btw r 1 7 = 0) (h5 : ¬ btw k 0 100 = 0) (hpb : p ≠ b) : ∃ s' : LSt, f_B_gainBy (nI p) (nI b) (nI t) r k s = some ((if alw P T G p t r k = 0 then -1 else prs T (hd T (G ++ [g6 (nI p) (nI b) (nI t) r k gi])) - prs T (hd T G)), s') ∧ CR s' (P, T, G, Lg, gi, di, re, ti) := by
  obtain ⟨o, ⟨c, e1, e2, e3, e4⟩, h1, kp⟩ := h
  have e1 : s.1.2.2.2.2.2.2.2.2.2.2.1 = gi := e1
  have e2 : s.1.2.2.2.2.2.2.2.2.2.2.2.1 = di := e2
  have e3 : s.1.2.2.2.2.2.2.2.2.2.2.2.2.1 = re := e3
  have e4 : s.1.2.2.2.2.2.2.2.2.2.2.2.2.2 = ti := e4
  subst e1 e2 e3 e4
  have o : OS P T G Lg := o
  obtain ⟨q, e⟩ := x_gainBy (gi := s.1.2.2.2.2.2.2.2.2.2.2.1) (di := s.1.2.2.2.2.2.2.2.2.2.2.2.1) (re := s.1.2.2.2.2.2.2.2.2.2.2.2.2.1) (ti := s.1.2.2.2.2.2.2.2.2.2.2.2.2.2) (rPT := s.2.1.1) (fPT := s.2.1.2.1) (rTT := s.2.1.2.2.1) (fTT := s.2.1.2.2.2.1) (rGT := s.2.1.2.2.2.2.1) (fGT := s.2.1.2.2.2.2.2.1) (rLT := s.2.1.2.2.2.2.2.2.1) (fLT := s.2.1.2.2.2.2.2.2.2.1) (rHT := s.2.1.2.2.2.2.2.2.2.2.1) (fHT := s.2.1.2.2.2.2.2.2.2.2.2.1) (giT := s.2.1.2.2.2.2.2.2.2.2.2.2.1) (diT := s.2.1.2.2.2.2.2.2.2.2.2.2.2.1) (reT := s.2.1.2.2.2.2.2.2.2.2.2.2.2.2.1) (tiT := s.2.1.2.2.2.2.2.2.2.2.2.2.2.2.2) o c hp hb ht h4 h5 hpb
  refine ⟨(s.1, q, s.2.2.1, s.2.2.2.1, s.2.2.2.2), ?_, o, ⟨c, rfl, rfl, rfl, rfl⟩, h1, kp⟩
  unfold f_B_gainBy
  rw [e, bx_r]
theorem b_addThing {s : LSt} {P T G Lg : List rw_} {gi di re ti : Int32} (h : CR s (P, T, G, Lg, gi, di, re, ti)) {p : Nat} {y : Int32} (hl : T.length < 8) (hp : p < 10) (hy : okN 8 y) (hy2 : ¬ btw y 0 7 = 0) : ∃ s' : LSt, f_B_addThing (nI p) y s = some (nI T.length, s') ∧ CR s' (P, T ++ [g2 (nI p) y], G, Lg, gi, di, re, ti) := by
  obtain ⟨o, ⟨c, e1, e2, e3, e4⟩, h1, kp⟩ := h
  have e1 : s.1.2.2.2.2.2.2.2.2.2.2.1 = gi := e1
  have e2 : s.1.2.2.2.2.2.2.2.2.2.2.2.1 = di := e2
  have e3 : s.1.2.2.2.2.2.2.2.2.2.2.2.2.1 = re := e3
  have e4 : s.1.2.2.2.2.2.2.2.2.2.2.2.2.2 = ti := e4
  subst e1 e2 e3 e4
  have o : OS P T G Lg := o
  obtain ⟨aT, aH, cn', ro', Q', e, c2, k2⟩ := x_addThing (gi := s.1.2.2.2.2.2.2.2.2.2.2.1) (di := s.1.2.2.2.2.2.2.2.2.2.2.2.1) (re := s.1.2.2.2.2.2.2.2.2.2.2.2.2.1) (ti := s.1.2.2.2.2.2.2.2.2.2.2.2.2.2) (Qh := s.2.2.2.2.2.2) o c kp hl hp hy hy2
  refine ⟨((s.1.1, s.1.2.1, nI (T.length + 1), aT, s.1.2.2.2.2.1, s.1.2.2.2.2.2.1, s.1.2.2.2.2.2.2.1, s.1.2.2.2.2.2.2.2.1, nI (T.length + 1), aH, s.1.2.2.2.2.2.2.2.2.2.2.1, s.1.2.2.2.2.2.2.2.2.2.2.2.1, s.1.2.2.2.2.2.2.2.2.2.2.2.2.1, s.1.2.2.2.2.2.2.2.2.2.2.2.2.2), s.2.1, s.2.2.1, s.2.2.2.1, (cn', ro', Q')), ?_, ⟨o.1, o.2.1, o.2.2.1.addT hl (okN_nI hp (by omega)) hy, o.2.2.2⟩, ⟨c2, rfl, rfl, rfl, rfl⟩, h1, k2⟩
  unfold f_B_addThing
  rw [e, bx_r]
theorem b_setMask {s : LSt} {P T G Lg : List rw_} {gi di re ti : Int32} (h : CR s (P, T, G, Lg, gi, di, re, ti)) {t : Nat} {y : Int32} (ht : t < T.length) (hy : okN 8 y) (hy2 : ¬ btw y 0 7 = 0) : ∃ s' : LSt, f_B_setMask (nI t) y s = some (T.getD t z_ 1, s') ∧ CR s' (P, T.set t (upd (T.getD t z_) 1 y), G, Lg, gi, di, re, ti) := by
  obtain ⟨o, ⟨c, e1, e2, e3, e4⟩, h1, kp⟩ := h
  have e1 : s.1.2.2.2.2.2.2.2.2.2.2.1 = gi := e1
  have e2 : s.1.2.2.2.2.2.2.2.2.2.2.2.1 = di := e2
  have e3 : s.1.2.2.2.2.2.2.2.2.2.2.2.2.1 = re := e3
  have e4 : s.1.2.2.2.2.2.2.2.2.2.2.2.2.2 = ti := e4
  subst e1 e2 e3 e4
  have o : OS P T G Lg := o
  obtain ⟨aT, aH, cn', ro', Q', e, c2, k2⟩ := x_setMask (gi := s.1.2.2.2.2.2.2.2.2.2.2.1) (di := s.1.2.2.2.2.2.2.2.2.2.2.2.1) (re := s.1.2.2.2.2.2.2.2.2.2.2.2.2.1) (ti := s.1.2.2.2.2.2.2.2.2.2.2.2.2.2) (Qh := s.2.2.2.2.2.2) o c kp ht hy hy2
  refine ⟨((s.1.1, s.1.2.1, s.1.2.2.1, aT, s.1.2.2.2.2.1, s.1.2.2.2.2.2.1, s.1.2.2.2.2.2.2.1, s.1.2.2.2.2.2.2.2.1, s.1.2.2.2.2.2.2.2.2.1, aH, s.1.2.2.2.2.2.2.2.2.2.2.1, s.1.2.2.2.2.2.2.2.2.2.2.2.1, s.1.2.2.2.2.2.2.2.2.2.2.2.2.1, s.1.2.2.2.2.2.2.2.2.2.2.2.2.2), s.2.1, s.2.2.1, s.2.2.2.1, (cn', ro', Q')), ?_, o.setT ht ⟨(o.2.2.1.2.2.2 t ht).1, hy⟩, ⟨c2, rfl, rfl, rfl, rfl⟩, h1, k2⟩
  unfold f_B_setMask
  rw [e, bx_r]
theorem b_give {s : LSt} {P T G Lg : List rw_} {gi di re ti : Int32} (h : CR s (P, T, G, Lg, gi, di, re, ti)) {t p : Nat} (ht : t < T.length) (hp : p < 10) : ∃ s' : LSt, f_B_give (nI t) (nI p) s = some (T.getD t z_ 0, s') ∧ CR s' (P, T.set t (upd (T.getD t z_) 0 (nI p)), G, Lg, gi, di, re, ti) := by
  obtain ⟨o, ⟨c, e1, e2, e3, e4⟩, h1, kp⟩ := h
  have e1 : s.1.2.2.2.2.2.2.2.2.2.2.1 = gi := e1
  have e2 : s.1.2.2.2.2.2.2.2.2.2.2.2.1 = di := e2
  have e3 : s.1.2.2.2.2.2.2.2.2.2.2.2.2.1 = re := e3
  have e4 : s.1.2.2.2.2.2.2.2.2.2.2.2.2.2 = ti := e4
  subst e1 e2 e3 e4
  have o : OS P T G Lg := o
  obtain ⟨aT, aH, cn', ro', Q', e, c2, k2⟩ := x_give (gi := s.1.2.2.2.2.2.2.2.2.2.2.1) (di := s.1.2.2.2.2.2.2.2.2.2.2.2.1) (re := s.1.2.2.2.2.2.2.2.2.2.2.2.2.1) (ti := s.1.2.2.2.2.2.2.2.2.2.2.2.2.2) (Qh := s.2.2.2.2.2.2) o c kp ht hp
  refine ⟨((s.1.1, s.1.2.1, s.1.2.2.1, aT, s.1.2.2.2.2.1, s.1.2.2.2.2.2.1, s.1.2.2.2.2.2.2.1, s.1.2.2.2.2.2.2.2.1, s.1.2.2.2.2.2.2.2.2.1, aH, s.1.2.2.2.2.2.2.2.2.2.2.1, s.1.2.2.2.2.2.2.2.2.2.2.2.1, s.1.2.2.2.2.2.2.2.2.2.2.2.2.1, s.1.2.2.2.2.2.2.2.2.2.2.2.2.2), s.2.1, s.2.2.1, s.2.2.2.1, (cn', ro', Q')), ?_, o.setT ht ⟨okN_nI hp (by omega), (o.2.2.1.2.2.2 t ht).2⟩, ⟨c2, rfl, rfl, rfl, rfl⟩, h1, k2⟩
  unfold f_B_give
  rw [e, bx_r]
theorem b_setBase {s : LSt} {P T G Lg : List rw_} {gi di re ti : Int32} (h : CR s (P, T, G, Lg, gi, di, re, ti)) {p : Nat} {y : Int32} (hp : p < 10) (hy2 : ¬ btw y 0 100 = 0) : ∃ s' : LSt, f_B_setBase (nI p) y s = some (P.getD p z_ 1, s') ∧ CR s' (sPb P p y, T, G, Lg, gi, di, re, ti) := by
  obtain ⟨o, ⟨c, e1, e2, e3, e4⟩, h1, kp⟩ := h
  have e1 : s.1.2.2.2.2.2.2.2.2.2.2.1 = gi := e1
  have e2 : s.1.2.2.2.2.2.2.2.2.2.2.2.1 = di := e2
  have e3 : s.1.2.2.2.2.2.2.2.2.2.2.2.2.1 = re := e3
  have e4 : s.1.2.2.2.2.2.2.2.2.2.2.2.2.2 = ti := e4
  subst e1 e2 e3 e4
  have o : OS P T G Lg := o
  obtain ⟨aP, cn', ro', Q', e, c2, k2⟩ := x_setBase (gi := s.1.2.2.2.2.2.2.2.2.2.2.1) (di := s.1.2.2.2.2.2.2.2.2.2.2.2.1) (re := s.1.2.2.2.2.2.2.2.2.2.2.2.2.1) (ti := s.1.2.2.2.2.2.2.2.2.2.2.2.2.2) (Qh := s.2.2.2.2.2.2) o c kp hp hy2
  refine ⟨((s.1.1, aP, s.1.2.2.1, s.1.2.2.2.1, s.1.2.2.2.2.1, s.1.2.2.2.2.2.1, s.1.2.2.2.2.2.2.1, s.1.2.2.2.2.2.2.2.1, s.1.2.2.2.2.2.2.2.2.1, s.1.2.2.2.2.2.2.2.2.2.1, s.1.2.2.2.2.2.2.2.2.2.2.1, s.1.2.2.2.2.2.2.2.2.2.2.2.1, s.1.2.2.2.2.2.2.2.2.2.2.2.2.1, s.1.2.2.2.2.2.2.2.2.2.2.2.2.2), s.2.1, s.2.2.1, s.2.2.2.1, (cn', ro', Q')), ?_, o.sB hp (ok101 hy2), ⟨c2, rfl, rfl, rfl, rfl⟩, h1, k2⟩
  unfold f_B_setBase
  rw [e, bx_r]
theorem b_cheer {s : LSt} {P T G Lg : List rw_} {gi di re ti : Int32} (h : CR s (P, T, G, Lg, gi, di, re, ti)) {p : Nat} {y : Int32} (hp : p < 10) (hy2 : ¬ btw y (-100) 100 = 0) : ∃ s' : LSt, f_B_cheer (nI p) y s = some (clv (P.getD p z_ 0 + y), s') ∧ CR s' (sPm P p (clv (P.getD p z_ 0 + y)), T, kept (sPm P p (clv (P.getD p z_ 0 + y))) G, bur (sPm P p (clv (P.getD p z_ 0 + y))) ti G Lg, gi, di + nI (ndy (sPm P p (clv (P.getD p z_ 0 + y))) G), re, ti) := by
  obtain ⟨o, ⟨c, e1, e2, e3, e4⟩, h1, kp⟩ := h
  have e1 : s.1.2.2.2.2.2.2.2.2.2.2.1 = gi := e1
  have e2 : s.1.2.2.2.2.2.2.2.2.2.2.2.1 = di := e2
  have e3 : s.1.2.2.2.2.2.2.2.2.2.2.2.2.1 = re := e3
  have e4 : s.1.2.2.2.2.2.2.2.2.2.2.2.2.2 = ti := e4
  subst e1 e2 e3 e4
  have o : OS P T G Lg := o
  obtain ⟨v, rG', rL', aP, aG, aL, aH, cn', ro', Q', ev, e, c2, k2⟩ := x_cheer (gi := s.1.2.2.2.2.2.2.2.2.2.2.1) (di := s.1.2.2.2.2.2.2.2.2.2.2.2.1) (re := s.1.2.2.2.2.2.2.2.2.2.2.2.2.1) (ti := s.1.2.2.2.2.2.2.2.2.2.2.2.2.2) (Qh := s.2.2.2.2.2.2) o c kp hp hy2
  subst ev
  refine ⟨((s.1.1, aP, s.1.2.2.1, s.1.2.2.2.1, rG', aG, rL', aL, s.1.2.2.2.2.2.2.2.2.1, aH, s.1.2.2.2.2.2.2.2.2.2.2.1, s.1.2.2.2.2.2.2.2.2.2.2.2.1 + nI (ndy (sPm P p (clv (P.getD p z_ 0 + y))) G), s.1.2.2.2.2.2.2.2.2.2.2.2.2.1, s.1.2.2.2.2.2.2.2.2.2.2.2.2.2), s.2.1, s.2.2.1, s.2.2.2.1, (cn', ro', Q')), ?_, (o.sP hp (clv_ok _)).die, ⟨c2, rfl, rfl, rfl, rfl⟩, h1, k2⟩
  unfold f_B_cheer
  rw [e, bx_r]
theorem b_pass {s : LSt} {P T G Lg : List rw_} {gi di re ti : Int32} (h : CR s (P, T, G, Lg, gi, di, re, ti)) {N : Nat} (n1 : 1 ≤ N) (hN : N ≤ 100) (ht : ¬ (100000 : Int32) < ti + nI N) : ∃ s' : LSt, f_B_pass (nI N) s = some (nI (tks N (P, G, Lg, ti, 0)).2.2.2.2, s') ∧ CR s' ((tks N (P, G, Lg, ti, 0)).1, T, (tks N (P, G, Lg, ti, 0)).2.1, (tks N (P, G, Lg, ti, 0)).2.2.1, gi, di + nI (tks N (P, G, Lg, ti, 0)).2.2.2.2, re, (tks N (P, G, Lg, ti, 0)).2.2.2.1) := by
  obtain ⟨o, ⟨c, e1, e2, e3, e4⟩, h1, kp⟩ := h
  have e1 : s.1.2.2.2.2.2.2.2.2.2.2.1 = gi := e1
  have e2 : s.1.2.2.2.2.2.2.2.2.2.2.2.1 = di := e2
  have e3 : s.1.2.2.2.2.2.2.2.2.2.2.2.2.1 = re := e3
  have e4 : s.1.2.2.2.2.2.2.2.2.2.2.2.2.2 = ti := e4
  subst e1 e2 e3 e4
  have o : OS P T G Lg := o
  obtain ⟨rG', rL', aP, aG, aL, aH, cn', ro', Q', e, c2, k2⟩ := x_pass (gi := s.1.2.2.2.2.2.2.2.2.2.2.1) (di := s.1.2.2.2.2.2.2.2.2.2.2.2.1) (re := s.1.2.2.2.2.2.2.2.2.2.2.2.2.1) (ti := s.1.2.2.2.2.2.2.2.2.2.2.2.2.2) (Qh := s.2.2.2.2.2.2) o c kp n1 hN ht
  refine ⟨((s.1.1, aP, s.1.2.2.1, s.1.2.2.2.1, rG', aG, rL', aL, s.1.2.2.2.2.2.2.2.2.1, aH, s.1.2.2.2.2.2.2.2.2.2.2.1, s.1.2.2.2.2.2.2.2.2.2.2.2.1 + nI (tks N (P, G, Lg, s.1.2.2.2.2.2.2.2.2.2.2.2.2.2, 0)).2.2.2.2, s.1.2.2.2.2.2.2.2.2.2.2.2.2.1, (tks N (P, G, Lg, s.1.2.2.2.2.2.2.2.2.2.2.2.2.2, 0)).2.2.2.1), s.2.1, s.2.2.1, s.2.2.2.1, (cn', ro', Q')), ?_, tks_o N (P, G, Lg, s.1.2.2.2.2.2.2.2.2.2.2.2.2.2, 0) o, ⟨c2, rfl, rfl, rfl, rfl⟩, h1, k2⟩
  unfold f_B_pass
  rw [e, bx_r]
theorem b_grant {s : LSt} {P T G Lg : List rw_} {gi di re ti : Int32} (h : CR s (P, T, G, Lg, gi, di, re, ti)) {p b t : Nat} {r k : Int32} (hp : p < 10) (hb : b < 10) (ht : t < T.length) (h4 : ¬ btw r 1 7 = 0) (h5 : ¬ btw k 0 100 = 0) (hpb : p ≠ b) (ha : ¬ alw P T G p t r k = 0) : ∃ s' : LSt, f_B_grant (nI p) (nI b) (nI t) r k s = some (gi, s') ∧ CR s' (P, T, G ++ [g6 (nI p) (nI b) (nI t) r k gi], Lg, gi + 1, di, re, ti) := by
  obtain ⟨o, ⟨c, e1, e2, e3, e4⟩, h1, kp⟩ := h
  have e1 : s.1.2.2.2.2.2.2.2.2.2.2.1 = gi := e1
  have e2 : s.1.2.2.2.2.2.2.2.2.2.2.2.1 = di := e2
  have e3 : s.1.2.2.2.2.2.2.2.2.2.2.2.2.1 = re := e3
  have e4 : s.1.2.2.2.2.2.2.2.2.2.2.2.2.2 = ti := e4
  subst e1 e2 e3 e4
  have o : OS P T G Lg := o
  obtain ⟨aG, aH, cn', ro', Q', e, c2, k2⟩ := x_grant (gi := s.1.2.2.2.2.2.2.2.2.2.2.1) (di := s.1.2.2.2.2.2.2.2.2.2.2.2.1) (re := s.1.2.2.2.2.2.2.2.2.2.2.2.2.1) (ti := s.1.2.2.2.2.2.2.2.2.2.2.2.2.2) (Qh := s.2.2.2.2.2.2) o c kp hp hb ht h4 h5 hpb ha
  refine ⟨((s.1.1, s.1.2.1, s.1.2.2.1, s.1.2.2.2.1, nI (G.length + 1), aG, s.1.2.2.2.2.2.2.1, s.1.2.2.2.2.2.2.2.1, s.1.2.2.2.2.2.2.2.2.1, aH, s.1.2.2.2.2.2.2.2.2.2.2.1 + 1, s.1.2.2.2.2.2.2.2.2.2.2.2.1, s.1.2.2.2.2.2.2.2.2.2.2.2.2.1, s.1.2.2.2.2.2.2.2.2.2.2.2.2.2), s.2.1, s.2.2.1, s.2.2.2.1, (cn', ro', Q')), ?_, ⟨o.1, o.2.1, o.2.2.1.addG (alw_lt o.2.2.1.1 ha) (okG_g o.2.2.1.2.1 hp hb ht h4 h5), o.2.2.2⟩, ⟨c2, rfl, rfl, rfl, rfl⟩, h1, k2⟩
  unfold f_B_grant
  rw [e, bx_r]
