/-! ===== PURE: counting those who hold a right ===== -/
def stp (c : Prop) [Decidable c] (p : Nat) (a : Int32) : Int32 := if c then a else a ||| ((1 : Int32) <<< (nI p &&& 31))
def stb (b : Bool) (p : Nat) (a : Int32) : Int32 := if b = true then a else a ||| ((1 : Int32) <<< (nI p &&& 31))
theorem stp_b {c : Prop} [Decidable c] {p : Nat} {a : Int32} : stp c p a = stb (decide c) p a := by
  unfold stp stb
  by_cases h : c
  · rw [if_pos h, if_pos (decide_eq_true h)]
  · rw [if_neg h, if_neg (fun z => h (of_decide_eq_true z))]
def o1 (H : Nat → Int32) (t : Nat) (x : Int32) (p : Nat) : Nat := if H (10 * t + p) &&& x = (0 : Int32) then 0 else 1
def vb (b : Bool) : Nat := if b = true then 0 else 1
theorem o1_b {H : Nat → Int32} {t p : Nat} {x : Int32} : o1 H t x p = vb (decide (H (10 * t + p) &&& x = (0 : Int32))) := by
  unfold o1 vb
  by_cases h : H (10 * t + p) &&& x = (0 : Int32)
  · rw [if_pos h, if_pos (decide_eq_true h)]
  · rw [if_neg h, if_neg (fun z => h (of_decide_eq_true z))]
def c10 (f : Nat → Nat) : Nat := f 0 + f 1 + f 2 + f 3 + f 4 + f 5 + f 6 + f 7 + f 8 + f 9
theorem who_s {H : Nat → Int32} {t : Nat} {x : Int32} : who_ H t x 10 0 0 = (stp (H (10 * t + 9) &&& x = (0 : Int32)) 9 (stp (H (10 * t + 8) &&& x = (0 : Int32)) 8 (stp (H (10 * t + 7) &&& x = (0 : Int32)) 7 (stp (H (10 * t + 6) &&& x = (0 : Int32)) 6 (stp (H (10 * t + 5) &&& x = (0 : Int32)) 5 (stp (H (10 * t + 4) &&& x = (0 : Int32)) 4 (stp (H (10 * t + 3) &&& x = (0 : Int32)) 3 (stp (H (10 * t + 2) &&& x = (0 : Int32)) 2 (stp (H (10 * t + 1) &&& x = (0 : Int32)) 1 (stp (H (10 * t + 0) &&& x = (0 : Int32)) 0 (0 : Int32))))))))))) := by rfl
theorem who_b {H : Nat → Int32} {t : Nat} {x : Int32} : who_ H t x 10 0 0 = (stb (decide (H (10 * t + 9) &&& x = (0 : Int32))) 9 (stb (decide (H (10 * t + 8) &&& x = (0 : Int32))) 8 (stb (decide (H (10 * t + 7) &&& x = (0 : Int32))) 7 (stb (decide (H (10 * t + 6) &&& x = (0 : Int32))) 6 (stb (decide (H (10 * t + 5) &&& x = (0 : Int32))) 5 (stb (decide (H (10 * t + 4) &&& x = (0 : Int32))) 4 (stb (decide (H (10 * t + 3) &&& x = (0 : Int32))) 3 (stb (decide (H (10 * t + 2) &&& x = (0 : Int32))) 2 (stb (decide (H (10 * t + 1) &&& x = (0 : Int32))) 1 (stb (decide (H (10 * t + 0) &&& x = (0 : Int32))) 0 (0 : Int32))))))))))) := by
  rw [who_s]
  simp only [stp_b]
set_option maxRecDepth 100000 in
theorem bcB : ∀ b0 b1 b2 b3 b4 b5 b6 b7 b8 b9 : Bool, bcv (stb b9 9 (stb b8 8 (stb b7 7 (stb b6 6 (stb b5 5 (stb b4 4 (stb b3 3 (stb b2 2 (stb b1 1 (stb b0 0 (0 : Int32))))))))))) = nI (vb b0 + vb b1 + vb b2 + vb b3 + vb b4 + vb b5 + vb b6 + vb b7 + vb b8 + vb b9) := by decide +kernel
theorem bc_who {H : Nat → Int32} {t : Nat} {x : Int32} : bcv (who_ H t x 10 0 0) = nI (c10 (o1 H t x)) := by
  rw [who_b, bcB]
  unfold c10
  simp only [o1_b]
set_option maxRecDepth 100000 in
theorem btB : ∀ (p : Fin 10) (b0 b1 b2 b3 b4 b5 b6 b7 b8 b9 : Bool), ((stb b9 9 (stb b8 8 (stb b7 7 (stb b6 6 (stb b5 5 (stb b4 4 (stb b3 3 (stb b2 2 (stb b1 1 (stb b0 0 (0 : Int32))))))))))) >>> (nI p &&& 31)) &&& (1 : Int32) = nI (vb ([b0, b1, b2, b3, b4, b5, b6, b7, b8, b9].getD p true)) := by decide +kernel
theorem bt_who {H : Nat → Int32} {t p : Nat} {x : Int32} (hp : p < 10) : (who_ H t x 10 0 0 >>> (nI p &&& 31)) &&& (1 : Int32) = nI (o1 H t x p) := by
  rw [who_b, o1_b]
  rw [btB ⟨p, hp⟩]
  match p, hp with
  | 0, _ => rfl
  | 1, _ => rfl
  | 2, _ => rfl
  | 3, _ => rfl
  | 4, _ => rfl
  | 5, _ => rfl
  | 6, _ => rfl
  | 7, _ => rfl
  | 8, _ => rfl
  | 9, _ => rfl
theorem c10_rev {f g : Nat → Nat} (h : ∀ p : Nat, p < 10 → g (9 - p) = f p) : c10 g = c10 f := by
  have h0 : g 9 = f 0 := h 0 (by omega)
  have h1 : g 8 = f 1 := h 1 (by omega)
  have h2 : g 7 = f 2 := h 2 (by omega)
  have h3 : g 6 = f 3 := h 3 (by omega)
  have h4 : g 5 = f 4 := h 4 (by omega)
  have h5 : g 4 = f 5 := h 5 (by omega)
  have h6 : g 3 = f 6 := h 6 (by omega)
  have h7 : g 2 = f 7 := h 7 (by omega)
  have h8 : g 1 = f 8 := h 8 (by omega)
  have h9 : g 0 = f 9 := h 9 (by omega)
  unfold c10
  omega
theorem c10_eq {f g : Nat → Nat} (h : ∀ p : Nat, p < 10 → g p = f p) : c10 g = c10 f := by
  have h0 : g 0 = f 0 := h 0 (by omega)
  have h1 : g 1 = f 1 := h 1 (by omega)
  have h2 : g 2 = f 2 := h 2 (by omega)
  have h3 : g 3 = f 3 := h 3 (by omega)
  have h4 : g 4 = f 4 := h 4 (by omega)
  have h5 : g 5 = f 5 := h 5 (by omega)
  have h6 : g 6 = f 6 := h 6 (by omega)
  have h7 : g 7 = f 7 := h 7 (by omega)
  have h8 : g 8 = f 8 := h 8 (by omega)
  have h9 : g 9 = f 9 := h 9 (by omega)
  unfold c10
  omega
theorem c10_le {f g : Nat → Nat} (h : ∀ p : Nat, p < 10 → f p ≤ g p) : c10 f ≤ c10 g := by
  have h0 : f 0 ≤ g 0 := h 0 (by omega)
  have h1 : f 1 ≤ g 1 := h 1 (by omega)
  have h2 : f 2 ≤ g 2 := h 2 (by omega)
  have h3 : f 3 ≤ g 3 := h 3 (by omega)
  have h4 : f 4 ≤ g 4 := h 4 (by omega)
  have h5 : f 5 ≤ g 5 := h 5 (by omega)
  have h6 : f 6 ≤ g 6 := h 6 (by omega)
  have h7 : f 7 ≤ g 7 := h 7 (by omega)
  have h8 : f 8 ≤ g 8 := h 8 (by omega)
  have h9 : f 9 ≤ g 9 := h 9 (by omega)
  unfold c10
  omega
theorem c10_b {f : Nat → Nat} (m : Nat) (h : ∀ p : Nat, p < 10 → f p ≤ m) : c10 f ≤ 10 * m := by
  have h0 : f 0 ≤ m := h 0 (by omega)
  have h1 : f 1 ≤ m := h 1 (by omega)
  have h2 : f 2 ≤ m := h 2 (by omega)
  have h3 : f 3 ≤ m := h 3 (by omega)
  have h4 : f 4 ≤ m := h 4 (by omega)
  have h5 : f 5 ≤ m := h 5 (by omega)
  have h6 : f 6 ≤ m := h 6 (by omega)
  have h7 : f 7 ≤ m := h 7 (by omega)
  have h8 : f 8 ≤ m := h 8 (by omega)
  have h9 : f 9 ≤ m := h 9 (by omega)
  unfold c10
  omega
theorem o1_m {m : Nat} {H H' : Nat → Int32} {t p : Nat} {x : Int32} (h : mh m H H') (hp : p < 10) (ht : t < m) : o1 H' t x (9 - p) = o1 H t x p := by
  unfold o1
  rw [h.at hp ht]
theorem o1_le {H : Nat → Int32} {t p : Nat} {x : Int32} : o1 H t x p ≤ 1 := by
  unfold o1
  split <;> omega
/-- the pairs that see, as a number -/
def pn_ (H : Nat → Int32) : Nat → Nat → Nat
  | 0, _ => 0
  | n + 1, t => c10 (o1 H t 1) + pn_ H n (t + 1)
theorem prs_n {H : Nat → Int32} : ∀ (n t a : Nat), prs_ H n t (nI a) = nI (a + pn_ H n t)
  | 0, _, _ => rfl
  | n + 1, t, a => by
    unfold prs_ pn_
    rw [bc_who, n_at, prs_n n (t + 1)]
    congr 1
    omega
theorem prs_p {T : List rw_} {H : Nat → Int32} : prs T H = nI (pn_ H T.length 0) := by
  have e := prs_n (H := H) T.length 0 0
  rw [Nat.zero_add] at e
  exact e
theorem pn_m {m : Nat} {H H' : Nat → Int32} (h : mh m H H') : ∀ (n t : Nat), n + t = m → pn_ H' n t = pn_ H n t
  | 0, _, _ => rfl
  | n + 1, t, e => by
    unfold pn_
    rw [pn_m h n (t + 1) (by omega), c10_rev (f := o1 H t 1) (fun p hp => o1_m h hp (by omega))]
theorem pn_le {H : Nat → Int32} : ∀ (n t : Nat), pn_ H n t ≤ 10 * n
  | 0, _ => by
    unfold pn_
    omega
  | n + 1, t => by
    have h1 := pn_le (H := H) n (t + 1)
    have h2 := c10_b (f := o1 H t 1) 1 (fun p _ => o1_le)
    unfold pn_
    omega
theorem prs_m {T : List rw_} {H H' : Nat → Int32} (h : mh T.length H H') : prs (T.map mT) H' = prs T H := by
  rw [prs_p, prs_p, List.length_map, pn_m h T.length 0 (by omega)]
theorem pn_mono {H H' : Nat → Int32} : ∀ (n t : Nat), (∀ (s p : Nat), t ≤ s → s < n + t → p < 10 → o1 H s 1 p ≤ o1 H' s 1 p) → pn_ H n t ≤ pn_ H' n t
  | 0, _, _ => by
    unfold pn_
    omega
  | n + 1, t, h => by
    have h1 := pn_mono n (t + 1) (fun s p h1 h2 h3 => h s p (by omega) (by omega) h3)
    have h2 := c10_le (f := o1 H t 1) (g := o1 H' t 1) (fun p hp => h t p (by omega) (by omega) hp)
    unfold pn_
    omega
