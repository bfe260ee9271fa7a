/-! ===== PURE: what the constructor leaves ===== -/
theorem CR_init {fP : Nat → Int32} (h1 : ∀ k : Nat, k < 20 → fP k = 60) (hq : HS) (tx : Int32 × (Nat → Int32) × Int32 × (Nat → Int32) × Int32 × Int32) (Qh : Nat → HS) : CR (((10 : Int32), fP, (0 : Int32), (fun _ : Nat => (0 : Int32)), (0 : Int32), (fun _ : Nat => (0 : Int32)), (0 : Int32), (fun _ : Nat => (0 : Int32)), (0 : Int32), (fun _ : Nat => (0 : Int32)), (0 : Int32), (0 : Int32), (0 : Int32), (0 : Int32)), hq, ((1 : Int32), (fun _ : Nat => (0 : Int32))), tx, ((0 : Int32), 0, Qh)) (List.replicate 10 (g2 60 60), [], [], [], 0, 0, 0, 0) := by
  have hP : ∀ p : Nat, p < 10 → (List.replicate 10 (g2 60 60)).getD p z_ = g2 60 60 := fun p hp => rep_getD hp
  have o60 : okN 101 (60 : Int32) := ⟨rfl, by decide⟩
  refine ⟨⟨List.length_replicate, fun p hp => ?_, ⟨by show 0 ≤ 40; omega, by show 0 ≤ 8; omega, fun k hk => absurd hk (by show ¬ k < 0; omega), fun k hk => absurd hk (by show ¬ k < 0; omega)⟩, by show 0 ≤ 12; omega⟩, ⟨⟨⟨?_, fun k j hk hj => ?_⟩, ⟨⟨rfl, fun k j hk => absurd hk (by show ¬ k < 0; omega)⟩, ⟨rfl, fun k j hk => absurd hk (by show ¬ k < 0; omega)⟩, rfl, fun i hi => absurd hi (by show ¬ i < 10 * 0; omega)⟩, ⟨rfl, fun k j hk => absurd hk (by show ¬ k < 0; omega)⟩⟩, rfl, rfl, rfl, rfl⟩, rfl, ⟨0, by omega, rfl⟩, by show 0 < 4; omega⟩
  · show okN 101 ((List.replicate 10 (g2 60 60)).getD p z_ 0) ∧ okN 101 ((List.replicate 10 (g2 60 60)).getD p z_ 1)
    rw [hP p hp]
    exact ⟨o60, o60⟩
  · show (10 : Int32) = nI (List.replicate 10 (g2 60 60)).length
    rw [List.length_replicate]
    rfl
  · have hk : k < (List.replicate 10 (g2 60 60)).length := hk
    rw [List.length_replicate] at hk
    show fP (k * 2 + j) = (List.replicate 10 (g2 60 60)).getD k z_ j
    rw [hP k hk, h1 _ (by omega)]
    unfold g2
    by_cases c : j = 0
    · rw [if_pos c]
    · rw [if_neg c]
