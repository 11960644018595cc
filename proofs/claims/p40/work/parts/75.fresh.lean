/-! the fresh world -/
theorem wT_sh {h h' : zH} {p q : Nat} (e : ∀ a b, a ≤ 6 → h' (q + a) b = h (p + a) b) (w : wT h p) : wT h' q := by
  obtain ⟨w1, w2, w3, w4, w5, w6, w7, w8, w9, w10⟩ := w
  have e0 : ∀ b, h' q b = h p b := fun b => e 0 b (by omega)
  exact ⟨by rw [e0]; exact w1, by rw [e0]; exact w2, by rw [e0]; exact w3, by rw [e0]; exact w4, fun j => by rw [e 1 j (by omega)]; exact w5 j, fun j => by rw [e 2 j (by omega)]; exact w6 j, fun j => by rw [e 3 j (by omega)]; exact w7 j, fun j => by rw [e 4 j (by omega)]; exact w8 j, fun j => by rw [e 5 j (by omega)]; exact w9 j, fun j => by rw [e 6 j (by omega)]; exact w10 j⟩
theorem wT_hT0 : wT hT0 0 := wT_reb (wT_clr wT_00)
theorem hT0_o {j : Nat} : hT0 0 j = if j = 9 then 3 else 0 := by
  unfold hT0 clT0
  rw [reb_n (by omega), setB_n (by omega)]
  by_cases q : j = 9
  · subst q; rw [up_s]; rfl
  · rw [up_j q, if_neg q]
    by_cases q : j = 8
    · subst q; rw [up_s]
    · rw [up_j q]
      by_cases q : j = 7
      · subst q; rw [up_s]
      · rw [up_j q]
        by_cases q : j = 6
        · subst q; rw [up_s]
        · rw [up_j q]
theorem hT0_1 {j : Nat} : hT0 1 j = 0 := by
  unfold hT0 clT0
  rw [reb_n (by omega), setB_n (by omega), up_k (by omega), up_k (by omega), up_k (by omega), up_k (by omega)]
theorem hT0_2 {j : Nat} : hT0 2 j = 0 := by
  unfold hT0 clT0
  rw [reb_n (by omega), setB_n (by omega), up_k (by omega), up_k (by omega), up_k (by omega), up_k (by omega)]
theorem hT0_3 {j : Nat} (hj : j < 12) : hT0 3 j = -4 := clT0_s (p := 0) hj
theorem hT0_4 {j : Nat} : hT0 4 j = 0 := by
  unfold hT0 clT0
  rw [reb_n (by omega), setB_n (by omega), up_k (by omega), up_k (by omega), up_k (by omega), up_k (by omega)]
theorem hT0_5 {j : Nat} : hT0 5 j = 0 := by
  unfold hT0 clT0
  rw [reb_n (by omega), setB_n (by omega), up_k (by omega), up_k (by omega), up_k (by omega), up_k (by omega)]
theorem hZ_1 (a b : Nat) (h : a ≤ 6) : hZ (1 + a) b = hT0 (0 + a) b := by
  unfold hZ; rw [if_pos (by omega), show 1 + a - 1 = 0 + a by omega]
theorem hZ_8 (a b : Nat) (h : a ≤ 6) : hZ (8 + a) b = hT0 (0 + a) b := by
  unfold hZ; rw [if_neg (by omega), if_pos (by omega), show 8 + a - 8 = 0 + a by omega]
theorem hZ_16 (a b : Nat) (h : a ≤ 6) : hZ (16 + a) b = hT0 (0 + a) b := by
  unfold hZ; rw [if_neg (by omega), if_neg (by omega), if_pos (by omega), show 16 + a - 16 = 0 + a by omega]
theorem hZ_23 (a b : Nat) (h : a ≤ 6) : hZ (23 + a) b = hT0 (0 + a) b := by
  unfold hZ; rw [if_neg (by omega), if_neg (by omega), if_neg (by omega), if_pos (by omega), show 23 + a - 23 = 0 + a by omega]
theorem hZ_o {k j : Nat} (h : k = 0 ∨ k = 15 ∨ (30 ≤ k ∧ k ≠ 49 ∧ k ≠ 50 ∧ k ≠ 55)) : hZ k j = if (k = 34 ∨ k = 36 ∨ k = 38 ∨ k = 40) ∧ j = 1 then -1 else 0 := by
  unfold hZ; rw [if_neg (by omega), if_neg (by omega), if_neg (by omega), if_neg (by omega), if_neg (by omega), if_neg (by omega), if_neg (by omega)]
theorem hZ_0 {k j : Nat} (h : k = 0 ∨ k = 15 ∨ (30 ≤ k ∧ k ≠ 49 ∧ k ≠ 50 ∧ k ≠ 55)) (h2 : ¬ ((k = 34 ∨ k = 36 ∨ k = 38 ∨ k = 40) ∧ j = 1)) : hZ k j = 0 := by
  rw [hZ_o h, if_neg h2]
theorem hZ_55 {j : Nat} (h : j < 4) : hZ 55 j = -4 := by
  rcases (show j = 0 ∨ j = 1 ∨ j = 2 ∨ j = 3 by omega) with rfl | rfl | rfl | rfl <;> decide
theorem wX_hZ : wX hZ := by
  refine ⟨⟨wT_sh hZ_1 wT_hT0, wT_sh hZ_8 wT_hT0, wT_sh hZ_16 wT_hT0, wT_sh hZ_23 wT_hT0⟩, ⟨?_, ?_, ?_, fun j => ?_⟩, ?_, fun j => ?_, fun j => ?_, fun j => ?_, ⟨?_, ?_, ?_, ?_⟩, ?_⟩
  all_goals first
    | (rw [hZ_0 (by omega) (by omega)]; omega)
    | (exact ⟨by rw [hZ_o (by omega), if_pos (by omega)]; omega, by rw [hZ_0 (by omega) (by omega)]; omega⟩)
theorem wM_hZ : wM hZ := by
  refine ⟨⟨fun j hj => ?_, fun j hj => ?_, fun j hj => ?_, ?_, ?_, fun j hj => ?_, fun j hj => ?_, ?_⟩, ?_, ?_, ?_⟩
  all_goals (rw [hZ_0 (by omega) (by omega)]; omega)
theorem okH_hZ : okH hZ := by
  have ti : ∀ x : Int32, in32 x.toInt := fun x => ⟨by have := Int32.le_toInt x; omega, by have := Int32.toInt_lt x; omega⟩
  have hb : ∀ a b, a ≤ 6 → in32 (hT0 (0 + a) b) := by
    intro a b ha
    obtain ⟨-, -, -, -, w5, w6, w7, w8, w9, w10⟩ := wT_hT0
    rcases (show a = 0 ∨ a = 1 ∨ a = 2 ∨ a = 3 ∨ a = 4 ∨ a = 5 ∨ a = 6 by omega) with rfl | rfl | rfl | rfl | rfl | rfl | rfl
    · rw [hT0_o]; split <;> exact ⟨by omega, by omega⟩
    · have := w5 b; exact ⟨by omega, by omega⟩
    · have := w6 b; exact ⟨by omega, by omega⟩
    · have := w7 b; exact ⟨by omega, by omega⟩
    · have := w8 b; exact ⟨by omega, by omega⟩
    · have := w9 b; exact ⟨by omega, by omega⟩
    · have := w10 b; exact ⟨by omega, by omega⟩
  intro k j
  by_cases h1 : 1 ≤ k ∧ k ≤ 7
  · have := hb (k - 1) j (by omega); rw [← hZ_1 (k - 1) j (by omega), show 1 + (k - 1) = k by omega] at this; exact this
  by_cases h2 : 8 ≤ k ∧ k ≤ 14
  · have := hb (k - 8) j (by omega); rw [← hZ_8 (k - 8) j (by omega), show 8 + (k - 8) = k by omega] at this; exact this
  by_cases h3 : 16 ≤ k ∧ k ≤ 22
  · have := hb (k - 16) j (by omega); rw [← hZ_16 (k - 16) j (by omega), show 16 + (k - 16) = k by omega] at this; exact this
  by_cases h4 : 23 ≤ k ∧ k ≤ 29
  · have := hb (k - 23) j (by omega); rw [← hZ_23 (k - 23) j (by omega), show 23 + (k - 23) = k by omega] at this; exact this
  by_cases h5 : k = 49 ∨ k = 50 ∨ k = 55
  · rcases h5 with rfl | rfl | rfl <;> exact ti _
  · rw [hZ_o (by omega)]
    split <;> exact ⟨by omega, by omega⟩
