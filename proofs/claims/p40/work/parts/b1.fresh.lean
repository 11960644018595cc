/-! the relation in the fresh world; what changes a Town and its page alike -/
theorem RB_reb {x : zH} {p : Nat} : RB (reb p x) p := by
  have f : ∀ a, a ≠ p + 6 → reb p x a = x a := fun a ha => funext fun b => reb_n ha
  intro j hj
  rw [f p (by omega), f (p + 1) (by omega), f (p + 2) (by omega), f (p + 3) (by omega)]
  unfold reb
  rw [setB_i hj]
theorem RB_sh {h h' : zH} {p q : Nat} (e : ∀ a b, a ≤ 6 → h' (q + a) b = h (p + a) b) (r : RB h p) : RB h' q := by
  intro j hj
  have f : ∀ a, a ≤ 6 → h' (q + a) = h (p + a) := fun a ha => funext fun b => e a b ha
  rw [f 6 (by omega), f 1 (by omega), f 2 (by omega), f 3 (by omega), show h' q = h p from f 0 (by omega)]
  exact r j hj
theorem RB_c {x x' : zH} {p : Nat} (e6 : x' p 6 = x p 6) (e9 : x' p 9 = x p 9) (e : ∀ i b, i = 1 ∨ i = 2 ∨ i = 3 ∨ i = 6 → x' (p + i) b = x (p + i) b) (r : RB x p) : RB x' p := by
  intro j hj
  have f : ∀ i, i = 1 ∨ i = 2 ∨ i = 3 ∨ i = 6 → x' (p + i) = x (p + i) := fun i hi => funext fun b => e i b hi
  rw [f 6 (by omega), f 1 (by omega), f 2 (by omega), f 3 (by omega), e6, e9]
  exact r j hj
theorem wN_hZ : wN hZ := by
  constructor
  · decide
  · decide
theorem INV_hZ : INV hZ := by
  have z1 : ∀ b, hZ 1 b = if b = 9 then 3 else 0 := fun b => (hZ_1 0 b (by omega)).trans hT0_o
  have z46 : ∀ b, hZ 46 b = 0 := fun b => hZ_0 (by omega) (by omega)
  have z45 : ∀ b, hZ 45 b = 0 := fun b => hZ_0 (by omega) (by omega)
  have z4 : ∀ j, j < 12 → hZ (1 + 3) j = -4 := fun j hj => (hZ_1 3 j (by omega)).trans (hT0_3 hj)
  have z54 : ∀ j, hZ 54 j = 0 := fun j => hZ_0 (by omega) (by omega)
  refine ⟨wX_hZ, ⟨wM_hZ, fun j hj => ⟨Or.inl (hZ_55 hj), ?_⟩, fun j => Or.inl (z54 j), wN_hZ, fun j => ?_, fun k _ hn => absurd (z54 k) hn⟩, ⟨⟨⟨⟨?_, ?_, ?_⟩, fun j hj => ?_, fun j hj => ?_, fun j hj => ?_, fun j hj => Or.inl (z4 j hj)⟩, RB_sh hZ_1 (RB_reb)⟩, ?_⟩, fun k hk => ⟨?_, fun hn => absurd (z54 k) hn⟩, ⟨?_, fun j hj => ?_⟩, ⟨?_, fun j hj => ?_⟩, fun k hk => ⟨?_, ?_, fun i hi => ?_⟩, ?_⟩
  · rw [hZ_0 (by omega) (by omega)]; omega
  · rw [hZ_0 (by omega) (by omega)]; omega
  · rw [z1, z46]; rfl
  · rw [z1, z46]; rfl
  · rw [z1, z46]; rfl
  · rw [z1, if_neg (by omega)] at hj; omega
  · rw [z4 j hj]
    unfold stM
    rw [z46]
    rfl
  · rw [z1, if_neg (by omega)] at hj; omega
  · rw [z1, z45]; rfl
  · rw [z54, hZ_0 (by omega) (by omega)]
  · rw [z45, hZ_0 (by omega) (by omega)]
  · rw [z45] at hj; omega
  · rw [z45, hZ_0 (by omega) (by omega)]
  · rw [z45] at hj; omega
  · rw [hZ_55 hk, if_pos rfl, hZ_o (by omega), if_pos (by omega)]
  · rw [hZ_0 (by omega) (by omega), hZ_0 (by omega) (by omega)]
  · rw [hZ_0 (by omega) (by omega), hZ_0 (by omega) (by omega)]
  · rw [z45, hZ_0 (by omega) (by omega)]
section RU
variable {h : zH} {p : Nat} {pg : Nat → Int}
theorem RC_kind (r : RC h p pg) {j : Nat} (hj : j < 4) (v : Int) : RC (up h (p + 1) j v) p (up1 pg j v) := by
  obtain ⟨⟨r1, r2, r3⟩, r4, r5, r6, r7⟩ := r
  have e0 : ∀ b, up h (p + 1) j v p b = h p b := fun b => up_k (by omega)
  have e2 : ∀ i b, i ≠ 1 → up h (p + 1) j v (p + i) b = h (p + i) b := fun i b q => up_k (by omega)
  have g : ∀ b, b ≠ j → up1 pg j v b = pg b := fun b q => up1_n q
  refine ⟨⟨by rw [e0, g _ (by omega)]; exact r1, by rw [e0, g _ (by omega)]; exact r2, by rw [e0, g _ (by omega)]; exact r3⟩, fun i hi => ?_, fun i hi => ?_, fun i hi => ?_, fun i hi => ?_⟩
  · rw [e0] at hi
    rw [e2 2 _ (by omega), g (4 + i) (by omega)]
    refine ⟨?_, (r4 i hi).2⟩
    by_cases e : i = j
    · subst e; rw [up_s, up1_s]
    · rw [up_j e, g _ e]; exact (r4 i hi).1
  · rw [e2 3 _ (by omega)]; unfold stM; rw [g (8 + i) (by omega)]; exact r5 i hi
  · rw [e0] at hi; rw [e2 4 _ (by omega), e2 5 _ (by omega), g (22 + i) (by omega), g (27 + i) (by omega)]; exact r6 i hi
  · rw [e2 3 _ (by omega), e0]; exact r7 i hi
theorem RC_lean (r : RC h p pg) (h6 : h p 6 ≤ 4) {j : Nat} (hj : j < 4) (v : Int) : RC (up h (p + 2) j v) p (up1 pg (4 + j) v) := by
  obtain ⟨⟨r1, r2, r3⟩, r4, r5, r6, r7⟩ := r
  have e0 : ∀ b, up h (p + 2) j v p b = h p b := fun b => up_k (by omega)
  have e2 : ∀ i b, i ≠ 2 → up h (p + 2) j v (p + i) b = h (p + i) b := fun i b q => up_k (by omega)
  have g : ∀ b, b ≠ 4 + j → up1 pg (4 + j) v b = pg b := fun b q => up1_n q
  refine ⟨⟨by rw [e0, g _ (by omega)]; exact r1, by rw [e0, g _ (by omega)]; exact r2, by rw [e0, g _ (by omega)]; exact r3⟩, fun i hi => ?_, fun i hi => ?_, fun i hi => ?_, fun i hi => ?_⟩
  · rw [e0] at hi
    rw [e2 1 _ (by omega), g i (by omega)]
    refine ⟨(r4 i hi).1, ?_⟩
    by_cases e : i = j
    · subst e; rw [up_s, up1_s]
    · rw [up_j e, g _ (by omega)]; exact (r4 i hi).2
  · rw [e2 3 _ (by omega)]; unfold stM; rw [g (8 + i) (by omega)]; exact r5 i hi
  · rw [e0] at hi; rw [e2 4 _ (by omega), e2 5 _ (by omega), g (22 + i) (by omega), g (27 + i) (by omega)]; exact r6 i hi
  · rw [e2 3 _ (by omega), e0]; exact r7 i hi
theorem RC_stand (r : RC h p pg) (h6 : h p 6 ≤ 4) {j : Nat} (hj : j < 12) {v : Int} (hv : v = -4 ∨ (0 ≤ v ∧ v < h p 6)) : RC (up h (p + 3) j v) p (up1 pg (8 + j) (if v = -4 then 0 else v + 1)) := by
  obtain ⟨⟨r1, r2, r3⟩, r4, r5, r6, r7⟩ := r
  have e0 : ∀ b, up h (p + 3) j v p b = h p b := fun b => up_k (by omega)
  have e2 : ∀ i b, i ≠ 3 → up h (p + 3) j v (p + i) b = h (p + i) b := fun i b q => up_k (by omega)
  generalize hu : (if v = -4 then (0 : Int) else v + 1) = u
  have g : ∀ b, b ≠ 8 + j → up1 pg (8 + j) u b = pg b := fun b q => up1_n q
  refine ⟨⟨by rw [e0, g _ (by omega)]; exact r1, by rw [e0, g _ (by omega)]; exact r2, by rw [e0, g _ (by omega)]; exact r3⟩, fun i hi => ?_, fun i hi => ?_, fun i hi => ?_, fun i hi => ?_⟩
  · rw [e0] at hi
    rw [e2 1 _ (by omega), e2 2 _ (by omega), g i (by omega), g (4 + i) (by omega)]
    exact r4 i hi
  · by_cases e : i = j
    · subst e
      rw [up_s]
      unfold stM
      rw [up1_s, ← hu]
      unfold noF
      rcases hv with rfl | hv
      · decide
      · rw [if_neg (by omega), if_neg (by omega)]; omega
    · rw [up_j e]
      unfold stM
      rw [g (8 + i) (by omega)]
      exact r5 i hi
  · rw [e0] at hi; rw [e2 4 _ (by omega), e2 5 _ (by omega), g (22 + i) (by omega), g (27 + i) (by omega)]; exact r6 i hi
  · by_cases e : i = j
    · subst e; rw [up_s, e0]; exact hv
    · rw [up_j e, e0]; exact r7 i hi
theorem RC_paint (r : RC h p pg) (h6 : h p 6 ≤ 4) (v : Int) : RC (up h p 9 v) p (up1 pg 21 (v - 3)) := by
  obtain ⟨⟨r1, r2, r3⟩, r4, r5, r6, r7⟩ := r
  have e0 : ∀ b, b ≠ 9 → up h p 9 v p b = h p b := fun b q => up_j q
  have e2 : ∀ i b, i ≠ 0 → up h p 9 v (p + i) b = h (p + i) b := fun i b q => up_k (by omega)
  have g : ∀ b, b ≠ 21 → up1 pg 21 (v - 3) b = pg b := fun b q => up1_n q
  refine ⟨⟨by rw [e0 7 (by omega), g _ (by omega)]; exact r1, by rw [e0 8 (by omega), g _ (by omega)]; exact r2, by rw [up_s, up1_s]; omega⟩, fun i hi => ?_, fun i hi => ?_, fun i hi => ?_, fun i hi => ?_⟩
  · rw [e0 6 (by omega)] at hi
    rw [e2 1 _ (by omega), e2 2 _ (by omega), g i (by omega), g (4 + i) (by omega)]
    exact r4 i hi
  · rw [e2 3 _ (by omega)]; unfold stM; rw [g (8 + i) (by omega)]; exact r5 i hi
  · rw [e0 7 (by omega)] at hi; rw [e2 4 _ (by omega), e2 5 _ (by omega), g (22 + i) (by omega), g (27 + i) (by omega)]; exact r6 i hi
  · rw [e2 3 _ (by omega), e0 6 (by omega)]; exact r7 i hi
theorem RC_cloud (r : RC h p pg) (h6 : h p 6 ≤ 4) (v : Int) : RC (up h p 8 v) p (up1 pg 20 v) := by
  obtain ⟨⟨r1, r2, r3⟩, r4, r5, r6, r7⟩ := r
  have e0 : ∀ b, b ≠ 8 → up h p 8 v p b = h p b := fun b q => up_j q
  have e2 : ∀ i b, i ≠ 0 → up h p 8 v (p + i) b = h (p + i) b := fun i b q => up_k (by omega)
  have g : ∀ b, b ≠ 20 → up1 pg 20 v b = pg b := fun b q => up1_n q
  refine ⟨⟨by rw [e0 7 (by omega), g _ (by omega)]; exact r1, by rw [up_s, up1_s], by rw [e0 9 (by omega), g _ (by omega)]; exact r3⟩, fun i hi => ?_, fun i hi => ?_, fun i hi => ?_, fun i hi => ?_⟩
  · rw [e0 6 (by omega)] at hi
    rw [e2 1 _ (by omega), e2 2 _ (by omega), g i (by omega), g (4 + i) (by omega)]
    exact r4 i hi
  · rw [e2 3 _ (by omega)]; unfold stM; rw [g (8 + i) (by omega)]; exact r5 i hi
  · rw [e0 7 (by omega)] at hi; rw [e2 4 _ (by omega), e2 5 _ (by omega), g (22 + i) (by omega), g (27 + i) (by omega)]; exact r6 i hi
  · rw [e2 3 _ (by omega), e0 6 (by omega)]; exact r7 i hi
theorem RC_n (r : RC h p pg) (h6 : h p 6 ≤ 4) {n : Int} (hn : n ≤ 5) (hr : ∀ j : Nat, (j : Int) < n → h (p + 4) j = pg (22 + j) ∧ h (p + 5) j = pg (27 + j)) : RC (up h p 7 n) p (up1 pg 32 n) := by
  obtain ⟨⟨r1, r2, r3⟩, r4, r5, r6, r7⟩ := r
  have e0 : ∀ b, b ≠ 7 → up h p 7 n p b = h p b := fun b q => up_j q
  have e2 : ∀ i b, i ≠ 0 → up h p 7 n (p + i) b = h (p + i) b := fun i b q => up_k (by omega)
  have g : ∀ b, b ≠ 32 → up1 pg 32 n b = pg b := fun b q => up1_n q
  refine ⟨⟨by rw [up_s, up1_s], by rw [e0 8 (by omega), g _ (by omega)]; exact r2, by rw [e0 9 (by omega), g _ (by omega)]; exact r3⟩, fun i hi => ?_, fun i hi => ?_, fun i hi => ?_, fun i hi => ?_⟩
  · rw [e0 6 (by omega)] at hi
    rw [e2 1 _ (by omega), e2 2 _ (by omega), g i (by omega), g (4 + i) (by omega)]
    exact r4 i hi
  · rw [e2 3 _ (by omega)]; unfold stM; rw [g (8 + i) (by omega)]; exact r5 i hi
  · rw [up_s] at hi; rw [e2 4 _ (by omega), e2 5 _ (by omega), g (22 + i) (by omega), g (27 + i) (by omega)]; exact hr i hi
  · rw [e2 3 _ (by omega), e0 6 (by omega)]; exact r7 i hi
theorem RC_due (r : RC h p pg) (h6 : h p 6 ≤ 4) (h7 : h p 7 ≤ 5) {j : Nat} (hj : j < 5) (v : Int) : RC (up h (p + 4) j v) p (up1 pg (22 + j) v) := by
  obtain ⟨⟨r1, r2, r3⟩, r4, r5, r6, r7⟩ := r
  have e0 : ∀ b, up h (p + 4) j v p b = h p b := fun b => up_k (by omega)
  have e2 : ∀ i b, i ≠ 4 → up h (p + 4) j v (p + i) b = h (p + i) b := fun i b q => up_k (by omega)
  have g : ∀ b, b ≠ 22 + j → up1 pg (22 + j) v b = pg b := fun b q => up1_n q
  refine ⟨⟨by rw [e0, g _ (by omega)]; exact r1, by rw [e0, g _ (by omega)]; exact r2, by rw [e0, g _ (by omega)]; exact r3⟩, fun i hi => ?_, fun i hi => ?_, fun i hi => ?_, fun i hi => ?_⟩
  · rw [e0] at hi
    rw [e2 1 _ (by omega), e2 2 _ (by omega), g i (by omega), g (4 + i) (by omega)]
    exact r4 i hi
  · rw [e2 3 _ (by omega)]; unfold stM; rw [g (8 + i) (by omega)]; exact r5 i hi
  · rw [e0] at hi
    rw [e2 5 _ (by omega), g (27 + i) (by omega)]
    refine ⟨?_, (r6 i hi).2⟩
    by_cases e : i = j
    · subst e; rw [up_s, up1_s]
    · rw [up_j e, g _ (by omega)]; exact (r6 i hi).1
  · rw [e2 3 _ (by omega), e0]; exact r7 i hi
theorem RC_worth (r : RC h p pg) (h6 : h p 6 ≤ 4) (h7 : h p 7 ≤ 5) {j : Nat} (hj : j < 5) (v : Int) : RC (up h (p + 5) j v) p (up1 pg (27 + j) v) := by
  obtain ⟨⟨r1, r2, r3⟩, r4, r5, r6, r7⟩ := r
  have e0 : ∀ b, up h (p + 5) j v p b = h p b := fun b => up_k (by omega)
  have e2 : ∀ i b, i ≠ 5 → up h (p + 5) j v (p + i) b = h (p + i) b := fun i b q => up_k (by omega)
  have g : ∀ b, b ≠ 27 + j → up1 pg (27 + j) v b = pg b := fun b q => up1_n q
  refine ⟨⟨by rw [e0, g _ (by omega)]; exact r1, by rw [e0, g _ (by omega)]; exact r2, by rw [e0, g _ (by omega)]; exact r3⟩, fun i hi => ?_, fun i hi => ?_, fun i hi => ?_, fun i hi => ?_⟩
  · rw [e0] at hi
    rw [e2 1 _ (by omega), e2 2 _ (by omega), g i (by omega), g (4 + i) (by omega)]
    exact r4 i hi
  · rw [e2 3 _ (by omega)]; unfold stM; rw [g (8 + i) (by omega)]; exact r5 i hi
  · rw [e0] at hi
    rw [e2 4 _ (by omega), g (22 + i) (by omega)]
    refine ⟨(r6 i hi).1, ?_⟩
    by_cases e : i = j
    · subst e; rw [up_s, up1_s]
    · rw [up_j e, g _ (by omega)]; exact (r6 i hi).2
  · rw [e2 3 _ (by omega), e0]; exact r7 i hi
end RU
/-- clouds set, in class and reference -/
theorem cld_eq {c : Int} {j : Nat} (hc : 0 ≤ c ∧ c < 4096) (hj : j < 12) (b : Int) : cldF c j b = cldM c j b ∧ 0 ≤ cldM c j b ∧ cldM c j b < 4096 := by
  obtain ⟨c, rfl⟩ := Int.eq_ofNat_of_zero_le hc.1
  have h1 : (2 : Nat) ^ j < 2 ^ 12 := Nat.pow_lt_pow_right (by decide) hj
  have e1 : ((2 : Int) ^ j) = ((2 ^ j : Nat) : Int) := by push_cast; rfl
  have ha := z_andn (a := c) (b := 2 ^ j) (by omega) (by omega)
  have hle := Nat.and_le_left (n := c) (m := 4095 ^^^ 2 ^ j)
  have ho := Nat.or_lt_two_pow (x := c) (y := 2 ^ j) (n := 12) (by omega) h1
  unfold cldF cldM
  rw [e1, ha]
  by_cases hb : b = 0
  · rw [if_pos hb, if_pos hb, z_or0 _ ⟨by omega, by omega⟩]
    exact ⟨rfl, by omega, by omega⟩
  · rw [if_neg hb, if_neg hb, z_or_nat 12 (by decide) (by omega) h1, z_or_nat 12 (by decide) (by omega) h1]
    have e : (c &&& (4095 ^^^ 2 ^ j)) ||| 2 ^ j = c ||| 2 ^ j := by
      apply Nat.eq_of_testBit_eq
      intro i
      rw [Nat.testBit_or, Nat.testBit_or, Nat.testBit_and, Nat.testBit_xor]
      by_cases hi : i < 12
      · have h2 : Nat.testBit 4095 i = true := by
          rw [show 4095 = 2 ^ 12 - 1 from rfl, Nat.testBit_two_pow_sub_one]; simp; omega
        rw [h2]
        cases c.testBit i <;> cases (2 ^ j).testBit i <;> rfl
      · have h3 : c.testBit i = false := Nat.testBit_lt_two_pow (Nat.lt_of_lt_of_le (show c < 2 ^ 12 by omega) (Nat.pow_le_pow_right (by decide) (by omega)))
        rw [h3]
        cases (2 ^ j).testBit i <;> simp
    rw [e]
    exact ⟨rfl, by omega, by omega⟩
