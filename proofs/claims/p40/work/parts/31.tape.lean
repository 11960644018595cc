/-! SunPointer$Tape: the next TOKEN. The Tape's own fields as a function r: the world is reT h t r -/
def reT (h : zH) (t : Nat) (r : Nat → Int) : zH := fun a b => if a = t then r b else h a b
def up1 (r : Nat → Int) (j : Nat) (v : Int) : Nat → Int := fun b => if b = j then v else r b
theorem reT_s {h : zH} {t b : Nat} {r : Nat → Int} : reT h t r t b = r b := by simp [reT]
theorem reT_n {h : zH} {t a b : Nat} {r : Nat → Int} (q : a ≠ t) : reT h t r a b = h a b := by simp [reT, q]
theorem reT_up {h : zH} {t j : Nat} {r : Nat → Int} {v : Int} : up (reT h t r) t j v = reT h t (up1 r j v) := by
  funext a b
  by_cases ha : a = t
  · subst ha
    simp [up, reT, up1]
  · simp [up, reT, ha]
theorem reT_upo {h : zH} {t k j : Nat} {r : Nat → Int} {v : Int} (q : k ≠ t) : up (reT h t r) k j v = reT (up h k j v) t r := by
  funext a b
  by_cases ha : a = t
  · subst ha
    simp [up, reT, Ne.symm q]
  · simp [up, reT, ha]
theorem reT_self {h : zH} {t : Nat} : reT h t (h t) = h := by
  funext a b
  by_cases ha : a = t
  · subst ha; simp [reT]
  · simp [reT, ha]
theorem up1_s {r : Nat → Int} {j : Nat} {v : Int} : up1 r j v j = v := by simp [up1]
theorem up1_n {r : Nat → Int} {j b : Nat} {v : Int} (q : b ≠ j) : up1 r j v b = r b := by simp [up1, q]
def wR (r by_ : Nat → Int) : Prop := (0 ≤ r 1 ∧ r 1 ≤ 160) ∧ (0 ≤ r 5 ∧ r 5 ≤ 160) ∧ (0 ≤ r 6 ∧ r 6 ≤ 160) ∧ (∀ j, 0 ≤ by_ j ∧ by_ j ≤ 127)
section TP
variable {l : Launch} {G : zG} {h : zH} {t : Nat} {r : Nat → Int}

theorem l_behindBlanks (ly : LTp G t) (w : wR r (h (t + 1))) {Φ : Option zV → zH → Prop} (x1 : Int) {v : Nat} (hΦ : Φ (some (vI v)) (reT h t r)) : ∀ (n q : Nat), q ≤ 160 → (r 1).toNat - q = n → bhd blB (h (t + 1)) n q = v → Rr l G 0 mX1_behindBlanks Φ 2 [some (vR t), some (vI x1), some (vI q)] [] (reT h t r) := by
  obtain ⟨⟨n0, n1⟩, ⟨s0, s1⟩, r0, l1⟩ := ly
  obtain ⟨w1, w2, w3, w4⟩ := w
  intro n
  induction n with
  | zero =>
    intro q hq hn hb
    refine r_iload_n 3 dX1_behindBlanks_2 rfl rfl ?_
    refine r_aload_n 4 dX1_behindBlanks_3 rfl rfl ?_
    refine r_getI 7 dX1_behindBlanks_4 rfl kf_1_15 rfl (by first | assumption | omega) (by assumption) ?_
    rotate_left -- leaf: pc 7
    rw [reT_s]
    refine r_icmp_ge 27 10 dX1_behindBlanks_7 (by decide) rfl (fun c_7 => ?_) (fun c_7 => ?_)
    refine r_iload_n 28 dX1_behindBlanks_27 rfl rfl ?_
    refine r_iret dX1_behindBlanks_28 rfl ?_
    rotate_left -- leaf: return at pc 28
    rotate_left -- leaf: pc 10
    · simp only [bhd] at hb
      subst hb
      exact hΦ
    · omega
  | succ n ih =>
    intro q hq hn hb
    refine r_iload_n 3 dX1_behindBlanks_2 rfl rfl ?_
    refine r_aload_n 4 dX1_behindBlanks_3 rfl rfl ?_
    refine r_getI 7 dX1_behindBlanks_4 rfl kf_1_15 rfl (by first | assumption | omega) (by assumption) ?_
    rotate_left -- leaf: pc 7
    rw [reT_s]
    refine r_icmp_ge 27 10 dX1_behindBlanks_7 (by decide) rfl (fun c_7 => ?_) (fun c_7 => ?_)
    rotate_left -- leaf: pc 27
    refine r_aload_n 11 dX1_behindBlanks_10 rfl rfl ?_
    refine r_getR 14 dX1_behindBlanks_11 rfl kf_1_11 rfl (by first | assumption | omega) (by assumption) (by assumption) ?_
    refine r_iload_n 15 dX1_behindBlanks_14 rfl rfl ?_
    first | refine r_bald 16 dX1_behindBlanks_15 rfl (by first | assumption | omega) (by assumption) (by first | omega | (simp only [Int.toNat_natCast]; omega)) (by first | omega | (simp only [Int.toNat_natCast]; omega)) ?_ | refine r_zald 16 dX1_behindBlanks_15 rfl (by first | assumption | omega) (by assumption) (by first | omega | (simp only [Int.toNat_natCast]; omega)) (by first | omega | (simp only [Int.toNat_natCast]; omega)) ?_
    rotate_left -- leaf: pc 16
    · omega
    rw [Int.toNat_natCast, reT_n (by omega)]
    simp only [bhd] at hb
    refine r_bipush 18 dX1_behindBlanks_16 rfl rfl (by decide) ?_
    refine r_icmp_ne 27 21 dX1_behindBlanks_18 (by decide) rfl (fun c_18 => ?_) (fun c_18 => ?_)
    refine r_iload_n 28 dX1_behindBlanks_27 rfl rfl ?_
    refine r_iret dX1_behindBlanks_28 rfl ?_
    rotate_left -- leaf: return at pc 28
    refine r_iinc 24 _ dX1_behindBlanks_21 rfl rfl rfl rfl (by first | exact w32_id (by omega) (by omega) | rfl) ?_
    refine r_goto 2 dX1_behindBlanks_24 (by decide) ?_
    rotate_left -- leaf: pc 2
    · rw [if_neg (by simp [blB, c_18])] at hb
      subst hb
      exact hΦ
    · rw [if_pos (by simp [blB, c_18])] at hb
      exact ih (q + 1) (by omega) (by omega) hb
theorem c_behindBlanks (ly : LTp G t) (w : wR r (h (t + 1))) (q : Nat) (hq : q ≤ 160) : Ca l G 0 mX1_behindBlanks [vR t, vI q] (reT h t r) (fun r' h' => r' = some (vI (bhd blB (h (t + 1)) ((r 1).toNat - q) q)) ∧ h' = reT h t r) := by
  refine Ca.of (by decide) (Nat.le_of_ble_eq_true rfl) (fun hI hv hH => ?_)
  refine r_iload_n 1 dX1_behindBlanks_0 rfl rfl ?_
  refine r_istore_n 2 dX1_behindBlanks_1 rfl rfl rfl ?_
  rotate_left -- leaf: pc 2
  exact l_behindBlanks (l := l) ly w (q : Int) (Φ := fun r' h' => r' = some (vI (bhd blB (h (t + 1)) ((r 1).toNat - q) q)) ∧ h' = reT h t r) ⟨rfl, rfl⟩ _ q hq rfl rfl
theorem l_behindLetters (ly : LTp G t) (w : wR r (h (t + 1))) {Φ : Option zV → zH → Prop} (x1 : Int) {v : Nat} (hΦ : Φ (some (vI v)) (reT h t r)) : ∀ (n q : Nat), q ≤ 160 → (r 1).toNat - q = n → bhd leB (h (t + 1)) n q = v → Rr l G 1 mX1_behindLetters Φ 2 [some (vR t), some (vI x1), some (vI q)] [] (reT h t r) := by
  obtain ⟨⟨n0, n1⟩, ⟨s0, s1⟩, r0, l1⟩ := ly
  obtain ⟨w1, w2, w3, w4⟩ := w
  intro n
  induction n with
  | zero =>
    intro q hq hn hb
    refine r_iload_n 3 dX1_behindLetters_2 rfl rfl ?_
    refine r_aload_n 4 dX1_behindLetters_3 rfl rfl ?_
    refine r_getI 7 dX1_behindLetters_4 rfl kf_1_15 rfl (by first | assumption | omega) (by assumption) ?_
    rotate_left -- leaf: pc 7
    rw [reT_s]
    refine r_icmp_ge 28 10 dX1_behindLetters_7 (by decide) rfl (fun c_7 => ?_) (fun c_7 => ?_)
    refine r_iload_n 29 dX1_behindLetters_28 rfl rfl ?_
    refine r_iret dX1_behindLetters_29 rfl ?_
    rotate_left -- leaf: return at pc 29
    rotate_left -- leaf: pc 10
    · simp only [bhd] at hb
      subst hb
      exact hΦ
    · omega
  | succ n ih =>
    intro q hq hn hb
    refine r_iload_n 3 dX1_behindLetters_2 rfl rfl ?_
    refine r_aload_n 4 dX1_behindLetters_3 rfl rfl ?_
    refine r_getI 7 dX1_behindLetters_4 rfl kf_1_15 rfl (by first | assumption | omega) (by assumption) ?_
    rotate_left -- leaf: pc 7
    rw [reT_s]
    refine r_icmp_ge 28 10 dX1_behindLetters_7 (by decide) rfl (fun c_7 => ?_) (fun c_7 => ?_)
    rotate_left -- leaf: pc 28
    refine r_aload_n 11 dX1_behindLetters_10 rfl rfl ?_
    refine r_getR 14 dX1_behindLetters_11 rfl kf_1_11 rfl (by first | assumption | omega) (by assumption) (by assumption) ?_
    refine r_iload_n 15 dX1_behindLetters_14 rfl rfl ?_
    first | refine r_bald 16 dX1_behindLetters_15 rfl (by first | assumption | omega) (by assumption) (by first | omega | (simp only [Int.toNat_natCast]; omega)) (by first | omega | (simp only [Int.toNat_natCast]; omega)) ?_ | refine r_zald 16 dX1_behindLetters_15 rfl (by first | assumption | omega) (by assumption) (by first | omega | (simp only [Int.toNat_natCast]; omega)) (by first | omega | (simp only [Int.toNat_natCast]; omega)) ?_
    rotate_left -- leaf: call at pc 16
    · omega
    rw [Int.toNat_natCast, reT_n (by omega)]
    simp only [bhd] at hb
    refine r_cs1 19 dX1_behindLetters_16 rfl ks_1_129 rfl rfl (c_isLetter (h (t + 1) q)) ?_
    rintro r1 h' ⟨rfl, rfl⟩
    refine r_if_eq 28 22 dX1_behindLetters_19 (by decide) rfl (fun c_19 => ?_) (fun c_19 => ?_)
    refine r_iload_n 29 dX1_behindLetters_28 rfl rfl ?_
    refine r_iret dX1_behindLetters_29 rfl ?_
    rotate_left -- leaf: return at pc 29
    refine r_iinc 25 _ dX1_behindLetters_22 rfl rfl rfl rfl (by first | exact w32_id (by omega) (by omega) | rfl) ?_
    refine r_goto 2 dX1_behindLetters_25 (by decide) ?_
    rotate_left -- leaf: pc 2
    · rw [if_neg (z01_n.mp c_19)] at hb
      subst hb
      exact hΦ
    · rw [if_pos (z01_y.mp c_19)] at hb
      exact ih (q + 1) (by omega) (by omega) hb
theorem c_behindLetters (ly : LTp G t) (w : wR r (h (t + 1))) (q : Nat) (hq : q ≤ 160) : Ca l G 1 mX1_behindLetters [vR t, vI q] (reT h t r) (fun r' h' => r' = some (vI (bhd leB (h (t + 1)) ((r 1).toNat - q) q)) ∧ h' = reT h t r) := by
  refine Ca.of (by decide) (Nat.le_of_ble_eq_true rfl) (fun hI hv hH => ?_)
  refine r_iload_n 1 dX1_behindLetters_0 rfl rfl ?_
  refine r_istore_n 2 dX1_behindLetters_1 rfl rfl rfl ?_
  rotate_left -- leaf: pc 2
  exact l_behindLetters (l := l) ly w (q : Int) (Φ := fun r' h' => r' = some (vI (bhd leB (h (t + 1)) ((r 1).toNat - q) q)) ∧ h' = reT h t r) ⟨rfl, rfl⟩ _ q hq rfl rfl
theorem l_behindFigures (ly : LTp G t) (w : wR r (h (t + 1))) {Φ : Option zV → zH → Prop} (x1 : Int) {v : Nat} (hΦ : Φ (some (vI v)) (reT h t r)) : ∀ (n q : Nat), q ≤ 160 → (r 1).toNat - q = n → bhd fiB (h (t + 1)) n q = v → Rr l G 1 mX1_behindFigures Φ 2 [some (vR t), some (vI x1), some (vI q)] [] (reT h t r) := by
  obtain ⟨⟨n0, n1⟩, ⟨s0, s1⟩, r0, l1⟩ := ly
  obtain ⟨w1, w2, w3, w4⟩ := w
  intro n
  induction n with
  | zero =>
    intro q hq hn hb
    refine r_iload_n 3 dX1_behindFigures_2 rfl rfl ?_
    refine r_aload_n 4 dX1_behindFigures_3 rfl rfl ?_
    refine r_getI 7 dX1_behindFigures_4 rfl kf_1_15 rfl (by first | assumption | omega) (by assumption) ?_
    rotate_left -- leaf: pc 7
    rw [reT_s]
    refine r_icmp_ge 28 10 dX1_behindFigures_7 (by decide) rfl (fun c_7 => ?_) (fun c_7 => ?_)
    refine r_iload_n 29 dX1_behindFigures_28 rfl rfl ?_
    refine r_iret dX1_behindFigures_29 rfl ?_
    rotate_left -- leaf: return at pc 29
    rotate_left -- leaf: pc 10
    · simp only [bhd] at hb
      subst hb
      exact hΦ
    · omega
  | succ n ih =>
    intro q hq hn hb
    refine r_iload_n 3 dX1_behindFigures_2 rfl rfl ?_
    refine r_aload_n 4 dX1_behindFigures_3 rfl rfl ?_
    refine r_getI 7 dX1_behindFigures_4 rfl kf_1_15 rfl (by first | assumption | omega) (by assumption) ?_
    rotate_left -- leaf: pc 7
    rw [reT_s]
    refine r_icmp_ge 28 10 dX1_behindFigures_7 (by decide) rfl (fun c_7 => ?_) (fun c_7 => ?_)
    rotate_left -- leaf: pc 28
    refine r_aload_n 11 dX1_behindFigures_10 rfl rfl ?_
    refine r_getR 14 dX1_behindFigures_11 rfl kf_1_11 rfl (by first | assumption | omega) (by assumption) (by assumption) ?_
    refine r_iload_n 15 dX1_behindFigures_14 rfl rfl ?_
    first | refine r_bald 16 dX1_behindFigures_15 rfl (by first | assumption | omega) (by assumption) (by first | omega | (simp only [Int.toNat_natCast]; omega)) (by first | omega | (simp only [Int.toNat_natCast]; omega)) ?_ | refine r_zald 16 dX1_behindFigures_15 rfl (by first | assumption | omega) (by assumption) (by first | omega | (simp only [Int.toNat_natCast]; omega)) (by first | omega | (simp only [Int.toNat_natCast]; omega)) ?_
    rotate_left -- leaf: call at pc 16
    · omega
    rw [Int.toNat_natCast, reT_n (by omega)]
    simp only [bhd] at hb
    refine r_cs1 19 dX1_behindFigures_16 rfl ks_1_135 rfl rfl (c_isFigure (h (t + 1) q)) ?_
    rintro r1 h' ⟨rfl, rfl⟩
    refine r_if_eq 28 22 dX1_behindFigures_19 (by decide) rfl (fun c_19 => ?_) (fun c_19 => ?_)
    refine r_iload_n 29 dX1_behindFigures_28 rfl rfl ?_
    refine r_iret dX1_behindFigures_29 rfl ?_
    rotate_left -- leaf: return at pc 29
    refine r_iinc 25 _ dX1_behindFigures_22 rfl rfl rfl rfl (by first | exact w32_id (by omega) (by omega) | rfl) ?_
    refine r_goto 2 dX1_behindFigures_25 (by decide) ?_
    rotate_left -- leaf: pc 2
    · rw [if_neg (z01_n.mp c_19)] at hb
      subst hb
      exact hΦ
    · rw [if_pos (z01_y.mp c_19)] at hb
      exact ih (q + 1) (by omega) (by omega) hb
theorem c_behindFigures (ly : LTp G t) (w : wR r (h (t + 1))) (q : Nat) (hq : q ≤ 160) : Ca l G 1 mX1_behindFigures [vR t, vI q] (reT h t r) (fun r' h' => r' = some (vI (bhd fiB (h (t + 1)) ((r 1).toNat - q) q)) ∧ h' = reT h t r) := by
  refine Ca.of (by decide) (Nat.le_of_ble_eq_true rfl) (fun hI hv hH => ?_)
  refine r_iload_n 1 dX1_behindFigures_0 rfl rfl ?_
  refine r_istore_n 2 dX1_behindFigures_1 rfl rfl rfl ?_
  rotate_left -- leaf: pc 2
  exact l_behindFigures (l := l) ly w (q : Int) (Φ := fun r' h' => r' = some (vI (bhd fiB (h (t + 1)) ((r 1).toNat - q) q)) ∧ h' = reT h t r) ⟨rfl, rfl⟩ _ q hq rfl rfl
theorem l_numberOf (ly : LTp G t) (w : wR r (h (t + 1))) (hle : r 5 ≤ r 6) {Φ : Option zV → zH → Prop} (hΦ : Φ (some (vI (nmF (h (t + 1)) (r 5).toNat ((r 6).toNat - (r 5).toNat)))) (reT h t r)) : ∀ (n j : Nat), j + n = (r 6).toNat - (r 5).toNat → Rr l G 0 mX1_numberOfToken Φ 7 [some (vR t), some (vI (nmF (h (t + 1)) (r 5).toNat j)), some (vI (((r 5).toNat + j : Nat) : Int))] [] (reT h t r) := by
  obtain ⟨⟨n0, n1⟩, ⟨s0, s1⟩, r0, l1⟩ := ly
  obtain ⟨w1, w2, w3, w4⟩ := w
  intro n
  induction n with
  | zero =>
    intro j hj
    refine r_iload_n 8 dX1_numberOfToken_7 rfl rfl ?_
    refine r_aload_n 9 dX1_numberOfToken_8 rfl rfl ?_
    refine r_getI 12 dX1_numberOfToken_9 rfl kf_1_30 rfl (by first | assumption | omega) (by assumption) ?_
    rotate_left -- leaf: pc 12
    rw [reT_s]
    refine r_icmp_ge 36 15 dX1_numberOfToken_12 (by decide) rfl (fun c_12 => ?_) (fun c_12 => ?_)
    refine r_iload_n 37 dX1_numberOfToken_36 rfl rfl ?_
    refine r_iret dX1_numberOfToken_37 rfl ?_
    rotate_left -- leaf: return at pc 37
    rotate_left -- leaf: pc 15
    · rw [show j = (r 6).toNat - (r 5).toNat by omega]
      exact hΦ
    · omega
  | succ n ih =>
    intro j hj
    have ih := ih (j + 1) (by omega)
    refine r_iload_n 8 dX1_numberOfToken_7 rfl rfl ?_
    refine r_aload_n 9 dX1_numberOfToken_8 rfl rfl ?_
    refine r_getI 12 dX1_numberOfToken_9 rfl kf_1_30 rfl (by first | assumption | omega) (by assumption) ?_
    rotate_left -- leaf: pc 12
    rw [reT_s]
    refine r_icmp_ge 36 15 dX1_numberOfToken_12 (by decide) rfl (fun c_12 => ?_) (fun c_12 => ?_)
    rotate_left -- leaf: pc 36
    refine r_bipush 17 dX1_numberOfToken_15 rfl rfl (by decide) ?_
    refine r_iload_n 18 dX1_numberOfToken_17 rfl rfl ?_
    rotate_left -- leaf: pc 18
    · omega
    refine r_imul 19 dX1_numberOfToken_18 rfl rfl ?_
    refine r_aload_n 20 dX1_numberOfToken_19 rfl rfl ?_
    refine r_getR 23 dX1_numberOfToken_20 rfl kf_1_11 rfl (by first | assumption | omega) (by assumption) (by assumption) ?_
    refine r_iload_n 24 dX1_numberOfToken_23 rfl rfl ?_
    first | refine r_bald 25 dX1_numberOfToken_24 rfl (by first | assumption | omega) (by assumption) (by first | omega | (simp only [Int.toNat_natCast]; omega)) (by first | omega | (simp only [Int.toNat_natCast]; omega)) ?_ | refine r_zald 25 dX1_numberOfToken_24 rfl (by first | assumption | omega) (by assumption) (by first | omega | (simp only [Int.toNat_natCast]; omega)) (by first | omega | (simp only [Int.toNat_natCast]; omega)) ?_
    rotate_left -- leaf: pc 25
    rw [Int.toNat_natCast, reT_n (by omega)]
    refine r_iadd 26 dX1_numberOfToken_25 rfl rfl ?_
    refine r_bipush 28 dX1_numberOfToken_26 rfl rfl (by decide) ?_
    rotate_left -- leaf: pc 28
    refine r_isub 29 dX1_numberOfToken_28 rfl rfl ?_
    refine r_istore_n 30 dX1_numberOfToken_29 rfl rfl rfl ?_
    refine r_iinc 33 _ dX1_numberOfToken_30 rfl rfl rfl rfl (by first | exact w32_id (by omega) (by omega) | rfl) ?_
    refine r_goto 7 dX1_numberOfToken_33 (by decide) ?_
    rotate_left -- leaf: pc 7
    exact ih
theorem c_numberOf (ly : LTp G t) (w : wR r (h (t + 1))) (hle : r 5 ≤ r 6) : Ca l G 0 mX1_numberOfToken [vR t] (reT h t r) (fun r' h' => r' = some (vI (nmF (h (t + 1)) (r 5).toNat ((r 6).toNat - (r 5).toNat))) ∧ h' = reT h t r) := by
  have ly0 := ly
  have w0 := w
  obtain ⟨⟨n0, n1⟩, ⟨s0, s1⟩, r0, l1⟩ := ly
  obtain ⟨w1, w2, w3, w4⟩ := w
  refine Ca.of (by decide) (Nat.le_of_ble_eq_true rfl) (fun hI hv hH => ?_)
  refine r_iconst 1 dX1_numberOfToken_0 rfl rfl ?_
  refine r_istore_n 2 dX1_numberOfToken_1 rfl rfl rfl ?_
  refine r_aload_n 3 dX1_numberOfToken_2 rfl rfl ?_
  refine r_getI 6 dX1_numberOfToken_3 rfl kf_1_65 rfl (by first | assumption | omega) (by assumption) ?_
  rotate_left -- leaf: pc 6
  rw [reT_s]
  refine r_istore_n 7 dX1_numberOfToken_6 rfl rfl rfl ?_
  rotate_left -- leaf: pc 7
  have := l_numberOf (l := l) ly0 w0 hle (Φ := fun r' h' => r' = some (vI (nmF (h (t + 1)) (r 5).toNat ((r 6).toNat - (r 5).toNat))) ∧ h' = reT h t r) ⟨rfl, rfl⟩ ((r 6).toNat - (r 5).toNat) 0 (by omega)
  rw [show ((((r 5).toNat + 0 : Nat)) : Int) = r 5 by omega] at this
  exact this
def nPl (r by_ : Nat → Int) : Nat := bhd blB by_ ((r 1).toNat - (r 6).toNat) (r 6).toNat
def nTk (r by_ : Nat → Int) : Int := if by_ (nPl r by_) = 59 then 3 else if leB (by_ (nPl r by_)) = true then 1 else if fiB (by_ (nPl r by_)) = true then 2 else r 4
def nEn (r by_ : Nat → Int) : Nat := if by_ (nPl r by_) = 59 then nPl r by_ + 1 else if leB (by_ (nPl r by_)) = true then bhd leB by_ ((r 1).toNat - nPl r by_) (nPl r by_) else if fiB (by_ (nPl r by_)) = true then bhd fiB by_ ((r 1).toNat - nPl r by_) (nPl r by_) else nPl r by_
def nNu (r by_ : Nat → Int) : Int := if by_ (nPl r by_) = 59 then r 7 else if leB (by_ (nPl r by_)) = true then r 7 else if fiB (by_ (nPl r by_)) = true then nmF by_ (nPl r by_) (nEn r by_ - nPl r by_) else r 7
def nBd (r by_ : Nat → Int) : Bool := decide (nEn r by_ = nPl r by_ ∨ (nTk r by_ = 2 ∧ nPl r by_ + 2 < nEn r by_))
def nxR (r by_ : Nat → Int) : Nat → Int := if (r 1).toNat ≤ nPl r by_ then up1 (up1 (up1 r 5 (nPl r by_)) 6 (nPl r by_)) 4 0 else fun b => if b = 2 then (if nBd r by_ = true then 1 else r 2) else if b = 3 then (if nBd r by_ = true then (nPl r by_ : Int) else r 3) else if b = 4 then nTk r by_ else if b = 5 then (nPl r by_ : Int) else if b = 6 then (nEn r by_ : Int) else if b = 7 then nNu r by_ else r b
theorem nPl_in {r by_ : Nat → Int} (h1 : 0 ≤ r 1 ∧ r 1 ≤ 160) (h6 : 0 ≤ r 6 ∧ r 6 ≤ 160) : (r 6).toNat ≤ nPl r by_ ∧ nPl r by_ ≤ 160 := by
  have := bhd_in blB by_ ((r 1).toNat - (r 6).toNat) (r 6).toNat
  unfold nPl
  omega
theorem c_next (ly : LTp G t) (w : wR r (h (t + 1))) : Ca l G 2 mX1_next [vR t] (reT h t r) (fun r' h' => r' = none ∧ h' = reT h t (nxR r (h (t + 1)))) := by
  have ly0 := ly
  have w0 := w
  obtain ⟨⟨n0, n1⟩, ⟨s0, s1⟩, r0, l1⟩ := ly
  obtain ⟨w1, w2, w3, w4⟩ := w
  have hpl := nPl_in (by_ := h (t + 1)) w1 w3
  refine Ca.of (by decide) (Nat.le_of_ble_eq_true rfl) (fun hI hv hH => ?_)
  refine r_aload_n 1 dX1_next_0 rfl rfl ?_
  refine r_aload_n 2 dX1_next_1 rfl rfl ?_
  refine r_aload_n 3 dX1_next_2 rfl rfl ?_
  refine r_getI 6 dX1_next_3 rfl kf_1_30 rfl (by first | assumption | omega) (by assumption) ?_
  rotate_left -- leaf: pc 6
  rw [reT_s, show r 6 = (((r 6).toNat : Nat) : Int) by omega]
  refine r_cv1 9 dX1_next_6 rfl kv_1_125 (by first | assumption | omega) (by assumption) rfl rfl (c_behindBlanks ly0 w0 (r 6).toNat (by omega)) ?_
  rintro r1 h' ⟨rfl, rfl⟩
  have epl : bhd blB (h (t + 1)) ((r 1).toNat - (r 6).toNat) (r 6).toNat = nPl r (h (t + 1)) := rfl
  rw [epl]
  obtain ⟨pl, hpd⟩ : ∃ pl, pl = nPl r (h (t + 1)) := ⟨_, rfl⟩
  rw [← hpd] at hpl ⊢
  refine r_putI 12 dX1_next_9 rfl kf_1_65 rfl rfl (Or.inl rfl) (by first | assumption | omega) (by assumption) ?_
  refine r_aload_n 13 dX1_next_12 rfl rfl ?_
  refine r_aload_n 14 dX1_next_13 rfl rfl ?_
  refine r_getI 17 dX1_next_14 rfl kf_1_65 rfl (by first | assumption | omega) (by assumption) ?_
  rotate_left -- leaf: pc 17
  rw [reT_up, reT_s, up1_s]
  refine r_putI 20 dX1_next_17 rfl kf_1_30 rfl rfl (Or.inl rfl) (by first | assumption | omega) (by assumption) ?_
  refine r_aload_n 21 dX1_next_20 rfl rfl ?_
  refine r_getI 24 dX1_next_21 rfl kf_1_65 rfl (by first | assumption | omega) (by assumption) ?_
  rotate_left -- leaf: pc 24
  rw [reT_up, reT_s, up1_n (by decide), up1_s]
  refine r_aload_n 25 dX1_next_24 rfl rfl ?_
  refine r_getI 28 dX1_next_25 rfl kf_1_15 rfl (by first | assumption | omega) (by assumption) ?_
  rotate_left -- leaf: pc 28
  rw [reT_s, up1_n (by decide), up1_n (by decide)]
  obtain ⟨r2, hr2⟩ : ∃ r2, r2 = up1 (up1 r 5 pl) 6 pl := ⟨_, rfl⟩
  rw [← hr2]
  have e1 : r2 1 = r 1 := by rw [hr2, up1_n (by decide), up1_n (by decide)]
  have e5 : r2 5 = pl := by rw [hr2, up1_n (by decide), up1_s]
  have e6 : r2 6 = pl := by rw [hr2, up1_s]
  have J130 : ∀ (tk nu : Int) (en : Nat) (x1 : Int), en ≤ 161 → pl ≤ en → tk = nTk r (h (t + 1)) → en = nEn r (h (t + 1)) → nu = nNu r (h (t + 1)) → ¬ (r 1).toNat ≤ pl → Rr l G 2 mX1_next (fun r' h' => r' = none ∧ h' = reT h t (nxR r (h (t + 1)))) 130 [some (vR t), some (vI x1), none] [] (reT h t (up1 (up1 (up1 r2 4 tk) 6 en) 7 nu)) := by
    intro tk nu en x1 h161 hpe htk hen hnu hlt
    have f5 : up1 (up1 (up1 r2 4 tk) 6 en) 7 nu 5 = pl := by rw [up1_n (by decide), up1_n (by decide), up1_n (by decide), e5]
    have f6 : up1 (up1 (up1 r2 4 tk) 6 en) 7 nu 6 = en := by rw [up1_n (by decide), up1_s]
    have f4 : up1 (up1 (up1 r2 4 tk) 6 en) 7 nu 4 = tk := by rw [up1_n (by decide), up1_n (by decide), up1_s]
    have good : nBd r (h (t + 1)) = false → reT h t (up1 (up1 (up1 r2 4 tk) 6 en) 7 nu) = reT h t (nxR r (h (t + 1))) := by
      intro hb
      congr 1
      funext b
      simp only [nxR, ← hpd, if_neg hlt, hb, ← htk, ← hen, ← hnu, up1, hr2]
      by_cases b2 : b = 2
      · subst b2; simp
      by_cases b3 : b = 3
      · subst b3; simp
      by_cases b4 : b = 4
      · subst b4; simp
      by_cases b5 : b = 5
      · subst b5; simp
      by_cases b6 : b = 6
      · subst b6; simp
      by_cases b7 : b = 7
      · subst b7; simp
      · simp [b2, b3, b4, b5, b6, b7]
    have bad : nBd r (h (t + 1)) = true → Rr l G 2 mX1_next (fun r' h' => r' = none ∧ h' = reT h t (nxR r (h (t + 1)))) 172 [some (vR t), some (vI x1), some (vI (z01 (en = pl)))] [] (reT h t (up1 (up1 (up1 r2 4 tk) 6 en) 7 nu)) := by
      intro hb
      refine r_aload_n 173 dX1_next_172 rfl rfl ?_
      refine r_iconst 174 dX1_next_173 rfl rfl ?_
      refine r_aload_n 175 dX1_next_174 rfl rfl ?_
      refine r_getI 178 dX1_next_175 rfl kf_1_65 rfl (by first | assumption | omega) (by assumption) ?_
      rotate_left -- leaf: pc 178
      rw [reT_s, f5]
      refine r_cv2 181 dX1_next_178 rfl kv_1_57 (by first | assumption | omega) (by assumption) rfl rfl (c_fail ly0 1 pl) ?_
      rintro r1 h' ⟨rfl, rfl⟩
      refine r_ret dX1_next_181 rfl ?_
      rotate_left -- leaf: return at pc 181
      refine ⟨rfl, ?_⟩
      rw [reT_up, reT_up]
      congr 1
      funext b
      simp only [nxR, ← hpd, if_neg hlt, hb, ← htk, ← hen, ← hnu, up1, hr2]
      by_cases b2 : b = 2
      · subst b2; simp
      by_cases b3 : b = 3
      · subst b3; simp
      by_cases b4 : b = 4
      · subst b4; simp
      by_cases b5 : b = 5
      · subst b5; simp
      by_cases b6 : b = 6
      · subst b6; simp
      by_cases b7 : b = 7
      · subst b7; simp
      · simp [b2, b3, b4, b5, b6, b7]
    have J146 : Rr l G 2 mX1_next (fun r' h' => r' = none ∧ h' = reT h t (nxR r (h (t + 1)))) 146 [some (vR t), some (vI x1), none] [vI (z01 (en = pl))] (reT h t (up1 (up1 (up1 r2 4 tk) 6 en) 7 nu)) := by
      refine r_istore_n 147 dX1_next_146 rfl rfl rfl ?_
      refine r_iload_n 148 dX1_next_147 rfl rfl ?_
      refine r_if_ne 172 151 dX1_next_148 (by decide) rfl (fun c_148 => ?_) (fun c_148 => ?_)
      rotate_left -- leaf: pc 172
      refine r_aload_n 152 dX1_next_151 rfl rfl ?_
      refine r_getI 155 dX1_next_152 rfl kf_1_47 rfl (by first | assumption | omega) (by assumption) ?_
      rotate_left -- leaf: pc 155
      · refine bad ?_
        have := z01_y.mp c_148
        simp only [nBd, ← hpd, ← htk, ← hen]
        simp [this]
      · have hne := z01_n.mp c_148
        rw [reT_s, f4]
        refine r_iconst 156 dX1_next_155 rfl rfl ?_
        refine r_icmp_ne 181 159 dX1_next_156 (by decide) rfl (fun c_156 => ?_) (fun c_156 => ?_)
        rotate_left -- leaf: pc 181
        refine r_aload_n 160 dX1_next_159 rfl rfl ?_
        refine r_getI 163 dX1_next_160 rfl kf_1_30 rfl (by first | assumption | omega) (by assumption) ?_
        rotate_left -- leaf: pc 163
        · refine r_ret dX1_next_181 rfl ?_
          rotate_left -- leaf: return at pc 181
          refine ⟨rfl, good ?_⟩
          simp only [nBd, ← hpd, ← htk, ← hen]
          simp [hne, c_156]
        · rw [reT_s, f6]
          refine r_aload_n 164 dX1_next_163 rfl rfl ?_
          refine r_getI 167 dX1_next_164 rfl kf_1_65 rfl (by first | assumption | omega) (by assumption) ?_
          rotate_left -- leaf: pc 167
          rw [reT_s, f5]
          refine r_isub 168 dX1_next_167 rfl (by first | exact w32_id (by omega) (by omega) | rfl) ?_
          refine r_iconst 169 dX1_next_168 rfl rfl ?_
          refine r_icmp_le 181 172 dX1_next_169 (by decide) rfl (fun c_169 => ?_) (fun c_169 => ?_)
          rotate_left -- leaf: pc 181
          rotate_left -- leaf: pc 172
          · refine r_ret dX1_next_181 rfl ?_
            rotate_left -- leaf: return at pc 181
            refine ⟨rfl, good ?_⟩
            simp only [nBd, ← hpd, ← htk, ← hen]
            simp [hne]
            omega
          · refine bad ?_
            simp only [nBd, ← hpd, ← htk, ← hen]
            simp [c_156]
            omega
    refine r_aload_n 131 dX1_next_130 rfl rfl ?_
    refine r_getI 134 dX1_next_131 rfl kf_1_30 rfl (by first | assumption | omega) (by assumption) ?_
    rotate_left -- leaf: pc 134
    rw [reT_s, f6]
    refine r_aload_n 135 dX1_next_134 rfl rfl ?_
    refine r_getI 138 dX1_next_135 rfl kf_1_65 rfl (by first | assumption | omega) (by assumption) ?_
    rotate_left -- leaf: pc 138
    rw [reT_s, f5]
    refine r_icmp_ne 145 141 dX1_next_138 (by decide) rfl (fun c_138 => ?_) (fun c_138 => ?_)
    refine r_iconst 146 dX1_next_145 rfl rfl ?_
    rotate_left -- leaf: pc 146
    refine r_iconst 142 dX1_next_141 rfl rfl ?_
    refine r_goto 146 dX1_next_142 (by decide) ?_
    rotate_left -- leaf: pc 146
    · have := J146
      rw [z01_f (by omega)] at this
      exact this
    · have := J146
      rw [z01_t (by omega)] at this
      exact this
  refine r_icmp_lt 37 31 dX1_next_28 (by decide) rfl (fun c_28 => ?_) (fun c_28 => ?_)
  rotate_left -- leaf: pc 37
  refine r_aload_n 32 dX1_next_31 rfl rfl ?_
  refine r_iconst 33 dX1_next_32 rfl rfl ?_
  refine r_putI 36 dX1_next_33 rfl kf_1_47 rfl rfl (Or.inl rfl) (by first | assumption | omega) (by assumption) ?_
  refine r_ret dX1_next_36 rfl ?_
  rotate_left -- leaf: return at pc 36
  · have hlt : ¬ (r 1).toNat ≤ pl := by omega
    refine r_aload_n 38 dX1_next_37 rfl rfl ?_
    refine r_getR 41 dX1_next_38 rfl kf_1_11 rfl (by first | assumption | omega) (by assumption) (by assumption) ?_
    refine r_aload_n 42 dX1_next_41 rfl rfl ?_
    refine r_getI 45 dX1_next_42 rfl kf_1_65 rfl (by first | assumption | omega) (by assumption) ?_
    rotate_left -- leaf: pc 45
    rw [reT_s, e5]
    first | refine r_bald 46 dX1_next_45 rfl (by first | assumption | omega) (by assumption) (by first | omega | (simp only [Int.toNat_natCast]; omega)) (by first | omega | (simp only [Int.toNat_natCast]; omega)) ?_ | refine r_zald 46 dX1_next_45 rfl (by first | assumption | omega) (by assumption) (by first | omega | (simp only [Int.toNat_natCast]; omega)) (by first | omega | (simp only [Int.toNat_natCast]; omega)) ?_
    rotate_left -- leaf: pc 46
    rw [Int.toNat_natCast, reT_n (by omega)]
    have hc := w4 pl
    refine r_istore_n 47 dX1_next_46 rfl rfl rfl ?_
    refine r_iload_n 48 dX1_next_47 rfl rfl ?_
    refine r_bipush 50 dX1_next_48 rfl rfl (by decide) ?_
    refine r_icmp_ne 71 53 dX1_next_50 (by decide) rfl (fun c_50 => ?_) (fun c_50 => ?_)
    rotate_left -- leaf: pc 71
    rotate_left -- leaf: pc 53
    · -- no ';'
      refine r_iload_n 72 dX1_next_71 rfl rfl ?_
      rotate_left -- leaf: call at pc 72
      refine r_cs1 75 dX1_next_72 rfl ks_1_129 rfl rfl (c_isLetter (h (t + 1) pl)) ?_
      rintro r1 h' ⟨rfl, rfl⟩
      refine r_if_eq 98 78 dX1_next_75 (by decide) rfl (fun c_75 => ?_) (fun c_75 => ?_)
      rotate_left -- leaf: pc 98
      rotate_left -- leaf: pc 78
      · have hnl := z01_n.mp c_75
        refine r_iload_n 99 dX1_next_98 rfl rfl ?_
        rotate_left -- leaf: call at pc 99
        refine r_cs1 102 dX1_next_99 rfl ks_1_135 rfl rfl (c_isFigure (h (t + 1) pl)) ?_
        rintro r1 h' ⟨rfl, rfl⟩
        refine r_if_eq 130 105 dX1_next_102 (by decide) rfl (fun c_102 => ?_) (fun c_102 => ?_)
        rotate_left -- leaf: pc 130
        rotate_left -- leaf: pc 105
        · have hnf := z01_n.mp c_102
          have := J130 (r2 4) (r2 7) pl (h (t + 1) pl) (by omega) (Nat.le_refl _) (by simp [nTk, ← hpd, c_50, hnl, hnf, hr2, up1]) (by simp [nEn, ← hpd, c_50, hnl, hnf]) (by simp [nNu, ← hpd, c_50, hnl, hnf, hr2, up1]) hlt
          have ee : up1 (up1 (up1 r2 4 (r2 4)) 6 pl) 7 (r2 7) = r2 := by
            funext b
            by_cases b4 : b = 4
            · subst b4; simp [up1]
            by_cases b6 : b = 6
            · subst b6; simp [up1, e6]
            by_cases b7 : b = 7
            · subst b7; simp [up1]
            · simp [up1, b4, b6, b7]
          rw [ee] at this
          exact this
        · have hf := z01_y.mp c_102
          refine r_aload_n 106 dX1_next_105 rfl rfl ?_
          refine r_iconst 107 dX1_next_106 rfl rfl ?_
          refine r_putI 110 dX1_next_107 rfl kf_1_47 rfl rfl (Or.inl rfl) (by first | assumption | omega) (by assumption) ?_
          refine r_aload_n 111 dX1_next_110 rfl rfl ?_
          refine r_aload_n 112 dX1_next_111 rfl rfl ?_
          refine r_aload_n 113 dX1_next_112 rfl rfl ?_
          refine r_getI 116 dX1_next_113 rfl kf_1_65 rfl (by first | assumption | omega) (by assumption) ?_
          rotate_left -- leaf: pc 116
          rw [reT_up, reT_s, up1_n (by decide), e5]
          have wr3 : wR (up1 r2 4 2) (h (t + 1)) := by
            refine ⟨by rw [up1_n (by decide), e1]; exact w1, by rw [up1_n (by decide), e5]; omega, by rw [up1_n (by decide), e6]; omega, w4⟩
          refine r_cv1 119 dX1_next_116 rfl kv_1_138 (by first | assumption | omega) (by assumption) rfl rfl (c_behindFigures ly0 wr3 pl (by omega)) ?_
          rintro r1 h' ⟨rfl, rfl⟩
          rw [up1_n (by decide), e1]
          have hbi := bhd_in fiB (h (t + 1)) ((r 1).toNat - pl) pl
          obtain ⟨en, hen⟩ : ∃ en, en = bhd fiB (h (t + 1)) ((r 1).toNat - pl) pl := ⟨_, rfl⟩
          rw [← hen] at hbi ⊢
          have wr4 : wR (up1 (up1 r2 4 2) 6 en) (h (t + 1)) := by
            refine ⟨by rw [up1_n (by decide), up1_n (by decide), e1]; exact w1, by rw [up1_n (by decide), up1_n (by decide), e5]; omega, by rw [up1_s]; omega, w4⟩
          have q5 : up1 (up1 r2 4 2) 6 en 5 = pl := by rw [up1_n (by decide), up1_n (by decide), e5]
          have q6 : up1 (up1 r2 4 2) 6 en 6 = en := by rw [up1_s]
          refine r_putI 122 dX1_next_119 rfl kf_1_30 rfl rfl (Or.inl rfl) (by first | assumption | omega) (by assumption) ?_
          refine r_aload_n 123 dX1_next_122 rfl rfl ?_
          refine r_aload_n 124 dX1_next_123 rfl rfl ?_
          rotate_left -- leaf: call at pc 124
          rw [reT_up]
          refine r_cv0 127 dX1_next_124 rfl kv_1_141 (by first | assumption | omega) (by assumption) rfl rfl (c_numberOf ly0 wr4 (by rw [q5, q6]; omega)) ?_
          rintro r1 h' ⟨rfl, rfl⟩
          rw [q5, q6, Int.toNat_natCast, Int.toNat_natCast]
          refine r_putI 130 dX1_next_127 rfl kf_1_101 rfl rfl (Or.inl rfl) (by first | assumption | omega) (by assumption) ?_
          rotate_left -- leaf: pc 130
          rw [reT_up]
          have hE : en = nEn r (h (t + 1)) := by simp [nEn, ← hpd, c_50, hnl, hf, hen]
          exact J130 2 _ en _ (by omega) (by omega) (by simp [nTk, ← hpd, c_50, hnl, hf]) hE (by simp [nNu, ← hpd, c_50, hnl, hf, ← hE]) hlt
      · have hl := z01_y.mp c_75
        refine r_aload_n 79 dX1_next_78 rfl rfl ?_
        refine r_iconst 80 dX1_next_79 rfl rfl ?_
        refine r_putI 83 dX1_next_80 rfl kf_1_47 rfl rfl (Or.inl rfl) (by first | assumption | omega) (by assumption) ?_
        refine r_aload_n 84 dX1_next_83 rfl rfl ?_
        refine r_aload_n 85 dX1_next_84 rfl rfl ?_
        refine r_aload_n 86 dX1_next_85 rfl rfl ?_
        refine r_getI 89 dX1_next_86 rfl kf_1_65 rfl (by first | assumption | omega) (by assumption) ?_
        rotate_left -- leaf: pc 89
        rw [reT_up, reT_s, up1_n (by decide), e5]
        have wr3 : wR (up1 r2 4 1) (h (t + 1)) := by
          refine ⟨by rw [up1_n (by decide), e1]; exact w1, by rw [up1_n (by decide), e5]; omega, by rw [up1_n (by decide), e6]; omega, w4⟩
        refine r_cv1 92 dX1_next_89 rfl kv_1_132 (by first | assumption | omega) (by assumption) rfl rfl (c_behindLetters ly0 wr3 pl (by omega)) ?_
        rintro r1 h' ⟨rfl, rfl⟩
        rw [up1_n (by decide), e1]
        have hbi := bhd_in leB (h (t + 1)) ((r 1).toNat - pl) pl
        obtain ⟨en, hen⟩ : ∃ en, en = bhd leB (h (t + 1)) ((r 1).toNat - pl) pl := ⟨_, rfl⟩
        rw [← hen] at hbi ⊢
        refine r_putI 95 dX1_next_92 rfl kf_1_30 rfl rfl (Or.inl rfl) (by first | assumption | omega) (by assumption) ?_
        refine r_goto 130 dX1_next_95 (by decide) ?_
        rotate_left -- leaf: pc 130
        rw [reT_up]
        have := J130 1 (r2 7) en (h (t + 1) pl) (by omega) (by omega) (by simp [nTk, ← hpd, c_50, hl]) (by simp [nEn, ← hpd, c_50, hl, hen]) (by simp [nNu, ← hpd, c_50, hl, hr2, up1]) hlt
        have ee : up1 (up1 (up1 r2 4 1) 6 en) 7 (r2 7) = up1 (up1 r2 4 1) 6 en := by
          funext b
          by_cases b7 : b = 7
          · subst b7; simp [up1]
          · simp [up1, b7]
        rw [ee] at this
        exact this
    · refine r_aload_n 54 dX1_next_53 rfl rfl ?_
      refine r_iconst 55 dX1_next_54 rfl rfl ?_
      refine r_putI 58 dX1_next_55 rfl kf_1_47 rfl rfl (Or.inl rfl) (by first | assumption | omega) (by assumption) ?_
      refine r_aload_n 59 dX1_next_58 rfl rfl ?_
      refine r_aload_n 60 dX1_next_59 rfl rfl ?_
      refine r_getI 63 dX1_next_60 rfl kf_1_65 rfl (by first | assumption | omega) (by assumption) ?_
      rotate_left -- leaf: pc 63
      rw [reT_up, reT_s, up1_n (by decide), e5]
      refine r_iconst 64 dX1_next_63 rfl rfl ?_
      refine r_iadd 65 dX1_next_64 rfl (by first | exact w32_id (by omega) (by omega) | rfl) ?_
      refine r_putI 68 dX1_next_65 rfl kf_1_30 rfl rfl (Or.inl rfl) (by first | assumption | omega) (by assumption) ?_
      refine r_goto 130 dX1_next_68 (by decide) ?_
      rotate_left -- leaf: pc 130
      rw [reT_up]
      have := J130 3 (r2 7) (pl + 1) (h (t + 1) pl) (by omega) (by omega) (by simp [nTk, ← hpd, c_50]) (by simp [nEn, ← hpd, c_50]) (by simp [nNu, ← hpd, c_50, hr2, up1]) hlt
      have ee : up1 (up1 (up1 r2 4 3) 6 ((pl + 1 : Nat) : Int)) 7 (r2 7) = up1 (up1 r2 4 3) 6 ((pl : Int) + 1) := by
        funext b
        by_cases b7 : b = 7
        · subst b7; simp [up1]
        · simp [up1, b7]
      rw [ee] at this
      exact this
  · refine ⟨rfl, ?_⟩
    rw [reT_up]
    congr 1
    unfold nxR
    rw [← hpd, if_pos (by omega), hr2]
end TP
