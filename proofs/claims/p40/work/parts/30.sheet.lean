/-! SunPointer$Sheet: k the object, k + 1 its cells -/
def LSh (G : zG) (k : Nat) : Prop := (k < gN G ∧ k + 1 < gN G) ∧ (gs G k = 5 ∧ gs G (k + 1) = 0) ∧ gr G k 0 = k + 1 ∧ gl G (k + 1) = 40
def rfuF (lane size asl i : Int) : Int := if lane = -1 then 1 else if ¬ lane = asl then 3 else if i < 0 ∨ size ≤ i then 2 else 0
def narF (lane v : Int) : Int := if lane = 0 then (Int32.ofInt v).toInt8.toInt else if lane = 1 then (Int32.ofInt v).toInt16.toInt else v
theorem rfuF_in (lane size asl i : Int) : 0 ≤ rfuF lane size asl i ∧ rfuF lane size asl i ≤ 3 := by
  unfold rfuF
  split
  · omega
  · split
    · omega
    · split <;> omega
section SH
variable {l : Launch} {G : zG} {h : zH} {k : Nat}
theorem c_refusal (ly : LSh G k) (asl i : Int) : Ca l G 0 mX0_refusal [vR k, vI asl, vI i] h (fun r h' => r = some (vI (rfuF (h k 1) (h k 2) asl i)) ∧ h' = h) := by
  obtain ⟨⟨n0, n1⟩, ⟨s0, s1⟩, r0, l1⟩ := ly
  refine Ca.of (by decide) (Nat.le_of_ble_eq_true rfl) (fun hI hv hH => ?_)
  refine r_aload_n 1 dX0_refusal_0 rfl rfl ?_
  refine r_getI 4 dX0_refusal_1 rfl kf_0_15 rfl (by first | assumption | omega) (by assumption) ?_
  refine r_iconst 5 dX0_refusal_4 rfl rfl ?_
  refine r_icmp_ne 10 8 dX0_refusal_5 (by decide) rfl (fun c_5 => ?_) (fun c_5 => ?_)
  refine r_aload_n 11 dX0_refusal_10 rfl rfl ?_
  refine r_getI 14 dX0_refusal_11 rfl kf_0_15 rfl (by first | assumption | omega) (by assumption) ?_
  refine r_iload_n 15 dX0_refusal_14 rfl rfl ?_
  refine r_icmp_eq 20 18 dX0_refusal_15 (by decide) rfl (fun c_15 => ?_) (fun c_15 => ?_)
  refine r_iload_n 21 dX0_refusal_20 rfl rfl ?_
  refine r_if_lt 32 24 dX0_refusal_21 (by decide) rfl (fun c_21 => ?_) (fun c_21 => ?_)
  refine r_iconst 33 dX0_refusal_32 rfl rfl ?_
  refine r_goto 37 dX0_refusal_33 (by decide) ?_
  refine r_iret dX0_refusal_37 rfl ?_
  rotate_left -- leaf: return at pc 37
  refine r_iload_n 25 dX0_refusal_24 rfl rfl ?_
  refine r_aload_n 26 dX0_refusal_25 rfl rfl ?_
  refine r_getI 29 dX0_refusal_26 rfl kf_0_19 rfl (by first | assumption | omega) (by assumption) ?_
  refine r_icmp_lt 36 32 dX0_refusal_29 (by decide) rfl (fun c_29 => ?_) (fun c_29 => ?_)
  refine r_iconst 37 dX0_refusal_36 rfl rfl ?_
  refine r_iret dX0_refusal_37 rfl ?_
  rotate_left -- leaf: return at pc 37
  refine r_iconst 33 dX0_refusal_32 rfl rfl ?_
  refine r_goto 37 dX0_refusal_33 (by decide) ?_
  refine r_iret dX0_refusal_37 rfl ?_
  rotate_left -- leaf: return at pc 37
  refine r_iconst 19 dX0_refusal_18 rfl rfl ?_
  refine r_iret dX0_refusal_19 rfl ?_
  rotate_left -- leaf: return at pc 19
  refine r_iconst 9 dX0_refusal_8 rfl rfl ?_
  refine r_iret dX0_refusal_9 rfl ?_
  rotate_left -- leaf: return at pc 9
  all_goals refine ⟨?_, rfl⟩
  all_goals unfold rfuF
  · rw [if_neg c_5, if_neg (fun q => q c_15), if_pos (Or.inl c_21)]
  · rw [if_neg c_5, if_neg (fun q => q c_15), if_neg (by omega)]
  · rw [if_neg c_5, if_neg (fun q => q c_15), if_pos (Or.inr c_29)]
  · rw [if_neg c_5, if_pos c_15]
  · rw [if_pos c_5]
theorem c_refusalOfPair (ly : LSh G k) (asl i : Int) : Ca l G 1 mX0_refusalOfPair [vR k, vI asl, vI i] h (fun r h' => r = some (vI (if ¬ rfuF (h k 1) (h k 2) asl i = 0 then rfuF (h k 1) (h k 2) asl i else rfuF (h k 1) (h k 2) asl (w32 (i + 1)))) ∧ h' = h) := by
  have ly0 := ly
  obtain ⟨⟨n0, n1⟩, ⟨s0, s1⟩, r0, l1⟩ := ly
  refine Ca.of (by decide) (Nat.le_of_ble_eq_true rfl) (fun hI hv hH => ?_)
  refine r_aload_n 1 dX0_refusalOfPair_0 rfl rfl ?_
  refine r_iload_n 2 dX0_refusalOfPair_1 rfl rfl ?_
  refine r_iload_n 3 dX0_refusalOfPair_2 rfl rfl ?_
  rotate_left -- leaf: call at pc 3
  refine r_cv2 6 dX0_refusalOfPair_3 rfl kv_0_22 (by first | assumption | omega) (by assumption) rfl rfl (c_refusal ly0 asl i) ?_
  rintro r h' ⟨rfl, rfl⟩
  refine r_istore_n 7 dX0_refusalOfPair_6 rfl rfl rfl ?_
  refine r_iload_n 8 dX0_refusalOfPair_7 rfl rfl ?_
  refine r_if_eq 15 11 dX0_refusalOfPair_8 (by decide) rfl (fun c_8 => ?_) (fun c_8 => ?_)
  refine r_aload_n 16 dX0_refusalOfPair_15 rfl rfl ?_
  refine r_iload_n 17 dX0_refusalOfPair_16 rfl rfl ?_
  refine r_iload_n 18 dX0_refusalOfPair_17 rfl rfl ?_
  refine r_iconst 19 dX0_refusalOfPair_18 rfl rfl ?_
  rotate_left -- leaf: pc 19
  refine r_iload_n 12 dX0_refusalOfPair_11 rfl rfl ?_
  refine r_goto 23 dX0_refusalOfPair_12 (by decide) ?_
  refine r_iret dX0_refusalOfPair_23 rfl ?_
  rotate_left -- leaf: return at pc 23
  · refine r_iadd 20 dX0_refusalOfPair_19 rfl rfl ?_
    refine r_cv2 23 dX0_refusalOfPair_20 rfl kv_0_22 (by first | assumption | omega) (by assumption) rfl rfl (c_refusal ly0 asl _) ?_
    rintro r h'' ⟨rfl, rfl⟩
    refine r_iret dX0_refusalOfPair_23 rfl ?_
    rotate_left -- leaf: return at pc 23
    exact ⟨by rw [if_neg (fun q => q c_8)], rfl⟩
  · exact ⟨by rw [if_pos c_8], rfl⟩
theorem c_put (ly : LSh G k) (i : Nat) (hi : i < 40) (v : Int) : Ca l G 0 mX0_put [vR k, vI i, vI v] h (fun r h' => r = none ∧ h' = up h (k + 1) i (narF (h k 1) v)) := by
  obtain ⟨⟨n0, n1⟩, ⟨s0, s1⟩, r0, l1⟩ := ly
  refine Ca.of (by decide) (Nat.le_of_ble_eq_true rfl) (fun hI hv hH => ?_)
  refine r_aload_n 1 dX0_put_0 rfl rfl ?_
  refine r_getI 4 dX0_put_1 rfl kf_0_15 rfl (by first | assumption | omega) (by assumption) ?_
  refine r_if_ne 18 7 dX0_put_4 (by decide) rfl (fun c_4 => ?_) (fun c_4 => ?_)
  refine r_aload_n 19 dX0_put_18 rfl rfl ?_
  refine r_getI 22 dX0_put_19 rfl kf_0_15 rfl (by first | assumption | omega) (by assumption) ?_
  refine r_iconst 23 dX0_put_22 rfl rfl ?_
  refine r_icmp_ne 37 26 dX0_put_23 (by decide) rfl (fun c_23 => ?_) (fun c_23 => ?_)
  refine r_aload_n 38 dX0_put_37 rfl rfl ?_
  refine r_getR 41 dX0_put_38 rfl kf_0_9 rfl (by first | assumption | omega) (by assumption) (by assumption) ?_
  refine r_iload_n 42 dX0_put_41 rfl rfl ?_
  refine r_iload_n 43 dX0_put_42 rfl rfl ?_
  refine r_iast 44 dX0_put_43 rfl (by first | assumption | omega) (by assumption) (by first | omega | (simp only [Int.toNat_natCast]; omega)) (by first | omega | (simp only [Int.toNat_natCast]; omega)) ?_
  refine r_ret dX0_put_44 rfl ?_
  rotate_left -- leaf: return at pc 44
  refine r_aload_n 27 dX0_put_26 rfl rfl ?_
  refine r_getR 30 dX0_put_27 rfl kf_0_9 rfl (by first | assumption | omega) (by assumption) (by assumption) ?_
  refine r_iload_n 31 dX0_put_30 rfl rfl ?_
  refine r_iload_n 32 dX0_put_31 rfl rfl ?_
  refine r_i2s 33 _ dX0_put_32 rfl rfl ?_
  refine r_iast 34 dX0_put_33 rfl (by first | assumption | omega) (by assumption) (by first | omega | (simp only [Int.toNat_natCast]; omega)) (by first | omega | (simp only [Int.toNat_natCast]; omega)) ?_
  refine r_goto 44 dX0_put_34 (by decide) ?_
  refine r_ret dX0_put_44 rfl ?_
  rotate_left -- leaf: return at pc 44
  refine r_aload_n 8 dX0_put_7 rfl rfl ?_
  refine r_getR 11 dX0_put_8 rfl kf_0_9 rfl (by first | assumption | omega) (by assumption) (by assumption) ?_
  refine r_iload_n 12 dX0_put_11 rfl rfl ?_
  refine r_iload_n 13 dX0_put_12 rfl rfl ?_
  refine r_i2b 14 _ dX0_put_13 rfl rfl ?_
  refine r_iast 15 dX0_put_14 rfl (by first | assumption | omega) (by assumption) (by first | omega | (simp only [Int.toNat_natCast]; omega)) (by first | omega | (simp only [Int.toNat_natCast]; omega)) ?_
  refine r_goto 44 dX0_put_15 (by decide) ?_
  refine r_ret dX0_put_44 rfl ?_
  rotate_left -- leaf: return at pc 44
  · refine ⟨rfl, ?_⟩
    rw [Int.toNat_natCast, narF, if_neg c_4, if_neg c_23]
  · refine ⟨rfl, ?_⟩
    rw [Int.toNat_natCast, narF, if_neg c_4, if_pos c_23]
  · refine ⟨rfl, ?_⟩
    rw [Int.toNat_natCast, narF, if_pos c_4]
theorem l_renew (ly : LSh G k) (a b : Int) {Φ : Option zV → zH → Prop} (hΦ : Φ none (setB (up (up h k 1 a) k 2 b) (k + 1) 40 (fun _ => 0))) : ∀ (n j : Nat), j + n = 40 → Rr l G 0 mX0_renew Φ 12 [some (vR k), some (vI a), some (vI b), some (vI j)] [] (setB (up (up h k 1 a) k 2 b) (k + 1) j (fun _ => 0)) := by
  obtain ⟨⟨n0, n1⟩, ⟨s0, s1⟩, r0, l1⟩ := ly
  intro n
  induction n with
  | zero =>
    intro j hj
    obtain rfl : j = 40 := by omega
    refine r_iload_n 13 dX0_renew_12 rfl rfl ?_
    refine r_bipush 15 dX0_renew_13 rfl rfl (by decide) ?_
    refine r_icmp_ge 31 18 dX0_renew_15 (by decide) rfl (fun c_15 => ?_) (fun c_15 => ?_)
    refine r_ret dX0_renew_31 rfl ?_
    rotate_left -- leaf: return at pc 31
    rotate_left -- leaf: pc 18
    · exact hΦ
    · omega
  | succ n ih =>
    intro j hj
    refine r_iload_n 13 dX0_renew_12 rfl rfl ?_
    refine r_bipush 15 dX0_renew_13 rfl rfl (by decide) ?_
    refine r_icmp_ge 31 18 dX0_renew_15 (by decide) rfl (fun c_15 => ?_) (fun c_15 => ?_)
    rotate_left -- leaf: pc 31
    refine r_aload_n 19 dX0_renew_18 rfl rfl ?_
    refine r_getR 22 dX0_renew_19 rfl kf_0_9 rfl (by first | assumption | omega) (by assumption) (by assumption) ?_
    refine r_iload_n 23 dX0_renew_22 rfl rfl ?_
    refine r_iconst 24 dX0_renew_23 rfl rfl ?_
    refine r_iast 25 dX0_renew_24 rfl (by first | assumption | omega) (by assumption) (by first | omega | (simp only [Int.toNat_natCast]; omega)) (by first | omega | (simp only [Int.toNat_natCast]; omega)) ?_
    refine r_iinc 28 _ dX0_renew_25 rfl rfl rfl rfl (by first | exact w32_id (by omega) (by omega) | rfl) ?_
    refine r_goto 12 dX0_renew_28 (by decide) ?_
    rotate_left -- leaf: pc 12
    · omega
    · rw [Int.toNat_natCast]
      have e := setB_s (h := (up (up h k 1 a) k 2 b)) (k := k + 1) (j := j) (f := fun _ => 0)
      rw [e]
      exact ih (j + 1) (by omega)
theorem c_renew (ly : LSh G k) (a b : Int) : Ca l G 0 mX0_renew [vR k, vI a, vI b] h (fun r h' => r = none ∧ h' = setB (up (up h k 1 a) k 2 b) (k + 1) 40 (fun _ => 0)) := by
  have ly0 := ly
  obtain ⟨⟨n0, n1⟩, ⟨s0, s1⟩, r0, l1⟩ := ly
  refine Ca.of (by decide) (Nat.le_of_ble_eq_true rfl) (fun hI hv hH => ?_)
  refine r_aload_n 1 dX0_renew_0 rfl rfl ?_
  refine r_iload_n 2 dX0_renew_1 rfl rfl ?_
  refine r_putI 5 dX0_renew_2 rfl kf_0_15 rfl rfl (Or.inl rfl) (by first | assumption | omega) (by assumption) ?_
  refine r_aload_n 6 dX0_renew_5 rfl rfl ?_
  refine r_iload_n 7 dX0_renew_6 rfl rfl ?_
  refine r_putI 10 dX0_renew_7 rfl kf_0_19 rfl rfl (Or.inl rfl) (by first | assumption | omega) (by assumption) ?_
  refine r_iconst 11 dX0_renew_10 rfl rfl ?_
  refine r_istore_n 12 dX0_renew_11 rfl rfl rfl ?_
  rotate_left -- leaf: pc 12
  have := l_renew (l := l) (h := h) ly0 a b (Φ := fun r h' => r = none ∧ h' = setB (up (up h k 1 a) k 2 b) (k + 1) 40 (fun _ => 0)) ⟨rfl, rfl⟩ 40 0 rfl
  rw [setB_0] at this
  exact this
end SH
/-! SunPointer$Tape: t the object, t + 1 its bytes. Fields: 1 length, 2 faultMet, 3 faultPlace, 4 token, 5 tokenPlace, 6 tokenEnd, 7 number, 8 rotaTold, 9 paintTold -/
def LTp (G : zG) (t : Nat) : Prop := (t < gN G ∧ t + 1 < gN G) ∧ (gs G t = 6 ∧ gs G (t + 1) = 1) ∧ gr G t 0 = t + 1 ∧ gl G (t + 1) = 160
def leB (c : Int) : Bool := decide (97 ≤ c ∧ c ≤ 122)
def fiB (c : Int) : Bool := decide (48 ≤ c ∧ c ≤ 57)
def blB (c : Int) : Bool := decide (c = 32)
/-- behind all that f takes, from p on (n: how many there may be) -/
def bhd (f : Int → Bool) (by_ : Nat → Int) : Nat → Nat → Nat
  | 0, p => p
  | n + 1, p => if f (by_ p) = true then bhd f by_ n (p + 1) else p
theorem bhd_in (f : Int → Bool) (by_ : Nat → Int) : ∀ n p, p ≤ bhd f by_ n p ∧ bhd f by_ n p ≤ p + n
  | 0, p => by simp [bhd]
  | n + 1, p => by
    have := bhd_in f by_ n (p + 1)
    unfold bhd
    split <;> omega
def nmF (by_ : Nat → Int) (a : Nat) : Nat → Int
  | 0 => 0
  | n + 1 => w32 (w32 (w32 (10 * nmF by_ a n) + by_ (a + n)) - 48)
/-- what a Tape's numbers are within -/
def wP (h : zH) (t : Nat) : Prop := (0 ≤ h t 1 ∧ h t 1 ≤ 160) ∧ (0 ≤ h t 5 ∧ h t 5 ≤ 160) ∧ (0 ≤ h t 6 ∧ h t 6 ≤ 160) ∧ (∀ j, 0 ≤ h (t + 1) j ∧ h (t + 1) j ≤ 127)
section TP
variable {l : Launch} {G : zG} {h : zH} {t : Nat}
theorem c_isLetter (c : Int) : Ca l G 0 mX1_isLetter [vI c] h (fun r h' => r = some (vI (z01 (leB c = true))) ∧ h' = h) := by
  refine Ca.of (by decide) (Nat.le_of_ble_eq_true rfl) (fun hI hv hH => ?_)
  refine r_iload_n 1 dX1_isLetter_0 rfl rfl ?_
  refine r_bipush 3 dX1_isLetter_1 rfl rfl (by decide) ?_
  refine r_icmp_lt 16 6 dX1_isLetter_3 (by decide) rfl (fun c_3 => ?_) (fun c_3 => ?_)
  refine r_iconst 17 dX1_isLetter_16 rfl rfl ?_
  refine r_zret dX1_isLetter_17 rfl (by first | exact Or.inl rfl | exact Or.inr rfl | assumption | omega) ?_
  rotate_left -- leaf: return at pc 17
  refine r_iload_n 7 dX1_isLetter_6 rfl rfl ?_
  refine r_bipush 9 dX1_isLetter_7 rfl rfl (by decide) ?_
  refine r_icmp_gt 16 12 dX1_isLetter_9 (by decide) rfl (fun c_9 => ?_) (fun c_9 => ?_)
  refine r_iconst 17 dX1_isLetter_16 rfl rfl ?_
  refine r_zret dX1_isLetter_17 rfl (by first | exact Or.inl rfl | exact Or.inr rfl | assumption | omega) ?_
  rotate_left -- leaf: return at pc 17
  refine r_iconst 13 dX1_isLetter_12 rfl rfl ?_
  refine r_goto 17 dX1_isLetter_13 (by decide) ?_
  refine r_zret dX1_isLetter_17 rfl (by first | exact Or.inl rfl | exact Or.inr rfl | assumption | omega) ?_
  rotate_left -- leaf: return at pc 17
  all_goals refine ⟨?_, rfl⟩
  · rw [z01_f (by simp [leB]; omega)]
  · rw [z01_f (by simp [leB]; omega)]
  · rw [z01_t (by simp [leB]; omega)]
theorem c_isFigure (c : Int) : Ca l G 0 mX1_isFigure [vI c] h (fun r h' => r = some (vI (z01 (fiB c = true))) ∧ h' = h) := by
  refine Ca.of (by decide) (Nat.le_of_ble_eq_true rfl) (fun hI hv hH => ?_)
  refine r_iload_n 1 dX1_isFigure_0 rfl rfl ?_
  refine r_bipush 3 dX1_isFigure_1 rfl rfl (by decide) ?_
  refine r_icmp_lt 16 6 dX1_isFigure_3 (by decide) rfl (fun c_3 => ?_) (fun c_3 => ?_)
  refine r_iconst 17 dX1_isFigure_16 rfl rfl ?_
  refine r_zret dX1_isFigure_17 rfl (by first | exact Or.inl rfl | exact Or.inr rfl | assumption | omega) ?_
  rotate_left -- leaf: return at pc 17
  refine r_iload_n 7 dX1_isFigure_6 rfl rfl ?_
  refine r_bipush 9 dX1_isFigure_7 rfl rfl (by decide) ?_
  refine r_icmp_gt 16 12 dX1_isFigure_9 (by decide) rfl (fun c_9 => ?_) (fun c_9 => ?_)
  refine r_iconst 17 dX1_isFigure_16 rfl rfl ?_
  refine r_zret dX1_isFigure_17 rfl (by first | exact Or.inl rfl | exact Or.inr rfl | assumption | omega) ?_
  rotate_left -- leaf: return at pc 17
  refine r_iconst 13 dX1_isFigure_12 rfl rfl ?_
  refine r_goto 17 dX1_isFigure_13 (by decide) ?_
  refine r_zret dX1_isFigure_17 rfl (by first | exact Or.inl rfl | exact Or.inr rfl | assumption | omega) ?_
  rotate_left -- leaf: return at pc 17
  all_goals refine ⟨?_, rfl⟩
  · rw [z01_f (by simp [fiB]; omega)]
  · rw [z01_f (by simp [fiB]; omega)]
  · rw [z01_t (by simp [fiB]; omega)]
theorem c_isGood (ly : LTp G t) : Ca l G 0 mX1_isGood [vR t] h (fun r h' => r = some (vI (z01 (h t 2 = 0))) ∧ h' = h) := by
  obtain ⟨⟨n0, n1⟩, ⟨s0, s1⟩, r0, l1⟩ := ly
  refine Ca.of (by decide) (Nat.le_of_ble_eq_true rfl) (fun hI hv hH => ?_)
  refine r_aload_n 1 dX1_isGood_0 rfl rfl ?_
  refine r_getI 4 dX1_isGood_1 rfl kf_1_24 rfl (by first | assumption | omega) (by assumption) ?_
  refine r_if_ne 11 7 dX1_isGood_4 (by decide) rfl (fun c_4 => ?_) (fun c_4 => ?_)
  refine r_iconst 12 dX1_isGood_11 rfl rfl ?_
  refine r_zret dX1_isGood_12 rfl (by first | exact Or.inl rfl | exact Or.inr rfl | assumption | omega) ?_
  rotate_left -- leaf: return at pc 12
  refine r_iconst 8 dX1_isGood_7 rfl rfl ?_
  refine r_goto 12 dX1_isGood_8 (by decide) ?_
  refine r_zret dX1_isGood_12 rfl (by first | exact Or.inl rfl | exact Or.inr rfl | assumption | omega) ?_
  rotate_left -- leaf: return at pc 12
  all_goals refine ⟨?_, rfl⟩
  · rw [z01_f c_4]
  · rw [z01_t c_4]
theorem c_fail (ly : LTp G t) (a b : Int) : Ca l G 0 mX1_fail [vR t, vI a, vI b] h (fun r h' => r = none ∧ h' = up (up h t 2 a) t 3 b) := by
  obtain ⟨⟨n0, n1⟩, ⟨s0, s1⟩, r0, l1⟩ := ly
  refine Ca.of (by decide) (Nat.le_of_ble_eq_true rfl) (fun hI hv hH => ?_)
  refine r_aload_n 1 dX1_fail_0 rfl rfl ?_
  refine r_iload_n 2 dX1_fail_1 rfl rfl ?_
  refine r_putI 5 dX1_fail_2 rfl kf_1_24 rfl rfl (Or.inl rfl) (by first | assumption | omega) (by assumption) ?_
  refine r_aload_n 6 dX1_fail_5 rfl rfl ?_
  refine r_iload_n 7 dX1_fail_6 rfl rfl ?_
  refine r_putI 10 dX1_fail_7 rfl kf_1_27 rfl rfl (Or.inl rfl) (by first | assumption | omega) (by assumption) ?_
  refine r_ret dX1_fail_10 rfl ?_
  rotate_left -- leaf: return at pc 10
  exact ⟨rfl, rfl⟩
theorem i8_id {c : Int} (h0 : 0 ≤ c) (h1 : c ≤ 127) : (Int32.ofInt c).toInt8.toInt = c := by
  rw [Int32.toInt_toInt8, i32_t ⟨by omega, by omega⟩]
  exact Int.bmod_eq_of_le (by omega) (by omega)
theorem c_add (ly : LTp G t) (w : wP h t) (c : Int) (hc : 0 ≤ c ∧ c ≤ 127) : Ca l G 0 mX1_add [vR t, vI c] h (fun r h' => (160 ≤ h t 1 ∧ r = some (vI 0) ∧ h' = h) ∨ (h t 1 < 160 ∧ r = some (vI 1) ∧ h' = up (up h (t + 1) (h t 1).toNat c) t 1 (h t 1 + 1))) := by
  obtain ⟨⟨n0, n1⟩, ⟨s0, s1⟩, r0, l1⟩ := ly
  obtain ⟨w1, w2, w3, w4⟩ := w
  refine Ca.of (by decide) (Nat.le_of_ble_eq_true rfl) (fun hI hv hH => ?_)
  refine r_aload_n 1 dX1_add_0 rfl rfl ?_
  refine r_getI 4 dX1_add_1 rfl kf_1_15 rfl (by first | assumption | omega) (by assumption) ?_
  refine r_sipush 7 dX1_add_4 rfl rfl (by decide) ?_
  refine r_icmp_lt 12 10 dX1_add_7 (by decide) rfl (fun c_7 => ?_) (fun c_7 => ?_)
  rotate_left -- leaf: pc 12
  refine r_iconst 11 dX1_add_10 rfl rfl ?_
  refine r_zret dX1_add_11 rfl (by first | exact Or.inl rfl | exact Or.inr rfl | assumption | omega) ?_
  rotate_left -- leaf: return at pc 11
  · refine r_aload_n 13 dX1_add_12 rfl rfl ?_
    refine r_getR 16 dX1_add_13 rfl kf_1_11 rfl (by first | assumption | omega) (by assumption) (by assumption) ?_
    refine r_aload_n 17 dX1_add_16 rfl rfl ?_
    refine r_getI 20 dX1_add_17 rfl kf_1_15 rfl (by first | assumption | omega) (by assumption) ?_
    refine r_iload_n 21 dX1_add_20 rfl rfl ?_
    refine r_i2b 22 _ dX1_add_21 rfl rfl ?_
    rotate_left -- leaf: pc 22
    rw [i8_id hc.1 hc.2]
    have e : up h (t + 1) (h t 1).toNat c t 1 = h t 1 := up_k (by omega)
    first | refine r_bast 23 dX1_add_22 rfl (by first | assumption | omega) (by assumption) (by first | omega | (simp only [Int.toNat_natCast]; omega)) (by first | omega | (simp only [Int.toNat_natCast]; omega)) (by first | omega | (simp only [Int.toNat_natCast]; omega)) (by first | omega | (simp only [Int.toNat_natCast]; omega)) ?_ | refine r_zast 23 dX1_add_22 rfl (by first | assumption | omega) (by assumption) (by first | omega | (simp only [Int.toNat_natCast]; omega)) (by first | omega | (simp only [Int.toNat_natCast]; omega)) (by first | exact Or.inl rfl | exact Or.inr rfl | omega) ?_
    refine r_aload_n 24 dX1_add_23 rfl rfl ?_
    refine r_dup 25 dX1_add_24 rfl rfl ?_
    refine r_getI 28 dX1_add_25 rfl kf_1_15 rfl (by first | assumption | omega) (by assumption) ?_
    rotate_left -- leaf: pc 28
    rw [e]
    refine r_iconst 29 dX1_add_28 rfl rfl ?_
    refine r_iadd 30 dX1_add_29 rfl (by first | exact w32_id (by omega) (by omega) | rfl) ?_
    refine r_putI 33 dX1_add_30 rfl kf_1_15 rfl rfl (Or.inl rfl) (by first | assumption | omega) (by assumption) ?_
    refine r_iconst 34 dX1_add_33 rfl rfl ?_
    refine r_zret dX1_add_34 rfl (by first | exact Or.inl rfl | exact Or.inr rfl | assumption | omega) ?_
    rotate_left -- leaf: return at pc 34
    exact Or.inr ⟨c_7, rfl, rfl⟩
  · exact Or.inl ⟨c_7, rfl, rfl⟩
end TP
