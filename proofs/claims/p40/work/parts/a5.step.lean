/-! SunPointerModel: the reading of a text. Its fields (object 45) as a function r, the page that is read (row 47) as p: the world is mW h r p -/
def mW (h : zH) (r p : Nat → Int) : zH := fun a b => if a = 45 then r b else if a = 47 then p b else h a b
theorem up1_at (r : Nat → Int) (j b : Nat) (v : Int) : up1 r j v b = if b = j then v else r b := rfl
theorem up1_up1 {r : Nat → Int} {j : Nat} {v w : Int} : up1 (up1 r j v) j w = up1 r j w := by
  funext b
  simp only [up1_at]
  split <;> rfl
theorem up1_id {r : Nat → Int} {j : Nat} : up1 r j (r j) = r := by
  funext b
  simp only [up1_at]
  split
  · rename_i e; rw [e]
  · rfl
theorem up1_cm {r : Nat → Int} {j k : Nat} {v w : Int} (q : j ≠ k) : up1 (up1 r j v) k w = up1 (up1 r k w) j v := by
  funext b
  simp only [up1_at]
  split
  · rename_i e; subst e; rw [if_neg (fun z => q z.symm)]
  · rfl
theorem up1_x {r : Nat → Int} {j k : Nat} {a b c d : Int} : up1 (up1 (up1 (up1 r j a) k b) j c) k d = up1 (up1 r j c) k d := by
  funext x
  simp only [up1_at]
  by_cases h1 : x = k
  · simp only [if_pos h1]
  · simp only [if_neg h1]
    by_cases h2 : x = j
    · simp only [if_pos h2]
    · simp only [if_neg h2]
section MT
variable {l : Launch} {G : zG} {h : zH} {r p : Nat → Int}
theorem mW_45 (b : Nat) : mW h r p 45 b = r b := rfl
theorem mW_47 (b : Nat) : mW h r p 47 b = p b := rfl
theorem mW_48 (b : Nat) : mW h r p 48 b = h 48 b := rfl
theorem mW_46 (b : Nat) : mW h r p 46 b = h 46 b := rfl
theorem mW_49 (b : Nat) : mW h r p 49 b = h 49 b := rfl
theorem mW_50 (b : Nat) : mW h r p 50 b = h 50 b := rfl
theorem mW_54 (b : Nat) : mW h r p 54 b = h 54 b := rfl
theorem mW_o {a b : Nat} (q1 : a ≠ 45) (q2 : a ≠ 47) : mW h r p a b = h a b := by simp only [mW, if_neg q1, if_neg q2]
theorem mW_up45 (j : Nat) (v : Int) : up (mW h r p) 45 j v = mW h (up1 r j v) p := by
  funext a b
  unfold up mW up1
  by_cases e : a = 45
  · simp [e]
  · simp [e]
theorem mW_up47 (j : Nat) (v : Int) : up (mW h r p) 47 j v = mW h r (up1 p j v) := by
  funext a b
  unfold up mW up1
  by_cases e : a = 45
  · simp [e]
  · by_cases e2 : a = 47
    · simp [e2]
    · simp [e, e2]
theorem mW_up54 (j : Nat) (v : Int) : up (mW h r p) 54 j v = mW (up h 54 j v) r p := by
  funext a b
  unfold up mW
  by_cases e : a = 45
  · simp [e]
  · by_cases e2 : a = 47
    · simp [e2]
    · simp [e, e2]
theorem mW_up46 (j : Nat) (v : Int) : up (mW h r p) 46 j v = mW (up h 46 j v) r p := by
  funext a b
  unfold up mW
  by_cases e : a = 45
  · simp [e]
  · by_cases e2 : a = 47
    · simp [e2]
    · simp [e, e2]
theorem mW_self : mW h (h 45) (h 47) = h := by
  funext a b
  unfold mW
  by_cases e : a = 45
  · simp [e]
  · by_cases e2 : a = 47
    · simp [e2]
    · simp [e, e2]
def byA (r tp : Nat → Int) (k : Nat) : Int := if (k : Int) < r 8 then tp k else -4
theorem byA_n {r tp : Nat → Int} {k : Nat} (q : ¬ (k : Int) < r 8) : byA r tp k = -4 := if_neg q
theorem byA_y {r tp : Nat → Int} {k : Nat} (q : (k : Int) < r 8) : byA r tp k = tp k := if_pos q
theorem m_byteAtW (lm : LM G) (k : Nat) (h8 : r 8 ≤ 160) : Ca l G 0 mX4_byteAt [vR 45, vI (k : Int)] (mW h r p) (fun v h' => v = some (vI (byA r (h 48) k)) ∧ h' = mW h r p) := by
  obtain ⟨hN, ⟨ms45, ms46, ms47, ms48, ms49, ms50, ms51, ms52, ms53, ms54, ms55, ms56, ms57⟩, ⟨ml46, ml47, ml48, ml49, ml50, ml51, ml52, ml53, ml54, ml55, ml56, ml57⟩, ⟨mr0, mr2, mr7, mr16, mr17, mr18, mr20, mr22, mr24, mr25, mr26, mr27⟩⟩ := lm
  refine Ca.of (by decide) (Nat.le_of_ble_eq_true rfl) (fun hI hv hH => ?_)
  unfold byA
  refine r_iload_n 1 dX4_byteAt_0 rfl rfl ?_
  refine r_aload_n 2 dX4_byteAt_1 rfl rfl ?_
  refine r_getI 5 dX4_byteAt_2 rfl kf_4_53 rfl (by first | assumption | omega) (by assumption) ?_
  try simp only [mW_45, mW_47, mW_48, mW_46, mW_49, mW_50, mW_54, mW_up45, mW_up47, mW_up54, up1_at, ↓reduceIte, Nat.reduceEqDiff, reduceCtorEq]
  refine r_icmp_ge 17 8 dX4_byteAt_5 (by decide) rfl (fun c_5 => ?_) (fun c_5 => ?_)
  refine r_bipush 19 dX4_byteAt_17 rfl rfl (by decide) ?_
  refine r_iret dX4_byteAt_19 rfl ?_
  rotate_left -- leaf: return at pc 19
  refine r_aload_n 9 dX4_byteAt_8 rfl rfl ?_
  refine r_getR 12 dX4_byteAt_9 rfl kf_4_16 rfl (by first | assumption | omega) (by assumption) (by assumption) ?_
  try simp only [mW_45, mW_47, mW_48, mW_46, mW_49, mW_50, mW_54, mW_up45, mW_up47, mW_up54, up1_at, ↓reduceIte, Nat.reduceEqDiff, reduceCtorEq]
  refine r_iload_n 13 dX4_byteAt_12 rfl rfl ?_
  refine r_iald 14 dX4_byteAt_13 rfl (by first | assumption | omega) (by assumption) (by first | omega | (simp only [Int.toNat_natCast]; omega)) (by first | omega | (simp only [Int.toNat_natCast]; omega)) ?_
  try simp only [Int.toNat_natCast, tq_4, tq_8, tq_22, tq_27, tq_99, tq_a, tl_0, tl_1, tl_20, tl_21, tl_22, tl_32]
  try simp only [mW_45, mW_47, mW_48, mW_46, mW_49, mW_50, mW_54, mW_up45, mW_up47, mW_up54, up1_at, ↓reduceIte, Nat.reduceEqDiff, reduceCtorEq]
  refine r_goto 19 dX4_byteAt_14 (by decide) ?_
  refine r_iret dX4_byteAt_19 rfl ?_
  rotate_left -- leaf: return at pc 19
  · rw [if_neg (by omega)]
    exact ⟨rfl, rfl⟩
  · rw [if_pos c_5]
    exact ⟨rfl, rfl⟩
def flR (c : Int) (r : Nat → Int) : Nat → Int := if r 10 = 0 then up1 (up1 r 10 c) 11 (r 13) else r
theorem m_fails (lm : LM G) (c : Int) : Ca l G 0 mX4_fails [vR 45, vI c] (mW h r p) (fun v h' => v = none ∧ h' = mW h (flR c r) p) := by
  obtain ⟨hN, ⟨ms45, ms46, ms47, ms48, ms49, ms50, ms51, ms52, ms53, ms54, ms55, ms56, ms57⟩, ⟨ml46, ml47, ml48, ml49, ml50, ml51, ml52, ml53, ml54, ml55, ml56, ml57⟩, ⟨mr0, mr2, mr7, mr16, mr17, mr18, mr20, mr22, mr24, mr25, mr26, mr27⟩⟩ := lm
  refine Ca.of (by decide) (Nat.le_of_ble_eq_true rfl) (fun hI hv hH => ?_)
  unfold flR
  refine r_aload_n 1 dX4_fails_0 rfl rfl ?_
  refine r_getI 4 dX4_fails_1 rfl kf_4_57 rfl (by first | assumption | omega) (by assumption) ?_
  try simp only [mW_45, mW_47, mW_48, mW_46, mW_49, mW_50, mW_54, mW_up45, mW_up47, mW_up54, up1_at, ↓reduceIte, Nat.reduceEqDiff, reduceCtorEq]
  refine r_if_ne 20 7 dX4_fails_4 (by decide) rfl (fun c_4 => ?_) (fun c_4 => ?_)
  refine r_ret dX4_fails_20 rfl ?_
  rotate_left -- leaf: return at pc 20
  refine r_aload_n 8 dX4_fails_7 rfl rfl ?_
  refine r_iload_n 9 dX4_fails_8 rfl rfl ?_
  refine r_putI 12 dX4_fails_9 rfl kf_4_57 rfl rfl (Or.inl rfl) (by first | assumption | omega) (by assumption) ?_
  try simp only [mW_45, mW_47, mW_48, mW_46, mW_49, mW_50, mW_54, mW_up45, mW_up47, mW_up54, up1_at, ↓reduceIte, Nat.reduceEqDiff, reduceCtorEq]
  refine r_aload_n 13 dX4_fails_12 rfl rfl ?_
  refine r_aload_n 14 dX4_fails_13 rfl rfl ?_
  refine r_getI 17 dX4_fails_14 rfl kf_4_60 rfl (by first | assumption | omega) (by assumption) ?_
  try simp only [mW_45, mW_47, mW_48, mW_46, mW_49, mW_50, mW_54, mW_up45, mW_up47, mW_up54, up1_at, ↓reduceIte, Nat.reduceEqDiff, reduceCtorEq]
  refine r_putI 20 dX4_fails_17 rfl kf_4_63 rfl rfl (Or.inl rfl) (by first | assumption | omega) (by assumption) ?_
  try simp only [mW_45, mW_47, mW_48, mW_46, mW_49, mW_50, mW_54, mW_up45, mW_up47, mW_up54, up1_at, ↓reduceIte, Nat.reduceEqDiff, reduceCtorEq]
  refine r_ret dX4_fails_20 rfl ?_
  rotate_left -- leaf: return at pc 20
  · rw [if_neg c_4]
    exact ⟨rfl, rfl⟩
  · rw [if_pos c_4]
    exact ⟨rfl, rfl⟩
def wS (r : Nat → Int) : Prop := (0 ≤ r 8 ∧ r 8 ≤ 160) ∧ (0 ≤ r 12 ∧ r 12 ≤ r 8)
def wB (tp : Nat → Int) : Prop := ∀ j, 0 ≤ tp j ∧ tp j ≤ 127
theorem l_stA (lm : LM G) (wb : wB (h 48)) (h8 : 0 ≤ r 8 ∧ r 8 ≤ 160) {Φ : Option zV → zH → Prop} : ∀ (n q : Nat), (r 8).toNat - q = n → Rr l G 1 mX4_step Φ 34 [some (vR 45), none] [] (mW h (up1 r 12 ((bhd blB (h 48) n q : Nat) : Int)) p) → (q : Int) ≤ r 8 → Rr l G 1 mX4_step Φ 8 [some (vR 45), none] [] (mW h (up1 r 12 (q : Int)) p) := by
  have lm0 := lm
  obtain ⟨hN, ⟨ms45, ms46, ms47, ms48, ms49, ms50, ms51, ms52, ms53, ms54, ms55, ms56, ms57⟩, ⟨ml46, ml47, ml48, ml49, ml50, ml51, ml52, ml53, ml54, ml55, ml56, ml57⟩, ⟨mr0, mr2, mr7, mr16, mr17, mr18, mr20, mr22, mr24, mr25, mr26, mr27⟩⟩ := lm
  intro n
  induction n with
  | zero =>
    intro q hq hΦ hle
    simp only [bhd] at hΦ
    refine r_aload_n 9 dX4_step_8 rfl rfl ?_
    refine r_aload_n 10 dX4_step_9 rfl rfl ?_
    refine r_getI 13 dX4_step_10 rfl kf_4_69 rfl (by first | assumption | omega) (by assumption) ?_
    try simp only [mW_45, mW_47, mW_48, mW_46, mW_49, mW_50, mW_54, mW_up45, mW_up47, mW_up54, up1_at, ↓reduceIte, Nat.reduceEqDiff, reduceCtorEq]
    rotate_left -- leaf: call at pc 13
    refine r_cv1 16 dX4_step_13 rfl kv_4_72 (by first | assumption | omega) (by assumption) rfl rfl (m_byteAtW lm0 q (show r 8 ≤ 160 from h8.2)) ?_
    rintro v h' ⟨rfl, rfl⟩
    have eb : byA (up1 r 12 (q : Int)) (h 48) q = -4 := byA_n (show ¬ (q : Int) < r 8 by omega)
    rw [eb]
    refine r_bipush 18 dX4_step_16 rfl rfl (by decide) ?_
    refine r_icmp_ne 34 21 dX4_step_18 (by decide) rfl (fun c_18 => ?_) (fun c_18 => ?_)
    rotate_left -- leaf: pc 34
    rotate_left -- leaf: pc 21
    · exact hΦ
    · omega
  | succ n ih =>
    intro q hq hΦ hle
    simp only [bhd] at hΦ
    have ih := ih (q + 1) (by omega)
    refine r_aload_n 9 dX4_step_8 rfl rfl ?_
    refine r_aload_n 10 dX4_step_9 rfl rfl ?_
    refine r_getI 13 dX4_step_10 rfl kf_4_69 rfl (by first | assumption | omega) (by assumption) ?_
    try simp only [mW_45, mW_47, mW_48, mW_46, mW_49, mW_50, mW_54, mW_up45, mW_up47, mW_up54, up1_at, ↓reduceIte, Nat.reduceEqDiff, reduceCtorEq]
    rotate_left -- leaf: call at pc 13
    refine r_cv1 16 dX4_step_13 rfl kv_4_72 (by first | assumption | omega) (by assumption) rfl rfl (m_byteAtW lm0 q (show r 8 ≤ 160 from h8.2)) ?_
    rintro v h' ⟨rfl, rfl⟩
    have eb : byA (up1 r 12 (q : Int)) (h 48) q = h 48 q := byA_y (show (q : Int) < r 8 by omega)
    rw [eb]
    refine r_bipush 18 dX4_step_16 rfl rfl (by decide) ?_
    refine r_icmp_ne 34 21 dX4_step_18 (by decide) rfl (fun c_18 => ?_) (fun c_18 => ?_)
    rotate_left -- leaf: pc 34
    refine r_aload_n 22 dX4_step_21 rfl rfl ?_
    refine r_dup 23 dX4_step_22 rfl rfl ?_
    refine r_getI 26 dX4_step_23 rfl kf_4_69 rfl (by first | assumption | omega) (by assumption) ?_
    try simp only [mW_45, mW_47, mW_48, mW_46, mW_49, mW_50, mW_54, mW_up45, mW_up47, mW_up54, up1_at, ↓reduceIte, Nat.reduceEqDiff, reduceCtorEq]
    refine r_iconst 27 dX4_step_26 rfl rfl ?_
    refine r_iadd 28 dX4_step_27 rfl (by first | exact w32_id (by omega) (by omega) | rfl) ?_
    refine r_putI 31 dX4_step_28 rfl kf_4_69 rfl rfl (Or.inl rfl) (by first | assumption | omega) (by assumption) ?_
    try simp only [mW_45, mW_47, mW_48, mW_46, mW_49, mW_50, mW_54, mW_up45, mW_up47, mW_up54, up1_at, ↓reduceIte, Nat.reduceEqDiff, reduceCtorEq]
    refine r_goto 8 dX4_step_31 (by decide) ?_
    rotate_left -- leaf: pc 8
    · rw [if_neg (by simp [blB, c_18])] at hΦ
      exact hΦ
    · rw [if_pos (by simp [blB, c_18])] at hΦ
      have := ih hΦ (by omega)
      simp only [up1_up1]
      exact this
theorem l_stL (lm : LM G) (wb : wB (h 48)) (c : Int) (h8 : 0 ≤ r 8 ∧ r 8 ≤ 160) {Φ : Option zV → zH → Prop} : ∀ (n q : Nat), (r 8).toNat - q = n → Rr l G 1 mX4_step Φ 118 [some (vR 45), some (vI c)] [] (mW h (up1 r 12 ((bhd leB (h 48) n q : Nat) : Int)) p) → (q : Int) ≤ r 8 → Rr l G 1 mX4_step Φ 84 [some (vR 45), some (vI c)] [] (mW h (up1 r 12 (q : Int)) p) := by
  have lm0 := lm
  obtain ⟨hN, ⟨ms45, ms46, ms47, ms48, ms49, ms50, ms51, ms52, ms53, ms54, ms55, ms56, ms57⟩, ⟨ml46, ml47, ml48, ml49, ml50, ml51, ml52, ml53, ml54, ml55, ml56, ml57⟩, ⟨mr0, mr2, mr7, mr16, mr17, mr18, mr20, mr22, mr24, mr25, mr26, mr27⟩⟩ := lm
  intro n
  induction n with
  | zero =>
    intro q hq hΦ hle
    simp only [bhd] at hΦ
    refine r_aload_n 85 dX4_step_84 rfl rfl ?_
    refine r_aload_n 86 dX4_step_85 rfl rfl ?_
    refine r_getI 89 dX4_step_86 rfl kf_4_69 rfl (by first | assumption | omega) (by assumption) ?_
    try simp only [mW_45, mW_47, mW_48, mW_46, mW_49, mW_50, mW_54, mW_up45, mW_up47, mW_up54, up1_at, ↓reduceIte, Nat.reduceEqDiff, reduceCtorEq]
    rotate_left -- leaf: call at pc 89
    refine r_cv1 92 dX4_step_89 rfl kv_4_72 (by first | assumption | omega) (by assumption) rfl rfl (m_byteAtW lm0 q (show r 8 ≤ 160 from h8.2)) ?_
    rintro v h' ⟨rfl, rfl⟩
    have eb : byA (up1 r 12 (q : Int)) (h 48) q = -4 := byA_n (show ¬ (q : Int) < r 8 by omega)
    rw [eb]
    refine r_i2l 93 dX4_step_92 rfl ?_
    refine r_ldc2 96 (97) dX4_step_93 rfl kq_4_79 rfl ?_
    refine r_ldc2 99 (122) dX4_step_96 rfl kq_4_81 rfl ?_
    rotate_left -- leaf: call at pc 99
    refine r_cs3 102 dX4_step_99 rfl ks_4_49 rfl rfl (c_in (-4) 97 122) ?_
    rintro v h' ⟨rfl, rfl⟩
    refine r_if_eq 118 105 dX4_step_102 (by decide) rfl (fun c_102 => ?_) (fun c_102 => ?_)
    rotate_left -- leaf: pc 118
    rotate_left -- leaf: pc 105
    · exact hΦ
    · exact absurd (z01_y.mp c_102) (by omega)
  | succ n ih =>
    intro q hq hΦ hle
    simp only [bhd] at hΦ
    have ih := ih (q + 1) (by omega)
    refine r_aload_n 85 dX4_step_84 rfl rfl ?_
    refine r_aload_n 86 dX4_step_85 rfl rfl ?_
    refine r_getI 89 dX4_step_86 rfl kf_4_69 rfl (by first | assumption | omega) (by assumption) ?_
    try simp only [mW_45, mW_47, mW_48, mW_46, mW_49, mW_50, mW_54, mW_up45, mW_up47, mW_up54, up1_at, ↓reduceIte, Nat.reduceEqDiff, reduceCtorEq]
    rotate_left -- leaf: call at pc 89
    refine r_cv1 92 dX4_step_89 rfl kv_4_72 (by first | assumption | omega) (by assumption) rfl rfl (m_byteAtW lm0 q (show r 8 ≤ 160 from h8.2)) ?_
    rintro v h' ⟨rfl, rfl⟩
    have eb : byA (up1 r 12 (q : Int)) (h 48) q = h 48 q := byA_y (show (q : Int) < r 8 by omega)
    rw [eb]
    refine r_i2l 93 dX4_step_92 rfl ?_
    refine r_ldc2 96 (97) dX4_step_93 rfl kq_4_79 rfl ?_
    refine r_ldc2 99 (122) dX4_step_96 rfl kq_4_81 rfl ?_
    rotate_left -- leaf: call at pc 99
    refine r_cs3 102 dX4_step_99 rfl ks_4_49 rfl rfl (c_in (h 48 q) 97 122) ?_
    rintro v h' ⟨rfl, rfl⟩
    refine r_if_eq 118 105 dX4_step_102 (by decide) rfl (fun c_102 => ?_) (fun c_102 => ?_)
    rotate_left -- leaf: pc 118
    refine r_aload_n 106 dX4_step_105 rfl rfl ?_
    refine r_dup 107 dX4_step_106 rfl rfl ?_
    refine r_getI 110 dX4_step_107 rfl kf_4_69 rfl (by first | assumption | omega) (by assumption) ?_
    try simp only [mW_45, mW_47, mW_48, mW_46, mW_49, mW_50, mW_54, mW_up45, mW_up47, mW_up54, up1_at, ↓reduceIte, Nat.reduceEqDiff, reduceCtorEq]
    refine r_iconst 111 dX4_step_110 rfl rfl ?_
    refine r_iadd 112 dX4_step_111 rfl (by first | exact w32_id (by omega) (by omega) | rfl) ?_
    refine r_putI 115 dX4_step_112 rfl kf_4_69 rfl rfl (Or.inl rfl) (by first | assumption | omega) (by assumption) ?_
    try simp only [mW_45, mW_47, mW_48, mW_46, mW_49, mW_50, mW_54, mW_up45, mW_up47, mW_up54, up1_at, ↓reduceIte, Nat.reduceEqDiff, reduceCtorEq]
    refine r_goto 84 dX4_step_115 (by decide) ?_
    rotate_left -- leaf: pc 84
    · rw [if_neg (by have := z01_n.mp c_102; simp [leB]; omega)] at hΦ
      exact hΦ
    · rw [if_pos (by have := z01_y.mp c_102; simp [leB]; omega)] at hΦ
      have := ih hΦ (by omega)
      simp only [up1_up1]
      exact this
/-- what the first figures of a NUMBER say, n of them -/
def vlF (tp : Nat → Int) (a : Nat) : Nat → Int
  | 0 => 0
  | n + 1 => if n < 2 then 10 * vlF tp a n + tp (a + n) - 48 else vlF tp a n
theorem vlF_in {tp : Nat → Int} (wb : wB tp) (a : Nat) : ∀ n : Nat, -600 ≤ vlF tp a n ∧ vlF tp a n ≤ 1000 ∧ (n ≤ 1 → -48 ≤ vlF tp a n ∧ vlF tp a n ≤ 80)
  | 0 => by simp [vlF]
  | n + 1 => by
    have h1 := vlF_in wb a n
    have h2 := wb (a + n)
    unfold vlF
    split
    · by_cases e : n = 0
      · subst e
        simp only [vlF]
        omega
      · have := h1.2.2 (by omega)
        omega
    · omega
theorem l_stF (lm : LM G) (wb : wB (h 48)) (c : Int) (a : Nat) (h13 : r 13 = (a : Int)) (h8 : 0 ≤ r 8 ∧ r 8 ≤ 160) {Φ : Option zV → zH → Prop} : ∀ (n q : Nat), (r 8).toNat - q = n → a ≤ q → Rr l G 1 mX4_step Φ 217 [some (vR 45), some (vI c)] [] (mW h (up1 (up1 r 15 (vlF (h 48) a (bhd fiB (h 48) n q - a))) 12 ((bhd fiB (h 48) n q : Nat) : Int)) p) → (q : Int) ≤ r 8 → Rr l G 1 mX4_step Φ 140 [some (vR 45), some (vI c)] [] (mW h (up1 (up1 r 15 (vlF (h 48) a (q - a))) 12 (q : Int)) p) := by
  have lm0 := lm
  obtain ⟨hN, ⟨ms45, ms46, ms47, ms48, ms49, ms50, ms51, ms52, ms53, ms54, ms55, ms56, ms57⟩, ⟨ml46, ml47, ml48, ml49, ml50, ml51, ml52, ml53, ml54, ml55, ml56, ml57⟩, ⟨mr0, mr2, mr7, mr16, mr17, mr18, mr20, mr22, mr24, mr25, mr26, mr27⟩⟩ := lm
  intro n
  induction n with
  | zero =>
    intro q hq ha hΦ hle
    simp only [bhd] at hΦ
    refine r_aload_n 141 dX4_step_140 rfl rfl ?_
    refine r_aload_n 142 dX4_step_141 rfl rfl ?_
    refine r_getI 145 dX4_step_142 rfl kf_4_69 rfl (by first | assumption | omega) (by assumption) ?_
    try simp only [mW_45, mW_47, mW_48, mW_46, mW_49, mW_50, mW_54, mW_up45, mW_up47, mW_up54, up1_at, ↓reduceIte, Nat.reduceEqDiff, reduceCtorEq]
    rotate_left -- leaf: call at pc 145
    refine r_cv1 148 dX4_step_145 rfl kv_4_72 (by first | assumption | omega) (by assumption) rfl rfl (m_byteAtW lm0 q (show r 8 ≤ 160 from h8.2)) ?_
    rintro v h' ⟨rfl, rfl⟩
    have eb : byA (up1 (up1 r 15 (vlF (h 48) a (q - a))) 12 (q : Int)) (h 48) q = -4 := byA_n (show ¬ (q : Int) < r 8 by omega)
    rw [eb]
    refine r_i2l 149 dX4_step_148 rfl ?_
    refine r_ldc2 152 (48) dX4_step_149 rfl kq_4_83 rfl ?_
    refine r_ldc2 155 (57) dX4_step_152 rfl kq_4_85 rfl ?_
    rotate_left -- leaf: call at pc 155
    refine r_cs3 158 dX4_step_155 rfl ks_4_49 rfl rfl (c_in (-4) 48 57) ?_
    rintro v h' ⟨rfl, rfl⟩
    refine r_if_eq 217 161 dX4_step_158 (by decide) rfl (fun c_158 => ?_) (fun c_158 => ?_)
    rotate_left -- leaf: pc 217
    rotate_left -- leaf: pc 161
    · exact hΦ
    · exact absurd (z01_y.mp c_158) (by omega)
  | succ n ih =>
    intro q hq ha hΦ hle
    simp only [bhd] at hΦ
    have ih := ih (q + 1) (by omega) (by omega)
    have hvl := vlF_in wb a (q - a)
    have hw := wb q
    refine r_aload_n 141 dX4_step_140 rfl rfl ?_
    refine r_aload_n 142 dX4_step_141 rfl rfl ?_
    refine r_getI 145 dX4_step_142 rfl kf_4_69 rfl (by first | assumption | omega) (by assumption) ?_
    try simp only [mW_45, mW_47, mW_48, mW_46, mW_49, mW_50, mW_54, mW_up45, mW_up47, mW_up54, up1_at, ↓reduceIte, Nat.reduceEqDiff, reduceCtorEq]
    rotate_left -- leaf: call at pc 145
    refine r_cv1 148 dX4_step_145 rfl kv_4_72 (by first | assumption | omega) (by assumption) rfl rfl (m_byteAtW lm0 q (show r 8 ≤ 160 from h8.2)) ?_
    rintro v h' ⟨rfl, rfl⟩
    have eb : byA (up1 (up1 r 15 (vlF (h 48) a (q - a))) 12 (q : Int)) (h 48) q = h 48 q := byA_y (show (q : Int) < r 8 by omega)
    rw [eb]
    refine r_i2l 149 dX4_step_148 rfl ?_
    refine r_ldc2 152 (48) dX4_step_149 rfl kq_4_83 rfl ?_
    refine r_ldc2 155 (57) dX4_step_152 rfl kq_4_85 rfl ?_
    rotate_left -- leaf: call at pc 155
    refine r_cs3 158 dX4_step_155 rfl ks_4_49 rfl rfl (c_in (h 48 q) 48 57) ?_
    rintro v h' ⟨rfl, rfl⟩
    refine r_if_eq 217 161 dX4_step_158 (by decide) rfl (fun c_158 => ?_) (fun c_158 => ?_)
    rotate_left -- leaf: pc 217
    rotate_left -- leaf: pc 161
    · rw [if_neg (by have := z01_n.mp c_158; simp [fiB]; omega)] at hΦ
      exact hΦ
    · rw [if_pos (by have := z01_y.mp c_158; simp [fiB]; omega)] at hΦ
      have ih := ih hΦ (by omega)
      rw [show q + 1 - a = (q - a) + 1 by omega, vlF, show a + (q - a) = q by omega] at ih
      have J201 : ∀ v : Int, v = (if q - a < 2 then 10 * vlF (h 48) a (q - a) + h 48 q - 48 else vlF (h 48) a (q - a)) → Rr l G 1 mX4_step Φ 201 [some (vR 45), some (vI c)] [vI v, vR 45] (mW h (up1 (up1 r 15 (vlF (h 48) a (q - a))) 12 (q : Int)) p) := by
        intro v hv
        subst hv
        refine r_putI 204 dX4_step_201 rfl kf_4_76 rfl rfl (Or.inl rfl) (by first | assumption | omega) (by assumption) ?_
        try simp only [mW_45, mW_47, mW_48, mW_46, mW_49, mW_50, mW_54, mW_up45, mW_up47, mW_up54, up1_at, ↓reduceIte, Nat.reduceEqDiff, reduceCtorEq]
        refine r_aload_n 205 dX4_step_204 rfl rfl ?_
        refine r_dup 206 dX4_step_205 rfl rfl ?_
        refine r_getI 209 dX4_step_206 rfl kf_4_69 rfl (by first | assumption | omega) (by assumption) ?_
        try simp only [mW_45, mW_47, mW_48, mW_46, mW_49, mW_50, mW_54, mW_up45, mW_up47, mW_up54, up1_at, ↓reduceIte, Nat.reduceEqDiff, reduceCtorEq]
        refine r_iconst 210 dX4_step_209 rfl rfl ?_
        refine r_iadd 211 dX4_step_210 rfl (by first | exact w32_id (by omega) (by omega) | rfl) ?_
        refine r_putI 214 dX4_step_211 rfl kf_4_69 rfl rfl (Or.inl rfl) (by first | assumption | omega) (by assumption) ?_
        try simp only [mW_45, mW_47, mW_48, mW_46, mW_49, mW_50, mW_54, mW_up45, mW_up47, mW_up54, up1_at, ↓reduceIte, Nat.reduceEqDiff, reduceCtorEq]
        refine r_goto 140 dX4_step_214 (by decide) ?_
        rotate_left -- leaf: pc 140
        rw [up1_x]
        exact ih
      refine r_aload_n 162 dX4_step_161 rfl rfl ?_
      refine r_aload_n 163 dX4_step_162 rfl rfl ?_
      refine r_getI 166 dX4_step_163 rfl kf_4_69 rfl (by first | assumption | omega) (by assumption) ?_
      try simp only [mW_45, mW_47, mW_48, mW_46, mW_49, mW_50, mW_54, mW_up45, mW_up47, mW_up54, up1_at, ↓reduceIte, Nat.reduceEqDiff, reduceCtorEq]
      refine r_aload_n 167 dX4_step_166 rfl rfl ?_
      refine r_getI 170 dX4_step_167 rfl kf_4_60 rfl (by first | assumption | omega) (by assumption) ?_
      try simp only [mW_45, mW_47, mW_48, mW_46, mW_49, mW_50, mW_54, mW_up45, mW_up47, mW_up54, up1_at, ↓reduceIte, Nat.reduceEqDiff, reduceCtorEq]
      refine r_isub 171 dX4_step_170 rfl (by first | exact w32_id (by omega) (by omega) | rfl) ?_
      refine r_iconst 172 dX4_step_171 rfl rfl ?_
      rotate_left -- leaf: pc 172
      rw [h13]
      refine r_icmp_ge 197 175 dX4_step_172 (by decide) rfl (fun c_172 => ?_) (fun c_172 => ?_)
      refine r_aload_n 198 dX4_step_197 rfl rfl ?_
      refine r_getI 201 dX4_step_198 rfl kf_4_76 rfl (by first | assumption | omega) (by assumption) ?_
      try simp only [mW_45, mW_47, mW_48, mW_46, mW_49, mW_50, mW_54, mW_up45, mW_up47, mW_up54, up1_at, ↓reduceIte, Nat.reduceEqDiff, reduceCtorEq]
      rotate_left -- leaf: pc 201
      refine r_bipush 177 dX4_step_175 rfl rfl (by decide) ?_
      refine r_aload_n 178 dX4_step_177 rfl rfl ?_
      refine r_getI 181 dX4_step_178 rfl kf_4_76 rfl (by first | assumption | omega) (by assumption) ?_
      try simp only [mW_45, mW_47, mW_48, mW_46, mW_49, mW_50, mW_54, mW_up45, mW_up47, mW_up54, up1_at, ↓reduceIte, Nat.reduceEqDiff, reduceCtorEq]
      refine r_imul 182 dX4_step_181 rfl (by first | exact w32_id (by omega) (by omega) | rfl) ?_
      refine r_aload_n 183 dX4_step_182 rfl rfl ?_
      refine r_aload_n 184 dX4_step_183 rfl rfl ?_
      refine r_getI 187 dX4_step_184 rfl kf_4_69 rfl (by first | assumption | omega) (by assumption) ?_
      try simp only [mW_45, mW_47, mW_48, mW_46, mW_49, mW_50, mW_54, mW_up45, mW_up47, mW_up54, up1_at, ↓reduceIte, Nat.reduceEqDiff, reduceCtorEq]
      rotate_left -- leaf: call at pc 187
      · exact J201 _ (by rw [if_neg (by omega)])
      · refine r_cv1 190 dX4_step_187 rfl kv_4_72 (by first | assumption | omega) (by assumption) rfl rfl (m_byteAtW lm0 q (show r 8 ≤ 160 from h8.2)) ?_
        rintro v h' ⟨rfl, rfl⟩
        rw [eb]
        refine r_iadd 191 dX4_step_190 rfl (by first | exact w32_id (by omega) (by omega) | rfl) ?_
        refine r_bipush 193 dX4_step_191 rfl rfl (by decide) ?_
        refine r_isub 194 dX4_step_193 rfl (by first | exact w32_id (by omega) (by omega) | rfl) ?_
        refine r_goto 201 dX4_step_194 (by decide) ?_
        rotate_left -- leaf: pc 201
        exact J201 _ (by rw [if_pos (by omega)])
def stQ (r tp : Nat → Int) : Nat := bhd blB tp ((r 8).toNat - (r 12).toNat) (r 12).toNat
def st0R (r tp : Nat → Int) : Nat → Int := up1 (up1 (up1 r 12 (stQ r tp : Int)) 13 (stQ r tp : Int)) 15 0
def stE (f : Int → Bool) (r tp : Nat → Int) : Nat := bhd f tp ((r 8).toNat - stQ r tp) (stQ r tp)
def stR (r tp : Nat → Int) : Nat → Int :=
  if 0 < r 10 then r
  else if (r 8).toNat ≤ stQ r tp then up1 (st0R r tp) 14 0
  else if leB (tp (stQ r tp)) = true then up1 (up1 (st0R r tp) 12 (stE leB r tp : Int)) 14 1
  else if fiB (tp (stQ r tp)) = true then
    (if stQ r tp + 2 < stE fiB r tp then up1 (up1 (up1 (up1 (up1 (st0R r tp) 15 (vlF tp (stQ r tp) (stE fiB r tp - stQ r tp))) 12 (stE fiB r tp : Int)) 14 2) 10 1) 11 (stQ r tp : Int)
     else up1 (up1 (up1 (st0R r tp) 15 (vlF tp (stQ r tp) (stE fiB r tp - stQ r tp))) 12 (stE fiB r tp : Int)) 14 2)
  else if tp (stQ r tp) = 59 then up1 (up1 (st0R r tp) 14 3) 12 ((stQ r tp : Int) + 1)
  else up1 (up1 (up1 (up1 (st0R r tp) 14 3) 12 ((stQ r tp : Int) + 1)) 10 1) 11 (stQ r tp : Int)
theorem stQ_in {tp : Nat → Int} (w : wS r) : (r 12).toNat ≤ stQ r tp ∧ (stQ r tp : Int) ≤ r 8 := by
  have := bhd_in blB tp ((r 8).toNat - (r 12).toNat) (r 12).toNat
  obtain ⟨w1, w2⟩ := w
  unfold stQ
  omega
theorem m_step (lm : LM G) (wb : wB (h 48)) (w : wS r) (h10 : 0 ≤ r 10) : Ca l G 1 mX4_step [vR 45] (mW h r p) (fun v h' => v = none ∧ h' = mW h (stR r (h 48)) p) := by
  have lm0 := lm
  obtain ⟨hN, ⟨ms45, ms46, ms47, ms48, ms49, ms50, ms51, ms52, ms53, ms54, ms55, ms56, ms57⟩, ⟨ml46, ml47, ml48, ml49, ml50, ml51, ml52, ml53, ml54, ml55, ml56, ml57⟩, ⟨mr0, mr2, mr7, mr16, mr17, mr18, mr20, mr22, mr24, mr25, mr26, mr27⟩⟩ := lm
  refine Ca.of (by decide) (Nat.le_of_ble_eq_true rfl) (fun hI hv hH => ?_)
  have hQ := stQ_in (tp := h 48) w
  obtain ⟨w1, w2⟩ := w
  unfold stR
  refine r_aload_n 1 dX4_step_0 rfl rfl ?_
  refine r_getI 4 dX4_step_1 rfl kf_4_57 rfl (by first | assumption | omega) (by assumption) ?_
  try simp only [mW_45, mW_47, mW_48, mW_46, mW_49, mW_50, mW_54, mW_up45, mW_up47, mW_up54, up1_at, ↓reduceIte, Nat.reduceEqDiff, reduceCtorEq]
  refine r_if_le 8 7 dX4_step_4 (by decide) rfl (fun c_4 => ?_) (fun c_4 => ?_)
  rotate_left -- leaf: pc 8
  refine r_ret dX4_step_7 rfl ?_
  rotate_left -- leaf: return at pc 7
  · rw [if_neg (by omega)]
    have e12 : up1 r 12 (((r 12).toNat : Nat) : Int) = r := by rw [show (((r 12).toNat : Nat) : Int) = r 12 by omega]; exact up1_id
    rw [← e12]
    refine l_stA (l := l) (r := r) lm0 wb w1 _ (r 12).toNat rfl ?_ (by omega)
    rw [e12]
    have eQ : bhd blB (h 48) ((r 8).toNat - (r 12).toNat) (r 12).toNat = stQ r (h 48) := rfl
    rw [eQ]
    have e10 : r 10 = 0 := by omega
    generalize hq : stQ r (h 48) = q at hQ ⊢
    have er0 : st0R r (h 48) = up1 (up1 (up1 r 12 (q : Int)) 13 (q : Int)) 15 0 := by unfold st0R; rw [hq]
    have eE : ∀ f, stE f r (h 48) = bhd f (h 48) ((r 8).toNat - q) q := fun f => by unfold stE; rw [hq]
    rw [er0, eE, eE]
    have hw := wb q
    refine r_aload_n 35 dX4_step_34 rfl rfl ?_
    refine r_aload_n 36 dX4_step_35 rfl rfl ?_
    refine r_getI 39 dX4_step_36 rfl kf_4_69 rfl (by first | assumption | omega) (by assumption) ?_
    try simp only [mW_45, mW_47, mW_48, mW_46, mW_49, mW_50, mW_54, mW_up45, mW_up47, mW_up54, up1_at, ↓reduceIte, Nat.reduceEqDiff, reduceCtorEq]
    refine r_putI 42 dX4_step_39 rfl kf_4_60 rfl rfl (Or.inl rfl) (by first | assumption | omega) (by assumption) ?_
    try simp only [mW_45, mW_47, mW_48, mW_46, mW_49, mW_50, mW_54, mW_up45, mW_up47, mW_up54, up1_at, ↓reduceIte, Nat.reduceEqDiff, reduceCtorEq]
    refine r_aload_n 43 dX4_step_42 rfl rfl ?_
    refine r_aload_n 44 dX4_step_43 rfl rfl ?_
    refine r_getI 47 dX4_step_44 rfl kf_4_69 rfl (by first | assumption | omega) (by assumption) ?_
    try simp only [mW_45, mW_47, mW_48, mW_46, mW_49, mW_50, mW_54, mW_up45, mW_up47, mW_up54, up1_at, ↓reduceIte, Nat.reduceEqDiff, reduceCtorEq]
    rotate_left -- leaf: call at pc 47
    refine r_cv1 50 dX4_step_47 rfl kv_4_72 (by first | assumption | omega) (by assumption) rfl rfl (m_byteAtW lm0 q (show r 8 ≤ 160 from w1.2)) ?_
    rintro v h' ⟨rfl, rfl⟩
    by_cases he : (r 8).toNat ≤ q
    · rw [if_pos he]
      have eb : byA (up1 (up1 r 12 (q : Int)) 13 (q : Int)) (h 48) q = -4 := byA_n (show ¬ (q : Int) < r 8 by omega)
      rw [eb]
      refine r_istore_n 51 dX4_step_50 rfl rfl rfl ?_
      refine r_aload_n 52 dX4_step_51 rfl rfl ?_
      refine r_iconst 53 dX4_step_52 rfl rfl ?_
      refine r_putI 56 dX4_step_53 rfl kf_4_76 rfl rfl (Or.inl rfl) (by first | assumption | omega) (by assumption) ?_
      try simp only [mW_45, mW_47, mW_48, mW_46, mW_49, mW_50, mW_54, mW_up45, mW_up47, mW_up54, up1_at, ↓reduceIte, Nat.reduceEqDiff, reduceCtorEq]
      refine r_iload_n 57 dX4_step_56 rfl rfl ?_
      refine r_bipush 59 dX4_step_57 rfl rfl (by decide) ?_
      refine r_icmp_ne 70 62 dX4_step_59 (by decide) rfl (fun c_59 => ?_) (fun c_59 => ?_)
      rotate_left -- leaf: pc 70
      refine r_aload_n 63 dX4_step_62 rfl rfl ?_
      refine r_iconst 64 dX4_step_63 rfl rfl ?_
      refine r_putI 67 dX4_step_64 rfl kf_4_66 rfl rfl (Or.inl rfl) (by first | assumption | omega) (by assumption) ?_
      try simp only [mW_45, mW_47, mW_48, mW_46, mW_49, mW_50, mW_54, mW_up45, mW_up47, mW_up54, up1_at, ↓reduceIte, Nat.reduceEqDiff, reduceCtorEq]
      refine r_goto 269 dX4_step_67 (by decide) ?_
      refine r_ret dX4_step_269 rfl ?_
      rotate_left -- leaf: return at pc 269
      · omega
      · exact ⟨rfl, rfl⟩
    · rw [if_neg he]
      have eb : byA (up1 (up1 r 12 (q : Int)) 13 (q : Int)) (h 48) q = h 48 q := byA_y (show (q : Int) < r 8 by omega)
      rw [eb]
      refine r_istore_n 51 dX4_step_50 rfl rfl rfl ?_
      refine r_aload_n 52 dX4_step_51 rfl rfl ?_
      refine r_iconst 53 dX4_step_52 rfl rfl ?_
      refine r_putI 56 dX4_step_53 rfl kf_4_76 rfl rfl (Or.inl rfl) (by first | assumption | omega) (by assumption) ?_
      try simp only [mW_45, mW_47, mW_48, mW_46, mW_49, mW_50, mW_54, mW_up45, mW_up47, mW_up54, up1_at, ↓reduceIte, Nat.reduceEqDiff, reduceCtorEq]
      refine r_iload_n 57 dX4_step_56 rfl rfl ?_
      refine r_bipush 59 dX4_step_57 rfl rfl (by decide) ?_
      refine r_icmp_ne 70 62 dX4_step_59 (by decide) rfl (fun c_59 => ?_) (fun c_59 => ?_)
      refine r_iload_n 71 dX4_step_70 rfl rfl ?_
      refine r_i2l 72 dX4_step_71 rfl ?_
      refine r_ldc2 75 (97) dX4_step_72 rfl kq_4_79 rfl ?_
      refine r_ldc2 78 (122) dX4_step_75 rfl kq_4_81 rfl ?_
      rotate_left -- leaf: call at pc 78
      rotate_left -- leaf: pc 62
      · refine r_cs3 81 dX4_step_78 rfl ks_4_49 rfl rfl (c_in (h 48 q) 97 122) ?_
        rintro v h' ⟨rfl, rfl⟩
        refine r_if_eq 126 84 dX4_step_81 (by decide) rfl (fun c_81 => ?_) (fun c_81 => ?_)
        rotate_left -- leaf: pc 126
        rotate_left -- leaf: pc 84
        · have nl : ¬ leB (h 48 q) = true := by have := z01_n.mp c_81; simp [leB]; omega
          rw [if_neg nl]
          refine r_iload_n 127 dX4_step_126 rfl rfl ?_
          refine r_i2l 128 dX4_step_127 rfl ?_
          refine r_ldc2 131 (48) dX4_step_128 rfl kq_4_83 rfl ?_
          refine r_ldc2 134 (57) dX4_step_131 rfl kq_4_85 rfl ?_
          rotate_left -- leaf: call at pc 134
          refine r_cs3 137 dX4_step_134 rfl ks_4_49 rfl rfl (c_in (h 48 q) 48 57) ?_
          rintro v h' ⟨rfl, rfl⟩
          refine r_if_eq 243 140 dX4_step_137 (by decide) rfl (fun c_137 => ?_) (fun c_137 => ?_)
          rotate_left -- leaf: pc 243
          rotate_left -- leaf: pc 140
          · have nf : ¬ fiB (h 48 q) = true := by have := z01_n.mp c_137; simp [fiB]; omega
            rw [if_neg nf]
            refine r_aload_n 244 dX4_step_243 rfl rfl ?_
            refine r_iconst 245 dX4_step_244 rfl rfl ?_
            refine r_putI 248 dX4_step_245 rfl kf_4_66 rfl rfl (Or.inl rfl) (by first | assumption | omega) (by assumption) ?_
            try simp only [mW_45, mW_47, mW_48, mW_46, mW_49, mW_50, mW_54, mW_up45, mW_up47, mW_up54, up1_at, ↓reduceIte, Nat.reduceEqDiff, reduceCtorEq]
            refine r_aload_n 249 dX4_step_248 rfl rfl ?_
            refine r_dup 250 dX4_step_249 rfl rfl ?_
            refine r_getI 253 dX4_step_250 rfl kf_4_69 rfl (by first | assumption | omega) (by assumption) ?_
            try simp only [mW_45, mW_47, mW_48, mW_46, mW_49, mW_50, mW_54, mW_up45, mW_up47, mW_up54, up1_at, ↓reduceIte, Nat.reduceEqDiff, reduceCtorEq]
            refine r_iconst 254 dX4_step_253 rfl rfl ?_
            refine r_iadd 255 dX4_step_254 rfl (by first | exact w32_id (by omega) (by omega) | rfl) ?_
            refine r_putI 258 dX4_step_255 rfl kf_4_69 rfl rfl (Or.inl rfl) (by first | assumption | omega) (by assumption) ?_
            try simp only [mW_45, mW_47, mW_48, mW_46, mW_49, mW_50, mW_54, mW_up45, mW_up47, mW_up54, up1_at, ↓reduceIte, Nat.reduceEqDiff, reduceCtorEq]
            refine r_iload_n 259 dX4_step_258 rfl rfl ?_
            refine r_bipush 261 dX4_step_259 rfl rfl (by decide) ?_
            refine r_icmp_eq 269 264 dX4_step_261 (by decide) rfl (fun c_261 => ?_) (fun c_261 => ?_)
            refine r_ret dX4_step_269 rfl ?_
            rotate_left -- leaf: return at pc 269
            refine r_aload_n 265 dX4_step_264 rfl rfl ?_
            refine r_iconst 266 dX4_step_265 rfl rfl ?_
            rotate_left -- leaf: call at pc 266
            · rw [if_pos c_261]
              exact ⟨rfl, rfl⟩
            · rw [if_neg c_261]
              refine r_cv1 269 dX4_step_266 rfl kv_4_87 (by first | assumption | omega) (by assumption) rfl rfl (m_fails lm0 1) ?_
              rintro v h' ⟨rfl, rfl⟩
              refine r_ret dX4_step_269 rfl ?_
              rotate_left -- leaf: return at pc 269
              refine ⟨rfl, ?_⟩
              unfold flR
              simp only [up1_at, ↓reduceIte, Nat.reduceEqDiff, e10]
          · have yf : fiB (h 48 q) = true := by have := z01_y.mp c_137; simp [fiB]; omega
            rw [if_pos yf]
            have e0 : up1 (up1 (up1 r 12 (q : Int)) 13 (q : Int)) 15 0 = up1 (up1 (up1 (up1 (up1 r 12 (q : Int)) 13 (q : Int)) 15 0) 15 (vlF (h 48) q (q - q))) 12 (q : Int) := by
              rw [Nat.sub_self, show vlF (h 48) q 0 = 0 from rfl, up1_up1]
              exact (up1_id (r := up1 (up1 (up1 r 12 (q : Int)) 13 (q : Int)) 15 0) (j := 12)).symm
            have hI := bhd_in fiB (h 48) ((r 8).toNat - q) q
            refine Rr.eq rfl rfl (congrArg (fun z => mW h z p) e0) ?_
            refine l_stF (l := l) (r := up1 (up1 (up1 r 12 (q : Int)) 13 (q : Int)) 15 0) lm0 wb (h 48 q) q rfl (show 0 ≤ r 8 ∧ r 8 ≤ 160 from w1) ((r 8).toNat - q) q rfl (Nat.le_refl _) ?_ (show (q : Int) ≤ r 8 from hQ.2)
            generalize bhd fiB (h 48) ((r 8).toNat - q) q = e at hI ⊢
            refine r_aload_n 218 dX4_step_217 rfl rfl ?_
            refine r_iconst 219 dX4_step_218 rfl rfl ?_
            refine r_putI 222 dX4_step_219 rfl kf_4_66 rfl rfl (Or.inl rfl) (by first | assumption | omega) (by assumption) ?_
            try simp only [mW_45, mW_47, mW_48, mW_46, mW_49, mW_50, mW_54, mW_up45, mW_up47, mW_up54, up1_at, ↓reduceIte, Nat.reduceEqDiff, reduceCtorEq]
            refine r_aload_n 223 dX4_step_222 rfl rfl ?_
            refine r_getI 226 dX4_step_223 rfl kf_4_69 rfl (by first | assumption | omega) (by assumption) ?_
            try simp only [mW_45, mW_47, mW_48, mW_46, mW_49, mW_50, mW_54, mW_up45, mW_up47, mW_up54, up1_at, ↓reduceIte, Nat.reduceEqDiff, reduceCtorEq]
            refine r_aload_n 227 dX4_step_226 rfl rfl ?_
            refine r_getI 230 dX4_step_227 rfl kf_4_60 rfl (by first | assumption | omega) (by assumption) ?_
            try simp only [mW_45, mW_47, mW_48, mW_46, mW_49, mW_50, mW_54, mW_up45, mW_up47, mW_up54, up1_at, ↓reduceIte, Nat.reduceEqDiff, reduceCtorEq]
            refine r_isub 231 dX4_step_230 rfl (by first | exact w32_id (by omega) (by omega) | rfl) ?_
            refine r_iconst 232 dX4_step_231 rfl rfl ?_
            refine r_icmp_le 269 235 dX4_step_232 (by decide) rfl (fun c_232 => ?_) (fun c_232 => ?_)
            refine r_ret dX4_step_269 rfl ?_
            rotate_left -- leaf: return at pc 269
            refine r_aload_n 236 dX4_step_235 rfl rfl ?_
            refine r_iconst 237 dX4_step_236 rfl rfl ?_
            rotate_left -- leaf: call at pc 237
            · rw [if_neg (by omega)]
              exact ⟨rfl, rfl⟩
            · rw [if_pos (by omega)]
              refine r_cv1 240 dX4_step_237 rfl kv_4_87 (by first | assumption | omega) (by assumption) rfl rfl (m_fails lm0 1) ?_
              rintro v h' ⟨rfl, rfl⟩
              refine r_goto 269 dX4_step_240 (by decide) ?_
              refine r_ret dX4_step_269 rfl ?_
              rotate_left -- leaf: return at pc 269
              refine ⟨rfl, ?_⟩
              unfold flR
              simp only [up1_at, ↓reduceIte, Nat.reduceEqDiff, e10]
        · have yl : leB (h 48 q) = true := by have := z01_y.mp c_81; simp [leB]; omega
          rw [if_pos yl]
          have e0 : up1 (up1 (up1 r 12 (q : Int)) 13 (q : Int)) 15 0 = up1 (up1 (up1 (up1 r 12 (q : Int)) 13 (q : Int)) 15 0) 12 (q : Int) := (up1_id (r := up1 (up1 (up1 r 12 (q : Int)) 13 (q : Int)) 15 0) (j := 12)).symm
          refine Rr.eq rfl rfl (congrArg (fun z => mW h z p) e0) ?_
          refine l_stL (l := l) (r := up1 (up1 (up1 r 12 (q : Int)) 13 (q : Int)) 15 0) lm0 wb (h 48 q) (show 0 ≤ r 8 ∧ r 8 ≤ 160 from w1) ((r 8).toNat - q) q rfl ?_ (show (q : Int) ≤ r 8 from hQ.2)
          refine r_aload_n 119 dX4_step_118 rfl rfl ?_
          refine r_iconst 120 dX4_step_119 rfl rfl ?_
          refine r_putI 123 dX4_step_120 rfl kf_4_66 rfl rfl (Or.inl rfl) (by first | assumption | omega) (by assumption) ?_
          try simp only [mW_45, mW_47, mW_48, mW_46, mW_49, mW_50, mW_54, mW_up45, mW_up47, mW_up54, up1_at, ↓reduceIte, Nat.reduceEqDiff, reduceCtorEq]
          refine r_goto 269 dX4_step_123 (by decide) ?_
          refine r_ret dX4_step_269 rfl ?_
          rotate_left -- leaf: return at pc 269
          exact ⟨rfl, rfl⟩
      · omega
  · rw [if_pos (by omega)]
    exact ⟨rfl, rfl⟩
end MT
