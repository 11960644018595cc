/-! SunPointerModel: ask, drift in general -/
def alM (d : Nat → Int) (P a : Nat) : Nat → Int
  | 0 => 0
  | b + 1 => alM d P a b + (if bitI P b = 1 ∧ d a = d b then 1 else 0)
theorem alM_in (d : Nat → Int) (P a : Nat) : ∀ b : Nat, 0 ≤ alM d P a b ∧ alM d P a b ≤ b
  | 0 => by simp [alM]
  | b + 1 => by
    have := alM_in d P a b
    unfold alM
    split <;> omega
def aaM (d : Nat → Int) (P a : Nat) : Int := if bitI P a = 1 then alM d P a 7 else 0
def woA (d : Nat → Int) (P : Nat) : Nat → Int
  | 0 => 0
  | a + 1 => if woA d P a < aaM d P a then aaM d P a else woA d P a
def akM (h : zH) (m P i : Nat) : Int := woA (fun v => dlM h m i v) P 7
def nAsk (m x : Int) (h : zH) : Int := if ¬ ((0 ≤ m ∧ m < h 45 1) ∧ (0 ≤ x ∧ x ≤ 1)) then -1 else soB x (miF (akM h m.toNat (orN (laM h m.toNat) 7)) (-4) (sumF (fun k => bitI (orN (laM h m.toNat) 7 : Nat) k) 12) (h 46 32).toNat)
section MO
variable {l : Launch} {G : zG} {h : zH}
theorem l_bits (P : Nat) (hP : P < 128) {Φ : Option zV → zH → Prop} (hΦ : Φ (some (vI (sumF (fun k => bitI (P : Int) k) 12))) h) : ∀ (n k : Nat), k + n = 12 → Rr l G 0 mX4_bitsOf Φ 4 [some (vI (P : Int)), some (vI (sumF (fun k => bitI (P : Int) k) k)), some (vI k)] [] h := by
  intro n
  induction n with
  | zero =>
    intro k hk
    obtain rfl : k = 12 := by omega
    refine r_iload_n 5 dX4_bitsOf_4 rfl rfl ?_
    refine r_bipush 7 dX4_bitsOf_5 rfl rfl (by decide) ?_
    refine r_icmp_ge 24 10 dX4_bitsOf_7 (by decide) rfl (fun c_7 => ?_) (fun c_7 => ?_)
    refine r_iload_n 25 dX4_bitsOf_24 rfl rfl ?_
    refine r_iret dX4_bitsOf_25 rfl ?_
    rotate_left -- leaf: return at pc 25
    rotate_left -- leaf: pc 10
    · exact hΦ
    · omega
  | succ n ih =>
    intro k hk
    have ih := ih (k + 1) (by omega)
    rw [sumF] at ih
    have hs := sumF_in (f := fun k => bitI (P : Int) k) (B := 1) (fun i => by have := bitI_c (P : Int) i; omega) k
    have hb := bitI_c (P : Int) k
    refine r_iload_n 5 dX4_bitsOf_4 rfl rfl ?_
    refine r_bipush 7 dX4_bitsOf_5 rfl rfl (by decide) ?_
    refine r_icmp_ge 24 10 dX4_bitsOf_7 (by decide) rfl (fun c_7 => ?_) (fun c_7 => ?_)
    rotate_left -- leaf: pc 24
    refine r_iload_n 11 dX4_bitsOf_10 rfl rfl ?_
    refine r_iload_n 12 dX4_bitsOf_11 rfl rfl ?_
    refine r_iload_n 13 dX4_bitsOf_12 rfl rfl ?_
    refine r_ishr 14 dX4_bitsOf_13 rfl rfl ?_
    refine r_iconst 15 dX4_bitsOf_14 rfl rfl ?_
    refine r_iand 16 dX4_bitsOf_15 rfl rfl ?_
    rotate_left -- leaf: pc 16
    · omega
    rw [z_bit ⟨by omega, by omega⟩ (by omega)]
    refine r_iadd 17 dX4_bitsOf_16 rfl (by first | exact w32_id (by omega) (by omega) | rfl) ?_
    refine r_istore_n 18 dX4_bitsOf_17 rfl rfl rfl ?_
    refine r_iinc 21 _ dX4_bitsOf_18 rfl rfl rfl rfl (by first | exact w32_id (by omega) (by omega) | rfl) ?_
    refine r_goto 4 dX4_bitsOf_21 (by decide) ?_
    rotate_left -- leaf: pc 4
    exact ih
theorem m_bitsOf (P : Nat) (hP : P < 128) : Ca l G 0 mX4_bitsOf [vI (P : Int)] h (fun r h' => r = some (vI (sumF (fun k => bitI (P : Int) k) 12)) ∧ h' = h) := by
  refine Ca.of (by decide) (Nat.le_of_ble_eq_true rfl) (fun hI hv hH => ?_)
  refine r_iconst 1 dX4_bitsOf_0 rfl rfl ?_
  refine r_istore_n 2 dX4_bitsOf_1 rfl rfl rfl ?_
  refine r_iconst 3 dX4_bitsOf_2 rfl rfl ?_
  refine r_istore_n 4 dX4_bitsOf_3 rfl rfl rfl ?_
  rotate_left -- leaf: pc 4
  exact l_bits (l := l) P hP (Φ := fun r h' => r = some (vI (sumF (fun k => bitI (P : Int) k) 12)) ∧ h' = h) ⟨rfl, rfl⟩ 12 0 rfl
theorem l_akB (lm : LM G) (m x wh wo : Int) (P i a : Nat) (hP : P < 128) (hi : i < 5) (ha : a < 7) (d : Nat → Int) (hd : ∀ u : Nat, u < 7 → h 53 (5 * u + i) = d u) (hb : bitI (P : Int) a = 1) {Φ : Option zV → zH → Prop} (hΦ : Rr l G 6 mX4_ask Φ 142 [some (vR 45), some (vI m), some (vI x), some (vI (P : Int)), some (vI wh), some (vI i), some (vI wo), some (vI a), some (vI (alM d P a 7)), some (vI 7)] [] h) : ∀ (n b : Nat), b + n = 7 → Rr l G 6 mX4_ask Φ 72 [some (vR 45), some (vI m), some (vI x), some (vI (P : Int)), some (vI wh), some (vI i), some (vI wo), some (vI a), some (vI (alM d P a b)), some (vI b)] [] h := by
  obtain ⟨hN, ⟨ms45, ms46, ms47, ms48, ms49, ms50, ms51, ms52, ms53, ms54, ms55, ms56, ms57⟩, ⟨ml46, ml47, ml48, ml49, ml50, ml51, ml52, ml53, ml54, ml55, ml56, ml57⟩, ⟨mr0, mr2, mr7, mr16, mr17, mr18, mr20, mr22, mr24, mr25, mr26, mr27⟩⟩ := lm
  intro n
  induction n with
  | zero =>
    intro b hb7
    obtain rfl : b = 7 := by omega
    refine r_iload 74 dX4_ask_72 rfl rfl ?_
    refine r_bipush 76 dX4_ask_74 rfl rfl (by decide) ?_
    refine r_icmp_gt 142 79 dX4_ask_76 (by decide) rfl (fun c_76 => ?_) (fun c_76 => ?_)
    rotate_left -- leaf: pc 142
    rotate_left -- leaf: pc 79
    · exact hΦ
    · omega
  | succ n ih =>
    intro b hb7
    have ih := ih (b + 1) (by omega)
    rw [alM] at ih
    have hal := alM_in d P a b
    have ea : (5 * (a : Int) + (i : Int)).toNat = 5 * a + i := by omega
    have eb : (5 * (b : Int) + (i : Int)).toNat = 5 * b + i := by omega
    refine r_iload 74 dX4_ask_72 rfl rfl ?_
    refine r_bipush 76 dX4_ask_74 rfl rfl (by decide) ?_
    refine r_icmp_gt 142 79 dX4_ask_76 (by decide) rfl (fun c_76 => ?_) (fun c_76 => ?_)
    rotate_left -- leaf: pc 142
    refine r_iload_n 80 dX4_ask_79 rfl rfl ?_
    refine r_iload 82 dX4_ask_80 rfl rfl ?_
    refine r_ishr 83 dX4_ask_82 rfl rfl ?_
    refine r_iconst 84 dX4_ask_83 rfl rfl ?_
    refine r_iand 85 dX4_ask_84 rfl rfl ?_
    refine r_iconst 86 dX4_ask_85 rfl rfl ?_
    rotate_left -- leaf: pc 86
    · omega
    rw [z_bit ⟨by omega, by omega⟩ (by omega)]
    refine r_icmp_ne 142 89 dX4_ask_86 (by decide) rfl (fun c_86 => ?_) (fun c_86 => ?_)
    rotate_left -- leaf: pc 142
    refine r_iload 91 dX4_ask_89 rfl rfl ?_
    refine r_iload_n 92 dX4_ask_91 rfl rfl ?_
    refine r_iload 94 dX4_ask_92 rfl rfl ?_
    refine r_ishr 95 dX4_ask_94 rfl rfl ?_
    refine r_iconst 96 dX4_ask_95 rfl rfl ?_
    refine r_iand 97 dX4_ask_96 rfl rfl ?_
    refine r_iconst 98 dX4_ask_97 rfl rfl ?_
    rotate_left -- leaf: pc 98
    · exact absurd hb c_86
    rw [z_bit ⟨by omega, by omega⟩ (by omega)]
    refine r_icmp_ne 132 101 dX4_ask_98 (by decide) rfl (fun c_98 => ?_) (fun c_98 => ?_)
    refine r_iconst 133 dX4_ask_132 rfl rfl ?_
    rotate_left -- leaf: pc 133
    refine r_aload_n 102 dX4_ask_101 rfl rfl ?_
    refine r_getR 105 dX4_ask_102 rfl kf_4_31 rfl (by first | assumption | omega) (by assumption) (by assumption) ?_
    refine r_iconst 106 dX4_ask_105 rfl rfl ?_
    refine r_iload 108 dX4_ask_106 rfl rfl ?_
    refine r_imul 109 dX4_ask_108 rfl (by first | exact w32_id (by omega) (by omega) | rfl) ?_
    refine r_iload 111 dX4_ask_109 rfl rfl ?_
    refine r_iadd 112 dX4_ask_111 rfl (by first | exact w32_id (by omega) (by omega) | rfl) ?_
    refine r_iald 113 dX4_ask_112 rfl (by first | assumption | omega) (by assumption) (by first | omega | (simp only [Int.toNat_natCast]; omega)) (by first | omega | (simp only [Int.toNat_natCast]; omega)) ?_
    try simp only [Int.toNat_natCast, tq_4, tq_8, tq_22, tq_27, tq_99, tq_a, tl_0, tl_1, tl_20, tl_21, tl_22, tl_32]
    refine r_aload_n 114 dX4_ask_113 rfl rfl ?_
    refine r_getR 117 dX4_ask_114 rfl kf_4_31 rfl (by first | assumption | omega) (by assumption) (by assumption) ?_
    refine r_iconst 118 dX4_ask_117 rfl rfl ?_
    refine r_iload 120 dX4_ask_118 rfl rfl ?_
    refine r_imul 121 dX4_ask_120 rfl (by first | exact w32_id (by omega) (by omega) | rfl) ?_
    refine r_iload 123 dX4_ask_121 rfl rfl ?_
    refine r_iadd 124 dX4_ask_123 rfl (by first | exact w32_id (by omega) (by omega) | rfl) ?_
    refine r_iald 125 dX4_ask_124 rfl (by first | assumption | omega) (by assumption) (by first | omega | (simp only [Int.toNat_natCast]; omega)) (by first | omega | (simp only [Int.toNat_natCast]; omega)) ?_
    try simp only [Int.toNat_natCast, tq_4, tq_8, tq_22, tq_27, tq_99, tq_a, tl_0, tl_1, tl_20, tl_21, tl_22, tl_32]
    refine r_icmp_ne 132 128 dX4_ask_125 (by decide) rfl (fun c_125 => ?_) (fun c_125 => ?_)
    refine r_iconst 133 dX4_ask_132 rfl rfl ?_
    rotate_left -- leaf: pc 133
    refine r_iconst 129 dX4_ask_128 rfl rfl ?_
    refine r_goto 133 dX4_ask_129 (by decide) ?_
    rotate_left -- leaf: pc 133
    · rw [if_neg (fun z => c_98 z.1)] at ih
      refine r_iadd 134 dX4_ask_133 rfl (by first | exact w32_id (by omega) (by omega) | rfl) ?_
      refine r_istore 136 dX4_ask_134 rfl rfl rfl ?_
      refine r_iinc 139 _ dX4_ask_136 rfl rfl rfl rfl (by first | exact w32_id (by omega) (by omega) | rfl) ?_
      refine r_goto 72 dX4_ask_139 (by decide) ?_
      rotate_left -- leaf: pc 72
      exact ih
    · rw [ea, eb, hd a ha, hd b (by omega)] at c_125
      rw [if_neg (fun z => c_125 z.2)] at ih
      refine r_iadd 134 dX4_ask_133 rfl (by first | exact w32_id (by omega) (by omega) | rfl) ?_
      refine r_istore 136 dX4_ask_134 rfl rfl rfl ?_
      refine r_iinc 139 _ dX4_ask_136 rfl rfl rfl rfl (by first | exact w32_id (by omega) (by omega) | rfl) ?_
      refine r_goto 72 dX4_ask_139 (by decide) ?_
      rotate_left -- leaf: pc 72
      exact ih
    · rw [ea, eb, hd a ha, hd b (by omega)] at c_125
      rw [if_pos ⟨c_98, c_125⟩] at ih
      refine r_iadd 134 dX4_ask_133 rfl (by first | exact w32_id (by omega) (by omega) | rfl) ?_
      refine r_istore 136 dX4_ask_134 rfl rfl rfl ?_
      refine r_iinc 139 _ dX4_ask_136 rfl rfl rfl rfl (by first | exact w32_id (by omega) (by omega) | rfl) ?_
      refine r_goto 72 dX4_ask_139 (by decide) ?_
      rotate_left -- leaf: pc 72
      exact ih
theorem l_akA (lm : LM G) (m x wh : Int) (P i : Nat) (hP : P < 128) (hi : i < 5) (d : Nat → Int) (hd : ∀ u : Nat, u < 7 → h 53 (5 * u + i) = d u) {Φ : Option zV → zH → Prop} (hΦ : ∀ x8 x9 : Option zV, Rr l G 6 mX4_ask Φ 164 [some (vR 45), some (vI m), some (vI x), some (vI (P : Int)), some (vI wh), some (vI i), some (vI (woA d P 7)), some (vI 7), x8, x9] [] h) : ∀ (n a : Nat) (x8 x9 : Option zV), a + n = 7 → Rr l G 6 mX4_ask Φ 59 [some (vR 45), some (vI m), some (vI x), some (vI (P : Int)), some (vI wh), some (vI i), some (vI (woA d P a)), some (vI a), x8, x9] [] h := by
  have lm0 := lm
  obtain ⟨hN, ⟨ms45, ms46, ms47, ms48, ms49, ms50, ms51, ms52, ms53, ms54, ms55, ms56, ms57⟩, ⟨ml46, ml47, ml48, ml49, ml50, ml51, ml52, ml53, ml54, ml55, ml56, ml57⟩, ⟨mr0, mr2, mr7, mr16, mr17, mr18, mr20, mr22, mr24, mr25, mr26, mr27⟩⟩ := lm
  intro n
  induction n with
  | zero =>
    intro a x8 x9 ha
    obtain rfl : a = 7 := by omega
    refine r_iload 61 dX4_ask_59 rfl rfl ?_
    refine r_bipush 63 dX4_ask_61 rfl rfl (by decide) ?_
    refine r_icmp_gt 164 66 dX4_ask_63 (by decide) rfl (fun c_63 => ?_) (fun c_63 => ?_)
    rotate_left -- leaf: pc 164
    rotate_left -- leaf: pc 66
    · exact hΦ x8 x9
    · omega
  | succ n ih =>
    intro a x8 x9 ha
    have ih := ih (a + 1)
    rw [woA] at ih
    have J142 : ∀ (al : Int) (x9 : Option zV), al = aaM d P a → Rr l G 6 mX4_ask Φ 142 [some (vR 45), some (vI m), some (vI x), some (vI (P : Int)), some (vI wh), some (vI i), some (vI (woA d P a)), some (vI a), some (vI al), x9] [] h := by
      intro al x9 hal
      subst hal
      have ih := ih (some (vI (aaM d P a))) x9 (by omega)
      refine r_iload 144 dX4_ask_142 rfl rfl ?_
      refine r_iload 146 dX4_ask_144 rfl rfl ?_
      refine r_icmp_le 154 149 dX4_ask_146 (by decide) rfl (fun c_146 => ?_) (fun c_146 => ?_)
      refine r_iload 156 dX4_ask_154 rfl rfl ?_
      refine r_istore 158 dX4_ask_156 rfl rfl rfl ?_
      refine r_iinc 161 _ dX4_ask_158 rfl rfl rfl rfl (by first | exact w32_id (by omega) (by omega) | rfl) ?_
      refine r_goto 59 dX4_ask_161 (by decide) ?_
      rotate_left -- leaf: pc 59
      refine r_iload 151 dX4_ask_149 rfl rfl ?_
      refine r_goto 156 dX4_ask_151 (by decide) ?_
      refine r_istore 158 dX4_ask_156 rfl rfl rfl ?_
      refine r_iinc 161 _ dX4_ask_158 rfl rfl rfl rfl (by first | exact w32_id (by omega) (by omega) | rfl) ?_
      refine r_goto 59 dX4_ask_161 (by decide) ?_
      rotate_left -- leaf: pc 59
      · rw [if_neg (by omega)] at ih
        exact ih
      · rw [if_pos (by omega)] at ih
        exact ih
    refine r_iload 61 dX4_ask_59 rfl rfl ?_
    refine r_bipush 63 dX4_ask_61 rfl rfl (by decide) ?_
    refine r_icmp_gt 164 66 dX4_ask_63 (by decide) rfl (fun c_63 => ?_) (fun c_63 => ?_)
    rotate_left -- leaf: pc 164
    refine r_iconst 67 dX4_ask_66 rfl rfl ?_
    refine r_istore 69 dX4_ask_67 rfl rfl rfl ?_
    refine r_iconst 70 dX4_ask_69 rfl rfl ?_
    refine r_istore 72 dX4_ask_70 rfl rfl rfl ?_
    rotate_left -- leaf: pc 72
    · omega
    by_cases hb : bitI (P : Int) a = 1
    · exact l_akB (l := l) lm0 m x wh (woA d P a) P i a hP hi (by omega) d hd hb (J142 _ _ (by unfold aaM; rw [if_pos hb])) 7 0 rfl
    · refine r_iload 74 dX4_ask_72 rfl rfl ?_
      refine r_bipush 76 dX4_ask_74 rfl rfl (by decide) ?_
      refine r_icmp_gt 142 79 dX4_ask_76 (by decide) rfl (fun c_76 => ?_) (fun c_76 => ?_)
      rotate_left -- leaf: pc 142
      refine r_iload_n 80 dX4_ask_79 rfl rfl ?_
      refine r_iload 82 dX4_ask_80 rfl rfl ?_
      refine r_ishr 83 dX4_ask_82 rfl rfl ?_
      refine r_iconst 84 dX4_ask_83 rfl rfl ?_
      refine r_iand 85 dX4_ask_84 rfl rfl ?_
      refine r_iconst 86 dX4_ask_85 rfl rfl ?_
      rotate_left -- leaf: pc 86
      · omega
      rw [z_bit ⟨by omega, by omega⟩ (by omega)]
      refine r_icmp_ne 142 89 dX4_ask_86 (by decide) rfl (fun c_86 => ?_) (fun c_86 => ?_)
      rotate_left -- leaf: pc 142
      rotate_left -- leaf: pc 89
      · exact J142 _ _ (by unfold aaM; rw [if_neg hb])
      · exact absurd c_86 hb
theorem l_akO (lm : LM G) (wm : wM h) (m : Nat) (x : Int) (P : Nat) (hP : P < 128) (l0 : Int) {C : zH} (hC : ∀ a b, a ≠ 51 → a ≠ 53 → C a b = h a b ∨ (a = 45 ∧ b = 19)) (h53 : ∀ u i : Nat, (i : Int) < h 46 32 → u < 7 → C 53 (5 * u + i) = dlM h m i u) {Φ : Option zV → zH → Prop} (hΦ : ∀ h', sc5 h h' → Φ (some (vI (soB x (miF (akM h m P) (-4) l0 (h 46 32).toNat)))) h') : ∀ (n i : Nat) (x6 x7 x8 x9 : Option zV) (H : zH), (i : Int) + n = h 46 32 → (∀ a b, ¬ (a = 45 ∧ b = 19) → H a b = C a b) → H 45 19 = (miF (akM h m P) (-4) l0 i).2 → Rr l G 6 mX4_ask Φ 41 [some (vR 45), some (vI m), some (vI x), some (vI (P : Int)), some (vI (miF (akM h m P) (-4) l0 i).1), some (vI i), x6, x7, x8, x9] [] H := by
  have lm0 := lm
  obtain ⟨hN, ⟨ms45, ms46, ms47, ms48, ms49, ms50, ms51, ms52, ms53, ms54, ms55, ms56, ms57⟩, ⟨ml46, ml47, ml48, ml49, ml50, ml51, ml52, ml53, ml54, ml55, ml56, ml57⟩, ⟨mr0, mr2, mr7, mr16, mr17, mr18, mr20, mr22, mr24, mr25, mr26, mr27⟩⟩ := lm
  obtain ⟨⟨wg1, wg2, wg3, wg4, wg5, wg6, wg7, wg8⟩, wmen, wtp, wsm⟩ := wm
  have hc5 : ∀ H : zH, (∀ a b, ¬ (a = 45 ∧ b = 19) → H a b = C a b) → sc5 h H := fun H he a b q1 q2 q3 q4 => by
    rw [he a b (by omega)]
    rcases hC a b q1 q2 with z | z
    · exact z
    · exact absurd z (by omega)
  intro n
  induction n with
  | zero =>
    intro i x6 x7 x8 x9 H hi he hl
    have hΦ := hΦ H (hc5 H he)
    have e32 : H 46 32 = h 46 32 := hc5 H he 46 32 (by omega) (by omega) (by omega) (by omega)
    unfold soB at hΦ
    rw [show (h 46 32).toNat = i by omega] at hΦ
    refine r_iload 43 dX4_ask_41 rfl rfl ?_
    refine r_aload_n 44 dX4_ask_43 rfl rfl ?_
    refine r_getR 47 dX4_ask_44 rfl kf_4_7 rfl (by first | assumption | omega) (by assumption) (by assumption) ?_
    refine r_bipush 49 dX4_ask_47 rfl rfl (by decide) ?_
    refine r_iald 50 dX4_ask_49 rfl (by first | assumption | omega) (by assumption) (by first | omega | (simp only [Int.toNat_natCast]; omega)) (by first | omega | (simp only [Int.toNat_natCast]; omega)) ?_
    try simp only [Int.toNat_natCast, tq_4, tq_8, tq_22, tq_27, tq_99, tq_a, tl_0, tl_1, tl_20, tl_21, tl_22, tl_32]
    rotate_left -- leaf: pc 50
    rw [e32]
    refine r_icmp_ge 188 53 dX4_ask_50 (by decide) rfl (fun c_50 => ?_) (fun c_50 => ?_)
    refine r_iload 190 dX4_ask_188 rfl rfl ?_
    refine r_bipush 192 dX4_ask_190 rfl rfl (by decide) ?_
    refine r_icmp_eq 199 195 dX4_ask_192 (by decide) rfl (fun c_192 => ?_) (fun c_192 => ?_)
    refine r_iload 201 dX4_ask_199 rfl rfl ?_
    refine r_goto 208 dX4_ask_201 (by decide) ?_
    refine r_iret dX4_ask_208 rfl ?_
    rotate_left -- leaf: return at pc 208
    refine r_iload_n 196 dX4_ask_195 rfl rfl ?_
    refine r_if_ne 204 199 dX4_ask_196 (by decide) rfl (fun c_196 => ?_) (fun c_196 => ?_)
    refine r_aload_n 205 dX4_ask_204 rfl rfl ?_
    refine r_getI 208 dX4_ask_205 rfl kf_4_189 rfl (by first | assumption | omega) (by assumption) ?_
    refine r_iret dX4_ask_208 rfl ?_
    rotate_left -- leaf: return at pc 208
    refine r_iload 201 dX4_ask_199 rfl rfl ?_
    refine r_goto 208 dX4_ask_201 (by decide) ?_
    refine r_iret dX4_ask_208 rfl ?_
    rotate_left -- leaf: return at pc 208
    rotate_left -- leaf: pc 53
    · rw [if_pos (Or.inl c_192)] at hΦ
      exact hΦ
    · rw [if_neg (by omega)] at hΦ
      rw [hl]
      exact hΦ
    · rw [if_pos (Or.inr c_196)] at hΦ
      exact hΦ
    · omega
  | succ n ih =>
    intro i x6 x7 x8 x9 H hi he hl
    have e32 : H 46 32 = h 46 32 := hc5 H he 46 32 (by omega) (by omega) (by omega) (by omega)
    refine r_iload 43 dX4_ask_41 rfl rfl ?_
    refine r_aload_n 44 dX4_ask_43 rfl rfl ?_
    refine r_getR 47 dX4_ask_44 rfl kf_4_7 rfl (by first | assumption | omega) (by assumption) (by assumption) ?_
    refine r_bipush 49 dX4_ask_47 rfl rfl (by decide) ?_
    refine r_iald 50 dX4_ask_49 rfl (by first | assumption | omega) (by assumption) (by first | omega | (simp only [Int.toNat_natCast]; omega)) (by first | omega | (simp only [Int.toNat_natCast]; omega)) ?_
    try simp only [Int.toNat_natCast, tq_4, tq_8, tq_22, tq_27, tq_99, tq_a, tl_0, tl_1, tl_20, tl_21, tl_22, tl_32]
    rotate_left -- leaf: pc 50
    rw [e32]
    refine r_icmp_ge 188 53 dX4_ask_50 (by decide) rfl (fun c_50 => ?_) (fun c_50 => ?_)
    rotate_left -- leaf: pc 188
    refine r_iconst 54 dX4_ask_53 rfl rfl ?_
    refine r_istore 56 dX4_ask_54 rfl rfl rfl ?_
    refine r_iconst 57 dX4_ask_56 rfl rfl ?_
    refine r_istore 59 dX4_ask_57 rfl rfl rfl ?_
    rotate_left -- leaf: pc 59
    · omega
    refine l_akA (l := l) lm0 m x _ P i hP (by omega) (fun v => dlM h m i v) (fun u hu => by rw [he 53 _ (by omega)]; exact h53 u i (by omega) hu) (fun x8 x9 => ?_) 7 0 x8 x9 rfl
    have ev : woA (fun v => dlM h m i v) P 7 = akM h m P i := rfl
    rw [ev]
    refine r_aload_n 165 dX4_ask_164 rfl rfl ?_
    refine r_iload 167 dX4_ask_165 rfl rfl ?_
    rotate_left -- leaf: call at pc 167
    refine r_cv1 170 dX4_ask_167 rfl kv_4_193 (by first | assumption | omega) (by assumption) rfl rfl (m_isLess lm0 (akM h m P i)) ?_
    rintro r h'' (⟨q1, rfl, rfl⟩ | ⟨q1, rfl, rfl⟩)
    · rw [hl] at q1
      refine r_if_eq 178 173 dX4_ask_170 (by decide) rfl (fun c_170 => ?_) (fun c_170 => ?_)
      refine r_iload 180 dX4_ask_178 rfl rfl ?_
      refine r_istore 182 dX4_ask_180 rfl rfl rfl ?_
      refine r_iinc 185 _ dX4_ask_182 rfl rfl rfl rfl (by first | exact w32_id (by omega) (by omega) | rfl) ?_
      refine r_goto 41 dX4_ask_185 (by decide) ?_
      rotate_left -- leaf: pc 41
      refine r_iload 175 dX4_ask_173 rfl rfl ?_
      refine r_goto 180 dX4_ask_175 (by decide) ?_
      refine r_istore 182 dX4_ask_180 rfl rfl rfl ?_
      refine r_iinc 185 _ dX4_ask_182 rfl rfl rfl rfl (by first | exact w32_id (by omega) (by omega) | rfl) ?_
      refine r_goto 41 dX4_ask_185 (by decide) ?_
      rotate_left -- leaf: pc 41
      · omega
      · have := ih (i + 1) (some (vI (akM h m P i))) (some (vI 7)) x8 x9 (up H 45 19 (akM h m P i)) (by omega) (fun a b z2 => by rw [up_n z2]; exact he a b z2) (by rw [up_s]; simp only [miF]; rw [if_pos q1])
        simp only [miF] at this
        rw [if_pos q1] at this
        exact this
    · rw [hl] at q1
      refine r_if_eq 178 173 dX4_ask_170 (by decide) rfl (fun c_170 => ?_) (fun c_170 => ?_)
      refine r_iload 180 dX4_ask_178 rfl rfl ?_
      refine r_istore 182 dX4_ask_180 rfl rfl rfl ?_
      refine r_iinc 185 _ dX4_ask_182 rfl rfl rfl rfl (by first | exact w32_id (by omega) (by omega) | rfl) ?_
      refine r_goto 41 dX4_ask_185 (by decide) ?_
      rotate_left -- leaf: pc 41
      refine r_iload 175 dX4_ask_173 rfl rfl ?_
      refine r_goto 180 dX4_ask_175 (by decide) ?_
      refine r_istore 182 dX4_ask_180 rfl rfl rfl ?_
      refine r_iinc 185 _ dX4_ask_182 rfl rfl rfl rfl (by first | exact w32_id (by omega) (by omega) | rfl) ?_
      refine r_goto 41 dX4_ask_185 (by decide) ?_
      rotate_left -- leaf: pc 41
      · have := ih (i + 1) (some (vI (akM h m P i))) (some (vI 7)) x8 x9 _ (by omega) he (by rw [hl]; simp only [miF]; rw [if_neg (by omega)])
        simp only [miF] at this
        rw [if_neg (by omega)] at this
        exact this
      · omega
theorem m_ask (lm : LM G) (wm : wM h) (m x : Int) : Ca l G 6 mX4_ask [vR 45, vI m, vI x] h (fun r h' => r = some (vI (nAsk m x h)) ∧ sc5 h h') := by
  have lm0 := lm
  have wm0 := wm
  obtain ⟨hN, ⟨ms45, ms46, ms47, ms48, ms49, ms50, ms51, ms52, ms53, ms54, ms55, ms56, ms57⟩, ⟨ml46, ml47, ml48, ml49, ml50, ml51, ml52, ml53, ml54, ml55, ml56, ml57⟩, ⟨mr0, mr2, mr7, mr16, mr17, mr18, mr20, mr22, mr24, mr25, mr26, mr27⟩⟩ := lm
  obtain ⟨⟨wg1, wg2, wg3, wg4, wg5, wg6, wg7, wg8⟩, wmen, wtp, wsm⟩ := wm
  refine Ca.of (by decide) (Nat.le_of_ble_eq_true rfl) (fun hI hv hH => ?_)
  unfold nAsk
  refine r_aload_n 1 dX4_ask_0 rfl rfl ?_
  refine r_iload_n 2 dX4_ask_1 rfl rfl ?_
  rotate_left -- leaf: call at pc 2
  refine r_cv1 5 dX4_ask_2 rfl kv_4_161 (by first | assumption | omega) (by assumption) rfl rfl (m_isMan lm0 wm0 m) ?_
  rintro r h' ⟨rfl, rfl⟩
  refine r_if_eq 18 8 dX4_ask_5 (by decide) rfl (fun c_5 => ?_) (fun c_5 => ?_)
  refine r_iconst 19 dX4_ask_18 rfl rfl ?_
  refine r_iret dX4_ask_19 rfl ?_
  rotate_left -- leaf: return at pc 19
  refine r_iload_n 9 dX4_ask_8 rfl rfl ?_
  refine r_i2l 10 dX4_ask_9 rfl ?_
  refine r_lconst 11 dX4_ask_10 rfl 0 rfl (by decide) ?_
  refine r_lconst 12 dX4_ask_11 rfl 1 rfl (by decide) ?_
  rotate_left -- leaf: call at pc 12
  · rw [if_pos (fun z => z01_n.mp c_5 z.1)]
    exact ⟨rfl, fun _ _ _ _ _ _ => rfl⟩
  · refine r_cs3 15 dX4_ask_12 rfl ks_4_49 rfl rfl (c_in x 0 1) ?_
    rintro r h'' ⟨rfl, rfl⟩
    have b1 := z01_y.mp c_5
    refine r_if_ne 20 18 dX4_ask_15 (by decide) rfl (fun c_15 => ?_) (fun c_15 => ?_)
    refine r_aload_n 21 dX4_ask_20 rfl rfl ?_
    refine r_iload_n 22 dX4_ask_21 rfl rfl ?_
    rotate_left -- leaf: call at pc 22
    refine r_iconst 19 dX4_ask_18 rfl rfl ?_
    refine r_iret dX4_ask_19 rfl ?_
    rotate_left -- leaf: return at pc 19
    · rw [if_neg (fun z => z ⟨b1, z01_y.mp c_15⟩)]
      obtain ⟨m, rfl⟩ := Int.eq_ofNat_of_zero_le b1.1
      rw [Int.toNat_natCast]
      refine r_cv1 25 dX4_ask_22 rfl kv_4_216 (by first | assumption | omega) (by assumption) rfl rfl (m_leansOf lm0 wm0 m (by omega)) ?_
      rintro r h3 ⟨rfl, q1, q2⟩
      have hP : orN (laM h'' m) 7 < 128 := orN_lt _ 7
      generalize orN (laM h'' m) 7 = P at hP ⊢
      refine r_istore_n 26 dX4_ask_25 rfl rfl rfl ?_
      refine r_bipush 28 dX4_ask_26 rfl rfl (by decide) ?_
      refine r_istore 30 dX4_ask_28 rfl rfl rfl ?_
      refine r_aload_n 31 dX4_ask_30 rfl rfl ?_
      refine r_iload_n 32 dX4_ask_31 rfl rfl ?_
      rotate_left -- leaf: call at pc 32
      refine r_cs1 35 dX4_ask_32 rfl ks_4_219 rfl rfl (m_bitsOf P hP) ?_
      rintro r h4 ⟨rfl, rfl⟩
      refine r_putI 38 dX4_ask_35 rfl kf_4_189 rfl rfl (Or.inl rfl) (by first | assumption | omega) (by assumption) ?_
      refine r_iconst 39 dX4_ask_38 rfl rfl ?_
      refine r_istore 41 dX4_ask_39 rfl rfl rfl ?_
      rotate_left -- leaf: pc 41
      exact l_akO (l := l) lm0 wm0 m x P hP (sumF (fun k => bitI (P : Int) k) 12) (C := up h4 45 19 (sumF (fun k => bitI (P : Int) k) 12)) (fun a b z1 z2 => by
        by_cases e : a = 45 ∧ b = 19
        · exact Or.inr e
        · exact Or.inl (by rw [up_n e]; exact q1 a b z1 z2)) (fun u i z1 z2 => by rw [up_k (by omega)]; exact q2 u i z1 z2) (Φ := fun r h5 => r = some (vI (soB x (miF (akM h'' m P) (-4) (sumF (fun k => bitI (P : Int) k) 12) (h'' 46 32).toNat))) ∧ sc5 h'' h5) (fun h5 z => ⟨rfl, z⟩) (h'' 46 32).toNat 0 none none none none _ (by omega) (fun _ _ _ => rfl) (by rw [up_s]; rfl)
    · rw [if_pos (fun z => z01_n.mp c_15 z.2)]
      exact ⟨rfl, fun _ _ _ _ _ _ => rfl⟩
/-! drift -/
theorem m_draws (lm : LM G) (o : Int) (ho : 1 ≤ o) : Ca l G 0 mX4_draws [vR 45, vI o] h (fun r h' => r = some (vI (drw (nxS (h 45 23)) o)) ∧ h' = up h 45 23 (nxS (h 45 23))) := by
  obtain ⟨hN, ⟨ms45, ms46, ms47, ms48, ms49, ms50, ms51, ms52, ms53, ms54, ms55, ms56, ms57⟩, ⟨ml46, ml47, ml48, ml49, ml50, ml51, ml52, ml53, ml54, ml55, ml56, ml57⟩, ⟨mr0, mr2, mr7, mr16, mr17, mr18, mr20, mr22, mr24, mr25, mr26, mr27⟩⟩ := lm
  have hz := zan_in (nxS (h 45 23))
  refine Ca.of (by decide) (Nat.le_of_ble_eq_true rfl) (fun hI hv hH => ?_)
  unfold drw
  rw [if_neg (by omega)]
  refine r_aload_n 1 dX4_draws_0 rfl rfl ?_
  refine r_aload_n 2 dX4_draws_1 rfl rfl ?_
  refine r_getI 5 dX4_draws_2 rfl kf_4_222 rfl (by first | assumption | omega) (by assumption) ?_
  refine r_ldc 7 (1103515245) dX4_draws_5 rfl kq_4_225 rfl ?_
  rotate_left -- leaf: pc 7
  refine r_imul 8 dX4_draws_7 rfl rfl ?_
  refine r_sipush 11 dX4_draws_8 rfl rfl (by decide) ?_
  rotate_left -- leaf: pc 11
  refine r_iadd 12 dX4_draws_11 rfl rfl ?_
  refine r_putI 15 dX4_draws_12 rfl kf_4_222 rfl rfl (Or.inl rfl) (by first | assumption | omega) (by assumption) ?_
  refine r_aload_n 16 dX4_draws_15 rfl rfl ?_
  refine r_getI 19 dX4_draws_16 rfl kf_4_222 rfl (by first | assumption | omega) (by assumption) ?_
  rotate_left -- leaf: pc 19
  rw [up_s]
  have e1 : w32 (w32 (h 45 23 * 1103515245) + 12345) = nxS (h 45 23) := rfl
  rw [e1]
  refine r_bipush 21 dX4_draws_19 rfl rfl (by decide) ?_
  refine r_ishr 22 dX4_draws_21 rfl rfl ?_
  refine r_sipush 25 dX4_draws_22 rfl rfl (by decide) ?_
  refine r_iand 26 dX4_draws_25 rfl rfl ?_
  refine r_iload_n 27 dX4_draws_26 rfl rfl ?_
  refine r_irem 28 dX4_draws_27 rfl (by first | omega | (simp only [Int.toNat_natCast]; omega)) (by first | omega | (simp only [Int.toNat_natCast]; omega)) ?_
  refine r_iret dX4_draws_28 rfl ?_
  rotate_left -- leaf: return at pc 28
  exact ⟨rfl, rfl⟩
def dgP (men : Int) (s : Int × Int × (Nat → Int)) : Nat → Int := up1 s.2.2 (8 + (drw (nxS s.1) 12).toNat) (if drw (nxS (nxS s.1)) (men + 1) = men then 0 else drw (nxS (nxS s.1)) (men + 1) + 1)
def dgS (men : Int) (s : Int × Int × (Nat → Int)) : Int × Int × (Nat → Int) := (nxS (nxS s.1), s.2.1 + hmM (dgP men s), dgP men s)
def dgN (men : Int) (s : Int × Int × (Nat → Int)) : Nat → Int × Int × (Nat → Int)
  | 0 => s
  | n + 1 => dgS men (dgN men s n)
theorem hmM_in {pg : Nat → Int} (wg : wPg pg) : 0 ≤ hmM pg ∧ hmM pg ≤ 2160 := by
  have h32 := wg.2.2.2.2.2.2.2
  have := sumF_inN (f := haM pg) (B := 432) 5 (fun i hi => hfM_in (wg.2.2.2.2.2.2.1 i hi) (wg.2.2.2.2.2.1 i hi) (dsM_in _ _ 48 0 (by omega))) (pg 32).toNat (by omega)
  unfold hmM
  omega
theorem dg_in {men : Int} (hm : 1 ≤ men ∧ men ≤ 4) {pg : Nat → Int} (wg : wPg pg) (sd : Int) : ∀ t : Nat, wPg (dgN men (sd, 0, pg) t).2.2 ∧ (∀ b, ¬ (8 ≤ b ∧ b < 20) → (dgN men (sd, 0, pg) t).2.2 b = pg b) ∧ 0 ≤ (dgN men (sd, 0, pg) t).2.1 ∧ (dgN men (sd, 0, pg) t).2.1 ≤ 2160 * (t : Int)
  | 0 => ⟨wg, fun _ _ => rfl, Int.le_refl 0, Int.le_refl 0⟩
  | t + 1 => by
    obtain ⟨s1, s2, s3, s4⟩ := dg_in hm wg sd t
    show wPg (dgP men (dgN men (sd, 0, pg) t)) ∧ (∀ b, ¬ (8 ≤ b ∧ b < 20) → dgP men (dgN men (sd, 0, pg) t) b = pg b) ∧ 0 ≤ (dgN men (sd, 0, pg) t).2.1 + hmM (dgP men (dgN men (sd, 0, pg) t)) ∧ (dgN men (sd, 0, pg) t).2.1 + hmM (dgP men (dgN men (sd, 0, pg) t)) ≤ _
    generalize dgN men (sd, 0, pg) t = S at *
    have hd := drw_in (s := nxS (nxS S.1)) (b := men + 1) (by omega)
    have hr := drw_in (s := nxS S.1) (b := 12) (by omega)
    have hw : wPg (dgP men S) := wPg_up8 (by omega) s1 (by split <;> omega)
    have hh := hmM_in hw
    refine ⟨hw, fun b q => ?_, by omega, by omega⟩
    unfold dgP
    rw [up1_n (by omega)]
    exact s2 b q
def dgA (h : zH) (sd : Int) (N : Nat) (x : Int) : Int := if x = 0 then (dgN (h 45 1) (sd, 0, cpP h 0 99 33 46) N).2.1 else (orN (hoB (dgN (h 45 1) (sd, 0, cpP h 0 99 33 46) N).2.2 (-4)) 12 : Nat)
def nDrift (sd n x : Int) (h : zH) : Int := if ¬ ((1 ≤ n ∧ n ≤ 40) ∧ (0 ≤ x ∧ x ≤ 1)) then -1 else if h 45 1 = 0 then -2 else dgA h sd n.toNat x
theorem l_mdrift (lm : LM G) (wm : wM h) (hm1 : 1 ≤ h 45 1) (sd x : Int) (N : Nat) (hN : N ≤ 40) {Φ : Option zV → zH → Prop} (hΦ : ∀ h', sc5 h h' → Φ (some (vI (dgA h sd N x))) h') : ∀ (n t : Nat) (x6 x7 : Option zV) (H : zH), t + n = N → (∀ a b, a ≠ 51 → ¬ (a = 45 ∧ b = 23) → a ≠ 46 → H a b = h a b) → H 45 23 = (dgN (h 45 1) (sd, 0, cpP h 0 99 33 46) t).1 → H 46 = (dgN (h 45 1) (sd, 0, cpP h 0 99 33 46) t).2.2 → Rr l G 5 mX4_drift Φ 52 [some (vR 45), some (vI sd), some (vI N), some (vI x), some (vI (dgN (h 45 1) (sd, 0, cpP h 0 99 33 46) t).2.1), some (vI t), x6, x7] [] H := by
  have lm0 := lm
  have wm0 := wm
  obtain ⟨hN, ⟨ms45, ms46, ms47, ms48, ms49, ms50, ms51, ms52, ms53, ms54, ms55, ms56, ms57⟩, ⟨ml46, ml47, ml48, ml49, ml50, ml51, ml52, ml53, ml54, ml55, ml56, ml57⟩, ⟨mr0, mr2, mr7, mr16, mr17, mr18, mr20, mr22, mr24, mr25, mr26, mr27⟩⟩ := lm
  obtain ⟨⟨wg1, wg2, wg3, wg4, wg5, wg6, wg7, wg8⟩, wmen, wtp, wsm⟩ := wm
  have wC : wPg (cpP h 0 99 33 46) := wPg_cong (fun j hj => cpP_x 33 j (by omega)) wm0.1
  intro n
  induction n with
  | zero =>
    intro t x6 x7 H ht he e23 e46
    obtain rfl : t = N := by omega
    obtain ⟨s1, s2, s3, s4⟩ := dg_in ⟨hm1, wmen.2⟩ wC sd t
    have hs : sc5 h (cpP H 99 0 33) := fun a b q1 q2 q3 q4 => by
      by_cases ea : a = 46
      · subst ea
        by_cases eb : b < 33
        · have := cpP_i (h := H) (a := 99) (b := 0) (by omega) 33 b (by omega) eb
          rw [Nat.zero_add] at this
          rw [this, e46, s2 (99 + b) (by omega)]
          have h2 := cpP_i (h := h) (a := 0) (b := 99) (by omega) 33 b (by omega) eb
          rw [Nat.zero_add] at h2
          exact h2
        · rw [cpP_x 33 b (by omega), e46, s2 b (by omega), cpP_x 33 b (by omega)]
      · rw [cpP_o ea 33, he a b q1 (by omega) ea]
    have hΦ := hΦ _ hs
    unfold dgA at hΦ
    refine r_iload 54 dX4_drift_52 rfl rfl ?_
    refine r_iload_n 55 dX4_drift_54 rfl rfl ?_
    refine r_icmp_ge 120 58 dX4_drift_55 (by decide) rfl (fun c_55 => ?_) (fun c_55 => ?_)
    refine r_aload_n 121 dX4_drift_120 rfl rfl ?_
    refine r_bipush 123 dX4_drift_121 rfl rfl (by decide) ?_
    rotate_left -- leaf: call at pc 123
    rotate_left -- leaf: pc 58
    · refine r_cv1 126 dX4_drift_123 rfl kv_4_155 (by first | assumption | omega) (by assumption) rfl rfl (m_hoursOf lm0 (by rw [e46]; exact s1.2.2.1) (-4)) ?_
      rintro r h' ⟨rfl, rfl⟩
      rw [e46]
      refine r_istore 128 dX4_drift_126 rfl rfl rfl ?_
      refine r_aload_n 129 dX4_drift_128 rfl rfl ?_
      refine r_bipush 131 dX4_drift_129 rfl rfl (by decide) ?_
      refine r_iconst 132 dX4_drift_131 rfl rfl ?_
      rotate_left -- leaf: call at pc 132
      refine r_cv2 135 dX4_drift_132 rfl kv_4_196 (by first | assumption | omega) (by assumption) rfl rfl (m_copies lm0 99 0 (by omega) (by omega)) ?_
      rintro r h'' ⟨rfl, rfl⟩
      refine r_iload_n 136 dX4_drift_135 rfl rfl ?_
      refine r_if_ne 144 139 dX4_drift_136 (by decide) rfl (fun c_136 => ?_) (fun c_136 => ?_)
      refine r_iload 146 dX4_drift_144 rfl rfl ?_
      refine r_iret dX4_drift_146 rfl ?_
      rotate_left -- leaf: return at pc 146
      refine r_iload 141 dX4_drift_139 rfl rfl ?_
      refine r_goto 146 dX4_drift_141 (by decide) ?_
      refine r_iret dX4_drift_146 rfl ?_
      rotate_left -- leaf: return at pc 146
      · rw [if_neg c_136] at hΦ
        exact hΦ
      · rw [if_pos c_136] at hΦ
        exact hΦ
    · omega
  | succ n ih =>
    intro t x6 x7 H ht he e23 e46
    obtain ⟨s1, s2, hb1, hb2⟩ := dg_in ⟨hm1, wmen.2⟩ wC sd t
    have ih := ih (t + 1)
    have hS : dgN (h 45 1) (sd, 0, cpP h 0 99 33 46) (t + 1) = dgS (h 45 1) (dgN (h 45 1) (sd, 0, cpP h 0 99 33 46) t) := rfl
    rw [hS] at ih
    generalize dgN (h 45 1) (sd, 0, cpP h 0 99 33 46) t = S at *
    have e1 : ∀ v, up H 45 23 v 45 1 = h 45 1 := fun v => by rw [up_j (by omega)]; exact he 45 1 (by omega) (by omega) (by omega)
    have hd := drw_in (s := nxS (nxS S.1)) (b := h 45 1 + 1) (by omega)
    have hd12 := drw_in (s := nxS S.1) (b := 12) (by omega)
    have hw : wPg (dgP (h 45 1) S) := wPg_up8 (by omega) s1 (by split <;> omega)
    have hh := hmM_in hw
    obtain ⟨hr, ehr⟩ := Int.eq_ofNat_of_zero_le hd12.1
    have hr12 : hr < 12 := by omega
    have eP : dgP (h 45 1) S = up1 S.2.2 (8 + hr) (if drw (nxS (nxS S.1)) (h 45 1 + 1) = h 45 1 then 0 else drw (nxS (nxS S.1)) (h 45 1 + 1) + 1) := by unfold dgP; rw [ehr, Int.toNat_natCast]
    have J104 : ∀ v : Int, v = (if drw (nxS (nxS S.1)) (h 45 1 + 1) = h 45 1 then 0 else drw (nxS (nxS S.1)) (h 45 1 + 1) + 1) → Rr l G 5 mX4_drift Φ 104 [some (vR 45), some (vI sd), some (vI N), some (vI x), some (vI S.2.1), some (vI t), some (vI hr), some (vI (drw (nxS (nxS S.1)) (h 45 1 + 1)))] [vI v, vI (8 + (hr : Int)), vR 46] (up (up H 45 23 (nxS S.1)) 45 23 (nxS (nxS S.1))) := by
      intro v hv
      have epg : up (up (up H 45 23 (nxS S.1)) 45 23 (nxS (nxS S.1))) 46 (8 + hr) v 46 = dgP (h 45 1) S := by
        rw [up_pg, eP, hv]
        rw [show up (up H 45 23 (nxS S.1)) 45 23 (nxS (nxS S.1)) 46 = S.2.2 from e46]
      refine r_iast 105 dX4_drift_104 rfl (by first | assumption | omega) (by assumption) (by first | omega | (simp only [Int.toNat_natCast]; omega)) (by first | omega | (simp only [Int.toNat_natCast]; omega)) ?_
      try simp only [Int.toNat_natCast, tq_4, tq_8, tq_22, tq_27, tq_99, tq_a, tl_0, tl_1, tl_20, tl_21, tl_22, tl_32]
      refine r_iload 107 dX4_drift_105 rfl rfl ?_
      refine r_aload_n 108 dX4_drift_107 rfl rfl ?_
      rotate_left -- leaf: call at pc 108
      refine r_cv0 111 dX4_drift_108 rfl kv_4_158 (by first | assumption | omega) (by assumption) rfl rfl (m_harm lm0 (by rw [epg]; exact hw)) ?_
      rintro r h' ⟨rfl, rfl⟩
      rw [epg]
      refine r_iadd 112 dX4_drift_111 rfl (by first | exact w32_id (by omega) (by omega) | rfl) ?_
      refine r_istore 114 dX4_drift_112 rfl rfl rfl ?_
      refine r_iinc 117 _ dX4_drift_114 rfl rfl rfl rfl (by first | exact w32_id (by omega) (by omega) | rfl) ?_
      refine r_goto 52 dX4_drift_117 (by decide) ?_
      rotate_left -- leaf: pc 52
      exact ih _ _ _ (by omega) (fun a b q1 q2 q3 => by rw [setB_n q1, up_k q3, up_n q2, up_n q2]; exact he a b q1 q2 q3) (by rw [setB_n (by omega), up_k (by omega), up_s]; rfl) (funext fun b => by rw [setB_n (by omega), epg]; rfl)
    refine r_iload 54 dX4_drift_52 rfl rfl ?_
    refine r_iload_n 55 dX4_drift_54 rfl rfl ?_
    refine r_icmp_ge 120 58 dX4_drift_55 (by decide) rfl (fun c_55 => ?_) (fun c_55 => ?_)
    rotate_left -- leaf: pc 120
    refine r_aload_n 59 dX4_drift_58 rfl rfl ?_
    refine r_bipush 61 dX4_drift_59 rfl rfl (by decide) ?_
    rotate_left -- leaf: call at pc 61
    · omega
    refine r_cv1 64 dX4_drift_61 rfl kv_4_228 (by first | assumption | omega) (by assumption) rfl rfl (m_draws lm0 12 (by omega)) ?_
    rintro r h' ⟨rfl, rfl⟩
    rw [e23, ehr]
    refine r_istore 66 dX4_drift_64 rfl rfl rfl ?_
    refine r_aload_n 67 dX4_drift_66 rfl rfl ?_
    refine r_aload_n 68 dX4_drift_67 rfl rfl ?_
    refine r_getI 71 dX4_drift_68 rfl kf_4_128 rfl (by first | assumption | omega) (by assumption) ?_
    rotate_left -- leaf: pc 71
    rw [e1]
    refine r_iconst 72 dX4_drift_71 rfl rfl ?_
    refine r_iadd 73 dX4_drift_72 rfl (by first | exact w32_id (by omega) (by omega) | rfl) ?_
    rotate_left -- leaf: call at pc 73
    refine r_cv1 76 dX4_drift_73 rfl kv_4_228 (by first | assumption | omega) (by assumption) rfl rfl (m_draws lm0 (h 45 1 + 1) (by omega)) ?_
    rintro r h' ⟨rfl, rfl⟩
    rw [up_s]
    refine r_istore 78 dX4_drift_76 rfl rfl rfl ?_
    refine r_aload_n 79 dX4_drift_78 rfl rfl ?_
    refine r_getR 82 dX4_drift_79 rfl kf_4_7 rfl (by first | assumption | omega) (by assumption) (by assumption) ?_
    refine r_bipush 84 dX4_drift_82 rfl rfl (by decide) ?_
    refine r_iload 86 dX4_drift_84 rfl rfl ?_
    refine r_iadd 87 dX4_drift_86 rfl (by first | exact w32_id (by omega) (by omega) | rfl) ?_
    refine r_iload 89 dX4_drift_87 rfl rfl ?_
    refine r_aload_n 90 dX4_drift_89 rfl rfl ?_
    refine r_getI 93 dX4_drift_90 rfl kf_4_128 rfl (by first | assumption | omega) (by assumption) ?_
    rotate_left -- leaf: pc 93
    rw [up_j (by omega), e1]
    refine r_icmp_ne 100 96 dX4_drift_93 (by decide) rfl (fun c_93 => ?_) (fun c_93 => ?_)
    refine r_iload 102 dX4_drift_100 rfl rfl ?_
    refine r_iconst 103 dX4_drift_102 rfl rfl ?_
    refine r_iadd 104 dX4_drift_103 rfl (by first | exact w32_id (by omega) (by omega) | rfl) ?_
    rotate_left -- leaf: pc 104
    refine r_iconst 97 dX4_drift_96 rfl rfl ?_
    refine r_goto 104 dX4_drift_97 (by decide) ?_
    rotate_left -- leaf: pc 104
    · exact J104 _ (by rw [if_neg c_93])
    · exact J104 _ (by rw [if_pos c_93])
theorem m_drift (lm : LM G) (wm : wM h) (sd n x : Int) : Ca l G 5 mX4_drift [vR 45, vI sd, vI n, vI x] h (fun r h' => r = some (vI (nDrift sd n x h)) ∧ sc5 h h') := by
  have lm0 := lm
  have wm0 := wm
  obtain ⟨hN, ⟨ms45, ms46, ms47, ms48, ms49, ms50, ms51, ms52, ms53, ms54, ms55, ms56, ms57⟩, ⟨ml46, ml47, ml48, ml49, ml50, ml51, ml52, ml53, ml54, ml55, ml56, ml57⟩, ⟨mr0, mr2, mr7, mr16, mr17, mr18, mr20, mr22, mr24, mr25, mr26, mr27⟩⟩ := lm
  obtain ⟨⟨wg1, wg2, wg3, wg4, wg5, wg6, wg7, wg8⟩, wmen, wtp, wsm⟩ := wm
  refine Ca.of (by decide) (Nat.le_of_ble_eq_true rfl) (fun hI hv hH => ?_)
  unfold nDrift
  refine r_iload_n 1 dX4_drift_0 rfl rfl ?_
  refine r_i2l 2 dX4_drift_1 rfl ?_
  refine r_lconst 3 dX4_drift_2 rfl 1 rfl (by decide) ?_
  refine r_ldc2 6 (40) dX4_drift_3 rfl kq_4_226 rfl ?_
  rotate_left -- leaf: call at pc 6
  refine r_cs3 9 dX4_drift_6 rfl ks_4_49 rfl rfl (c_in n 1 40) ?_
  rintro r h' ⟨rfl, rfl⟩
  refine r_if_eq 22 12 dX4_drift_9 (by decide) rfl (fun c_9 => ?_) (fun c_9 => ?_)
  refine r_iconst 23 dX4_drift_22 rfl rfl ?_
  refine r_iret dX4_drift_23 rfl ?_
  rotate_left -- leaf: return at pc 23
  refine r_iload_n 13 dX4_drift_12 rfl rfl ?_
  refine r_i2l 14 dX4_drift_13 rfl ?_
  refine r_lconst 15 dX4_drift_14 rfl 0 rfl (by decide) ?_
  refine r_lconst 16 dX4_drift_15 rfl 1 rfl (by decide) ?_
  rotate_left -- leaf: call at pc 16
  · rw [if_pos (fun z => z01_n.mp c_9 z.1)]
    exact ⟨rfl, fun _ _ _ _ _ _ => rfl⟩
  · refine r_cs3 19 dX4_drift_16 rfl ks_4_49 rfl rfl (c_in x 0 1) ?_
    rintro r h'' ⟨rfl, rfl⟩
    have b1 := z01_y.mp c_9
    refine r_if_ne 24 22 dX4_drift_19 (by decide) rfl (fun c_19 => ?_) (fun c_19 => ?_)
    refine r_aload_n 25 dX4_drift_24 rfl rfl ?_
    refine r_getI 28 dX4_drift_25 rfl kf_4_128 rfl (by first | assumption | omega) (by assumption) ?_
    refine r_if_ne 34 31 dX4_drift_28 (by decide) rfl (fun c_28 => ?_) (fun c_28 => ?_)
    refine r_aload_n 35 dX4_drift_34 rfl rfl ?_
    refine r_iconst 36 dX4_drift_35 rfl rfl ?_
    refine r_bipush 38 dX4_drift_36 rfl rfl (by decide) ?_
    rotate_left -- leaf: call at pc 38
    refine r_bipush 33 dX4_drift_31 rfl rfl (by decide) ?_
    refine r_iret dX4_drift_33 rfl ?_
    rotate_left -- leaf: return at pc 33
    refine r_iconst 23 dX4_drift_22 rfl rfl ?_
    refine r_iret dX4_drift_23 rfl ?_
    rotate_left -- leaf: return at pc 23
    · rw [if_neg (fun z => z ⟨b1, z01_y.mp c_19⟩), if_neg c_28]
      obtain ⟨N, rfl⟩ := Int.eq_ofNat_of_zero_le (show 0 ≤ n by omega)
      rw [Int.toNat_natCast]
      refine r_cv2 41 dX4_drift_38 rfl kv_4_196 (by first | assumption | omega) (by assumption) rfl rfl (m_copies lm0 0 99 (by omega) (by omega)) ?_
      rintro r h3 ⟨rfl, rfl⟩
      refine r_aload_n 42 dX4_drift_41 rfl rfl ?_
      refine r_iload_n 43 dX4_drift_42 rfl rfl ?_
      refine r_putI 46 dX4_drift_43 rfl kf_4_222 rfl rfl (Or.inl rfl) (by first | assumption | omega) (by assumption) ?_
      refine r_iconst 47 dX4_drift_46 rfl rfl ?_
      refine r_istore 49 dX4_drift_47 rfl rfl rfl ?_
      refine r_iconst 50 dX4_drift_49 rfl rfl ?_
      refine r_istore 52 dX4_drift_50 rfl rfl rfl ?_
      rotate_left -- leaf: pc 52
      exact l_mdrift (l := l) lm0 wm0 (by omega) sd x N (by omega) (Φ := fun r h4 => r = some (vI (dgA h'' sd N x)) ∧ sc5 h'' h4) (fun h4 z => ⟨rfl, z⟩) N 0 none none _ (by omega) (fun a b q1 q2 q3 => by rw [up_n q2, cpP_o q3 33]) (by rw [up_s]; rfl) (funext fun b => by rw [up_k (by omega)]; rfl)
    · rw [if_neg (fun z => z ⟨b1, z01_y.mp c_19⟩), if_pos c_28]
      exact ⟨rfl, fun _ _ _ _ _ _ => rfl⟩
    · rw [if_pos (fun z => z01_n.mp c_19 z.2)]
      exact ⟨rfl, fun _ _ _ _ _ _ => rfl⟩
end MO
