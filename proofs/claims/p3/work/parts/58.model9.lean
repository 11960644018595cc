/-! SunPointerModel: mean, text, read where there is nothing -/
section MO
variable {l : Launch} {G : zG} {h : zH}
theorem orN_0 {f : Nat → Bool} : ∀ n, (∀ j, j < n → f j = false) → orN f n = 0
  | 0, _ => rfl
  | n + 1, hf => by
    unfold orN
    rw [if_neg (by rw [hf n (by omega)]; decide)]
    exact orN_0 n (fun j hj => hf j (by omega))
theorem z_shr0 (j : Nat) (hj : j < 32) : z_ishr 0 (j : Int) = 0 := by
  rw [z_shr (by constructor <;> decide) hj]; simp
theorem z_andm {x : Int} (hx : in32 x) : z_iand x (-1) = x := by
  unfold z_iand
  rw [show Int32.ofInt (-1) = -1 from rfl, Int32.and_neg_one, i32_t hx]
theorem m_byteAt (lm : LM G) (k : Int) (h0 : h 45 8 ≤ k) : Ca l G 0 mX4_byteAt [vR 45, vI k] h (fun r h' => r = some (vI (-4)) ∧ h' = h) := by
  obtain ⟨hN, ⟨ms45, ms46, ms47, ms48, ms49, ms50, ms51, ms52, ms53, ms54, ms55, ms56, ms57⟩, ⟨ml46, ml47, ml48, ml49, ml50, ml51, ml52, ml53, ml54, ml55, ml56, ml57⟩, ⟨mr0, mr2, mr7, mr16, mr17, mr18, mr20, mr22, mr24, mr25, mr26, mr27⟩⟩ := lm
  refine Ca.of (by decide) (Nat.le_of_ble_eq_true rfl) (fun hI hv hH => ?_)
  refine r_iload_n 1 dX4_byteAt_0 rfl rfl ?_
  refine r_aload_n 2 dX4_byteAt_1 rfl rfl ?_
  refine r_getI 5 dX4_byteAt_2 rfl kf_4_53 rfl (by first | assumption | omega) (by assumption) ?_
  refine r_icmp_ge 17 8 dX4_byteAt_5 (by decide) rfl (fun c_5 => ?_) (fun c_5 => ?_)
  refine r_bipush 19 dX4_byteAt_17 rfl rfl (by decide) ?_
  refine r_iret dX4_byteAt_19 rfl ?_
  rotate_left -- leaf: return at pc 19
  rotate_left -- leaf: pc 8
  · exact ⟨rfl, rfl⟩
  · omega
theorem m_step0 (lm : LM G) (h8 : h 45 8 = 0) (hb : h 45 10 = 0) (hs : h 45 12 = 0) : Ca l G 1 mX4_step [vR 45] h (fun r h' => r = none ∧ h' = up (up (up h 45 13 0) 45 15 0) 45 14 0) := by
  have lm0 := lm
  obtain ⟨hN, ⟨ms45, ms46, ms47, ms48, ms49, ms50, ms51, ms52, ms53, ms54, ms55, ms56, ms57⟩, ⟨ml46, ml47, ml48, ml49, ml50, ml51, ml52, ml53, ml54, ml55, ml56, ml57⟩, ⟨mr0, mr2, mr7, mr16, mr17, mr18, mr20, mr22, mr24, mr25, mr26, mr27⟩⟩ := lm
  refine Ca.of (by decide) (Nat.le_of_ble_eq_true rfl) (fun hI hv hH => ?_)
  refine r_aload_n 1 dX4_step_0 rfl rfl ?_
  refine r_getI 4 dX4_step_1 rfl kf_4_57 rfl (by first | assumption | omega) (by assumption) ?_
  refine r_if_le 8 7 dX4_step_4 (by decide) rfl (fun c_4 => ?_) (fun c_4 => ?_)
  refine r_aload_n 9 dX4_step_8 rfl rfl ?_
  refine r_aload_n 10 dX4_step_9 rfl rfl ?_
  refine r_getI 13 dX4_step_10 rfl kf_4_69 rfl (by first | assumption | omega) (by assumption) ?_
  rotate_left -- leaf: call at pc 13
  rotate_left -- leaf: pc 7
  · rw [hs]
    refine r_cv1 16 dX4_step_13 rfl kv_4_72 (by first | assumption | omega) (by assumption) rfl rfl (m_byteAt lm0 0 (by omega)) ?_
    rintro r h' ⟨rfl, rfl⟩
    refine r_bipush 18 dX4_step_16 rfl rfl (by decide) ?_
    refine r_icmp_ne 34 21 dX4_step_18 (by decide) rfl (fun c_18 => ?_) (fun c_18 => ?_)
    refine r_aload_n 35 dX4_step_34 rfl rfl ?_
    refine r_aload_n 36 dX4_step_35 rfl rfl ?_
    refine r_getI 39 dX4_step_36 rfl kf_4_69 rfl (by first | assumption | omega) (by assumption) ?_
    refine r_putI 42 dX4_step_39 rfl kf_4_60 rfl rfl (Or.inl rfl) (by first | assumption | omega) (by assumption) ?_
    refine r_aload_n 43 dX4_step_42 rfl rfl ?_
    refine r_aload_n 44 dX4_step_43 rfl rfl ?_
    refine r_getI 47 dX4_step_44 rfl kf_4_69 rfl (by first | assumption | omega) (by assumption) ?_
    rotate_left -- leaf: call at pc 47
    rotate_left -- leaf: pc 21
    · rw [hs, up_j (by omega), hs]
      refine r_cv1 50 dX4_step_47 rfl kv_4_72 (by first | assumption | omega) (by assumption) rfl rfl (m_byteAt (h := up h' 45 13 0) lm0 0 (by rw [up_j (by omega)]; omega)) ?_
      rintro r h'' ⟨rfl, rfl⟩
      refine r_istore_n 51 dX4_step_50 rfl rfl rfl ?_
      refine r_aload_n 52 dX4_step_51 rfl rfl ?_
      refine r_iconst 53 dX4_step_52 rfl rfl ?_
      refine r_putI 56 dX4_step_53 rfl kf_4_76 rfl rfl (Or.inl rfl) (by first | assumption | omega) (by assumption) ?_
      refine r_iload_n 57 dX4_step_56 rfl rfl ?_
      refine r_bipush 59 dX4_step_57 rfl rfl (by decide) ?_
      refine r_icmp_ne 70 62 dX4_step_59 (by decide) rfl (fun c_59 => ?_) (fun c_59 => ?_)
      rotate_left -- leaf: pc 70
      refine r_aload_n 63 dX4_step_62 rfl rfl ?_
      refine r_iconst 64 dX4_step_63 rfl rfl ?_
      refine r_putI 67 dX4_step_64 rfl kf_4_66 rfl rfl (Or.inl rfl) (by first | assumption | omega) (by assumption) ?_
      refine r_goto 269 dX4_step_67 (by decide) ?_
      refine r_ret dX4_step_269 rfl ?_
      rotate_left -- leaf: return at pc 269
      · omega
      · exact ⟨rfl, rfl⟩
    · omega
  · omega
theorem l_mtx2 (lm : LM G) {Φ : Option zV → zH → Prop} (hΦ : ∀ H : zH, Rr l G 2 mX4_text Φ 159 [some (vR 45), some (vI 0), some (vI 33)] [] H) : ∀ (n j : Nat) (H : zH), j + n = 33 → Rr l G 2 mX4_text Φ 135 [some (vR 45), some (vI 0), some (vI j)] [] H := by
  obtain ⟨hN, ⟨ms45, ms46, ms47, ms48, ms49, ms50, ms51, ms52, ms53, ms54, ms55, ms56, ms57⟩, ⟨ml46, ml47, ml48, ml49, ml50, ml51, ml52, ml53, ml54, ml55, ml56, ml57⟩, ⟨mr0, mr2, mr7, mr16, mr17, mr18, mr20, mr22, mr24, mr25, mr26, mr27⟩⟩ := lm
  intro n
  induction n with
  | zero =>
    intro j H hj
    obtain rfl : j = 33 := by omega
    have hΦ := hΦ H
    refine r_iload_n 136 dX4_text_135 rfl rfl ?_
    refine r_bipush 138 dX4_text_136 rfl rfl (by decide) ?_
    refine r_icmp_ge 159 141 dX4_text_138 (by decide) rfl (fun c_138 => ?_) (fun c_138 => ?_)
    rotate_left -- leaf: pc 159
    rotate_left -- leaf: pc 141
    · exact hΦ
    · omega
  | succ n ih =>
    intro j H hj
    refine r_iload_n 136 dX4_text_135 rfl rfl ?_
    refine r_bipush 138 dX4_text_136 rfl rfl (by decide) ?_
    refine r_icmp_ge 159 141 dX4_text_138 (by decide) rfl (fun c_138 => ?_) (fun c_138 => ?_)
    rotate_left -- leaf: pc 159
    refine r_aload_n 142 dX4_text_141 rfl rfl ?_
    refine r_getR 145 dX4_text_142 rfl kf_4_7 rfl (by first | assumption | omega) (by assumption) (by assumption) ?_
    refine r_iload_n 146 dX4_text_145 rfl rfl ?_
    refine r_aload_n 147 dX4_text_146 rfl rfl ?_
    refine r_getR 150 dX4_text_147 rfl kf_4_13 rfl (by first | assumption | omega) (by assumption) (by assumption) ?_
    refine r_iload_n 151 dX4_text_150 rfl rfl ?_
    refine r_iald 152 dX4_text_151 rfl (by first | assumption | omega) (by assumption) (by first | omega | (simp only [Int.toNat_natCast]; omega)) (by first | omega | (simp only [Int.toNat_natCast]; omega)) ?_
    try simp only [Int.toNat_natCast, tq_4, tq_8, tq_22, tq_27, tq_99, tq_a, tl_0, tl_1, tl_20, tl_21, tl_22, tl_32]
    refine r_iast 153 dX4_text_152 rfl (by first | assumption | omega) (by assumption) (by first | omega | (simp only [Int.toNat_natCast]; omega)) (by first | omega | (simp only [Int.toNat_natCast]; omega)) ?_
    try simp only [Int.toNat_natCast, tq_4, tq_8, tq_22, tq_27, tq_99, tq_a, tl_0, tl_1, tl_20, tl_21, tl_22, tl_32]
    refine r_iinc 156 _ dX4_text_153 rfl rfl rfl rfl (by first | exact w32_id (by omega) (by omega) | rfl) ?_
    refine r_goto 135 dX4_text_156 (by decide) ?_
    rotate_left -- leaf: pc 135
    · omega
    · exact ih (j + 1) _ (by omega)
theorem l_mtx1 (lm : LM G) {C : zH} {Φ : Option zV → zH → Prop} (hΦ : ∀ H : zH, (∀ a b, a ≠ 47 → H a b = C a b) → Rr l G 2 mX4_text Φ 53 [some (vR 45), some (vI 0), some (vI 33)] [] H) : ∀ (n j : Nat) (H : zH), j + n = 33 → (∀ a b, a ≠ 47 → H a b = C a b) → Rr l G 2 mX4_text Φ 34 [some (vR 45), some (vI 0), some (vI j)] [] H := by
  obtain ⟨hN, ⟨ms45, ms46, ms47, ms48, ms49, ms50, ms51, ms52, ms53, ms54, ms55, ms56, ms57⟩, ⟨ml46, ml47, ml48, ml49, ml50, ml51, ml52, ml53, ml54, ml55, ml56, ml57⟩, ⟨mr0, mr2, mr7, mr16, mr17, mr18, mr20, mr22, mr24, mr25, mr26, mr27⟩⟩ := lm
  intro n
  induction n with
  | zero =>
    intro j H hj he
    obtain rfl : j = 33 := by omega
    have hΦ := hΦ H he
    refine r_iload_n 35 dX4_text_34 rfl rfl ?_
    refine r_bipush 37 dX4_text_35 rfl rfl (by decide) ?_
    refine r_icmp_ge 53 40 dX4_text_37 (by decide) rfl (fun c_37 => ?_) (fun c_37 => ?_)
    rotate_left -- leaf: pc 53
    rotate_left -- leaf: pc 40
    · exact hΦ
    · omega
  | succ n ih =>
    intro j H hj he
    refine r_iload_n 35 dX4_text_34 rfl rfl ?_
    refine r_bipush 37 dX4_text_35 rfl rfl (by decide) ?_
    refine r_icmp_ge 53 40 dX4_text_37 (by decide) rfl (fun c_37 => ?_) (fun c_37 => ?_)
    rotate_left -- leaf: pc 53
    refine r_aload_n 41 dX4_text_40 rfl rfl ?_
    refine r_getR 44 dX4_text_41 rfl kf_4_13 rfl (by first | assumption | omega) (by assumption) (by assumption) ?_
    refine r_iload_n 45 dX4_text_44 rfl rfl ?_
    refine r_iconst 46 dX4_text_45 rfl rfl ?_
    refine r_iast 47 dX4_text_46 rfl (by first | assumption | omega) (by assumption) (by first | omega | (simp only [Int.toNat_natCast]; omega)) (by first | omega | (simp only [Int.toNat_natCast]; omega)) ?_
    try simp only [Int.toNat_natCast, tq_4, tq_8, tq_22, tq_27, tq_99, tq_a, tl_0, tl_1, tl_20, tl_21, tl_22, tl_32]
    refine r_iinc 50 _ dX4_text_47 rfl rfl rfl rfl (by first | exact w32_id (by omega) (by omega) | rfl) ?_
    refine r_goto 34 dX4_text_50 (by decide) ?_
    rotate_left -- leaf: pc 34
    · omega
    · exact ih (j + 1) _ (by omega) (fun a b q => by rw [up_k q]; exact he a b q)
theorem m_text0 (lm : LM G) (h8 : h 45 8 = 0) : Ca l G 2 mX4_text [vR 45] h (fun r h' => r = some (vI 0)) := by
  have lm0 := lm
  obtain ⟨hN, ⟨ms45, ms46, ms47, ms48, ms49, ms50, ms51, ms52, ms53, ms54, ms55, ms56, ms57⟩, ⟨ml46, ml47, ml48, ml49, ml50, ml51, ml52, ml53, ml54, ml55, ml56, ml57⟩, ⟨mr0, mr2, mr7, mr16, mr17, mr18, mr20, mr22, mr24, mr25, mr26, mr27⟩⟩ := lm
  refine Ca.of (by decide) (Nat.le_of_ble_eq_true rfl) (fun hI hv hH => ?_)
  refine r_aload_n 1 dX4_text_0 rfl rfl ?_
  refine r_iconst 2 dX4_text_1 rfl rfl ?_
  refine r_putI 5 dX4_text_2 rfl kf_4_57 rfl rfl (Or.inl rfl) (by first | assumption | omega) (by assumption) ?_
  refine r_aload_n 6 dX4_text_5 rfl rfl ?_
  refine r_iconst 7 dX4_text_6 rfl rfl ?_
  refine r_putI 10 dX4_text_7 rfl kf_4_69 rfl rfl (Or.inl rfl) (by first | assumption | omega) (by assumption) ?_
  refine r_aload_n 11 dX4_text_10 rfl rfl ?_
  refine r_iconst 12 dX4_text_11 rfl rfl ?_
  refine r_putI 15 dX4_text_12 rfl kf_4_104 rfl rfl (Or.inl rfl) (by first | assumption | omega) (by assumption) ?_
  refine r_aload_n 16 dX4_text_15 rfl rfl ?_
  refine r_iconst 17 dX4_text_16 rfl rfl ?_
  refine r_putI 20 dX4_text_17 rfl kf_4_94 rfl rfl (Or.inl rfl) (by first | assumption | omega) (by assumption) ?_
  refine r_aload_n 21 dX4_text_20 rfl rfl ?_
  refine r_iconst 22 dX4_text_21 rfl rfl ?_
  refine r_putI 25 dX4_text_22 rfl kf_4_116 rfl rfl (Or.inl rfl) (by first | assumption | omega) (by assumption) ?_
  refine r_aload_n 26 dX4_text_25 rfl rfl ?_
  refine r_iconst 27 dX4_text_26 rfl rfl ?_
  refine r_putI 30 dX4_text_27 rfl kf_4_101 rfl rfl (Or.inl rfl) (by first | assumption | omega) (by assumption) ?_
  refine r_iconst 31 dX4_text_30 rfl rfl ?_
  refine r_istore_n 32 dX4_text_31 rfl rfl rfl ?_
  refine r_iconst 33 dX4_text_32 rfl rfl ?_
  refine r_istore_n 34 dX4_text_33 rfl rfl rfl ?_
  rotate_left -- leaf: pc 34
  refine l_mtx1 (l := l) lm0 (C := up (up (up (up (up (up h 45 10 0) 45 12 0) 45 3 0) 45 4 0) 45 5 0) 45 6 (-1)) (fun H he => ?_) 33 0 _ rfl (fun _ _ _ => rfl)
  have e8 : H 45 8 = 0 := by rw [he _ _ (by omega)]; simp [up, h8]
  have e10 : H 45 10 = 0 := by rw [he _ _ (by omega)]; simp [up]
  have e12 : H 45 12 = 0 := by rw [he _ _ (by omega)]; simp [up]
  have e3 : H 45 3 = 0 := by rw [he _ _ (by omega)]; simp [up]
  have e6 : H 45 6 = -1 := by rw [he _ _ (by omega)]; simp [up]
  refine r_aload_n 54 dX4_text_53 rfl rfl ?_
  rotate_left -- leaf: call at pc 54
  refine r_cv0 57 dX4_text_54 rfl kv_4_91 (by first | assumption | omega) (by assumption) rfl rfl (m_step0 lm0 e8 e10 e12) ?_
  rintro r h' ⟨rfl, rfl⟩
  obtain ⟨K, hK⟩ : ∃ K, K = up (up (up H 45 13 0) 45 15 0) 45 14 0 := ⟨_, rfl⟩
  have k10 : K 45 10 = 0 := by rw [hK]; simp [up, e10]
  have k14 : K 45 14 = 0 := by rw [hK]; simp [up]
  have k3 : K 45 3 = 0 := by rw [hK]; simp [up, e3]
  have k6 : K 45 6 = -1 := by rw [hK]; simp [up, e6]
  rw [← hK]
  refine r_aload_n 58 dX4_text_57 rfl rfl ?_
  refine r_getI 61 dX4_text_58 rfl kf_4_57 rfl (by first | assumption | omega) (by assumption) ?_
  refine r_if_ne 81 64 dX4_text_61 (by decide) rfl (fun c_61 => ?_) (fun c_61 => ?_)
  rotate_left -- leaf: pc 81
  refine r_aload_n 65 dX4_text_64 rfl rfl ?_
  refine r_getI 68 dX4_text_65 rfl kf_4_66 rfl (by first | assumption | omega) (by assumption) ?_
  refine r_if_eq 81 71 dX4_text_68 (by decide) rfl (fun c_68 => ?_) (fun c_68 => ?_)
  rotate_left -- leaf: pc 81
  rotate_left -- leaf: pc 71
  · omega
  · refine r_aload_n 82 dX4_text_81 rfl rfl ?_
    refine r_getI 85 dX4_text_82 rfl kf_4_57 rfl (by first | assumption | omega) (by assumption) ?_
    refine r_if_ne 105 88 dX4_text_85 (by decide) rfl (fun c_85 => ?_) (fun c_85 => ?_)
    rotate_left -- leaf: pc 105
    refine r_aload_n 89 dX4_text_88 rfl rfl ?_
    refine r_getI 92 dX4_text_89 rfl kf_4_101 rfl (by first | assumption | omega) (by assumption) ?_
    refine r_aload_n 93 dX4_text_92 rfl rfl ?_
    refine r_getI 96 dX4_text_93 rfl kf_4_104 rfl (by first | assumption | omega) (by assumption) ?_
    refine r_icmp_lt 105 99 dX4_text_96 (by decide) rfl (fun c_96 => ?_) (fun c_96 => ?_)
    rotate_left -- leaf: pc 105
    rotate_left -- leaf: pc 99
    · omega
    · rw [k6, k3] at *
      have g10 : up K 45 8 0 45 10 = 0 := by rw [up_j (by omega)]; exact k10
      refine r_aload_n 106 dX4_text_105 rfl rfl ?_
      refine r_iconst 107 dX4_text_106 rfl rfl ?_
      refine r_putI 110 dX4_text_107 rfl kf_4_53 rfl rfl (Or.inl rfl) (by first | assumption | omega) (by assumption) ?_
      refine r_aload_n 111 dX4_text_110 rfl rfl ?_
      refine r_aload_n 112 dX4_text_111 rfl rfl ?_
      refine r_getI 115 dX4_text_112 rfl kf_4_57 rfl (by first | assumption | omega) (by assumption) ?_
      rotate_left -- leaf: pc 115
      rw [g10]
      have g11 : up (up K 45 8 0) 45 9 0 45 10 = 0 := by rw [up_j (by omega)]; exact g10
      refine r_putI 118 dX4_text_115 rfl kf_4_125 rfl rfl (Or.inl rfl) (by first | assumption | omega) (by assumption) ?_
      refine r_aload_n 119 dX4_text_118 rfl rfl ?_
      refine r_getI 122 dX4_text_119 rfl kf_4_57 rfl (by first | assumption | omega) (by assumption) ?_
      refine r_if_le 133 125 dX4_text_122 (by decide) rfl (fun c_122 => ?_) (fun c_122 => ?_)
      rotate_left -- leaf: pc 133
      rotate_left -- leaf: pc 125
      · refine r_iconst 134 dX4_text_133 rfl rfl ?_
        refine r_istore_n 135 dX4_text_134 rfl rfl rfl ?_
        rotate_left -- leaf: pc 135
        refine l_mtx2 (l := l) lm0 (fun H2 => ?_) 33 0 _ rfl
        refine r_aload_n 160 dX4_text_159 rfl rfl ?_
        refine r_aload_n 161 dX4_text_160 rfl rfl ?_
        refine r_getI 164 dX4_text_161 rfl kf_4_104 rfl (by first | assumption | omega) (by assumption) ?_
        refine r_putI 167 dX4_text_164 rfl kf_4_128 rfl rfl (Or.inl rfl) (by first | assumption | omega) (by assumption) ?_
        refine r_aload_n 168 dX4_text_167 rfl rfl ?_
        refine r_iconst 169 dX4_text_168 rfl rfl ?_
        refine r_putI 172 dX4_text_169 rfl kf_4_131 rfl rfl (Or.inl rfl) (by first | assumption | omega) (by assumption) ?_
        refine r_aload_n 173 dX4_text_172 rfl rfl ?_
        refine r_getR 176 dX4_text_173 rfl kf_4_34 rfl (by first | assumption | omega) (by assumption) (by assumption) ?_
        refine r_iconst 177 dX4_text_176 rfl rfl ?_
        refine r_iconst 178 dX4_text_177 rfl rfl ?_
        first | refine r_bast 179 dX4_text_178 rfl (by first | assumption | omega) (by assumption) (by first | omega | (simp only [Int.toNat_natCast]; omega)) (by first | omega | (simp only [Int.toNat_natCast]; omega)) (by first | omega | (simp only [Int.toNat_natCast]; omega)) (by first | omega | (simp only [Int.toNat_natCast]; omega)) ?_ | refine r_zast 179 dX4_text_178 rfl (by first | assumption | omega) (by assumption) (by first | omega | (simp only [Int.toNat_natCast]; omega)) (by first | omega | (simp only [Int.toNat_natCast]; omega)) (by first | exact Or.inl rfl | exact Or.inr rfl | omega) ?_
        try simp only [Int.toNat_natCast, tq_4, tq_8, tq_22, tq_27, tq_99, tq_a, tl_0, tl_1, tl_20, tl_21, tl_22, tl_32]
        refine r_aload_n 180 dX4_text_179 rfl rfl ?_
        refine r_getR 183 dX4_text_180 rfl kf_4_34 rfl (by first | assumption | omega) (by assumption) (by assumption) ?_
        refine r_iconst 184 dX4_text_183 rfl rfl ?_
        refine r_iconst 185 dX4_text_184 rfl rfl ?_
        first | refine r_bast 186 dX4_text_185 rfl (by first | assumption | omega) (by assumption) (by first | omega | (simp only [Int.toNat_natCast]; omega)) (by first | omega | (simp only [Int.toNat_natCast]; omega)) (by first | omega | (simp only [Int.toNat_natCast]; omega)) (by first | omega | (simp only [Int.toNat_natCast]; omega)) ?_ | refine r_zast 186 dX4_text_185 rfl (by first | assumption | omega) (by assumption) (by first | omega | (simp only [Int.toNat_natCast]; omega)) (by first | omega | (simp only [Int.toNat_natCast]; omega)) (by first | exact Or.inl rfl | exact Or.inr rfl | omega) ?_
        try simp only [Int.toNat_natCast, tq_4, tq_8, tq_22, tq_27, tq_99, tq_a, tl_0, tl_1, tl_20, tl_21, tl_22, tl_32]
        refine r_iload_n 187 dX4_text_186 rfl rfl ?_
        refine r_iret dX4_text_187 rfl ?_
        rotate_left -- leaf: return at pc 187
        rfl
      · omega
    · omega
  · omega
theorem m_read0 (lm : LM G) (h0 : ∀ j, j < 4 → h 55 j = -4) (k a i n : Int) : Ca l G 3 mX4_read [vR 45, vI k, vI a, vI i, vI n] h (fun r h' => r = some (vI (if (0 ≤ k ∧ k ≤ 3) ∧ (0 ≤ a ∧ a ≤ 2) ∧ 0 ≤ n ∧ n ≤ 20 then 0 else -1))) := by
  have lm0 := lm
  obtain ⟨hN, ⟨ms45, ms46, ms47, ms48, ms49, ms50, ms51, ms52, ms53, ms54, ms55, ms56, ms57⟩, ⟨ml46, ml47, ml48, ml49, ml50, ml51, ml52, ml53, ml54, ml55, ml56, ml57⟩, ⟨mr0, mr2, mr7, mr16, mr17, mr18, mr20, mr22, mr24, mr25, mr26, mr27⟩⟩ := lm
  refine Ca.of (by decide) (Nat.le_of_ble_eq_true rfl) (fun hI hv hH => ?_)
  refine r_iload_n 1 dX4_read_0 rfl rfl ?_
  refine r_i2l 2 dX4_read_1 rfl ?_
  refine r_lconst 3 dX4_read_2 rfl 0 rfl (by decide) ?_
  refine r_ldc2 6 (3) dX4_read_3 rfl kq_4_165 rfl ?_
  rotate_left -- leaf: call at pc 6
  refine r_cs3 9 dX4_read_6 rfl ks_4_49 rfl rfl (c_in k 0 3) ?_
  rintro r h' ⟨rfl, rfl⟩
  refine r_if_eq 37 12 dX4_read_9 (by decide) rfl (fun c_9 => ?_) (fun c_9 => ?_)
  refine r_iconst 38 dX4_read_37 rfl rfl ?_
  refine r_iret dX4_read_38 rfl ?_
  rotate_left -- leaf: return at pc 38
  refine r_iload_n 13 dX4_read_12 rfl rfl ?_
  refine r_i2l 14 dX4_read_13 rfl ?_
  refine r_lconst 15 dX4_read_14 rfl 0 rfl (by decide) ?_
  refine r_ldc2 18 (2) dX4_read_15 rfl kq_4_231 rfl ?_
  rotate_left -- leaf: call at pc 18
  · rw [if_neg (by have := z01_n.mp c_9; omega)]
  · have hk := z01_y.mp c_9
    refine r_cs3 21 dX4_read_18 rfl ks_4_49 rfl rfl (c_in a 0 2) ?_
    rintro r h'' ⟨rfl, rfl⟩
    refine r_if_eq 37 24 dX4_read_21 (by decide) rfl (fun c_21 => ?_) (fun c_21 => ?_)
    refine r_iconst 38 dX4_read_37 rfl rfl ?_
    refine r_iret dX4_read_38 rfl ?_
    rotate_left -- leaf: return at pc 38
    refine r_iload 26 dX4_read_24 rfl rfl ?_
    refine r_i2l 27 dX4_read_26 rfl ?_
    refine r_lconst 28 dX4_read_27 rfl 0 rfl (by decide) ?_
    refine r_ldc2 31 (20) dX4_read_28 rfl kq_4_233 rfl ?_
    rotate_left -- leaf: call at pc 31
    · rw [if_neg (by have := z01_n.mp c_21; omega)]
    · have ha := z01_y.mp c_21
      refine r_cs3 34 dX4_read_31 rfl ks_4_49 rfl rfl (c_in n 0 20) ?_
      rintro r h3 ⟨rfl, rfl⟩
      refine r_if_ne 39 37 dX4_read_34 (by decide) rfl (fun c_34 => ?_) (fun c_34 => ?_)
      refine r_aload_n 40 dX4_read_39 rfl rfl ?_
      refine r_iconst 41 dX4_read_40 rfl rfl ?_
      refine r_bipush 43 dX4_read_41 rfl rfl (by decide) ?_
      rotate_left -- leaf: call at pc 43
      refine r_iconst 38 dX4_read_37 rfl rfl ?_
      refine r_iret dX4_read_38 rfl ?_
      rotate_left -- leaf: return at pc 38
      · have hn := z01_y.mp c_34
        rw [if_pos ⟨hk, ha, hn⟩]
        refine r_cv2 46 dX4_read_43 rfl kv_4_196 (by first | assumption | omega) (by assumption) rfl rfl (m_copies lm0 0 99 (by omega) (by omega)) ?_
        rintro r h4 ⟨rfl, rfl⟩
        obtain ⟨k, rfl⟩ : ∃ j : Nat, k = j := ⟨k.toNat, by omega⟩
        have hl : cpP h3 0 99 33 55 k = -4 := by rw [cpP_o (by omega)]; exact h0 k (by omega)
        refine r_iconst 47 dX4_read_46 rfl rfl ?_
        refine r_istore 49 dX4_read_47 rfl rfl rfl ?_
        refine r_iconst 50 dX4_read_49 rfl rfl ?_
        refine r_istore 52 dX4_read_50 rfl rfl rfl ?_
        refine r_iconst 53 dX4_read_52 rfl rfl ?_
        refine r_istore 55 dX4_read_53 rfl rfl rfl ?_
        refine r_iload 57 dX4_read_55 rfl rfl ?_
        refine r_iconst 58 dX4_read_57 rfl rfl ?_
        refine r_iload 60 dX4_read_58 rfl rfl ?_
        refine r_imul 61 dX4_read_60 rfl (by first | exact w32_id (by omega) (by omega) | rfl) ?_
        refine r_icmp_ge 197 64 dX4_read_61 (by decide) rfl (fun c_61 => ?_) (fun c_61 => ?_)
        rotate_left -- leaf: pc 197
        refine r_iload 66 dX4_read_64 rfl rfl ?_
        refine r_if_ne 197 69 dX4_read_66 (by decide) rfl (fun c_66 => ?_) (fun c_66 => ?_)
        rotate_left -- leaf: pc 197
        rotate_left -- leaf: pc 69
        · refine r_aload_n 198 dX4_read_197 rfl rfl ?_
          refine r_iload 200 dX4_read_198 rfl rfl ?_
          refine r_putI 203 dX4_read_200 rfl kf_4_235 rfl rfl (Or.inl rfl) (by first | assumption | omega) (by assumption) ?_
          refine r_iload 205 dX4_read_203 rfl rfl ?_
          refine r_iret dX4_read_205 rfl ?_
          rotate_left -- leaf: return at pc 205
          rfl
        · omega
        · refine r_aload_n 70 dX4_read_69 rfl rfl ?_
          refine r_getR 73 dX4_read_70 rfl kf_4_38 rfl (by first | assumption | omega) (by assumption) (by assumption) ?_
          refine r_iload_n 74 dX4_read_73 rfl rfl ?_
          refine r_iald 75 dX4_read_74 rfl (by first | assumption | omega) (by assumption) (by first | omega | (simp only [Int.toNat_natCast]; omega)) (by first | omega | (simp only [Int.toNat_natCast]; omega)) ?_
          try simp only [Int.toNat_natCast, tq_4, tq_8, tq_22, tq_27, tq_99, tq_a, tl_0, tl_1, tl_20, tl_21, tl_22, tl_32]
          rotate_left -- leaf: pc 75
          rw [hl]
          refine r_bipush 77 dX4_read_75 rfl rfl (by decide) ?_
          refine r_icmp_ne 84 80 dX4_read_77 (by decide) rfl (fun c_77 => ?_) (fun c_77 => ?_)
          rotate_left -- leaf: pc 84
          refine r_iconst 81 dX4_read_80 rfl rfl ?_
          refine r_goto 125 dX4_read_81 (by decide) ?_
          refine r_istore 127 dX4_read_125 rfl rfl rfl ?_
          refine r_iload 129 dX4_read_127 rfl rfl ?_
          refine r_if_ne 191 132 dX4_read_129 (by decide) rfl (fun c_129 => ?_) (fun c_129 => ?_)
          refine r_iinc 194 _ dX4_read_191 rfl rfl rfl rfl (by first | exact w32_id (by omega) (by omega) | rfl) ?_
          refine r_goto 55 dX4_read_194 (by decide) ?_
          rotate_left -- leaf: pc 55
          rotate_left -- leaf: pc 132
          · omega
          · refine r_iload 57 dX4_read_55 rfl rfl ?_
            refine r_iconst 58 dX4_read_57 rfl rfl ?_
            refine r_iload 60 dX4_read_58 rfl rfl ?_
            refine r_imul 61 dX4_read_60 rfl (by first | exact w32_id (by omega) (by omega) | rfl) ?_
            refine r_icmp_ge 197 64 dX4_read_61 (by decide) rfl (fun c_61 => ?_) (fun c_61 => ?_)
            rotate_left -- leaf: pc 197
            refine r_iload 66 dX4_read_64 rfl rfl ?_
            refine r_if_ne 197 69 dX4_read_66 (by decide) rfl (fun c_66 => ?_) (fun c_66 => ?_)
            rotate_left -- leaf: pc 197
            rotate_left -- leaf: pc 69
            · omega
            · refine r_aload_n 198 dX4_read_197 rfl rfl ?_
              refine r_iload 200 dX4_read_198 rfl rfl ?_
              refine r_putI 203 dX4_read_200 rfl kf_4_235 rfl rfl (Or.inl rfl) (by first | assumption | omega) (by assumption) ?_
              refine r_iload 205 dX4_read_203 rfl rfl ?_
              refine r_iret dX4_read_205 rfl ?_
              rotate_left -- leaf: return at pc 205
              rfl
            · omega
          · omega
      · rw [if_neg (by have := z01_n.mp c_34; omega)]
theorem l_mbyA (lm : LM G) (v i x : Int) {Φ : Option zV → zH → Prop} {H : zH} (hΦ : Rr l G 5 mX4_byClouds Φ 67 [some (vR 45), some (vI v), some (vI i), some (vI x), some (vI 0), some (vI 0), some (vL 0), none, some (vL 1), none, some (vI 12), none, none, none] [] H) : ∀ (n j : Nat), j + n = 12 → Rr l G 5 mX4_byClouds Φ 31 [some (vR 45), some (vI v), some (vI i), some (vI x), some (vI 0), some (vI 0), some (vL 0), none, some (vL 1), none, some (vI j), none, none, none] [] H := by
  obtain ⟨hN, ⟨ms45, ms46, ms47, ms48, ms49, ms50, ms51, ms52, ms53, ms54, ms55, ms56, ms57⟩, ⟨ml46, ml47, ml48, ml49, ml50, ml51, ml52, ml53, ml54, ml55, ml56, ml57⟩, ⟨mr0, mr2, mr7, mr16, mr17, mr18, mr20, mr22, mr24, mr25, mr26, mr27⟩⟩ := lm
  intro n
  induction n with
  | zero =>
    intro j hj
    obtain rfl : j = 12 := by omega
    refine r_iload 33 dX4_byClouds_31 rfl rfl ?_
    refine r_bipush 35 dX4_byClouds_33 rfl rfl (by decide) ?_
    refine r_icmp_ge 67 38 dX4_byClouds_35 (by decide) rfl (fun c_35 => ?_) (fun c_35 => ?_)
    rotate_left -- leaf: pc 67
    rotate_left -- leaf: pc 38
    · exact hΦ
    · omega
  | succ n ih =>
    intro j hj
    refine r_iload 33 dX4_byClouds_31 rfl rfl ?_
    refine r_bipush 35 dX4_byClouds_33 rfl rfl (by decide) ?_
    refine r_icmp_ge 67 38 dX4_byClouds_35 (by decide) rfl (fun c_35 => ?_) (fun c_35 => ?_)
    rotate_left -- leaf: pc 67
    refine r_lload 40 dX4_byClouds_38 rfl rfl ?_
    refine r_iload 42 dX4_byClouds_40 rfl rfl ?_
    refine r_iload 44 dX4_byClouds_42 rfl rfl ?_
    refine r_ishr 45 dX4_byClouds_44 rfl rfl ?_
    rotate_left -- leaf: pc 45
    · omega
    · rw [z_shr0 j (by omega)]
      refine r_iconst 46 dX4_byClouds_45 rfl rfl ?_
      refine r_iand 47 dX4_byClouds_46 rfl rfl ?_
      refine r_iconst 48 dX4_byClouds_47 rfl rfl ?_
      refine r_icmp_ne 57 51 dX4_byClouds_48 (by decide) rfl (fun c_48 => ?_) (fun c_48 => ?_)
      refine r_lconst 58 dX4_byClouds_57 rfl 1 rfl (by decide) ?_
      refine r_lmul 59 dX4_byClouds_58 rfl (by first | exact w64_id (by omega) (by omega) | rfl) ?_
      refine r_lstore 61 dX4_byClouds_59 rfl rfl rfl ?_
      refine r_iinc 64 _ dX4_byClouds_61 rfl rfl rfl rfl (by first | exact w32_id (by omega) (by omega) | rfl) ?_
      refine r_goto 31 dX4_byClouds_64 (by decide) ?_
      rotate_left -- leaf: pc 31
      rotate_left -- leaf: pc 51
      · exact ih (j + 1) (by omega)
      · exact absurd c_48 (by decide)
theorem l_mbyB (lm : LM G) (v i x : Int) {Φ : Option zV → zH → Prop} {H : zH} (hΦ : Rr l G 5 mX4_byClouds Φ 206 [some (vR 45), some (vI v), some (vI i), some (vI x), some (vI 0), some (vI 0), some (vL 0), none, some (vL 1), none, some (vI 4096), some (vL 1), none, some (vI 0)] [] H) : ∀ (n j : Nat), j + n = 4096 → 1 ≤ j → Rr l G 5 mX4_byClouds Φ 70 [some (vR 45), some (vI v), some (vI i), some (vI x), some (vI 0), some (vI 0), some (vL 0), none, some (vL 1), none, some (vI j), some (vL 1), none, some (vI 0)] [] H := by
  obtain ⟨hN, ⟨ms45, ms46, ms47, ms48, ms49, ms50, ms51, ms52, ms53, ms54, ms55, ms56, ms57⟩, ⟨ml46, ml47, ml48, ml49, ml50, ml51, ml52, ml53, ml54, ml55, ml56, ml57⟩, ⟨mr0, mr2, mr7, mr16, mr17, mr18, mr20, mr22, mr24, mr25, mr26, mr27⟩⟩ := lm
  intro n
  induction n with
  | zero =>
    intro j hj hp
    obtain rfl : j = 4096 := by omega
    refine r_iload 72 dX4_byClouds_70 rfl rfl ?_
    refine r_sipush 75 dX4_byClouds_72 rfl rfl (by decide) ?_
    refine r_icmp_ge 206 78 dX4_byClouds_75 (by decide) rfl (fun c_75 => ?_) (fun c_75 => ?_)
    rotate_left -- leaf: pc 206
    rotate_left -- leaf: pc 78
    · exact hΦ
    · omega
  | succ n ih =>
    intro j hj hp
    refine r_iload 72 dX4_byClouds_70 rfl rfl ?_
    refine r_sipush 75 dX4_byClouds_72 rfl rfl (by decide) ?_
    refine r_icmp_ge 206 78 dX4_byClouds_75 (by decide) rfl (fun c_75 => ?_) (fun c_75 => ?_)
    rotate_left -- leaf: pc 206
    refine r_iload 80 dX4_byClouds_78 rfl rfl ?_
    refine r_iload 82 dX4_byClouds_80 rfl rfl ?_
    refine r_iconst 83 dX4_byClouds_82 rfl rfl ?_
    refine r_ixor 84 dX4_byClouds_83 rfl rfl ?_
    refine r_iand 85 dX4_byClouds_84 rfl rfl ?_
    rotate_left -- leaf: pc 85
    · omega
    · rw [show z_ixor 0 (-1) = -1 from rfl, z_andm (x := (j : Int)) (by constructor <;> omega)]
      refine r_if_ne 200 88 dX4_byClouds_85 (by decide) rfl (fun c_85 => ?_) (fun c_85 => ?_)
      refine r_iinc 203 _ dX4_byClouds_200 rfl rfl rfl rfl (by first | exact w32_id (by omega) (by omega) | rfl) ?_
      refine r_goto 70 dX4_byClouds_203 (by decide) ?_
      rotate_left -- leaf: pc 70
      rotate_left -- leaf: pc 88
      · exact ih (j + 1) (by omega) (by omega)
      · omega
theorem l_mbyC (lm : LM G) (v i x : Int) {Φ : Option zV → zH → Prop} {H : zH} (hΦ : Rr l G 5 mX4_byClouds Φ 147 [some (vR 45), some (vI v), some (vI i), some (vI x), some (vI 0), some (vI 0), some (vL 0), none, some (vL 1), none, some (vI 0), some (vL 1), none, some (vI 12)] [] H) : ∀ (n j : Nat), j + n = 12 → Rr l G 5 mX4_byClouds Φ 94 [some (vR 45), some (vI v), some (vI i), some (vI x), some (vI 0), some (vI 0), some (vL 0), none, some (vL 1), none, some (vI 0), some (vL 1), none, some (vI j)] [] H := by
  obtain ⟨hN, ⟨ms45, ms46, ms47, ms48, ms49, ms50, ms51, ms52, ms53, ms54, ms55, ms56, ms57⟩, ⟨ml46, ml47, ml48, ml49, ml50, ml51, ml52, ml53, ml54, ml55, ml56, ml57⟩, ⟨mr0, mr2, mr7, mr16, mr17, mr18, mr20, mr22, mr24, mr25, mr26, mr27⟩⟩ := lm
  intro n
  induction n with
  | zero =>
    intro j hj
    obtain rfl : j = 12 := by omega
    refine r_iload 96 dX4_byClouds_94 rfl rfl ?_
    refine r_bipush 98 dX4_byClouds_96 rfl rfl (by decide) ?_
    refine r_icmp_ge 147 101 dX4_byClouds_98 (by decide) rfl (fun c_98 => ?_) (fun c_98 => ?_)
    rotate_left -- leaf: pc 147
    rotate_left -- leaf: pc 101
    · exact hΦ
    · omega
  | succ n ih =>
    intro j hj
    refine r_iload 96 dX4_byClouds_94 rfl rfl ?_
    refine r_bipush 98 dX4_byClouds_96 rfl rfl (by decide) ?_
    refine r_icmp_ge 147 101 dX4_byClouds_98 (by decide) rfl (fun c_98 => ?_) (fun c_98 => ?_)
    rotate_left -- leaf: pc 147
    refine r_lload 103 dX4_byClouds_101 rfl rfl ?_
    refine r_iload 105 dX4_byClouds_103 rfl rfl ?_
    refine r_iload 107 dX4_byClouds_105 rfl rfl ?_
    refine r_ishr 108 dX4_byClouds_107 rfl rfl ?_
    rotate_left -- leaf: pc 108
    · omega
    · rw [z_shr0 j (by omega)]
      refine r_iconst 109 dX4_byClouds_108 rfl rfl ?_
      refine r_iand 110 dX4_byClouds_109 rfl rfl ?_
      refine r_if_ne 117 113 dX4_byClouds_110 (by decide) rfl (fun c_110 => ?_) (fun c_110 => ?_)
      rotate_left -- leaf: pc 117
      refine r_lconst 114 dX4_byClouds_113 rfl 1 rfl (by decide) ?_
      refine r_goto 138 dX4_byClouds_114 (by decide) ?_
      refine r_lmul 139 dX4_byClouds_138 rfl (by first | exact w64_id (by omega) (by omega) | rfl) ?_
      refine r_lstore 141 dX4_byClouds_139 rfl rfl rfl ?_
      refine r_iinc 144 _ dX4_byClouds_141 rfl rfl rfl rfl (by first | exact w32_id (by omega) (by omega) | rfl) ?_
      refine r_goto 94 dX4_byClouds_144 (by decide) ?_
      rotate_left -- leaf: pc 94
      · exact absurd rfl c_110
      · exact ih (j + 1) (by omega)
theorem m_by0 (lm : LM G) (wm : wM h) (h20 : h 46 20 = 0) (h32 : h 46 32 = 0) (hr : ∀ j, j < 12 → h 46 (8 + j) = 0) (v x : Int) : Ca l G 5 mX4_byClouds [vR 45, vI v, vI (-4), vI x] h (fun r h' => r = some (vL (if x = 0 then 0 else 1))) := by
  have lm0 := lm
  have wg := wm.1
  obtain ⟨hN, ⟨ms45, ms46, ms47, ms48, ms49, ms50, ms51, ms52, ms53, ms54, ms55, ms56, ms57⟩, ⟨ml46, ml47, ml48, ml49, ml50, ml51, ml52, ml53, ml54, ml55, ml56, ml57⟩, ⟨mr0, mr2, mr7, mr16, mr17, mr18, mr20, mr22, mr24, mr25, mr26, mr27⟩⟩ := lm
  refine Ca.of (by decide) (Nat.le_of_ble_eq_true rfl) (fun hI hv hH => ?_)
  refine r_aload_n 1 dX4_byClouds_0 rfl rfl ?_
  refine r_getR 4 dX4_byClouds_1 rfl kf_4_7 rfl (by first | assumption | omega) (by assumption) (by assumption) ?_
  refine r_bipush 6 dX4_byClouds_4 rfl rfl (by decide) ?_
  refine r_iald 7 dX4_byClouds_6 rfl (by first | assumption | omega) (by assumption) (by first | omega | (simp only [Int.toNat_natCast]; omega)) (by first | omega | (simp only [Int.toNat_natCast]; omega)) ?_
  try simp only [Int.toNat_natCast, tq_4, tq_8, tq_22, tq_27, tq_99, tq_a, tl_0, tl_1, tl_20, tl_21, tl_22, tl_32]
  rotate_left -- leaf: pc 7
  rw [h20]
  refine r_istore 9 dX4_byClouds_7 rfl rfl rfl ?_
  refine r_aload_n 10 dX4_byClouds_9 rfl rfl ?_
  refine r_bipush 12 dX4_byClouds_10 rfl rfl (by decide) ?_
  rotate_left -- leaf: call at pc 12
  refine r_cv1 15 dX4_byClouds_12 rfl kv_4_155 (by first | assumption | omega) (by assumption) rfl rfl (m_hoursOf lm0 wg.2.2.1 (-4)) ?_
  rintro r h' ⟨rfl, rfl⟩
  rw [orN_0 12 (fun j hj => by have := hr j hj; simp [hoB, stM, this]), show ((0 : Nat) : Int) = 0 from rfl]
  refine r_iload 17 dX4_byClouds_15 rfl rfl ?_
  refine r_iconst 18 dX4_byClouds_17 rfl rfl ?_
  refine r_ixor 19 dX4_byClouds_18 rfl rfl ?_
  refine r_iand 20 dX4_byClouds_19 rfl rfl ?_
  rotate_left -- leaf: pc 20
  rw [show z_ixor 0 (-1) = -1 from rfl, z_andm (x := 0) (by constructor <;> omega)]
  refine r_istore 22 dX4_byClouds_20 rfl rfl rfl ?_
  refine r_lconst 23 dX4_byClouds_22 rfl 0 rfl (by decide) ?_
  refine r_lstore 25 dX4_byClouds_23 rfl rfl rfl ?_
  refine r_lconst 26 dX4_byClouds_25 rfl 1 rfl (by decide) ?_
  refine r_lstore 28 dX4_byClouds_26 rfl rfl rfl ?_
  refine r_iconst 29 dX4_byClouds_28 rfl rfl ?_
  refine r_istore 31 dX4_byClouds_29 rfl rfl rfl ?_
  rotate_left -- leaf: pc 31
  refine l_mbyA (l := l) lm0 v (-4) x ?_ 12 0 rfl
  refine r_iconst 68 dX4_byClouds_67 rfl rfl ?_
  refine r_istore 70 dX4_byClouds_68 rfl rfl rfl ?_
  refine r_iload 72 dX4_byClouds_70 rfl rfl ?_
  refine r_sipush 75 dX4_byClouds_72 rfl rfl (by decide) ?_
  refine r_icmp_ge 206 78 dX4_byClouds_75 (by decide) rfl (fun c_75 => ?_) (fun c_75 => ?_)
  rotate_left -- leaf: pc 206
  refine r_iload 80 dX4_byClouds_78 rfl rfl ?_
  refine r_iload 82 dX4_byClouds_80 rfl rfl ?_
  refine r_iconst 83 dX4_byClouds_82 rfl rfl ?_
  refine r_ixor 84 dX4_byClouds_83 rfl rfl ?_
  refine r_iand 85 dX4_byClouds_84 rfl rfl ?_
  rotate_left -- leaf: pc 85
  · omega
  rw [show z_ixor 0 (-1) = -1 from rfl, z_andm (x := 0) (by constructor <;> omega)]
  refine r_if_ne 200 88 dX4_byClouds_85 (by decide) rfl (fun c_85 => ?_) (fun c_85 => ?_)
  rotate_left -- leaf: pc 200
  refine r_lconst 89 dX4_byClouds_88 rfl 1 rfl (by decide) ?_
  refine r_lstore 91 dX4_byClouds_89 rfl rfl rfl ?_
  refine r_iconst 92 dX4_byClouds_91 rfl rfl ?_
  refine r_istore 94 dX4_byClouds_92 rfl rfl rfl ?_
  rotate_left -- leaf: pc 94
  · omega
  refine l_mbyC (l := l) lm0 v (-4) x ?_ 12 0 rfl
  refine r_aload_n 148 dX4_byClouds_147 rfl rfl ?_
  refine r_getR 151 dX4_byClouds_148 rfl kf_4_7 rfl (by first | assumption | omega) (by assumption) (by assumption) ?_
  refine r_bipush 153 dX4_byClouds_151 rfl rfl (by decide) ?_
  refine r_iload 155 dX4_byClouds_153 rfl rfl ?_
  refine r_iload 157 dX4_byClouds_155 rfl rfl ?_
  refine r_ior 158 dX4_byClouds_157 rfl rfl ?_
  refine r_iast 159 dX4_byClouds_158 rfl (by first | assumption | omega) (by assumption) (by first | omega | (simp only [Int.toNat_natCast]; omega)) (by first | omega | (simp only [Int.toNat_natCast]; omega)) ?_
  try simp only [Int.toNat_natCast, tq_4, tq_8, tq_22, tq_27, tq_99, tq_a, tl_0, tl_1, tl_20, tl_21, tl_22, tl_32]
  refine r_aload_n 160 dX4_byClouds_159 rfl rfl ?_
  rotate_left -- leaf: call at pc 160
  have e : up h' 46 20 (z_ior 0 0) = h' := by
    rw [show z_ior 0 0 = h' 46 20 from h20.symm]
    funext a b
    by_cases q : a = 46 ∧ b = 20
    · obtain ⟨rfl, rfl⟩ := q
      exact up_s
    · exact up_n q
  rw [e]
  refine r_cv0 163 dX4_byClouds_160 rfl kv_4_158 (by first | assumption | omega) (by assumption) rfl rfl (m_harm lm0 wg) ?_
  rintro r h'' ⟨rfl, rfl⟩
  have e0 : hmM (h' 46) = 0 := by unfold hmM; rw [h32]; rfl
  rw [e0]
  refine r_istore 165 dX4_byClouds_163 rfl rfl rfl ?_
  refine r_lload 167 dX4_byClouds_165 rfl rfl ?_
  refine r_lload 169 dX4_byClouds_167 rfl rfl ?_
  refine r_iload_n 170 dX4_byClouds_169 rfl rfl ?_
  refine r_bipush 172 dX4_byClouds_170 rfl rfl (by decide) ?_
  refine r_icmp_ne 180 175 dX4_byClouds_172 (by decide) rfl (fun c_172 => ?_) (fun c_172 => ?_)
  rotate_left -- leaf: pc 180
  refine r_iload 177 dX4_byClouds_175 rfl rfl ?_
  refine r_goto 195 dX4_byClouds_177 (by decide) ?_
  refine r_i2l 196 dX4_byClouds_195 rfl ?_
  refine r_lmul 197 dX4_byClouds_196 rfl (by first | exact w64_id (by omega) (by omega) | rfl) ?_
  refine r_ladd 198 dX4_byClouds_197 rfl (by first | exact w64_id (by omega) (by omega) | rfl) ?_
  refine r_lstore 200 dX4_byClouds_198 rfl rfl rfl ?_
  refine r_iinc 203 _ dX4_byClouds_200 rfl rfl rfl rfl (by first | exact w32_id (by omega) (by omega) | rfl) ?_
  refine r_goto 70 dX4_byClouds_203 (by decide) ?_
  rotate_left -- leaf: pc 70
  · omega
  · refine l_mbyB (l := l) lm0 v (-4) x ?_ 4095 1 rfl (by omega)
    refine r_aload_n 207 dX4_byClouds_206 rfl rfl ?_
    refine r_getR 210 dX4_byClouds_207 rfl kf_4_7 rfl (by first | assumption | omega) (by assumption) (by assumption) ?_
    refine r_bipush 212 dX4_byClouds_210 rfl rfl (by decide) ?_
    refine r_iload 214 dX4_byClouds_212 rfl rfl ?_
    refine r_iast 215 dX4_byClouds_214 rfl (by first | assumption | omega) (by assumption) (by first | omega | (simp only [Int.toNat_natCast]; omega)) (by first | omega | (simp only [Int.toNat_natCast]; omega)) ?_
    try simp only [Int.toNat_natCast, tq_4, tq_8, tq_22, tq_27, tq_99, tq_a, tl_0, tl_1, tl_20, tl_21, tl_22, tl_32]
    refine r_lload 217 dX4_byClouds_215 rfl rfl ?_
    refine r_lload 219 dX4_byClouds_217 rfl rfl ?_
    refine r_iload_n 220 dX4_byClouds_219 rfl rfl ?_
    rotate_left -- leaf: call at pc 220
    refine r_cs3 223 dX4_byClouds_220 rfl ks_4_202 rfl rfl (m_lowest01 x) ?_
    rintro r h3 ⟨rfl, rfl⟩
    refine r_lret dX4_byClouds_223 rfl ?_
    rotate_left -- leaf: return at pc 223
    rfl
theorem m_mean0 (lm : LM G) (wm : wM h) (h20 : h 46 20 = 0) (h32 : h 46 32 = 0) (hr : ∀ j, j < 12 → h 46 (8 + j) = 0) (v x : Int) : Ca l G 6 mX4_mean [vR 45, vI v, vI x] h (fun r h' => r = some (vL (if v < 0 ∨ 10 < v ∨ ¬ (x = 0 ∨ x = 1) then -1 else if x = 0 then 0 else 1))) := by
  have lm0 := lm
  obtain ⟨hN, ⟨ms45, ms46, ms47, ms48, ms49, ms50, ms51, ms52, ms53, ms54, ms55, ms56, ms57⟩, ⟨ml46, ml47, ml48, ml49, ml50, ml51, ml52, ml53, ml54, ml55, ml56, ml57⟩, ⟨mr0, mr2, mr7, mr16, mr17, mr18, mr20, mr22, mr24, mr25, mr26, mr27⟩⟩ := lm
  refine Ca.of (by decide) (Nat.le_of_ble_eq_true rfl) (fun hI hv hH => ?_)
  refine r_iload_n 1 dX4_mean_0 rfl rfl ?_
  refine r_i2l 2 dX4_mean_1 rfl ?_
  refine r_lconst 3 dX4_mean_2 rfl 0 rfl (by decide) ?_
  refine r_ldc2 6 (10) dX4_mean_3 rfl kq_4_200 rfl ?_
  rotate_left -- leaf: call at pc 6
  refine r_cs3 9 dX4_mean_6 rfl ks_4_49 rfl rfl (c_in v 0 10) ?_
  rintro r h' ⟨rfl, rfl⟩
  refine r_if_eq 33 12 dX4_mean_9 (by decide) rfl (fun c_9 => ?_) (fun c_9 => ?_)
  refine r_ldc2 36 (-1) dX4_mean_33 rfl kq_4_210 rfl ?_
  refine r_lret dX4_mean_36 rfl ?_
  rotate_left -- leaf: return at pc 36
  refine r_iload_n 13 dX4_mean_12 rfl rfl ?_
  refine r_i2l 14 dX4_mean_13 rfl ?_
  refine r_lconst 15 dX4_mean_14 rfl 0 rfl (by decide) ?_
  refine r_lconst 16 dX4_mean_15 rfl 1 rfl (by decide) ?_
  rotate_left -- leaf: call at pc 16
  · rw [if_pos (by have := z01_n.mp c_9; omega)]
  · have hv1 := z01_y.mp c_9
    refine r_cs3 19 dX4_mean_16 rfl ks_4_49 rfl rfl (c_in x 0 1) ?_
    rintro r h'' ⟨rfl, rfl⟩
    refine r_if_eq 33 22 dX4_mean_19 (by decide) rfl (fun c_19 => ?_) (fun c_19 => ?_)
    refine r_ldc2 36 (-1) dX4_mean_33 rfl kq_4_210 rfl ?_
    refine r_lret dX4_mean_36 rfl ?_
    rotate_left -- leaf: return at pc 36
    refine r_aload_n 23 dX4_mean_22 rfl rfl ?_
    refine r_iload_n 24 dX4_mean_23 rfl rfl ?_
    refine r_bipush 26 dX4_mean_24 rfl rfl (by decide) ?_
    refine r_iload_n 27 dX4_mean_26 rfl rfl ?_
    rotate_left -- leaf: call at pc 27
    · rw [if_pos (by have := z01_n.mp c_19; omega)]
    · have hx1 := z01_y.mp c_19
      rw [if_neg (by omega)]
      refine r_cv3 30 dX4_mean_27 rfl kv_4_206 (by first | assumption | omega) (by assumption) rfl rfl (m_by0 lm0 wm h20 h32 hr v x) ?_
      rintro r h3 rfl
      refine r_goto 36 dX4_mean_30 (by decide) ?_
      refine r_lret dX4_mean_36 rfl ?_
      rotate_left -- leaf: return at pc 36
      rfl
end MO
