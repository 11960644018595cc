/-! SunPointerModel: what is read, what is changed -/
section MO
variable {l : Launch} {G : zG} {h : zH}
theorem z_bit {c : Int} {j : Nat} (hc : 0 ≤ c ∧ c < 4096) (hj : j < 32) : z_iand (z_ishr c (j : Int)) 1 = bitI c j := by
  have h2 : (0 : Int) < 2 ^ j := Int.pow_pos (by decide)
  have h3 : 0 ≤ c / 2 ^ j := Int.ediv_nonneg hc.1 (by omega)
  have h4 : c / 2 ^ j ≤ c := Int.ediv_le_self _ hc.1
  rw [z_shr ⟨by omega, by omega⟩ hj, z_and1 ⟨by omega, by omega⟩]
  rfl
theorem bitI_c (c : Int) (j : Nat) : bitI c j = 0 ∨ bitI c j = 1 := by unfold bitI; omega
theorem l_lays (lm : LM G) (wg : wPg (h 46)) {Φ : Option zV → zH → Prop} (hΦ : Φ none (setB h 51 48 (rdM (h 46)))) : ∀ (n q : Nat) (x2 x3 x4 : Option zV), q + n = 48 → Rr l G 3 mX4_laysReads Φ 2 [some (vR 45), some (vI q), x2, x3, x4] [] (setB h 51 q (rdM (h 46))) := by
  have lm0 := lm
  obtain ⟨hN, ⟨ms45, ms46, ms47, ms48, ms49, ms50, ms51, ms52, ms53, ms54, ms55, ms56, ms57⟩, ⟨ml46, ml47, ml48, ml49, ml50, ml51, ml52, ml53, ml54, ml55, ml56, ml57⟩, ⟨mr0, mr2, mr7, mr16, mr17, mr18, mr20, mr22, mr24, mr25, mr26, mr27⟩⟩ := lm
  obtain ⟨wg1, wg2, wg3, wg4, wg5, wg6, wg7, wg8⟩ := wg
  intro n
  induction n with
  | zero =>
    intro q x2 x3 x4 hq
    obtain rfl : q = 48 := by omega
    refine r_iload_n 3 dX4_laysReads_2 rfl rfl ?_
    refine r_bipush 5 dX4_laysReads_3 rfl rfl (by decide) ?_
    refine r_icmp_ge 127 8 dX4_laysReads_5 (by decide) rfl (fun c_5 => ?_) (fun c_5 => ?_)
    refine r_ret dX4_laysReads_127 rfl ?_
    rotate_left -- leaf: return at pc 127
    rotate_left -- leaf: pc 8
    · exact hΦ
    · omega
  | succ n ih =>
    intro q x2 x3 x4 hq
    have ih := ih (q + 1)
    obtain ⟨g, hgd⟩ : ∃ g, g = setB h 51 q (rdM (h 46)) := ⟨_, rfl⟩
    rw [← hgd]
    have hg : ∀ b, g 46 b = h 46 b := fun b => by rw [hgd]; exact setB_n (by omega)
    have hgf : g 46 = h 46 := funext hg
    have wg3g : ∀ j, j < 12 → 0 ≤ g 46 (8 + j) ∧ g 46 (8 + j) ≤ 4 := by rw [hgf]; exact wg3
    obtain ⟨j, hj⟩ : ∃ j, j = q / 4 := ⟨_, rfl⟩
    have hj12 : j < 12 := by omega
    have eq4 : (q : Int) / 4 = (j : Int) := by omega
    have w3 := wg3 j hj12
    obtain ⟨m, hm⟩ : ∃ m, m = stM (h 46) j := ⟨_, rfl⟩
    have hmr : -1 ≤ m ∧ m ≤ 3 := by rw [hm]; unfold stM; omega
    have hb := bitI_c (h 46 20) j
    have J120 : ∀ (x3 x4 : Option zV), Rr l G 3 mX4_laysReads Φ 120 [some (vR 45), some (vI q), some (vI m), x3, x4] [vI (rdM (h 46) q), vI q, vR 51] g := by
      intro x3 x4
      refine r_iast 121 dX4_laysReads_120 rfl (by first | assumption | omega) (by assumption) (by first | omega | (simp only [Int.toNat_natCast]; omega)) (by first | omega | (simp only [Int.toNat_natCast]; omega)) ?_
      try simp only [Int.toNat_natCast, tq_4, tq_8, tq_22, tq_27, tq_99, tq_a, tl_0, tl_1, tl_20, tl_21, tl_22, tl_32]
      refine r_iinc 124 _ dX4_laysReads_121 rfl rfl rfl rfl (by first | exact w32_id (by omega) (by omega) | rfl) ?_
      refine r_goto 2 dX4_laysReads_124 (by decide) ?_
      rotate_left -- leaf: pc 2
      have e : up g 51 q (rdM (h 46) q) = setB h 51 (q + 1) (rdM (h 46)) := by rw [hgd]; exact setB_s
      rw [e]
      exact ih (some (vI m)) x3 x4 (by omega)
    have J42 : ∀ x3 x4 : Option zV, Rr l G 3 mX4_laysReads Φ 42 [some (vR 45), some (vI q), some (vI m), x3, x4] [vI (z01 (m < 0 ∨ bitI (h 46 20) j = 1))] g := by
      intro x3 x4
      refine r_istore_n 43 dX4_laysReads_42 rfl rfl rfl ?_
      refine r_iload_n 44 dX4_laysReads_43 rfl rfl ?_
      refine r_if_eq 51 47 dX4_laysReads_44 (by decide) rfl (fun c_44 => ?_) (fun c_44 => ?_)
      rotate_left -- leaf: pc 51
      refine r_iconst 48 dX4_laysReads_47 rfl rfl ?_
      refine r_goto 81 dX4_laysReads_48 (by decide) ?_
      refine r_istore 83 dX4_laysReads_81 rfl rfl rfl ?_
      refine r_aload_n 84 dX4_laysReads_83 rfl rfl ?_
      refine r_getR 87 dX4_laysReads_84 rfl kf_4_25 rfl (by first | assumption | omega) (by assumption) (by assumption) ?_
      refine r_iload_n 88 dX4_laysReads_87 rfl rfl ?_
      refine r_iload_n 89 dX4_laysReads_88 rfl rfl ?_
      refine r_if_eq 97 92 dX4_laysReads_89 (by decide) rfl (fun c_89 => ?_) (fun c_89 => ?_)
      rotate_left -- leaf: pc 97
      refine r_bipush 94 dX4_laysReads_92 rfl rfl (by decide) ?_
      refine r_goto 120 dX4_laysReads_94 (by decide) ?_
      rotate_left -- leaf: pc 120
      · -- not dark
        have hd := z01_n.mp c_44
        obtain ⟨mm, hmm⟩ := nat_of (x := m) (by omega)
        have k1 := wg1 mm (by omega)
        have k2 := wg2 mm (by omega)
        have ks := slM_in (h 46) mm q (by omega)
        have er : rdM (h 46) q = clM ((q : Int) + slM (h 46) mm q + h 46 (4 + mm) + h 46 21 + 3 - 6) := by
          unfold rdM
          rw [← hj, ← hm, if_neg hd, hmm, Int.toNat_natCast]
        rw [hmm]
        refine r_iload_n 52 dX4_laysReads_51 rfl rfl ?_
        refine r_aload_n 53 dX4_laysReads_52 rfl rfl ?_
        refine r_iload_n 54 dX4_laysReads_53 rfl rfl ?_
        refine r_iload_n 55 dX4_laysReads_54 rfl rfl ?_
        rotate_left -- leaf: call at pc 55
        refine r_cv2 58 dX4_laysReads_55 rfl kv_4_142 (by first | assumption | omega) (by assumption) rfl rfl (m_slipIn lm0 wg3g mm q (by omega) (by omega) (by rw [hgf]; exact k1)) ?_
        rintro r h' ⟨rfl, rfl⟩
        rw [hgf]
        refine r_iadd 59 dX4_laysReads_58 rfl (by first | exact w32_id (by omega) (by omega) | rfl) ?_
        refine r_aload_n 60 dX4_laysReads_59 rfl rfl ?_
        refine r_getR 63 dX4_laysReads_60 rfl kf_4_7 rfl (by first | assumption | omega) (by assumption) (by assumption) ?_
        refine r_iconst 64 dX4_laysReads_63 rfl rfl ?_
        refine r_iload_n 65 dX4_laysReads_64 rfl rfl ?_
        refine r_iadd 66 dX4_laysReads_65 rfl (by first | exact w32_id (by omega) (by omega) | rfl) ?_
        refine r_iald 67 dX4_laysReads_66 rfl (by first | assumption | omega) (by assumption) (by first | omega | (simp only [Int.toNat_natCast]; omega)) (by first | omega | (simp only [Int.toNat_natCast]; omega)) ?_
        try simp only [Int.toNat_natCast, tq_4, tq_8, tq_22, tq_27, tq_99, tq_a, tl_0, tl_1, tl_20, tl_21, tl_22, tl_32]
        rotate_left -- leaf: pc 67
        rw [hg]
        refine r_iadd 68 dX4_laysReads_67 rfl (by first | exact w32_id (by omega) (by omega) | rfl) ?_
        refine r_aload_n 69 dX4_laysReads_68 rfl rfl ?_
        refine r_getR 72 dX4_laysReads_69 rfl kf_4_7 rfl (by first | assumption | omega) (by assumption) (by assumption) ?_
        refine r_bipush 74 dX4_laysReads_72 rfl rfl (by decide) ?_
        refine r_iald 75 dX4_laysReads_74 rfl (by first | assumption | omega) (by assumption) (by first | omega | (simp only [Int.toNat_natCast]; omega)) (by first | omega | (simp only [Int.toNat_natCast]; omega)) ?_
        try simp only [Int.toNat_natCast, tq_4, tq_8, tq_22, tq_27, tq_99, tq_a, tl_0, tl_1, tl_20, tl_21, tl_22, tl_32]
        rotate_left -- leaf: pc 75
        rw [hg]
        refine r_iadd 76 dX4_laysReads_75 rfl (by first | exact w32_id (by omega) (by omega) | rfl) ?_
        refine r_iconst 77 dX4_laysReads_76 rfl rfl ?_
        refine r_iadd 78 dX4_laysReads_77 rfl (by first | exact w32_id (by omega) (by omega) | rfl) ?_
        refine r_bipush 80 dX4_laysReads_78 rfl rfl (by decide) ?_
        refine r_isub 81 dX4_laysReads_80 rfl (by first | exact w32_id (by omega) (by omega) | rfl) ?_
        refine r_istore 83 dX4_laysReads_81 rfl rfl rfl ?_
        refine r_aload_n 84 dX4_laysReads_83 rfl rfl ?_
        refine r_getR 87 dX4_laysReads_84 rfl kf_4_25 rfl (by first | assumption | omega) (by assumption) (by assumption) ?_
        refine r_iload_n 88 dX4_laysReads_87 rfl rfl ?_
        rotate_left -- leaf: pc 88
        refine r_iload_n 89 dX4_laysReads_88 rfl rfl ?_
        refine r_if_eq 97 92 dX4_laysReads_89 (by decide) rfl (fun c_89 => ?_) (fun c_89 => ?_)
        rotate_left -- leaf: pc 97
        refine r_bipush 94 dX4_laysReads_92 rfl rfl (by decide) ?_
        refine r_goto 120 dX4_laysReads_94 (by decide) ?_
        rotate_left -- leaf: pc 120
        · have := J120 (some (vI (z01 (m < 0 ∨ bitI (h 46 20) j = 1)))) (some (vI ((q : Int) + slM (h 46) mm q + h 46 (4 + mm) + h 46 21 + 3 - 6)))
          rw [er] at this
          unfold clM at this
          rw [hmm] at this
          refine r_iload 99 dX4_laysReads_97 rfl rfl ?_
          refine r_if_ge 106 102 dX4_laysReads_99 (by decide) rfl (fun c_99 => ?_) (fun c_99 => ?_)
          refine r_iload 108 dX4_laysReads_106 rfl rfl ?_
          refine r_bipush 110 dX4_laysReads_108 rfl rfl (by decide) ?_
          refine r_icmp_le 118 113 dX4_laysReads_110 (by decide) rfl (fun c_110 => ?_) (fun c_110 => ?_)
          refine r_iload 120 dX4_laysReads_118 rfl rfl ?_
          rotate_left -- leaf: pc 120
          refine r_bipush 115 dX4_laysReads_113 rfl rfl (by decide) ?_
          refine r_goto 120 dX4_laysReads_115 (by decide) ?_
          rotate_left -- leaf: pc 120
          refine r_iconst 103 dX4_laysReads_102 rfl rfl ?_
          refine r_goto 120 dX4_laysReads_103 (by decide) ?_
          rotate_left -- leaf: pc 120
          · rw [if_neg (by omega), if_neg (by omega)] at this
            exact this
          · rw [if_neg (by omega), if_pos (by omega)] at this
            exact this
          · rw [if_pos (by omega)] at this
            exact this
        · rw [hmm] at c_44
          exact absurd c_44 c_89
      · -- dark
        have hd := z01_y.mp c_44
        exact absurd c_89 c_44
      · have hd := z01_y.mp c_44
        have := J120 (some (vI (z01 (m < 0 ∨ bitI (h 46 20) j = 1)))) (some (vI 0))
        have er : rdM (h 46) q = -4 := by
          unfold rdM
          rw [← hj, ← hm, if_pos hd]
        rw [er] at this
        exact this
    refine r_iload_n 3 dX4_laysReads_2 rfl rfl ?_
    refine r_bipush 5 dX4_laysReads_3 rfl rfl (by decide) ?_
    refine r_icmp_ge 127 8 dX4_laysReads_5 (by decide) rfl (fun c_5 => ?_) (fun c_5 => ?_)
    rotate_left -- leaf: pc 127
    refine r_aload_n 9 dX4_laysReads_8 rfl rfl ?_
    refine r_iload_n 10 dX4_laysReads_9 rfl rfl ?_
    refine r_iconst 11 dX4_laysReads_10 rfl rfl ?_
    refine r_idiv 12 dX4_laysReads_11 rfl (by first | omega | (simp only [Int.toNat_natCast]; omega)) (by first | omega | (simp only [Int.toNat_natCast]; omega)) ?_
    rotate_left -- leaf: call at pc 12
    · omega
    rw [eq4]
    refine r_cv1 15 dX4_laysReads_12 rfl kv_4_136 (by first | assumption | omega) (by assumption) rfl rfl (m_standsIn lm0 (wg3g 0 (by omega)).1 j hj12 (wg3g j hj12)) ?_
    rintro r h' ⟨rfl, rfl⟩
    rw [hgf, ← hm]
    refine r_istore_n 16 dX4_laysReads_15 rfl rfl rfl ?_
    refine r_iload_n 17 dX4_laysReads_16 rfl rfl ?_
    refine r_if_lt 37 20 dX4_laysReads_17 (by decide) rfl (fun c_17 => ?_) (fun c_17 => ?_)
    refine r_iconst 38 dX4_laysReads_37 rfl rfl ?_
    refine r_goto 42 dX4_laysReads_38 (by decide) ?_
    rotate_left -- leaf: pc 42
    refine r_aload_n 21 dX4_laysReads_20 rfl rfl ?_
    refine r_getR 24 dX4_laysReads_21 rfl kf_4_7 rfl (by first | assumption | omega) (by assumption) (by assumption) ?_
    refine r_bipush 26 dX4_laysReads_24 rfl rfl (by decide) ?_
    refine r_iald 27 dX4_laysReads_26 rfl (by first | assumption | omega) (by assumption) (by first | omega | (simp only [Int.toNat_natCast]; omega)) (by first | omega | (simp only [Int.toNat_natCast]; omega)) ?_
    try simp only [Int.toNat_natCast, tq_4, tq_8, tq_22, tq_27, tq_99, tq_a, tl_0, tl_1, tl_20, tl_21, tl_22, tl_32]
    rotate_left -- leaf: pc 27
    · have := J42 x3 x4
      rw [z01_t (Or.inl c_17)] at this
      exact this
    · rw [hg]
      refine r_iload_n 28 dX4_laysReads_27 rfl rfl ?_
      refine r_iconst 29 dX4_laysReads_28 rfl rfl ?_
      refine r_idiv 30 dX4_laysReads_29 rfl (by first | omega | (simp only [Int.toNat_natCast]; omega)) (by first | omega | (simp only [Int.toNat_natCast]; omega)) ?_
      rotate_left -- leaf: pc 30
      rw [eq4]
      refine r_ishr 31 dX4_laysReads_30 rfl rfl ?_
      refine r_iconst 32 dX4_laysReads_31 rfl rfl ?_
      refine r_iand 33 dX4_laysReads_32 rfl rfl ?_
      rotate_left -- leaf: pc 33
      rw [z_bit wg4 (by omega)]
      refine r_iconst 34 dX4_laysReads_33 rfl rfl ?_
      refine r_icmp_ne 41 37 dX4_laysReads_34 (by decide) rfl (fun c_34 => ?_) (fun c_34 => ?_)
      refine r_iconst 42 dX4_laysReads_41 rfl rfl ?_
      rotate_left -- leaf: pc 42
      refine r_iconst 38 dX4_laysReads_37 rfl rfl ?_
      refine r_goto 42 dX4_laysReads_38 (by decide) ?_
      rotate_left -- leaf: pc 42
      · have := J42 x3 x4
        rw [z01_f (by omega)] at this
        exact this
      · have := J42 x3 x4
        rw [z01_t (Or.inr c_34)] at this
        exact this
theorem m_lays (lm : LM G) (wg : wPg (h 46)) : Ca l G 3 mX4_laysReads [vR 45] h (fun r h' => r = none ∧ h' = setB h 51 48 (rdM (h 46))) := by
  refine Ca.of (by decide) (Nat.le_of_ble_eq_true rfl) (fun hI hv hH => ?_)
  refine r_iconst 1 dX4_laysReads_0 rfl rfl ?_
  refine r_istore_n 2 dX4_laysReads_1 rfl rfl rfl ?_
  rotate_left -- leaf: pc 2
  have := l_lays (l := l) lm wg (Φ := fun r h' => r = none ∧ h' = setB h 51 48 (rdM (h 46))) ⟨rfl, rfl⟩ 48 0 none none none rfl
  rw [setB_0] at this
  exact this
theorem l_doneIn (lm : LM G) (i : Nat) (hi : i < 5) {v : Int} {Φ : Option zV → zH → Prop} (hΦ : Φ (some (vI v)) h) : ∀ (n q : Nat), q + n = 48 → dsM (h 51) (h 46 (22 + i)) n q = v → Rr l G 0 mX4_doneIn Φ 2 [some (vR 45), some (vI i), some (vI q)] [] h := by
  obtain ⟨hN, ⟨ms45, ms46, ms47, ms48, ms49, ms50, ms51, ms52, ms53, ms54, ms55, ms56, ms57⟩, ⟨ml46, ml47, ml48, ml49, ml50, ml51, ml52, ml53, ml54, ml55, ml56, ml57⟩, ⟨mr0, mr2, mr7, mr16, mr17, mr18, mr20, mr22, mr24, mr25, mr26, mr27⟩⟩ := lm
  intro n
  induction n with
  | zero =>
    intro q hq he
    refine r_iload_n 3 dX4_doneIn_2 rfl rfl ?_
    refine r_bipush 5 dX4_doneIn_3 rfl rfl (by decide) ?_
    refine r_icmp_ge 45 8 dX4_doneIn_5 (by decide) rfl (fun c_5 => ?_) (fun c_5 => ?_)
    refine r_bipush 47 dX4_doneIn_45 rfl rfl (by decide) ?_
    refine r_iret dX4_doneIn_47 rfl ?_
    rotate_left -- leaf: return at pc 47
    rotate_left -- leaf: pc 8
    · simp only [dsM] at he
      rw [← he] at hΦ
      exact hΦ
    · omega
  | succ n ih =>
    intro q hq he
    simp only [dsM] at he
    refine r_iload_n 3 dX4_doneIn_2 rfl rfl ?_
    refine r_bipush 5 dX4_doneIn_3 rfl rfl (by decide) ?_
    refine r_icmp_ge 45 8 dX4_doneIn_5 (by decide) rfl (fun c_5 => ?_) (fun c_5 => ?_)
    rotate_left -- leaf: pc 45
    refine r_aload_n 9 dX4_doneIn_8 rfl rfl ?_
    refine r_getR 12 dX4_doneIn_9 rfl kf_4_25 rfl (by first | assumption | omega) (by assumption) (by assumption) ?_
    refine r_iload_n 13 dX4_doneIn_12 rfl rfl ?_
    refine r_iald 14 dX4_doneIn_13 rfl (by first | assumption | omega) (by assumption) (by first | omega | (simp only [Int.toNat_natCast]; omega)) (by first | omega | (simp only [Int.toNat_natCast]; omega)) ?_
    try simp only [Int.toNat_natCast, tq_4, tq_8, tq_22, tq_27, tq_99, tq_a, tl_0, tl_1, tl_20, tl_21, tl_22, tl_32]
    refine r_bipush 16 dX4_doneIn_14 rfl rfl (by decide) ?_
    refine r_icmp_eq 39 19 dX4_doneIn_16 (by decide) rfl (fun c_16 => ?_) (fun c_16 => ?_)
    refine r_iinc 42 _ dX4_doneIn_39 rfl rfl rfl rfl (by first | exact w32_id (by omega) (by omega) | rfl) ?_
    refine r_goto 2 dX4_doneIn_42 (by decide) ?_
    rotate_left -- leaf: pc 2
    refine r_aload_n 20 dX4_doneIn_19 rfl rfl ?_
    refine r_getR 23 dX4_doneIn_20 rfl kf_4_25 rfl (by first | assumption | omega) (by assumption) (by assumption) ?_
    refine r_iload_n 24 dX4_doneIn_23 rfl rfl ?_
    refine r_iald 25 dX4_doneIn_24 rfl (by first | assumption | omega) (by assumption) (by first | omega | (simp only [Int.toNat_natCast]; omega)) (by first | omega | (simp only [Int.toNat_natCast]; omega)) ?_
    try simp only [Int.toNat_natCast, tq_4, tq_8, tq_22, tq_27, tq_99, tq_a, tl_0, tl_1, tl_20, tl_21, tl_22, tl_32]
    refine r_aload_n 26 dX4_doneIn_25 rfl rfl ?_
    refine r_getR 29 dX4_doneIn_26 rfl kf_4_7 rfl (by first | assumption | omega) (by assumption) (by assumption) ?_
    refine r_bipush 31 dX4_doneIn_29 rfl rfl (by decide) ?_
    refine r_iload_n 32 dX4_doneIn_31 rfl rfl ?_
    refine r_iadd 33 dX4_doneIn_32 rfl (by first | exact w32_id (by omega) (by omega) | rfl) ?_
    refine r_iald 34 dX4_doneIn_33 rfl (by first | assumption | omega) (by assumption) (by first | omega | (simp only [Int.toNat_natCast]; omega)) (by first | omega | (simp only [Int.toNat_natCast]; omega)) ?_
    try simp only [Int.toNat_natCast, tq_4, tq_8, tq_22, tq_27, tq_99, tq_a, tl_0, tl_1, tl_20, tl_21, tl_22, tl_32]
    refine r_icmp_lt 39 37 dX4_doneIn_34 (by decide) rfl (fun c_34 => ?_) (fun c_34 => ?_)
    refine r_iinc 42 _ dX4_doneIn_39 rfl rfl rfl rfl (by first | exact w32_id (by omega) (by omega) | rfl) ?_
    refine r_goto 2 dX4_doneIn_42 (by decide) ?_
    rotate_left -- leaf: pc 2
    refine r_iload_n 38 dX4_doneIn_37 rfl rfl ?_
    refine r_iret dX4_doneIn_38 rfl ?_
    rotate_left -- leaf: return at pc 38
    · omega
    · rw [if_neg (fun z => z.1 c_16)] at he
      exact ih (q + 1) (by omega) he
    · rw [if_neg (by omega)] at he
      exact ih (q + 1) (by omega) he
    · rw [if_pos ⟨c_16, c_34⟩] at he
      rw [← he] at hΦ
      exact hΦ
theorem m_doneIn (lm : LM G) (i : Nat) (hi : i < 5) : Ca l G 0 mX4_doneIn [vR 45, vI i] h (fun r h' => r = some (vI (dsM (h 51) (h 46 (22 + i)) 48 0)) ∧ h' = h) := by
  refine Ca.of (by decide) (Nat.le_of_ble_eq_true rfl) (fun hI hv hH => ?_)
  refine r_iconst 1 dX4_doneIn_0 rfl rfl ?_
  refine r_istore_n 2 dX4_doneIn_1 rfl rfl rfl ?_
  rotate_left -- leaf: pc 2
  exact l_doneIn (l := l) lm i hi (Φ := fun r h' => r = some (vI (dsM (h 51) (h 46 (22 + i)) 48 0)) ∧ h' = h) ⟨rfl, rfl⟩ 48 0 rfl rfl
theorem m_harmOf (lm : LM G) (i : Nat) (hi : i < 5) (w6 : 0 ≤ h 46 (22 + i) ∧ h 46 (22 + i) ≤ 47) (w7 : 0 ≤ h 46 (27 + i) ∧ h 46 (27 + i) ≤ 9) : Ca l G 1 mX4_harmOf [vR 45, vI i] h (fun r h' => r = some (vI (hfM (h 46 (27 + i)) (h 46 (22 + i)) (dsM (h 51) (h 46 (22 + i)) 48 0))) ∧ h' = h) := by
  have lm0 := lm
  obtain ⟨hN, ⟨ms45, ms46, ms47, ms48, ms49, ms50, ms51, ms52, ms53, ms54, ms55, ms56, ms57⟩, ⟨ml46, ml47, ml48, ml49, ml50, ml51, ml52, ml53, ml54, ml55, ml56, ml57⟩, ⟨mr0, mr2, mr7, mr16, mr17, mr18, mr20, mr22, mr24, mr25, mr26, mr27⟩⟩ := lm
  have hd := dsM_in (h 51) (h 46 (22 + i)) 48 0 (by omega)
  have hf := hfM_in w7 w6 hd
  refine Ca.of (by decide) (Nat.le_of_ble_eq_true rfl) (fun hI hv hH => ?_)
  refine r_aload_n 1 dX4_harmOf_0 rfl rfl ?_
  refine r_iload_n 2 dX4_harmOf_1 rfl rfl ?_
  rotate_left -- leaf: call at pc 2
  refine r_cv1 5 dX4_harmOf_2 rfl kv_4_146 (by first | assumption | omega) (by assumption) rfl rfl (m_doneIn lm0 i hi) ?_
  rintro r h' ⟨rfl, rfl⟩
  obtain ⟨q, hq⟩ : ∃ q, q = dsM (h' 51) (h' 46 (22 + i)) 48 0 := ⟨_, rfl⟩
  rw [← hq] at hd hf ⊢
  have J44 : ∀ fr, fr = (if h' 46 (22 + i) < q then q - h' 46 (22 + i) else h' 46 (22 + i) - q) → Rr l G 1 mX4_harmOf (fun r h'' => r = some (vI (hfM (h' 46 (27 + i)) (h' 46 (22 + i)) q)) ∧ h'' = h') 44 [some (vR 45), some (vI i), some (vI q), none] [vI fr] h' := by
    intro fr hfr
    unfold hfM at hf
    rw [← hfr] at hf
    unfold hfM
    rw [← hfr]
    refine r_istore_n 45 dX4_harmOf_44 rfl rfl rfl ?_
    refine r_aload_n 46 dX4_harmOf_45 rfl rfl ?_
    refine r_getR 49 dX4_harmOf_46 rfl kf_4_7 rfl (by first | assumption | omega) (by assumption) (by assumption) ?_
    refine r_bipush 51 dX4_harmOf_49 rfl rfl (by decide) ?_
    refine r_iload_n 52 dX4_harmOf_51 rfl rfl ?_
    refine r_iadd 53 dX4_harmOf_52 rfl (by first | exact w32_id (by omega) (by omega) | rfl) ?_
    refine r_iald 54 dX4_harmOf_53 rfl (by first | assumption | omega) (by assumption) (by first | omega | (simp only [Int.toNat_natCast]; omega)) (by first | omega | (simp only [Int.toNat_natCast]; omega)) ?_
    try simp only [Int.toNat_natCast, tq_4, tq_8, tq_22, tq_27, tq_99, tq_a, tl_0, tl_1, tl_20, tl_21, tl_22, tl_32]
    refine r_iload_n 55 dX4_harmOf_54 rfl rfl ?_
    refine r_bipush 57 dX4_harmOf_55 rfl rfl (by decide) ?_
    refine r_icmp_ne 65 60 dX4_harmOf_57 (by decide) rfl (fun c_57 => ?_) (fun c_57 => ?_)
    refine r_iload_n 66 dX4_harmOf_65 rfl rfl ?_
    rotate_left -- leaf: pc 66
    refine r_bipush 62 dX4_harmOf_60 rfl rfl (by decide) ?_
    refine r_goto 66 dX4_harmOf_62 (by decide) ?_
    rotate_left -- leaf: pc 66
    · rw [if_neg c_57] at hf ⊢
      refine r_imul 67 dX4_harmOf_66 rfl (by first | exact w32_id (by omega) (by omega) | rfl) ?_
      refine r_iret dX4_harmOf_67 rfl ?_
      rotate_left -- leaf: return at pc 67
      exact ⟨rfl, rfl⟩
    · rw [if_pos c_57] at hf ⊢
      refine r_imul 67 dX4_harmOf_66 rfl (by first | exact w32_id (by omega) (by omega) | rfl) ?_
      refine r_iret dX4_harmOf_67 rfl ?_
      rotate_left -- leaf: return at pc 67
      exact ⟨rfl, rfl⟩
  refine r_istore_n 6 dX4_harmOf_5 rfl rfl rfl ?_
  refine r_iload_n 7 dX4_harmOf_6 rfl rfl ?_
  refine r_aload_n 8 dX4_harmOf_7 rfl rfl ?_
  refine r_getR 11 dX4_harmOf_8 rfl kf_4_7 rfl (by first | assumption | omega) (by assumption) (by assumption) ?_
  refine r_bipush 13 dX4_harmOf_11 rfl rfl (by decide) ?_
  refine r_iload_n 14 dX4_harmOf_13 rfl rfl ?_
  refine r_iadd 15 dX4_harmOf_14 rfl (by first | exact w32_id (by omega) (by omega) | rfl) ?_
  refine r_iald 16 dX4_harmOf_15 rfl (by first | assumption | omega) (by assumption) (by first | omega | (simp only [Int.toNat_natCast]; omega)) (by first | omega | (simp only [Int.toNat_natCast]; omega)) ?_
  try simp only [Int.toNat_natCast, tq_4, tq_8, tq_22, tq_27, tq_99, tq_a, tl_0, tl_1, tl_20, tl_21, tl_22, tl_32]
  refine r_icmp_le 33 19 dX4_harmOf_16 (by decide) rfl (fun c_16 => ?_) (fun c_16 => ?_)
  refine r_aload_n 34 dX4_harmOf_33 rfl rfl ?_
  refine r_getR 37 dX4_harmOf_34 rfl kf_4_7 rfl (by first | assumption | omega) (by assumption) (by assumption) ?_
  refine r_bipush 39 dX4_harmOf_37 rfl rfl (by decide) ?_
  refine r_iload_n 40 dX4_harmOf_39 rfl rfl ?_
  refine r_iadd 41 dX4_harmOf_40 rfl (by first | exact w32_id (by omega) (by omega) | rfl) ?_
  refine r_iald 42 dX4_harmOf_41 rfl (by first | assumption | omega) (by assumption) (by first | omega | (simp only [Int.toNat_natCast]; omega)) (by first | omega | (simp only [Int.toNat_natCast]; omega)) ?_
  try simp only [Int.toNat_natCast, tq_4, tq_8, tq_22, tq_27, tq_99, tq_a, tl_0, tl_1, tl_20, tl_21, tl_22, tl_32]
  refine r_iload_n 43 dX4_harmOf_42 rfl rfl ?_
  refine r_isub 44 dX4_harmOf_43 rfl (by first | exact w32_id (by omega) (by omega) | rfl) ?_
  rotate_left -- leaf: pc 44
  refine r_iload_n 20 dX4_harmOf_19 rfl rfl ?_
  refine r_aload_n 21 dX4_harmOf_20 rfl rfl ?_
  refine r_getR 24 dX4_harmOf_21 rfl kf_4_7 rfl (by first | assumption | omega) (by assumption) (by assumption) ?_
  refine r_bipush 26 dX4_harmOf_24 rfl rfl (by decide) ?_
  refine r_iload_n 27 dX4_harmOf_26 rfl rfl ?_
  refine r_iadd 28 dX4_harmOf_27 rfl (by first | exact w32_id (by omega) (by omega) | rfl) ?_
  refine r_iald 29 dX4_harmOf_28 rfl (by first | assumption | omega) (by assumption) (by first | omega | (simp only [Int.toNat_natCast]; omega)) (by first | omega | (simp only [Int.toNat_natCast]; omega)) ?_
  try simp only [Int.toNat_natCast, tq_4, tq_8, tq_22, tq_27, tq_99, tq_a, tl_0, tl_1, tl_20, tl_21, tl_22, tl_32]
  refine r_isub 30 dX4_harmOf_29 rfl (by first | exact w32_id (by omega) (by omega) | rfl) ?_
  refine r_goto 44 dX4_harmOf_30 (by decide) ?_
  rotate_left -- leaf: pc 44
  · exact J44 _ (by rw [if_neg (by omega)])
  · exact J44 _ (by rw [if_pos (by omega)])
theorem dsM_set {f : Nat → Int} {d : Int} : ∀ n q : Nat, q + n ≤ 48 → dsM (setB h 51 48 f 51) d n q = dsM f d n q
  | 0, _, _ => rfl
  | n + 1, q, hq => by
    unfold dsM
    rw [setB_i (by omega), dsM_set n (q + 1) (by omega)]
theorem haM_in (wg : wPg (h 46)) (i : Nat) (hi : i < 5) : 0 ≤ haM (h 46) i ∧ haM (h 46) i ≤ 432 := hfM_in (wg.2.2.2.2.2.2.1 i hi) (wg.2.2.2.2.2.1 i hi) (dsM_in _ _ 48 0 (by omega))
theorem sumF_inN {f : Nat → Int} {B : Int} (N : Nat) (hf : ∀ i, i < N → 0 ≤ f i ∧ f i ≤ B) : ∀ n : Nat, n ≤ N → 0 ≤ sumF f n ∧ sumF f n ≤ B * n
  | 0, _ => by simp [sumF]
  | n + 1, hn => by
    have h1 := sumF_inN N hf n (by omega)
    have h2 := hf n (by omega)
    have : B * ((n + 1 : Nat) : Int) = B * n + B := by rw [Int.natCast_succ, Int.mul_add, Int.mul_one]
    simp only [sumF]
    omega
theorem l_mharm (lm : LM G) (wg : wPg (h 46)) {Φ : Option zV → zH → Prop} (hΦ : Φ (some (vI (hmM (h 46)))) (setB h 51 48 (rdM (h 46)))) : ∀ (n i : Nat), i + n = (h 46 32).toNat → Rr l G 4 mX4_harm Φ 8 [some (vR 45), some (vI (sumF (haM (h 46)) i)), some (vI i)] [] (setB h 51 48 (rdM (h 46))) := by
  have lm0 := lm
  obtain ⟨hN, ⟨ms45, ms46, ms47, ms48, ms49, ms50, ms51, ms52, ms53, ms54, ms55, ms56, ms57⟩, ⟨ml46, ml47, ml48, ml49, ml50, ml51, ml52, ml53, ml54, ml55, ml56, ml57⟩, ⟨mr0, mr2, mr7, mr16, mr17, mr18, mr20, mr22, mr24, mr25, mr26, mr27⟩⟩ := lm
  have wg0 := wg
  obtain ⟨wg1, wg2, wg3, wg4, wg5, wg6, wg7, wg8⟩ := wg
  have e46 : ∀ b, setB h 51 48 (rdM (h 46)) 46 b = h 46 b := fun b => setB_n (by omega)
  intro n
  induction n with
  | zero =>
    intro i hi
    refine r_iload_n 9 dX4_harm_8 rfl rfl ?_
    refine r_aload_n 10 dX4_harm_9 rfl rfl ?_
    refine r_getR 13 dX4_harm_10 rfl kf_4_7 rfl (by first | assumption | omega) (by assumption) (by assumption) ?_
    refine r_bipush 15 dX4_harm_13 rfl rfl (by decide) ?_
    refine r_iald 16 dX4_harm_15 rfl (by first | assumption | omega) (by assumption) (by first | omega | (simp only [Int.toNat_natCast]; omega)) (by first | omega | (simp only [Int.toNat_natCast]; omega)) ?_
    try simp only [Int.toNat_natCast, tq_4, tq_8, tq_22, tq_27, tq_99, tq_a, tl_0, tl_1, tl_20, tl_21, tl_22, tl_32]
    rotate_left -- leaf: pc 16
    rw [e46]
    refine r_icmp_ge 33 19 dX4_harm_16 (by decide) rfl (fun c_16 => ?_) (fun c_16 => ?_)
    refine r_iload_n 34 dX4_harm_33 rfl rfl ?_
    refine r_iret dX4_harm_34 rfl ?_
    rotate_left -- leaf: return at pc 34
    rotate_left -- leaf: pc 19
    · rw [show i = (h 46 32).toNat by omega]
      exact hΦ
    · omega
  | succ n ih =>
    intro i hi
    have hs := sumF_inN (f := haM (h 46)) 5 (haM_in wg0) i (by omega)
    have hs2 := haM_in wg0 i (by omega)
    refine r_iload_n 9 dX4_harm_8 rfl rfl ?_
    refine r_aload_n 10 dX4_harm_9 rfl rfl ?_
    refine r_getR 13 dX4_harm_10 rfl kf_4_7 rfl (by first | assumption | omega) (by assumption) (by assumption) ?_
    refine r_bipush 15 dX4_harm_13 rfl rfl (by decide) ?_
    refine r_iald 16 dX4_harm_15 rfl (by first | assumption | omega) (by assumption) (by first | omega | (simp only [Int.toNat_natCast]; omega)) (by first | omega | (simp only [Int.toNat_natCast]; omega)) ?_
    try simp only [Int.toNat_natCast, tq_4, tq_8, tq_22, tq_27, tq_99, tq_a, tl_0, tl_1, tl_20, tl_21, tl_22, tl_32]
    rotate_left -- leaf: pc 16
    rw [e46]
    refine r_icmp_ge 33 19 dX4_harm_16 (by decide) rfl (fun c_16 => ?_) (fun c_16 => ?_)
    rotate_left -- leaf: pc 33
    refine r_iload_n 20 dX4_harm_19 rfl rfl ?_
    refine r_aload_n 21 dX4_harm_20 rfl rfl ?_
    refine r_iload_n 22 dX4_harm_21 rfl rfl ?_
    rotate_left -- leaf: call at pc 22
    · omega
    refine r_cv1 25 dX4_harm_22 rfl kv_4_152 (by first | assumption | omega) (by assumption) rfl rfl (m_harmOf lm0 i (by omega) (by rw [e46]; exact wg6 i (by omega)) (by rw [e46]; exact wg7 i (by omega))) ?_
    rintro r h' ⟨rfl, rfl⟩
    rw [e46, e46, dsM_set 48 0 (by omega)]
    have e : hfM (h 46 (27 + i)) (h 46 (22 + i)) (dsM (rdM (h 46)) (h 46 (22 + i)) 48 0) = haM (h 46) i := rfl
    rw [e]
    refine r_iadd 26 dX4_harm_25 rfl (by first | exact w32_id (by omega) (by omega) | rfl) ?_
    refine r_istore_n 27 dX4_harm_26 rfl rfl rfl ?_
    refine r_iinc 30 _ dX4_harm_27 rfl rfl rfl rfl (by first | exact w32_id (by omega) (by omega) | rfl) ?_
    refine r_goto 8 dX4_harm_30 (by decide) ?_
    rotate_left -- leaf: pc 8
    exact ih (i + 1) (by omega)
theorem m_harm (lm : LM G) (wg : wPg (h 46)) : Ca l G 4 mX4_harm [vR 45] h (fun r h' => r = some (vI (hmM (h 46))) ∧ h' = setB h 51 48 (rdM (h 46))) := by
  have lm0 := lm
  obtain ⟨hN, ⟨ms45, ms46, ms47, ms48, ms49, ms50, ms51, ms52, ms53, ms54, ms55, ms56, ms57⟩, ⟨ml46, ml47, ml48, ml49, ml50, ml51, ml52, ml53, ml54, ml55, ml56, ml57⟩, ⟨mr0, mr2, mr7, mr16, mr17, mr18, mr20, mr22, mr24, mr25, mr26, mr27⟩⟩ := lm
  refine Ca.of (by decide) (Nat.le_of_ble_eq_true rfl) (fun hI hv hH => ?_)
  refine r_aload_n 1 dX4_harm_0 rfl rfl ?_
  rotate_left -- leaf: call at pc 1
  refine r_cv0 4 dX4_harm_1 rfl kv_4_149 (by first | assumption | omega) (by assumption) rfl rfl (m_lays lm0 wg) ?_
  rintro r h' ⟨rfl, rfl⟩
  refine r_iconst 5 dX4_harm_4 rfl rfl ?_
  refine r_istore_n 6 dX4_harm_5 rfl rfl rfl ?_
  refine r_iconst 7 dX4_harm_6 rfl rfl ?_
  refine r_istore_n 8 dX4_harm_7 rfl rfl rfl ?_
  rotate_left -- leaf: pc 8
  exact l_mharm (l := l) lm0 wg (Φ := fun r h' => r = some (vI (hmM (h 46))) ∧ h' = setB h 51 48 (rdM (h 46))) ⟨rfl, rfl⟩ (h 46 32).toNat 0 (by omega)
def hoB (pg : Nat → Int) (m : Int) (j : Nat) : Bool := decide (0 ≤ stM pg j ∧ (m = -4 ∨ stM pg j = m))
theorem z_or0 (x : Int) (hx : in32 x) : z_ior x 0 = x := by
  unfold z_ior
  have : Int32.ofInt x ||| Int32.ofInt 0 = Int32.ofInt x := by
    apply Int32.toBitVec.inj
    show (Int32.ofInt x).toBitVec ||| (Int32.ofInt 0).toBitVec = _
    rw [show (Int32.ofInt 0).toBitVec = 0#32 from rfl]
    simp
  rw [this, i32_t hx]
theorem l_mhours (lm : LM G) (wg : ∀ j, j < 12 → 0 ≤ h 46 (8 + j) ∧ h 46 (8 + j) ≤ 4) (m : Int) {Φ : Option zV → zH → Prop} (hΦ : Φ (some (vI (orN (hoB (h 46) m) 12))) h) : ∀ (n j : Nat), j + n = 12 → Rr l G 1 mX4_hoursOf Φ 4 [some (vR 45), some (vI m), some (vI (orN (hoB (h 46) m) j)), some (vI j)] [] h := by
  have lm0 := lm
  obtain ⟨hN, ⟨ms45, ms46, ms47, ms48, ms49, ms50, ms51, ms52, ms53, ms54, ms55, ms56, ms57⟩, ⟨ml46, ml47, ml48, ml49, ml50, ml51, ml52, ml53, ml54, ml55, ml56, ml57⟩, ⟨mr0, mr2, mr7, mr16, mr17, mr18, mr20, mr22, mr24, mr25, mr26, mr27⟩⟩ := lm
  intro n
  induction n with
  | zero =>
    intro j hj
    obtain rfl : j = 12 := by omega
    refine r_iload_n 5 dX4_hoursOf_4 rfl rfl ?_
    refine r_bipush 7 dX4_hoursOf_5 rfl rfl (by decide) ?_
    refine r_icmp_ge 49 10 dX4_hoursOf_7 (by decide) rfl (fun c_7 => ?_) (fun c_7 => ?_)
    refine r_iload_n 50 dX4_hoursOf_49 rfl rfl ?_
    refine r_iret dX4_hoursOf_50 rfl ?_
    rotate_left -- leaf: return at pc 50
    rotate_left -- leaf: pc 10
    · exact hΦ
    · omega
  | succ n ih =>
    intro j hj
    have ih := ih (j + 1) (by omega)
    have hlt := orN_lt (hoB (h 46) m) j
    have hp : (2 : Nat) ^ j ≤ 2 ^ 12 := Nat.pow_le_pow_right (by decide) (by omega)
    rw [orN] at ih
    refine r_iload_n 5 dX4_hoursOf_4 rfl rfl ?_
    refine r_bipush 7 dX4_hoursOf_5 rfl rfl (by decide) ?_
    refine r_icmp_ge 49 10 dX4_hoursOf_7 (by decide) rfl (fun c_7 => ?_) (fun c_7 => ?_)
    rotate_left -- leaf: pc 49
    refine r_iload_n 11 dX4_hoursOf_10 rfl rfl ?_
    refine r_aload_n 12 dX4_hoursOf_11 rfl rfl ?_
    refine r_iload_n 13 dX4_hoursOf_12 rfl rfl ?_
    rotate_left -- leaf: call at pc 13
    · omega
    have Jn : hoB (h 46) m j = false → Rr l G 1 mX4_hoursOf Φ 40 [some (vR 45), some (vI m), some (vI (orN (hoB (h 46) m) j)), some (vI j)] [vI (orN (hoB (h 46) m) j)] h := by
      intro hf
      rw [if_neg (by rw [hf]; decide)] at ih
      refine r_iconst 41 dX4_hoursOf_40 rfl rfl ?_
      refine r_ior 42 dX4_hoursOf_41 rfl rfl ?_
      rotate_left -- leaf: pc 42
      rw [z_or0 _ ⟨by omega, by omega⟩]
      refine r_istore_n 43 dX4_hoursOf_42 rfl rfl rfl ?_
      refine r_iinc 46 _ dX4_hoursOf_43 rfl rfl rfl rfl (by first | exact w32_id (by omega) (by omega) | rfl) ?_
      refine r_goto 4 dX4_hoursOf_46 (by decide) ?_
      rotate_left -- leaf: pc 4
      exact ih
    have Jy : hoB (h 46) m j = true → Rr l G 1 mX4_hoursOf Φ 34 [some (vR 45), some (vI m), some (vI (orN (hoB (h 46) m) j)), some (vI j)] [vI (orN (hoB (h 46) m) j)] h := by
      intro hf
      rw [if_pos hf] at ih
      refine r_iconst 35 dX4_hoursOf_34 rfl rfl ?_
      refine r_iload_n 36 dX4_hoursOf_35 rfl rfl ?_
      refine r_ishl 37 dX4_hoursOf_36 rfl rfl ?_
      refine r_goto 41 dX4_hoursOf_37 (by decide) ?_
      refine r_ior 42 dX4_hoursOf_41 rfl rfl ?_
      rotate_left -- leaf: pc 42
      rw [z_or_bit (by omega) hlt]
      refine r_istore_n 43 dX4_hoursOf_42 rfl rfl rfl ?_
      refine r_iinc 46 _ dX4_hoursOf_43 rfl rfl rfl rfl (by first | exact w32_id (by omega) (by omega) | rfl) ?_
      refine r_goto 4 dX4_hoursOf_46 (by decide) ?_
      rotate_left -- leaf: pc 4
      exact ih
    refine r_cv1 16 dX4_hoursOf_13 rfl kv_4_136 (by first | assumption | omega) (by assumption) rfl rfl (m_standsIn lm0 (wg 0 (by omega)).1 j (by omega) (wg j (by omega))) ?_
    rintro r h' ⟨rfl, rfl⟩
    refine r_if_lt 40 19 dX4_hoursOf_16 (by decide) rfl (fun c_16 => ?_) (fun c_16 => ?_)
    rotate_left -- leaf: pc 40
    refine r_iload_n 20 dX4_hoursOf_19 rfl rfl ?_
    refine r_bipush 22 dX4_hoursOf_20 rfl rfl (by decide) ?_
    refine r_icmp_eq 34 25 dX4_hoursOf_22 (by decide) rfl (fun c_22 => ?_) (fun c_22 => ?_)
    rotate_left -- leaf: pc 34
    refine r_aload_n 26 dX4_hoursOf_25 rfl rfl ?_
    refine r_iload_n 27 dX4_hoursOf_26 rfl rfl ?_
    rotate_left -- leaf: call at pc 27
    · exact Jn (by simp [hoB]; omega)
    · exact Jy (by simp [hoB, c_22]; omega)
    · refine r_cv1 30 dX4_hoursOf_27 rfl kv_4_136 (by first | assumption | omega) (by assumption) rfl rfl (m_standsIn lm0 (wg 0 (by omega)).1 j (by omega) (wg j (by omega))) ?_
      rintro r h'' ⟨rfl, rfl⟩
      refine r_iload_n 31 dX4_hoursOf_30 rfl rfl ?_
      refine r_icmp_ne 40 34 dX4_hoursOf_31 (by decide) rfl (fun c_31 => ?_) (fun c_31 => ?_)
      rotate_left -- leaf: pc 40
      rotate_left -- leaf: pc 34
      · exact Jn (by simp [hoB, c_22, c_31])
      · exact Jy (by simp [hoB, c_31]; omega)
theorem m_hoursOf (lm : LM G) (wg : ∀ j, j < 12 → 0 ≤ h 46 (8 + j) ∧ h 46 (8 + j) ≤ 4) (m : Int) : Ca l G 1 mX4_hoursOf [vR 45, vI m] h (fun r h' => r = some (vI (orN (hoB (h 46) m) 12)) ∧ h' = h) := by
  refine Ca.of (by decide) (Nat.le_of_ble_eq_true rfl) (fun hI hv hH => ?_)
  refine r_iconst 1 dX4_hoursOf_0 rfl rfl ?_
  refine r_istore_n 2 dX4_hoursOf_1 rfl rfl rfl ?_
  refine r_iconst 3 dX4_hoursOf_2 rfl rfl ?_
  refine r_istore_n 4 dX4_hoursOf_3 rfl rfl rfl ?_
  rotate_left -- leaf: pc 4
  exact l_mhours (l := l) lm wg m (Φ := fun r h' => r = some (vI (orN (hoB (h 46) m) 12)) ∧ h' = h) ⟨rfl, rfl⟩ 12 0 rfl
end MO
