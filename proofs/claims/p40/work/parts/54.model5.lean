/-! SunPointerModel: lay, lost, worst, done, count -/
section MO
variable {l : Launch} {G : zG} {h : zH}
def lyM (a v : Int) : Int := if a = 0 then z_ishr (z_ishl v 24) 24 else if a = 1 then z_ishr (z_ishl v 16) 16 else v
def wL (h : zH) : Prop := ∀ j, j < 4 → (h 55 j = -4 ∨ (0 ≤ h 55 j ∧ h 55 j ≤ 2)) ∧ (0 ≤ h 56 j ∧ h 56 j ≤ 40)
def tLay (k i v : Int) (h : zH) : Int × zH := if ¬ (0 ≤ k ∧ k ≤ 3) then (-1, h) else if h 55 k.toNat = -4 then (-11, h) else if ¬ (0 ≤ i ∧ i ≤ h 56 k.toNat - 1) then (-12, h) else (1, up h 57 (40 * k.toNat + i.toNat) (lyM (h 55 k.toNat) v))
theorem m_lay (lm : LM G) (wl : wL h) (k i v : Int) : Ca l G 1 mX4_lay [vR 45, vI k, vI i, vI v] h (fun r h' => r = some (vI (tLay k i v h).1) ∧ h' = (tLay k i v h).2) := by
  obtain ⟨hN, ⟨ms45, ms46, ms47, ms48, ms49, ms50, ms51, ms52, ms53, ms54, ms55, ms56, ms57⟩, ⟨ml46, ml47, ml48, ml49, ml50, ml51, ml52, ml53, ml54, ml55, ml56, ml57⟩, ⟨mr0, mr2, mr7, mr16, mr17, mr18, mr20, mr22, mr24, mr25, mr26, mr27⟩⟩ := lm
  refine Ca.of (by decide) (Nat.le_of_ble_eq_true rfl) (fun hI hv hH => ?_)
  unfold tLay
  refine r_iload_n 1 dX4_lay_0 rfl rfl ?_
  refine r_i2l 2 dX4_lay_1 rfl ?_
  refine r_lconst 3 dX4_lay_2 rfl 0 rfl (by decide) ?_
  refine r_ldc2 6 (3) dX4_lay_3 rfl kq_4_165 rfl ?_
  rotate_left -- leaf: call at pc 6
  refine r_cs3 9 dX4_lay_6 rfl ks_4_49 rfl rfl (c_in k 0 3) ?_
  rintro r h' ⟨rfl, rfl⟩
  refine r_if_ne 14 12 dX4_lay_9 (by decide) rfl (fun c_9 => ?_) (fun c_9 => ?_)
  rotate_left -- leaf: pc 14
  refine r_iconst 13 dX4_lay_12 rfl rfl ?_
  refine r_iret dX4_lay_13 rfl ?_
  rotate_left -- leaf: return at pc 13
  · have hk := z01_y.mp c_9
    rw [if_neg (fun z => z hk)]
    obtain ⟨k, rfl⟩ := nat_of hk.1
    rw [Int.toNat_natCast]
    have w1 := wl k (by omega)
    refine r_aload_n 15 dX4_lay_14 rfl rfl ?_
    refine r_getR 18 dX4_lay_15 rfl kf_4_38 rfl (by first | assumption | omega) (by assumption) (by assumption) ?_
    refine r_iload_n 19 dX4_lay_18 rfl rfl ?_
    refine r_iald 20 dX4_lay_19 rfl (by first | assumption | omega) (by assumption) (by first | omega | (simp only [Int.toNat_natCast]; omega)) (by first | omega | (simp only [Int.toNat_natCast]; omega)) ?_
    try simp only [Int.toNat_natCast, tq_4, tq_8, tq_22, tq_27, tq_99, tq_a, tl_0, tl_1, tl_20, tl_21, tl_22, tl_32]
    refine r_bipush 22 dX4_lay_20 rfl rfl (by decide) ?_
    refine r_icmp_ne 28 25 dX4_lay_22 (by decide) rfl (fun c_22 => ?_) (fun c_22 => ?_)
    refine r_iload_n 29 dX4_lay_28 rfl rfl ?_
    refine r_i2l 30 dX4_lay_29 rfl ?_
    refine r_lconst 31 dX4_lay_30 rfl 0 rfl (by decide) ?_
    refine r_aload_n 32 dX4_lay_31 rfl rfl ?_
    refine r_getR 35 dX4_lay_32 rfl kf_4_41 rfl (by first | assumption | omega) (by assumption) (by assumption) ?_
    refine r_iload_n 36 dX4_lay_35 rfl rfl ?_
    refine r_iald 37 dX4_lay_36 rfl (by first | assumption | omega) (by assumption) (by first | omega | (simp only [Int.toNat_natCast]; omega)) (by first | omega | (simp only [Int.toNat_natCast]; omega)) ?_
    try simp only [Int.toNat_natCast, tq_4, tq_8, tq_22, tq_27, tq_99, tq_a, tl_0, tl_1, tl_20, tl_21, tl_22, tl_32]
    refine r_iconst 38 dX4_lay_37 rfl rfl ?_
    refine r_isub 39 dX4_lay_38 rfl (by first | exact w32_id (by omega) (by omega) | rfl) ?_
    refine r_i2l 40 dX4_lay_39 rfl ?_
    rotate_left -- leaf: call at pc 40
    refine r_bipush 27 dX4_lay_25 rfl rfl (by decide) ?_
    refine r_iret dX4_lay_27 rfl ?_
    rotate_left -- leaf: return at pc 27
    · rw [if_neg c_22]
      refine r_cs3 43 dX4_lay_40 rfl ks_4_49 rfl rfl (c_in i 0 (h' 56 k - 1)) ?_
      rintro r h'' ⟨rfl, rfl⟩
      refine r_if_ne 49 46 dX4_lay_43 (by decide) rfl (fun c_43 => ?_) (fun c_43 => ?_)
      rotate_left -- leaf: pc 49
      refine r_bipush 48 dX4_lay_46 rfl rfl (by decide) ?_
      refine r_iret dX4_lay_48 rfl ?_
      rotate_left -- leaf: return at pc 48
      · have hi := z01_y.mp c_43
        rw [if_neg (fun z => z hi)]
        obtain ⟨i, rfl⟩ := nat_of hi.1
        rw [Int.toNat_natCast]
        have e : (40 * (k : Int) + (i : Int)).toNat = 40 * k + i := by omega
        have Jx : ∀ z, z = lyM (h'' 55 k) v → Rr l G 1 mX4_lay (fun r h' => r = some (vI 1) ∧ h' = up h'' 57 (40 * k + i) (lyM (h'' 55 k) v)) 99 [some (vR 45), some (vI k), some (vI i), some (vI v)] [vI z, vI (40 * (k : Int) + (i : Int)), vR 57] h'' := by
          intro z hz
          refine r_iast 100 dX4_lay_99 rfl (by first | assumption | omega) (by assumption) (by first | omega | (simp only [Int.toNat_natCast]; omega)) (by first | omega | (simp only [Int.toNat_natCast]; omega)) ?_
          try simp only [Int.toNat_natCast, tq_4, tq_8, tq_22, tq_27, tq_99, tq_a, tl_0, tl_1, tl_20, tl_21, tl_22, tl_32]
          refine r_iconst 101 dX4_lay_100 rfl rfl ?_
          refine r_iret dX4_lay_101 rfl ?_
          rotate_left -- leaf: return at pc 101
          rw [e, hz]
          exact ⟨rfl, rfl⟩
        refine r_aload_n 50 dX4_lay_49 rfl rfl ?_
        refine r_getR 53 dX4_lay_50 rfl kf_4_44 rfl (by first | assumption | omega) (by assumption) (by assumption) ?_
        refine r_bipush 55 dX4_lay_53 rfl rfl (by decide) ?_
        refine r_iload_n 56 dX4_lay_55 rfl rfl ?_
        refine r_imul 57 dX4_lay_56 rfl (by first | exact w32_id (by omega) (by omega) | rfl) ?_
        refine r_iload_n 58 dX4_lay_57 rfl rfl ?_
        refine r_iadd 59 dX4_lay_58 rfl (by first | exact w32_id (by omega) (by omega) | rfl) ?_
        refine r_aload_n 60 dX4_lay_59 rfl rfl ?_
        refine r_getR 63 dX4_lay_60 rfl kf_4_38 rfl (by first | assumption | omega) (by assumption) (by assumption) ?_
        refine r_iload_n 64 dX4_lay_63 rfl rfl ?_
        refine r_iald 65 dX4_lay_64 rfl (by first | assumption | omega) (by assumption) (by first | omega | (simp only [Int.toNat_natCast]; omega)) (by first | omega | (simp only [Int.toNat_natCast]; omega)) ?_
        try simp only [Int.toNat_natCast, tq_4, tq_8, tq_22, tq_27, tq_99, tq_a, tl_0, tl_1, tl_20, tl_21, tl_22, tl_32]
        refine r_if_ne 78 68 dX4_lay_65 (by decide) rfl (fun c_65 => ?_) (fun c_65 => ?_)
        refine r_aload_n 79 dX4_lay_78 rfl rfl ?_
        refine r_getR 82 dX4_lay_79 rfl kf_4_38 rfl (by first | assumption | omega) (by assumption) (by assumption) ?_
        refine r_iload_n 83 dX4_lay_82 rfl rfl ?_
        refine r_iald 84 dX4_lay_83 rfl (by first | assumption | omega) (by assumption) (by first | omega | (simp only [Int.toNat_natCast]; omega)) (by first | omega | (simp only [Int.toNat_natCast]; omega)) ?_
        try simp only [Int.toNat_natCast, tq_4, tq_8, tq_22, tq_27, tq_99, tq_a, tl_0, tl_1, tl_20, tl_21, tl_22, tl_32]
        refine r_iconst 85 dX4_lay_84 rfl rfl ?_
        refine r_icmp_ne 98 88 dX4_lay_85 (by decide) rfl (fun c_85 => ?_) (fun c_85 => ?_)
        refine r_iload_n 99 dX4_lay_98 rfl rfl ?_
        rotate_left -- leaf: pc 99
        refine r_iload_n 89 dX4_lay_88 rfl rfl ?_
        refine r_bipush 91 dX4_lay_89 rfl rfl (by decide) ?_
        refine r_ishl 92 dX4_lay_91 rfl rfl ?_
        refine r_bipush 94 dX4_lay_92 rfl rfl (by decide) ?_
        refine r_ishr 95 dX4_lay_94 rfl rfl ?_
        refine r_goto 99 dX4_lay_95 (by decide) ?_
        rotate_left -- leaf: pc 99
        refine r_iload_n 69 dX4_lay_68 rfl rfl ?_
        refine r_bipush 71 dX4_lay_69 rfl rfl (by decide) ?_
        refine r_ishl 72 dX4_lay_71 rfl rfl ?_
        refine r_bipush 74 dX4_lay_72 rfl rfl (by decide) ?_
        refine r_ishr 75 dX4_lay_74 rfl rfl ?_
        refine r_goto 99 dX4_lay_75 (by decide) ?_
        rotate_left -- leaf: pc 99
        · exact Jx _ (by unfold lyM; rw [if_neg c_65, if_neg c_85])
        · exact Jx _ (by unfold lyM; rw [if_neg c_65, if_pos c_85])
        · exact Jx _ (by unfold lyM; rw [if_pos c_65])
      · rw [if_pos (z01_n.mp c_43)]
        exact ⟨rfl, rfl⟩
    · rw [if_pos c_22]
      exact ⟨rfl, rfl⟩
  · rw [if_pos (z01_n.mp c_9)]
    exact ⟨rfl, rfl⟩
def loM (rd : Nat → Int) : Nat → Int × Int × Int
  | 0 => (0, -4, -4)
  | n + 1 => if ¬ rd n = -4 ∧ rd n < (loM rd n).2.2 then ((loM rd n).1 + 1, (if (loM rd n).1 = 0 then (n : Int) else (loM rd n).2.1), rd n) else ((loM rd n).1, (loM rd n).2.1, (if rd n = -4 then (loM rd n).2.2 else rd n))
theorem loM_in (rd : Nat → Int) : ∀ n : Nat, 0 ≤ (loM rd n).1 ∧ (loM rd n).1 ≤ n
  | 0 => by simp [loM]
  | n + 1 => by
    have := loM_in rd n
    simp only [loM]
    split <;> simp <;> omega
def nLost (x : Int) (h : zH) : Int := if ¬ (0 ≤ x ∧ x ≤ 1) then -1 else if x = 0 then (loM (rdM (h 46)) 48).1 else (loM (rdM (h 46)) 48).2.1
theorem l_mlost (lm : LM G) (rd : Nat → Int) (hrd : ∀ q, q < 48 → h 51 q = rd q) (x : Int) {Φ : Option zV → zH → Prop} (hΦ : Φ (some (vI (if x = 0 then (loM rd 48).1 else (loM rd 48).2.1))) h) : ∀ (n q : Nat) (x6 : Option zV), q + n = 48 → Rr l G 4 mX4_lost Φ 28 [some (vR 45), some (vI x), some (vI (loM rd q).2.2), some (vI (loM rd q).1), some (vI (loM rd q).2.1), some (vI q), x6] [] h := by
  obtain ⟨hN, ⟨ms45, ms46, ms47, ms48, ms49, ms50, ms51, ms52, ms53, ms54, ms55, ms56, ms57⟩, ⟨ml46, ml47, ml48, ml49, ml50, ml51, ml52, ml53, ml54, ml55, ml56, ml57⟩, ⟨mr0, mr2, mr7, mr16, mr17, mr18, mr20, mr22, mr24, mr25, mr26, mr27⟩⟩ := lm
  intro n
  induction n with
  | zero =>
    intro q x6 hq
    obtain rfl : q = 48 := by omega
    refine r_iload 30 dX4_lost_28 rfl rfl ?_
    refine r_bipush 32 dX4_lost_30 rfl rfl (by decide) ?_
    refine r_icmp_ge 126 35 dX4_lost_32 (by decide) rfl (fun c_32 => ?_) (fun c_32 => ?_)
    refine r_iload_n 127 dX4_lost_126 rfl rfl ?_
    refine r_if_ne 134 130 dX4_lost_127 (by decide) rfl (fun c_127 => ?_) (fun c_127 => ?_)
    refine r_iload 136 dX4_lost_134 rfl rfl ?_
    refine r_iret dX4_lost_136 rfl ?_
    rotate_left -- leaf: return at pc 136
    refine r_iload_n 131 dX4_lost_130 rfl rfl ?_
    refine r_goto 136 dX4_lost_131 (by decide) ?_
    refine r_iret dX4_lost_136 rfl ?_
    rotate_left -- leaf: return at pc 136
    rotate_left -- leaf: pc 35
    · rw [if_neg c_127] at hΦ
      exact hΦ
    · rw [if_pos c_127] at hΦ
      exact hΦ
    · omega
  | succ n ih =>
    intro q x6 hq
    have hin := loM_in rd q
    have e := hrd q (by omega)
    have J63 : ∀ b, b = z01 (¬ rd q = -4 ∧ rd q < (loM rd q).2.2) → Rr l G 4 mX4_lost Φ 63 [some (vR 45), some (vI x), some (vI (loM rd q).2.2), some (vI (loM rd q).1), some (vI (loM rd q).2.1), some (vI q), x6] [vI b] h := by
      intro b hb
      have ih := ih (q + 1) (some (vI b)) (by omega)
      simp only [loM] at ih
      by_cases hc : ¬ rd q = -4 ∧ rd q < (loM rd q).2.2
      · rw [z01_t hc] at hb
        subst hb
        rw [if_pos hc] at ih
        refine r_istore 65 dX4_lost_63 rfl rfl rfl ?_
        refine r_iload 67 dX4_lost_65 rfl rfl ?_
        refine r_if_eq 79 70 dX4_lost_67 (by decide) rfl (fun c_67 => ?_) (fun c_67 => ?_)
        refine r_iload 81 dX4_lost_79 rfl rfl ?_
        refine r_istore 83 dX4_lost_81 rfl rfl rfl ?_
        rotate_left -- leaf: pc 83
        rotate_left -- leaf: pc 70
        · omega
        · refine r_iload_n 71 dX4_lost_70 rfl rfl ?_
          refine r_if_ne 79 74 dX4_lost_71 (by decide) rfl (fun c_71 => ?_) (fun c_71 => ?_)
          refine r_iload 81 dX4_lost_79 rfl rfl ?_
          refine r_istore 83 dX4_lost_81 rfl rfl rfl ?_
          rotate_left -- leaf: pc 83
          refine r_iload 76 dX4_lost_74 rfl rfl ?_
          refine r_goto 81 dX4_lost_76 (by decide) ?_
          refine r_istore 83 dX4_lost_81 rfl rfl rfl ?_
          rotate_left -- leaf: pc 83
          · rw [if_neg c_71] at ih
            refine r_iload_n 84 dX4_lost_83 rfl rfl ?_
            refine r_iload 86 dX4_lost_84 rfl rfl ?_
            refine r_if_eq 93 89 dX4_lost_86 (by decide) rfl (fun c_86 => ?_) (fun c_86 => ?_)
            refine r_iconst 94 dX4_lost_93 rfl rfl ?_
            refine r_iadd 95 dX4_lost_94 rfl (by first | exact w32_id (by omega) (by omega) | rfl) ?_
            refine r_istore_n 96 dX4_lost_95 rfl rfl rfl ?_
            refine r_aload_n 97 dX4_lost_96 rfl rfl ?_
            refine r_getR 100 dX4_lost_97 rfl kf_4_25 rfl (by first | assumption | omega) (by assumption) (by assumption) ?_
            refine r_iload 102 dX4_lost_100 rfl rfl ?_
            refine r_iald 103 dX4_lost_102 rfl (by first | assumption | omega) (by assumption) (by first | omega | (simp only [Int.toNat_natCast]; omega)) (by first | omega | (simp only [Int.toNat_natCast]; omega)) ?_
            try simp only [Int.toNat_natCast, tq_4, tq_8, tq_22, tq_27, tq_99, tq_a, tl_0, tl_1, tl_20, tl_21, tl_22, tl_32]
            rotate_left -- leaf: pc 103
            refine r_iconst 90 dX4_lost_89 rfl rfl ?_
            refine r_goto 94 dX4_lost_90 (by decide) ?_
            refine r_iadd 95 dX4_lost_94 rfl (by first | exact w32_id (by omega) (by omega) | rfl) ?_
            refine r_istore_n 96 dX4_lost_95 rfl rfl rfl ?_
            refine r_aload_n 97 dX4_lost_96 rfl rfl ?_
            refine r_getR 100 dX4_lost_97 rfl kf_4_25 rfl (by first | assumption | omega) (by assumption) (by assumption) ?_
            refine r_iload 102 dX4_lost_100 rfl rfl ?_
            refine r_iald 103 dX4_lost_102 rfl (by first | assumption | omega) (by assumption) (by first | omega | (simp only [Int.toNat_natCast]; omega)) (by first | omega | (simp only [Int.toNat_natCast]; omega)) ?_
            try simp only [Int.toNat_natCast, tq_4, tq_8, tq_22, tq_27, tq_99, tq_a, tl_0, tl_1, tl_20, tl_21, tl_22, tl_32]
            rotate_left -- leaf: pc 103
            · omega
            · rw [e]
              refine r_bipush 105 dX4_lost_103 rfl rfl (by decide) ?_
              refine r_icmp_ne 112 108 dX4_lost_105 (by decide) rfl (fun c_105 => ?_) (fun c_105 => ?_)
              refine r_aload_n 113 dX4_lost_112 rfl rfl ?_
              refine r_getR 116 dX4_lost_113 rfl kf_4_25 rfl (by first | assumption | omega) (by assumption) (by assumption) ?_
              refine r_iload 118 dX4_lost_116 rfl rfl ?_
              refine r_iald 119 dX4_lost_118 rfl (by first | assumption | omega) (by assumption) (by first | omega | (simp only [Int.toNat_natCast]; omega)) (by first | omega | (simp only [Int.toNat_natCast]; omega)) ?_
              try simp only [Int.toNat_natCast, tq_4, tq_8, tq_22, tq_27, tq_99, tq_a, tl_0, tl_1, tl_20, tl_21, tl_22, tl_32]
              rotate_left -- leaf: pc 119
              refine r_iload_n 109 dX4_lost_108 rfl rfl ?_
              refine r_goto 119 dX4_lost_109 (by decide) ?_
              rotate_left -- leaf: pc 119
              · rw [e]
                refine r_istore_n 120 dX4_lost_119 rfl rfl rfl ?_
                refine r_iinc 123 _ dX4_lost_120 rfl rfl rfl rfl (by first | exact w32_id (by omega) (by omega) | rfl) ?_
                refine r_goto 28 dX4_lost_123 (by decide) ?_
                rotate_left -- leaf: pc 28
                exact ih
              · exact absurd c_105 hc.1
          · rw [if_pos c_71] at ih
            refine r_iload_n 84 dX4_lost_83 rfl rfl ?_
            refine r_iload 86 dX4_lost_84 rfl rfl ?_
            refine r_if_eq 93 89 dX4_lost_86 (by decide) rfl (fun c_86 => ?_) (fun c_86 => ?_)
            refine r_iconst 94 dX4_lost_93 rfl rfl ?_
            refine r_iadd 95 dX4_lost_94 rfl (by first | exact w32_id (by omega) (by omega) | rfl) ?_
            refine r_istore_n 96 dX4_lost_95 rfl rfl rfl ?_
            refine r_aload_n 97 dX4_lost_96 rfl rfl ?_
            refine r_getR 100 dX4_lost_97 rfl kf_4_25 rfl (by first | assumption | omega) (by assumption) (by assumption) ?_
            refine r_iload 102 dX4_lost_100 rfl rfl ?_
            refine r_iald 103 dX4_lost_102 rfl (by first | assumption | omega) (by assumption) (by first | omega | (simp only [Int.toNat_natCast]; omega)) (by first | omega | (simp only [Int.toNat_natCast]; omega)) ?_
            try simp only [Int.toNat_natCast, tq_4, tq_8, tq_22, tq_27, tq_99, tq_a, tl_0, tl_1, tl_20, tl_21, tl_22, tl_32]
            rotate_left -- leaf: pc 103
            refine r_iconst 90 dX4_lost_89 rfl rfl ?_
            refine r_goto 94 dX4_lost_90 (by decide) ?_
            refine r_iadd 95 dX4_lost_94 rfl (by first | exact w32_id (by omega) (by omega) | rfl) ?_
            refine r_istore_n 96 dX4_lost_95 rfl rfl rfl ?_
            refine r_aload_n 97 dX4_lost_96 rfl rfl ?_
            refine r_getR 100 dX4_lost_97 rfl kf_4_25 rfl (by first | assumption | omega) (by assumption) (by assumption) ?_
            refine r_iload 102 dX4_lost_100 rfl rfl ?_
            refine r_iald 103 dX4_lost_102 rfl (by first | assumption | omega) (by assumption) (by first | omega | (simp only [Int.toNat_natCast]; omega)) (by first | omega | (simp only [Int.toNat_natCast]; omega)) ?_
            try simp only [Int.toNat_natCast, tq_4, tq_8, tq_22, tq_27, tq_99, tq_a, tl_0, tl_1, tl_20, tl_21, tl_22, tl_32]
            rotate_left -- leaf: pc 103
            · omega
            · rw [e]
              refine r_bipush 105 dX4_lost_103 rfl rfl (by decide) ?_
              refine r_icmp_ne 112 108 dX4_lost_105 (by decide) rfl (fun c_105 => ?_) (fun c_105 => ?_)
              refine r_aload_n 113 dX4_lost_112 rfl rfl ?_
              refine r_getR 116 dX4_lost_113 rfl kf_4_25 rfl (by first | assumption | omega) (by assumption) (by assumption) ?_
              refine r_iload 118 dX4_lost_116 rfl rfl ?_
              refine r_iald 119 dX4_lost_118 rfl (by first | assumption | omega) (by assumption) (by first | omega | (simp only [Int.toNat_natCast]; omega)) (by first | omega | (simp only [Int.toNat_natCast]; omega)) ?_
              try simp only [Int.toNat_natCast, tq_4, tq_8, tq_22, tq_27, tq_99, tq_a, tl_0, tl_1, tl_20, tl_21, tl_22, tl_32]
              rotate_left -- leaf: pc 119
              refine r_iload_n 109 dX4_lost_108 rfl rfl ?_
              refine r_goto 119 dX4_lost_109 (by decide) ?_
              rotate_left -- leaf: pc 119
              · rw [e]
                refine r_istore_n 120 dX4_lost_119 rfl rfl rfl ?_
                refine r_iinc 123 _ dX4_lost_120 rfl rfl rfl rfl (by first | exact w32_id (by omega) (by omega) | rfl) ?_
                refine r_goto 28 dX4_lost_123 (by decide) ?_
                rotate_left -- leaf: pc 28
                exact ih
              · exact absurd c_105 hc.1
      · rw [z01_f hc] at hb
        subst hb
        rw [if_neg hc] at ih
        refine r_istore 65 dX4_lost_63 rfl rfl rfl ?_
        refine r_iload 67 dX4_lost_65 rfl rfl ?_
        refine r_if_eq 79 70 dX4_lost_67 (by decide) rfl (fun c_67 => ?_) (fun c_67 => ?_)
        refine r_iload 81 dX4_lost_79 rfl rfl ?_
        refine r_istore 83 dX4_lost_81 rfl rfl rfl ?_
        rotate_left -- leaf: pc 83
        rotate_left -- leaf: pc 70
        · refine r_iload_n 84 dX4_lost_83 rfl rfl ?_
          refine r_iload 86 dX4_lost_84 rfl rfl ?_
          refine r_if_eq 93 89 dX4_lost_86 (by decide) rfl (fun c_86 => ?_) (fun c_86 => ?_)
          refine r_iconst 94 dX4_lost_93 rfl rfl ?_
          refine r_iadd 95 dX4_lost_94 rfl (by first | exact w32_id (by omega) (by omega) | rfl) ?_
          refine r_istore_n 96 dX4_lost_95 rfl rfl rfl ?_
          refine r_aload_n 97 dX4_lost_96 rfl rfl ?_
          refine r_getR 100 dX4_lost_97 rfl kf_4_25 rfl (by first | assumption | omega) (by assumption) (by assumption) ?_
          refine r_iload 102 dX4_lost_100 rfl rfl ?_
          refine r_iald 103 dX4_lost_102 rfl (by first | assumption | omega) (by assumption) (by first | omega | (simp only [Int.toNat_natCast]; omega)) (by first | omega | (simp only [Int.toNat_natCast]; omega)) ?_
          try simp only [Int.toNat_natCast, tq_4, tq_8, tq_22, tq_27, tq_99, tq_a, tl_0, tl_1, tl_20, tl_21, tl_22, tl_32]
          rotate_left -- leaf: pc 103
          refine r_iconst 90 dX4_lost_89 rfl rfl ?_
          refine r_goto 94 dX4_lost_90 (by decide) ?_
          refine r_iadd 95 dX4_lost_94 rfl (by first | exact w32_id (by omega) (by omega) | rfl) ?_
          refine r_istore_n 96 dX4_lost_95 rfl rfl rfl ?_
          refine r_aload_n 97 dX4_lost_96 rfl rfl ?_
          refine r_getR 100 dX4_lost_97 rfl kf_4_25 rfl (by first | assumption | omega) (by assumption) (by assumption) ?_
          refine r_iload 102 dX4_lost_100 rfl rfl ?_
          refine r_iald 103 dX4_lost_102 rfl (by first | assumption | omega) (by assumption) (by first | omega | (simp only [Int.toNat_natCast]; omega)) (by first | omega | (simp only [Int.toNat_natCast]; omega)) ?_
          try simp only [Int.toNat_natCast, tq_4, tq_8, tq_22, tq_27, tq_99, tq_a, tl_0, tl_1, tl_20, tl_21, tl_22, tl_32]
          rotate_left -- leaf: pc 103
          · rw [e]
            refine r_bipush 105 dX4_lost_103 rfl rfl (by decide) ?_
            refine r_icmp_ne 112 108 dX4_lost_105 (by decide) rfl (fun c_105 => ?_) (fun c_105 => ?_)
            refine r_aload_n 113 dX4_lost_112 rfl rfl ?_
            refine r_getR 116 dX4_lost_113 rfl kf_4_25 rfl (by first | assumption | omega) (by assumption) (by assumption) ?_
            refine r_iload 118 dX4_lost_116 rfl rfl ?_
            refine r_iald 119 dX4_lost_118 rfl (by first | assumption | omega) (by assumption) (by first | omega | (simp only [Int.toNat_natCast]; omega)) (by first | omega | (simp only [Int.toNat_natCast]; omega)) ?_
            try simp only [Int.toNat_natCast, tq_4, tq_8, tq_22, tq_27, tq_99, tq_a, tl_0, tl_1, tl_20, tl_21, tl_22, tl_32]
            rotate_left -- leaf: pc 119
            refine r_iload_n 109 dX4_lost_108 rfl rfl ?_
            refine r_goto 119 dX4_lost_109 (by decide) ?_
            rotate_left -- leaf: pc 119
            · rw [e]
              rw [if_neg c_105] at ih
              refine r_istore_n 120 dX4_lost_119 rfl rfl rfl ?_
              refine r_iinc 123 _ dX4_lost_120 rfl rfl rfl rfl (by first | exact w32_id (by omega) (by omega) | rfl) ?_
              refine r_goto 28 dX4_lost_123 (by decide) ?_
              rotate_left -- leaf: pc 28
              rw [show (loM rd q).1 + 0 = (loM rd q).1 by omega]
              exact ih
            · rw [if_pos c_105] at ih
              refine r_istore_n 120 dX4_lost_119 rfl rfl rfl ?_
              refine r_iinc 123 _ dX4_lost_120 rfl rfl rfl rfl (by first | exact w32_id (by omega) (by omega) | rfl) ?_
              refine r_goto 28 dX4_lost_123 (by decide) ?_
              rotate_left -- leaf: pc 28
              rw [show (loM rd q).1 + 0 = (loM rd q).1 by omega]
              exact ih
          · omega
        · omega
    refine r_iload 30 dX4_lost_28 rfl rfl ?_
    refine r_bipush 32 dX4_lost_30 rfl rfl (by decide) ?_
    refine r_icmp_ge 126 35 dX4_lost_32 (by decide) rfl (fun c_32 => ?_) (fun c_32 => ?_)
    rotate_left -- leaf: pc 126
    refine r_aload_n 36 dX4_lost_35 rfl rfl ?_
    refine r_getR 39 dX4_lost_36 rfl kf_4_25 rfl (by first | assumption | omega) (by assumption) (by assumption) ?_
    refine r_iload 41 dX4_lost_39 rfl rfl ?_
    refine r_iald 42 dX4_lost_41 rfl (by first | assumption | omega) (by assumption) (by first | omega | (simp only [Int.toNat_natCast]; omega)) (by first | omega | (simp only [Int.toNat_natCast]; omega)) ?_
    try simp only [Int.toNat_natCast, tq_4, tq_8, tq_22, tq_27, tq_99, tq_a, tl_0, tl_1, tl_20, tl_21, tl_22, tl_32]
    rotate_left -- leaf: pc 42
    · omega
    rw [e]
    refine r_bipush 44 dX4_lost_42 rfl rfl (by decide) ?_
    refine r_icmp_eq 62 47 dX4_lost_44 (by decide) rfl (fun c_44 => ?_) (fun c_44 => ?_)
    refine r_iconst 63 dX4_lost_62 rfl rfl ?_
    rotate_left -- leaf: pc 63
    refine r_aload_n 48 dX4_lost_47 rfl rfl ?_
    refine r_getR 51 dX4_lost_48 rfl kf_4_25 rfl (by first | assumption | omega) (by assumption) (by assumption) ?_
    refine r_iload 53 dX4_lost_51 rfl rfl ?_
    refine r_iald 54 dX4_lost_53 rfl (by first | assumption | omega) (by assumption) (by first | omega | (simp only [Int.toNat_natCast]; omega)) (by first | omega | (simp only [Int.toNat_natCast]; omega)) ?_
    try simp only [Int.toNat_natCast, tq_4, tq_8, tq_22, tq_27, tq_99, tq_a, tl_0, tl_1, tl_20, tl_21, tl_22, tl_32]
    rotate_left -- leaf: pc 54
    · exact J63 _ (by rw [z01_f (fun z => z.1 c_44)])
    · rw [e]
      refine r_iload_n 55 dX4_lost_54 rfl rfl ?_
      refine r_icmp_ge 62 58 dX4_lost_55 (by decide) rfl (fun c_55 => ?_) (fun c_55 => ?_)
      refine r_iconst 63 dX4_lost_62 rfl rfl ?_
      rotate_left -- leaf: pc 63
      refine r_iconst 59 dX4_lost_58 rfl rfl ?_
      refine r_goto 63 dX4_lost_59 (by decide) ?_
      rotate_left -- leaf: pc 63
      · exact J63 _ (by rw [z01_f (by omega)])
      · exact J63 _ (by rw [z01_t ⟨c_44, c_55⟩])
theorem m_lost (lm : LM G) (wm : wM h) (x : Int) : Ca l G 4 mX4_lost [vR 45, vI x] h (fun r h' => r = some (vI (nLost x h)) ∧ scm h h') := by
  have lm0 := lm
  have wm0 := wm
  obtain ⟨hN, ⟨ms45, ms46, ms47, ms48, ms49, ms50, ms51, ms52, ms53, ms54, ms55, ms56, ms57⟩, ⟨ml46, ml47, ml48, ml49, ml50, ml51, ml52, ml53, ml54, ml55, ml56, ml57⟩, ⟨mr0, mr2, mr7, mr16, mr17, mr18, mr20, mr22, mr24, mr25, mr26, mr27⟩⟩ := lm
  refine Ca.of (by decide) (Nat.le_of_ble_eq_true rfl) (fun hI hv hH => ?_)
  unfold nLost
  refine r_iload_n 1 dX4_lost_0 rfl rfl ?_
  refine r_i2l 2 dX4_lost_1 rfl ?_
  refine r_lconst 3 dX4_lost_2 rfl 0 rfl (by decide) ?_
  refine r_lconst 4 dX4_lost_3 rfl 1 rfl (by decide) ?_
  rotate_left -- leaf: call at pc 4
  refine r_cs3 7 dX4_lost_4 rfl ks_4_49 rfl rfl (c_in x 0 1) ?_
  rintro r h' ⟨rfl, rfl⟩
  refine r_if_ne 12 10 dX4_lost_7 (by decide) rfl (fun c_7 => ?_) (fun c_7 => ?_)
  refine r_aload_n 13 dX4_lost_12 rfl rfl ?_
  rotate_left -- leaf: call at pc 13
  refine r_iconst 11 dX4_lost_10 rfl rfl ?_
  refine r_iret dX4_lost_11 rfl ?_
  rotate_left -- leaf: return at pc 11
  · rw [if_neg (fun z => z (z01_y.mp c_7))]
    refine r_cv0 16 dX4_lost_13 rfl kv_4_149 (by first | assumption | omega) (by assumption) rfl rfl (m_lays lm0 wm0.1) ?_
    rintro r h'' ⟨rfl, rfl⟩
    refine r_bipush 18 dX4_lost_16 rfl rfl (by decide) ?_
    refine r_istore_n 19 dX4_lost_18 rfl rfl rfl ?_
    refine r_iconst 20 dX4_lost_19 rfl rfl ?_
    refine r_istore_n 21 dX4_lost_20 rfl rfl rfl ?_
    refine r_bipush 23 dX4_lost_21 rfl rfl (by decide) ?_
    refine r_istore 25 dX4_lost_23 rfl rfl rfl ?_
    refine r_iconst 26 dX4_lost_25 rfl rfl ?_
    refine r_istore 28 dX4_lost_26 rfl rfl rfl ?_
    rotate_left -- leaf: pc 28
    exact l_mlost (l := l) lm0 (rdM (h' 46)) (fun q hq => setB_i hq) x (Φ := fun r h'' => r = some (vI (if x = 0 then (loM (rdM (h' 46)) 48).1 else (loM (rdM (h' 46)) 48).2.1)) ∧ scm h' h'') ⟨rfl, fun _ _ z => setB_n z⟩ 48 0 none rfl
  · rw [if_pos (z01_n.mp c_7)]
    exact ⟨rfl, fun _ _ _ => rfl⟩
def ofM (rd : Nat → Int) (q : Nat) : Int := if rd q = -4 then -4 else if (q : Int) < rd q then rd q - q else q - rd q
def woM (rd : Nat → Int) : Nat → Int × Int
  | 0 => (-4, -4)
  | n + 1 => if (woM rd n).1 < ofM rd n then (ofM rd n, (n : Int)) else woM rd n
def nWorst (x : Int) (h : zH) : Int := if ¬ (0 ≤ x ∧ x ≤ 1) then -1 else if x = 0 then (woM (rdM (h 46)) 48).1 else (woM (rdM (h 46)) 48).2
theorem l_mworst (lm : LM G) (rd : Nat → Int) (hrd : ∀ q, q < 48 → h 51 q = rd q) (hri : ∀ q, rd q = -4 ∨ (0 ≤ rd q ∧ rd q ≤ 47)) (x : Int) {Φ : Option zV → zH → Prop} (hΦ : Φ (some (vI (if x = 0 then (woM rd 48).1 else (woM rd 48).2))) h) : ∀ (n q : Nat) (x6 : Option zV), q + n = 48 → Rr l G 4 mX4_worst Φ 25 [some (vR 45), some (vI x), some (vI (woM rd q).1), some (vI (woM rd q).2), some (vI q), x6] [] h := by
  obtain ⟨hN, ⟨ms45, ms46, ms47, ms48, ms49, ms50, ms51, ms52, ms53, ms54, ms55, ms56, ms57⟩, ⟨ml46, ml47, ml48, ml49, ml50, ml51, ml52, ml53, ml54, ml55, ml56, ml57⟩, ⟨mr0, mr2, mr7, mr16, mr17, mr18, mr20, mr22, mr24, mr25, mr26, mr27⟩⟩ := lm
  intro n
  induction n with
  | zero =>
    intro q x6 hq
    obtain rfl : q = 48 := by omega
    refine r_iload 27 dX4_worst_25 rfl rfl ?_
    refine r_bipush 29 dX4_worst_27 rfl rfl (by decide) ?_
    refine r_icmp_ge 118 32 dX4_worst_29 (by decide) rfl (fun c_29 => ?_) (fun c_29 => ?_)
    refine r_iload_n 119 dX4_worst_118 rfl rfl ?_
    refine r_if_ne 126 122 dX4_worst_119 (by decide) rfl (fun c_119 => ?_) (fun c_119 => ?_)
    refine r_iload_n 127 dX4_worst_126 rfl rfl ?_
    refine r_iret dX4_worst_127 rfl ?_
    rotate_left -- leaf: return at pc 127
    refine r_iload_n 123 dX4_worst_122 rfl rfl ?_
    refine r_goto 127 dX4_worst_123 (by decide) ?_
    refine r_iret dX4_worst_127 rfl ?_
    rotate_left -- leaf: return at pc 127
    rotate_left -- leaf: pc 32
    · rw [if_neg c_119] at hΦ
      exact hΦ
    · rw [if_pos c_119] at hΦ
      exact hΦ
    · omega
  | succ n ih =>
    intro q x6 hq
    have e := hrd q (by omega)
    have hr := hri q
    have ih := ih (q + 1) (some (vI (ofM rd q))) (by omega)
    simp only [woM] at ih
    have J84 : Rr l G 4 mX4_worst Φ 84 [some (vR 45), some (vI x), some (vI (woM rd q).1), some (vI (woM rd q).2), some (vI q), x6] [vI (ofM rd q)] h := by
      refine r_istore 86 dX4_worst_84 rfl rfl rfl ?_
      refine r_iload 88 dX4_worst_86 rfl rfl ?_
      refine r_iload_n 89 dX4_worst_88 rfl rfl ?_
      refine r_icmp_le 97 92 dX4_worst_89 (by decide) rfl (fun c_89 => ?_) (fun c_89 => ?_)
      refine r_iload_n 98 dX4_worst_97 rfl rfl ?_
      refine r_istore_n 99 dX4_worst_98 rfl rfl rfl ?_
      refine r_iload 101 dX4_worst_99 rfl rfl ?_
      refine r_iload_n 102 dX4_worst_101 rfl rfl ?_
      refine r_icmp_le 110 105 dX4_worst_102 (by decide) rfl (fun c_102 => ?_) (fun c_102 => ?_)
      refine r_iload_n 111 dX4_worst_110 rfl rfl ?_
      refine r_istore_n 112 dX4_worst_111 rfl rfl rfl ?_
      refine r_iinc 115 _ dX4_worst_112 rfl rfl rfl rfl (by first | exact w32_id (by omega) (by omega) | rfl) ?_
      refine r_goto 25 dX4_worst_115 (by decide) ?_
      rotate_left -- leaf: pc 25
      refine r_iload 107 dX4_worst_105 rfl rfl ?_
      refine r_goto 111 dX4_worst_107 (by decide) ?_
      refine r_istore_n 112 dX4_worst_111 rfl rfl rfl ?_
      refine r_iinc 115 _ dX4_worst_112 rfl rfl rfl rfl (by first | exact w32_id (by omega) (by omega) | rfl) ?_
      refine r_goto 25 dX4_worst_115 (by decide) ?_
      rotate_left -- leaf: pc 25
      refine r_iload 94 dX4_worst_92 rfl rfl ?_
      refine r_goto 98 dX4_worst_94 (by decide) ?_
      refine r_istore_n 99 dX4_worst_98 rfl rfl rfl ?_
      refine r_iload 101 dX4_worst_99 rfl rfl ?_
      refine r_iload_n 102 dX4_worst_101 rfl rfl ?_
      refine r_icmp_le 110 105 dX4_worst_102 (by decide) rfl (fun c_102 => ?_) (fun c_102 => ?_)
      refine r_iload_n 111 dX4_worst_110 rfl rfl ?_
      refine r_istore_n 112 dX4_worst_111 rfl rfl rfl ?_
      refine r_iinc 115 _ dX4_worst_112 rfl rfl rfl rfl (by first | exact w32_id (by omega) (by omega) | rfl) ?_
      refine r_goto 25 dX4_worst_115 (by decide) ?_
      rotate_left -- leaf: pc 25
      refine r_iload 107 dX4_worst_105 rfl rfl ?_
      refine r_goto 111 dX4_worst_107 (by decide) ?_
      refine r_istore_n 112 dX4_worst_111 rfl rfl rfl ?_
      refine r_iinc 115 _ dX4_worst_112 rfl rfl rfl rfl (by first | exact w32_id (by omega) (by omega) | rfl) ?_
      refine r_goto 25 dX4_worst_115 (by decide) ?_
      rotate_left -- leaf: pc 25
      · rw [if_neg (by omega)] at ih
        exact ih
      · omega
      · omega
      · rw [if_pos (by omega)] at ih
        exact ih
    unfold ofM at J84
    refine r_iload 27 dX4_worst_25 rfl rfl ?_
    refine r_bipush 29 dX4_worst_27 rfl rfl (by decide) ?_
    refine r_icmp_ge 118 32 dX4_worst_29 (by decide) rfl (fun c_29 => ?_) (fun c_29 => ?_)
    rotate_left -- leaf: pc 118
    refine r_aload_n 33 dX4_worst_32 rfl rfl ?_
    refine r_getR 36 dX4_worst_33 rfl kf_4_25 rfl (by first | assumption | omega) (by assumption) (by assumption) ?_
    refine r_iload 38 dX4_worst_36 rfl rfl ?_
    refine r_iald 39 dX4_worst_38 rfl (by first | assumption | omega) (by assumption) (by first | omega | (simp only [Int.toNat_natCast]; omega)) (by first | omega | (simp only [Int.toNat_natCast]; omega)) ?_
    try simp only [Int.toNat_natCast, tq_4, tq_8, tq_22, tq_27, tq_99, tq_a, tl_0, tl_1, tl_20, tl_21, tl_22, tl_32]
    rotate_left -- leaf: pc 39
    · omega
    rw [e]
    refine r_bipush 41 dX4_worst_39 rfl rfl (by decide) ?_
    refine r_icmp_ne 49 44 dX4_worst_41 (by decide) rfl (fun c_41 => ?_) (fun c_41 => ?_)
    refine r_aload_n 50 dX4_worst_49 rfl rfl ?_
    refine r_getR 53 dX4_worst_50 rfl kf_4_25 rfl (by first | assumption | omega) (by assumption) (by assumption) ?_
    refine r_iload 55 dX4_worst_53 rfl rfl ?_
    refine r_iald 56 dX4_worst_55 rfl (by first | assumption | omega) (by assumption) (by first | omega | (simp only [Int.toNat_natCast]; omega)) (by first | omega | (simp only [Int.toNat_natCast]; omega)) ?_
    try simp only [Int.toNat_natCast, tq_4, tq_8, tq_22, tq_27, tq_99, tq_a, tl_0, tl_1, tl_20, tl_21, tl_22, tl_32]
    rotate_left -- leaf: pc 56
    refine r_bipush 46 dX4_worst_44 rfl rfl (by decide) ?_
    refine r_goto 84 dX4_worst_46 (by decide) ?_
    rotate_left -- leaf: pc 84
    · rw [e]
      rw [if_neg c_41] at J84
      refine r_iload 58 dX4_worst_56 rfl rfl ?_
      refine r_icmp_le 74 61 dX4_worst_58 (by decide) rfl (fun c_58 => ?_) (fun c_58 => ?_)
      refine r_iload 76 dX4_worst_74 rfl rfl ?_
      refine r_aload_n 77 dX4_worst_76 rfl rfl ?_
      refine r_getR 80 dX4_worst_77 rfl kf_4_25 rfl (by first | assumption | omega) (by assumption) (by assumption) ?_
      refine r_iload 82 dX4_worst_80 rfl rfl ?_
      refine r_iald 83 dX4_worst_82 rfl (by first | assumption | omega) (by assumption) (by first | omega | (simp only [Int.toNat_natCast]; omega)) (by first | omega | (simp only [Int.toNat_natCast]; omega)) ?_
      try simp only [Int.toNat_natCast, tq_4, tq_8, tq_22, tq_27, tq_99, tq_a, tl_0, tl_1, tl_20, tl_21, tl_22, tl_32]
      rotate_left -- leaf: pc 83
      rotate_left -- leaf: pc 61
      · rw [e]
        rw [if_neg (by omega)] at J84
        refine r_isub 84 dX4_worst_83 rfl (by first | exact w32_id (by omega) (by omega) | rfl) ?_
        rotate_left -- leaf: pc 84
        exact J84
      · rw [if_pos (by omega)] at J84
        refine r_aload_n 62 dX4_worst_61 rfl rfl ?_
        refine r_getR 65 dX4_worst_62 rfl kf_4_25 rfl (by first | assumption | omega) (by assumption) (by assumption) ?_
        refine r_iload 67 dX4_worst_65 rfl rfl ?_
        refine r_iald 68 dX4_worst_67 rfl (by first | assumption | omega) (by assumption) (by first | omega | (simp only [Int.toNat_natCast]; omega)) (by first | omega | (simp only [Int.toNat_natCast]; omega)) ?_
        try simp only [Int.toNat_natCast, tq_4, tq_8, tq_22, tq_27, tq_99, tq_a, tl_0, tl_1, tl_20, tl_21, tl_22, tl_32]
        rotate_left -- leaf: pc 68
        rw [e]
        refine r_iload 70 dX4_worst_68 rfl rfl ?_
        refine r_isub 71 dX4_worst_70 rfl (by first | exact w32_id (by omega) (by omega) | rfl) ?_
        refine r_goto 84 dX4_worst_71 (by decide) ?_
        rotate_left -- leaf: pc 84
        exact J84
    · rw [if_pos c_41] at J84
      exact J84
theorem m_worst (lm : LM G) (wm : wM h) (x : Int) : Ca l G 4 mX4_worst [vR 45, vI x] h (fun r h' => r = some (vI (nWorst x h)) ∧ scm h h') := by
  have lm0 := lm
  have wm0 := wm
  obtain ⟨hN, ⟨ms45, ms46, ms47, ms48, ms49, ms50, ms51, ms52, ms53, ms54, ms55, ms56, ms57⟩, ⟨ml46, ml47, ml48, ml49, ml50, ml51, ml52, ml53, ml54, ml55, ml56, ml57⟩, ⟨mr0, mr2, mr7, mr16, mr17, mr18, mr20, mr22, mr24, mr25, mr26, mr27⟩⟩ := lm
  refine Ca.of (by decide) (Nat.le_of_ble_eq_true rfl) (fun hI hv hH => ?_)
  unfold nWorst
  refine r_iload_n 1 dX4_worst_0 rfl rfl ?_
  refine r_i2l 2 dX4_worst_1 rfl ?_
  refine r_lconst 3 dX4_worst_2 rfl 0 rfl (by decide) ?_
  refine r_lconst 4 dX4_worst_3 rfl 1 rfl (by decide) ?_
  rotate_left -- leaf: call at pc 4
  refine r_cs3 7 dX4_worst_4 rfl ks_4_49 rfl rfl (c_in x 0 1) ?_
  rintro r h' ⟨rfl, rfl⟩
  refine r_if_ne 12 10 dX4_worst_7 (by decide) rfl (fun c_7 => ?_) (fun c_7 => ?_)
  refine r_aload_n 13 dX4_worst_12 rfl rfl ?_
  rotate_left -- leaf: call at pc 13
  refine r_iconst 11 dX4_worst_10 rfl rfl ?_
  refine r_iret dX4_worst_11 rfl ?_
  rotate_left -- leaf: return at pc 11
  · rw [if_neg (fun z => z (z01_y.mp c_7))]
    refine r_cv0 16 dX4_worst_13 rfl kv_4_149 (by first | assumption | omega) (by assumption) rfl rfl (m_lays lm0 wm0.1) ?_
    rintro r h'' ⟨rfl, rfl⟩
    refine r_bipush 18 dX4_worst_16 rfl rfl (by decide) ?_
    refine r_istore_n 19 dX4_worst_18 rfl rfl rfl ?_
    refine r_bipush 21 dX4_worst_19 rfl rfl (by decide) ?_
    refine r_istore_n 22 dX4_worst_21 rfl rfl rfl ?_
    refine r_iconst 23 dX4_worst_22 rfl rfl ?_
    refine r_istore 25 dX4_worst_23 rfl rfl rfl ?_
    rotate_left -- leaf: pc 25
    exact l_mworst (l := l) lm0 (rdM (h' 46)) (fun q hq => setB_i hq) (rdM_in _) x (Φ := fun r h'' => r = some (vI (if x = 0 then (woM (rdM (h' 46)) 48).1 else (woM (rdM (h' 46)) 48).2)) ∧ scm h' h'') ⟨rfl, fun _ _ z => setB_n z⟩ 48 0 none rfl
  · rw [if_pos (z01_n.mp c_7)]
    exact ⟨rfl, fun _ _ _ => rfl⟩
def wyM (q due : Int) : Int := if q = -4 then 3 else if q < due then 0 else if q = due then 1 else 2
def nDone (x : Int) (h : zH) : Int := if ¬ (0 ≤ x ∧ x ≤ 3) then -1 else orN (fun i => decide (wyM (dnM (h 46) i) (h 46 (22 + i)) = x)) (h 46 32).toNat
theorem l_mdone (lm : LM G) (wm : wM h) (x : Int) {Φ : Option zV → zH → Prop} (hΦ : Φ (some (vI (orN (fun i => decide (wyM (dnM (h 46) i) (h 46 (22 + i)) = x)) (h 46 32).toNat))) (setB h 51 48 (rdM (h 46)))) : ∀ (n i : Nat) (x4 x5 x6 : Option zV), i + n = (h 46 32).toNat → Rr l G 4 mX4_done Φ 22 [some (vR 45), some (vI x), some (vI (orN (fun i => decide (wyM (dnM (h 46) i) (h 46 (22 + i)) = x)) i)), some (vI i), x4, x5, x6] [] (setB h 51 48 (rdM (h 46))) := by
  have lm0 := lm
  obtain ⟨hN, ⟨ms45, ms46, ms47, ms48, ms49, ms50, ms51, ms52, ms53, ms54, ms55, ms56, ms57⟩, ⟨ml46, ml47, ml48, ml49, ml50, ml51, ml52, ml53, ml54, ml55, ml56, ml57⟩, ⟨mr0, mr2, mr7, mr16, mr17, mr18, mr20, mr22, mr24, mr25, mr26, mr27⟩⟩ := lm
  obtain ⟨⟨wg1, wg2, wg3, wg4, wg5, wg6, wg7, wg8⟩, wmen, wtp, wsm⟩ := wm
  have e46 : ∀ b, setB h 51 48 (rdM (h 46)) 46 b = h 46 b := fun b => setB_n (by omega)
  intro n
  induction n with
  | zero =>
    intro i x4 x5 x6 hi
    refine r_iload_n 23 dX4_done_22 rfl rfl ?_
    refine r_aload_n 24 dX4_done_23 rfl rfl ?_
    refine r_getR 27 dX4_done_24 rfl kf_4_7 rfl (by first | assumption | omega) (by assumption) (by assumption) ?_
    refine r_bipush 29 dX4_done_27 rfl rfl (by decide) ?_
    refine r_iald 30 dX4_done_29 rfl (by first | assumption | omega) (by assumption) (by first | omega | (simp only [Int.toNat_natCast]; omega)) (by first | omega | (simp only [Int.toNat_natCast]; omega)) ?_
    try simp only [Int.toNat_natCast, tq_4, tq_8, tq_22, tq_27, tq_99, tq_a, tl_0, tl_1, tl_20, tl_21, tl_22, tl_32]
    rotate_left -- leaf: pc 30
    rw [e46]
    refine r_icmp_ge 109 33 dX4_done_30 (by decide) rfl (fun c_30 => ?_) (fun c_30 => ?_)
    refine r_iload_n 110 dX4_done_109 rfl rfl ?_
    refine r_iret dX4_done_110 rfl ?_
    rotate_left -- leaf: return at pc 110
    rotate_left -- leaf: pc 33
    · rw [show i = (h 46 32).toNat by omega]
      exact hΦ
    · omega
  | succ n ih =>
    intro i x4 x5 x6 hi
    have hlt := orN_lt (fun i => decide (wyM (dnM (h 46) i) (h 46 (22 + i)) = x)) i
    have hp : (2 : Nat) ^ i ≤ 2 ^ 5 := Nat.pow_le_pow_right (by decide) (by omega)
    have ih := ih (i + 1) (some (vI (dnM (h 46) i))) (some (vI (h 46 (22 + i)))) (some (vI (wyM (dnM (h 46) i) (h 46 (22 + i))))) (by omega)
    simp only [orN] at ih
    have J85 : Rr l G 4 mX4_done Φ 85 [some (vR 45), some (vI x), some (vI (orN (fun i => decide (wyM (dnM (h 46) i) (h 46 (22 + i)) = x)) i)), some (vI i), some (vI (dnM (h 46) i)), some (vI (h 46 (22 + i))), x6] [vI (wyM (dnM (h 46) i) (h 46 (22 + i)))] (setB h 51 48 (rdM (h 46))) := by
      refine r_istore 87 dX4_done_85 rfl rfl rfl ?_
      refine r_iload_n 88 dX4_done_87 rfl rfl ?_
      refine r_iload 90 dX4_done_88 rfl rfl ?_
      refine r_iload_n 91 dX4_done_90 rfl rfl ?_
      refine r_icmp_ne 100 94 dX4_done_91 (by decide) rfl (fun c_91 => ?_) (fun c_91 => ?_)
      refine r_iconst 101 dX4_done_100 rfl rfl ?_
      refine r_ior 102 dX4_done_101 rfl rfl ?_
      rotate_left -- leaf: pc 102
      refine r_iconst 95 dX4_done_94 rfl rfl ?_
      refine r_iload_n 96 dX4_done_95 rfl rfl ?_
      refine r_ishl 97 dX4_done_96 rfl rfl ?_
      refine r_goto 101 dX4_done_97 (by decide) ?_
      refine r_ior 102 dX4_done_101 rfl rfl ?_
      rotate_left -- leaf: pc 102
      · rw [if_neg (by simp [c_91])] at ih
        rw [z_or0 _ ⟨by omega, by omega⟩]
        refine r_istore_n 103 dX4_done_102 rfl rfl rfl ?_
        refine r_iinc 106 _ dX4_done_103 rfl rfl rfl rfl (by first | exact w32_id (by omega) (by omega) | rfl) ?_
        refine r_goto 22 dX4_done_106 (by decide) ?_
        rotate_left -- leaf: pc 22
        exact ih
      · rw [if_pos (by simp [c_91])] at ih
        rw [z_or_bit (by omega) hlt]
        refine r_istore_n 103 dX4_done_102 rfl rfl rfl ?_
        refine r_iinc 106 _ dX4_done_103 rfl rfl rfl rfl (by first | exact w32_id (by omega) (by omega) | rfl) ?_
        refine r_goto 22 dX4_done_106 (by decide) ?_
        rotate_left -- leaf: pc 22
        exact ih
    refine r_iload_n 23 dX4_done_22 rfl rfl ?_
    refine r_aload_n 24 dX4_done_23 rfl rfl ?_
    refine r_getR 27 dX4_done_24 rfl kf_4_7 rfl (by first | assumption | omega) (by assumption) (by assumption) ?_
    refine r_bipush 29 dX4_done_27 rfl rfl (by decide) ?_
    refine r_iald 30 dX4_done_29 rfl (by first | assumption | omega) (by assumption) (by first | omega | (simp only [Int.toNat_natCast]; omega)) (by first | omega | (simp only [Int.toNat_natCast]; omega)) ?_
    try simp only [Int.toNat_natCast, tq_4, tq_8, tq_22, tq_27, tq_99, tq_a, tl_0, tl_1, tl_20, tl_21, tl_22, tl_32]
    rotate_left -- leaf: pc 30
    rw [e46]
    refine r_icmp_ge 109 33 dX4_done_30 (by decide) rfl (fun c_30 => ?_) (fun c_30 => ?_)
    rotate_left -- leaf: pc 109
    refine r_aload_n 34 dX4_done_33 rfl rfl ?_
    refine r_iload_n 35 dX4_done_34 rfl rfl ?_
    rotate_left -- leaf: call at pc 35
    · omega
    refine r_cv1 38 dX4_done_35 rfl kv_4_146 (by first | assumption | omega) (by assumption) rfl rfl (m_doneIn lm0 i (by omega)) ?_
    rintro r h' ⟨rfl, rfl⟩
    rw [e46, dsM_set 48 0 (by omega)]
    have ed : dsM (rdM (h 46)) (h 46 (22 + i)) 48 0 = dnM (h 46) i := rfl
    rw [ed]
    refine r_istore 40 dX4_done_38 rfl rfl rfl ?_
    refine r_aload_n 41 dX4_done_40 rfl rfl ?_
    refine r_getR 44 dX4_done_41 rfl kf_4_7 rfl (by first | assumption | omega) (by assumption) (by assumption) ?_
    refine r_bipush 46 dX4_done_44 rfl rfl (by decide) ?_
    refine r_iload_n 47 dX4_done_46 rfl rfl ?_
    refine r_iadd 48 dX4_done_47 rfl (by first | exact w32_id (by omega) (by omega) | rfl) ?_
    refine r_iald 49 dX4_done_48 rfl (by first | assumption | omega) (by assumption) (by first | omega | (simp only [Int.toNat_natCast]; omega)) (by first | omega | (simp only [Int.toNat_natCast]; omega)) ?_
    try simp only [Int.toNat_natCast, tq_4, tq_8, tq_22, tq_27, tq_99, tq_a, tl_0, tl_1, tl_20, tl_21, tl_22, tl_32]
    rotate_left -- leaf: pc 49
    rw [e46]
    unfold wyM at J85
    refine r_istore 51 dX4_done_49 rfl rfl rfl ?_
    refine r_iload 53 dX4_done_51 rfl rfl ?_
    refine r_bipush 55 dX4_done_53 rfl rfl (by decide) ?_
    refine r_icmp_ne 62 58 dX4_done_55 (by decide) rfl (fun c_55 => ?_) (fun c_55 => ?_)
    refine r_iload 64 dX4_done_62 rfl rfl ?_
    refine r_iload 66 dX4_done_64 rfl rfl ?_
    refine r_icmp_ge 73 69 dX4_done_66 (by decide) rfl (fun c_66 => ?_) (fun c_66 => ?_)
    refine r_iload 75 dX4_done_73 rfl rfl ?_
    refine r_iload 77 dX4_done_75 rfl rfl ?_
    refine r_icmp_ne 84 80 dX4_done_77 (by decide) rfl (fun c_77 => ?_) (fun c_77 => ?_)
    refine r_iconst 85 dX4_done_84 rfl rfl ?_
    rotate_left -- leaf: pc 85
    refine r_iconst 81 dX4_done_80 rfl rfl ?_
    refine r_goto 85 dX4_done_81 (by decide) ?_
    rotate_left -- leaf: pc 85
    refine r_iconst 70 dX4_done_69 rfl rfl ?_
    refine r_goto 85 dX4_done_70 (by decide) ?_
    rotate_left -- leaf: pc 85
    refine r_iconst 59 dX4_done_58 rfl rfl ?_
    refine r_goto 85 dX4_done_59 (by decide) ?_
    rotate_left -- leaf: pc 85
    · rw [if_neg c_55, if_neg (by omega), if_neg c_77] at J85
      exact J85
    · rw [if_neg c_55, if_neg (by omega), if_pos c_77] at J85
      exact J85
    · rw [if_neg c_55, if_pos c_66] at J85
      exact J85
    · rw [if_pos c_55] at J85
      exact J85
theorem m_done (lm : LM G) (wm : wM h) (x : Int) : Ca l G 4 mX4_done [vR 45, vI x] h (fun r h' => r = some (vI (nDone x h)) ∧ scm h h') := by
  have lm0 := lm
  have wm0 := wm
  obtain ⟨hN, ⟨ms45, ms46, ms47, ms48, ms49, ms50, ms51, ms52, ms53, ms54, ms55, ms56, ms57⟩, ⟨ml46, ml47, ml48, ml49, ml50, ml51, ml52, ml53, ml54, ml55, ml56, ml57⟩, ⟨mr0, mr2, mr7, mr16, mr17, mr18, mr20, mr22, mr24, mr25, mr26, mr27⟩⟩ := lm
  refine Ca.of (by decide) (Nat.le_of_ble_eq_true rfl) (fun hI hv hH => ?_)
  unfold nDone
  refine r_iload_n 1 dX4_done_0 rfl rfl ?_
  refine r_i2l 2 dX4_done_1 rfl ?_
  refine r_lconst 3 dX4_done_2 rfl 0 rfl (by decide) ?_
  refine r_ldc2 6 (3) dX4_done_3 rfl kq_4_165 rfl ?_
  rotate_left -- leaf: call at pc 6
  refine r_cs3 9 dX4_done_6 rfl ks_4_49 rfl rfl (c_in x 0 3) ?_
  rintro r h' ⟨rfl, rfl⟩
  refine r_if_ne 14 12 dX4_done_9 (by decide) rfl (fun c_9 => ?_) (fun c_9 => ?_)
  refine r_aload_n 15 dX4_done_14 rfl rfl ?_
  rotate_left -- leaf: call at pc 15
  refine r_iconst 13 dX4_done_12 rfl rfl ?_
  refine r_iret dX4_done_13 rfl ?_
  rotate_left -- leaf: return at pc 13
  · rw [if_neg (fun z => z (z01_y.mp c_9))]
    refine r_cv0 18 dX4_done_15 rfl kv_4_149 (by first | assumption | omega) (by assumption) rfl rfl (m_lays lm0 wm0.1) ?_
    rintro r h'' ⟨rfl, rfl⟩
    refine r_iconst 19 dX4_done_18 rfl rfl ?_
    refine r_istore_n 20 dX4_done_19 rfl rfl rfl ?_
    refine r_iconst 21 dX4_done_20 rfl rfl ?_
    refine r_istore_n 22 dX4_done_21 rfl rfl rfl ?_
    rotate_left -- leaf: pc 22
    exact l_mdone (l := l) lm0 wm0 x (Φ := fun r h'' => r = some (vI (orN (fun i => decide (wyM (dnM (h' 46) i) (h' 46 (22 + i)) = x)) (h' 46 32).toNat)) ∧ scm h' h'') ⟨rfl, fun _ _ z => setB_n z⟩ (h' 46 32).toNat 0 none none none (by omega)
  · rw [if_pos (z01_n.mp c_9)]
    exact ⟨rfl, fun _ _ _ => rfl⟩
end MO
