/-! SunPointerModel: count, mark, give, swap, sole -/
section MO
variable {l : Launch} {G : zG} {h : zH}
def nCount (x : Int) (h : zH) : Int := if x = 0 then h 45 21 else if x = 1 then h 54 0 + h 54 1 else if x = 2 then h 45 8 else if x = 3 then (if h 55 0 = -4 then -4 else h 56 0) else if x = 4 then sumF (fun i => h 46 (27 + i)) (h 46 32).toNat else if x = 5 then sumF (fun q => if rdM (h 46) q = -4 then 0 else 1) 48 else -1
theorem l_count1 (lm : LM G) (wm : wM h) (x : Int) {Φ : Option zV → zH → Prop} (hΦ : Rr l G 4 mX4_count Φ 42 [some (vR 45), some (vI x), some (vI (sumF (fun i => h 46 (27 + i)) (h 46 32).toNat)), some (vI 0), some (vI (h 46 32))] [] (setB h 51 48 (rdM (h 46)))) : ∀ (n i : Nat), i + n = (h 46 32).toNat → Rr l G 4 mX4_count Φ 11 [some (vR 45), some (vI x), some (vI (sumF (fun i => h 46 (27 + i)) i)), some (vI 0), some (vI i)] [] (setB h 51 48 (rdM (h 46))) := by
  obtain ⟨hN, ⟨ms45, ms46, ms47, ms48, ms49, ms50, ms51, ms52, ms53, ms54, ms55, ms56, ms57⟩, ⟨ml46, ml47, ml48, ml49, ml50, ml51, ml52, ml53, ml54, ml55, ml56, ml57⟩, ⟨mr0, mr2, mr7, mr16, mr17, mr18, mr20, mr22, mr24, mr25, mr26, mr27⟩⟩ := lm
  obtain ⟨⟨wg1, wg2, wg3, wg4, wg5, wg6, wg7, wg8⟩, wmen, wtp, wsm⟩ := wm
  have e46 : ∀ b, setB h 51 48 (rdM (h 46)) 46 b = h 46 b := fun b => setB_n (by omega)
  intro n
  induction n with
  | zero =>
    intro i hi
    refine r_iload 13 dX4_count_11 rfl rfl ?_
    refine r_aload_n 14 dX4_count_13 rfl rfl ?_
    refine r_getR 17 dX4_count_14 rfl kf_4_7 rfl (by first | assumption | omega) (by assumption) (by assumption) ?_
    refine r_bipush 19 dX4_count_17 rfl rfl (by decide) ?_
    refine r_iald 20 dX4_count_19 rfl (by first | assumption | omega) (by assumption) (by first | omega | (simp only [Int.toNat_natCast]; omega)) (by first | omega | (simp only [Int.toNat_natCast]; omega)) ?_
    try simp only [Int.toNat_natCast, tq_4, tq_8, tq_22, tq_27, tq_99, tq_a, tl_0, tl_1, tl_20, tl_21, tl_22, tl_32]
    rotate_left -- leaf: pc 20
    rw [e46]
    refine r_icmp_ge 42 23 dX4_count_20 (by decide) rfl (fun c_20 => ?_) (fun c_20 => ?_)
    rotate_left -- leaf: pc 42
    rotate_left -- leaf: pc 23
    · rw [show (h 46 32).toNat = i by omega, show h 46 32 = (i : Int) by omega] at hΦ
      exact hΦ
    · omega
  | succ n ih =>
    intro i hi
    have hs := sumF_inN (f := fun i => h 46 (27 + i)) (B := 9) 5 wg7 i (by omega)
    have hs2 := wg7 i (by omega)
    refine r_iload 13 dX4_count_11 rfl rfl ?_
    refine r_aload_n 14 dX4_count_13 rfl rfl ?_
    refine r_getR 17 dX4_count_14 rfl kf_4_7 rfl (by first | assumption | omega) (by assumption) (by assumption) ?_
    refine r_bipush 19 dX4_count_17 rfl rfl (by decide) ?_
    refine r_iald 20 dX4_count_19 rfl (by first | assumption | omega) (by assumption) (by first | omega | (simp only [Int.toNat_natCast]; omega)) (by first | omega | (simp only [Int.toNat_natCast]; omega)) ?_
    try simp only [Int.toNat_natCast, tq_4, tq_8, tq_22, tq_27, tq_99, tq_a, tl_0, tl_1, tl_20, tl_21, tl_22, tl_32]
    rotate_left -- leaf: pc 20
    rw [e46]
    refine r_icmp_ge 42 23 dX4_count_20 (by decide) rfl (fun c_20 => ?_) (fun c_20 => ?_)
    rotate_left -- leaf: pc 42
    refine r_iload_n 24 dX4_count_23 rfl rfl ?_
    refine r_aload_n 25 dX4_count_24 rfl rfl ?_
    refine r_getR 28 dX4_count_25 rfl kf_4_7 rfl (by first | assumption | omega) (by assumption) (by assumption) ?_
    refine r_bipush 30 dX4_count_28 rfl rfl (by decide) ?_
    refine r_iload 32 dX4_count_30 rfl rfl ?_
    refine r_iadd 33 dX4_count_32 rfl (by first | exact w32_id (by omega) (by omega) | rfl) ?_
    refine r_iald 34 dX4_count_33 rfl (by first | assumption | omega) (by assumption) (by first | omega | (simp only [Int.toNat_natCast]; omega)) (by first | omega | (simp only [Int.toNat_natCast]; omega)) ?_
    try simp only [Int.toNat_natCast, tq_4, tq_8, tq_22, tq_27, tq_99, tq_a, tl_0, tl_1, tl_20, tl_21, tl_22, tl_32]
    rotate_left -- leaf: pc 34
    · omega
    rw [e46]
    refine r_iadd 35 dX4_count_34 rfl (by first | exact w32_id (by omega) (by omega) | rfl) ?_
    refine r_istore_n 36 dX4_count_35 rfl rfl rfl ?_
    refine r_iinc 39 _ dX4_count_36 rfl rfl rfl rfl (by first | exact w32_id (by omega) (by omega) | rfl) ?_
    refine r_goto 11 dX4_count_39 (by decide) ?_
    rotate_left -- leaf: pc 11
    exact ih (i + 1) (by omega)
theorem l_count2 (lm : LM G) (x wo : Int) {Φ : Option zV → zH → Prop} (hΦ : Rr l G 4 mX4_count Φ 78 [some (vR 45), some (vI x), some (vI wo), some (vI (sumF (fun q => if rdM (h 46) q = -4 then 0 else 1) 48)), some (vI 48)] [] (setB h 51 48 (rdM (h 46)))) : ∀ (n q : Nat), q + n = 48 → Rr l G 4 mX4_count Φ 45 [some (vR 45), some (vI x), some (vI wo), some (vI (sumF (fun q => if rdM (h 46) q = -4 then 0 else 1) q)), some (vI q)] [] (setB h 51 48 (rdM (h 46))) := by
  obtain ⟨hN, ⟨ms45, ms46, ms47, ms48, ms49, ms50, ms51, ms52, ms53, ms54, ms55, ms56, ms57⟩, ⟨ml46, ml47, ml48, ml49, ml50, ml51, ml52, ml53, ml54, ml55, ml56, ml57⟩, ⟨mr0, mr2, mr7, mr16, mr17, mr18, mr20, mr22, mr24, mr25, mr26, mr27⟩⟩ := lm
  intro n
  induction n with
  | zero =>
    intro q hq
    obtain rfl : q = 48 := by omega
    refine r_iload 47 dX4_count_45 rfl rfl ?_
    refine r_bipush 49 dX4_count_47 rfl rfl (by decide) ?_
    refine r_icmp_ge 78 52 dX4_count_49 (by decide) rfl (fun c_49 => ?_) (fun c_49 => ?_)
    rotate_left -- leaf: pc 78
    rotate_left -- leaf: pc 52
    · exact hΦ
    · omega
  | succ n ih =>
    intro q hq
    have ih := ih (q + 1) (by omega)
    have hs := sumF_in (f := fun q => if rdM (h 46) q = -4 then 0 else 1) (B := 1) (fun i => by split <;> omega) q
    have e : setB h 51 48 (rdM (h 46)) 51 q = rdM (h 46) q := setB_i (by omega)
    simp only [sumF] at ih
    refine r_iload 47 dX4_count_45 rfl rfl ?_
    refine r_bipush 49 dX4_count_47 rfl rfl (by decide) ?_
    refine r_icmp_ge 78 52 dX4_count_49 (by decide) rfl (fun c_49 => ?_) (fun c_49 => ?_)
    rotate_left -- leaf: pc 78
    refine r_iload_n 53 dX4_count_52 rfl rfl ?_
    refine r_aload_n 54 dX4_count_53 rfl rfl ?_
    refine r_getR 57 dX4_count_54 rfl kf_4_25 rfl (by first | assumption | omega) (by assumption) (by assumption) ?_
    refine r_iload 59 dX4_count_57 rfl rfl ?_
    refine r_iald 60 dX4_count_59 rfl (by first | assumption | omega) (by assumption) (by first | omega | (simp only [Int.toNat_natCast]; omega)) (by first | omega | (simp only [Int.toNat_natCast]; omega)) ?_
    try simp only [Int.toNat_natCast, tq_4, tq_8, tq_22, tq_27, tq_99, tq_a, tl_0, tl_1, tl_20, tl_21, tl_22, tl_32]
    rotate_left -- leaf: pc 60
    · omega
    rw [e]
    refine r_bipush 62 dX4_count_60 rfl rfl (by decide) ?_
    refine r_icmp_ne 69 65 dX4_count_62 (by decide) rfl (fun c_62 => ?_) (fun c_62 => ?_)
    refine r_iconst 70 dX4_count_69 rfl rfl ?_
    refine r_iadd 71 dX4_count_70 rfl (by first | exact w32_id (by omega) (by omega) | rfl) ?_
    refine r_istore_n 72 dX4_count_71 rfl rfl rfl ?_
    refine r_iinc 75 _ dX4_count_72 rfl rfl rfl rfl (by first | exact w32_id (by omega) (by omega) | rfl) ?_
    refine r_goto 45 dX4_count_75 (by decide) ?_
    rotate_left -- leaf: pc 45
    refine r_iconst 66 dX4_count_65 rfl rfl ?_
    refine r_goto 70 dX4_count_66 (by decide) ?_
    refine r_iadd 71 dX4_count_70 rfl (by first | exact w32_id (by omega) (by omega) | rfl) ?_
    refine r_istore_n 72 dX4_count_71 rfl rfl rfl ?_
    refine r_iinc 75 _ dX4_count_72 rfl rfl rfl rfl (by first | exact w32_id (by omega) (by omega) | rfl) ?_
    refine r_goto 45 dX4_count_75 (by decide) ?_
    rotate_left -- leaf: pc 45
    · rw [if_neg c_62] at ih
      exact ih
    · rw [if_pos c_62] at ih
      exact ih
theorem m_count (lm : LM G) (wm : wM h) (wk : ∀ j, h 54 j = 0 ∨ h 54 j = 1) (x : Int) : Ca l G 4 mX4_count [vR 45, vI x] h (fun r h' => r = some (vI (nCount x h)) ∧ scm h h') := by
  have lm0 := lm
  have wm0 := wm
  obtain ⟨hN, ⟨ms45, ms46, ms47, ms48, ms49, ms50, ms51, ms52, ms53, ms54, ms55, ms56, ms57⟩, ⟨ml46, ml47, ml48, ml49, ml50, ml51, ml52, ml53, ml54, ml55, ml56, ml57⟩, ⟨mr0, mr2, mr7, mr16, mr17, mr18, mr20, mr22, mr24, mr25, mr26, mr27⟩⟩ := lm
  obtain ⟨⟨wg1, wg2, wg3, wg4, wg5, wg6, wg7, wg8⟩, wmen, wtp, wsm⟩ := wm
  have eo : ∀ a b, a ≠ 51 → setB h 51 48 (rdM (h 46)) a b = h a b := fun a b q => setB_n q
  have k0 := wk 0
  have k1 := wk 1
  refine Ca.of (by decide) (Nat.le_of_ble_eq_true rfl) (fun hI hv hH => ?_)
  refine r_iconst 1 dX4_count_0 rfl rfl ?_
  refine r_istore_n 2 dX4_count_1 rfl rfl rfl ?_
  refine r_iconst 3 dX4_count_2 rfl rfl ?_
  refine r_istore_n 4 dX4_count_3 rfl rfl rfl ?_
  refine r_aload_n 5 dX4_count_4 rfl rfl ?_
  rotate_left -- leaf: call at pc 5
  refine r_cv0 8 dX4_count_5 rfl kv_4_149 (by first | assumption | omega) (by assumption) rfl rfl (m_lays lm0 wm0.1) ?_
  rintro r h' ⟨rfl, rfl⟩
  refine r_iconst 9 dX4_count_8 rfl rfl ?_
  refine r_istore 11 dX4_count_9 rfl rfl rfl ?_
  rotate_left -- leaf: pc 11
  refine l_count1 (l := l) lm0 wm0 x ?_ (h 46 32).toNat 0 (by omega)
  refine r_iconst 43 dX4_count_42 rfl rfl ?_
  refine r_istore 45 dX4_count_43 rfl rfl rfl ?_
  rotate_left -- leaf: pc 45
  refine l_count2 (l := l) lm0 x _ ?_ 48 0 rfl
  refine r_iload_n 79 dX4_count_78 rfl rfl ?_
  by_cases k0' : x = 0
  · subst k0'
    refine r_tabIn 116 dX4_count_79 (by decide) (by decide) rfl (by decide) ?_
    refine r_aload_n 117 dX4_count_116 rfl rfl ?_
    refine r_getI 120 dX4_count_117 rfl kf_4_131 rfl (by first | assumption | omega) (by assumption) ?_
    refine r_iret dX4_count_120 rfl ?_
    rotate_left -- leaf: return at pc 120
    exact ⟨by rw [eo _ _ (by omega)]; rfl, eo⟩
  by_cases k1' : x = 1
  · subst k1'
    refine r_tabIn 121 dX4_count_79 (by decide) (by decide) rfl (by decide) ?_
    refine r_aload_n 122 dX4_count_121 rfl rfl ?_
    refine r_getR 125 dX4_count_122 rfl kf_4_34 rfl (by first | assumption | omega) (by assumption) (by assumption) ?_
    refine r_iconst 126 dX4_count_125 rfl rfl ?_
    first | refine r_bald 127 dX4_count_126 rfl (by first | assumption | omega) (by assumption) (by first | omega | (simp only [Int.toNat_natCast]; omega)) (by first | omega | (simp only [Int.toNat_natCast]; omega)) ?_ | refine r_zald 127 dX4_count_126 rfl (by first | assumption | omega) (by assumption) (by first | omega | (simp only [Int.toNat_natCast]; omega)) (by first | omega | (simp only [Int.toNat_natCast]; omega)) ?_
    try simp only [Int.toNat_natCast, tq_4, tq_8, tq_22, tq_27, tq_99, tq_a, tl_0, tl_1, tl_20, tl_21, tl_22, tl_32]
    rotate_left -- leaf: pc 127
    rw [eo _ _ (by omega)]
    refine r_if_eq 134 130 dX4_count_127 (by decide) rfl (fun c_127 => ?_) (fun c_127 => ?_)
    refine r_iconst 135 dX4_count_134 rfl rfl ?_
    refine r_aload_n 136 dX4_count_135 rfl rfl ?_
    refine r_getR 139 dX4_count_136 rfl kf_4_34 rfl (by first | assumption | omega) (by assumption) (by assumption) ?_
    refine r_iconst 140 dX4_count_139 rfl rfl ?_
    first | refine r_bald 141 dX4_count_140 rfl (by first | assumption | omega) (by assumption) (by first | omega | (simp only [Int.toNat_natCast]; omega)) (by first | omega | (simp only [Int.toNat_natCast]; omega)) ?_ | refine r_zald 141 dX4_count_140 rfl (by first | assumption | omega) (by assumption) (by first | omega | (simp only [Int.toNat_natCast]; omega)) (by first | omega | (simp only [Int.toNat_natCast]; omega)) ?_
    try simp only [Int.toNat_natCast, tq_4, tq_8, tq_22, tq_27, tq_99, tq_a, tl_0, tl_1, tl_20, tl_21, tl_22, tl_32]
    rotate_left -- leaf: pc 141
    refine r_iconst 131 dX4_count_130 rfl rfl ?_
    refine r_goto 135 dX4_count_131 (by decide) ?_
    refine r_aload_n 136 dX4_count_135 rfl rfl ?_
    refine r_getR 139 dX4_count_136 rfl kf_4_34 rfl (by first | assumption | omega) (by assumption) (by assumption) ?_
    refine r_iconst 140 dX4_count_139 rfl rfl ?_
    first | refine r_bald 141 dX4_count_140 rfl (by first | assumption | omega) (by assumption) (by first | omega | (simp only [Int.toNat_natCast]; omega)) (by first | omega | (simp only [Int.toNat_natCast]; omega)) ?_ | refine r_zald 141 dX4_count_140 rfl (by first | assumption | omega) (by assumption) (by first | omega | (simp only [Int.toNat_natCast]; omega)) (by first | omega | (simp only [Int.toNat_natCast]; omega)) ?_
    try simp only [Int.toNat_natCast, tq_4, tq_8, tq_22, tq_27, tq_99, tq_a, tl_0, tl_1, tl_20, tl_21, tl_22, tl_32]
    rotate_left -- leaf: pc 141
    · rw [eo _ _ (by omega)]
      refine r_if_eq 148 144 dX4_count_141 (by decide) rfl (fun c_141 => ?_) (fun c_141 => ?_)
      refine r_iconst 149 dX4_count_148 rfl rfl ?_
      refine r_iadd 150 dX4_count_149 rfl (by first | exact w32_id (by omega) (by omega) | rfl) ?_
      refine r_iret dX4_count_150 rfl ?_
      rotate_left -- leaf: return at pc 150
      refine r_iconst 145 dX4_count_144 rfl rfl ?_
      refine r_goto 149 dX4_count_145 (by decide) ?_
      refine r_iadd 150 dX4_count_149 rfl (by first | exact w32_id (by omega) (by omega) | rfl) ?_
      refine r_iret dX4_count_150 rfl ?_
      rotate_left -- leaf: return at pc 150
      · exact ⟨by simp [nCount, c_127, c_141], eo⟩
      · exact ⟨by simp [nCount, c_127, k1.resolve_left c_141], eo⟩
    · rw [eo _ _ (by omega)]
      refine r_if_eq 148 144 dX4_count_141 (by decide) rfl (fun c_141 => ?_) (fun c_141 => ?_)
      refine r_iconst 149 dX4_count_148 rfl rfl ?_
      refine r_iadd 150 dX4_count_149 rfl (by first | exact w32_id (by omega) (by omega) | rfl) ?_
      refine r_iret dX4_count_150 rfl ?_
      rotate_left -- leaf: return at pc 150
      refine r_iconst 145 dX4_count_144 rfl rfl ?_
      refine r_goto 149 dX4_count_145 (by decide) ?_
      refine r_iadd 150 dX4_count_149 rfl (by first | exact w32_id (by omega) (by omega) | rfl) ?_
      refine r_iret dX4_count_150 rfl ?_
      rotate_left -- leaf: return at pc 150
      · exact ⟨by simp [nCount, k0.resolve_left c_127, c_141], eo⟩
      · exact ⟨by simp [nCount, k0.resolve_left c_127, k1.resolve_left c_141], eo⟩
  by_cases k2' : x = 2
  · subst k2'
    refine r_tabIn 151 dX4_count_79 (by decide) (by decide) rfl (by decide) ?_
    refine r_aload_n 152 dX4_count_151 rfl rfl ?_
    refine r_getI 155 dX4_count_152 rfl kf_4_53 rfl (by first | assumption | omega) (by assumption) ?_
    refine r_iret dX4_count_155 rfl ?_
    rotate_left -- leaf: return at pc 155
    exact ⟨by rw [eo _ _ (by omega)]; rfl, eo⟩
  by_cases k3' : x = 3
  · subst k3'
    refine r_tabIn 156 dX4_count_79 (by decide) (by decide) rfl (by decide) ?_
    refine r_aload_n 157 dX4_count_156 rfl rfl ?_
    refine r_getR 160 dX4_count_157 rfl kf_4_38 rfl (by first | assumption | omega) (by assumption) (by assumption) ?_
    refine r_iconst 161 dX4_count_160 rfl rfl ?_
    refine r_iald 162 dX4_count_161 rfl (by first | assumption | omega) (by assumption) (by first | omega | (simp only [Int.toNat_natCast]; omega)) (by first | omega | (simp only [Int.toNat_natCast]; omega)) ?_
    try simp only [Int.toNat_natCast, tq_4, tq_8, tq_22, tq_27, tq_99, tq_a, tl_0, tl_1, tl_20, tl_21, tl_22, tl_32]
    rotate_left -- leaf: pc 162
    rw [eo _ _ (by omega)]
    refine r_bipush 164 dX4_count_162 rfl rfl (by decide) ?_
    refine r_icmp_ne 172 167 dX4_count_164 (by decide) rfl (fun c_164 => ?_) (fun c_164 => ?_)
    refine r_aload_n 173 dX4_count_172 rfl rfl ?_
    refine r_getR 176 dX4_count_173 rfl kf_4_41 rfl (by first | assumption | omega) (by assumption) (by assumption) ?_
    refine r_iconst 177 dX4_count_176 rfl rfl ?_
    refine r_iald 178 dX4_count_177 rfl (by first | assumption | omega) (by assumption) (by first | omega | (simp only [Int.toNat_natCast]; omega)) (by first | omega | (simp only [Int.toNat_natCast]; omega)) ?_
    try simp only [Int.toNat_natCast, tq_4, tq_8, tq_22, tq_27, tq_99, tq_a, tl_0, tl_1, tl_20, tl_21, tl_22, tl_32]
    refine r_iret dX4_count_178 rfl ?_
    rotate_left -- leaf: return at pc 178
    refine r_bipush 169 dX4_count_167 rfl rfl (by decide) ?_
    refine r_goto 178 dX4_count_169 (by decide) ?_
    refine r_iret dX4_count_178 rfl ?_
    rotate_left -- leaf: return at pc 178
    · exact ⟨by rw [eo _ _ (by omega)]; simp [nCount, c_164], eo⟩
    · exact ⟨by simp [nCount, c_164], eo⟩
  by_cases k4' : x = 4
  · subst k4'
    refine r_tabIn 179 dX4_count_79 (by decide) (by decide) rfl (by decide) ?_
    refine r_iload_n 180 dX4_count_179 rfl rfl ?_
    refine r_iret dX4_count_180 rfl ?_
    rotate_left -- leaf: return at pc 180
    exact ⟨rfl, eo⟩
  by_cases k5' : x = 5
  · subst k5'
    refine r_tabIn 181 dX4_count_79 (by decide) (by decide) rfl (by decide) ?_
    refine r_iload_n 182 dX4_count_181 rfl rfl ?_
    refine r_iret dX4_count_182 rfl ?_
    rotate_left -- leaf: return at pc 182
    exact ⟨rfl, eo⟩
  · refine r_tabOut 183 dX4_count_79 (by omega) (by decide) ?_
    refine r_iconst 184 dX4_count_183 rfl rfl ?_
    refine r_iret dX4_count_184 rfl ?_
    rotate_left -- leaf: return at pc 184
    exact ⟨by simp [nCount, k0', k1', k2', k3', k4', k5'], eo⟩
/-- written over: the readings, the least; the page aside -/
def scq (h h' : zH) : Prop := ∀ a b, a ≠ 51 → ¬ (a = 45 ∧ b = 19) → ¬ (a = 46 ∧ 99 ≤ b ∧ b < 132) → h' a b = h a b
theorem up_pg {H : zH} {j : Nat} {v : Int} : up H 46 j v 46 = up1 (H 46) j v := by
  funext b
  unfold up up1
  simp
theorem wPg_cong {p q : Nat → Int} (e : ∀ j, j < 33 → p j = q j) (w : wPg q) : wPg p := by
  obtain ⟨w1, w2, w3, w4, w5, w6, w7, w8⟩ := w
  exact ⟨fun j hj => by rw [e j (by omega)]; exact w1 j hj, fun j hj => by rw [e _ (by omega)]; exact w2 j hj, fun j hj => by rw [e _ (by omega)]; exact w3 j hj, by rw [e 20 (by omega)]; exact w4, by rw [e 21 (by omega)]; exact w5, fun j hj => by rw [e _ (by omega)]; exact w6 j hj, fun j hj => by rw [e _ (by omega)]; exact w7 j hj, by rw [e 32 (by omega)]; exact w8⟩
theorem wPg_up21 {pg : Nat → Int} {v : Int} (w : wPg pg) (hv : -3 ≤ v ∧ v ≤ 3) : wPg (up1 pg 21 v) := by
  obtain ⟨w1, w2, w3, w4, w5, w6, w7, w8⟩ := w
  exact ⟨fun j hj => by rw [up1_n (by omega)]; exact w1 j hj, fun j hj => by rw [up1_n (by omega)]; exact w2 j hj, fun j hj => by rw [up1_n (by omega)]; exact w3 j hj, by rw [up1_n (by omega)]; exact w4, by rw [up1_s]; exact hv, fun j hj => by rw [up1_n (by omega)]; exact w6 j hj, fun j hj => by rw [up1_n (by omega)]; exact w7 j hj, by rw [up1_n (by omega)]; exact w8⟩
theorem wPg_up8 {pg : Nat → Int} {j : Nat} {v : Int} (hj : j < 12) (w : wPg pg) (hv : 0 ≤ v ∧ v ≤ 4) : wPg (up1 pg (8 + j) v) := by
  obtain ⟨w1, w2, w3, w4, w5, w6, w7, w8⟩ := w
  exact ⟨fun i hi => by rw [up1_n (by omega)]; exact w1 i hi, fun i hi => by rw [up1_n (by omega)]; exact w2 i hi, fun i hi => by
    by_cases e : i = j
    · subst e; rw [up1_s]; exact hv
    · rw [up1_n (by omega)]; exact w3 i hi, by rw [up1_n (by omega)]; exact w4, by rw [up1_n (by omega)]; exact w5, fun i hi => by rw [up1_n (by omega)]; exact w6 i hi, fun i hi => by rw [up1_n (by omega)]; exact w7 i hi, by rw [up1_n (by omega)]; exact w8⟩
def mkM (h : zH) (v : Nat) : Int := hmM (up1 (h 46) 21 ((v : Int) - 3))
def nMark (x : Int) (h : zH) : Int := if ¬ (0 ≤ x ∧ x ≤ 1) then -1 else if x = 0 then (miF (mkM h) 0 1000000 7).1 else (miF (mkM h) 0 1000000 7).2
theorem l_mmark (lm : LM G) (wm : wM h) (x : Int) {Φ : Option zV → zH → Prop} (hΦ : ∀ h', scq h h' → Φ (some (vI (if x = 0 then (miF (mkM h) 0 1000000 7).1 else (miF (mkM h) 0 1000000 7).2))) h') : ∀ (n j : Nat) (H : zH), j + n = 7 → (∀ a b, a ≠ 51 → ¬ (a = 45 ∧ b = 19) → ¬ (a = 46 ∧ b = 21) → H a b = h a b) → H 45 19 = (miF (mkM h) 0 1000000 j).2 → Rr l G 5 mX4_mark Φ 31 [some (vR 45), some (vI x), some (vI (h 46 21)), some (vI (miF (mkM h) 0 1000000 j).1), some (vI j)] [] H := by
  have lm0 := lm
  obtain ⟨hN, ⟨ms45, ms46, ms47, ms48, ms49, ms50, ms51, ms52, ms53, ms54, ms55, ms56, ms57⟩, ⟨ml46, ml47, ml48, ml49, ml50, ml51, ml52, ml53, ml54, ml55, ml56, ml57⟩, ⟨mr0, mr2, mr7, mr16, mr17, mr18, mr20, mr22, mr24, mr25, mr26, mr27⟩⟩ := lm
  have wm1 := wm.1
  intro n
  induction n with
  | zero =>
    intro j H hj he hl
    obtain rfl : j = 7 := by omega
    have hΦ := hΦ (up H 46 21 (h 46 21)) (fun a b q1 q2 q3 => by
      by_cases e : a = 46 ∧ b = 21
      · obtain ⟨rfl, rfl⟩ := e; rw [up_s]
      · rw [up_n e]; exact he a b q1 q2 e)
    refine r_iload 33 dX4_mark_31 rfl rfl ?_
    refine r_bipush 35 dX4_mark_33 rfl rfl (by decide) ?_
    refine r_icmp_gt 73 38 dX4_mark_35 (by decide) rfl (fun c_35 => ?_) (fun c_35 => ?_)
    refine r_aload_n 74 dX4_mark_73 rfl rfl ?_
    refine r_getR 77 dX4_mark_74 rfl kf_4_7 rfl (by first | assumption | omega) (by assumption) (by assumption) ?_
    refine r_bipush 79 dX4_mark_77 rfl rfl (by decide) ?_
    refine r_iload_n 80 dX4_mark_79 rfl rfl ?_
    refine r_iast 81 dX4_mark_80 rfl (by first | assumption | omega) (by assumption) (by first | omega | (simp only [Int.toNat_natCast]; omega)) (by first | omega | (simp only [Int.toNat_natCast]; omega)) ?_
    try simp only [Int.toNat_natCast, tq_4, tq_8, tq_22, tq_27, tq_99, tq_a, tl_0, tl_1, tl_20, tl_21, tl_22, tl_32]
    refine r_iload_n 82 dX4_mark_81 rfl rfl ?_
    refine r_if_ne 89 85 dX4_mark_82 (by decide) rfl (fun c_82 => ?_) (fun c_82 => ?_)
    refine r_aload_n 90 dX4_mark_89 rfl rfl ?_
    refine r_getI 93 dX4_mark_90 rfl kf_4_189 rfl (by first | assumption | omega) (by assumption) ?_
    refine r_iret dX4_mark_93 rfl ?_
    rotate_left -- leaf: return at pc 93
    refine r_iload_n 86 dX4_mark_85 rfl rfl ?_
    refine r_goto 93 dX4_mark_86 (by decide) ?_
    refine r_iret dX4_mark_93 rfl ?_
    rotate_left -- leaf: return at pc 93
    rotate_left -- leaf: pc 38
    · rw [if_neg c_82] at hΦ
      rw [up_k (by omega), hl]
      exact hΦ
    · rw [if_pos c_82] at hΦ
      exact hΦ
    · omega
  | succ n ih =>
    intro j H hj he hl
    have epg : up H 46 21 ((j : Int) - 3) 46 = up1 (h 46) 21 ((j : Int) - 3) := by
      rw [up_pg]
      funext b
      unfold up1
      split
      · rfl
      · exact he 46 b (by omega) (by omega) (by omega)
    refine r_iload 33 dX4_mark_31 rfl rfl ?_
    refine r_bipush 35 dX4_mark_33 rfl rfl (by decide) ?_
    refine r_icmp_gt 73 38 dX4_mark_35 (by decide) rfl (fun c_35 => ?_) (fun c_35 => ?_)
    rotate_left -- leaf: pc 73
    refine r_aload_n 39 dX4_mark_38 rfl rfl ?_
    refine r_getR 42 dX4_mark_39 rfl kf_4_7 rfl (by first | assumption | omega) (by assumption) (by assumption) ?_
    refine r_bipush 44 dX4_mark_42 rfl rfl (by decide) ?_
    refine r_iload 46 dX4_mark_44 rfl rfl ?_
    refine r_iconst 47 dX4_mark_46 rfl rfl ?_
    refine r_isub 48 dX4_mark_47 rfl (by first | exact w32_id (by omega) (by omega) | rfl) ?_
    refine r_iast 49 dX4_mark_48 rfl (by first | assumption | omega) (by assumption) (by first | omega | (simp only [Int.toNat_natCast]; omega)) (by first | omega | (simp only [Int.toNat_natCast]; omega)) ?_
    try simp only [Int.toNat_natCast, tq_4, tq_8, tq_22, tq_27, tq_99, tq_a, tl_0, tl_1, tl_20, tl_21, tl_22, tl_32]
    refine r_aload_n 50 dX4_mark_49 rfl rfl ?_
    refine r_aload_n 51 dX4_mark_50 rfl rfl ?_
    rotate_left -- leaf: call at pc 51
    · omega
    refine r_cv0 54 dX4_mark_51 rfl kv_4_158 (by first | assumption | omega) (by assumption) rfl rfl (m_harm lm0 (by rw [epg]; exact wPg_up21 wm1 (by omega))) ?_
    rintro r h' ⟨rfl, rfl⟩
    rw [epg]
    have ev : hmM (up1 (h 46) 21 ((j : Int) - 3)) = mkM h j := rfl
    rw [ev]
    have el : setB (up H 46 21 ((j : Int) - 3)) 51 48 (rdM (up1 (h 46) 21 ((j : Int) - 3))) 45 19 = (miF (mkM h) 0 1000000 j).2 := by rw [setB_n (by omega), up_k (by omega)]; exact hl
    have eo : ∀ a b, a ≠ 51 → ¬ (a = 45 ∧ b = 19) → ¬ (a = 46 ∧ b = 21) → setB (up H 46 21 ((j : Int) - 3)) 51 48 (rdM (up1 (h 46) 21 ((j : Int) - 3))) a b = h a b := fun a b q1 q2 q3 => by rw [setB_n q1, up_n q3]; exact he a b q1 q2 q3
    refine r_cv1 57 dX4_mark_54 rfl kv_4_193 (by first | assumption | omega) (by assumption) rfl rfl (m_isLess lm0 (mkM h j)) ?_
    rintro r h'' (⟨q1, rfl, rfl⟩ | ⟨q1, rfl, rfl⟩)
    · rw [el] at q1
      refine r_if_eq 65 60 dX4_mark_57 (by decide) rfl (fun c_57 => ?_) (fun c_57 => ?_)
      refine r_iload_n 66 dX4_mark_65 rfl rfl ?_
      refine r_istore_n 67 dX4_mark_66 rfl rfl rfl ?_
      refine r_iinc 70 _ dX4_mark_67 rfl rfl rfl rfl (by first | exact w32_id (by omega) (by omega) | rfl) ?_
      refine r_goto 31 dX4_mark_70 (by decide) ?_
      rotate_left -- leaf: pc 31
      refine r_iload 62 dX4_mark_60 rfl rfl ?_
      refine r_goto 66 dX4_mark_62 (by decide) ?_
      refine r_istore_n 67 dX4_mark_66 rfl rfl rfl ?_
      refine r_iinc 70 _ dX4_mark_67 rfl rfl rfl rfl (by first | exact w32_id (by omega) (by omega) | rfl) ?_
      refine r_goto 31 dX4_mark_70 (by decide) ?_
      rotate_left -- leaf: pc 31
      · omega
      · have := ih (j + 1) (up (setB (up H 46 21 ((j : Int) - 3)) 51 48 (rdM (up1 (h 46) 21 ((j : Int) - 3)))) 45 19 (mkM h j)) (by omega) (fun a b z1 z2 z3 => by rw [up_n z2]; exact eo a b z1 z2 z3) (by rw [up_s]; simp only [miF]; rw [if_pos q1])
        simp only [miF] at this
        rw [if_pos q1] at this
        exact this
    · rw [el] at q1
      refine r_if_eq 65 60 dX4_mark_57 (by decide) rfl (fun c_57 => ?_) (fun c_57 => ?_)
      refine r_iload_n 66 dX4_mark_65 rfl rfl ?_
      refine r_istore_n 67 dX4_mark_66 rfl rfl rfl ?_
      refine r_iinc 70 _ dX4_mark_67 rfl rfl rfl rfl (by first | exact w32_id (by omega) (by omega) | rfl) ?_
      refine r_goto 31 dX4_mark_70 (by decide) ?_
      rotate_left -- leaf: pc 31
      refine r_iload 62 dX4_mark_60 rfl rfl ?_
      refine r_goto 66 dX4_mark_62 (by decide) ?_
      refine r_istore_n 67 dX4_mark_66 rfl rfl rfl ?_
      refine r_iinc 70 _ dX4_mark_67 rfl rfl rfl rfl (by first | exact w32_id (by omega) (by omega) | rfl) ?_
      refine r_goto 31 dX4_mark_70 (by decide) ?_
      rotate_left -- leaf: pc 31
      · have := ih (j + 1) _ (by omega) eo (by rw [el]; simp only [miF]; rw [if_neg (by omega)])
        simp only [miF] at this
        rw [if_neg (by omega)] at this
        exact this
      · omega
theorem m_mark (lm : LM G) (wm : wM h) (x : Int) : Ca l G 5 mX4_mark [vR 45, vI x] h (fun r h' => r = some (vI (nMark x h)) ∧ scq h h') := by
  have lm0 := lm
  have wm0 := wm
  obtain ⟨hN, ⟨ms45, ms46, ms47, ms48, ms49, ms50, ms51, ms52, ms53, ms54, ms55, ms56, ms57⟩, ⟨ml46, ml47, ml48, ml49, ml50, ml51, ml52, ml53, ml54, ml55, ml56, ml57⟩, ⟨mr0, mr2, mr7, mr16, mr17, mr18, mr20, mr22, mr24, mr25, mr26, mr27⟩⟩ := lm
  refine Ca.of (by decide) (Nat.le_of_ble_eq_true rfl) (fun hI hv hH => ?_)
  unfold nMark
  refine r_iload_n 1 dX4_mark_0 rfl rfl ?_
  refine r_i2l 2 dX4_mark_1 rfl ?_
  refine r_lconst 3 dX4_mark_2 rfl 0 rfl (by decide) ?_
  refine r_lconst 4 dX4_mark_3 rfl 1 rfl (by decide) ?_
  rotate_left -- leaf: call at pc 4
  refine r_cs3 7 dX4_mark_4 rfl ks_4_49 rfl rfl (c_in x 0 1) ?_
  rintro r h' ⟨rfl, rfl⟩
  refine r_if_ne 12 10 dX4_mark_7 (by decide) rfl (fun c_7 => ?_) (fun c_7 => ?_)
  refine r_aload_n 13 dX4_mark_12 rfl rfl ?_
  refine r_getR 16 dX4_mark_13 rfl kf_4_7 rfl (by first | assumption | omega) (by assumption) (by assumption) ?_
  refine r_bipush 18 dX4_mark_16 rfl rfl (by decide) ?_
  refine r_iald 19 dX4_mark_18 rfl (by first | assumption | omega) (by assumption) (by first | omega | (simp only [Int.toNat_natCast]; omega)) (by first | omega | (simp only [Int.toNat_natCast]; omega)) ?_
  try simp only [Int.toNat_natCast, tq_4, tq_8, tq_22, tq_27, tq_99, tq_a, tl_0, tl_1, tl_20, tl_21, tl_22, tl_32]
  refine r_istore_n 20 dX4_mark_19 rfl rfl rfl ?_
  refine r_iconst 21 dX4_mark_20 rfl rfl ?_
  refine r_istore_n 22 dX4_mark_21 rfl rfl rfl ?_
  refine r_aload_n 23 dX4_mark_22 rfl rfl ?_
  refine r_ldc 25 (1000000) dX4_mark_23 rfl kq_4_192 rfl ?_
  refine r_putI 28 dX4_mark_25 rfl kf_4_189 rfl rfl (Or.inl rfl) (by first | assumption | omega) (by assumption) ?_
  refine r_iconst 29 dX4_mark_28 rfl rfl ?_
  refine r_istore 31 dX4_mark_29 rfl rfl rfl ?_
  rotate_left -- leaf: pc 31
  refine r_iconst 11 dX4_mark_10 rfl rfl ?_
  refine r_iret dX4_mark_11 rfl ?_
  rotate_left -- leaf: return at pc 11
  · rw [if_neg (fun z => z (z01_y.mp c_7))]
    exact l_mmark (l := l) lm0 wm0 x (Φ := fun r h'' => r = some (vI (if x = 0 then (miF (mkM h') 0 1000000 7).1 else (miF (mkM h') 0 1000000 7).2)) ∧ scq h' h'') (fun h3 q => ⟨rfl, q⟩) 7 0 _ rfl (fun a b _ q2 _ => up_n q2) up_s
  · rw [if_pos (z01_n.mp c_7)]
    exact ⟨rfl, fun _ _ _ _ _ => rfl⟩
end MO
