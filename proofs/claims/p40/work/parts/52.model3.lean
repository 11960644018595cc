/-! SunPointerModel: what is changed -/
section MO
variable {l : Launch} {G : zG} {h : zH}
def nRule (x : Int) (h : zH) : Int := if x = 0 then h 45 1 else if x = 1 then h 46 32 else if x = 2 then h 46 21 + 3 else if x = 3 then h 46 20 else if x = 4 then orN (hoB (h 46) (-4)) 12 else if x = 5 then hmM (h 46) else -1
/-- only the row of readings is written over -/
def scm (h h' : zH) : Prop := ∀ a b, a ≠ 51 → h' a b = h a b
theorem m_rule (lm : LM G) (wm : wM h) (x : Int) : Ca l G 5 mX4_rule [vR 45, vI x] h (fun r h' => r = some (vI (nRule x h)) ∧ scm h h') := by
  have lm0 := lm
  have wm0 := wm
  obtain ⟨hN, ⟨ms45, ms46, ms47, ms48, ms49, ms50, ms51, ms52, ms53, ms54, ms55, ms56, ms57⟩, ⟨ml46, ml47, ml48, ml49, ml50, ml51, ml52, ml53, ml54, ml55, ml56, ml57⟩, ⟨mr0, mr2, mr7, mr16, mr17, mr18, mr20, mr22, mr24, mr25, mr26, mr27⟩⟩ := lm
  obtain ⟨⟨wg1, wg2, wg3, wg4, wg5, wg6, wg7, wg8⟩, wmen, wtp, wsm⟩ := wm
  refine Ca.of (by decide) (Nat.le_of_ble_eq_true rfl) (fun hI hv hH => ?_)
  refine r_iload_n 1 dX4_rule_0 rfl rfl ?_
  by_cases k0 : x = 0
  · subst k0
    refine r_tabIn 40 dX4_rule_1 (by decide) (by decide) rfl (by decide) ?_
    refine r_aload_n 41 dX4_rule_40 rfl rfl ?_
    refine r_getI 44 dX4_rule_41 rfl kf_4_128 rfl (by first | assumption | omega) (by assumption) ?_
    refine r_iret dX4_rule_44 rfl ?_
    rotate_left -- leaf: return at pc 44
    exact ⟨rfl, fun _ _ _ => rfl⟩
  by_cases k1 : x = 1
  · subst k1
    refine r_tabIn 45 dX4_rule_1 (by decide) (by decide) rfl (by decide) ?_
    refine r_aload_n 46 dX4_rule_45 rfl rfl ?_
    refine r_getR 49 dX4_rule_46 rfl kf_4_7 rfl (by first | assumption | omega) (by assumption) (by assumption) ?_
    refine r_bipush 51 dX4_rule_49 rfl rfl (by decide) ?_
    refine r_iald 52 dX4_rule_51 rfl (by first | assumption | omega) (by assumption) (by first | omega | (simp only [Int.toNat_natCast]; omega)) (by first | omega | (simp only [Int.toNat_natCast]; omega)) ?_
    try simp only [Int.toNat_natCast, tq_4, tq_8, tq_22, tq_27, tq_99, tq_a, tl_0, tl_1, tl_20, tl_21, tl_22, tl_32]
    refine r_iret dX4_rule_52 rfl ?_
    rotate_left -- leaf: return at pc 52
    exact ⟨rfl, fun _ _ _ => rfl⟩
  by_cases k2 : x = 2
  · subst k2
    refine r_tabIn 53 dX4_rule_1 (by decide) (by decide) rfl (by decide) ?_
    refine r_aload_n 54 dX4_rule_53 rfl rfl ?_
    refine r_getR 57 dX4_rule_54 rfl kf_4_7 rfl (by first | assumption | omega) (by assumption) (by assumption) ?_
    refine r_bipush 59 dX4_rule_57 rfl rfl (by decide) ?_
    refine r_iald 60 dX4_rule_59 rfl (by first | assumption | omega) (by assumption) (by first | omega | (simp only [Int.toNat_natCast]; omega)) (by first | omega | (simp only [Int.toNat_natCast]; omega)) ?_
    try simp only [Int.toNat_natCast, tq_4, tq_8, tq_22, tq_27, tq_99, tq_a, tl_0, tl_1, tl_20, tl_21, tl_22, tl_32]
    refine r_iconst 61 dX4_rule_60 rfl rfl ?_
    refine r_iadd 62 dX4_rule_61 rfl (by first | exact w32_id (by omega) (by omega) | rfl) ?_
    refine r_iret dX4_rule_62 rfl ?_
    rotate_left -- leaf: return at pc 62
    exact ⟨rfl, fun _ _ _ => rfl⟩
  by_cases k3 : x = 3
  · subst k3
    refine r_tabIn 63 dX4_rule_1 (by decide) (by decide) rfl (by decide) ?_
    refine r_aload_n 64 dX4_rule_63 rfl rfl ?_
    refine r_getR 67 dX4_rule_64 rfl kf_4_7 rfl (by first | assumption | omega) (by assumption) (by assumption) ?_
    refine r_bipush 69 dX4_rule_67 rfl rfl (by decide) ?_
    refine r_iald 70 dX4_rule_69 rfl (by first | assumption | omega) (by assumption) (by first | omega | (simp only [Int.toNat_natCast]; omega)) (by first | omega | (simp only [Int.toNat_natCast]; omega)) ?_
    try simp only [Int.toNat_natCast, tq_4, tq_8, tq_22, tq_27, tq_99, tq_a, tl_0, tl_1, tl_20, tl_21, tl_22, tl_32]
    refine r_iret dX4_rule_70 rfl ?_
    rotate_left -- leaf: return at pc 70
    exact ⟨rfl, fun _ _ _ => rfl⟩
  by_cases k4 : x = 4
  · subst k4
    refine r_tabIn 71 dX4_rule_1 (by decide) (by decide) rfl (by decide) ?_
    refine r_aload_n 72 dX4_rule_71 rfl rfl ?_
    refine r_bipush 74 dX4_rule_72 rfl rfl (by decide) ?_
    rotate_left -- leaf: call at pc 74
    refine r_cv1 77 dX4_rule_74 rfl kv_4_155 (by first | assumption | omega) (by assumption) rfl rfl (m_hoursOf lm0 wg3 (-4)) ?_
    rintro r h' ⟨rfl, rfl⟩
    refine r_iret dX4_rule_77 rfl ?_
    rotate_left -- leaf: return at pc 77
    exact ⟨rfl, fun _ _ _ => rfl⟩
  by_cases k5 : x = 5
  · subst k5
    refine r_tabIn 78 dX4_rule_1 (by decide) (by decide) rfl (by decide) ?_
    refine r_aload_n 79 dX4_rule_78 rfl rfl ?_
    rotate_left -- leaf: call at pc 79
    refine r_cv0 82 dX4_rule_79 rfl kv_4_158 (by first | assumption | omega) (by assumption) rfl rfl (m_harm lm0 wm0.1) ?_
    rintro r h' ⟨rfl, rfl⟩
    refine r_iret dX4_rule_82 rfl ?_
    rotate_left -- leaf: return at pc 82
    exact ⟨rfl, fun _ _ q => setB_n q⟩
  · refine r_tabOut 83 dX4_rule_1 (by omega) (by decide) ?_
    refine r_iconst 84 dX4_rule_83 rfl rfl ?_
    refine r_iret dX4_rule_84 rfl ?_
    rotate_left -- leaf: return at pc 84
    exact ⟨by simp [nRule, k0, k1, k2, k3, k4, k5], fun _ _ _ => rfl⟩
def noF (x : Int) : Int := if x < 0 then -4 else x
def nRota (x : Int) (h : zH) : Int := if 0 ≤ x ∧ x < 12 then noF (stM (h 46) x.toNat) else -1
theorem m_rota (lm : LM G) (wm : wM h) (x : Int) : Ca l G 2 mX4_rota [vR 45, vI x] h (fun r h' => r = some (vI (nRota x h)) ∧ h' = h) := by
  have lm0 := lm
  obtain ⟨hN, ⟨ms45, ms46, ms47, ms48, ms49, ms50, ms51, ms52, ms53, ms54, ms55, ms56, ms57⟩, ⟨ml46, ml47, ml48, ml49, ml50, ml51, ml52, ml53, ml54, ml55, ml56, ml57⟩, ⟨mr0, mr2, mr7, mr16, mr17, mr18, mr20, mr22, mr24, mr25, mr26, mr27⟩⟩ := lm
  obtain ⟨⟨wg1, wg2, wg3, wg4, wg5, wg6, wg7, wg8⟩, wmen, wtp, wsm⟩ := wm
  refine Ca.of (by decide) (Nat.le_of_ble_eq_true rfl) (fun hI hv hH => ?_)
  unfold nRota
  refine r_iload_n 1 dX4_rota_0 rfl rfl ?_
  rotate_left -- leaf: call at pc 1
  refine r_cs1 4 dX4_rota_1 rfl ks_4_167 rfl rfl (m_isHour x) ?_
  rintro r h' ⟨rfl, rfl⟩
  refine r_if_eq 18 7 dX4_rota_4 (by decide) rfl (fun c_4 => ?_) (fun c_4 => ?_)
  refine r_iconst 19 dX4_rota_18 rfl rfl ?_
  refine r_iret dX4_rota_19 rfl ?_
  rotate_left -- leaf: return at pc 19
  refine r_aload_n 8 dX4_rota_7 rfl rfl ?_
  refine r_iload_n 9 dX4_rota_8 rfl rfl ?_
  rotate_left -- leaf: call at pc 9
  · rw [if_neg (z01_n.mp c_4)]
    exact ⟨rfl, rfl⟩
  · have hx := z01_y.mp c_4
    rw [if_pos hx]
    obtain ⟨x, rfl⟩ := nat_of hx.1
    refine r_cv1 12 dX4_rota_9 rfl kv_4_136 (by first | assumption | omega) (by assumption) rfl rfl (m_standsIn lm0 (wg3 0 (by omega)).1 x (by omega) (wg3 x (by omega))) ?_
    rintro r h'' ⟨rfl, rfl⟩
    refine r_cs1 15 dX4_rota_12 rfl ks_4_170 rfl rfl (m_orNone (stM (h'' 46) x)) ?_
    rintro r h3 ⟨rfl, rfl⟩
    refine r_goto 19 dX4_rota_15 (by decide) ?_
    refine r_iret dX4_rota_19 rfl ?_
    rotate_left -- leaf: return at pc 19
    exact ⟨rfl, rfl⟩
theorem m_puts0 (lm : LM G) (a v b : Int) : Ca l G 0 mX4_puts [vR 45, vI 0, vI a, vI v, vI b] h (fun r h' => r = some (vI (-1)) ∧ h' = h) := by
  obtain ⟨hN, ⟨ms45, ms46, ms47, ms48, ms49, ms50, ms51, ms52, ms53, ms54, ms55, ms56, ms57⟩, ⟨ml46, ml47, ml48, ml49, ml50, ml51, ml52, ml53, ml54, ml55, ml56, ml57⟩, ⟨mr0, mr2, mr7, mr16, mr17, mr18, mr20, mr22, mr24, mr25, mr26, mr27⟩⟩ := lm
  refine Ca.of (by decide) (Nat.le_of_ble_eq_true rfl) (fun hI hv hH => ?_)
  refine r_iload_n 1 dX4_puts_0 rfl rfl ?_
  refine r_if_ne 6 4 dX4_puts_1 (by decide) rfl (fun c_1 => ?_) (fun c_1 => ?_)
  rotate_left -- leaf: pc 6
  refine r_iconst 5 dX4_puts_4 rfl rfl ?_
  refine r_iret dX4_puts_5 rfl ?_
  rotate_left -- leaf: return at pc 5
  · omega
  · exact ⟨rfl, rfl⟩
theorem m_puts1 (lm : LM G) (a : Nat) (ha : a < 132) (v b : Int) (hv : -100 ≤ v ∧ v ≤ 100) (hb : 0 ≤ b ∧ b ≤ 3) (hw : -100 ≤ h 46 a ∧ h 46 a ≤ 5000) : Ca l G 0 mX4_puts [vR 45, vI 1, vI a, vI v, vI b] h (fun r h' => r = some (vI (h 46 a + b)) ∧ h' = up h 46 a (v - b)) := by
  obtain ⟨hN, ⟨ms45, ms46, ms47, ms48, ms49, ms50, ms51, ms52, ms53, ms54, ms55, ms56, ms57⟩, ⟨ml46, ml47, ml48, ml49, ml50, ml51, ml52, ml53, ml54, ml55, ml56, ml57⟩, ⟨mr0, mr2, mr7, mr16, mr17, mr18, mr20, mr22, mr24, mr25, mr26, mr27⟩⟩ := lm
  refine Ca.of (by decide) (Nat.le_of_ble_eq_true rfl) (fun hI hv hH => ?_)
  refine r_iload_n 1 dX4_puts_0 rfl rfl ?_
  refine r_if_ne 6 4 dX4_puts_1 (by decide) rfl (fun c_1 => ?_) (fun c_1 => ?_)
  refine r_aload_n 7 dX4_puts_6 rfl rfl ?_
  refine r_getR 10 dX4_puts_7 rfl kf_4_7 rfl (by first | assumption | omega) (by assumption) (by assumption) ?_
  refine r_iload_n 11 dX4_puts_10 rfl rfl ?_
  refine r_iald 12 dX4_puts_11 rfl (by first | assumption | omega) (by assumption) (by first | omega | (simp only [Int.toNat_natCast]; omega)) (by first | omega | (simp only [Int.toNat_natCast]; omega)) ?_
  try simp only [Int.toNat_natCast, tq_4, tq_8, tq_22, tq_27, tq_99, tq_a, tl_0, tl_1, tl_20, tl_21, tl_22, tl_32]
  refine r_iload 14 dX4_puts_12 rfl rfl ?_
  refine r_iadd 15 dX4_puts_14 rfl (by first | exact w32_id (by omega) (by omega) | rfl) ?_
  refine r_istore 17 dX4_puts_15 rfl rfl rfl ?_
  refine r_aload_n 18 dX4_puts_17 rfl rfl ?_
  refine r_getR 21 dX4_puts_18 rfl kf_4_7 rfl (by first | assumption | omega) (by assumption) (by assumption) ?_
  refine r_iload_n 22 dX4_puts_21 rfl rfl ?_
  refine r_iload_n 23 dX4_puts_22 rfl rfl ?_
  refine r_iload 25 dX4_puts_23 rfl rfl ?_
  refine r_isub 26 dX4_puts_25 rfl (by first | exact w32_id (by omega) (by omega) | rfl) ?_
  refine r_iast 27 dX4_puts_26 rfl (by first | assumption | omega) (by assumption) (by first | omega | (simp only [Int.toNat_natCast]; omega)) (by first | omega | (simp only [Int.toNat_natCast]; omega)) ?_
  try simp only [Int.toNat_natCast, tq_4, tq_8, tq_22, tq_27, tq_99, tq_a, tl_0, tl_1, tl_20, tl_21, tl_22, tl_32]
  refine r_iload 29 dX4_puts_27 rfl rfl ?_
  refine r_iret dX4_puts_29 rfl ?_
  rotate_left -- leaf: return at pc 29
  refine r_iconst 5 dX4_puts_4 rfl rfl ?_
  refine r_iret dX4_puts_5 rfl ?_
  rotate_left -- leaf: return at pc 5
  · exact ⟨rfl, rfl⟩
  · omega
def tAlter (m x v : Int) (h : zH) : Int × zH := if ((0 ≤ m ∧ m < h 45 1) ∧ ((x = 0 ∧ (0 ≤ v ∧ v ≤ 3)) ∨ (x = 1 ∧ (0 ≤ v ∧ v ≤ 6)))) then (h 46 (4 * x + m).toNat, up h 46 (4 * x + m).toNat v) else (-1, h)
theorem m_alter (lm : LM G) (wm : wM h) (m x v : Int) : Ca l G 2 mX4_alter [vR 45, vI m, vI x, vI v] h (fun r h' => r = some (vI (tAlter m x v h).1) ∧ h' = (tAlter m x v h).2) := by
  have lm0 := lm
  have wm0 := wm
  obtain ⟨hN, ⟨ms45, ms46, ms47, ms48, ms49, ms50, ms51, ms52, ms53, ms54, ms55, ms56, ms57⟩, ⟨ml46, ml47, ml48, ml49, ml50, ml51, ml52, ml53, ml54, ml55, ml56, ml57⟩, ⟨mr0, mr2, mr7, mr16, mr17, mr18, mr20, mr22, mr24, mr25, mr26, mr27⟩⟩ := lm
  obtain ⟨⟨wg1, wg2, wg3, wg4, wg5, wg6, wg7, wg8⟩, wmen, wtp, wsm⟩ := wm
  refine Ca.of (by decide) (Nat.le_of_ble_eq_true rfl) (fun hI hv hH => ?_)
  have Jy : ((0 ≤ m ∧ m < h 45 1) ∧ ((x = 0 ∧ (0 ≤ v ∧ v ≤ 3)) ∨ (x = 1 ∧ (0 ≤ v ∧ v ≤ 6)))) → Rr l G 2 mX4_alter (fun r h' => r = some (vI (tAlter m x v h).1) ∧ h' = (tAlter m x v h).2) 42 [some (vR 45), some (vI m), some (vI x), some (vI v)] [vR 45] h := by
    intro hc
    unfold tAlter
    rw [if_pos hc]
    obtain ⟨mm, rfl⟩ := nat_of hc.1.1
    obtain ⟨k, hk⟩ := nat_of (x := 4 * x + (mm : Int)) (by omega)
    have hr : 0 ≤ h 46 k ∧ h 46 k ≤ 6 := by
      by_cases x0 : x = 0
      · have := wg1 k (by omega)
        omega
      · obtain ⟨j, hj⟩ : ∃ j, k = 4 + j := ⟨k - 4, by omega⟩
        have := wg2 j (by omega)
        rw [hj]; omega
    refine r_iconst 43 dX4_alter_42 rfl rfl ?_
    refine r_goto 47 dX4_alter_43 (by decide) ?_
    refine r_iconst 48 dX4_alter_47 rfl rfl ?_
    refine r_iload_n 49 dX4_alter_48 rfl rfl ?_
    refine r_imul 50 dX4_alter_49 rfl (by first | exact w32_id (by omega) (by omega) | rfl) ?_
    refine r_iload_n 51 dX4_alter_50 rfl rfl ?_
    refine r_iadd 52 dX4_alter_51 rfl (by first | exact w32_id (by omega) (by omega) | rfl) ?_
    refine r_iload_n 53 dX4_alter_52 rfl rfl ?_
    refine r_iconst 54 dX4_alter_53 rfl rfl ?_
    rotate_left -- leaf: call at pc 54
    rw [hk]
    refine r_cv4 57 dX4_alter_54 rfl kv_4_178 (by first | assumption | omega) (by assumption) rfl rfl (m_puts1 lm0 k (by omega) v 0 (by omega) (by omega) (by omega)) ?_
    rintro r h' ⟨rfl, rfl⟩
    refine r_iret dX4_alter_57 rfl ?_
    rotate_left -- leaf: return at pc 57
    rw [Int.toNat_natCast]
    exact ⟨by simp, by simp⟩
  have Jn : ¬ ((0 ≤ m ∧ m < h 45 1) ∧ ((x = 0 ∧ (0 ≤ v ∧ v ≤ 3)) ∨ (x = 1 ∧ (0 ≤ v ∧ v ≤ 6)))) → Rr l G 2 mX4_alter (fun r h' => r = some (vI (tAlter m x v h).1) ∧ h' = (tAlter m x v h).2) 46 [some (vR 45), some (vI m), some (vI x), some (vI v)] [vR 45] h := by
    intro hc
    unfold tAlter
    rw [if_neg hc]
    refine r_iconst 47 dX4_alter_46 rfl rfl ?_
    refine r_iconst 48 dX4_alter_47 rfl rfl ?_
    refine r_iload_n 49 dX4_alter_48 rfl rfl ?_
    refine r_imul 50 dX4_alter_49 rfl (by first | exact w32_id (by omega) (by omega) | rfl) ?_
    refine r_iload_n 51 dX4_alter_50 rfl rfl ?_
    refine r_iadd 52 dX4_alter_51 rfl (by first | exact w32_id (by omega) (by omega) | rfl) ?_
    refine r_iload_n 53 dX4_alter_52 rfl rfl ?_
    refine r_iconst 54 dX4_alter_53 rfl rfl ?_
    rotate_left -- leaf: call at pc 54
    refine r_cv4 57 dX4_alter_54 rfl kv_4_178 (by first | assumption | omega) (by assumption) rfl rfl (m_puts0 lm0 _ v 0) ?_
    rintro r h' ⟨rfl, rfl⟩
    refine r_iret dX4_alter_57 rfl ?_
    rotate_left -- leaf: return at pc 57
    exact ⟨rfl, rfl⟩
  refine r_aload_n 1 dX4_alter_0 rfl rfl ?_
  refine r_aload_n 2 dX4_alter_1 rfl rfl ?_
  refine r_iload_n 3 dX4_alter_2 rfl rfl ?_
  rotate_left -- leaf: call at pc 3
  refine r_cv1 6 dX4_alter_3 rfl kv_4_161 (by first | assumption | omega) (by assumption) rfl rfl (m_isMan lm0 wm0 m) ?_
  rintro r h' ⟨rfl, rfl⟩
  refine r_if_eq 46 9 dX4_alter_6 (by decide) rfl (fun c_6 => ?_) (fun c_6 => ?_)
  rotate_left -- leaf: pc 46
  refine r_iload_n 10 dX4_alter_9 rfl rfl ?_
  refine r_if_ne 25 13 dX4_alter_10 (by decide) rfl (fun c_10 => ?_) (fun c_10 => ?_)
  refine r_iload_n 26 dX4_alter_25 rfl rfl ?_
  refine r_iconst 27 dX4_alter_26 rfl rfl ?_
  refine r_icmp_ne 46 30 dX4_alter_27 (by decide) rfl (fun c_27 => ?_) (fun c_27 => ?_)
  rotate_left -- leaf: pc 46
  refine r_iload_n 31 dX4_alter_30 rfl rfl ?_
  refine r_i2l 32 dX4_alter_31 rfl ?_
  refine r_lconst 33 dX4_alter_32 rfl 0 rfl (by decide) ?_
  refine r_ldc2 36 (6) dX4_alter_33 rfl kq_4_176 rfl ?_
  rotate_left -- leaf: call at pc 36
  refine r_iload_n 14 dX4_alter_13 rfl rfl ?_
  refine r_i2l 15 dX4_alter_14 rfl ?_
  refine r_lconst 16 dX4_alter_15 rfl 0 rfl (by decide) ?_
  refine r_ldc2 19 (3) dX4_alter_16 rfl kq_4_165 rfl ?_
  rotate_left -- leaf: call at pc 19
  · exact Jn (fun z => z01_n.mp c_6 z.1)
  · exact Jn (fun z => by omega)
  · have hm := z01_y.mp c_6
    refine r_cs3 39 dX4_alter_36 rfl ks_4_49 rfl rfl (c_in v 0 6) ?_
    rintro r h'' ⟨rfl, rfl⟩
    refine r_if_eq 46 42 dX4_alter_39 (by decide) rfl (fun c_39 => ?_) (fun c_39 => ?_)
    rotate_left -- leaf: pc 46
    rotate_left -- leaf: pc 42
    · exact Jn (fun z => by have := z01_n.mp c_39; omega)
    · exact Jy ⟨hm, Or.inr ⟨c_27, z01_y.mp c_39⟩⟩
  · have hm := z01_y.mp c_6
    refine r_cs3 22 dX4_alter_19 rfl ks_4_49 rfl rfl (c_in v 0 3) ?_
    rintro r h'' ⟨rfl, rfl⟩
    refine r_if_ne 42 25 dX4_alter_22 (by decide) rfl (fun c_22 => ?_) (fun c_22 => ?_)
    rotate_left -- leaf: pc 42
    refine r_iload_n 26 dX4_alter_25 rfl rfl ?_
    refine r_iconst 27 dX4_alter_26 rfl rfl ?_
    refine r_icmp_ne 46 30 dX4_alter_27 (by decide) rfl (fun c_27 => ?_) (fun c_27 => ?_)
    rotate_left -- leaf: pc 46
    rotate_left -- leaf: pc 30
    · exact Jy ⟨hm, Or.inl ⟨c_10, z01_y.mp c_22⟩⟩
    · exact Jn (fun z => by have := z01_n.mp c_22; omega)
    · omega
def tMove (i x v : Int) (h : zH) : Int × zH := if ((0 ≤ i ∧ i < h 46 32) ∧ ((x = 0 ∧ (0 ≤ v ∧ v ≤ 47)) ∨ (x = 1 ∧ (1 ≤ v ∧ v ≤ 9)))) then (h 46 (22 + 5 * x + i).toNat, up h 46 (22 + 5 * x + i).toNat v) else (-1, h)
theorem m_move (lm : LM G) (wm : wM h) (i x v : Int) : Ca l G 2 mX4_move [vR 45, vI i, vI x, vI v] h (fun r h' => r = some (vI (tMove i x v h).1) ∧ h' = (tMove i x v h).2) := by
  have lm0 := lm
  have wm0 := wm
  obtain ⟨hN, ⟨ms45, ms46, ms47, ms48, ms49, ms50, ms51, ms52, ms53, ms54, ms55, ms56, ms57⟩, ⟨ml46, ml47, ml48, ml49, ml50, ml51, ml52, ml53, ml54, ml55, ml56, ml57⟩, ⟨mr0, mr2, mr7, mr16, mr17, mr18, mr20, mr22, mr24, mr25, mr26, mr27⟩⟩ := lm
  obtain ⟨⟨wg1, wg2, wg3, wg4, wg5, wg6, wg7, wg8⟩, wmen, wtp, wsm⟩ := wm
  refine Ca.of (by decide) (Nat.le_of_ble_eq_true rfl) (fun hI hv hH => ?_)
  have Jy : ((0 ≤ i ∧ i < h 46 32) ∧ ((x = 0 ∧ (0 ≤ v ∧ v ≤ 47)) ∨ (x = 1 ∧ (1 ≤ v ∧ v ≤ 9)))) → Rr l G 2 mX4_move (fun r h' => r = some (vI (tMove i x v h).1) ∧ h' = (tMove i x v h).2) 42 [some (vR 45), some (vI i), some (vI x), some (vI v)] [vR 45] h := by
    intro hc
    unfold tMove
    rw [if_pos hc]
    obtain ⟨mm, rfl⟩ := nat_of hc.1.1
    obtain ⟨k, hk⟩ := nat_of (x := 22 + 5 * x + (mm : Int)) (by omega)
    have hr : 0 ≤ h 46 k ∧ h 46 k ≤ 47 := by
      by_cases x0 : x = 0
      · obtain ⟨j, hj⟩ : ∃ j, k = 22 + j := ⟨k - 22, by omega⟩
        have := wg6 j (by omega)
        rw [hj]; omega
      · obtain ⟨j, hj⟩ : ∃ j, k = 27 + j := ⟨k - 27, by omega⟩
        have := wg7 j (by omega)
        rw [hj]; omega
    refine r_iconst 43 dX4_move_42 rfl rfl ?_
    refine r_goto 47 dX4_move_43 (by decide) ?_
    refine r_bipush 49 dX4_move_47 rfl rfl (by decide) ?_
    refine r_iconst 50 dX4_move_49 rfl rfl ?_
    refine r_iload_n 51 dX4_move_50 rfl rfl ?_
    refine r_imul 52 dX4_move_51 rfl (by first | exact w32_id (by omega) (by omega) | rfl) ?_
    refine r_iadd 53 dX4_move_52 rfl (by first | exact w32_id (by omega) (by omega) | rfl) ?_
    refine r_iload_n 54 dX4_move_53 rfl rfl ?_
    refine r_iadd 55 dX4_move_54 rfl (by first | exact w32_id (by omega) (by omega) | rfl) ?_
    refine r_iload_n 56 dX4_move_55 rfl rfl ?_
    refine r_iconst 57 dX4_move_56 rfl rfl ?_
    rotate_left -- leaf: call at pc 57
    rw [hk]
    refine r_cv4 60 dX4_move_57 rfl kv_4_178 (by first | assumption | omega) (by assumption) rfl rfl (m_puts1 lm0 k (by omega) v 0 (by omega) (by omega) (by omega)) ?_
    rintro r h' ⟨rfl, rfl⟩
    refine r_iret dX4_move_60 rfl ?_
    rotate_left -- leaf: return at pc 60
    rw [Int.toNat_natCast]
    exact ⟨by simp, by simp⟩
  have Jn : ¬ ((0 ≤ i ∧ i < h 46 32) ∧ ((x = 0 ∧ (0 ≤ v ∧ v ≤ 47)) ∨ (x = 1 ∧ (1 ≤ v ∧ v ≤ 9)))) → Rr l G 2 mX4_move (fun r h' => r = some (vI (tMove i x v h).1) ∧ h' = (tMove i x v h).2) 46 [some (vR 45), some (vI i), some (vI x), some (vI v)] [vR 45] h := by
    intro hc
    unfold tMove
    rw [if_neg hc]
    refine r_iconst 47 dX4_move_46 rfl rfl ?_
    refine r_bipush 49 dX4_move_47 rfl rfl (by decide) ?_
    refine r_iconst 50 dX4_move_49 rfl rfl ?_
    refine r_iload_n 51 dX4_move_50 rfl rfl ?_
    refine r_imul 52 dX4_move_51 rfl (by first | exact w32_id (by omega) (by omega) | rfl) ?_
    refine r_iadd 53 dX4_move_52 rfl (by first | exact w32_id (by omega) (by omega) | rfl) ?_
    refine r_iload_n 54 dX4_move_53 rfl rfl ?_
    refine r_iadd 55 dX4_move_54 rfl (by first | exact w32_id (by omega) (by omega) | rfl) ?_
    refine r_iload_n 56 dX4_move_55 rfl rfl ?_
    refine r_iconst 57 dX4_move_56 rfl rfl ?_
    rotate_left -- leaf: call at pc 57
    refine r_cv4 60 dX4_move_57 rfl kv_4_178 (by first | assumption | omega) (by assumption) rfl rfl (m_puts0 lm0 _ v 0) ?_
    rintro r h' ⟨rfl, rfl⟩
    refine r_iret dX4_move_60 rfl ?_
    rotate_left -- leaf: return at pc 60
    exact ⟨rfl, rfl⟩
  refine r_aload_n 1 dX4_move_0 rfl rfl ?_
  refine r_aload_n 2 dX4_move_1 rfl rfl ?_
  refine r_iload_n 3 dX4_move_2 rfl rfl ?_
  rotate_left -- leaf: call at pc 3
  refine r_cv1 6 dX4_move_3 rfl kv_4_173 (by first | assumption | omega) (by assumption) rfl rfl (m_isDeed lm0 wm0 i) ?_
  rintro r h' ⟨rfl, rfl⟩
  refine r_if_eq 46 9 dX4_move_6 (by decide) rfl (fun c_6 => ?_) (fun c_6 => ?_)
  rotate_left -- leaf: pc 46
  refine r_iload_n 10 dX4_move_9 rfl rfl ?_
  refine r_if_ne 25 13 dX4_move_10 (by decide) rfl (fun c_10 => ?_) (fun c_10 => ?_)
  refine r_iload_n 26 dX4_move_25 rfl rfl ?_
  refine r_iconst 27 dX4_move_26 rfl rfl ?_
  refine r_icmp_ne 46 30 dX4_move_27 (by decide) rfl (fun c_27 => ?_) (fun c_27 => ?_)
  rotate_left -- leaf: pc 46
  refine r_iload_n 31 dX4_move_30 rfl rfl ?_
  refine r_i2l 32 dX4_move_31 rfl ?_
  refine r_lconst 33 dX4_move_32 rfl 1 rfl (by decide) ?_
  refine r_ldc2 36 (9) dX4_move_33 rfl kq_4_184 rfl ?_
  rotate_left -- leaf: call at pc 36
  refine r_iload_n 14 dX4_move_13 rfl rfl ?_
  refine r_i2l 15 dX4_move_14 rfl ?_
  refine r_lconst 16 dX4_move_15 rfl 0 rfl (by decide) ?_
  refine r_ldc2 19 (47) dX4_move_16 rfl kq_4_182 rfl ?_
  rotate_left -- leaf: call at pc 19
  · exact Jn (fun z => z01_n.mp c_6 z.1)
  · exact Jn (fun z => by omega)
  · have hm := z01_y.mp c_6
    refine r_cs3 39 dX4_move_36 rfl ks_4_49 rfl rfl (c_in v 1 9) ?_
    rintro r h'' ⟨rfl, rfl⟩
    refine r_if_eq 46 42 dX4_move_39 (by decide) rfl (fun c_39 => ?_) (fun c_39 => ?_)
    rotate_left -- leaf: pc 46
    rotate_left -- leaf: pc 42
    · exact Jn (fun z => by have := z01_n.mp c_39; omega)
    · exact Jy ⟨hm, Or.inr ⟨c_27, z01_y.mp c_39⟩⟩
  · have hm := z01_y.mp c_6
    refine r_cs3 22 dX4_move_19 rfl ks_4_49 rfl rfl (c_in v 0 47) ?_
    rintro r h'' ⟨rfl, rfl⟩
    refine r_if_ne 42 25 dX4_move_22 (by decide) rfl (fun c_22 => ?_) (fun c_22 => ?_)
    rotate_left -- leaf: pc 42
    refine r_iload_n 26 dX4_move_25 rfl rfl ?_
    refine r_iconst 27 dX4_move_26 rfl rfl ?_
    refine r_icmp_ne 46 30 dX4_move_27 (by decide) rfl (fun c_27 => ?_) (fun c_27 => ?_)
    rotate_left -- leaf: pc 46
    rotate_left -- leaf: pc 30
    · exact Jy ⟨hm, Or.inl ⟨c_10, z01_y.mp c_22⟩⟩
    · exact Jn (fun z => by have := z01_n.mp c_22; omega)
    · omega
def tShift (x m : Int) (h : zH) : Int × zH := if ((0 ≤ x ∧ x < 12) ∧ (m = -4 ∨ (0 ≤ m ∧ m < h 45 1))) then (noF (stM (h 46) x.toNat), up h 46 (8 + x.toNat) (if m = -4 then 0 else m + 1)) else (-1, h)
theorem m_shifts (lm : LM G) (wm : wM h) (x m : Int) : Ca l G 2 mX4_shifts [vR 45, vI x, vI m] h (fun r h' => r = some (vI (tShift x m h).1) ∧ h' = (tShift x m h).2) := by
  have lm0 := lm
  have wm0 := wm
  obtain ⟨hN, ⟨ms45, ms46, ms47, ms48, ms49, ms50, ms51, ms52, ms53, ms54, ms55, ms56, ms57⟩, ⟨ml46, ml47, ml48, ml49, ml50, ml51, ml52, ml53, ml54, ml55, ml56, ml57⟩, ⟨mr0, mr2, mr7, mr16, mr17, mr18, mr20, mr22, mr24, mr25, mr26, mr27⟩⟩ := lm
  obtain ⟨⟨wg1, wg2, wg3, wg4, wg5, wg6, wg7, wg8⟩, wmen, wtp, wsm⟩ := wm
  refine Ca.of (by decide) (Nat.le_of_ble_eq_true rfl) (fun hI hv hH => ?_)
  have Jy : ((0 ≤ x ∧ x < 12) ∧ (m = -4 ∨ (0 ≤ m ∧ m < h 45 1))) → Rr l G 2 mX4_shifts (fun r h' => r = some (vI (tShift x m h).1) ∧ h' = (tShift x m h).2) 23 [some (vR 45), some (vI x), some (vI m), none] [] h := by
    intro hc
    unfold tShift
    rw [if_pos hc]
    obtain ⟨x, rfl⟩ := nat_of hc.1.1
    rw [Int.toNat_natCast]
    refine r_aload_n 24 dX4_shifts_23 rfl rfl ?_
    refine r_iload_n 25 dX4_shifts_24 rfl rfl ?_
    rotate_left -- leaf: call at pc 25
    refine r_cv1 28 dX4_shifts_25 rfl kv_4_136 (by first | assumption | omega) (by assumption) rfl rfl (m_standsIn lm0 (wg3 0 (by omega)).1 x (by omega) (wg3 x (by omega))) ?_
    rintro r h' ⟨rfl, rfl⟩
    refine r_istore_n 29 dX4_shifts_28 rfl rfl rfl ?_
    refine r_aload_n 30 dX4_shifts_29 rfl rfl ?_
    refine r_getR 33 dX4_shifts_30 rfl kf_4_7 rfl (by first | assumption | omega) (by assumption) (by assumption) ?_
    refine r_bipush 35 dX4_shifts_33 rfl rfl (by decide) ?_
    refine r_iload_n 36 dX4_shifts_35 rfl rfl ?_
    refine r_iadd 37 dX4_shifts_36 rfl (by first | exact w32_id (by omega) (by omega) | rfl) ?_
    refine r_iload_n 38 dX4_shifts_37 rfl rfl ?_
    refine r_bipush 40 dX4_shifts_38 rfl rfl (by decide) ?_
    refine r_icmp_ne 47 43 dX4_shifts_40 (by decide) rfl (fun c_40 => ?_) (fun c_40 => ?_)
    refine r_iload_n 48 dX4_shifts_47 rfl rfl ?_
    refine r_iconst 49 dX4_shifts_48 rfl rfl ?_
    refine r_iadd 50 dX4_shifts_49 rfl (by first | exact w32_id (by omega) (by omega) | rfl) ?_
    refine r_iast 51 dX4_shifts_50 rfl (by first | assumption | omega) (by assumption) (by first | omega | (simp only [Int.toNat_natCast]; omega)) (by first | omega | (simp only [Int.toNat_natCast]; omega)) ?_
    try simp only [Int.toNat_natCast, tq_4, tq_8, tq_22, tq_27, tq_99, tq_a, tl_0, tl_1, tl_20, tl_21, tl_22, tl_32]
    refine r_iload_n 52 dX4_shifts_51 rfl rfl ?_
    rotate_left -- leaf: call at pc 52
    refine r_iconst 44 dX4_shifts_43 rfl rfl ?_
    refine r_goto 50 dX4_shifts_44 (by decide) ?_
    refine r_iast 51 dX4_shifts_50 rfl (by first | assumption | omega) (by assumption) (by first | omega | (simp only [Int.toNat_natCast]; omega)) (by first | omega | (simp only [Int.toNat_natCast]; omega)) ?_
    try simp only [Int.toNat_natCast, tq_4, tq_8, tq_22, tq_27, tq_99, tq_a, tl_0, tl_1, tl_20, tl_21, tl_22, tl_32]
    refine r_iload_n 52 dX4_shifts_51 rfl rfl ?_
    rotate_left -- leaf: call at pc 52
    · rw [if_neg c_40]
      refine r_cs1 55 dX4_shifts_52 rfl ks_4_170 rfl rfl (m_orNone (stM (h' 46) x)) ?_
      rintro r h'' ⟨rfl, rfl⟩
      refine r_iret dX4_shifts_55 rfl ?_
      rotate_left -- leaf: return at pc 55
      exact ⟨rfl, rfl⟩
    · rw [if_pos c_40]
      refine r_cs1 55 dX4_shifts_52 rfl ks_4_170 rfl rfl (m_orNone (stM (h' 46) x)) ?_
      rintro r h'' ⟨rfl, rfl⟩
      refine r_iret dX4_shifts_55 rfl ?_
      rotate_left -- leaf: return at pc 55
      exact ⟨rfl, rfl⟩
  refine r_iload_n 1 dX4_shifts_0 rfl rfl ?_
  rotate_left -- leaf: call at pc 1
  refine r_cs1 4 dX4_shifts_1 rfl ks_4_167 rfl rfl (m_isHour x) ?_
  rintro r h' ⟨rfl, rfl⟩
  refine r_if_eq 21 7 dX4_shifts_4 (by decide) rfl (fun c_4 => ?_) (fun c_4 => ?_)
  refine r_iconst 22 dX4_shifts_21 rfl rfl ?_
  refine r_iret dX4_shifts_22 rfl ?_
  rotate_left -- leaf: return at pc 22
  refine r_iload_n 8 dX4_shifts_7 rfl rfl ?_
  refine r_bipush 10 dX4_shifts_8 rfl rfl (by decide) ?_
  refine r_icmp_eq 23 13 dX4_shifts_10 (by decide) rfl (fun c_10 => ?_) (fun c_10 => ?_)
  rotate_left -- leaf: pc 23
  refine r_aload_n 14 dX4_shifts_13 rfl rfl ?_
  refine r_iload_n 15 dX4_shifts_14 rfl rfl ?_
  rotate_left -- leaf: call at pc 15
  · unfold tShift
    rw [if_neg (fun z => z01_n.mp c_4 z.1)]
    exact ⟨rfl, rfl⟩
  · exact Jy ⟨z01_y.mp c_4, Or.inl c_10⟩
  · have hx := z01_y.mp c_4
    refine r_cv1 18 dX4_shifts_15 rfl kv_4_161 (by first | assumption | omega) (by assumption) rfl rfl (m_isMan lm0 wm0 m) ?_
    rintro r h'' ⟨rfl, rfl⟩
    refine r_if_ne 23 21 dX4_shifts_18 (by decide) rfl (fun c_18 => ?_) (fun c_18 => ?_)
    rotate_left -- leaf: pc 23
    refine r_iconst 22 dX4_shifts_21 rfl rfl ?_
    refine r_iret dX4_shifts_22 rfl ?_
    rotate_left -- leaf: return at pc 22
    · exact Jy ⟨hx, Or.inr (z01_y.mp c_18)⟩
    · have hm := z01_n.mp c_18
      unfold tShift
      rw [if_neg (fun z => by omega)]
      exact ⟨rfl, rfl⟩
theorem m_shift (lm : LM G) (wm : wM h) (x m : Int) : Ca l G 3 mX4_shift [vR 45, vI x, vI m] h (fun r h' => r = some (vI (tShift x m h).1) ∧ h' = (tShift x m h).2) := by
  have lm0 := lm
  have wm0 := wm
  obtain ⟨hN, ⟨ms45, ms46, ms47, ms48, ms49, ms50, ms51, ms52, ms53, ms54, ms55, ms56, ms57⟩, ⟨ml46, ml47, ml48, ml49, ml50, ml51, ml52, ml53, ml54, ml55, ml56, ml57⟩, ⟨mr0, mr2, mr7, mr16, mr17, mr18, mr20, mr22, mr24, mr25, mr26, mr27⟩⟩ := lm
  refine Ca.of (by decide) (Nat.le_of_ble_eq_true rfl) (fun hI hv hH => ?_)
  refine r_aload_n 1 dX4_shift_0 rfl rfl ?_
  refine r_iload_n 2 dX4_shift_1 rfl rfl ?_
  refine r_iload_n 3 dX4_shift_2 rfl rfl ?_
  rotate_left -- leaf: call at pc 3
  refine r_cv2 6 dX4_shift_3 rfl kv_4_186 (by first | assumption | omega) (by assumption) rfl rfl (m_shifts lm0 wm0 x m) ?_
  rintro r h' ⟨rfl, rfl⟩
  refine r_iret dX4_shift_6 rfl ?_
  rotate_left -- leaf: return at pc 6
  exact ⟨rfl, rfl⟩
def cldM (c : Int) (j : Nat) (b : Int) : Int := z_ior (z_iand c (z_ixor (2 ^ j) (-1))) (if b = 0 then 0 else 2 ^ j)
def tCloud (x b : Int) (h : zH) : Int × zH := if 0 ≤ x ∧ x < 12 then (bitI (h 46 20) x.toNat, up h 46 20 (cldM (h 46 20) x.toNat b)) else (-1, h)
theorem m_cloud (lm : LM G) (wm : wM h) (x b : Int) : Ca l G 2 mX4_cloud [vR 45, vI x, vI b] h (fun r h' => r = some (vI (tCloud x b h).1) ∧ h' = (tCloud x b h).2) := by
  obtain ⟨hN, ⟨ms45, ms46, ms47, ms48, ms49, ms50, ms51, ms52, ms53, ms54, ms55, ms56, ms57⟩, ⟨ml46, ml47, ml48, ml49, ml50, ml51, ml52, ml53, ml54, ml55, ml56, ml57⟩, ⟨mr0, mr2, mr7, mr16, mr17, mr18, mr20, mr22, mr24, mr25, mr26, mr27⟩⟩ := lm
  obtain ⟨⟨wg1, wg2, wg3, wg4, wg5, wg6, wg7, wg8⟩, wmen, wtp, wsm⟩ := wm
  refine Ca.of (by decide) (Nat.le_of_ble_eq_true rfl) (fun hI hv hH => ?_)
  unfold tCloud
  refine r_iload_n 1 dX4_cloud_0 rfl rfl ?_
  rotate_left -- leaf: call at pc 1
  refine r_cs1 4 dX4_cloud_1 rfl ks_4_167 rfl rfl (m_isHour x) ?_
  rintro r h' ⟨rfl, rfl⟩
  refine r_if_ne 9 7 dX4_cloud_4 (by decide) rfl (fun c_4 => ?_) (fun c_4 => ?_)
  rotate_left -- leaf: pc 9
  refine r_iconst 8 dX4_cloud_7 rfl rfl ?_
  refine r_iret dX4_cloud_8 rfl ?_
  rotate_left -- leaf: return at pc 8
  · have hx := z01_y.mp c_4
    rw [if_pos hx]
    obtain ⟨x, rfl⟩ := nat_of hx.1
    rw [Int.toNat_natCast]
    refine r_aload_n 10 dX4_cloud_9 rfl rfl ?_
    refine r_getR 13 dX4_cloud_10 rfl kf_4_7 rfl (by first | assumption | omega) (by assumption) (by assumption) ?_
    refine r_bipush 15 dX4_cloud_13 rfl rfl (by decide) ?_
    refine r_iald 16 dX4_cloud_15 rfl (by first | assumption | omega) (by assumption) (by first | omega | (simp only [Int.toNat_natCast]; omega)) (by first | omega | (simp only [Int.toNat_natCast]; omega)) ?_
    try simp only [Int.toNat_natCast, tq_4, tq_8, tq_22, tq_27, tq_99, tq_a, tl_0, tl_1, tl_20, tl_21, tl_22, tl_32]
    refine r_iload_n 17 dX4_cloud_16 rfl rfl ?_
    refine r_ishr 18 dX4_cloud_17 rfl rfl ?_
    refine r_iconst 19 dX4_cloud_18 rfl rfl ?_
    refine r_iand 20 dX4_cloud_19 rfl rfl ?_
    rotate_left -- leaf: pc 20
    rw [z_bit wg4 (by omega)]
    refine r_istore_n 21 dX4_cloud_20 rfl rfl rfl ?_
    refine r_aload_n 22 dX4_cloud_21 rfl rfl ?_
    refine r_getR 25 dX4_cloud_22 rfl kf_4_7 rfl (by first | assumption | omega) (by assumption) (by assumption) ?_
    refine r_bipush 27 dX4_cloud_25 rfl rfl (by decide) ?_
    refine r_aload_n 28 dX4_cloud_27 rfl rfl ?_
    refine r_getR 31 dX4_cloud_28 rfl kf_4_7 rfl (by first | assumption | omega) (by assumption) (by assumption) ?_
    refine r_bipush 33 dX4_cloud_31 rfl rfl (by decide) ?_
    refine r_iald 34 dX4_cloud_33 rfl (by first | assumption | omega) (by assumption) (by first | omega | (simp only [Int.toNat_natCast]; omega)) (by first | omega | (simp only [Int.toNat_natCast]; omega)) ?_
    try simp only [Int.toNat_natCast, tq_4, tq_8, tq_22, tq_27, tq_99, tq_a, tl_0, tl_1, tl_20, tl_21, tl_22, tl_32]
    refine r_iconst 35 dX4_cloud_34 rfl rfl ?_
    refine r_iload_n 36 dX4_cloud_35 rfl rfl ?_
    refine r_ishl 37 dX4_cloud_36 rfl rfl ?_
    refine r_iconst 38 dX4_cloud_37 rfl rfl ?_
    refine r_ixor 39 dX4_cloud_38 rfl rfl ?_
    refine r_iand 40 dX4_cloud_39 rfl rfl ?_
    rotate_left -- leaf: pc 40
    rw [z_shl1 x (by omega)]
    refine r_iload_n 41 dX4_cloud_40 rfl rfl ?_
    refine r_if_eq 50 44 dX4_cloud_41 (by decide) rfl (fun c_41 => ?_) (fun c_41 => ?_)
    refine r_iconst 51 dX4_cloud_50 rfl rfl ?_
    refine r_ior 52 dX4_cloud_51 rfl rfl ?_
    refine r_iast 53 dX4_cloud_52 rfl (by first | assumption | omega) (by assumption) (by first | omega | (simp only [Int.toNat_natCast]; omega)) (by first | omega | (simp only [Int.toNat_natCast]; omega)) ?_
    try simp only [Int.toNat_natCast, tq_4, tq_8, tq_22, tq_27, tq_99, tq_a, tl_0, tl_1, tl_20, tl_21, tl_22, tl_32]
    refine r_iload_n 54 dX4_cloud_53 rfl rfl ?_
    refine r_iret dX4_cloud_54 rfl ?_
    rotate_left -- leaf: return at pc 54
    refine r_iconst 45 dX4_cloud_44 rfl rfl ?_
    refine r_iload_n 46 dX4_cloud_45 rfl rfl ?_
    refine r_ishl 47 dX4_cloud_46 rfl rfl ?_
    refine r_goto 51 dX4_cloud_47 (by decide) ?_
    refine r_ior 52 dX4_cloud_51 rfl rfl ?_
    refine r_iast 53 dX4_cloud_52 rfl (by first | assumption | omega) (by assumption) (by first | omega | (simp only [Int.toNat_natCast]; omega)) (by first | omega | (simp only [Int.toNat_natCast]; omega)) ?_
    try simp only [Int.toNat_natCast, tq_4, tq_8, tq_22, tq_27, tq_99, tq_a, tl_0, tl_1, tl_20, tl_21, tl_22, tl_32]
    refine r_iload_n 54 dX4_cloud_53 rfl rfl ?_
    refine r_iret dX4_cloud_54 rfl ?_
    rotate_left -- leaf: return at pc 54
    · refine ⟨rfl, ?_⟩
      unfold cldM
      rw [if_pos c_41]
    · refine ⟨rfl, ?_⟩
      unfold cldM
      rw [if_neg c_41, z_shl1 x (by omega)]
  · rw [if_neg (z01_n.mp c_4)]
    exact ⟨rfl, rfl⟩
def tPaint (v : Int) (h : zH) : Int × zH := if 0 ≤ v ∧ v ≤ 6 then (h 46 21 + 3, up h 46 21 (v - 3)) else (-1, h)
theorem m_paint (lm : LM G) (wm : wM h) (v : Int) : Ca l G 1 mX4_paint [vR 45, vI v] h (fun r h' => r = some (vI (tPaint v h).1) ∧ h' = (tPaint v h).2) := by
  have lm0 := lm
  obtain ⟨hN, ⟨ms45, ms46, ms47, ms48, ms49, ms50, ms51, ms52, ms53, ms54, ms55, ms56, ms57⟩, ⟨ml46, ml47, ml48, ml49, ml50, ml51, ml52, ml53, ml54, ml55, ml56, ml57⟩, ⟨mr0, mr2, mr7, mr16, mr17, mr18, mr20, mr22, mr24, mr25, mr26, mr27⟩⟩ := lm
  obtain ⟨⟨wg1, wg2, wg3, wg4, wg5, wg6, wg7, wg8⟩, wmen, wtp, wsm⟩ := wm
  refine Ca.of (by decide) (Nat.le_of_ble_eq_true rfl) (fun hI hv hH => ?_)
  unfold tPaint
  refine r_aload_n 1 dX4_paint_0 rfl rfl ?_
  refine r_iload_n 2 dX4_paint_1 rfl rfl ?_
  refine r_i2l 3 dX4_paint_2 rfl ?_
  refine r_lconst 4 dX4_paint_3 rfl 0 rfl (by decide) ?_
  refine r_ldc2 7 (6) dX4_paint_4 rfl kq_4_176 rfl ?_
  rotate_left -- leaf: call at pc 7
  refine r_cs3 10 dX4_paint_7 rfl ks_4_49 rfl rfl (c_in v 0 6) ?_
  rintro r h' ⟨rfl, rfl⟩
  by_cases hv : 0 ≤ v ∧ v ≤ 6
  · rw [if_pos hv, z01_t hv]
    refine r_bipush 12 dX4_paint_10 rfl rfl (by decide) ?_
    refine r_iload_n 13 dX4_paint_12 rfl rfl ?_
    refine r_iconst 14 dX4_paint_13 rfl rfl ?_
    rotate_left -- leaf: call at pc 14
    refine r_cv4 17 dX4_paint_14 rfl kv_4_178 (by first | assumption | omega) (by assumption) rfl rfl (m_puts1 lm0 21 (by omega) v 3 (by omega) (by omega) (by omega)) ?_
    rintro r h'' ⟨rfl, rfl⟩
    refine r_iret dX4_paint_17 rfl ?_
    rotate_left -- leaf: return at pc 17
    exact ⟨rfl, rfl⟩
  · rw [if_neg hv, z01_f hv]
    refine r_bipush 12 dX4_paint_10 rfl rfl (by decide) ?_
    refine r_iload_n 13 dX4_paint_12 rfl rfl ?_
    refine r_iconst 14 dX4_paint_13 rfl rfl ?_
    rotate_left -- leaf: call at pc 14
    refine r_cv4 17 dX4_paint_14 rfl kv_4_178 (by first | assumption | omega) (by assumption) rfl rfl (m_puts0 lm0 21 v 3) ?_
    rintro r h'' ⟨rfl, rfl⟩
    refine r_iret dX4_paint_17 rfl ?_
    rotate_left -- leaf: return at pc 17
    exact ⟨rfl, rfl⟩
def tDrop (n : Int) (h : zH) : Int × zH := if 0 ≤ n ∧ n ≤ h 46 32 then (h 46 32, up h 46 32 n) else (-1, h)
theorem m_drop (lm : LM G) (wm : wM h) (n : Int) : Ca l G 1 mX4_drop [vR 45, vI n] h (fun r h' => r = some (vI (tDrop n h).1) ∧ h' = (tDrop n h).2) := by
  have lm0 := lm
  obtain ⟨hN, ⟨ms45, ms46, ms47, ms48, ms49, ms50, ms51, ms52, ms53, ms54, ms55, ms56, ms57⟩, ⟨ml46, ml47, ml48, ml49, ml50, ml51, ml52, ml53, ml54, ml55, ml56, ml57⟩, ⟨mr0, mr2, mr7, mr16, mr17, mr18, mr20, mr22, mr24, mr25, mr26, mr27⟩⟩ := lm
  obtain ⟨⟨wg1, wg2, wg3, wg4, wg5, wg6, wg7, wg8⟩, wmen, wtp, wsm⟩ := wm
  refine Ca.of (by decide) (Nat.le_of_ble_eq_true rfl) (fun hI hv hH => ?_)
  unfold tDrop
  refine r_aload_n 1 dX4_drop_0 rfl rfl ?_
  refine r_iload_n 2 dX4_drop_1 rfl rfl ?_
  refine r_i2l 3 dX4_drop_2 rfl ?_
  refine r_lconst 4 dX4_drop_3 rfl 0 rfl (by decide) ?_
  refine r_aload_n 5 dX4_drop_4 rfl rfl ?_
  refine r_getR 8 dX4_drop_5 rfl kf_4_7 rfl (by first | assumption | omega) (by assumption) (by assumption) ?_
  refine r_bipush 10 dX4_drop_8 rfl rfl (by decide) ?_
  refine r_iald 11 dX4_drop_10 rfl (by first | assumption | omega) (by assumption) (by first | omega | (simp only [Int.toNat_natCast]; omega)) (by first | omega | (simp only [Int.toNat_natCast]; omega)) ?_
  try simp only [Int.toNat_natCast, tq_4, tq_8, tq_22, tq_27, tq_99, tq_a, tl_0, tl_1, tl_20, tl_21, tl_22, tl_32]
  refine r_i2l 12 dX4_drop_11 rfl ?_
  rotate_left -- leaf: call at pc 12
  refine r_cs3 15 dX4_drop_12 rfl ks_4_49 rfl rfl (c_in n 0 (h 46 32)) ?_
  rintro r h' ⟨rfl, rfl⟩
  by_cases hv : 0 ≤ n ∧ n ≤ h' 46 32
  · rw [if_pos hv, z01_t hv]
    refine r_bipush 17 dX4_drop_15 rfl rfl (by decide) ?_
    refine r_iload_n 18 dX4_drop_17 rfl rfl ?_
    refine r_iconst 19 dX4_drop_18 rfl rfl ?_
    rotate_left -- leaf: call at pc 19
    refine r_cv4 22 dX4_drop_19 rfl kv_4_178 (by first | assumption | omega) (by assumption) rfl rfl (m_puts1 lm0 32 (by omega) n 0 (by omega) (by omega) (by omega)) ?_
    rintro r h'' ⟨rfl, rfl⟩
    refine r_iret dX4_drop_22 rfl ?_
    rotate_left -- leaf: return at pc 22
    exact ⟨by simp, by simp⟩
  · rw [if_neg hv, z01_f hv]
    refine r_bipush 17 dX4_drop_15 rfl rfl (by decide) ?_
    refine r_iload_n 18 dX4_drop_17 rfl rfl ?_
    refine r_iconst 19 dX4_drop_18 rfl rfl ?_
    rotate_left -- leaf: call at pc 19
    refine r_cv4 22 dX4_drop_19 rfl kv_4_178 (by first | assumption | omega) (by assumption) rfl rfl (m_puts0 lm0 32 n 0) ?_
    rintro r h'' ⟨rfl, rfl⟩
    refine r_iret dX4_drop_22 rfl ?_
    rotate_left -- leaf: return at pc 22
    exact ⟨rfl, rfl⟩
def tWant (a b : Int) (h : zH) : Int × zH := if ¬ ((0 ≤ a ∧ a ≤ 47) ∧ (1 ≤ b ∧ b ≤ 9)) then (-1, h) else if h 46 32 = 5 then (-3, h) else (h 46 32 + 1, up (up (up h 46 (22 + (h 46 32).toNat) a) 46 (27 + (h 46 32).toNat) b) 46 32 (h 46 32 + 1))
theorem m_want (lm : LM G) (wm : wM h) (a b : Int) : Ca l G 1 mX4_want [vR 45, vI a, vI b] h (fun r h' => r = some (vI (tWant a b h).1) ∧ h' = (tWant a b h).2) := by
  obtain ⟨hN, ⟨ms45, ms46, ms47, ms48, ms49, ms50, ms51, ms52, ms53, ms54, ms55, ms56, ms57⟩, ⟨ml46, ml47, ml48, ml49, ml50, ml51, ml52, ml53, ml54, ml55, ml56, ml57⟩, ⟨mr0, mr2, mr7, mr16, mr17, mr18, mr20, mr22, mr24, mr25, mr26, mr27⟩⟩ := lm
  obtain ⟨⟨wg1, wg2, wg3, wg4, wg5, wg6, wg7, wg8⟩, wmen, wtp, wsm⟩ := wm
  refine Ca.of (by decide) (Nat.le_of_ble_eq_true rfl) (fun hI hv hH => ?_)
  unfold tWant
  refine r_iload_n 1 dX4_want_0 rfl rfl ?_
  refine r_i2l 2 dX4_want_1 rfl ?_
  refine r_lconst 3 dX4_want_2 rfl 0 rfl (by decide) ?_
  refine r_ldc2 6 (47) dX4_want_3 rfl kq_4_182 rfl ?_
  rotate_left -- leaf: call at pc 6
  refine r_cs3 9 dX4_want_6 rfl ks_4_49 rfl rfl (c_in a 0 47) ?_
  rintro r h' ⟨rfl, rfl⟩
  refine r_if_eq 24 12 dX4_want_9 (by decide) rfl (fun c_9 => ?_) (fun c_9 => ?_)
  refine r_iconst 25 dX4_want_24 rfl rfl ?_
  refine r_iret dX4_want_25 rfl ?_
  rotate_left -- leaf: return at pc 25
  refine r_iload_n 13 dX4_want_12 rfl rfl ?_
  refine r_i2l 14 dX4_want_13 rfl ?_
  refine r_lconst 15 dX4_want_14 rfl 1 rfl (by decide) ?_
  refine r_ldc2 18 (9) dX4_want_15 rfl kq_4_184 rfl ?_
  rotate_left -- leaf: call at pc 18
  · rw [if_pos (fun z => z01_n.mp c_9 z.1)]
    exact ⟨rfl, rfl⟩
  · have ha := z01_y.mp c_9
    refine r_cs3 21 dX4_want_18 rfl ks_4_49 rfl rfl (c_in b 1 9) ?_
    rintro r h'' ⟨rfl, rfl⟩
    refine r_if_ne 26 24 dX4_want_21 (by decide) rfl (fun c_21 => ?_) (fun c_21 => ?_)
    rotate_left -- leaf: pc 26
    refine r_iconst 25 dX4_want_24 rfl rfl ?_
    refine r_iret dX4_want_25 rfl ?_
    rotate_left -- leaf: return at pc 25
    · have hb := z01_y.mp c_21
      rw [if_neg (fun z => z ⟨ha, hb⟩)]
      obtain ⟨d, hd⟩ := nat_of wg8.1
      have e1 : up h'' 46 (22 + d) a 46 32 = h'' 46 32 := up_j (by omega)
      refine r_aload_n 27 dX4_want_26 rfl rfl ?_
      refine r_getR 30 dX4_want_27 rfl kf_4_7 rfl (by first | assumption | omega) (by assumption) (by assumption) ?_
      refine r_bipush 32 dX4_want_30 rfl rfl (by decide) ?_
      refine r_iald 33 dX4_want_32 rfl (by first | assumption | omega) (by assumption) (by first | omega | (simp only [Int.toNat_natCast]; omega)) (by first | omega | (simp only [Int.toNat_natCast]; omega)) ?_
      try simp only [Int.toNat_natCast, tq_4, tq_8, tq_22, tq_27, tq_99, tq_a, tl_0, tl_1, tl_20, tl_21, tl_22, tl_32]
      refine r_iconst 34 dX4_want_33 rfl rfl ?_
      refine r_icmp_ne 40 37 dX4_want_34 (by decide) rfl (fun c_34 => ?_) (fun c_34 => ?_)
      rotate_left -- leaf: pc 40
      refine r_bipush 39 dX4_want_37 rfl rfl (by decide) ?_
      refine r_iret dX4_want_39 rfl ?_
      rotate_left -- leaf: return at pc 39
      · have e2 : up (up h'' 46 (22 + d) a) 46 (27 + d) b 46 32 = h'' 46 32 := by rw [up_j (by omega), e1]
        rw [if_neg c_34, hd, Int.toNat_natCast]
        refine r_aload_n 41 dX4_want_40 rfl rfl ?_
        refine r_getR 44 dX4_want_41 rfl kf_4_7 rfl (by first | assumption | omega) (by assumption) (by assumption) ?_
        refine r_bipush 46 dX4_want_44 rfl rfl (by decide) ?_
        refine r_aload_n 47 dX4_want_46 rfl rfl ?_
        refine r_getR 50 dX4_want_47 rfl kf_4_7 rfl (by first | assumption | omega) (by assumption) (by assumption) ?_
        refine r_bipush 52 dX4_want_50 rfl rfl (by decide) ?_
        refine r_iald 53 dX4_want_52 rfl (by first | assumption | omega) (by assumption) (by first | omega | (simp only [Int.toNat_natCast]; omega)) (by first | omega | (simp only [Int.toNat_natCast]; omega)) ?_
        try simp only [Int.toNat_natCast, tq_4, tq_8, tq_22, tq_27, tq_99, tq_a, tl_0, tl_1, tl_20, tl_21, tl_22, tl_32]
        rotate_left -- leaf: pc 53
        rw [hd]
        refine r_iadd 54 dX4_want_53 rfl (by first | exact w32_id (by omega) (by omega) | rfl) ?_
        refine r_iload_n 55 dX4_want_54 rfl rfl ?_
        refine r_iast 56 dX4_want_55 rfl (by first | assumption | omega) (by assumption) (by first | omega | (simp only [Int.toNat_natCast]; omega)) (by first | omega | (simp only [Int.toNat_natCast]; omega)) ?_
        try simp only [Int.toNat_natCast, tq_4, tq_8, tq_22, tq_27, tq_99, tq_a, tl_0, tl_1, tl_20, tl_21, tl_22, tl_32]
        refine r_aload_n 57 dX4_want_56 rfl rfl ?_
        refine r_getR 60 dX4_want_57 rfl kf_4_7 rfl (by first | assumption | omega) (by assumption) (by assumption) ?_
        refine r_bipush 62 dX4_want_60 rfl rfl (by decide) ?_
        refine r_aload_n 63 dX4_want_62 rfl rfl ?_
        refine r_getR 66 dX4_want_63 rfl kf_4_7 rfl (by first | assumption | omega) (by assumption) (by assumption) ?_
        refine r_bipush 68 dX4_want_66 rfl rfl (by decide) ?_
        refine r_iald 69 dX4_want_68 rfl (by first | assumption | omega) (by assumption) (by first | omega | (simp only [Int.toNat_natCast]; omega)) (by first | omega | (simp only [Int.toNat_natCast]; omega)) ?_
        try simp only [Int.toNat_natCast, tq_4, tq_8, tq_22, tq_27, tq_99, tq_a, tl_0, tl_1, tl_20, tl_21, tl_22, tl_32]
        rotate_left -- leaf: pc 69
        rw [e1, hd]
        refine r_iadd 70 dX4_want_69 rfl (by first | exact w32_id (by omega) (by omega) | rfl) ?_
        refine r_iload_n 71 dX4_want_70 rfl rfl ?_
        refine r_iast 72 dX4_want_71 rfl (by first | assumption | omega) (by assumption) (by first | omega | (simp only [Int.toNat_natCast]; omega)) (by first | omega | (simp only [Int.toNat_natCast]; omega)) ?_
        try simp only [Int.toNat_natCast, tq_4, tq_8, tq_22, tq_27, tq_99, tq_a, tl_0, tl_1, tl_20, tl_21, tl_22, tl_32]
        refine r_aload_n 73 dX4_want_72 rfl rfl ?_
        refine r_getR 76 dX4_want_73 rfl kf_4_7 rfl (by first | assumption | omega) (by assumption) (by assumption) ?_
        refine r_bipush 78 dX4_want_76 rfl rfl (by decide) ?_
        refine r_dup2 79 dX4_want_78 rfl rfl rfl ?_
        refine r_iald 80 dX4_want_79 rfl (by first | assumption | omega) (by assumption) (by first | omega | (simp only [Int.toNat_natCast]; omega)) (by first | omega | (simp only [Int.toNat_natCast]; omega)) ?_
        try simp only [Int.toNat_natCast, tq_4, tq_8, tq_22, tq_27, tq_99, tq_a, tl_0, tl_1, tl_20, tl_21, tl_22, tl_32]
        rotate_left -- leaf: pc 80
        rw [e2, hd]
        refine r_iconst 81 dX4_want_80 rfl rfl ?_
        refine r_iadd 82 dX4_want_81 rfl (by first | exact w32_id (by omega) (by omega) | rfl) ?_
        refine r_iast 83 dX4_want_82 rfl (by first | assumption | omega) (by assumption) (by first | omega | (simp only [Int.toNat_natCast]; omega)) (by first | omega | (simp only [Int.toNat_natCast]; omega)) ?_
        try simp only [Int.toNat_natCast, tq_4, tq_8, tq_22, tq_27, tq_99, tq_a, tl_0, tl_1, tl_20, tl_21, tl_22, tl_32]
        refine r_aload_n 84 dX4_want_83 rfl rfl ?_
        refine r_getR 87 dX4_want_84 rfl kf_4_7 rfl (by first | assumption | omega) (by assumption) (by assumption) ?_
        refine r_bipush 89 dX4_want_87 rfl rfl (by decide) ?_
        refine r_iald 90 dX4_want_89 rfl (by first | assumption | omega) (by assumption) (by first | omega | (simp only [Int.toNat_natCast]; omega)) (by first | omega | (simp only [Int.toNat_natCast]; omega)) ?_
        try simp only [Int.toNat_natCast, tq_4, tq_8, tq_22, tq_27, tq_99, tq_a, tl_0, tl_1, tl_20, tl_21, tl_22, tl_32]
        refine r_iret dX4_want_90 rfl ?_
        rotate_left -- leaf: return at pc 90
        exact ⟨by rw [up_s], rfl⟩
      · rw [if_pos c_34]
        exact ⟨rfl, rfl⟩
    · rw [if_pos (fun z => z01_n.mp c_21 z.2)]
      exact ⟨rfl, rfl⟩
def nShows (q : Int) (h : zH) : Int := if 0 ≤ q ∧ q ≤ 47 then rdM (h 46) q.toNat else -1
theorem m_shows (lm : LM G) (wm : wM h) (q : Int) : Ca l G 4 mX4_shows [vR 45, vI q] h (fun r h' => r = some (vI (nShows q h)) ∧ scm h h') := by
  have lm0 := lm
  have wm0 := wm
  obtain ⟨hN, ⟨ms45, ms46, ms47, ms48, ms49, ms50, ms51, ms52, ms53, ms54, ms55, ms56, ms57⟩, ⟨ml46, ml47, ml48, ml49, ml50, ml51, ml52, ml53, ml54, ml55, ml56, ml57⟩, ⟨mr0, mr2, mr7, mr16, mr17, mr18, mr20, mr22, mr24, mr25, mr26, mr27⟩⟩ := lm
  obtain ⟨⟨wg1, wg2, wg3, wg4, wg5, wg6, wg7, wg8⟩, wmen, wtp, wsm⟩ := wm
  refine Ca.of (by decide) (Nat.le_of_ble_eq_true rfl) (fun hI hv hH => ?_)
  unfold nShows
  refine r_iload_n 1 dX4_shows_0 rfl rfl ?_
  refine r_i2l 2 dX4_shows_1 rfl ?_
  refine r_lconst 3 dX4_shows_2 rfl 0 rfl (by decide) ?_
  refine r_ldc2 6 (47) dX4_shows_3 rfl kq_4_182 rfl ?_
  rotate_left -- leaf: call at pc 6
  refine r_cs3 9 dX4_shows_6 rfl ks_4_49 rfl rfl (c_in q 0 47) ?_
  rintro r h' ⟨rfl, rfl⟩
  refine r_if_ne 14 12 dX4_shows_9 (by decide) rfl (fun c_9 => ?_) (fun c_9 => ?_)
  refine r_aload_n 15 dX4_shows_14 rfl rfl ?_
  rotate_left -- leaf: call at pc 15
  refine r_iconst 13 dX4_shows_12 rfl rfl ?_
  refine r_iret dX4_shows_13 rfl ?_
  rotate_left -- leaf: return at pc 13
  · have hq := z01_y.mp c_9
    rw [if_pos hq]
    obtain ⟨q, rfl⟩ := nat_of hq.1
    refine r_cv0 18 dX4_shows_15 rfl kv_4_149 (by first | assumption | omega) (by assumption) rfl rfl (m_lays lm0 wm0.1) ?_
    rintro r h'' ⟨rfl, rfl⟩
    refine r_aload_n 19 dX4_shows_18 rfl rfl ?_
    refine r_getR 22 dX4_shows_19 rfl kf_4_25 rfl (by first | assumption | omega) (by assumption) (by assumption) ?_
    refine r_iload_n 23 dX4_shows_22 rfl rfl ?_
    refine r_iald 24 dX4_shows_23 rfl (by first | assumption | omega) (by assumption) (by first | omega | (simp only [Int.toNat_natCast]; omega)) (by first | omega | (simp only [Int.toNat_natCast]; omega)) ?_
    try simp only [Int.toNat_natCast, tq_4, tq_8, tq_22, tq_27, tq_99, tq_a, tl_0, tl_1, tl_20, tl_21, tl_22, tl_32]
    refine r_iret dX4_shows_24 rfl ?_
    rotate_left -- leaf: return at pc 24
    exact ⟨by rw [setB_i (by omega)], fun _ _ z => setB_n z⟩
  · rw [if_neg (z01_n.mp c_9)]
    exact ⟨rfl, fun _ _ _ => rfl⟩
end MO
