/-! SunPointerModel: what is read, seen, kept, laid -/
section MO
variable {l : Launch} {G : zG} {h : zH}
def nDeed (i x : Int) (h : zH) : Int := if ¬ ((0 ≤ i ∧ i < h 46 32) ∧ (0 ≤ x ∧ x ≤ 3)) then -1 else if x < 2 then h 46 (22 + 5 * x + i).toNat else if x = 2 then dnM (h 46) i.toNat else haM (h 46) i.toNat
theorem m_deed (lm : LM G) (wm : wM h) (i x : Int) : Ca l G 4 mX4_deed [vR 45, vI i, vI x] h (fun r h' => r = some (vI (nDeed i x h)) ∧ scm h h') := by
  have lm0 := lm
  have wm0 := wm
  obtain ⟨hN, ⟨ms45, ms46, ms47, ms48, ms49, ms50, ms51, ms52, ms53, ms54, ms55, ms56, ms57⟩, ⟨ml46, ml47, ml48, ml49, ml50, ml51, ml52, ml53, ml54, ml55, ml56, ml57⟩, ⟨mr0, mr2, mr7, mr16, mr17, mr18, mr20, mr22, mr24, mr25, mr26, mr27⟩⟩ := lm
  obtain ⟨⟨wg1, wg2, wg3, wg4, wg5, wg6, wg7, wg8⟩, wmen, wtp, wsm⟩ := wm
  refine Ca.of (by decide) (Nat.le_of_ble_eq_true rfl) (fun hI hv hH => ?_)
  unfold nDeed
  refine r_aload_n 1 dX4_deed_0 rfl rfl ?_
  refine r_iload_n 2 dX4_deed_1 rfl rfl ?_
  rotate_left -- leaf: call at pc 2
  refine r_cv1 5 dX4_deed_2 rfl kv_4_173 (by first | assumption | omega) (by assumption) rfl rfl (m_isDeed lm0 wm0 i) ?_
  rintro r h' ⟨rfl, rfl⟩
  refine r_if_eq 20 8 dX4_deed_5 (by decide) rfl (fun c_5 => ?_) (fun c_5 => ?_)
  refine r_iconst 21 dX4_deed_20 rfl rfl ?_
  refine r_iret dX4_deed_21 rfl ?_
  rotate_left -- leaf: return at pc 21
  refine r_iload_n 9 dX4_deed_8 rfl rfl ?_
  refine r_i2l 10 dX4_deed_9 rfl ?_
  refine r_lconst 11 dX4_deed_10 rfl 0 rfl (by decide) ?_
  refine r_ldc2 14 (3) dX4_deed_11 rfl kq_4_165 rfl ?_
  rotate_left -- leaf: call at pc 14
  · rw [if_pos (fun z => z01_n.mp c_5 z.1)]
    exact ⟨rfl, fun _ _ _ => rfl⟩
  · have hi := z01_y.mp c_5
    refine r_cs3 17 dX4_deed_14 rfl ks_4_49 rfl rfl (c_in x 0 3) ?_
    rintro r h'' ⟨rfl, rfl⟩
    refine r_if_ne 22 20 dX4_deed_17 (by decide) rfl (fun c_17 => ?_) (fun c_17 => ?_)
    refine r_aload_n 23 dX4_deed_22 rfl rfl ?_
    rotate_left -- leaf: call at pc 23
    refine r_iconst 21 dX4_deed_20 rfl rfl ?_
    refine r_iret dX4_deed_21 rfl ?_
    rotate_left -- leaf: return at pc 21
    · have hx := z01_y.mp c_17
      rw [if_neg (fun z => z ⟨hi, hx⟩)]
      obtain ⟨i, rfl⟩ := nat_of hi.1
      refine r_cv0 26 dX4_deed_23 rfl kv_4_149 (by first | assumption | omega) (by assumption) rfl rfl (m_lays lm0 wm0.1) ?_
      rintro r h3 ⟨rfl, rfl⟩
      have e46 : ∀ b, setB h'' 51 48 (rdM (h'' 46)) 46 b = h'' 46 b := fun b => setB_n (by omega)
      refine r_iload_n 27 dX4_deed_26 rfl rfl ?_
      refine r_iconst 28 dX4_deed_27 rfl rfl ?_
      refine r_icmp_ge 47 31 dX4_deed_28 (by decide) rfl (fun c_28 => ?_) (fun c_28 => ?_)
      refine r_iload_n 48 dX4_deed_47 rfl rfl ?_
      refine r_iconst 49 dX4_deed_48 rfl rfl ?_
      refine r_icmp_ne 60 52 dX4_deed_49 (by decide) rfl (fun c_49 => ?_) (fun c_49 => ?_)
      refine r_aload_n 61 dX4_deed_60 rfl rfl ?_
      refine r_iload_n 62 dX4_deed_61 rfl rfl ?_
      rotate_left -- leaf: call at pc 62
      refine r_aload_n 53 dX4_deed_52 rfl rfl ?_
      refine r_iload_n 54 dX4_deed_53 rfl rfl ?_
      rotate_left -- leaf: call at pc 54
      refine r_aload_n 32 dX4_deed_31 rfl rfl ?_
      refine r_getR 35 dX4_deed_32 rfl kf_4_7 rfl (by first | assumption | omega) (by assumption) (by assumption) ?_
      refine r_bipush 37 dX4_deed_35 rfl rfl (by decide) ?_
      refine r_iconst 38 dX4_deed_37 rfl rfl ?_
      refine r_iload_n 39 dX4_deed_38 rfl rfl ?_
      refine r_imul 40 dX4_deed_39 rfl (by first | exact w32_id (by omega) (by omega) | rfl) ?_
      refine r_iadd 41 dX4_deed_40 rfl (by first | exact w32_id (by omega) (by omega) | rfl) ?_
      refine r_iload_n 42 dX4_deed_41 rfl rfl ?_
      refine r_iadd 43 dX4_deed_42 rfl (by first | exact w32_id (by omega) (by omega) | rfl) ?_
      refine r_iald 44 dX4_deed_43 rfl (by first | assumption | omega) (by assumption) (by first | omega | (simp only [Int.toNat_natCast]; omega)) (by first | omega | (simp only [Int.toNat_natCast]; omega)) ?_
      try simp only [Int.toNat_natCast, tq_4, tq_8, tq_22, tq_27, tq_99, tq_a, tl_0, tl_1, tl_20, tl_21, tl_22, tl_32]
      refine r_goto 65 dX4_deed_44 (by decide) ?_
      refine r_iret dX4_deed_65 rfl ?_
      rotate_left -- leaf: return at pc 65
      · rw [if_neg (by omega), if_neg (by omega)]
        refine r_cv1 65 dX4_deed_62 rfl kv_4_152 (by first | assumption | omega) (by assumption) rfl rfl (m_harmOf lm0 i (by omega) (by rw [e46]; exact wg6 i (by omega)) (by rw [e46]; exact wg7 i (by omega))) ?_
        rintro r h4 ⟨rfl, rfl⟩
        refine r_iret dX4_deed_65 rfl ?_
        rotate_left -- leaf: return at pc 65
        refine ⟨?_, fun _ _ z => setB_n z⟩
        rw [e46, e46, dsM_set 48 0 (by omega), Int.toNat_natCast]
        rfl
      · rw [if_neg (by omega), if_pos (by omega)]
        refine r_cv1 57 dX4_deed_54 rfl kv_4_146 (by first | assumption | omega) (by assumption) rfl rfl (m_doneIn lm0 i (by omega)) ?_
        rintro r h4 ⟨rfl, rfl⟩
        refine r_goto 65 dX4_deed_57 (by decide) ?_
        refine r_iret dX4_deed_65 rfl ?_
        rotate_left -- leaf: return at pc 65
        refine ⟨?_, fun _ _ z => setB_n z⟩
        rw [e46, dsM_set 48 0 (by omega), Int.toNat_natCast]
        rfl
      · rw [if_pos (by omega)]
        refine ⟨?_, fun _ _ z => setB_n z⟩
        rw [setB_n (by omega)]
    · rw [if_pos (fun z => z01_n.mp c_17 z.2)]
      exact ⟨rfl, fun _ _ _ => rfl⟩
def tSee (i q : Int) (h : zH) : Int × zH := if ¬ ((0 ≤ i ∧ i < h 46 32) ∧ (q = -4 ∨ (0 ≤ q ∧ q ≤ 47))) then (-1, h) else if h 45 21 = 6 then (-3, h) else (h 45 21 + 1, up (up (up h 52 (2 * h 45 21).toNat i) 52 (2 * h 45 21 + 1).toNat q) 45 21 (h 45 21 + 1))
theorem m_see (lm : LM G) (wm : wM h) (i q : Int) : Ca l G 2 mX4_see [vR 45, vI i, vI q] h (fun r h' => r = some (vI (tSee i q h).1) ∧ h' = (tSee i q h).2) := by
  have lm0 := lm
  have wm0 := wm
  obtain ⟨hN, ⟨ms45, ms46, ms47, ms48, ms49, ms50, ms51, ms52, ms53, ms54, ms55, ms56, ms57⟩, ⟨ml46, ml47, ml48, ml49, ml50, ml51, ml52, ml53, ml54, ml55, ml56, ml57⟩, ⟨mr0, mr2, mr7, mr16, mr17, mr18, mr20, mr22, mr24, mr25, mr26, mr27⟩⟩ := lm
  obtain ⟨⟨wg1, wg2, wg3, wg4, wg5, wg6, wg7, wg8⟩, wmen, wtp, wsm⟩ := wm
  refine Ca.of (by decide) (Nat.le_of_ble_eq_true rfl) (fun hI hv hH => ?_)
  have Jy : ((0 ≤ i ∧ i < h 46 32) ∧ (q = -4 ∨ (0 ≤ q ∧ q ≤ 47))) → Rr l G 2 mX4_see (fun r h' => r = some (vI (tSee i q h).1) ∧ h' = (tSee i q h).2) 28 [some (vR 45), some (vI i), some (vI q)] [] h := by
    intro hc
    unfold tSee
    rw [if_neg (fun z => z hc)]
    refine r_aload_n 29 dX4_see_28 rfl rfl ?_
    refine r_getI 32 dX4_see_29 rfl kf_4_131 rfl (by first | assumption | omega) (by assumption) ?_
    refine r_bipush 34 dX4_see_32 rfl rfl (by decide) ?_
    refine r_icmp_ne 40 37 dX4_see_34 (by decide) rfl (fun c_34 => ?_) (fun c_34 => ?_)
    rotate_left -- leaf: pc 40
    refine r_bipush 39 dX4_see_37 rfl rfl (by decide) ?_
    refine r_iret dX4_see_39 rfl ?_
    rotate_left -- leaf: return at pc 39
    · rw [if_neg c_34]
      have e1 : up h 52 (2 * h 45 21).toNat i 45 21 = h 45 21 := up_k (by omega)
      have e2 : up (up h 52 (2 * h 45 21).toNat i) 52 (2 * h 45 21 + 1).toNat q 45 21 = h 45 21 := by rw [up_k (by omega), e1]
      refine r_aload_n 41 dX4_see_40 rfl rfl ?_
      refine r_getR 44 dX4_see_41 rfl kf_4_28 rfl (by first | assumption | omega) (by assumption) (by assumption) ?_
      refine r_iconst 45 dX4_see_44 rfl rfl ?_
      refine r_aload_n 46 dX4_see_45 rfl rfl ?_
      refine r_getI 49 dX4_see_46 rfl kf_4_131 rfl (by first | assumption | omega) (by assumption) ?_
      refine r_imul 50 dX4_see_49 rfl (by first | exact w32_id (by omega) (by omega) | rfl) ?_
      refine r_iload_n 51 dX4_see_50 rfl rfl ?_
      refine r_iast 52 dX4_see_51 rfl (by first | assumption | omega) (by assumption) (by first | omega | (simp only [Int.toNat_natCast]; omega)) (by first | omega | (simp only [Int.toNat_natCast]; omega)) ?_
      try simp only [Int.toNat_natCast, tq_4, tq_8, tq_22, tq_27, tq_99, tq_a, tl_0, tl_1, tl_20, tl_21, tl_22, tl_32]
      refine r_aload_n 53 dX4_see_52 rfl rfl ?_
      refine r_getR 56 dX4_see_53 rfl kf_4_28 rfl (by first | assumption | omega) (by assumption) (by assumption) ?_
      refine r_iconst 57 dX4_see_56 rfl rfl ?_
      refine r_aload_n 58 dX4_see_57 rfl rfl ?_
      refine r_getI 61 dX4_see_58 rfl kf_4_131 rfl (by first | assumption | omega) (by assumption) ?_
      rotate_left -- leaf: pc 61
      rw [e1]
      refine r_imul 62 dX4_see_61 rfl (by first | exact w32_id (by omega) (by omega) | rfl) ?_
      refine r_iconst 63 dX4_see_62 rfl rfl ?_
      refine r_iadd 64 dX4_see_63 rfl (by first | exact w32_id (by omega) (by omega) | rfl) ?_
      refine r_iload_n 65 dX4_see_64 rfl rfl ?_
      refine r_iast 66 dX4_see_65 rfl (by first | assumption | omega) (by assumption) (by first | omega | (simp only [Int.toNat_natCast]; omega)) (by first | omega | (simp only [Int.toNat_natCast]; omega)) ?_
      try simp only [Int.toNat_natCast, tq_4, tq_8, tq_22, tq_27, tq_99, tq_a, tl_0, tl_1, tl_20, tl_21, tl_22, tl_32]
      refine r_aload_n 67 dX4_see_66 rfl rfl ?_
      refine r_dup 68 dX4_see_67 rfl rfl ?_
      refine r_getI 71 dX4_see_68 rfl kf_4_131 rfl (by first | assumption | omega) (by assumption) ?_
      rotate_left -- leaf: pc 71
      rw [e2]
      refine r_iconst 72 dX4_see_71 rfl rfl ?_
      refine r_iadd 73 dX4_see_72 rfl (by first | exact w32_id (by omega) (by omega) | rfl) ?_
      refine r_putI 76 dX4_see_73 rfl kf_4_131 rfl rfl (Or.inl rfl) (by first | assumption | omega) (by assumption) ?_
      refine r_aload_n 77 dX4_see_76 rfl rfl ?_
      refine r_getI 80 dX4_see_77 rfl kf_4_131 rfl (by first | assumption | omega) (by assumption) ?_
      refine r_iret dX4_see_80 rfl ?_
      rotate_left -- leaf: return at pc 80
      exact ⟨by rw [up_s], rfl⟩
    · rw [if_pos c_34]
      exact ⟨rfl, rfl⟩
  refine r_aload_n 1 dX4_see_0 rfl rfl ?_
  refine r_iload_n 2 dX4_see_1 rfl rfl ?_
  rotate_left -- leaf: call at pc 2
  refine r_cv1 5 dX4_see_2 rfl kv_4_173 (by first | assumption | omega) (by assumption) rfl rfl (m_isDeed lm0 wm0 i) ?_
  rintro r h' ⟨rfl, rfl⟩
  refine r_if_eq 26 8 dX4_see_5 (by decide) rfl (fun c_5 => ?_) (fun c_5 => ?_)
  refine r_iconst 27 dX4_see_26 rfl rfl ?_
  refine r_iret dX4_see_27 rfl ?_
  rotate_left -- leaf: return at pc 27
  refine r_iload_n 9 dX4_see_8 rfl rfl ?_
  refine r_bipush 11 dX4_see_9 rfl rfl (by decide) ?_
  refine r_icmp_eq 28 14 dX4_see_11 (by decide) rfl (fun c_11 => ?_) (fun c_11 => ?_)
  rotate_left -- leaf: pc 28
  refine r_iload_n 15 dX4_see_14 rfl rfl ?_
  refine r_i2l 16 dX4_see_15 rfl ?_
  refine r_lconst 17 dX4_see_16 rfl 0 rfl (by decide) ?_
  refine r_ldc2 20 (47) dX4_see_17 rfl kq_4_182 rfl ?_
  rotate_left -- leaf: call at pc 20
  · unfold tSee
    rw [if_pos (fun z => z01_n.mp c_5 z.1)]
    exact ⟨rfl, rfl⟩
  · exact Jy ⟨z01_y.mp c_5, Or.inl c_11⟩
  · refine r_cs3 23 dX4_see_20 rfl ks_4_49 rfl rfl (c_in q 0 47) ?_
    rintro r h'' ⟨rfl, rfl⟩
    refine r_if_ne 28 26 dX4_see_23 (by decide) rfl (fun c_23 => ?_) (fun c_23 => ?_)
    rotate_left -- leaf: pc 28
    refine r_iconst 27 dX4_see_26 rfl rfl ?_
    refine r_iret dX4_see_27 rfl ?_
    rotate_left -- leaf: return at pc 27
    · exact Jy ⟨z01_y.mp c_5, Or.inr (z01_y.mp c_23)⟩
    · have hq := z01_n.mp c_23
      unfold tSee
      rw [if_pos (fun z => by omega)]
      exact ⟨rfl, rfl⟩
def tForget (n : Int) (h : zH) : Int × zH := if 0 ≤ n ∧ n ≤ h 45 21 then (h 45 21, up h 45 21 n) else (-1, h)
theorem m_forget (lm : LM G) (n : Int) : Ca l G 1 mX4_forget [vR 45, vI n] h (fun r h' => r = some (vI (tForget n h).1) ∧ h' = (tForget n h).2) := by
  obtain ⟨hN, ⟨ms45, ms46, ms47, ms48, ms49, ms50, ms51, ms52, ms53, ms54, ms55, ms56, ms57⟩, ⟨ml46, ml47, ml48, ml49, ml50, ml51, ml52, ml53, ml54, ml55, ml56, ml57⟩, ⟨mr0, mr2, mr7, mr16, mr17, mr18, mr20, mr22, mr24, mr25, mr26, mr27⟩⟩ := lm
  refine Ca.of (by decide) (Nat.le_of_ble_eq_true rfl) (fun hI hv hH => ?_)
  unfold tForget
  refine r_iload_n 1 dX4_forget_0 rfl rfl ?_
  refine r_i2l 2 dX4_forget_1 rfl ?_
  refine r_lconst 3 dX4_forget_2 rfl 0 rfl (by decide) ?_
  refine r_aload_n 4 dX4_forget_3 rfl rfl ?_
  refine r_getI 7 dX4_forget_4 rfl kf_4_131 rfl (by first | assumption | omega) (by assumption) ?_
  refine r_i2l 8 dX4_forget_7 rfl ?_
  rotate_left -- leaf: call at pc 8
  refine r_cs3 11 dX4_forget_8 rfl ks_4_49 rfl rfl (c_in n 0 (h 45 21)) ?_
  rintro r h' ⟨rfl, rfl⟩
  refine r_if_ne 16 14 dX4_forget_11 (by decide) rfl (fun c_11 => ?_) (fun c_11 => ?_)
  refine r_aload_n 17 dX4_forget_16 rfl rfl ?_
  refine r_getI 20 dX4_forget_17 rfl kf_4_131 rfl (by first | assumption | omega) (by assumption) ?_
  refine r_istore_n 21 dX4_forget_20 rfl rfl rfl ?_
  refine r_aload_n 22 dX4_forget_21 rfl rfl ?_
  refine r_iload_n 23 dX4_forget_22 rfl rfl ?_
  refine r_putI 26 dX4_forget_23 rfl kf_4_131 rfl rfl (Or.inl rfl) (by first | assumption | omega) (by assumption) ?_
  refine r_iload_n 27 dX4_forget_26 rfl rfl ?_
  refine r_iret dX4_forget_27 rfl ?_
  rotate_left -- leaf: return at pc 27
  refine r_iconst 15 dX4_forget_14 rfl rfl ?_
  refine r_iret dX4_forget_15 rfl ?_
  rotate_left -- leaf: return at pc 15
  · rw [if_pos (z01_y.mp c_11)]
    exact ⟨rfl, rfl⟩
  · rw [if_neg (z01_n.mp c_11)]
    exact ⟨rfl, rfl⟩
theorem m_isLess (lm : LM G) (v : Int) : Ca l G 0 mX4_isLess [vR 45, vI v] h (fun r h' => (v < h 45 19 ∧ r = some (vI 1) ∧ h' = up h 45 19 v) ∨ (h 45 19 ≤ v ∧ r = some (vI 0) ∧ h' = h)) := by
  obtain ⟨hN, ⟨ms45, ms46, ms47, ms48, ms49, ms50, ms51, ms52, ms53, ms54, ms55, ms56, ms57⟩, ⟨ml46, ml47, ml48, ml49, ml50, ml51, ml52, ml53, ml54, ml55, ml56, ml57⟩, ⟨mr0, mr2, mr7, mr16, mr17, mr18, mr20, mr22, mr24, mr25, mr26, mr27⟩⟩ := lm
  refine Ca.of (by decide) (Nat.le_of_ble_eq_true rfl) (fun hI hv hH => ?_)
  refine r_iload_n 1 dX4_isLess_0 rfl rfl ?_
  refine r_aload_n 2 dX4_isLess_1 rfl rfl ?_
  refine r_getI 5 dX4_isLess_2 rfl kf_4_189 rfl (by first | assumption | omega) (by assumption) ?_
  refine r_icmp_ge 12 8 dX4_isLess_5 (by decide) rfl (fun c_5 => ?_) (fun c_5 => ?_)
  refine r_iconst 13 dX4_isLess_12 rfl rfl ?_
  rotate_left -- leaf: pc 13
  refine r_iconst 9 dX4_isLess_8 rfl rfl ?_
  refine r_goto 13 dX4_isLess_9 (by decide) ?_
  rotate_left -- leaf: pc 13
  · refine r_istore_n 14 dX4_isLess_13 rfl rfl rfl ?_
    refine r_aload_n 15 dX4_isLess_14 rfl rfl ?_
    refine r_iload_n 16 dX4_isLess_15 rfl rfl ?_
    refine r_if_eq 23 19 dX4_isLess_16 (by decide) rfl (fun c_16 => ?_) (fun c_16 => ?_)
    refine r_aload_n 24 dX4_isLess_23 rfl rfl ?_
    refine r_getI 27 dX4_isLess_24 rfl kf_4_189 rfl (by first | assumption | omega) (by assumption) ?_
    refine r_putI 30 dX4_isLess_27 rfl kf_4_189 rfl rfl (Or.inl rfl) (by first | assumption | omega) (by assumption) ?_
    refine r_iload_n 31 dX4_isLess_30 rfl rfl ?_
    refine r_zret dX4_isLess_31 rfl (by first | exact Or.inl rfl | exact Or.inr rfl | assumption | omega) ?_
    rotate_left -- leaf: return at pc 31
    refine r_iload_n 20 dX4_isLess_19 rfl rfl ?_
    refine r_goto 27 dX4_isLess_20 (by decide) ?_
    refine r_putI 30 dX4_isLess_27 rfl kf_4_189 rfl rfl (Or.inl rfl) (by first | assumption | omega) (by assumption) ?_
    refine r_iload_n 31 dX4_isLess_30 rfl rfl ?_
    refine r_zret dX4_isLess_31 rfl (by first | exact Or.inl rfl | exact Or.inr rfl | assumption | omega) ?_
    rotate_left -- leaf: return at pc 31
    · refine Or.inr ⟨c_5, rfl, ?_⟩
      exact up_id
    · omega
  · refine r_istore_n 14 dX4_isLess_13 rfl rfl rfl ?_
    refine r_aload_n 15 dX4_isLess_14 rfl rfl ?_
    refine r_iload_n 16 dX4_isLess_15 rfl rfl ?_
    refine r_if_eq 23 19 dX4_isLess_16 (by decide) rfl (fun c_16 => ?_) (fun c_16 => ?_)
    refine r_aload_n 24 dX4_isLess_23 rfl rfl ?_
    refine r_getI 27 dX4_isLess_24 rfl kf_4_189 rfl (by first | assumption | omega) (by assumption) ?_
    refine r_putI 30 dX4_isLess_27 rfl kf_4_189 rfl rfl (Or.inl rfl) (by first | assumption | omega) (by assumption) ?_
    refine r_iload_n 31 dX4_isLess_30 rfl rfl ?_
    refine r_zret dX4_isLess_31 rfl (by first | exact Or.inl rfl | exact Or.inr rfl | assumption | omega) ?_
    rotate_left -- leaf: return at pc 31
    refine r_iload_n 20 dX4_isLess_19 rfl rfl ?_
    refine r_goto 27 dX4_isLess_20 (by decide) ?_
    refine r_putI 30 dX4_isLess_27 rfl kf_4_189 rfl rfl (Or.inl rfl) (by first | assumption | omega) (by assumption) ?_
    refine r_iload_n 31 dX4_isLess_30 rfl rfl ?_
    refine r_zret dX4_isLess_31 rfl (by first | exact Or.inl rfl | exact Or.inr rfl | assumption | omega) ?_
    rotate_left -- leaf: return at pc 31
    · omega
    · exact Or.inl ⟨c_5, rfl, rfl⟩
/-- a page of the row state is copied -/
def cpP (h : zH) (a b : Nat) : Nat → zH
  | 0 => h
  | n + 1 => up (cpP h a b n) 46 (b + n) (cpP h a b n 46 (a + n))
theorem l_copies (lm : LM G) (a b : Nat) (ha : a ≤ 99) (hb : b ≤ 99) {Φ : Option zV → zH → Prop} (hΦ : Φ none (cpP h a b 33)) : ∀ (n j : Nat), j + n = 33 → Rr l G 0 mX4_copies Φ 2 [some (vR 45), some (vI a), some (vI b), some (vI j)] [] (cpP h a b j) := by
  obtain ⟨hN, ⟨ms45, ms46, ms47, ms48, ms49, ms50, ms51, ms52, ms53, ms54, ms55, ms56, ms57⟩, ⟨ml46, ml47, ml48, ml49, ml50, ml51, ml52, ml53, ml54, ml55, ml56, ml57⟩, ⟨mr0, mr2, mr7, mr16, mr17, mr18, mr20, mr22, mr24, mr25, mr26, mr27⟩⟩ := lm
  intro n
  induction n with
  | zero =>
    intro j hj
    obtain rfl : j = 33 := by omega
    refine r_iload_n 3 dX4_copies_2 rfl rfl ?_
    refine r_bipush 5 dX4_copies_3 rfl rfl (by decide) ?_
    refine r_icmp_ge 30 8 dX4_copies_5 (by decide) rfl (fun c_5 => ?_) (fun c_5 => ?_)
    refine r_ret dX4_copies_30 rfl ?_
    rotate_left -- leaf: return at pc 30
    rotate_left -- leaf: pc 8
    · exact hΦ
    · omega
  | succ n ih =>
    intro j hj
    refine r_iload_n 3 dX4_copies_2 rfl rfl ?_
    refine r_bipush 5 dX4_copies_3 rfl rfl (by decide) ?_
    refine r_icmp_ge 30 8 dX4_copies_5 (by decide) rfl (fun c_5 => ?_) (fun c_5 => ?_)
    rotate_left -- leaf: pc 30
    refine r_aload_n 9 dX4_copies_8 rfl rfl ?_
    refine r_getR 12 dX4_copies_9 rfl kf_4_7 rfl (by first | assumption | omega) (by assumption) (by assumption) ?_
    refine r_iload_n 13 dX4_copies_12 rfl rfl ?_
    refine r_iload_n 14 dX4_copies_13 rfl rfl ?_
    refine r_iadd 15 dX4_copies_14 rfl (by first | exact w32_id (by omega) (by omega) | rfl) ?_
    refine r_aload_n 16 dX4_copies_15 rfl rfl ?_
    refine r_getR 19 dX4_copies_16 rfl kf_4_7 rfl (by first | assumption | omega) (by assumption) (by assumption) ?_
    refine r_iload_n 20 dX4_copies_19 rfl rfl ?_
    refine r_iload_n 21 dX4_copies_20 rfl rfl ?_
    refine r_iadd 22 dX4_copies_21 rfl (by first | exact w32_id (by omega) (by omega) | rfl) ?_
    refine r_iald 23 dX4_copies_22 rfl (by first | assumption | omega) (by assumption) (by first | omega | (simp only [Int.toNat_natCast]; omega)) (by first | omega | (simp only [Int.toNat_natCast]; omega)) ?_
    try simp only [Int.toNat_natCast, tq_4, tq_8, tq_22, tq_27, tq_99, tq_a, tl_0, tl_1, tl_20, tl_21, tl_22, tl_32]
    refine r_iast 24 dX4_copies_23 rfl (by first | assumption | omega) (by assumption) (by first | omega | (simp only [Int.toNat_natCast]; omega)) (by first | omega | (simp only [Int.toNat_natCast]; omega)) ?_
    try simp only [Int.toNat_natCast, tq_4, tq_8, tq_22, tq_27, tq_99, tq_a, tl_0, tl_1, tl_20, tl_21, tl_22, tl_32]
    refine r_iinc 27 _ dX4_copies_24 rfl rfl rfl rfl (by first | exact w32_id (by omega) (by omega) | rfl) ?_
    refine r_goto 2 dX4_copies_27 (by decide) ?_
    rotate_left -- leaf: pc 2
    · omega
    · exact ih (j + 1) (by omega)
theorem m_copies (lm : LM G) (a b : Nat) (ha : a ≤ 99) (hb : b ≤ 99) : Ca l G 0 mX4_copies [vR 45, vI a, vI b] h (fun r h' => r = none ∧ h' = cpP h a b 33) := by
  refine Ca.of (by decide) (Nat.le_of_ble_eq_true rfl) (fun hI hv hH => ?_)
  refine r_iconst 1 dX4_copies_0 rfl rfl ?_
  refine r_istore_n 2 dX4_copies_1 rfl rfl rfl ?_
  rotate_left -- leaf: pc 2
  exact l_copies (l := l) lm a b ha hb (Φ := fun r h' => r = none ∧ h' = cpP h a b 33) ⟨rfl, rfl⟩ 33 0 rfl
theorem cpP_o {a b c e : Nat} (q : c ≠ 46) : ∀ n, cpP h a b n c e = h c e
  | 0 => rfl
  | n + 1 => by unfold cpP; rw [up_k q]; exact cpP_o q n
def tKeep (k : Int) (h : zH) : Int × zH := if 0 ≤ k ∧ k ≤ 1 then (h 54 k.toNat, up (cpP h 0 (33 * (k.toNat + 1)) 33) 54 k.toNat 1) else (-1, h)
theorem m_keep (lm : LM G) (wk : ∀ j, h 54 j = 0 ∨ h 54 j = 1) (k : Int) : Ca l G 1 mX4_keep [vR 45, vI k] h (fun r h' => r = some (vI (tKeep k h).1) ∧ h' = (tKeep k h).2) := by
  have lm0 := lm
  obtain ⟨hN, ⟨ms45, ms46, ms47, ms48, ms49, ms50, ms51, ms52, ms53, ms54, ms55, ms56, ms57⟩, ⟨ml46, ml47, ml48, ml49, ml50, ml51, ml52, ml53, ml54, ml55, ml56, ml57⟩, ⟨mr0, mr2, mr7, mr16, mr17, mr18, mr20, mr22, mr24, mr25, mr26, mr27⟩⟩ := lm
  refine Ca.of (by decide) (Nat.le_of_ble_eq_true rfl) (fun hI hv hH => ?_)
  unfold tKeep
  refine r_iload_n 1 dX4_keep_0 rfl rfl ?_
  refine r_i2l 2 dX4_keep_1 rfl ?_
  refine r_lconst 3 dX4_keep_2 rfl 0 rfl (by decide) ?_
  refine r_lconst 4 dX4_keep_3 rfl 1 rfl (by decide) ?_
  rotate_left -- leaf: call at pc 4
  refine r_cs3 7 dX4_keep_4 rfl ks_4_49 rfl rfl (c_in k 0 1) ?_
  rintro r h' ⟨rfl, rfl⟩
  refine r_if_ne 12 10 dX4_keep_7 (by decide) rfl (fun c_7 => ?_) (fun c_7 => ?_)
  rotate_left -- leaf: pc 12
  refine r_iconst 11 dX4_keep_10 rfl rfl ?_
  refine r_iret dX4_keep_11 rfl ?_
  rotate_left -- leaf: return at pc 11
  · have hk := z01_y.mp c_7
    rw [if_pos hk]
    obtain ⟨k, rfl⟩ := nat_of hk.1
    rw [Int.toNat_natCast]
    have w1 := wk k
    refine r_aload_n 13 dX4_keep_12 rfl rfl ?_
    refine r_iconst 14 dX4_keep_13 rfl rfl ?_
    refine r_bipush 16 dX4_keep_14 rfl rfl (by decide) ?_
    refine r_iload_n 17 dX4_keep_16 rfl rfl ?_
    refine r_iconst 18 dX4_keep_17 rfl rfl ?_
    refine r_iadd 19 dX4_keep_18 rfl (by first | exact w32_id (by omega) (by omega) | rfl) ?_
    refine r_imul 20 dX4_keep_19 rfl (by first | exact w32_id (by omega) (by omega) | rfl) ?_
    rotate_left -- leaf: call at pc 20
    rw [show (33 : Int) * ((k : Int) + 1) = ((33 * (k + 1) : Nat) : Int) by omega]
    refine r_cv2 23 dX4_keep_20 rfl kv_4_196 (by first | assumption | omega) (by assumption) rfl rfl (m_copies lm0 0 (33 * (k + 1)) (by omega) (by omega)) ?_
    rintro r h'' ⟨rfl, rfl⟩
    refine r_aload_n 24 dX4_keep_23 rfl rfl ?_
    refine r_getR 27 dX4_keep_24 rfl kf_4_34 rfl (by first | assumption | omega) (by assumption) (by assumption) ?_
    refine r_iload_n 28 dX4_keep_27 rfl rfl ?_
    first | refine r_bald 29 dX4_keep_28 rfl (by first | assumption | omega) (by assumption) (by first | omega | (simp only [Int.toNat_natCast]; omega)) (by first | omega | (simp only [Int.toNat_natCast]; omega)) ?_ | refine r_zald 29 dX4_keep_28 rfl (by first | assumption | omega) (by assumption) (by first | omega | (simp only [Int.toNat_natCast]; omega)) (by first | omega | (simp only [Int.toNat_natCast]; omega)) ?_
    try simp only [Int.toNat_natCast, tq_4, tq_8, tq_22, tq_27, tq_99, tq_a, tl_0, tl_1, tl_20, tl_21, tl_22, tl_32]
    rotate_left -- leaf: pc 29
    rw [cpP_o (by omega)]
    refine r_if_eq 36 32 dX4_keep_29 (by decide) rfl (fun c_29 => ?_) (fun c_29 => ?_)
    refine r_iconst 37 dX4_keep_36 rfl rfl ?_
    refine r_istore_n 38 dX4_keep_37 rfl rfl rfl ?_
    refine r_aload_n 39 dX4_keep_38 rfl rfl ?_
    refine r_getR 42 dX4_keep_39 rfl kf_4_34 rfl (by first | assumption | omega) (by assumption) (by assumption) ?_
    refine r_iload_n 43 dX4_keep_42 rfl rfl ?_
    refine r_iconst 44 dX4_keep_43 rfl rfl ?_
    first | refine r_bast 45 dX4_keep_44 rfl (by first | assumption | omega) (by assumption) (by first | omega | (simp only [Int.toNat_natCast]; omega)) (by first | omega | (simp only [Int.toNat_natCast]; omega)) (by first | omega | (simp only [Int.toNat_natCast]; omega)) (by first | omega | (simp only [Int.toNat_natCast]; omega)) ?_ | refine r_zast 45 dX4_keep_44 rfl (by first | assumption | omega) (by assumption) (by first | omega | (simp only [Int.toNat_natCast]; omega)) (by first | omega | (simp only [Int.toNat_natCast]; omega)) (by first | exact Or.inl rfl | exact Or.inr rfl | omega) ?_
    try simp only [Int.toNat_natCast, tq_4, tq_8, tq_22, tq_27, tq_99, tq_a, tl_0, tl_1, tl_20, tl_21, tl_22, tl_32]
    refine r_iload_n 46 dX4_keep_45 rfl rfl ?_
    refine r_iret dX4_keep_46 rfl ?_
    rotate_left -- leaf: return at pc 46
    refine r_iconst 33 dX4_keep_32 rfl rfl ?_
    refine r_goto 37 dX4_keep_33 (by decide) ?_
    refine r_istore_n 38 dX4_keep_37 rfl rfl rfl ?_
    refine r_aload_n 39 dX4_keep_38 rfl rfl ?_
    refine r_getR 42 dX4_keep_39 rfl kf_4_34 rfl (by first | assumption | omega) (by assumption) (by assumption) ?_
    refine r_iload_n 43 dX4_keep_42 rfl rfl ?_
    refine r_iconst 44 dX4_keep_43 rfl rfl ?_
    first | refine r_bast 45 dX4_keep_44 rfl (by first | assumption | omega) (by assumption) (by first | omega | (simp only [Int.toNat_natCast]; omega)) (by first | omega | (simp only [Int.toNat_natCast]; omega)) (by first | omega | (simp only [Int.toNat_natCast]; omega)) (by first | omega | (simp only [Int.toNat_natCast]; omega)) ?_ | refine r_zast 45 dX4_keep_44 rfl (by first | assumption | omega) (by assumption) (by first | omega | (simp only [Int.toNat_natCast]; omega)) (by first | omega | (simp only [Int.toNat_natCast]; omega)) (by first | exact Or.inl rfl | exact Or.inr rfl | omega) ?_
    try simp only [Int.toNat_natCast, tq_4, tq_8, tq_22, tq_27, tq_99, tq_a, tl_0, tl_1, tl_20, tl_21, tl_22, tl_32]
    refine r_iload_n 46 dX4_keep_45 rfl rfl ?_
    refine r_iret dX4_keep_46 rfl ?_
    rotate_left -- leaf: return at pc 46
    · exact ⟨by rw [c_29], rfl⟩
    · exact ⟨by rw [w1.resolve_left c_29], rfl⟩
  · rw [if_neg (z01_n.mp c_7)]
    exact ⟨rfl, rfl⟩
def tBack (k : Int) (h : zH) : Int × zH := if ¬ (0 ≤ k ∧ k ≤ 1) then (-1, h) else if h 54 k.toNat = 0 then (-2, h) else (hmM (cpP h (33 * (k.toNat + 1)) 0 33 46), setB (cpP h (33 * (k.toNat + 1)) 0 33) 51 48 (rdM (cpP h (33 * (k.toNat + 1)) 0 33 46)))
theorem m_back (lm : LM G) (k : Int) (wg : ∀ k : Nat, k ≤ 1 → ¬ h 54 k = 0 → wPg (cpP h (33 * (k + 1)) 0 33 46)) : Ca l G 5 mX4_back [vR 45, vI k] h (fun r h' => r = some (vI (tBack k h).1) ∧ h' = (tBack k h).2) := by
  have lm0 := lm
  obtain ⟨hN, ⟨ms45, ms46, ms47, ms48, ms49, ms50, ms51, ms52, ms53, ms54, ms55, ms56, ms57⟩, ⟨ml46, ml47, ml48, ml49, ml50, ml51, ml52, ml53, ml54, ml55, ml56, ml57⟩, ⟨mr0, mr2, mr7, mr16, mr17, mr18, mr20, mr22, mr24, mr25, mr26, mr27⟩⟩ := lm
  refine Ca.of (by decide) (Nat.le_of_ble_eq_true rfl) (fun hI hv hH => ?_)
  unfold tBack
  refine r_iload_n 1 dX4_back_0 rfl rfl ?_
  refine r_i2l 2 dX4_back_1 rfl ?_
  refine r_lconst 3 dX4_back_2 rfl 0 rfl (by decide) ?_
  refine r_lconst 4 dX4_back_3 rfl 1 rfl (by decide) ?_
  rotate_left -- leaf: call at pc 4
  refine r_cs3 7 dX4_back_4 rfl ks_4_49 rfl rfl (c_in k 0 1) ?_
  rintro r h' ⟨rfl, rfl⟩
  refine r_if_ne 12 10 dX4_back_7 (by decide) rfl (fun c_7 => ?_) (fun c_7 => ?_)
  rotate_left -- leaf: pc 12
  refine r_iconst 11 dX4_back_10 rfl rfl ?_
  refine r_iret dX4_back_11 rfl ?_
  rotate_left -- leaf: return at pc 11
  · have hk := z01_y.mp c_7
    rw [if_neg (fun z => z hk)]
    obtain ⟨k, rfl⟩ := nat_of hk.1
    rw [Int.toNat_natCast]
    refine r_aload_n 13 dX4_back_12 rfl rfl ?_
    refine r_getR 16 dX4_back_13 rfl kf_4_34 rfl (by first | assumption | omega) (by assumption) (by assumption) ?_
    refine r_iload_n 17 dX4_back_16 rfl rfl ?_
    first | refine r_bald 18 dX4_back_17 rfl (by first | assumption | omega) (by assumption) (by first | omega | (simp only [Int.toNat_natCast]; omega)) (by first | omega | (simp only [Int.toNat_natCast]; omega)) ?_ | refine r_zald 18 dX4_back_17 rfl (by first | assumption | omega) (by assumption) (by first | omega | (simp only [Int.toNat_natCast]; omega)) (by first | omega | (simp only [Int.toNat_natCast]; omega)) ?_
    try simp only [Int.toNat_natCast, tq_4, tq_8, tq_22, tq_27, tq_99, tq_a, tl_0, tl_1, tl_20, tl_21, tl_22, tl_32]
    refine r_if_ne 24 21 dX4_back_18 (by decide) rfl (fun c_18 => ?_) (fun c_18 => ?_)
    refine r_aload_n 25 dX4_back_24 rfl rfl ?_
    refine r_bipush 27 dX4_back_25 rfl rfl (by decide) ?_
    refine r_iload_n 28 dX4_back_27 rfl rfl ?_
    refine r_iconst 29 dX4_back_28 rfl rfl ?_
    refine r_iadd 30 dX4_back_29 rfl (by first | exact w32_id (by omega) (by omega) | rfl) ?_
    refine r_imul 31 dX4_back_30 rfl (by first | exact w32_id (by omega) (by omega) | rfl) ?_
    refine r_iconst 32 dX4_back_31 rfl rfl ?_
    rotate_left -- leaf: call at pc 32
    refine r_bipush 23 dX4_back_21 rfl rfl (by decide) ?_
    refine r_iret dX4_back_23 rfl ?_
    rotate_left -- leaf: return at pc 23
    · rw [if_neg c_18]
      rw [show (33 : Int) * ((k : Int) + 1) = ((33 * (k + 1) : Nat) : Int) by omega]
      refine r_cv2 35 dX4_back_32 rfl kv_4_196 (by first | assumption | omega) (by assumption) rfl rfl (m_copies lm0 (33 * (k + 1)) 0 (by omega) (by omega)) ?_
      rintro r h'' ⟨rfl, rfl⟩
      refine r_aload_n 36 dX4_back_35 rfl rfl ?_
      rotate_left -- leaf: call at pc 36
      refine r_cv0 39 dX4_back_36 rfl kv_4_158 (by first | assumption | omega) (by assumption) rfl rfl (m_harm lm0 (wg k (by omega) c_18)) ?_
      rintro r h'' ⟨rfl, rfl⟩
      refine r_iret dX4_back_39 rfl ?_
      rotate_left -- leaf: return at pc 39
      exact ⟨rfl, rfl⟩
    · rw [if_pos c_18]
      exact ⟨rfl, rfl⟩
  · rw [if_pos (z01_n.mp c_7)]
    exact ⟨rfl, rfl⟩
/-- n cells of the row k from a on are 0 -/
def zeR (h : zH) (k a : Nat) : Nat → zH
  | 0 => h
  | n + 1 => up (zeR h k a n) k (a + n) 0
def tSheet (k a n : Int) (h : zH) : Int × zH := if ¬ (0 ≤ k ∧ k ≤ 3) ∨ ¬ (0 ≤ a ∧ a ≤ 2) ∨ 40 < n then (-1, h) else if n < 0 then (-14, h) else (1, zeR (up (up h 55 k.toNat a) 56 k.toNat n) 57 (40 * k.toNat) 40)
theorem l_msheet (lm : LM G) (k : Nat) (hk : k ≤ 3) (a n : Int) {Φ : Option zV → zH → Prop} (hΦ : Φ (some (vI 1)) (zeR h 57 (40 * k) 40)) : ∀ (m j : Nat), j + m = 40 → Rr l G 1 mX4_sheet Φ 56 [some (vR 45), some (vI k), some (vI a), some (vI n), some (vI j)] [] (zeR h 57 (40 * k) j) := by
  obtain ⟨hN, ⟨ms45, ms46, ms47, ms48, ms49, ms50, ms51, ms52, ms53, ms54, ms55, ms56, ms57⟩, ⟨ml46, ml47, ml48, ml49, ml50, ml51, ml52, ml53, ml54, ml55, ml56, ml57⟩, ⟨mr0, mr2, mr7, mr16, mr17, mr18, mr20, mr22, mr24, mr25, mr26, mr27⟩⟩ := lm
  intro m
  induction m with
  | zero =>
    intro j hj
    obtain rfl : j = 40 := by omega
    refine r_iload 58 dX4_sheet_56 rfl rfl ?_
    refine r_bipush 60 dX4_sheet_58 rfl rfl (by decide) ?_
    refine r_icmp_ge 82 63 dX4_sheet_60 (by decide) rfl (fun c_60 => ?_) (fun c_60 => ?_)
    refine r_iconst 83 dX4_sheet_82 rfl rfl ?_
    refine r_iret dX4_sheet_83 rfl ?_
    rotate_left -- leaf: return at pc 83
    rotate_left -- leaf: pc 63
    · exact hΦ
    · omega
  | succ m ih =>
    intro j hj
    refine r_iload 58 dX4_sheet_56 rfl rfl ?_
    refine r_bipush 60 dX4_sheet_58 rfl rfl (by decide) ?_
    refine r_icmp_ge 82 63 dX4_sheet_60 (by decide) rfl (fun c_60 => ?_) (fun c_60 => ?_)
    rotate_left -- leaf: pc 82
    refine r_aload_n 64 dX4_sheet_63 rfl rfl ?_
    refine r_getR 67 dX4_sheet_64 rfl kf_4_44 rfl (by first | assumption | omega) (by assumption) (by assumption) ?_
    refine r_bipush 69 dX4_sheet_67 rfl rfl (by decide) ?_
    refine r_iload_n 70 dX4_sheet_69 rfl rfl ?_
    refine r_imul 71 dX4_sheet_70 rfl (by first | exact w32_id (by omega) (by omega) | rfl) ?_
    refine r_iload 73 dX4_sheet_71 rfl rfl ?_
    refine r_iadd 74 dX4_sheet_73 rfl (by first | exact w32_id (by omega) (by omega) | rfl) ?_
    refine r_iconst 75 dX4_sheet_74 rfl rfl ?_
    refine r_iast 76 dX4_sheet_75 rfl (by first | assumption | omega) (by assumption) (by first | omega | (simp only [Int.toNat_natCast]; omega)) (by first | omega | (simp only [Int.toNat_natCast]; omega)) ?_
    try simp only [Int.toNat_natCast, tq_4, tq_8, tq_22, tq_27, tq_99, tq_a, tl_0, tl_1, tl_20, tl_21, tl_22, tl_32]
    refine r_iinc 79 _ dX4_sheet_76 rfl rfl rfl rfl (by first | exact w32_id (by omega) (by omega) | rfl) ?_
    refine r_goto 56 dX4_sheet_79 (by decide) ?_
    rotate_left -- leaf: pc 56
    · omega
    · have e : (40 * (k : Int) + (j : Int)).toNat = 40 * k + j := by omega
      rw [e]
      exact ih (j + 1) (by omega)
theorem m_sheet (lm : LM G) (k a n : Int) : Ca l G 1 mX4_sheet [vR 45, vI k, vI a, vI n] h (fun r h' => r = some (vI (tSheet k a n h).1) ∧ h' = (tSheet k a n h).2) := by
  have lm0 := lm
  obtain ⟨hN, ⟨ms45, ms46, ms47, ms48, ms49, ms50, ms51, ms52, ms53, ms54, ms55, ms56, ms57⟩, ⟨ml46, ml47, ml48, ml49, ml50, ml51, ml52, ml53, ml54, ml55, ml56, ml57⟩, ⟨mr0, mr2, mr7, mr16, mr17, mr18, mr20, mr22, mr24, mr25, mr26, mr27⟩⟩ := lm
  refine Ca.of (by decide) (Nat.le_of_ble_eq_true rfl) (fun hI hv hH => ?_)
  unfold tSheet
  refine r_iload_n 1 dX4_sheet_0 rfl rfl ?_
  refine r_i2l 2 dX4_sheet_1 rfl ?_
  refine r_lconst 3 dX4_sheet_2 rfl 0 rfl (by decide) ?_
  refine r_ldc2 6 (3) dX4_sheet_3 rfl kq_4_165 rfl ?_
  rotate_left -- leaf: call at pc 6
  refine r_cs3 9 dX4_sheet_6 rfl ks_4_49 rfl rfl (c_in k 0 3) ?_
  rintro r h' ⟨rfl, rfl⟩
  refine r_if_eq 30 12 dX4_sheet_9 (by decide) rfl (fun c_9 => ?_) (fun c_9 => ?_)
  refine r_iconst 31 dX4_sheet_30 rfl rfl ?_
  refine r_iret dX4_sheet_31 rfl ?_
  rotate_left -- leaf: return at pc 31
  refine r_iload_n 13 dX4_sheet_12 rfl rfl ?_
  refine r_i2l 14 dX4_sheet_13 rfl ?_
  refine r_lconst 15 dX4_sheet_14 rfl 0 rfl (by decide) ?_
  refine r_ldc2 18 (2) dX4_sheet_15 rfl kq_4_231 rfl ?_
  rotate_left -- leaf: call at pc 18
  · rw [if_pos (Or.inl (z01_n.mp c_9))]
    exact ⟨rfl, rfl⟩
  · have hk := z01_y.mp c_9
    refine r_cs3 21 dX4_sheet_18 rfl ks_4_49 rfl rfl (c_in a 0 2) ?_
    rintro r h'' ⟨rfl, rfl⟩
    refine r_if_eq 30 24 dX4_sheet_21 (by decide) rfl (fun c_21 => ?_) (fun c_21 => ?_)
    refine r_iconst 31 dX4_sheet_30 rfl rfl ?_
    refine r_iret dX4_sheet_31 rfl ?_
    rotate_left -- leaf: return at pc 31
    refine r_iload_n 25 dX4_sheet_24 rfl rfl ?_
    refine r_bipush 27 dX4_sheet_25 rfl rfl (by decide) ?_
    refine r_icmp_le 32 30 dX4_sheet_27 (by decide) rfl (fun c_27 => ?_) (fun c_27 => ?_)
    refine r_iload_n 33 dX4_sheet_32 rfl rfl ?_
    refine r_if_ge 39 36 dX4_sheet_33 (by decide) rfl (fun c_33 => ?_) (fun c_33 => ?_)
    rotate_left -- leaf: pc 39
    refine r_bipush 38 dX4_sheet_36 rfl rfl (by decide) ?_
    refine r_iret dX4_sheet_38 rfl ?_
    rotate_left -- leaf: return at pc 38
    refine r_iconst 31 dX4_sheet_30 rfl rfl ?_
    refine r_iret dX4_sheet_31 rfl ?_
    rotate_left -- leaf: return at pc 31
    · rw [if_pos (Or.inr (Or.inl (z01_n.mp c_21)))]
      exact ⟨rfl, rfl⟩
    · have ha := z01_y.mp c_21
      rw [if_neg (by omega), if_neg (by omega)]
      obtain ⟨k, rfl⟩ := nat_of hk.1
      rw [Int.toNat_natCast]
      refine r_aload_n 40 dX4_sheet_39 rfl rfl ?_
      refine r_getR 43 dX4_sheet_40 rfl kf_4_38 rfl (by first | assumption | omega) (by assumption) (by assumption) ?_
      refine r_iload_n 44 dX4_sheet_43 rfl rfl ?_
      refine r_iload_n 45 dX4_sheet_44 rfl rfl ?_
      refine r_iast 46 dX4_sheet_45 rfl (by first | assumption | omega) (by assumption) (by first | omega | (simp only [Int.toNat_natCast]; omega)) (by first | omega | (simp only [Int.toNat_natCast]; omega)) ?_
      try simp only [Int.toNat_natCast, tq_4, tq_8, tq_22, tq_27, tq_99, tq_a, tl_0, tl_1, tl_20, tl_21, tl_22, tl_32]
      refine r_aload_n 47 dX4_sheet_46 rfl rfl ?_
      refine r_getR 50 dX4_sheet_47 rfl kf_4_41 rfl (by first | assumption | omega) (by assumption) (by assumption) ?_
      refine r_iload_n 51 dX4_sheet_50 rfl rfl ?_
      refine r_iload_n 52 dX4_sheet_51 rfl rfl ?_
      refine r_iast 53 dX4_sheet_52 rfl (by first | assumption | omega) (by assumption) (by first | omega | (simp only [Int.toNat_natCast]; omega)) (by first | omega | (simp only [Int.toNat_natCast]; omega)) ?_
      try simp only [Int.toNat_natCast, tq_4, tq_8, tq_22, tq_27, tq_99, tq_a, tl_0, tl_1, tl_20, tl_21, tl_22, tl_32]
      refine r_iconst 54 dX4_sheet_53 rfl rfl ?_
      refine r_istore 56 dX4_sheet_54 rfl rfl rfl ?_
      rotate_left -- leaf: pc 56
      exact l_msheet (l := l) lm0 k (by omega) a n (Φ := fun r h' => r = some (vI 1) ∧ h' = zeR (up (up h'' 55 k a) 56 k n) 57 (40 * k) 40) ⟨rfl, rfl⟩ 40 0 rfl
    · have ha := z01_y.mp c_21
      rw [if_neg (by omega), if_pos c_33]
      exact ⟨rfl, rfl⟩
    · rw [if_pos (Or.inr (Or.inr c_27))]
      exact ⟨rfl, rfl⟩
end MO
