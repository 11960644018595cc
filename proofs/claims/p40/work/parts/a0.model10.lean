/-! SunPointerModel: man, lean, leans, kinds in general -/
def mnF (pg : Nat → Int) (m : Int) : Nat → Int
  | 0 => -4
  | q + 1 => if stM pg (q / 4) = m ∧ mnF pg m q < sdM pg q then sdM pg q else mnF pg m q
def nMan (m x : Int) (h : zH) : Int := if ¬ ((0 ≤ m ∧ m < h 45 1) ∧ (0 ≤ x ∧ x ≤ 3)) then -1 else if x < 2 then h 46 (4 * x + m).toNat else if x = 2 then orN (hoB (h 46) m) 12 else mnF (h 46) m 48
theorem wPg_up4 {pg : Nat → Int} {j : Nat} {v : Int} (hj : j < 4) (w : wPg pg) (hv : 0 ≤ v ∧ v ≤ 6) : wPg (up1 pg (4 + j) v) := by
  obtain ⟨w1, w2, w3, w4, w5, w6, w7, w8⟩ := w
  exact ⟨fun i hi => by rw [up1_n (by omega)]; exact w1 i hi, fun i hi => by
    by_cases e : i = j
    · subst e; rw [up1_s]; exact hv
    · rw [up1_n (by omega)]; exact w2 i hi, fun i hi => by rw [up1_n (by omega)]; exact w3 i hi, by rw [up1_n (by omega)]; exact w4, by rw [up1_n (by omega)]; exact w5, fun i hi => by rw [up1_n (by omega)]; exact w6 i hi, fun i hi => by rw [up1_n (by omega)]; exact w7 i hi, by rw [up1_n (by omega)]; exact w8⟩
theorem wPg_up0 {pg : Nat → Int} {j : Nat} {v : Int} (hj : j < 4) (w : wPg pg) (hv : 0 ≤ v ∧ v ≤ 3) : wPg (up1 pg j v) := by
  obtain ⟨w1, w2, w3, w4, w5, w6, w7, w8⟩ := w
  exact ⟨fun i hi => by
    by_cases e : i = j
    · subst e; rw [up1_s]; exact hv
    · rw [up1_n (by omega)]; exact w1 i hi, fun i hi => by rw [up1_n (by omega)]; exact w2 i hi, fun i hi => by rw [up1_n (by omega)]; exact w3 i hi, by rw [up1_n (by omega)]; exact w4, by rw [up1_n (by omega)]; exact w5, fun i hi => by rw [up1_n (by omega)]; exact w6 i hi, fun i hi => by rw [up1_n (by omega)]; exact w7 i hi, by rw [up1_n (by omega)]; exact w8⟩
/-- what the reference writes over freely -/
def sc5 (h h' : zH) : Prop := ∀ a b, a ≠ 51 → a ≠ 53 → ¬ (a = 45 ∧ (b = 19 ∨ b = 23)) → ¬ (a = 46 ∧ 99 ≤ b ∧ b < 132) → h' a b = h a b
section MO
variable {l : Launch} {G : zG} {h : zH}
theorem l_mman (lm : LM G) (wm : wM h) (m x : Int) (hm : 0 ≤ m ∧ m < h 45 1) (hx : 0 ≤ x ∧ x ≤ 3) {Φ : Option zV → zH → Prop} (hΦ : Φ (some (vI (if x < 2 then h 46 (4 * x + m).toNat else if x = 2 then orN (hoB (h 46) m) 12 else mnF (h 46) m 48))) h) : ∀ (n q : Nat), q + n = 48 → Rr l G 2 mX4_man Φ 28 [some (vR 45), some (vI m), some (vI x), some (vI (mnF (h 46) m q)), some (vI q)] [] h := by
  have lm0 := lm
  obtain ⟨hN, ⟨ms45, ms46, ms47, ms48, ms49, ms50, ms51, ms52, ms53, ms54, ms55, ms56, ms57⟩, ⟨ml46, ml47, ml48, ml49, ml50, ml51, ml52, ml53, ml54, ml55, ml56, ml57⟩, ⟨mr0, mr2, mr7, mr16, mr17, mr18, mr20, mr22, mr24, mr25, mr26, mr27⟩⟩ := lm
  obtain ⟨⟨wg1, wg2, wg3, wg4, wg5, wg6, wg7, wg8⟩, wmen, wtp, wsm⟩ := wm
  intro n
  induction n with
  | zero =>
    intro q hq
    obtain rfl : q = 48 := by omega
    refine r_iload 30 dX4_man_28 rfl rfl ?_
    refine r_bipush 32 dX4_man_30 rfl rfl (by decide) ?_
    refine r_icmp_ge 74 35 dX4_man_32 (by decide) rfl (fun c_32 => ?_) (fun c_32 => ?_)
    refine r_iload_n 75 dX4_man_74 rfl rfl ?_
    refine r_iconst 76 dX4_man_75 rfl rfl ?_
    refine r_icmp_ge 92 79 dX4_man_76 (by decide) rfl (fun c_76 => ?_) (fun c_76 => ?_)
    refine r_iload_n 93 dX4_man_92 rfl rfl ?_
    refine r_iconst 94 dX4_man_93 rfl rfl ?_
    refine r_icmp_ne 105 97 dX4_man_94 (by decide) rfl (fun c_94 => ?_) (fun c_94 => ?_)
    refine r_iload_n 106 dX4_man_105 rfl rfl ?_
    refine r_iret dX4_man_106 rfl ?_
    rotate_left -- leaf: return at pc 106
    refine r_aload_n 98 dX4_man_97 rfl rfl ?_
    refine r_iload_n 99 dX4_man_98 rfl rfl ?_
    rotate_left -- leaf: call at pc 99
    refine r_aload_n 80 dX4_man_79 rfl rfl ?_
    refine r_getR 83 dX4_man_80 rfl kf_4_7 rfl (by first | assumption | omega) (by assumption) (by assumption) ?_
    refine r_iconst 84 dX4_man_83 rfl rfl ?_
    refine r_iload_n 85 dX4_man_84 rfl rfl ?_
    refine r_imul 86 dX4_man_85 rfl (by first | exact w32_id (by omega) (by omega) | rfl) ?_
    refine r_iload_n 87 dX4_man_86 rfl rfl ?_
    refine r_iadd 88 dX4_man_87 rfl (by first | exact w32_id (by omega) (by omega) | rfl) ?_
    refine r_iald 89 dX4_man_88 rfl (by first | assumption | omega) (by assumption) (by first | omega | (simp only [Int.toNat_natCast]; omega)) (by first | omega | (simp only [Int.toNat_natCast]; omega)) ?_
    try simp only [Int.toNat_natCast, tq_4, tq_8, tq_22, tq_27, tq_99, tq_a, tl_0, tl_1, tl_20, tl_21, tl_22, tl_32]
    refine r_goto 106 dX4_man_89 (by decide) ?_
    refine r_iret dX4_man_106 rfl ?_
    rotate_left -- leaf: return at pc 106
    rotate_left -- leaf: pc 35
    · rw [if_neg (by omega), if_neg c_94] at hΦ
      exact hΦ
    · rw [if_neg (by omega), if_pos c_94] at hΦ
      refine r_cv1 102 dX4_man_99 rfl kv_4_155 (by first | assumption | omega) (by assumption) rfl rfl (m_hoursOf lm0 wg3 m) ?_
      rintro r h' ⟨rfl, rfl⟩
      refine r_goto 106 dX4_man_102 (by decide) ?_
      refine r_iret dX4_man_106 rfl ?_
      rotate_left -- leaf: return at pc 106
      exact hΦ
    · rw [if_pos c_76] at hΦ
      exact hΦ
    · omega
  | succ n ih =>
    intro q hq
    have ih := ih (q + 1) (by omega)
    rw [mnF] at ih
    obtain ⟨j, hj⟩ : ∃ j, j = q / 4 := ⟨_, rfl⟩
    rw [← hj] at ih
    have hj12 : j < 12 := by omega
    have eq4 : (q : Int) / 4 = (j : Int) := by omega
    refine r_iload 30 dX4_man_28 rfl rfl ?_
    refine r_bipush 32 dX4_man_30 rfl rfl (by decide) ?_
    refine r_icmp_ge 74 35 dX4_man_32 (by decide) rfl (fun c_32 => ?_) (fun c_32 => ?_)
    rotate_left -- leaf: pc 74
    refine r_aload_n 36 dX4_man_35 rfl rfl ?_
    refine r_iload 38 dX4_man_36 rfl rfl ?_
    refine r_iconst 39 dX4_man_38 rfl rfl ?_
    refine r_idiv 40 dX4_man_39 rfl (by first | omega | (simp only [Int.toNat_natCast]; omega)) (by first | omega | (simp only [Int.toNat_natCast]; omega)) ?_
    rotate_left -- leaf: call at pc 40
    · omega
    rw [eq4]
    refine r_cv1 43 dX4_man_40 rfl kv_4_136 (by first | assumption | omega) (by assumption) rfl rfl (m_standsIn lm0 (wg3 0 (by omega)).1 j hj12 (wg3 j hj12)) ?_
    rintro r h' ⟨rfl, rfl⟩
    refine r_iload_n 44 dX4_man_43 rfl rfl ?_
    refine r_icmp_ne 66 47 dX4_man_44 (by decide) rfl (fun c_44 => ?_) (fun c_44 => ?_)
    refine r_iload_n 67 dX4_man_66 rfl rfl ?_
    refine r_istore_n 68 dX4_man_67 rfl rfl rfl ?_
    refine r_iinc 71 _ dX4_man_68 rfl rfl rfl rfl (by first | exact w32_id (by omega) (by omega) | rfl) ?_
    refine r_goto 28 dX4_man_71 (by decide) ?_
    rotate_left -- leaf: pc 28
    refine r_aload_n 48 dX4_man_47 rfl rfl ?_
    refine r_iload 50 dX4_man_48 rfl rfl ?_
    rotate_left -- leaf: call at pc 50
    · rw [if_neg (fun z => c_44 z.1)] at ih
      exact ih
    · refine r_cv1 53 dX4_man_50 rfl kv_4_139 (by first | assumption | omega) (by assumption) rfl rfl (m_stoodIn lm0 wg3 q (by omega)) ?_
      rintro r h'' ⟨rfl, rfl⟩
      refine r_iload_n 54 dX4_man_53 rfl rfl ?_
      refine r_icmp_le 66 57 dX4_man_54 (by decide) rfl (fun c_54 => ?_) (fun c_54 => ?_)
      refine r_iload_n 67 dX4_man_66 rfl rfl ?_
      refine r_istore_n 68 dX4_man_67 rfl rfl rfl ?_
      refine r_iinc 71 _ dX4_man_68 rfl rfl rfl rfl (by first | exact w32_id (by omega) (by omega) | rfl) ?_
      refine r_goto 28 dX4_man_71 (by decide) ?_
      rotate_left -- leaf: pc 28
      refine r_aload_n 58 dX4_man_57 rfl rfl ?_
      refine r_iload 60 dX4_man_58 rfl rfl ?_
      rotate_left -- leaf: call at pc 60
      · rw [if_neg (by omega)] at ih
        exact ih
      · refine r_cv1 63 dX4_man_60 rfl kv_4_139 (by first | assumption | omega) (by assumption) rfl rfl (m_stoodIn lm0 wg3 q (by omega)) ?_
        rintro r h3 ⟨rfl, rfl⟩
        rw [if_pos ⟨c_44, c_54⟩] at ih
        refine r_goto 67 dX4_man_63 (by decide) ?_
        refine r_istore_n 68 dX4_man_67 rfl rfl rfl ?_
        refine r_iinc 71 _ dX4_man_68 rfl rfl rfl rfl (by first | exact w32_id (by omega) (by omega) | rfl) ?_
        refine r_goto 28 dX4_man_71 (by decide) ?_
        rotate_left -- leaf: pc 28
        exact ih
theorem m_man (lm : LM G) (wm : wM h) (m x : Int) : Ca l G 2 mX4_man [vR 45, vI m, vI x] h (fun r h' => r = some (vI (nMan m x h)) ∧ h' = h) := by
  have lm0 := lm
  have wm0 := wm
  obtain ⟨hN, ⟨ms45, ms46, ms47, ms48, ms49, ms50, ms51, ms52, ms53, ms54, ms55, ms56, ms57⟩, ⟨ml46, ml47, ml48, ml49, ml50, ml51, ml52, ml53, ml54, ml55, ml56, ml57⟩, ⟨mr0, mr2, mr7, mr16, mr17, mr18, mr20, mr22, mr24, mr25, mr26, mr27⟩⟩ := lm
  refine Ca.of (by decide) (Nat.le_of_ble_eq_true rfl) (fun hI hv hH => ?_)
  unfold nMan
  refine r_aload_n 1 dX4_man_0 rfl rfl ?_
  refine r_iload_n 2 dX4_man_1 rfl rfl ?_
  rotate_left -- leaf: call at pc 2
  refine r_cv1 5 dX4_man_2 rfl kv_4_161 (by first | assumption | omega) (by assumption) rfl rfl (m_isMan lm0 wm0 m) ?_
  rintro r h' ⟨rfl, rfl⟩
  refine r_if_eq 20 8 dX4_man_5 (by decide) rfl (fun c_5 => ?_) (fun c_5 => ?_)
  refine r_iconst 21 dX4_man_20 rfl rfl ?_
  refine r_iret dX4_man_21 rfl ?_
  rotate_left -- leaf: return at pc 21
  refine r_iload_n 9 dX4_man_8 rfl rfl ?_
  refine r_i2l 10 dX4_man_9 rfl ?_
  refine r_lconst 11 dX4_man_10 rfl 0 rfl (by decide) ?_
  refine r_ldc2 14 (3) dX4_man_11 rfl kq_4_165 rfl ?_
  rotate_left -- leaf: call at pc 14
  · rw [if_pos (fun z => z01_n.mp c_5 z.1)]
    exact ⟨rfl, rfl⟩
  · refine r_cs3 17 dX4_man_14 rfl ks_4_49 rfl rfl (c_in x 0 3) ?_
    rintro r h'' ⟨rfl, rfl⟩
    refine r_if_ne 22 20 dX4_man_17 (by decide) rfl (fun c_17 => ?_) (fun c_17 => ?_)
    refine r_bipush 24 dX4_man_22 rfl rfl (by decide) ?_
    refine r_istore_n 25 dX4_man_24 rfl rfl rfl ?_
    refine r_iconst 26 dX4_man_25 rfl rfl ?_
    refine r_istore 28 dX4_man_26 rfl rfl rfl ?_
    rotate_left -- leaf: pc 28
    refine r_iconst 21 dX4_man_20 rfl rfl ?_
    refine r_iret dX4_man_21 rfl ?_
    rotate_left -- leaf: return at pc 21
    · rw [if_neg (fun z => z ⟨z01_y.mp c_5, z01_y.mp c_17⟩)]
      exact l_mman (l := l) lm0 wm0 m x (z01_y.mp c_5) (z01_y.mp c_17) (Φ := fun r h' => r = some (vI (if x < 2 then h'' 46 (4 * x + m).toNat else if x = 2 then orN (hoB (h'' 46) m) 12 else mnF (h'' 46) m 48)) ∧ h' = h'') ⟨rfl, rfl⟩ 48 0 rfl
    · rw [if_pos (fun z => z01_n.mp c_17 z.2)]
      exact ⟨rfl, rfl⟩
/-- how far a lean is from 3 -/
def frF (v : Int) : Int := if v ≤ 3 then 3 - v else v - 3
def leM (d : Nat → Int) (qq : Int) : Nat → Int
  | 0 => -4
  | v + 1 => if (¬ d v = -4 ∧ d v ≤ qq) ∧ frF (v : Int) < (if leM d qq v = -4 then 48 else frF (leM d qq v)) then (v : Int) else leM d qq v
theorem leM_in (d : Nat → Int) (qq : Int) : ∀ v : Nat, leM d qq v = -4 ∨ (0 ≤ leM d qq v ∧ leM d qq v < v)
  | 0 => Or.inl rfl
  | v + 1 => by
    have := leM_in d qq v
    unfold leM
    split <;> omega
def dlM (h : zH) (m i : Nat) (v : Nat) : Int := dnM (up1 (h 46) (4 + m) (v : Int)) i
def nLean (m i q : Int) (h : zH) : Int := if ¬ ((0 ≤ m ∧ m < h 45 1) ∧ (0 ≤ i ∧ i < h 46 32) ∧ (0 ≤ q ∧ q ≤ 47)) then -1 else leM (dlM h m.toNat i.toNat) q 7
theorem l_mlean (lm : LM G) (wm : wM h) (m i : Nat) (hm : m < 4) (hi : i < 5) (qq : Int) {Φ : Option zV → zH → Prop} (hΦ : ∀ h', scm h h' → Φ (some (vI (leM (dlM h m i) qq 7))) h') : ∀ (n v : Nat) (x7 x8 x9 : Option zV) (H : zH), v + n = 7 → (∀ a b, a ≠ 51 → ¬ (a = 46 ∧ b = 4 + m) → H a b = h a b) → Rr l G 4 mX4_lean Φ 47 [some (vR 45), some (vI m), some (vI i), some (vI qq), some (vI (h 46 (4 + m))), some (vI (leM (dlM h m i) qq v)), some (vI v), x7, x8, x9] [] H := by
  have lm0 := lm
  obtain ⟨hN, ⟨ms45, ms46, ms47, ms48, ms49, ms50, ms51, ms52, ms53, ms54, ms55, ms56, ms57⟩, ⟨ml46, ml47, ml48, ml49, ml50, ml51, ml52, ml53, ml54, ml55, ml56, ml57⟩, ⟨mr0, mr2, mr7, mr16, mr17, mr18, mr20, mr22, mr24, mr25, mr26, mr27⟩⟩ := lm
  have wm1 := wm.1
  intro n
  induction n with
  | zero =>
    intro v x7 x8 x9 H hv he
    obtain rfl : v = 7 := by omega
    have hΦ := hΦ (up H 46 (4 + m) (h 46 (4 + m))) (fun a b q1 => by
      by_cases e : a = 46 ∧ b = 4 + m
      · obtain ⟨rfl, rfl⟩ := e; rw [up_s]
      · rw [up_n e]; exact he a b q1 e)
    refine r_iload 49 dX4_lean_47 rfl rfl ?_
    refine r_bipush 51 dX4_lean_49 rfl rfl (by decide) ?_
    refine r_icmp_gt 160 54 dX4_lean_51 (by decide) rfl (fun c_51 => ?_) (fun c_51 => ?_)
    refine r_aload_n 161 dX4_lean_160 rfl rfl ?_
    refine r_getR 164 dX4_lean_161 rfl kf_4_7 rfl (by first | assumption | omega) (by assumption) (by assumption) ?_
    refine r_iconst 165 dX4_lean_164 rfl rfl ?_
    refine r_iload_n 166 dX4_lean_165 rfl rfl ?_
    refine r_iadd 167 dX4_lean_166 rfl (by first | exact w32_id (by omega) (by omega) | rfl) ?_
    refine r_iload 169 dX4_lean_167 rfl rfl ?_
    refine r_iast 170 dX4_lean_169 rfl (by first | assumption | omega) (by assumption) (by first | omega | (simp only [Int.toNat_natCast]; omega)) (by first | omega | (simp only [Int.toNat_natCast]; omega)) ?_
    try simp only [Int.toNat_natCast, tq_4, tq_8, tq_22, tq_27, tq_99, tq_a, tl_0, tl_1, tl_20, tl_21, tl_22, tl_32]
    refine r_iload 172 dX4_lean_170 rfl rfl ?_
    refine r_iret dX4_lean_172 rfl ?_
    rotate_left -- leaf: return at pc 172
    rotate_left -- leaf: pc 54
    · exact hΦ
    · omega
  | succ n ih =>
    intro v x7 x8 x9 H hv he
    have epg : up H 46 (4 + m) (v : Int) 46 = up1 (h 46) (4 + m) (v : Int) := by
      rw [up_pg]
      funext b
      unfold up1
      split
      · rfl
      · exact he 46 b (by omega) (by omega)
    have hle := leM_in (dlM h m i) qq v
    have ih := ih (v + 1)
    rw [leM] at ih
    obtain ⟨dd, hdd⟩ : ∃ dd, dd = dlM h m i v := ⟨_, rfl⟩
    rw [← hdd] at ih
    refine r_iload 49 dX4_lean_47 rfl rfl ?_
    refine r_bipush 51 dX4_lean_49 rfl rfl (by decide) ?_
    refine r_icmp_gt 160 54 dX4_lean_51 (by decide) rfl (fun c_51 => ?_) (fun c_51 => ?_)
    rotate_left -- leaf: pc 160
    refine r_aload_n 55 dX4_lean_54 rfl rfl ?_
    refine r_getR 58 dX4_lean_55 rfl kf_4_7 rfl (by first | assumption | omega) (by assumption) (by assumption) ?_
    refine r_iconst 59 dX4_lean_58 rfl rfl ?_
    refine r_iload_n 60 dX4_lean_59 rfl rfl ?_
    refine r_iadd 61 dX4_lean_60 rfl (by first | exact w32_id (by omega) (by omega) | rfl) ?_
    refine r_iload 63 dX4_lean_61 rfl rfl ?_
    refine r_iast 64 dX4_lean_63 rfl (by first | assumption | omega) (by assumption) (by first | omega | (simp only [Int.toNat_natCast]; omega)) (by first | omega | (simp only [Int.toNat_natCast]; omega)) ?_
    try simp only [Int.toNat_natCast, tq_4, tq_8, tq_22, tq_27, tq_99, tq_a, tl_0, tl_1, tl_20, tl_21, tl_22, tl_32]
    refine r_aload_n 65 dX4_lean_64 rfl rfl ?_
    rotate_left -- leaf: call at pc 65
    · omega
    refine r_cv0 68 dX4_lean_65 rfl kv_4_149 (by first | assumption | omega) (by assumption) rfl rfl (m_lays lm0 (by rw [epg]; exact wPg_up4 hm wm1 (by omega))) ?_
    rintro r h' ⟨rfl, rfl⟩
    rw [epg]
    have eo : ∀ a b, a ≠ 51 → ¬ (a = 46 ∧ b = 4 + m) → setB (up H 46 (4 + m) (v : Int)) 51 48 (rdM (up1 (h 46) (4 + m) (v : Int))) a b = h a b := fun a b q1 q2 => by rw [setB_n q1, up_n q2]; exact he a b q1 q2
    have ed : dsM (setB (up H 46 (4 + m) (v : Int)) 51 48 (rdM (up1 (h 46) (4 + m) (v : Int))) 51) (setB (up H 46 (4 + m) (v : Int)) 51 48 (rdM (up1 (h 46) (4 + m) (v : Int))) 46 (22 + i)) 48 0 = dd := by
      rw [dsM_set 48 0 (by omega), setB_n (by omega), hdd]
      unfold dlM dnM
      rw [← epg]
    generalize setB (up H 46 (4 + m) (v : Int)) 51 48 (rdM (up1 (h 46) (4 + m) (v : Int))) = W at eo ed ⊢
    generalize leM (dlM h m i) qq v = wh at ih hle ⊢
    have J125 : ∀ (x8 x9 : Option zV), Rr l G 4 mX4_lean Φ 125 [some (vR 45), some (vI m), some (vI i), some (vI qq), some (vI (h 46 (4 + m))), some (vI wh), some (vI v), some (vI dd), some (vI (frF v)), some (vI (if wh = -4 then 48 else frF wh))] [] W := by
      intro x8 x9
      refine r_iload 127 dX4_lean_125 rfl rfl ?_
      refine r_bipush 129 dX4_lean_127 rfl rfl (by decide) ?_
      refine r_icmp_eq 150 132 dX4_lean_129 (by decide) rfl (fun c_129 => ?_) (fun c_129 => ?_)
      refine r_iload 152 dX4_lean_150 rfl rfl ?_
      refine r_istore 154 dX4_lean_152 rfl rfl rfl ?_
      refine r_iinc 157 _ dX4_lean_154 rfl rfl rfl rfl (by first | exact w32_id (by omega) (by omega) | rfl) ?_
      refine r_goto 47 dX4_lean_157 (by decide) ?_
      rotate_left -- leaf: pc 47
      refine r_iload 134 dX4_lean_132 rfl rfl ?_
      refine r_iload_n 135 dX4_lean_134 rfl rfl ?_
      refine r_icmp_gt 150 138 dX4_lean_135 (by decide) rfl (fun c_135 => ?_) (fun c_135 => ?_)
      refine r_iload 152 dX4_lean_150 rfl rfl ?_
      refine r_istore 154 dX4_lean_152 rfl rfl rfl ?_
      refine r_iinc 157 _ dX4_lean_154 rfl rfl rfl rfl (by first | exact w32_id (by omega) (by omega) | rfl) ?_
      refine r_goto 47 dX4_lean_157 (by decide) ?_
      rotate_left -- leaf: pc 47
      refine r_iload 140 dX4_lean_138 rfl rfl ?_
      refine r_iload 142 dX4_lean_140 rfl rfl ?_
      refine r_icmp_ge 150 145 dX4_lean_142 (by decide) rfl (fun c_142 => ?_) (fun c_142 => ?_)
      refine r_iload 152 dX4_lean_150 rfl rfl ?_
      refine r_istore 154 dX4_lean_152 rfl rfl rfl ?_
      refine r_iinc 157 _ dX4_lean_154 rfl rfl rfl rfl (by first | exact w32_id (by omega) (by omega) | rfl) ?_
      refine r_goto 47 dX4_lean_157 (by decide) ?_
      rotate_left -- leaf: pc 47
      refine r_iload 147 dX4_lean_145 rfl rfl ?_
      refine r_goto 152 dX4_lean_147 (by decide) ?_
      refine r_istore 154 dX4_lean_152 rfl rfl rfl ?_
      refine r_iinc 157 _ dX4_lean_154 rfl rfl rfl rfl (by first | exact w32_id (by omega) (by omega) | rfl) ?_
      refine r_goto 47 dX4_lean_157 (by decide) ?_
      rotate_left -- leaf: pc 47
      · have := ih (some (vI dd)) (some (vI (frF v))) (some (vI (if wh = -4 then 48 else frF wh))) W (by omega) eo
        rw [if_neg (by omega)] at this
        exact this
      · have := ih (some (vI dd)) (some (vI (frF v))) (some (vI (if wh = -4 then 48 else frF wh))) W (by omega) eo
        rw [if_neg (by omega)] at this
        exact this
      · have := ih (some (vI dd)) (some (vI (frF v))) (some (vI (if wh = -4 then 48 else frF wh))) W (by omega) eo
        rw [if_neg (by omega)] at this
        exact this
      · have := ih (some (vI dd)) (some (vI (frF v))) (some (vI (if wh = -4 then 48 else frF wh))) W (by omega) eo
        rw [if_pos ⟨⟨by omega, by omega⟩, c_142⟩] at this
        exact this
    have J94 : ∀ (x9 : Option zV), Rr l G 4 mX4_lean Φ 94 [some (vR 45), some (vI m), some (vI i), some (vI qq), some (vI (h 46 (4 + m))), some (vI wh), some (vI v), some (vI dd), some (vI (frF v)), x9] [] W := by
      intro x9
      have J := J125 none none
      refine r_iload 96 dX4_lean_94 rfl rfl ?_
      refine r_bipush 98 dX4_lean_96 rfl rfl (by decide) ?_
      refine r_icmp_ne 106 101 dX4_lean_98 (by decide) rfl (fun c_98 => ?_) (fun c_98 => ?_)
      refine r_iload 108 dX4_lean_106 rfl rfl ?_
      refine r_iconst 109 dX4_lean_108 rfl rfl ?_
      refine r_icmp_le 119 112 dX4_lean_109 (by decide) rfl (fun c_109 => ?_) (fun c_109 => ?_)
      refine r_iconst 120 dX4_lean_119 rfl rfl ?_
      refine r_iload 122 dX4_lean_120 rfl rfl ?_
      refine r_isub 123 dX4_lean_122 rfl (by first | exact w32_id (by omega) (by omega) | rfl) ?_
      refine r_istore 125 dX4_lean_123 rfl rfl rfl ?_
      rotate_left -- leaf: pc 125
      refine r_iload 114 dX4_lean_112 rfl rfl ?_
      refine r_iconst 115 dX4_lean_114 rfl rfl ?_
      refine r_isub 116 dX4_lean_115 rfl (by first | exact w32_id (by omega) (by omega) | rfl) ?_
      refine r_goto 123 dX4_lean_116 (by decide) ?_
      refine r_istore 125 dX4_lean_123 rfl rfl rfl ?_
      rotate_left -- leaf: pc 125
      refine r_bipush 103 dX4_lean_101 rfl rfl (by decide) ?_
      refine r_goto 123 dX4_lean_103 (by decide) ?_
      refine r_istore 125 dX4_lean_123 rfl rfl rfl ?_
      rotate_left -- leaf: pc 125
      · rw [if_neg c_98] at J
        unfold frF at J
        rw [if_pos (show wh ≤ 3 by omega)] at J
        exact J
      · rw [if_neg c_98] at J
        unfold frF at J
        rw [if_neg (show ¬ wh ≤ 3 by omega)] at J
        exact J
      · rw [if_pos c_98] at J
        exact J
    refine r_aload_n 69 dX4_lean_68 rfl rfl ?_
    refine r_iload_n 70 dX4_lean_69 rfl rfl ?_
    rotate_left -- leaf: call at pc 70
    refine r_cv1 73 dX4_lean_70 rfl kv_4_146 (by first | assumption | omega) (by assumption) rfl rfl (m_doneIn lm0 i hi) ?_
    rintro r h' ⟨rfl, rfl⟩
    rw [ed]
    refine r_istore 75 dX4_lean_73 rfl rfl rfl ?_
    refine r_iload 77 dX4_lean_75 rfl rfl ?_
    refine r_iconst 78 dX4_lean_77 rfl rfl ?_
    refine r_icmp_le 88 81 dX4_lean_78 (by decide) rfl (fun c_78 => ?_) (fun c_78 => ?_)
    refine r_iconst 89 dX4_lean_88 rfl rfl ?_
    refine r_iload 91 dX4_lean_89 rfl rfl ?_
    refine r_isub 92 dX4_lean_91 rfl (by first | exact w32_id (by omega) (by omega) | rfl) ?_
    refine r_istore 94 dX4_lean_92 rfl rfl rfl ?_
    rotate_left -- leaf: pc 94
    refine r_iload 83 dX4_lean_81 rfl rfl ?_
    refine r_iconst 84 dX4_lean_83 rfl rfl ?_
    refine r_isub 85 dX4_lean_84 rfl (by first | exact w32_id (by omega) (by omega) | rfl) ?_
    refine r_goto 92 dX4_lean_85 (by decide) ?_
    refine r_istore 94 dX4_lean_92 rfl rfl rfl ?_
    rotate_left -- leaf: pc 94
    · have J := J94 x9
      unfold frF at J
      rw [if_pos (by omega)] at J
      exact J
    · have J := J94 x9
      unfold frF at J
      rw [if_neg (by omega)] at J
      exact J
theorem m_lean (lm : LM G) (wm : wM h) (m i q : Int) : Ca l G 4 mX4_lean [vR 45, vI m, vI i, vI q] h (fun r h' => r = some (vI (nLean m i q h)) ∧ scm h h') := by
  have lm0 := lm
  have wm0 := wm
  obtain ⟨hN, ⟨ms45, ms46, ms47, ms48, ms49, ms50, ms51, ms52, ms53, ms54, ms55, ms56, ms57⟩, ⟨ml46, ml47, ml48, ml49, ml50, ml51, ml52, ml53, ml54, ml55, ml56, ml57⟩, ⟨mr0, mr2, mr7, mr16, mr17, mr18, mr20, mr22, mr24, mr25, mr26, mr27⟩⟩ := lm
  obtain ⟨⟨wg1, wg2, wg3, wg4, wg5, wg6, wg7, wg8⟩, wmen, wtp, wsm⟩ := wm
  refine Ca.of (by decide) (Nat.le_of_ble_eq_true rfl) (fun hI hv hH => ?_)
  unfold nLean
  refine r_aload_n 1 dX4_lean_0 rfl rfl ?_
  refine r_iload_n 2 dX4_lean_1 rfl rfl ?_
  rotate_left -- leaf: call at pc 2
  refine r_cv1 5 dX4_lean_2 rfl kv_4_161 (by first | assumption | omega) (by assumption) rfl rfl (m_isMan lm0 wm0 m) ?_
  rintro r h' ⟨rfl, rfl⟩
  refine r_if_eq 28 8 dX4_lean_5 (by decide) rfl (fun c_5 => ?_) (fun c_5 => ?_)
  refine r_iconst 29 dX4_lean_28 rfl rfl ?_
  refine r_iret dX4_lean_29 rfl ?_
  rotate_left -- leaf: return at pc 29
  refine r_aload_n 9 dX4_lean_8 rfl rfl ?_
  refine r_iload_n 10 dX4_lean_9 rfl rfl ?_
  rotate_left -- leaf: call at pc 10
  · rw [if_pos (fun z => z01_n.mp c_5 z.1)]
    exact ⟨rfl, fun _ _ _ => rfl⟩
  · refine r_cv1 13 dX4_lean_10 rfl kv_4_173 (by first | assumption | omega) (by assumption) rfl rfl (m_isDeed lm0 wm0 i) ?_
    rintro r h'' ⟨rfl, rfl⟩
    refine r_if_eq 28 16 dX4_lean_13 (by decide) rfl (fun c_13 => ?_) (fun c_13 => ?_)
    refine r_iconst 29 dX4_lean_28 rfl rfl ?_
    refine r_iret dX4_lean_29 rfl ?_
    rotate_left -- leaf: return at pc 29
    refine r_iload_n 17 dX4_lean_16 rfl rfl ?_
    refine r_i2l 18 dX4_lean_17 rfl ?_
    refine r_lconst 19 dX4_lean_18 rfl 0 rfl (by decide) ?_
    refine r_ldc2 22 (47) dX4_lean_19 rfl kq_4_182 rfl ?_
    rotate_left -- leaf: call at pc 22
    · rw [if_pos (fun z => z01_n.mp c_13 z.2.1)]
      exact ⟨rfl, fun _ _ _ => rfl⟩
    · refine r_cs3 25 dX4_lean_22 rfl ks_4_49 rfl rfl (c_in q 0 47) ?_
      rintro r h3 ⟨rfl, rfl⟩
      have b1 := z01_y.mp c_5
      have b2 := z01_y.mp c_13
      refine r_if_ne 30 28 dX4_lean_25 (by decide) rfl (fun c_25 => ?_) (fun c_25 => ?_)
      rotate_left -- leaf: pc 30
      refine r_iconst 29 dX4_lean_28 rfl rfl ?_
      refine r_iret dX4_lean_29 rfl ?_
      rotate_left -- leaf: return at pc 29
      · rw [if_neg (fun z => z ⟨b1, b2, z01_y.mp c_25⟩)]
        obtain ⟨m, rfl⟩ := Int.eq_ofNat_of_zero_le b1.1
        obtain ⟨i, rfl⟩ := Int.eq_ofNat_of_zero_le b2.1
        rw [Int.toNat_natCast, Int.toNat_natCast]
        refine r_aload_n 31 dX4_lean_30 rfl rfl ?_
        refine r_getR 34 dX4_lean_31 rfl kf_4_7 rfl (by first | assumption | omega) (by assumption) (by assumption) ?_
        refine r_iconst 35 dX4_lean_34 rfl rfl ?_
        refine r_iload_n 36 dX4_lean_35 rfl rfl ?_
        refine r_iadd 37 dX4_lean_36 rfl (by first | exact w32_id (by omega) (by omega) | rfl) ?_
        refine r_iald 38 dX4_lean_37 rfl (by first | assumption | omega) (by assumption) (by first | omega | (simp only [Int.toNat_natCast]; omega)) (by first | omega | (simp only [Int.toNat_natCast]; omega)) ?_
        try simp only [Int.toNat_natCast, tq_4, tq_8, tq_22, tq_27, tq_99, tq_a, tl_0, tl_1, tl_20, tl_21, tl_22, tl_32]
        refine r_istore 40 dX4_lean_38 rfl rfl rfl ?_
        refine r_bipush 42 dX4_lean_40 rfl rfl (by decide) ?_
        refine r_istore 44 dX4_lean_42 rfl rfl rfl ?_
        refine r_iconst 45 dX4_lean_44 rfl rfl ?_
        refine r_istore 47 dX4_lean_45 rfl rfl rfl ?_
        rotate_left -- leaf: pc 47
        exact l_mlean (l := l) lm0 wm0 m i (by omega) (by omega) q (Φ := fun r h' => r = some (vI (leM (dlM h3 m i) q 7)) ∧ scm h3 h') (fun h4 q4 => ⟨rfl, q4⟩) 7 0 none none none h3 rfl (fun _ _ _ _ => rfl)
      · rw [if_pos (fun z => z01_n.mp c_25 z.2.2)]
        exact ⟨rfl, fun _ _ _ => rfl⟩
/-- is all as seen, by a page -/
def asM (h : zH) (pg : Nat → Int) : Bool := allN (fun s => decide ((0 ≤ h 52 (2 * s) ∧ h 52 (2 * s) < pg 32) ∧ dnM pg (h 52 (2 * s)).toNat = h 52 (2 * s + 1))) (h 45 21).toNat
theorem l_seen (lm : LM G) (wm : wM h) {Φ : Option zV → zH → Prop} (hΦ : Φ (some (vI (z01 (asM h (h 46) = true)))) (setB h 51 48 (rdM (h 46)))) : ∀ (n k : Nat), k + n = (h 45 21).toNat → Rr l G 4 mX4_isAsSeen Φ 8 [some (vR 45), some (vI (z01 (allN (fun s => decide ((0 ≤ h 52 (2 * s) ∧ h 52 (2 * s) < h 46 32) ∧ dnM (h 46) (h 52 (2 * s)).toNat = h 52 (2 * s + 1))) k = true))), some (vI k)] [] (setB h 51 48 (rdM (h 46))) := by
  have lm0 := lm
  have wm0 := wm
  obtain ⟨hN, ⟨ms45, ms46, ms47, ms48, ms49, ms50, ms51, ms52, ms53, ms54, ms55, ms56, ms57⟩, ⟨ml46, ml47, ml48, ml49, ml50, ml51, ml52, ml53, ml54, ml55, ml56, ml57⟩, ⟨mr0, mr2, mr7, mr16, mr17, mr18, mr20, mr22, mr24, mr25, mr26, mr27⟩⟩ := lm
  obtain ⟨⟨wg1, wg2, wg3, wg4, wg5, wg6, wg7, wg8⟩, wmen, wtp, wsm⟩ := wm
  obtain ⟨g, hgd⟩ : ∃ g, g = setB h 51 48 (rdM (h 46)) := ⟨_, rfl⟩
  rw [← hgd] at hΦ ⊢
  have hg : ∀ a b, a ≠ 51 → g a b = h a b := fun a b q => by rw [hgd]; exact setB_n q
  have wmg : wM g := ⟨by rw [show g 46 = h 46 from funext (fun b => hg 46 b (by omega))]; exact wm0.1, by rw [hg _ _ (by omega)]; exact wmen, by rw [hg _ _ (by omega)]; exact wtp, by rw [hg _ _ (by omega)]; exact wsm⟩
  intro n
  induction n with
  | zero =>
    intro k hk
    unfold asM at hΦ
    rw [← show k = (h 45 21).toNat by omega] at hΦ
    have hz := z01_c (c := allN (fun s => decide ((0 ≤ h 52 (2 * s) ∧ h 52 (2 * s) < h 46 32) ∧ dnM (h 46) (h 52 (2 * s)).toNat = h 52 (2 * s + 1))) k = true)
    have e21 := hg 45 21 (by omega)
    refine r_iload_n 9 dX4_isAsSeen_8 rfl rfl ?_
    refine r_aload_n 10 dX4_isAsSeen_9 rfl rfl ?_
    refine r_getI 13 dX4_isAsSeen_10 rfl kf_4_131 rfl (by first | assumption | omega) (by assumption) ?_
    refine r_icmp_ge 72 16 dX4_isAsSeen_13 (by decide) rfl (fun c_13 => ?_) (fun c_13 => ?_)
    refine r_iload_n 73 dX4_isAsSeen_72 rfl rfl ?_
    refine r_zret dX4_isAsSeen_73 rfl (by first | exact Or.inl rfl | exact Or.inr rfl | assumption | omega) ?_
    rotate_left -- leaf: return at pc 73
    rotate_left -- leaf: pc 16
    · exact hΦ
    · omega
  | succ n ih =>
    intro k hk
    have ih := ih (k + 1) (by omega)
    rw [allN] at ih
    have e21 := hg 45 21 (by omega)
    have e2k : (2 * (k : Int)).toNat = 2 * k := by omega
    have e2k1 : (2 * (k : Int) + 1).toNat = 2 * k + 1 := by omega
    refine r_iload_n 9 dX4_isAsSeen_8 rfl rfl ?_
    refine r_aload_n 10 dX4_isAsSeen_9 rfl rfl ?_
    refine r_getI 13 dX4_isAsSeen_10 rfl kf_4_131 rfl (by first | assumption | omega) (by assumption) ?_
    refine r_icmp_ge 72 16 dX4_isAsSeen_13 (by decide) rfl (fun c_13 => ?_) (fun c_13 => ?_)
    refine r_iload_n 73 dX4_isAsSeen_72 rfl rfl ?_
    refine r_zret dX4_isAsSeen_73 rfl (by first | exact Or.inl rfl | exact Or.inr rfl | assumption | omega) ?_
    rotate_left -- leaf: return at pc 73
    refine r_iload_n 17 dX4_isAsSeen_16 rfl rfl ?_
    refine r_if_eq 64 20 dX4_isAsSeen_17 (by decide) rfl (fun c_17 => ?_) (fun c_17 => ?_)
    refine r_iconst 65 dX4_isAsSeen_64 rfl rfl ?_
    refine r_istore_n 66 dX4_isAsSeen_65 rfl rfl rfl ?_
    refine r_iinc 69 _ dX4_isAsSeen_66 rfl rfl rfl rfl (by first | exact w32_id (by omega) (by omega) | rfl) ?_
    refine r_goto 8 dX4_isAsSeen_69 (by decide) ?_
    rotate_left -- leaf: pc 8
    refine r_aload_n 21 dX4_isAsSeen_20 rfl rfl ?_
    refine r_aload_n 22 dX4_isAsSeen_21 rfl rfl ?_
    refine r_getR 25 dX4_isAsSeen_22 rfl kf_4_28 rfl (by first | assumption | omega) (by assumption) (by assumption) ?_
    refine r_iconst 26 dX4_isAsSeen_25 rfl rfl ?_
    refine r_iload_n 27 dX4_isAsSeen_26 rfl rfl ?_
    refine r_imul 28 dX4_isAsSeen_27 rfl (by first | exact w32_id (by omega) (by omega) | rfl) ?_
    rotate_left -- leaf: pc 28
    · omega
    · rw [z01_f (by rw [Bool.and_eq_true]; exact fun z => z01_n.mp c_17 z.1)] at ih
      exact ih
    · have ha := z01_y.mp c_17
      rw [ha, Bool.true_and] at ih
      refine r_iald 29 dX4_isAsSeen_28 rfl (by first | assumption | omega) (by assumption) (by first | omega | (simp only [Int.toNat_natCast]; omega)) (by first | omega | (simp only [Int.toNat_natCast]; omega)) ?_
      try simp only [Int.toNat_natCast, tq_4, tq_8, tq_22, tq_27, tq_99, tq_a, tl_0, tl_1, tl_20, tl_21, tl_22, tl_32]
      rotate_left -- leaf: pc 29
      rw [e2k, hg 52 (2 * k) (by omega)]
      refine r_cv1 32 dX4_isAsSeen_29 rfl kv_4_173 (by first | assumption | omega) (by assumption) rfl rfl (m_isDeed lm0 wmg (h 52 (2 * k))) ?_
      rintro r h' ⟨rfl, rfl⟩
      rw [hg 46 32 (by omega)]
      refine r_if_eq 64 35 dX4_isAsSeen_32 (by decide) rfl (fun c_32 => ?_) (fun c_32 => ?_)
      refine r_iconst 65 dX4_isAsSeen_64 rfl rfl ?_
      refine r_istore_n 66 dX4_isAsSeen_65 rfl rfl rfl ?_
      refine r_iinc 69 _ dX4_isAsSeen_66 rfl rfl rfl rfl (by first | exact w32_id (by omega) (by omega) | rfl) ?_
      refine r_goto 8 dX4_isAsSeen_69 (by decide) ?_
      rotate_left -- leaf: pc 8
      refine r_aload_n 36 dX4_isAsSeen_35 rfl rfl ?_
      refine r_aload_n 37 dX4_isAsSeen_36 rfl rfl ?_
      refine r_getR 40 dX4_isAsSeen_37 rfl kf_4_28 rfl (by first | assumption | omega) (by assumption) (by assumption) ?_
      refine r_iconst 41 dX4_isAsSeen_40 rfl rfl ?_
      refine r_iload_n 42 dX4_isAsSeen_41 rfl rfl ?_
      refine r_imul 43 dX4_isAsSeen_42 rfl (by first | exact w32_id (by omega) (by omega) | rfl) ?_
      rotate_left -- leaf: pc 43
      · rw [z01_f (by rw [decide_eq_true_iff]; exact fun z => z01_n.mp c_32 z.1)] at ih
        exact ih
      · have b := z01_y.mp c_32
        refine r_iald 44 dX4_isAsSeen_43 rfl (by first | assumption | omega) (by assumption) (by first | omega | (simp only [Int.toNat_natCast]; omega)) (by first | omega | (simp only [Int.toNat_natCast]; omega)) ?_
        try simp only [Int.toNat_natCast, tq_4, tq_8, tq_22, tq_27, tq_99, tq_a, tl_0, tl_1, tl_20, tl_21, tl_22, tl_32]
        rotate_left -- leaf: pc 44
        rw [e2k, hg 52 (2 * k) (by omega)]
        obtain ⟨i, hi⟩ := Int.eq_ofNat_of_zero_le b.1
        rw [hi] at ih b ⊢
        refine r_cv1 47 dX4_isAsSeen_44 rfl kv_4_146 (by first | assumption | omega) (by assumption) rfl rfl (m_doneIn lm0 i (by omega)) ?_
        rintro r h'' ⟨rfl, rfl⟩
        have ed : dsM (h'' 51) (h'' 46 (22 + i)) 48 0 = dnM (h 46) i := by
          rw [hg 46 (22 + i) (by omega), hgd, dsM_set 48 0 (by omega)]
          rfl
        rw [ed]
        rw [Int.toNat_natCast] at ih
        refine r_aload_n 48 dX4_isAsSeen_47 rfl rfl ?_
        refine r_getR 51 dX4_isAsSeen_48 rfl kf_4_28 rfl (by first | assumption | omega) (by assumption) (by assumption) ?_
        refine r_iconst 52 dX4_isAsSeen_51 rfl rfl ?_
        refine r_iload_n 53 dX4_isAsSeen_52 rfl rfl ?_
        refine r_imul 54 dX4_isAsSeen_53 rfl (by first | exact w32_id (by omega) (by omega) | rfl) ?_
        refine r_iconst 55 dX4_isAsSeen_54 rfl rfl ?_
        refine r_iadd 56 dX4_isAsSeen_55 rfl (by first | exact w32_id (by omega) (by omega) | rfl) ?_
        refine r_iald 57 dX4_isAsSeen_56 rfl (by first | assumption | omega) (by assumption) (by first | omega | (simp only [Int.toNat_natCast]; omega)) (by first | omega | (simp only [Int.toNat_natCast]; omega)) ?_
        try simp only [Int.toNat_natCast, tq_4, tq_8, tq_22, tq_27, tq_99, tq_a, tl_0, tl_1, tl_20, tl_21, tl_22, tl_32]
        rotate_left -- leaf: pc 57
        rw [e2k1, hg 52 (2 * k + 1) (by omega)]
        refine r_icmp_ne 64 60 dX4_isAsSeen_57 (by decide) rfl (fun c_57 => ?_) (fun c_57 => ?_)
        refine r_iconst 65 dX4_isAsSeen_64 rfl rfl ?_
        refine r_istore_n 66 dX4_isAsSeen_65 rfl rfl rfl ?_
        refine r_iinc 69 _ dX4_isAsSeen_66 rfl rfl rfl rfl (by first | exact w32_id (by omega) (by omega) | rfl) ?_
        refine r_goto 8 dX4_isAsSeen_69 (by decide) ?_
        rotate_left -- leaf: pc 8
        refine r_iconst 61 dX4_isAsSeen_60 rfl rfl ?_
        refine r_goto 65 dX4_isAsSeen_61 (by decide) ?_
        refine r_istore_n 66 dX4_isAsSeen_65 rfl rfl rfl ?_
        refine r_iinc 69 _ dX4_isAsSeen_66 rfl rfl rfl rfl (by first | exact w32_id (by omega) (by omega) | rfl) ?_
        refine r_goto 8 dX4_isAsSeen_69 (by decide) ?_
        rotate_left -- leaf: pc 8
        · rw [z01_f (by rw [decide_eq_true_iff]; exact fun z => c_57 z.2)] at ih
          exact ih
        · rw [z01_t (by rw [decide_eq_true_iff]; exact ⟨b, c_57⟩)] at ih
          exact ih
theorem m_isAsSeen (lm : LM G) (wm : wM h) : Ca l G 4 mX4_isAsSeen [vR 45] h (fun r h' => r = some (vI (z01 (asM h (h 46) = true))) ∧ h' = setB h 51 48 (rdM (h 46))) := by
  have lm0 := lm
  have wm0 := wm
  obtain ⟨hN, ⟨ms45, ms46, ms47, ms48, ms49, ms50, ms51, ms52, ms53, ms54, ms55, ms56, ms57⟩, ⟨ml46, ml47, ml48, ml49, ml50, ml51, ml52, ml53, ml54, ml55, ml56, ml57⟩, ⟨mr0, mr2, mr7, mr16, mr17, mr18, mr20, mr22, mr24, mr25, mr26, mr27⟩⟩ := lm
  obtain ⟨⟨wg1, wg2, wg3, wg4, wg5, wg6, wg7, wg8⟩, wmen, wtp, wsm⟩ := wm
  refine Ca.of (by decide) (Nat.le_of_ble_eq_true rfl) (fun hI hv hH => ?_)
  refine r_aload_n 1 dX4_isAsSeen_0 rfl rfl ?_
  rotate_left -- leaf: call at pc 1
  refine r_cv0 4 dX4_isAsSeen_1 rfl kv_4_149 (by first | assumption | omega) (by assumption) rfl rfl (m_lays lm0 wm0.1) ?_
  rintro r h' ⟨rfl, rfl⟩
  refine r_iconst 5 dX4_isAsSeen_4 rfl rfl ?_
  refine r_istore_n 6 dX4_isAsSeen_5 rfl rfl rfl ?_
  refine r_iconst 7 dX4_isAsSeen_6 rfl rfl ?_
  refine r_istore_n 8 dX4_isAsSeen_7 rfl rfl rfl ?_
  rotate_left -- leaf: pc 8
  exact l_seen (l := l) lm0 wm0 (Φ := fun r h' => r = some (vI (z01 (asM h (h 46) = true))) ∧ h' = setB h 51 48 (rdM (h 46))) ⟨rfl, rfl⟩ (h 45 21).toNat 0 (by omega)
end MO
