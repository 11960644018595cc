/-! SunPointerModel: sole; where there is nothing -/
section MO
variable {l : Launch} {G : zG} {h : zH}
theorem cpP_x {a b : Nat} : ∀ (n c : Nat), (c < b ∨ b + n ≤ c) → cpP h a b n 46 c = h 46 c
  | 0, _, _ => rfl
  | n + 1, c, hc => by
    unfold cpP
    rw [up_j (by omega)]
    exact cpP_x n c (by omega)
theorem cpP_i {a b : Nat} (hd : a + 33 ≤ b ∨ b + 33 ≤ a) : ∀ (n j : Nat), n ≤ 33 → j < n → cpP h a b n 46 (b + j) = h 46 (a + j)
  | 0, _, _, hj => absurd hj (by omega)
  | n + 1, j, hn, hj => by
    unfold cpP
    by_cases e : j = n
    · subst e
      rw [up_s]
      exact cpP_x j (a + j) (by omega)
    · rw [up_j (by omega)]
      exact cpP_i hd n j (by omega) (by omega)
def stA (pg : Nat → Int) (m : Int) : Nat → Int := fun b => if 8 ≤ b ∧ b < 20 then m else pg b
def soM (h : zH) (m : Nat) : Int := hmM (stA (cpP h 0 99 33 46) ((m : Int) + 1))
def nSole (x : Int) (h : zH) : Int := if ¬ (0 ≤ x ∧ x ≤ 1) then -1 else soB x (miF (soM h) (-4) 1000000 (h 45 1).toNat)
theorem stA_n {pg : Nat → Int} {v : Int} {b : Nat} (q : ¬ (8 ≤ b ∧ b < 20)) : stA pg v b = pg b := if_neg q
theorem stA_i {pg : Nat → Int} {v : Int} {b : Nat} (q : 8 ≤ b ∧ b < 20) : stA pg v b = v := if_pos q
theorem wPg_stA {pg : Nat → Int} {v : Int} (w : wPg pg) (hv : 0 ≤ v ∧ v ≤ 4) : wPg (stA pg v) := by
  obtain ⟨w1, w2, w3, w4, w5, w6, w7, w8⟩ := w
  exact ⟨fun i hi => by rw [stA_n (by omega)]; exact w1 i hi, fun i hi => by rw [stA_n (by omega)]; exact w2 i hi, fun i hi => by rw [stA_i (by omega)]; exact hv, by rw [stA_n (by omega)]; exact w4, by rw [stA_n (by omega)]; exact w5, fun i hi => by rw [stA_n (by omega)]; exact w6 i hi, fun i hi => by rw [stA_n (by omega)]; exact w7 i hi, by rw [stA_n (by omega)]; exact w8⟩
theorem l_msoleI (lm : LM G) (x wh m : Int) (hm : 0 ≤ m ∧ m ≤ 3) {Φ : Option zV → zH → Prop} {C : zH}
    (hΦ : ∀ H : zH, (∀ a b, a ≠ 51 → ¬ (a = 45 ∧ b = 19) → ¬ (a = 46 ∧ 8 ≤ b ∧ b < 20) → H a b = C a b) → (∀ b, 8 ≤ b → b < 20 → H 46 b = m + 1) → H 45 19 = C 45 19 → Rr l G 5 mX4_sole Φ 67 [some (vR 45), some (vI x), some (vI wh), some (vI m), some (vI 12)] [] H) :
    ∀ (n j : Nat) (H : zH), j + n = 12 → (∀ a b, a ≠ 51 → ¬ (a = 45 ∧ b = 19) → ¬ (a = 46 ∧ 8 ≤ b ∧ b < 20) → H a b = C a b) → (∀ b, 8 ≤ b → b < 8 + j → H 46 b = m + 1) → H 45 19 = C 45 19 → Rr l G 5 mX4_sole Φ 41 [some (vR 45), some (vI x), some (vI wh), some (vI m), some (vI j)] [] H := by
  obtain ⟨hN, ⟨ms45, ms46, ms47, ms48, ms49, ms50, ms51, ms52, ms53, ms54, ms55, ms56, ms57⟩, ⟨ml46, ml47, ml48, ml49, ml50, ml51, ml52, ml53, ml54, ml55, ml56, ml57⟩, ⟨mr0, mr2, mr7, mr16, mr17, mr18, mr20, mr22, mr24, mr25, mr26, mr27⟩⟩ := lm
  intro n
  induction n with
  | zero =>
    intro j H hj he hb hl
    obtain rfl : j = 12 := by omega
    have hΦ := hΦ H he hb hl
    refine r_iload 43 dX4_sole_41 rfl rfl ?_
    refine r_bipush 45 dX4_sole_43 rfl rfl (by decide) ?_
    refine r_icmp_ge 67 48 dX4_sole_45 (by decide) rfl (fun c_45 => ?_) (fun c_45 => ?_)
    rotate_left -- leaf: pc 67
    rotate_left -- leaf: pc 48
    · exact hΦ
    · omega
  | succ n ih =>
    intro j H hj he hb hl
    refine r_iload 43 dX4_sole_41 rfl rfl ?_
    refine r_bipush 45 dX4_sole_43 rfl rfl (by decide) ?_
    refine r_icmp_ge 67 48 dX4_sole_45 (by decide) rfl (fun c_45 => ?_) (fun c_45 => ?_)
    rotate_left -- leaf: pc 67
    refine r_aload_n 49 dX4_sole_48 rfl rfl ?_
    refine r_getR 52 dX4_sole_49 rfl kf_4_7 rfl (by first | assumption | omega) (by assumption) (by assumption) ?_
    refine r_bipush 54 dX4_sole_52 rfl rfl (by decide) ?_
    refine r_iload 56 dX4_sole_54 rfl rfl ?_
    refine r_iadd 57 dX4_sole_56 rfl (by first | exact w32_id (by omega) (by omega) | rfl) ?_
    refine r_iload_n 58 dX4_sole_57 rfl rfl ?_
    refine r_iconst 59 dX4_sole_58 rfl rfl ?_
    refine r_iadd 60 dX4_sole_59 rfl (by first | exact w32_id (by omega) (by omega) | rfl) ?_
    refine r_iast 61 dX4_sole_60 rfl (by first | assumption | omega) (by assumption) (by first | omega | (simp only [Int.toNat_natCast]; omega)) (by first | omega | (simp only [Int.toNat_natCast]; omega)) ?_
    try simp only [Int.toNat_natCast, tq_4, tq_8, tq_22, tq_27, tq_99, tq_a, tl_0, tl_1, tl_20, tl_21, tl_22, tl_32]
    refine r_iinc 64 _ dX4_sole_61 rfl rfl rfl rfl (by first | exact w32_id (by omega) (by omega) | rfl) ?_
    refine r_goto 41 dX4_sole_64 (by decide) ?_
    rotate_left -- leaf: pc 41
    · omega
    · exact ih (j + 1) _ (by omega) (fun a b q1 q2 q3 => by rw [up_n (fun z => q3 ⟨z.1, by omega⟩)]; exact he a b q1 q2 q3) (fun b h1 h2 => by
        by_cases e : b = 8 + j
        · subst e; rw [up_s]
        · rw [up_j e]; exact hb b h1 (by omega)) (by rw [up_k (by omega)]; exact hl)
theorem l_msole (lm : LM G) (wm : wM h) (x : Int) {Φ : Option zV → zH → Prop} (hΦ : ∀ h', scq h h' → Φ (some (vI (soB x (miF (soM h) (-4) 1000000 (h 45 1).toNat)))) h') : ∀ (n j : Nat) (x4 : Option zV) (H : zH), j + n = (h 45 1).toNat → eqq (fun b => 8 ≤ b ∧ b < 20) (cpP h 0 99 33) H → H 45 19 = (miF (soM h) (-4) 1000000 j).2 → Rr l G 5 mX4_sole Φ 30 [some (vR 45), some (vI x), some (vI (miF (soM h) (-4) 1000000 j).1), some (vI j), x4] [] H := by
  have lm0 := lm
  obtain ⟨hN, ⟨ms45, ms46, ms47, ms48, ms49, ms50, ms51, ms52, ms53, ms54, ms55, ms56, ms57⟩, ⟨ml46, ml47, ml48, ml49, ml50, ml51, ml52, ml53, ml54, ml55, ml56, ml57⟩, ⟨mr0, mr2, mr7, mr16, mr17, mr18, mr20, mr22, mr24, mr25, mr26, mr27⟩⟩ := lm
  have wm1 := wm.1
  have wmen := wm.2.1
  have wC : wPg (cpP h 0 99 33 46) := wPg_cong (fun j hj => cpP_x 33 j (by omega)) wm1
  intro n
  induction n with
  | zero =>
    intro j x4 H hj he hl
    have e1 : H 45 1 = h 45 1 := (he 45 1 (by omega) (by omega) (by omega)).trans (cpP_o (by omega) 33)
    have hs : scq h (cpP H 99 0 33) := fun a b q1 q2 q3 => by
      by_cases ea : a = 46
      · subst ea
        by_cases eb : b < 33
        · have := cpP_i (h := H) (a := 99) (b := 0) (by omega) 33 b (by omega) eb
          rw [Nat.zero_add] at this
          rw [this, he 46 (99 + b) (by omega) (by omega) (by omega)]
          have h2 := cpP_i (h := h) (a := 0) (b := 99) (by omega) 33 b (by omega) eb
          rw [Nat.zero_add] at h2
          exact h2
        · rw [cpP_x 33 b (by omega), he 46 b (by omega) (by omega) (by omega), cpP_x 33 b (by omega)]
      · rw [cpP_o ea 33, he a b q1 q2 (by omega), cpP_o ea 33]
    have hΦ := hΦ _ hs
    unfold soB at hΦ
    rw [show (h 45 1).toNat = j by omega] at hΦ
    refine r_iload_n 31 dX4_sole_30 rfl rfl ?_
    refine r_aload_n 32 dX4_sole_31 rfl rfl ?_
    refine r_getI 35 dX4_sole_32 rfl kf_4_128 rfl (by first | assumption | omega) (by assumption) ?_
    rotate_left -- leaf: pc 35
    rw [e1]
    refine r_icmp_ge 90 38 dX4_sole_35 (by decide) rfl (fun c_35 => ?_) (fun c_35 => ?_)
    refine r_aload_n 91 dX4_sole_90 rfl rfl ?_
    refine r_bipush 93 dX4_sole_91 rfl rfl (by decide) ?_
    refine r_iconst 94 dX4_sole_93 rfl rfl ?_
    rotate_left -- leaf: call at pc 94
    rotate_left -- leaf: pc 38
    · refine r_cv2 97 dX4_sole_94 rfl kv_4_196 (by first | assumption | omega) (by assumption) rfl rfl (m_copies lm0 99 0 (by omega) (by omega)) ?_
      rintro r h' ⟨rfl, rfl⟩
      refine r_iload_n 98 dX4_sole_97 rfl rfl ?_
      refine r_bipush 100 dX4_sole_98 rfl rfl (by decide) ?_
      refine r_icmp_eq 107 103 dX4_sole_100 (by decide) rfl (fun c_100 => ?_) (fun c_100 => ?_)
      refine r_iload_n 108 dX4_sole_107 rfl rfl ?_
      refine r_goto 115 dX4_sole_108 (by decide) ?_
      refine r_iret dX4_sole_115 rfl ?_
      rotate_left -- leaf: return at pc 115
      refine r_iload_n 104 dX4_sole_103 rfl rfl ?_
      refine r_if_ne 111 107 dX4_sole_104 (by decide) rfl (fun c_104 => ?_) (fun c_104 => ?_)
      refine r_aload_n 112 dX4_sole_111 rfl rfl ?_
      refine r_getI 115 dX4_sole_112 rfl kf_4_189 rfl (by first | assumption | omega) (by assumption) ?_
      refine r_iret dX4_sole_115 rfl ?_
      rotate_left -- leaf: return at pc 115
      refine r_iload_n 108 dX4_sole_107 rfl rfl ?_
      refine r_goto 115 dX4_sole_108 (by decide) ?_
      refine r_iret dX4_sole_115 rfl ?_
      rotate_left -- leaf: return at pc 115
      · rw [if_pos (Or.inl c_100)] at hΦ
        exact hΦ
      · rw [if_neg (by omega)] at hΦ
        rw [cpP_o (by omega) 33, hl]
        exact hΦ
      · rw [if_pos (Or.inr c_104)] at hΦ
        exact hΦ
    · omega
  | succ n ih =>
    intro j x4 H hj he hl
    have e1 : H 45 1 = h 45 1 := (he 45 1 (by omega) (by omega) (by omega)).trans (cpP_o (by omega) 33)
    refine r_iload_n 31 dX4_sole_30 rfl rfl ?_
    refine r_aload_n 32 dX4_sole_31 rfl rfl ?_
    refine r_getI 35 dX4_sole_32 rfl kf_4_128 rfl (by first | assumption | omega) (by assumption) ?_
    rotate_left -- leaf: pc 35
    rw [e1]
    refine r_icmp_ge 90 38 dX4_sole_35 (by decide) rfl (fun c_35 => ?_) (fun c_35 => ?_)
    rotate_left -- leaf: pc 90
    refine r_iconst 39 dX4_sole_38 rfl rfl ?_
    refine r_istore 41 dX4_sole_39 rfl rfl rfl ?_
    rotate_left -- leaf: pc 41
    · omega
    refine l_msoleI (l := l) (C := H) lm0 x _ j (by omega) (fun H2 he2 hb2 hl2 => ?_) 12 0 H rfl (fun _ _ _ _ _ => rfl) (fun b h1 h2 => by omega) rfl
    have epg : H2 46 = stA (cpP h 0 99 33 46) ((j : Int) + 1) := by
      funext b
      unfold stA
      split
      · exact hb2 b (by omega) (by omega)
      · rw [he2 46 b (by omega) (by omega) (by omega)]
        exact he 46 b (by omega) (by omega) (by omega)
    refine r_aload_n 68 dX4_sole_67 rfl rfl ?_
    refine r_aload_n 69 dX4_sole_68 rfl rfl ?_
    rotate_left -- leaf: call at pc 69
    refine r_cv0 72 dX4_sole_69 rfl kv_4_158 (by first | assumption | omega) (by assumption) rfl rfl (m_harm lm0 (by rw [epg]; exact wPg_stA wC (by omega))) ?_
    rintro r h' ⟨rfl, rfl⟩
    rw [epg]
    have ev : hmM (stA (cpP h 0 99 33 46) ((j : Int) + 1)) = soM h j := rfl
    rw [ev]
    have el : setB H2 51 48 (rdM (stA (cpP h 0 99 33 46) ((j : Int) + 1))) 45 19 = (miF (soM h) (-4) 1000000 j).2 := by rw [setB_n (by omega), hl2]; exact hl
    have eo : eqq (fun b => 8 ≤ b ∧ b < 20) (cpP h 0 99 33) (setB H2 51 48 (rdM (stA (cpP h 0 99 33 46) ((j : Int) + 1)))) := fun a b q1 q2 q3 => by rw [setB_n q1, he2 a b q1 q2 q3]; exact he a b q1 q2 q3
    refine r_cv1 75 dX4_sole_72 rfl kv_4_193 (by first | assumption | omega) (by assumption) rfl rfl (m_isLess lm0 (soM h j)) ?_
    rintro r h'' (⟨q1, rfl, rfl⟩ | ⟨q1, rfl, rfl⟩)
    · rw [el] at q1
      refine r_if_eq 82 78 dX4_sole_75 (by decide) rfl (fun c_75 => ?_) (fun c_75 => ?_)
      refine r_iload_n 83 dX4_sole_82 rfl rfl ?_
      refine r_istore_n 84 dX4_sole_83 rfl rfl rfl ?_
      refine r_iinc 87 _ dX4_sole_84 rfl rfl rfl rfl (by first | exact w32_id (by omega) (by omega) | rfl) ?_
      refine r_goto 30 dX4_sole_87 (by decide) ?_
      rotate_left -- leaf: pc 30
      refine r_iload_n 79 dX4_sole_78 rfl rfl ?_
      refine r_goto 83 dX4_sole_79 (by decide) ?_
      refine r_istore_n 84 dX4_sole_83 rfl rfl rfl ?_
      refine r_iinc 87 _ dX4_sole_84 rfl rfl rfl rfl (by first | exact w32_id (by omega) (by omega) | rfl) ?_
      refine r_goto 30 dX4_sole_87 (by decide) ?_
      rotate_left -- leaf: pc 30
      · omega
      · have := ih (j + 1) (some (vI 12)) (up (setB H2 51 48 (rdM (stA (cpP h 0 99 33 46) ((j : Int) + 1)))) 45 19 (soM h j)) (by omega) (fun a b z1 z2 z3 => by rw [up_n z2]; exact eo a b z1 z2 z3) (by rw [up_s]; simp only [miF]; rw [if_pos q1])
        simp only [miF] at this
        rw [if_pos q1] at this
        exact this
    · rw [el] at q1
      refine r_if_eq 82 78 dX4_sole_75 (by decide) rfl (fun c_75 => ?_) (fun c_75 => ?_)
      refine r_iload_n 83 dX4_sole_82 rfl rfl ?_
      refine r_istore_n 84 dX4_sole_83 rfl rfl rfl ?_
      refine r_iinc 87 _ dX4_sole_84 rfl rfl rfl rfl (by first | exact w32_id (by omega) (by omega) | rfl) ?_
      refine r_goto 30 dX4_sole_87 (by decide) ?_
      rotate_left -- leaf: pc 30
      refine r_iload_n 79 dX4_sole_78 rfl rfl ?_
      refine r_goto 83 dX4_sole_79 (by decide) ?_
      refine r_istore_n 84 dX4_sole_83 rfl rfl rfl ?_
      refine r_iinc 87 _ dX4_sole_84 rfl rfl rfl rfl (by first | exact w32_id (by omega) (by omega) | rfl) ?_
      refine r_goto 30 dX4_sole_87 (by decide) ?_
      rotate_left -- leaf: pc 30
      · have := ih (j + 1) (some (vI 12)) _ (by omega) eo (by rw [el]; simp only [miF]; rw [if_neg (by omega)])
        simp only [miF] at this
        rw [if_neg (by omega)] at this
        exact this
      · omega
theorem m_sole (lm : LM G) (wm : wM h) (x : Int) : Ca l G 5 mX4_sole [vR 45, vI x] h (fun r h' => r = some (vI (nSole x h)) ∧ scq h h') := by
  have lm0 := lm
  have wm0 := wm
  obtain ⟨hN, ⟨ms45, ms46, ms47, ms48, ms49, ms50, ms51, ms52, ms53, ms54, ms55, ms56, ms57⟩, ⟨ml46, ml47, ml48, ml49, ml50, ml51, ml52, ml53, ml54, ml55, ml56, ml57⟩, ⟨mr0, mr2, mr7, mr16, mr17, mr18, mr20, mr22, mr24, mr25, mr26, mr27⟩⟩ := lm
  refine Ca.of (by decide) (Nat.le_of_ble_eq_true rfl) (fun hI hv hH => ?_)
  unfold nSole
  refine r_iload_n 1 dX4_sole_0 rfl rfl ?_
  refine r_i2l 2 dX4_sole_1 rfl ?_
  refine r_lconst 3 dX4_sole_2 rfl 0 rfl (by decide) ?_
  refine r_lconst 4 dX4_sole_3 rfl 1 rfl (by decide) ?_
  rotate_left -- leaf: call at pc 4
  refine r_cs3 7 dX4_sole_4 rfl ks_4_49 rfl rfl (c_in x 0 1) ?_
  rintro r h' ⟨rfl, rfl⟩
  refine r_if_ne 12 10 dX4_sole_7 (by decide) rfl (fun c_7 => ?_) (fun c_7 => ?_)
  refine r_aload_n 13 dX4_sole_12 rfl rfl ?_
  refine r_iconst 14 dX4_sole_13 rfl rfl ?_
  refine r_bipush 16 dX4_sole_14 rfl rfl (by decide) ?_
  rotate_left -- leaf: call at pc 16
  refine r_iconst 11 dX4_sole_10 rfl rfl ?_
  refine r_iret dX4_sole_11 rfl ?_
  rotate_left -- leaf: return at pc 11
  · rw [if_neg (fun z => z (z01_y.mp c_7))]
    refine r_cv2 19 dX4_sole_16 rfl kv_4_196 (by first | assumption | omega) (by assumption) rfl rfl (m_copies lm0 0 99 (by omega) (by omega)) ?_
    rintro r h'' ⟨rfl, rfl⟩
    refine r_bipush 21 dX4_sole_19 rfl rfl (by decide) ?_
    refine r_istore_n 22 dX4_sole_21 rfl rfl rfl ?_
    refine r_aload_n 23 dX4_sole_22 rfl rfl ?_
    refine r_ldc 25 (1000000) dX4_sole_23 rfl kq_4_192 rfl ?_
    refine r_putI 28 dX4_sole_25 rfl kf_4_189 rfl rfl (Or.inl rfl) (by first | assumption | omega) (by assumption) ?_
    refine r_iconst 29 dX4_sole_28 rfl rfl ?_
    refine r_istore_n 30 dX4_sole_29 rfl rfl rfl ?_
    rotate_left -- leaf: pc 30
    exact l_msole (l := l) lm0 wm0 x (Φ := fun r h'' => r = some (vI (soB x (miF (soM h') (-4) 1000000 (h' 45 1).toNat))) ∧ scq h' h'') (fun h3 q => ⟨rfl, q⟩) (h' 45 1).toNat 0 none _ (by omega) (fun a b q1 q2 _ => up_n q2) up_s
  · rw [if_pos (z01_n.mp c_7)]
    exact ⟨rfl, fun _ _ _ _ _ => rfl⟩
end MO
