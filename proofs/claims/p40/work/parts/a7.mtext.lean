/-! SunPointerModel: names of lines, lines, text -/
def cutM (j : Nat) : Int := [0, 7, 14, 19, 24, 29, 33, 37, 42].getD j 0
def letM (j : Nat) : Int := [117, 112, 114, 105, 103, 104, 116, 115, 116, 111, 111, 112, 101, 100, 116, 105, 114, 101, 100, 108, 111, 118, 101, 114, 99, 108, 111, 117, 100, 100, 101, 101, 100, 114, 111, 116, 97, 112, 97, 105, 110, 116].getD j 0
def wN (h : zH) : Prop := (∀ j, j < 9 → h 49 j = cutM j) ∧ (∀ j, j < 42 → h 50 j = letM j)
theorem cutM_in : ∀ n, n < 8 → 0 ≤ cutM n ∧ cutM n + 4 ≤ cutM (n + 1) ∧ cutM (n + 1) ≤ 42 := by decide
def nkB (r tp : Nat → Int) (n k : Nat) : Bool := decide (byA r tp ((r 13).toNat + k) = letM ((cutM n).toNat + k))
def nmB (r tp : Nat → Int) (n : Nat) : Bool := decide (r 12 - r 13 = cutM (n + 1) - cutM n) && allN (nkB r tp n) (r 12 - r 13).toNat
def nhF (c : Nat → Bool) : Nat → Nat → Int
  | 0, _ => -4
  | n + 1, j => if c j = true then (j : Int) else nhF c n (j + 1)
def nhM (r tp : Nat → Int) : Int := if r 14 = 1 then nhF (nmB r tp) 8 0 else -4
theorem nhF_in (c : Nat → Bool) : ∀ n j : Nat, j + n = 8 → nhF c n j = -4 ∨ (0 ≤ nhF c n j ∧ nhF c n j ≤ 7)
  | 0, _, _ => Or.inl rfl
  | n + 1, j, h => by
    have := nhF_in c n (j + 1) (by omega)
    unfold nhF
    split <;> omega
theorem nhM_in (r tp : Nat → Int) : nhM r tp = -4 ∨ (0 ≤ nhM r tp ∧ nhM r tp ≤ 7) := by
  unfold nhM
  split
  · exact nhF_in _ 8 0 rfl
  · exact Or.inl rfl
section MT
variable {l : Launch} {G : zG} {h : zH} {r p : Nat → Int}
theorem l_nhK (lm : LM G) (wn : wN h) (w : wQ r) (n : Nat) (hn : n < 8) (eL : r 12 - r 13 = cutM (n + 1) - cutM n) {Φ : Option zV → zH → Prop} (ht : ∀ x3 : Option zV, nmB r (h 48) n = true → Rr l G 1 mX4_nameHere Φ 106 [some (vR 45), some (vI n), some (vI 1), x3] [] (mW h r p)) (hf : ∀ x3 : Option zV, ¬ nmB r (h 48) n = true → Rr l G 1 mX4_nameHere Φ 106 [some (vR 45), some (vI n), some (vI 0), x3] [] (mW h r p)) : ∀ (m k : Nat), k + m = (r 12 - r 13).toNat → allN (nkB r (h 48) n) k = true → Rr l G 1 mX4_nameHere Φ 51 [some (vR 45), some (vI n), some (vI 1), some (vI k)] [] (mW h r p) := by
  have lm0 := lm
  obtain ⟨hN, ⟨ms45, ms46, ms47, ms48, ms49, ms50, ms51, ms52, ms53, ms54, ms55, ms56, ms57⟩, ⟨ml46, ml47, ml48, ml49, ml50, ml51, ml52, ml53, ml54, ml55, ml56, ml57⟩, ⟨mr0, mr2, mr7, mr16, mr17, mr18, mr20, mr22, mr24, mr25, mr26, mr27⟩⟩ := lm
  have hc := cutM_in n hn
  obtain ⟨w1, w2, w3, w4, w5, w6⟩ := w
  intro m
  induction m with
  | zero =>
    intro k hk ha
    refine r_iload_n 52 dX4_nameHere_51 rfl rfl ?_
    refine r_if_eq 106 55 dX4_nameHere_52 (by decide) rfl (fun c_52 => ?_) (fun c_52 => ?_)
    rotate_left -- leaf: pc 106
    refine r_iload_n 56 dX4_nameHere_55 rfl rfl ?_
    refine r_aload_n 57 dX4_nameHere_56 rfl rfl ?_
    refine r_getI 60 dX4_nameHere_57 rfl kf_4_69 rfl (by first | assumption | omega) (by assumption) ?_
    try simp only [mW_45, mW_47, mW_48, mW_46, mW_49, mW_50, mW_54, mW_up45, mW_up47, mW_up54, up1_at, ↓reduceIte, Nat.reduceEqDiff, reduceCtorEq]
    refine r_aload_n 61 dX4_nameHere_60 rfl rfl ?_
    refine r_getI 64 dX4_nameHere_61 rfl kf_4_60 rfl (by first | assumption | omega) (by assumption) ?_
    try simp only [mW_45, mW_47, mW_48, mW_46, mW_49, mW_50, mW_54, mW_up45, mW_up47, mW_up54, up1_at, ↓reduceIte, Nat.reduceEqDiff, reduceCtorEq]
    refine r_isub 65 dX4_nameHere_64 rfl (by first | exact w32_id (by omega) (by omega) | rfl) ?_
    refine r_icmp_ge 106 68 dX4_nameHere_65 (by decide) rfl (fun c_65 => ?_) (fun c_65 => ?_)
    rotate_left -- leaf: pc 106
    rotate_left -- leaf: pc 68
    · omega
    · exact ht _ (by unfold nmB; rw [show (r 12 - r 13).toNat = k by omega, ha]; simp [eL])
    · omega
  | succ m ih =>
    intro k hk ha
    have e13 : r 13 + (k : Int) = (((r 13).toNat + k : Nat) : Int) := by omega
    have ecu : (cutM n + (k : Int)).toNat = (cutM n).toNat + k := by omega
    refine r_iload_n 52 dX4_nameHere_51 rfl rfl ?_
    refine r_if_eq 106 55 dX4_nameHere_52 (by decide) rfl (fun c_52 => ?_) (fun c_52 => ?_)
    rotate_left -- leaf: pc 106
    refine r_iload_n 56 dX4_nameHere_55 rfl rfl ?_
    refine r_aload_n 57 dX4_nameHere_56 rfl rfl ?_
    refine r_getI 60 dX4_nameHere_57 rfl kf_4_69 rfl (by first | assumption | omega) (by assumption) ?_
    try simp only [mW_45, mW_47, mW_48, mW_46, mW_49, mW_50, mW_54, mW_up45, mW_up47, mW_up54, up1_at, ↓reduceIte, Nat.reduceEqDiff, reduceCtorEq]
    refine r_aload_n 61 dX4_nameHere_60 rfl rfl ?_
    refine r_getI 64 dX4_nameHere_61 rfl kf_4_60 rfl (by first | assumption | omega) (by assumption) ?_
    try simp only [mW_45, mW_47, mW_48, mW_46, mW_49, mW_50, mW_54, mW_up45, mW_up47, mW_up54, up1_at, ↓reduceIte, Nat.reduceEqDiff, reduceCtorEq]
    refine r_isub 65 dX4_nameHere_64 rfl (by first | exact w32_id (by omega) (by omega) | rfl) ?_
    refine r_icmp_ge 106 68 dX4_nameHere_65 (by decide) rfl (fun c_65 => ?_) (fun c_65 => ?_)
    rotate_left -- leaf: pc 106
    refine r_aload_n 69 dX4_nameHere_68 rfl rfl ?_
    refine r_aload_n 70 dX4_nameHere_69 rfl rfl ?_
    refine r_getI 73 dX4_nameHere_70 rfl kf_4_60 rfl (by first | assumption | omega) (by assumption) ?_
    try simp only [mW_45, mW_47, mW_48, mW_46, mW_49, mW_50, mW_54, mW_up45, mW_up47, mW_up54, up1_at, ↓reduceIte, Nat.reduceEqDiff, reduceCtorEq]
    refine r_iload_n 74 dX4_nameHere_73 rfl rfl ?_
    refine r_iadd 75 dX4_nameHere_74 rfl (by first | exact w32_id (by omega) (by omega) | rfl) ?_
    rotate_left -- leaf: pc 75
    · omega
    · omega
    · rw [e13]
      refine r_cv1 78 dX4_nameHere_75 rfl kv_4_72 (by first | assumption | omega) (by assumption) rfl rfl (m_byteAtW lm0 ((r 13).toNat + k) w1.2) ?_
      rintro v h' ⟨rfl, rfl⟩
      refine r_aload_n 79 dX4_nameHere_78 rfl rfl ?_
      refine r_getR 82 dX4_nameHere_79 rfl kf_4_22 rfl (by first | assumption | omega) (by assumption) (by assumption) ?_
      try simp only [mW_45, mW_47, mW_48, mW_46, mW_49, mW_50, mW_54, mW_up45, mW_up47, mW_up54, up1_at, ↓reduceIte, Nat.reduceEqDiff, reduceCtorEq]
      refine r_aload_n 83 dX4_nameHere_82 rfl rfl ?_
      refine r_getR 86 dX4_nameHere_83 rfl kf_4_19 rfl (by first | assumption | omega) (by assumption) (by assumption) ?_
      try simp only [mW_45, mW_47, mW_48, mW_46, mW_49, mW_50, mW_54, mW_up45, mW_up47, mW_up54, up1_at, ↓reduceIte, Nat.reduceEqDiff, reduceCtorEq]
      refine r_iload_n 87 dX4_nameHere_86 rfl rfl ?_
      refine r_iald 88 dX4_nameHere_87 rfl (by first | assumption | omega) (by assumption) (by first | omega | (simp only [Int.toNat_natCast]; omega)) (by first | omega | (simp only [Int.toNat_natCast]; omega)) ?_
      try simp only [Int.toNat_natCast, tq_4, tq_8, tq_22, tq_27, tq_99, tq_a, tl_0, tl_1, tl_20, tl_21, tl_22, tl_32]
      try simp only [mW_45, mW_47, mW_48, mW_46, mW_49, mW_50, mW_54, mW_up45, mW_up47, mW_up54, up1_at, ↓reduceIte, Nat.reduceEqDiff, reduceCtorEq]
      rotate_left -- leaf: pc 88
      rw [wn.1 n (by omega)]
      refine r_iload_n 89 dX4_nameHere_88 rfl rfl ?_
      refine r_iadd 90 dX4_nameHere_89 rfl (by first | exact w32_id (by omega) (by omega) | rfl) ?_
      refine r_iald 91 dX4_nameHere_90 rfl (by first | assumption | omega) (by assumption) (by first | omega | (simp only [Int.toNat_natCast]; omega)) (by first | omega | (simp only [Int.toNat_natCast]; omega)) ?_
      try simp only [Int.toNat_natCast, tq_4, tq_8, tq_22, tq_27, tq_99, tq_a, tl_0, tl_1, tl_20, tl_21, tl_22, tl_32]
      try simp only [mW_45, mW_47, mW_48, mW_46, mW_49, mW_50, mW_54, mW_up45, mW_up47, mW_up54, up1_at, ↓reduceIte, Nat.reduceEqDiff, reduceCtorEq]
      rotate_left -- leaf: pc 91
      rw [ecu, wn.2 _ (by omega)]
      refine r_icmp_ne 98 94 dX4_nameHere_91 (by decide) rfl (fun c_91 => ?_) (fun c_91 => ?_)
      refine r_iconst 99 dX4_nameHere_98 rfl rfl ?_
      refine r_istore_n 100 dX4_nameHere_99 rfl rfl rfl ?_
      refine r_iinc 103 _ dX4_nameHere_100 rfl rfl rfl rfl (by first | exact w32_id (by omega) (by omega) | rfl) ?_
      refine r_goto 51 dX4_nameHere_103 (by decide) ?_
      rotate_left -- leaf: pc 51
      refine r_iconst 95 dX4_nameHere_94 rfl rfl ?_
      refine r_goto 99 dX4_nameHere_95 (by decide) ?_
      refine r_istore_n 100 dX4_nameHere_99 rfl rfl rfl ?_
      refine r_iinc 103 _ dX4_nameHere_100 rfl rfl rfl rfl (by first | exact w32_id (by omega) (by omega) | rfl) ?_
      refine r_goto 51 dX4_nameHere_103 (by decide) ?_
      rotate_left -- leaf: pc 51
      · refine r_iload_n 52 dX4_nameHere_51 rfl rfl ?_
        refine r_if_eq 106 55 dX4_nameHere_52 (by decide) rfl (fun c_52 => ?_) (fun c_52 => ?_)
        rotate_left -- leaf: pc 106
        rotate_left -- leaf: pc 55
        · exact hf _ (by
            unfold nmB
            rw [Bool.and_eq_true]
            exact fun z => allN_f (c := nkB r (h 48) n) (j := k) (by unfold nkB; rw [decide_eq_true_iff]; exact c_91) _ (by omega) z.2)
        · omega
      · exact ih (k + 1) (by omega) (by unfold allN; rw [ha, Bool.true_and]; unfold nkB; rw [decide_eq_true_iff]; exact c_91)
theorem l_nhN (lm : LM G) (wn : wN h) (w : wQ r) {v : Int} {Φ : Option zV → zH → Prop} (hΦ : Φ (some (vI v)) (mW h r p)) (ht : r 14 = 1) : ∀ (m n : Nat) (x2 x3 : Option zV), n + m = 8 → nhF (nmB r (h 48)) m n = v → Rr l G 1 mX4_nameHere Φ 2 [some (vR 45), some (vI n), x2, x3] [] (mW h r p) := by
  have lm0 := lm
  have w0 := w
  obtain ⟨hN, ⟨ms45, ms46, ms47, ms48, ms49, ms50, ms51, ms52, ms53, ms54, ms55, ms56, ms57⟩, ⟨ml46, ml47, ml48, ml49, ml50, ml51, ml52, ml53, ml54, ml55, ml56, ml57⟩, ⟨mr0, mr2, mr7, mr16, mr17, mr18, mr20, mr22, mr24, mr25, mr26, mr27⟩⟩ := lm
  obtain ⟨w1, w2, w3, w4, w5, w6⟩ := w
  intro m
  induction m with
  | zero =>
    intro n x2 x3 hn hv
    simp only [nhF] at hv
    subst hv
    refine r_iload_n 3 dX4_nameHere_2 rfl rfl ?_
    refine r_bipush 5 dX4_nameHere_3 rfl rfl (by decide) ?_
    refine r_icmp_ge 118 8 dX4_nameHere_5 (by decide) rfl (fun c_5 => ?_) (fun c_5 => ?_)
    refine r_bipush 120 dX4_nameHere_118 rfl rfl (by decide) ?_
    refine r_iret dX4_nameHere_120 rfl ?_
    rotate_left -- leaf: return at pc 120
    rotate_left -- leaf: pc 8
    · exact hΦ
    · omega
  | succ m ih =>
    intro n x2 x3 hn hv
    rw [nhF] at hv
    have hc := cutM_in n (by omega)
    have J0 : ∀ x3 : Option zV, ¬ nmB r (h 48) n = true → Rr l G 1 mX4_nameHere Φ 106 [some (vR 45), some (vI n), some (vI 0), x3] [] (mW h r p) := by
      intro x3 hb
      rw [if_neg hb] at hv
      refine r_iload_n 107 dX4_nameHere_106 rfl rfl ?_
      refine r_if_eq 112 110 dX4_nameHere_107 (by decide) rfl (fun c_107 => ?_) (fun c_107 => ?_)
      refine r_iinc 115 _ dX4_nameHere_112 rfl rfl rfl rfl (by first | exact w32_id (by omega) (by omega) | rfl) ?_
      refine r_goto 2 dX4_nameHere_115 (by decide) ?_
      rotate_left -- leaf: pc 2
      refine r_iload_n 111 dX4_nameHere_110 rfl rfl ?_
      refine r_iret dX4_nameHere_111 rfl ?_
      rotate_left -- leaf: return at pc 111
      · exact ih (n + 1) _ _ (by omega) hv
      · omega
    refine r_iload_n 3 dX4_nameHere_2 rfl rfl ?_
    refine r_bipush 5 dX4_nameHere_3 rfl rfl (by decide) ?_
    refine r_icmp_ge 118 8 dX4_nameHere_5 (by decide) rfl (fun c_5 => ?_) (fun c_5 => ?_)
    rotate_left -- leaf: pc 118
    refine r_aload_n 9 dX4_nameHere_8 rfl rfl ?_
    refine r_getI 12 dX4_nameHere_9 rfl kf_4_66 rfl (by first | assumption | omega) (by assumption) ?_
    try simp only [mW_45, mW_47, mW_48, mW_46, mW_49, mW_50, mW_54, mW_up45, mW_up47, mW_up54, up1_at, ↓reduceIte, Nat.reduceEqDiff, reduceCtorEq]
    refine r_iconst 13 dX4_nameHere_12 rfl rfl ?_
    refine r_icmp_ne 118 16 dX4_nameHere_13 (by decide) rfl (fun c_13 => ?_) (fun c_13 => ?_)
    rotate_left -- leaf: pc 118
    refine r_aload_n 17 dX4_nameHere_16 rfl rfl ?_
    refine r_getI 20 dX4_nameHere_17 rfl kf_4_69 rfl (by first | assumption | omega) (by assumption) ?_
    try simp only [mW_45, mW_47, mW_48, mW_46, mW_49, mW_50, mW_54, mW_up45, mW_up47, mW_up54, up1_at, ↓reduceIte, Nat.reduceEqDiff, reduceCtorEq]
    refine r_aload_n 21 dX4_nameHere_20 rfl rfl ?_
    refine r_getI 24 dX4_nameHere_21 rfl kf_4_60 rfl (by first | assumption | omega) (by assumption) ?_
    try simp only [mW_45, mW_47, mW_48, mW_46, mW_49, mW_50, mW_54, mW_up45, mW_up47, mW_up54, up1_at, ↓reduceIte, Nat.reduceEqDiff, reduceCtorEq]
    refine r_isub 25 dX4_nameHere_24 rfl (by first | exact w32_id (by omega) (by omega) | rfl) ?_
    refine r_aload_n 26 dX4_nameHere_25 rfl rfl ?_
    refine r_getR 29 dX4_nameHere_26 rfl kf_4_19 rfl (by first | assumption | omega) (by assumption) (by assumption) ?_
    try simp only [mW_45, mW_47, mW_48, mW_46, mW_49, mW_50, mW_54, mW_up45, mW_up47, mW_up54, up1_at, ↓reduceIte, Nat.reduceEqDiff, reduceCtorEq]
    refine r_iload_n 30 dX4_nameHere_29 rfl rfl ?_
    refine r_iconst 31 dX4_nameHere_30 rfl rfl ?_
    refine r_iadd 32 dX4_nameHere_31 rfl (by first | exact w32_id (by omega) (by omega) | rfl) ?_
    rotate_left -- leaf: pc 32
    · omega
    · exact absurd ht c_13
    · rw [show ((n : Int) + 1) = ((n + 1 : Nat) : Int) by omega]
      refine r_iald 33 dX4_nameHere_32 rfl (by first | assumption | omega) (by assumption) (by first | omega | (simp only [Int.toNat_natCast]; omega)) (by first | omega | (simp only [Int.toNat_natCast]; omega)) ?_
      try simp only [Int.toNat_natCast, tq_4, tq_8, tq_22, tq_27, tq_99, tq_a, tl_0, tl_1, tl_20, tl_21, tl_22, tl_32]
      try simp only [mW_45, mW_47, mW_48, mW_46, mW_49, mW_50, mW_54, mW_up45, mW_up47, mW_up54, up1_at, ↓reduceIte, Nat.reduceEqDiff, reduceCtorEq]
      rotate_left -- leaf: pc 33
      rw [wn.1 (n + 1) (by omega)]
      refine r_aload_n 34 dX4_nameHere_33 rfl rfl ?_
      refine r_getR 37 dX4_nameHere_34 rfl kf_4_19 rfl (by first | assumption | omega) (by assumption) (by assumption) ?_
      try simp only [mW_45, mW_47, mW_48, mW_46, mW_49, mW_50, mW_54, mW_up45, mW_up47, mW_up54, up1_at, ↓reduceIte, Nat.reduceEqDiff, reduceCtorEq]
      refine r_iload_n 38 dX4_nameHere_37 rfl rfl ?_
      refine r_iald 39 dX4_nameHere_38 rfl (by first | assumption | omega) (by assumption) (by first | omega | (simp only [Int.toNat_natCast]; omega)) (by first | omega | (simp only [Int.toNat_natCast]; omega)) ?_
      try simp only [Int.toNat_natCast, tq_4, tq_8, tq_22, tq_27, tq_99, tq_a, tl_0, tl_1, tl_20, tl_21, tl_22, tl_32]
      try simp only [mW_45, mW_47, mW_48, mW_46, mW_49, mW_50, mW_54, mW_up45, mW_up47, mW_up54, up1_at, ↓reduceIte, Nat.reduceEqDiff, reduceCtorEq]
      rotate_left -- leaf: pc 39
      rw [wn.1 n (by omega)]
      refine r_isub 40 dX4_nameHere_39 rfl (by first | exact w32_id (by omega) (by omega) | rfl) ?_
      refine r_icmp_ne 47 43 dX4_nameHere_40 (by decide) rfl (fun c_40 => ?_) (fun c_40 => ?_)
      refine r_iconst 48 dX4_nameHere_47 rfl rfl ?_
      refine r_istore_n 49 dX4_nameHere_48 rfl rfl rfl ?_
      refine r_iconst 50 dX4_nameHere_49 rfl rfl ?_
      refine r_istore_n 51 dX4_nameHere_50 rfl rfl rfl ?_
      rotate_left -- leaf: pc 51
      refine r_iconst 44 dX4_nameHere_43 rfl rfl ?_
      refine r_goto 48 dX4_nameHere_44 (by decide) ?_
      refine r_istore_n 49 dX4_nameHere_48 rfl rfl rfl ?_
      refine r_iconst 50 dX4_nameHere_49 rfl rfl ?_
      refine r_istore_n 51 dX4_nameHere_50 rfl rfl rfl ?_
      rotate_left -- leaf: pc 51
      · refine r_iload_n 52 dX4_nameHere_51 rfl rfl ?_
        refine r_if_eq 106 55 dX4_nameHere_52 (by decide) rfl (fun c_52 => ?_) (fun c_52 => ?_)
        rotate_left -- leaf: pc 106
        rotate_left -- leaf: pc 55
        · exact J0 _ (by unfold nmB; rw [Bool.and_eq_true, decide_eq_true_iff]; exact fun z => c_40 z.1)
        · omega
      · refine l_nhK (l := l) lm0 wn w0 n (by omega) c_40 (fun x3 hb => ?_) J0 _ 0 (Nat.zero_add _) rfl
        rw [if_pos hb] at hv
        subst hv
        refine r_iload_n 107 dX4_nameHere_106 rfl rfl ?_
        refine r_if_eq 112 110 dX4_nameHere_107 (by decide) rfl (fun c_107 => ?_) (fun c_107 => ?_)
        rotate_left -- leaf: pc 112
        refine r_iload_n 111 dX4_nameHere_110 rfl rfl ?_
        refine r_iret dX4_nameHere_111 rfl ?_
        rotate_left -- leaf: return at pc 111
        · omega
        · exact hΦ
theorem m_nameHere (lm : LM G) (wn : wN h) (w : wQ r) : Ca l G 1 mX4_nameHere [vR 45] (mW h r p) (fun v h' => v = some (vI (nhM r (h 48))) ∧ h' = mW h r p) := by
  have lm0 := lm
  obtain ⟨hN, ⟨ms45, ms46, ms47, ms48, ms49, ms50, ms51, ms52, ms53, ms54, ms55, ms56, ms57⟩, ⟨ml46, ml47, ml48, ml49, ml50, ml51, ml52, ml53, ml54, ml55, ml56, ml57⟩, ⟨mr0, mr2, mr7, mr16, mr17, mr18, mr20, mr22, mr24, mr25, mr26, mr27⟩⟩ := lm
  refine Ca.of (by decide) (Nat.le_of_ble_eq_true rfl) (fun hI hv hH => ?_)
  unfold nhM
  by_cases ht : r 14 = 1
  · rw [if_pos ht]
    refine r_iconst 1 dX4_nameHere_0 rfl rfl ?_
    refine r_istore_n 2 dX4_nameHere_1 rfl rfl rfl ?_
    rotate_left -- leaf: pc 2
    exact l_nhN (l := l) lm0 wn w (Φ := fun v h' => v = some (vI (nhF (nmB r (h 48)) 8 0)) ∧ h' = mW h r p) ⟨rfl, rfl⟩ ht 8 0 none none rfl rfl
  · rw [if_neg ht]
    refine r_iconst 1 dX4_nameHere_0 rfl rfl ?_
    refine r_istore_n 2 dX4_nameHere_1 rfl rfl rfl ?_
    refine r_iload_n 3 dX4_nameHere_2 rfl rfl ?_
    refine r_bipush 5 dX4_nameHere_3 rfl rfl (by decide) ?_
    refine r_icmp_ge 118 8 dX4_nameHere_5 (by decide) rfl (fun c_5 => ?_) (fun c_5 => ?_)
    refine r_bipush 120 dX4_nameHere_118 rfl rfl (by decide) ?_
    refine r_iret dX4_nameHere_120 rfl ?_
    rotate_left -- leaf: return at pc 120
    refine r_aload_n 9 dX4_nameHere_8 rfl rfl ?_
    refine r_getI 12 dX4_nameHere_9 rfl kf_4_66 rfl (by first | assumption | omega) (by assumption) ?_
    try simp only [mW_45, mW_47, mW_48, mW_46, mW_49, mW_50, mW_54, mW_up45, mW_up47, mW_up54, up1_at, ↓reduceIte, Nat.reduceEqDiff, reduceCtorEq]
    refine r_iconst 13 dX4_nameHere_12 rfl rfl ?_
    refine r_icmp_ne 118 16 dX4_nameHere_13 (by decide) rfl (fun c_13 => ?_) (fun c_13 => ?_)
    refine r_bipush 120 dX4_nameHere_118 rfl rfl (by decide) ?_
    refine r_iret dX4_nameHere_120 rfl ?_
    rotate_left -- leaf: return at pc 120
    rotate_left -- leaf: pc 16
    · omega
    · exact ⟨rfl, rfl⟩
    · exact absurd c_13 ht
theorem wPg_up22 {pg : Nat → Int} {j : Nat} {v : Int} (hj : j < 5) (w : wPg pg) (hv : 0 ≤ v ∧ v ≤ 47) : wPg (up1 pg (22 + j) v) := by
  obtain ⟨w1, w2, w3, w4, w5, w6, w7, w8⟩ := w
  exact ⟨fun i hi => by rw [up1_n (by omega)]; exact w1 i hi, fun i hi => by rw [up1_n (by omega)]; exact w2 i hi, fun i hi => by rw [up1_n (by omega)]; exact w3 i hi, by rw [up1_n (by omega)]; exact w4, by rw [up1_n (by omega)]; exact w5, fun i hi => by
    by_cases e : i = j
    · subst e; rw [up1_s]; exact hv
    · rw [up1_n (by omega)]; exact w6 i hi, fun i hi => by rw [up1_n (by omega)]; exact w7 i hi, by rw [up1_n (by omega)]; exact w8⟩
theorem wPg_up27 {pg : Nat → Int} {j : Nat} {v : Int} (hj : j < 5) (w : wPg pg) (hv : 0 ≤ v ∧ v ≤ 9) : wPg (up1 pg (27 + j) v) := by
  obtain ⟨w1, w2, w3, w4, w5, w6, w7, w8⟩ := w
  exact ⟨fun i hi => by rw [up1_n (by omega)]; exact w1 i hi, fun i hi => by rw [up1_n (by omega)]; exact w2 i hi, fun i hi => by rw [up1_n (by omega)]; exact w3 i hi, by rw [up1_n (by omega)]; exact w4, by rw [up1_n (by omega)]; exact w5, fun i hi => by rw [up1_n (by omega)]; exact w6 i hi, fun i hi => by
    by_cases e : i = j
    · subst e; rw [up1_s]; exact hv
    · rw [up1_n (by omega)]; exact w7 i hi, by rw [up1_n (by omega)]; exact w8⟩
theorem wPg_up32 {pg : Nat → Int} {v : Int} (w : wPg pg) (hv : 0 ≤ v ∧ v ≤ 5) : wPg (up1 pg 32 v) := by
  obtain ⟨w1, w2, w3, w4, w5, w6, w7, w8⟩ := w
  exact ⟨fun i hi => by rw [up1_n (by omega)]; exact w1 i hi, fun i hi => by rw [up1_n (by omega)]; exact w2 i hi, fun i hi => by rw [up1_n (by omega)]; exact w3 i hi, by rw [up1_n (by omega)]; exact w4, by rw [up1_n (by omega)]; exact w5, fun i hi => by rw [up1_n (by omega)]; exact w6 i hi, fun i hi => by rw [up1_n (by omega)]; exact w7 i hi, by rw [up1_s]; exact hv⟩
def wZ (r : Nat → Int) : Prop := wQ r ∧ (0 ≤ r 3 ∧ r 3 ≤ 4) ∧ (0 ≤ r 4 ∧ r 4 ≤ 12) ∧ (0 ≤ r 5 ∧ r 5 < 256) ∧ (-1 ≤ r 6 ∧ r 6 ≤ 3)
theorem st_Z {r tp : Nat → Int} (wb : wB tp) (w : wZ r) : wZ (stR r tp) := by
  obtain ⟨w1, w2, w3, w4, w5⟩ := w
  refine ⟨st_Q wb w1, ?_⟩
  rw [stR_o (by omega), stR_o (by omega), stR_o (by omega), stR_o (by omega)]
  exact ⟨w2, w3, w4, w5⟩
theorem ot_Z {lo hi so : Int} {r : Nat → Int} (w : wZ r) : wZ (otR lo hi so r) := by
  obtain ⟨w1, w2, w3, w4, w5⟩ := w
  refine ⟨ot_Q w1, ?_⟩
  rw [ot_o (by omega), ot_o (by omega), ot_o (by omega), ot_o (by omega)]
  exact ⟨w2, w3, w4, w5⟩
theorem fl_Z {c : Int} {r : Nat → Int} (hc : 1 ≤ c ∧ c ≤ 6) (w : wZ r) : wZ (flR c r) := by
  obtain ⟨w1, w2, w3, w4, w5⟩ := w
  refine ⟨fl_Q hc w1, ?_⟩
  rw [flR_o (by omega), flR_o (by omega), flR_o (by omega), flR_o (by omega)]
  exact ⟨w2, w3, w4, w5⟩
def so_R (lo hi so : Int) (r tp : Nat → Int) : Nat → Int := stR (otR lo hi so r) tp
theorem so_Z {lo hi so : Int} {r tp : Nat → Int} (wb : wB tp) (w : wZ r) : wZ (so_R lo hi so r tp) := st_Z wb (ot_Z w)
theorem so_le {lo hi so : Int} {r tp : Nat → Int} (wb : wB tp) (w : wZ r) : r 12 ≤ so_R lo hi so r tp 12 := by
  have := st_le (tp := tp) wb (ot_Z (lo := lo) (hi := hi) (so := so) w).1
  rw [ot_o (by omega)] at this
  exact this
theorem so_o {lo hi so : Int} {r tp : Nat → Int} {b : Nat} (hb : b < 10 ∨ 15 < b) : so_R lo hi so r tp b = r b := by
  unfold so_R
  rw [stR_o hb, ot_o (by omega)]
/-- behind a step that came to the end, or to what is no NUMBER, nothing more is read -/
theorem so_x {lo hi so : Int} {r tp : Nat → Int} (w : wZ r) (h : r 10 = 0) (ht : ¬ r 14 = 2) : ¬ so_R lo hi so r tp 10 = 0 := by
  have e : otR lo hi so r = flR 2 r := by
    unfold otR
    rw [if_neg (fun z => z h), if_pos ht]
  unfold so_R
  rw [e, stR_B (by rw [flR_10 h]; omega), flR_10 h]
  omega
def moM (tp : Nat → Int) (n : Int) (r p : Nat → Int) : (Nat → Int) × (Nat → Int) :=
  if n ≤ 3 then (up1 (so_R 0 6 0 r tp) 3 (r 3 + 1), up1 (up1 p (r 3).toNat n) (4 + (r 3).toNat) (otV 0 6 0 r))
  else if n = 4 then (so_R 0 11 (p 20) r tp, up1 p 20 (((p 20).toNat ||| 2 ^ (otV 0 11 (p 20) r).toNat : Nat) : Int))
  else if n = 5 then (so_R 1 9 0 (so_R 0 47 0 r tp) tp, up1 (up1 (up1 p (22 + (p 32).toNat) (otV 0 47 0 r)) (27 + (p 32).toNat) (otV 1 9 0 (so_R 0 47 0 r tp))) 32 (p 32 + 1))
  else if n = 6 then rrM tp 13 r p
  else (so_R 0 6 0 r tp, up1 p 21 (otV 0 6 0 r - 3))
theorem p20_or {c v : Int} (hc : 0 ≤ c ∧ c < 4096) (hv : 0 ≤ v ∧ v ≤ 11) : 0 ≤ ((c.toNat ||| 2 ^ v.toNat : Nat) : Int) ∧ ((c.toNat ||| 2 ^ v.toNat : Nat) : Int) < 4096 := by
  have h1 : (2 : Nat) ^ v.toNat < 2 ^ 12 := Nat.pow_lt_pow_right (by decide) (by omega)
  have := Nat.or_lt_two_pow (x := c.toNat) (y := 2 ^ v.toNat) (n := 12) (by omega) h1
  omega
theorem mo_Q {tp : Nat → Int} (wb : wB tp) {n : Int} {r p : Nat → Int} (w : wZ r) (wp : wPg p) (hn : 0 ≤ n ∧ n ≤ 7) (h3 : n ≤ 3 → r 3 < 4) (h5 : n = 5 → p 32 < 5) : wZ (moM tp n r p).1 ∧ wPg (moM tp n r p).2 ∧ r 12 ≤ (moM tp n r p).1 12 := by
  have w8 := wp.2.2.2.2.2.2.2
  have w0 := w
  obtain ⟨w1, w2, w3, w4, w5⟩ := w
  unfold moM
  by_cases c1 : n ≤ 3
  · rw [if_pos c1]
    have hv := otV_in (lo := 0) (hi := 6) (so := 0) (r := r) (by omega)
    have := h3 c1
    obtain ⟨s1, s2, s3, s4, s5⟩ := so_Z (lo := 0) (hi := 6) (so := 0) wb w0
    exact ⟨⟨wQ_up (by omega) s1, (show 0 ≤ r 3 + 1 ∧ r 3 + 1 ≤ 4 by omega), s3, s4, s5⟩, wPg_up4 (by omega) (wPg_up0 (by omega) wp (by omega)) hv, so_le wb w0⟩
  rw [if_neg c1]
  by_cases c2 : n = 4
  · rw [if_pos c2]
    have hv := otV_in (lo := 0) (hi := 11) (so := p 20) (r := r) (by omega)
    exact ⟨so_Z wb w0, wPg_up20 wp (p20_or wp.2.2.2.1 hv), so_le wb w0⟩
  rw [if_neg c2]
  by_cases c3 : n = 5
  · rw [if_pos c3]
    have := h5 c3
    have hv := otV_in (lo := 0) (hi := 47) (so := 0) (r := r) (by omega)
    have hv2 := otV_in (lo := 1) (hi := 9) (so := 0) (r := so_R 0 47 0 r tp) (by omega)
    have s1 := so_Z (lo := 0) (hi := 47) (so := 0) wb w0
    exact ⟨so_Z wb s1, wPg_up32 (wPg_up27 (by omega) (wPg_up22 (by omega) wp hv) (by omega)) (by omega), Int.le_trans (so_le wb w0) (so_le wb s1)⟩
  rw [if_neg c3]
  by_cases c4 : n = 6
  · rw [if_pos c4]
    obtain ⟨q1, q2, q3, q4, q4b, q5⟩ := rr_Q wb 13 r p w1 wp w3 w5
    exact ⟨⟨q1, by rw [q5 3 (by omega)]; exact w2, q4b, by rw [q5 5 (by omega)]; exact w4, q4⟩, q2, q3⟩
  · rw [if_neg c4]
    have hv := otV_in (lo := 0) (hi := 6) (so := 0) (r := r) (by omega)
    exact ⟨so_Z wb w0, wPg_up21 wp (by omega), so_le wb w0⟩
theorem m_readMore (lm : LM G) (wb : wB (h 48)) (w : wZ r) (wp : wPg p) (n : Int) (hn : 0 ≤ n ∧ n ≤ 7) (h3 : n ≤ 3 → r 3 < 4) (h5 : n = 5 → p 32 < 5) : Ca l G 4 mX4_readMore [vR 45, vI n] (mW h r p) (fun v h' => v = none ∧ h' = mW h (moM (h 48) n r p).1 (moM (h 48) n r p).2) := by
  have lm0 := lm
  have w0 := w
  have wp0 := wp
  obtain ⟨hN, ⟨ms45, ms46, ms47, ms48, ms49, ms50, ms51, ms52, ms53, ms54, ms55, ms56, ms57⟩, ⟨ml46, ml47, ml48, ml49, ml50, ml51, ml52, ml53, ml54, ml55, ml56, ml57⟩, ⟨mr0, mr2, mr7, mr16, mr17, mr18, mr20, mr22, mr24, mr25, mr26, mr27⟩⟩ := lm
  obtain ⟨w1, w2, w3, w4, w5⟩ := w
  have p8 := wp.2.2.2.2.2.2.2
  have p20 := wp.2.2.2.1
  refine Ca.of (by decide) (Nat.le_of_ble_eq_true rfl) (fun hI hv hH => ?_)
  unfold moM
  by_cases c1 : n ≤ 3
  · rw [if_pos c1]
    have h3 := h3 c1
    refine r_iload_n 1 dX4_readMore_0 rfl rfl ?_
    refine r_iconst 2 dX4_readMore_1 rfl rfl ?_
    refine r_icmp_gt 47 5 dX4_readMore_2 (by decide) rfl (fun c_2 => ?_) (fun c_2 => ?_)
    rotate_left -- leaf: pc 47
    refine r_aload_n 6 dX4_readMore_5 rfl rfl ?_
    refine r_getR 9 dX4_readMore_6 rfl kf_4_13 rfl (by first | assumption | omega) (by assumption) (by assumption) ?_
    try simp only [mW_45, mW_47, mW_48, mW_46, mW_49, mW_50, mW_54, mW_up45, mW_up47, mW_up54, up1_at, ↓reduceIte, Nat.reduceEqDiff, reduceCtorEq]
    refine r_aload_n 10 dX4_readMore_9 rfl rfl ?_
    refine r_getI 13 dX4_readMore_10 rfl kf_4_104 rfl (by first | assumption | omega) (by assumption) ?_
    try simp only [mW_45, mW_47, mW_48, mW_46, mW_49, mW_50, mW_54, mW_up45, mW_up47, mW_up54, up1_at, ↓reduceIte, Nat.reduceEqDiff, reduceCtorEq]
    refine r_iload_n 14 dX4_readMore_13 rfl rfl ?_
    refine r_iast 15 dX4_readMore_14 rfl (by first | assumption | omega) (by assumption) (by first | omega | (simp only [Int.toNat_natCast]; omega)) (by first | omega | (simp only [Int.toNat_natCast]; omega)) ?_
    try simp only [Int.toNat_natCast, tq_4, tq_8, tq_22, tq_27, tq_99, tq_a, tl_0, tl_1, tl_20, tl_21, tl_22, tl_32]
    try simp only [mW_45, mW_47, mW_48, mW_46, mW_49, mW_50, mW_54, mW_up45, mW_up47, mW_up54, up1_at, ↓reduceIte, Nat.reduceEqDiff, reduceCtorEq]
    refine r_aload_n 16 dX4_readMore_15 rfl rfl ?_
    refine r_getR 19 dX4_readMore_16 rfl kf_4_13 rfl (by first | assumption | omega) (by assumption) (by assumption) ?_
    try simp only [mW_45, mW_47, mW_48, mW_46, mW_49, mW_50, mW_54, mW_up45, mW_up47, mW_up54, up1_at, ↓reduceIte, Nat.reduceEqDiff, reduceCtorEq]
    refine r_iconst 20 dX4_readMore_19 rfl rfl ?_
    refine r_aload_n 21 dX4_readMore_20 rfl rfl ?_
    refine r_getI 24 dX4_readMore_21 rfl kf_4_104 rfl (by first | assumption | omega) (by assumption) ?_
    try simp only [mW_45, mW_47, mW_48, mW_46, mW_49, mW_50, mW_54, mW_up45, mW_up47, mW_up54, up1_at, ↓reduceIte, Nat.reduceEqDiff, reduceCtorEq]
    rotate_left -- leaf: pc 24
    · omega
    · refine r_iadd 25 dX4_readMore_24 rfl (by first | exact w32_id (by omega) (by omega) | rfl) ?_
      refine r_aload_n 26 dX4_readMore_25 rfl rfl ?_
      refine r_iconst 27 dX4_readMore_26 rfl rfl ?_
      refine r_bipush 29 dX4_readMore_27 rfl rfl (by decide) ?_
      refine r_iconst 30 dX4_readMore_29 rfl rfl ?_
      rotate_left -- leaf: call at pc 30
      refine r_cv3 33 dX4_readMore_30 rfl kv_4_97 (by first | assumption | omega) (by assumption) rfl rfl (m_other lm0 wb w1 0 6 0 (by omega) (by omega) (Or.inl rfl)) ?_
      rintro v h' ⟨rfl, rfl⟩
      refine r_iast 34 dX4_readMore_33 rfl (by first | assumption | omega) (by assumption) (by first | omega | (simp only [Int.toNat_natCast]; omega)) (by first | omega | (simp only [Int.toNat_natCast]; omega)) ?_
      try simp only [Int.toNat_natCast, tq_4, tq_8, tq_22, tq_27, tq_99, tq_a, tl_0, tl_1, tl_20, tl_21, tl_22, tl_32]
      try simp only [mW_45, mW_47, mW_48, mW_46, mW_49, mW_50, mW_54, mW_up45, mW_up47, mW_up54, up1_at, ↓reduceIte, Nat.reduceEqDiff, reduceCtorEq]
      refine r_aload_n 35 dX4_readMore_34 rfl rfl ?_
      refine r_dup 36 dX4_readMore_35 rfl rfl ?_
      refine r_getI 39 dX4_readMore_36 rfl kf_4_104 rfl (by first | assumption | omega) (by assumption) ?_
      try simp only [mW_45, mW_47, mW_48, mW_46, mW_49, mW_50, mW_54, mW_up45, mW_up47, mW_up54, up1_at, ↓reduceIte, Nat.reduceEqDiff, reduceCtorEq]
      rotate_left -- leaf: pc 39
      rw [show stR (otR 0 6 0 r) (h 48) 3 = r 3 from so_o (lo := 0) (hi := 6) (so := 0) (by omega), show (4 + r 3).toNat = 4 + (r 3).toNat by omega]
      refine r_iconst 40 dX4_readMore_39 rfl rfl ?_
      refine r_iadd 41 dX4_readMore_40 rfl (by first | exact w32_id (by omega) (by omega) | rfl) ?_
      refine r_putI 44 dX4_readMore_41 rfl kf_4_104 rfl rfl (Or.inl rfl) (by first | assumption | omega) (by assumption) ?_
      try simp only [mW_45, mW_47, mW_48, mW_46, mW_49, mW_50, mW_54, mW_up45, mW_up47, mW_up54, up1_at, ↓reduceIte, Nat.reduceEqDiff, reduceCtorEq]
      refine r_goto 176 dX4_readMore_44 (by decide) ?_
      refine r_ret dX4_readMore_176 rfl ?_
      rotate_left -- leaf: return at pc 176
      exact ⟨rfl, rfl⟩
  rw [if_neg c1]
  refine r_iload_n 1 dX4_readMore_0 rfl rfl ?_
  refine r_iconst 2 dX4_readMore_1 rfl rfl ?_
  refine r_icmp_gt 47 5 dX4_readMore_2 (by decide) rfl (fun c_2 => ?_) (fun c_2 => ?_)
  rotate_left -- leaf: pc 47
  rotate_left -- leaf: pc 5
  rotate_left
  · omega
  by_cases c2 : n = 4
  · rw [if_pos c2]
    have hv' := otV_in (lo := 0) (hi := 11) (so := p 20) (r := r) (by omega)
    obtain ⟨V, hV⟩ := Int.eq_ofNat_of_zero_le hv'.1
    refine r_iload_n 48 dX4_readMore_47 rfl rfl ?_
    refine r_iconst 49 dX4_readMore_48 rfl rfl ?_
    refine r_icmp_ne 81 52 dX4_readMore_49 (by decide) rfl (fun c_49 => ?_) (fun c_49 => ?_)
    rotate_left -- leaf: pc 81
    rotate_left -- leaf: pc 52
    · exact absurd c2 c_49
    · refine r_aload_n 53 dX4_readMore_52 rfl rfl ?_
      refine r_getR 56 dX4_readMore_53 rfl kf_4_13 rfl (by first | assumption | omega) (by assumption) (by assumption) ?_
      try simp only [mW_45, mW_47, mW_48, mW_46, mW_49, mW_50, mW_54, mW_up45, mW_up47, mW_up54, up1_at, ↓reduceIte, Nat.reduceEqDiff, reduceCtorEq]
      refine r_bipush 58 dX4_readMore_56 rfl rfl (by decide) ?_
      refine r_dup2 59 dX4_readMore_58 rfl rfl rfl ?_
      refine r_iald 60 dX4_readMore_59 rfl (by first | assumption | omega) (by assumption) (by first | omega | (simp only [Int.toNat_natCast]; omega)) (by first | omega | (simp only [Int.toNat_natCast]; omega)) ?_
      try simp only [Int.toNat_natCast, tq_4, tq_8, tq_22, tq_27, tq_99, tq_a, tl_0, tl_1, tl_20, tl_21, tl_22, tl_32]
      try simp only [mW_45, mW_47, mW_48, mW_46, mW_49, mW_50, mW_54, mW_up45, mW_up47, mW_up54, up1_at, ↓reduceIte, Nat.reduceEqDiff, reduceCtorEq]
      refine r_iconst 61 dX4_readMore_60 rfl rfl ?_
      refine r_aload_n 62 dX4_readMore_61 rfl rfl ?_
      refine r_iconst 63 dX4_readMore_62 rfl rfl ?_
      refine r_bipush 65 dX4_readMore_63 rfl rfl (by decide) ?_
      refine r_aload_n 66 dX4_readMore_65 rfl rfl ?_
      refine r_getR 69 dX4_readMore_66 rfl kf_4_13 rfl (by first | assumption | omega) (by assumption) (by assumption) ?_
      try simp only [mW_45, mW_47, mW_48, mW_46, mW_49, mW_50, mW_54, mW_up45, mW_up47, mW_up54, up1_at, ↓reduceIte, Nat.reduceEqDiff, reduceCtorEq]
      refine r_bipush 71 dX4_readMore_69 rfl rfl (by decide) ?_
      refine r_iald 72 dX4_readMore_71 rfl (by first | assumption | omega) (by assumption) (by first | omega | (simp only [Int.toNat_natCast]; omega)) (by first | omega | (simp only [Int.toNat_natCast]; omega)) ?_
      try simp only [Int.toNat_natCast, tq_4, tq_8, tq_22, tq_27, tq_99, tq_a, tl_0, tl_1, tl_20, tl_21, tl_22, tl_32]
      try simp only [mW_45, mW_47, mW_48, mW_46, mW_49, mW_50, mW_54, mW_up45, mW_up47, mW_up54, up1_at, ↓reduceIte, Nat.reduceEqDiff, reduceCtorEq]
      rotate_left -- leaf: call at pc 72
      refine r_cv3 75 dX4_readMore_72 rfl kv_4_97 (by first | assumption | omega) (by assumption) rfl rfl (m_other lm0 wb w1 0 11 (p 20) p20 (by omega) (Or.inr (by omega))) ?_
      rintro v h' ⟨rfl, rfl⟩
      have e20 : z_ior (p 20) (z_ishl 1 (otV 0 11 (p 20) r)) = (((p 20).toNat ||| 2 ^ (otV 0 11 (p 20) r).toNat : Nat) : Int) := by
        rw [hV, Int.toNat_natCast, z_shl1 V (by omega)]
        have h1 : (2 : Nat) ^ V < 2 ^ 12 := Nat.pow_lt_pow_right (by decide) (by omega)
        have := z_or_nat (a := (p 20).toNat) (b := 2 ^ V) 12 (by decide) (by omega) h1
        rw [show (((p 20).toNat : Nat) : Int) = p 20 by omega] at this
        rw [← this]
        congr 1
      refine r_ishl 76 dX4_readMore_75 rfl rfl ?_
      refine r_ior 77 dX4_readMore_76 rfl rfl ?_
      rotate_left -- leaf: pc 77
      rw [e20]
      refine r_iast 78 dX4_readMore_77 rfl (by first | assumption | omega) (by assumption) (by first | omega | (simp only [Int.toNat_natCast]; omega)) (by first | omega | (simp only [Int.toNat_natCast]; omega)) ?_
      try simp only [Int.toNat_natCast, tq_4, tq_8, tq_22, tq_27, tq_99, tq_a, tl_0, tl_1, tl_20, tl_21, tl_22, tl_32]
      try simp only [mW_45, mW_47, mW_48, mW_46, mW_49, mW_50, mW_54, mW_up45, mW_up47, mW_up54, up1_at, ↓reduceIte, Nat.reduceEqDiff, reduceCtorEq]
      refine r_goto 176 dX4_readMore_78 (by decide) ?_
      refine r_ret dX4_readMore_176 rfl ?_
      rotate_left -- leaf: return at pc 176
      exact ⟨rfl, rfl⟩
  rw [if_neg c2]
  refine r_iload_n 48 dX4_readMore_47 rfl rfl ?_
  refine r_iconst 49 dX4_readMore_48 rfl rfl ?_
  refine r_icmp_ne 81 52 dX4_readMore_49 (by decide) rfl (fun c_49 => ?_) (fun c_49 => ?_)
  rotate_left -- leaf: pc 81
  rotate_left -- leaf: pc 52
  rotate_left
  · exact absurd c_49 c2
  by_cases c3 : n = 5
  · rw [if_pos c3]
    have h5 := h5 c3
    have e22 : (22 + p 32).toNat = 22 + (p 32).toNat := by omega
    have e27 : (27 + p 32).toNat = 27 + (p 32).toNat := by omega
    have s1 := so_Z (lo := 0) (hi := 47) (so := 0) (tp := h 48) wb w0
    refine r_iload_n 82 dX4_readMore_81 rfl rfl ?_
    refine r_iconst 83 dX4_readMore_82 rfl rfl ?_
    refine r_icmp_ne 146 86 dX4_readMore_83 (by decide) rfl (fun c_83 => ?_) (fun c_83 => ?_)
    rotate_left -- leaf: pc 146
    rotate_left -- leaf: pc 86
    · exact absurd c3 c_83
    · refine r_aload_n 87 dX4_readMore_86 rfl rfl ?_
      refine r_getR 90 dX4_readMore_87 rfl kf_4_13 rfl (by first | assumption | omega) (by assumption) (by assumption) ?_
      try simp only [mW_45, mW_47, mW_48, mW_46, mW_49, mW_50, mW_54, mW_up45, mW_up47, mW_up54, up1_at, ↓reduceIte, Nat.reduceEqDiff, reduceCtorEq]
      refine r_bipush 92 dX4_readMore_90 rfl rfl (by decide) ?_
      refine r_aload_n 93 dX4_readMore_92 rfl rfl ?_
      refine r_getR 96 dX4_readMore_93 rfl kf_4_13 rfl (by first | assumption | omega) (by assumption) (by assumption) ?_
      try simp only [mW_45, mW_47, mW_48, mW_46, mW_49, mW_50, mW_54, mW_up45, mW_up47, mW_up54, up1_at, ↓reduceIte, Nat.reduceEqDiff, reduceCtorEq]
      refine r_bipush 98 dX4_readMore_96 rfl rfl (by decide) ?_
      refine r_iald 99 dX4_readMore_98 rfl (by first | assumption | omega) (by assumption) (by first | omega | (simp only [Int.toNat_natCast]; omega)) (by first | omega | (simp only [Int.toNat_natCast]; omega)) ?_
      try simp only [Int.toNat_natCast, tq_4, tq_8, tq_22, tq_27, tq_99, tq_a, tl_0, tl_1, tl_20, tl_21, tl_22, tl_32]
      try simp only [mW_45, mW_47, mW_48, mW_46, mW_49, mW_50, mW_54, mW_up45, mW_up47, mW_up54, up1_at, ↓reduceIte, Nat.reduceEqDiff, reduceCtorEq]
      refine r_iadd 100 dX4_readMore_99 rfl (by first | exact w32_id (by omega) (by omega) | rfl) ?_
      refine r_aload_n 101 dX4_readMore_100 rfl rfl ?_
      refine r_iconst 102 dX4_readMore_101 rfl rfl ?_
      refine r_bipush 104 dX4_readMore_102 rfl rfl (by decide) ?_
      refine r_iconst 105 dX4_readMore_104 rfl rfl ?_
      rotate_left -- leaf: call at pc 105
      refine r_cv3 108 dX4_readMore_105 rfl kv_4_97 (by first | assumption | omega) (by assumption) rfl rfl (m_other lm0 wb w1 0 47 0 (by omega) (by omega) (Or.inl rfl)) ?_
      rintro v h' ⟨rfl, rfl⟩
      have e1 : stR (otR 0 47 0 r) (h 48) = so_R 0 47 0 r (h 48) := rfl
      rw [e1]
      refine r_iast 109 dX4_readMore_108 rfl (by first | assumption | omega) (by assumption) (by first | omega | (simp only [Int.toNat_natCast]; omega)) (by first | omega | (simp only [Int.toNat_natCast]; omega)) ?_
      try simp only [Int.toNat_natCast, tq_4, tq_8, tq_22, tq_27, tq_99, tq_a, tl_0, tl_1, tl_20, tl_21, tl_22, tl_32]
      try simp only [mW_45, mW_47, mW_48, mW_46, mW_49, mW_50, mW_54, mW_up45, mW_up47, mW_up54, up1_at, ↓reduceIte, Nat.reduceEqDiff, reduceCtorEq]
      refine r_aload_n 110 dX4_readMore_109 rfl rfl ?_
      refine r_getR 113 dX4_readMore_110 rfl kf_4_13 rfl (by first | assumption | omega) (by assumption) (by assumption) ?_
      try simp only [mW_45, mW_47, mW_48, mW_46, mW_49, mW_50, mW_54, mW_up45, mW_up47, mW_up54, up1_at, ↓reduceIte, Nat.reduceEqDiff, reduceCtorEq]
      refine r_bipush 115 dX4_readMore_113 rfl rfl (by decide) ?_
      refine r_aload_n 116 dX4_readMore_115 rfl rfl ?_
      refine r_getR 119 dX4_readMore_116 rfl kf_4_13 rfl (by first | assumption | omega) (by assumption) (by assumption) ?_
      try simp only [mW_45, mW_47, mW_48, mW_46, mW_49, mW_50, mW_54, mW_up45, mW_up47, mW_up54, up1_at, ↓reduceIte, Nat.reduceEqDiff, reduceCtorEq]
      refine r_bipush 121 dX4_readMore_119 rfl rfl (by decide) ?_
      refine r_iald 122 dX4_readMore_121 rfl (by first | assumption | omega) (by assumption) (by first | omega | (simp only [Int.toNat_natCast]; omega)) (by first | omega | (simp only [Int.toNat_natCast]; omega)) ?_
      try simp only [Int.toNat_natCast, tq_4, tq_8, tq_22, tq_27, tq_99, tq_a, tl_0, tl_1, tl_20, tl_21, tl_22, tl_32]
      try simp only [mW_45, mW_47, mW_48, mW_46, mW_49, mW_50, mW_54, mW_up45, mW_up47, mW_up54, up1_at, ↓reduceIte, Nat.reduceEqDiff, reduceCtorEq]
      rotate_left -- leaf: pc 122
      rw [e22]
      rw [if_neg (show ¬ 32 = 22 + (p 32).toNat by omega)]
      refine r_iadd 123 dX4_readMore_122 rfl (by first | exact w32_id (by omega) (by omega) | rfl) ?_
      refine r_aload_n 124 dX4_readMore_123 rfl rfl ?_
      refine r_iconst 125 dX4_readMore_124 rfl rfl ?_
      refine r_bipush 127 dX4_readMore_125 rfl rfl (by decide) ?_
      refine r_iconst 128 dX4_readMore_127 rfl rfl ?_
      rotate_left -- leaf: call at pc 128
      refine r_cv3 131 dX4_readMore_128 rfl kv_4_97 (by first | assumption | omega) (by assumption) rfl rfl (m_other lm0 wb s1.1 1 9 0 (by omega) (by omega) (Or.inl rfl)) ?_
      rintro v h' ⟨rfl, rfl⟩
      have e2 : stR (otR 1 9 0 (so_R 0 47 0 r (h 48))) (h 48) = so_R 1 9 0 (so_R 0 47 0 r (h 48)) (h 48) := rfl
      rw [e2]
      refine r_iast 132 dX4_readMore_131 rfl (by first | assumption | omega) (by assumption) (by first | omega | (simp only [Int.toNat_natCast]; omega)) (by first | omega | (simp only [Int.toNat_natCast]; omega)) ?_
      try simp only [Int.toNat_natCast, tq_4, tq_8, tq_22, tq_27, tq_99, tq_a, tl_0, tl_1, tl_20, tl_21, tl_22, tl_32]
      try simp only [mW_45, mW_47, mW_48, mW_46, mW_49, mW_50, mW_54, mW_up45, mW_up47, mW_up54, up1_at, ↓reduceIte, Nat.reduceEqDiff, reduceCtorEq]
      refine r_aload_n 133 dX4_readMore_132 rfl rfl ?_
      refine r_getR 136 dX4_readMore_133 rfl kf_4_13 rfl (by first | assumption | omega) (by assumption) (by assumption) ?_
      try simp only [mW_45, mW_47, mW_48, mW_46, mW_49, mW_50, mW_54, mW_up45, mW_up47, mW_up54, up1_at, ↓reduceIte, Nat.reduceEqDiff, reduceCtorEq]
      refine r_bipush 138 dX4_readMore_136 rfl rfl (by decide) ?_
      refine r_dup2 139 dX4_readMore_138 rfl rfl rfl ?_
      refine r_iald 140 dX4_readMore_139 rfl (by first | assumption | omega) (by assumption) (by first | omega | (simp only [Int.toNat_natCast]; omega)) (by first | omega | (simp only [Int.toNat_natCast]; omega)) ?_
      try simp only [Int.toNat_natCast, tq_4, tq_8, tq_22, tq_27, tq_99, tq_a, tl_0, tl_1, tl_20, tl_21, tl_22, tl_32]
      try simp only [mW_45, mW_47, mW_48, mW_46, mW_49, mW_50, mW_54, mW_up45, mW_up47, mW_up54, up1_at, ↓reduceIte, Nat.reduceEqDiff, reduceCtorEq]
      rotate_left -- leaf: pc 140
      rw [e27]
      rw [if_neg (show ¬ 32 = 27 + (p 32).toNat by omega), if_neg (show ¬ 32 = 22 + (p 32).toNat by omega)]
      refine r_iconst 141 dX4_readMore_140 rfl rfl ?_
      refine r_iadd 142 dX4_readMore_141 rfl (by first | exact w32_id (by omega) (by omega) | rfl) ?_
      refine r_iast 143 dX4_readMore_142 rfl (by first | assumption | omega) (by assumption) (by first | omega | (simp only [Int.toNat_natCast]; omega)) (by first | omega | (simp only [Int.toNat_natCast]; omega)) ?_
      try simp only [Int.toNat_natCast, tq_4, tq_8, tq_22, tq_27, tq_99, tq_a, tl_0, tl_1, tl_20, tl_21, tl_22, tl_32]
      try simp only [mW_45, mW_47, mW_48, mW_46, mW_49, mW_50, mW_54, mW_up45, mW_up47, mW_up54, up1_at, ↓reduceIte, Nat.reduceEqDiff, reduceCtorEq]
      refine r_goto 176 dX4_readMore_143 (by decide) ?_
      refine r_ret dX4_readMore_176 rfl ?_
      rotate_left -- leaf: return at pc 176
      exact ⟨rfl, rfl⟩
  rw [if_neg c3]
  refine r_iload_n 82 dX4_readMore_81 rfl rfl ?_
  refine r_iconst 83 dX4_readMore_82 rfl rfl ?_
  refine r_icmp_ne 146 86 dX4_readMore_83 (by decide) rfl (fun c_83 => ?_) (fun c_83 => ?_)
  rotate_left -- leaf: pc 146
  rotate_left -- leaf: pc 86
  rotate_left
  · exact absurd c_83 c3
  by_cases c4 : n = 6
  · rw [if_pos c4]
    refine r_iload_n 147 dX4_readMore_146 rfl rfl ?_
    refine r_bipush 149 dX4_readMore_147 rfl rfl (by decide) ?_
    refine r_icmp_ne 159 152 dX4_readMore_149 (by decide) rfl (fun c_149 => ?_) (fun c_149 => ?_)
    rotate_left -- leaf: pc 159
    refine r_aload_n 153 dX4_readMore_152 rfl rfl ?_
    rotate_left -- leaf: call at pc 153
    · exact absurd c4 c_149
    · refine r_cv0 156 dX4_readMore_153 rfl kv_4_107 (by first | assumption | omega) (by assumption) rfl rfl (m_readRota lm0 wb w1 w3 w5) ?_
      rintro v h' ⟨rfl, rfl⟩
      refine r_goto 176 dX4_readMore_156 (by decide) ?_
      refine r_ret dX4_readMore_176 rfl ?_
      rotate_left -- leaf: return at pc 176
      exact ⟨rfl, rfl⟩
  · rw [if_neg c4]
    have hv' := otV_in (lo := 0) (hi := 6) (so := 0) (r := r) (by omega)
    refine r_iload_n 147 dX4_readMore_146 rfl rfl ?_
    refine r_bipush 149 dX4_readMore_147 rfl rfl (by decide) ?_
    refine r_icmp_ne 159 152 dX4_readMore_149 (by decide) rfl (fun c_149 => ?_) (fun c_149 => ?_)
    refine r_aload_n 160 dX4_readMore_159 rfl rfl ?_
    refine r_getR 163 dX4_readMore_160 rfl kf_4_13 rfl (by first | assumption | omega) (by assumption) (by assumption) ?_
    try simp only [mW_45, mW_47, mW_48, mW_46, mW_49, mW_50, mW_54, mW_up45, mW_up47, mW_up54, up1_at, ↓reduceIte, Nat.reduceEqDiff, reduceCtorEq]
    refine r_bipush 165 dX4_readMore_163 rfl rfl (by decide) ?_
    refine r_aload_n 166 dX4_readMore_165 rfl rfl ?_
    refine r_iconst 167 dX4_readMore_166 rfl rfl ?_
    refine r_bipush 169 dX4_readMore_167 rfl rfl (by decide) ?_
    refine r_iconst 170 dX4_readMore_169 rfl rfl ?_
    rotate_left -- leaf: call at pc 170
    rotate_left -- leaf: pc 152
    · refine r_cv3 173 dX4_readMore_170 rfl kv_4_97 (by first | assumption | omega) (by assumption) rfl rfl (m_other lm0 wb w1 0 6 0 (by omega) (by omega) (Or.inl rfl)) ?_
      rintro v h' ⟨rfl, rfl⟩
      refine r_iconst 174 dX4_readMore_173 rfl rfl ?_
      refine r_isub 175 dX4_readMore_174 rfl (by first | exact w32_id (by omega) (by omega) | rfl) ?_
      refine r_iast 176 dX4_readMore_175 rfl (by first | assumption | omega) (by assumption) (by first | omega | (simp only [Int.toNat_natCast]; omega)) (by first | omega | (simp only [Int.toNat_natCast]; omega)) ?_
      try simp only [Int.toNat_natCast, tq_4, tq_8, tq_22, tq_27, tq_99, tq_a, tl_0, tl_1, tl_20, tl_21, tl_22, tl_32]
      try simp only [mW_45, mW_47, mW_48, mW_46, mW_49, mW_50, mW_54, mW_up45, mW_up47, mW_up54, up1_at, ↓reduceIte, Nat.reduceEqDiff, reduceCtorEq]
      refine r_ret dX4_readMore_176 rfl ?_
      rotate_left -- leaf: return at pc 176
      exact ⟨rfl, rfl⟩
    · exact absurd c_149 c4
end MT
