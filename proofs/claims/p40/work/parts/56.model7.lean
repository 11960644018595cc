/-! SunPointerModel: give, swap, sole -/
section MO
variable {l : Launch} {G : zG} {h : zH}
def gvM (h : zH) (j m : Nat) : Int := hmM (up1 (h 46) (8 + j) ((m : Int) + 1))
def gwM (h : zH) : Nat → Int × Int
  | 0 => (-4, hmM (h 46))
  | j + 1 => mrF (gvM h j) (fun m => 10 * (j : Int) + m) (gwM h j) (h 45 1).toNat
def soB (x : Int) (s : Int × Int) : Int := if s.1 = -4 ∨ x = 0 then s.1 else s.2
def nGive (x : Int) (h : zH) : Int := if ¬ (0 ≤ x ∧ x ≤ 1) then -1 else soB x (gwM h 12)
/-- H is as h but for the readings, the least, and places of the row state that are q -/
def eqq (q : Nat → Prop) (h H : zH) : Prop := ∀ a b, a ≠ 51 → ¬ (a = 45 ∧ b = 19) → ¬ (a = 46 ∧ q b) → H a b = h a b
theorem l_mgiveI (lm : LM G) (wm : wM h) (x : Int) {Φ : Option zV → zH → Prop} (j : Nat) (hj : j < 12)
    (hΦ : ∀ (H : zH), eqq (fun b => b = 8 + j) h H → H 45 19 = (gwM h (j + 1)).2 → Rr l G 5 mX4_give Φ 96 [some (vR 45), some (vI x), some (vI (gwM h (j + 1)).1), some (vI j), some (vI (h 46 (8 + j))), some (vI (h 45 1))] [] H) :
    ∀ (n m : Nat) (H : zH), m + n = (h 45 1).toNat → eqq (fun b => b = 8 + j) h H → H 45 19 = (mrF (gvM h j) (fun m => 10 * (j : Int) + m) (gwM h j) m).2 → Rr l G 5 mX4_give Φ 45 [some (vR 45), some (vI x), some (vI (mrF (gvM h j) (fun m => 10 * (j : Int) + m) (gwM h j) m).1), some (vI j), some (vI (h 46 (8 + j))), some (vI m)] [] H := by
  have lm0 := lm
  obtain ⟨hN, ⟨ms45, ms46, ms47, ms48, ms49, ms50, ms51, ms52, ms53, ms54, ms55, ms56, ms57⟩, ⟨ml46, ml47, ml48, ml49, ml50, ml51, ml52, ml53, ml54, ml55, ml56, ml57⟩, ⟨mr0, mr2, mr7, mr16, mr17, mr18, mr20, mr22, mr24, mr25, mr26, mr27⟩⟩ := lm
  have wm1 := wm.1
  have wmen := wm.2.1
  intro n
  induction n with
  | zero =>
    intro m H hm he hl
    have e1 : H 45 1 = h 45 1 := he 45 1 (by omega) (by omega) (by omega)
    have hΦ := hΦ H he (by rw [hl, gwM, show (h 45 1).toNat = m by omega])
    refine r_iload 47 dX4_give_45 rfl rfl ?_
    refine r_aload_n 48 dX4_give_47 rfl rfl ?_
    refine r_getI 51 dX4_give_48 rfl kf_4_128 rfl (by first | assumption | omega) (by assumption) ?_
    rotate_left -- leaf: pc 51
    rw [e1]
    refine r_icmp_ge 96 54 dX4_give_51 (by decide) rfl (fun c_51 => ?_) (fun c_51 => ?_)
    rotate_left -- leaf: pc 96
    rotate_left -- leaf: pc 54
    · rw [gwM, show (h 45 1).toNat = m by omega, show h 45 1 = (m : Int) by omega] at hΦ
      exact hΦ
    · omega
  | succ n ih =>
    intro m H hm he hl
    have e1 : H 45 1 = h 45 1 := he 45 1 (by omega) (by omega) (by omega)
    have epg : up H 46 (8 + j) ((m : Int) + 1) 46 = up1 (h 46) (8 + j) ((m : Int) + 1) := by
      rw [up_pg]
      funext b
      unfold up1
      split
      · rfl
      · exact he 46 b (by omega) (by omega) (by omega)
    refine r_iload 47 dX4_give_45 rfl rfl ?_
    refine r_aload_n 48 dX4_give_47 rfl rfl ?_
    refine r_getI 51 dX4_give_48 rfl kf_4_128 rfl (by first | assumption | omega) (by assumption) ?_
    rotate_left -- leaf: pc 51
    rw [e1]
    refine r_icmp_ge 96 54 dX4_give_51 (by decide) rfl (fun c_51 => ?_) (fun c_51 => ?_)
    rotate_left -- leaf: pc 96
    refine r_aload_n 55 dX4_give_54 rfl rfl ?_
    refine r_getR 58 dX4_give_55 rfl kf_4_7 rfl (by first | assumption | omega) (by assumption) (by assumption) ?_
    refine r_bipush 60 dX4_give_58 rfl rfl (by decide) ?_
    refine r_iload_n 61 dX4_give_60 rfl rfl ?_
    refine r_iadd 62 dX4_give_61 rfl (by first | exact w32_id (by omega) (by omega) | rfl) ?_
    refine r_iload 64 dX4_give_62 rfl rfl ?_
    refine r_iconst 65 dX4_give_64 rfl rfl ?_
    refine r_iadd 66 dX4_give_65 rfl (by first | exact w32_id (by omega) (by omega) | rfl) ?_
    refine r_iast 67 dX4_give_66 rfl (by first | assumption | omega) (by assumption) (by first | omega | (simp only [Int.toNat_natCast]; omega)) (by first | omega | (simp only [Int.toNat_natCast]; omega)) ?_
    try simp only [Int.toNat_natCast, tq_4, tq_8, tq_22, tq_27, tq_99, tq_a, tl_0, tl_1, tl_20, tl_21, tl_22, tl_32]
    refine r_aload_n 68 dX4_give_67 rfl rfl ?_
    refine r_aload_n 69 dX4_give_68 rfl rfl ?_
    rotate_left -- leaf: call at pc 69
    · omega
    refine r_cv0 72 dX4_give_69 rfl kv_4_158 (by first | assumption | omega) (by assumption) rfl rfl (m_harm lm0 (by rw [epg]; exact wPg_up8 hj wm1 (by omega))) ?_
    rintro r h' ⟨rfl, rfl⟩
    rw [epg]
    have ev : hmM (up1 (h 46) (8 + j) ((m : Int) + 1)) = gvM h j m := rfl
    rw [ev]
    have el : setB (up H 46 (8 + j) ((m : Int) + 1)) 51 48 (rdM (up1 (h 46) (8 + j) ((m : Int) + 1))) 45 19 = (mrF (gvM h j) (fun m => 10 * (j : Int) + m) (gwM h j) m).2 := by rw [setB_n (by omega), up_k (by omega)]; exact hl
    have eo : eqq (fun b => b = 8 + j) h (setB (up H 46 (8 + j) ((m : Int) + 1)) 51 48 (rdM (up1 (h 46) (8 + j) ((m : Int) + 1)))) := fun a b q1 q2 q3 => by rw [setB_n q1, up_n q3]; exact he a b q1 q2 q3
    refine r_cv1 75 dX4_give_72 rfl kv_4_193 (by first | assumption | omega) (by assumption) rfl rfl (m_isLess lm0 (gvM h j m)) ?_
    rintro r h'' (⟨q1, rfl, rfl⟩ | ⟨q1, rfl, rfl⟩)
    · rw [el] at q1
      refine r_if_eq 88 78 dX4_give_75 (by decide) rfl (fun c_75 => ?_) (fun c_75 => ?_)
      refine r_iload_n 89 dX4_give_88 rfl rfl ?_
      refine r_istore_n 90 dX4_give_89 rfl rfl rfl ?_
      refine r_iinc 93 _ dX4_give_90 rfl rfl rfl rfl (by first | exact w32_id (by omega) (by omega) | rfl) ?_
      refine r_goto 45 dX4_give_93 (by decide) ?_
      rotate_left -- leaf: pc 45
      refine r_bipush 80 dX4_give_78 rfl rfl (by decide) ?_
      refine r_iload_n 81 dX4_give_80 rfl rfl ?_
      refine r_imul 82 dX4_give_81 rfl (by first | exact w32_id (by omega) (by omega) | rfl) ?_
      refine r_iload 84 dX4_give_82 rfl rfl ?_
      refine r_iadd 85 dX4_give_84 rfl (by first | exact w32_id (by omega) (by omega) | rfl) ?_
      refine r_goto 89 dX4_give_85 (by decide) ?_
      refine r_istore_n 90 dX4_give_89 rfl rfl rfl ?_
      refine r_iinc 93 _ dX4_give_90 rfl rfl rfl rfl (by first | exact w32_id (by omega) (by omega) | rfl) ?_
      refine r_goto 45 dX4_give_93 (by decide) ?_
      rotate_left -- leaf: pc 45
      · omega
      · have := ih (m + 1) (up (setB (up H 46 (8 + j) ((m : Int) + 1)) 51 48 (rdM (up1 (h 46) (8 + j) ((m : Int) + 1)))) 45 19 (gvM h j m)) (by omega) (fun a b z1 z2 z3 => by rw [up_n z2]; exact eo a b z1 z2 z3) (by rw [up_s]; simp only [mrF]; rw [if_pos q1])
        simp only [mrF] at this
        rw [if_pos q1] at this
        exact this
    · rw [el] at q1
      refine r_if_eq 88 78 dX4_give_75 (by decide) rfl (fun c_75 => ?_) (fun c_75 => ?_)
      refine r_iload_n 89 dX4_give_88 rfl rfl ?_
      refine r_istore_n 90 dX4_give_89 rfl rfl rfl ?_
      refine r_iinc 93 _ dX4_give_90 rfl rfl rfl rfl (by first | exact w32_id (by omega) (by omega) | rfl) ?_
      refine r_goto 45 dX4_give_93 (by decide) ?_
      rotate_left -- leaf: pc 45
      refine r_bipush 80 dX4_give_78 rfl rfl (by decide) ?_
      refine r_iload_n 81 dX4_give_80 rfl rfl ?_
      refine r_imul 82 dX4_give_81 rfl (by first | exact w32_id (by omega) (by omega) | rfl) ?_
      refine r_iload 84 dX4_give_82 rfl rfl ?_
      refine r_iadd 85 dX4_give_84 rfl (by first | exact w32_id (by omega) (by omega) | rfl) ?_
      refine r_goto 89 dX4_give_85 (by decide) ?_
      refine r_istore_n 90 dX4_give_89 rfl rfl rfl ?_
      refine r_iinc 93 _ dX4_give_90 rfl rfl rfl rfl (by first | exact w32_id (by omega) (by omega) | rfl) ?_
      refine r_goto 45 dX4_give_93 (by decide) ?_
      rotate_left -- leaf: pc 45
      · have := ih (m + 1) _ (by omega) eo (by rw [el]; simp only [mrF]; rw [if_neg (by omega)])
        simp only [mrF] at this
        rw [if_neg (by omega)] at this
        exact this
      · omega
theorem eqq_put {H : zH} {j : Nat} (he : eqq (fun b => b = j) h H) : eqq (fun _ => False) h (up H 46 j (h 46 j)) := fun a b q1 q2 _ => by
  by_cases e : a = 46 ∧ b = j
  · obtain ⟨rfl, rfl⟩ := e; rw [up_s]
  · rw [up_n e]; exact he a b q1 q2 e
theorem eqq_scq {H : zH} (he : eqq (fun _ => False) h H) : scq h H := fun a b q1 q2 _ => he a b q1 q2 (fun z => z.2)
theorem l_mgive (lm : LM G) (wm : wM h) (x : Int) {Φ : Option zV → zH → Prop} (hΦ : ∀ h', scq h h' → Φ (some (vI (soB x (gwM h 12)))) h') : ∀ (n j : Nat) (x4 x5 : Option zV) (H : zH), j + n = 12 → eqq (fun _ => False) h H → H 45 19 = (gwM h j).2 → Rr l G 5 mX4_give Φ 25 [some (vR 45), some (vI x), some (vI (gwM h j).1), some (vI j), x4, x5] [] H := by
  have lm0 := lm
  have wm0 := wm
  obtain ⟨hN, ⟨ms45, ms46, ms47, ms48, ms49, ms50, ms51, ms52, ms53, ms54, ms55, ms56, ms57⟩, ⟨ml46, ml47, ml48, ml49, ml50, ml51, ml52, ml53, ml54, ml55, ml56, ml57⟩, ⟨mr0, mr2, mr7, mr16, mr17, mr18, mr20, mr22, mr24, mr25, mr26, mr27⟩⟩ := lm
  intro n
  induction n with
  | zero =>
    intro j x4 x5 H hj he hl
    obtain rfl : j = 12 := by omega
    have hΦ := hΦ H (eqq_scq he)
    unfold soB at hΦ
    refine r_iload_n 26 dX4_give_25 rfl rfl ?_
    refine r_bipush 28 dX4_give_26 rfl rfl (by decide) ?_
    refine r_icmp_ge 113 31 dX4_give_28 (by decide) rfl (fun c_28 => ?_) (fun c_28 => ?_)
    refine r_iload_n 114 dX4_give_113 rfl rfl ?_
    refine r_bipush 116 dX4_give_114 rfl rfl (by decide) ?_
    refine r_icmp_eq 123 119 dX4_give_116 (by decide) rfl (fun c_116 => ?_) (fun c_116 => ?_)
    refine r_iload_n 124 dX4_give_123 rfl rfl ?_
    refine r_goto 131 dX4_give_124 (by decide) ?_
    refine r_iret dX4_give_131 rfl ?_
    rotate_left -- leaf: return at pc 131
    refine r_iload_n 120 dX4_give_119 rfl rfl ?_
    refine r_if_ne 127 123 dX4_give_120 (by decide) rfl (fun c_120 => ?_) (fun c_120 => ?_)
    refine r_aload_n 128 dX4_give_127 rfl rfl ?_
    refine r_getI 131 dX4_give_128 rfl kf_4_189 rfl (by first | assumption | omega) (by assumption) ?_
    refine r_iret dX4_give_131 rfl ?_
    rotate_left -- leaf: return at pc 131
    refine r_iload_n 124 dX4_give_123 rfl rfl ?_
    refine r_goto 131 dX4_give_124 (by decide) ?_
    refine r_iret dX4_give_131 rfl ?_
    rotate_left -- leaf: return at pc 131
    rotate_left -- leaf: pc 31
    · rw [if_pos (Or.inl c_116)] at hΦ
      exact hΦ
    · rw [if_neg (by omega)] at hΦ
      rw [hl]
      exact hΦ
    · rw [if_pos (Or.inr c_120)] at hΦ
      exact hΦ
    · omega
  | succ n ih =>
    intro j x4 x5 H hj he hl
    have e8 : H 46 (8 + j) = h 46 (8 + j) := he 46 _ (by omega) (by omega) (fun z => z.2)
    refine r_iload_n 26 dX4_give_25 rfl rfl ?_
    refine r_bipush 28 dX4_give_26 rfl rfl (by decide) ?_
    refine r_icmp_ge 113 31 dX4_give_28 (by decide) rfl (fun c_28 => ?_) (fun c_28 => ?_)
    rotate_left -- leaf: pc 113
    refine r_aload_n 32 dX4_give_31 rfl rfl ?_
    refine r_getR 35 dX4_give_32 rfl kf_4_7 rfl (by first | assumption | omega) (by assumption) (by assumption) ?_
    refine r_bipush 37 dX4_give_35 rfl rfl (by decide) ?_
    refine r_iload_n 38 dX4_give_37 rfl rfl ?_
    refine r_iadd 39 dX4_give_38 rfl (by first | exact w32_id (by omega) (by omega) | rfl) ?_
    refine r_iald 40 dX4_give_39 rfl (by first | assumption | omega) (by assumption) (by first | omega | (simp only [Int.toNat_natCast]; omega)) (by first | omega | (simp only [Int.toNat_natCast]; omega)) ?_
    try simp only [Int.toNat_natCast, tq_4, tq_8, tq_22, tq_27, tq_99, tq_a, tl_0, tl_1, tl_20, tl_21, tl_22, tl_32]
    rotate_left -- leaf: pc 40
    · omega
    rw [e8]
    refine r_istore 42 dX4_give_40 rfl rfl rfl ?_
    refine r_iconst 43 dX4_give_42 rfl rfl ?_
    refine r_istore 45 dX4_give_43 rfl rfl rfl ?_
    rotate_left -- leaf: pc 45
    refine l_mgiveI (l := l) lm0 wm0 x j (by omega) (fun H he hl => ?_) (h 45 1).toNat 0 H (by omega) (fun a b q1 q2 q3 => he a b q1 q2 (fun z => z.2)) hl
    refine r_aload_n 97 dX4_give_96 rfl rfl ?_
    refine r_getR 100 dX4_give_97 rfl kf_4_7 rfl (by first | assumption | omega) (by assumption) (by assumption) ?_
    refine r_bipush 102 dX4_give_100 rfl rfl (by decide) ?_
    refine r_iload_n 103 dX4_give_102 rfl rfl ?_
    refine r_iadd 104 dX4_give_103 rfl (by first | exact w32_id (by omega) (by omega) | rfl) ?_
    refine r_iload 106 dX4_give_104 rfl rfl ?_
    refine r_iast 107 dX4_give_106 rfl (by first | assumption | omega) (by assumption) (by first | omega | (simp only [Int.toNat_natCast]; omega)) (by first | omega | (simp only [Int.toNat_natCast]; omega)) ?_
    try simp only [Int.toNat_natCast, tq_4, tq_8, tq_22, tq_27, tq_99, tq_a, tl_0, tl_1, tl_20, tl_21, tl_22, tl_32]
    refine r_iinc 110 _ dX4_give_107 rfl rfl rfl rfl (by first | exact w32_id (by omega) (by omega) | rfl) ?_
    refine r_goto 25 dX4_give_110 (by decide) ?_
    rotate_left -- leaf: pc 25
    exact ih (j + 1) _ _ _ (by omega) (eqq_put he) (by rw [up_k (by omega)]; exact hl)
theorem m_give (lm : LM G) (wm : wM h) (x : Int) : Ca l G 5 mX4_give [vR 45, vI x] h (fun r h' => r = some (vI (nGive x h)) ∧ scq h h') := by
  have lm0 := lm
  have wm0 := wm
  obtain ⟨hN, ⟨ms45, ms46, ms47, ms48, ms49, ms50, ms51, ms52, ms53, ms54, ms55, ms56, ms57⟩, ⟨ml46, ml47, ml48, ml49, ml50, ml51, ml52, ml53, ml54, ml55, ml56, ml57⟩, ⟨mr0, mr2, mr7, mr16, mr17, mr18, mr20, mr22, mr24, mr25, mr26, mr27⟩⟩ := lm
  refine Ca.of (by decide) (Nat.le_of_ble_eq_true rfl) (fun hI hv hH => ?_)
  unfold nGive
  refine r_iload_n 1 dX4_give_0 rfl rfl ?_
  refine r_i2l 2 dX4_give_1 rfl ?_
  refine r_lconst 3 dX4_give_2 rfl 0 rfl (by decide) ?_
  refine r_lconst 4 dX4_give_3 rfl 1 rfl (by decide) ?_
  rotate_left -- leaf: call at pc 4
  refine r_cs3 7 dX4_give_4 rfl ks_4_49 rfl rfl (c_in x 0 1) ?_
  rintro r h' ⟨rfl, rfl⟩
  refine r_if_ne 12 10 dX4_give_7 (by decide) rfl (fun c_7 => ?_) (fun c_7 => ?_)
  refine r_bipush 14 dX4_give_12 rfl rfl (by decide) ?_
  refine r_istore_n 15 dX4_give_14 rfl rfl rfl ?_
  refine r_aload_n 16 dX4_give_15 rfl rfl ?_
  refine r_aload_n 17 dX4_give_16 rfl rfl ?_
  rotate_left -- leaf: call at pc 17
  refine r_iconst 11 dX4_give_10 rfl rfl ?_
  refine r_iret dX4_give_11 rfl ?_
  rotate_left -- leaf: return at pc 11
  · rw [if_neg (fun z => z (z01_y.mp c_7))]
    refine r_cv0 20 dX4_give_17 rfl kv_4_158 (by first | assumption | omega) (by assumption) rfl rfl (m_harm lm0 wm0.1) ?_
    rintro r h'' ⟨rfl, rfl⟩
    refine r_putI 23 dX4_give_20 rfl kf_4_189 rfl rfl (Or.inl rfl) (by first | assumption | omega) (by assumption) ?_
    refine r_iconst 24 dX4_give_23 rfl rfl ?_
    refine r_istore_n 25 dX4_give_24 rfl rfl rfl ?_
    rotate_left -- leaf: pc 25
    exact l_mgive (l := l) lm0 wm0 x (Φ := fun r h'' => r = some (vI (soB x (gwM h' 12))) ∧ scq h' h'') (fun h3 q => ⟨rfl, q⟩) 12 0 none none _ rfl (fun a b q1 q2 _ => by rw [up_n q2, setB_n q1]) up_s
  · rw [if_pos (z01_n.mp c_7)]
    exact ⟨rfl, fun _ _ _ _ _ => rfl⟩
def xcM (pg : Nat → Int) (a b : Nat) : Nat → Int := up1 (up1 pg (8 + a) (pg (8 + b))) (8 + b) (pg (8 + a))
def swM (h : zH) (a b : Nat) : Int := hmM (xcM (h 46) a b)
def sxM (h : zH) : Nat → Int × Int
  | 0 => (-4, hmM (h 46))
  | a + 1 => mrF (fun k => swM h a (a + 1 + k)) (fun k => 100 * (a : Int) + ((a + 1 + k : Nat) : Int)) (sxM h a) (11 - a)
def nSwap (x : Int) (h : zH) : Int := if ¬ (0 ≤ x ∧ x ≤ 1) then -1 else soB x (sxM h 12)
theorem l_mswapI (lm : LM G) (wm : wM h) (x : Int) {Φ : Option zV → zH → Prop} (a : Nat) (ha : a < 12)
    (hΦ : ∀ (x5 x6 : Option zV) (H : zH), eqq (fun _ => False) h H → H 45 19 = (sxM h (a + 1)).2 → Rr l G 5 mX4_swap Φ 141 [some (vR 45), some (vI x), some (vI (sxM h (a + 1)).1), some (vI a), some (vI 12), x5, x6] [] H) :
    ∀ (n k : Nat) (x5 x6 : Option zV) (H : zH), k + n = 11 - a → eqq (fun _ => False) h H → H 45 19 = (mrF (fun k => swM h a (a + 1 + k)) (fun k => 100 * (a : Int) + ((a + 1 + k : Nat) : Int)) (sxM h a) k).2 → Rr l G 5 mX4_swap Φ 36 [some (vR 45), some (vI x), some (vI (mrF (fun k => swM h a (a + 1 + k)) (fun k => 100 * (a : Int) + ((a + 1 + k : Nat) : Int)) (sxM h a) k).1), some (vI a), some (vI ((a + 1 + k : Nat) : Int)), x5, x6] [] H := by
  have lm0 := lm
  obtain ⟨hN, ⟨ms45, ms46, ms47, ms48, ms49, ms50, ms51, ms52, ms53, ms54, ms55, ms56, ms57⟩, ⟨ml46, ml47, ml48, ml49, ml50, ml51, ml52, ml53, ml54, ml55, ml56, ml57⟩, ⟨mr0, mr2, mr7, mr16, mr17, mr18, mr20, mr22, mr24, mr25, mr26, mr27⟩⟩ := lm
  have wm1 := wm.1
  have wg3 := wm.1.2.2.1
  intro n
  induction n with
  | zero =>
    intro k x5 x6 H hk he hl
    have hΦ := hΦ x5 x6 H he (by rw [hl, sxM, show 11 - a = k by omega])
    refine r_iload 38 dX4_swap_36 rfl rfl ?_
    refine r_bipush 40 dX4_swap_38 rfl rfl (by decide) ?_
    refine r_icmp_ge 141 43 dX4_swap_40 (by decide) rfl (fun c_40 => ?_) (fun c_40 => ?_)
    rotate_left -- leaf: pc 141
    rotate_left -- leaf: pc 43
    · rw [sxM, show 11 - a = k by omega] at hΦ
      rw [show ((a + 1 + k : Nat) : Int) = 12 by omega]
      exact hΦ
    · omega
  | succ n ih =>
    intro k x5 x6 H hk he hl
    obtain ⟨b, hb⟩ : ∃ b, b = a + 1 + k := ⟨_, rfl⟩
    have ih := ih (k + 1)
    rw [show a + 1 + (k + 1) = b + 1 by omega] at ih
    simp only [mrF] at ih
    rw [← hb] at ih ⊢
    have ea : H 46 (8 + a) = h 46 (8 + a) := he 46 _ (by omega) (by omega) (fun z => z.2)
    have eb : H 46 (8 + b) = h 46 (8 + b) := he 46 _ (by omega) (by omega) (fun z => z.2)
    have epg : up (up H 46 (8 + a) (h 46 (8 + b))) 46 (8 + b) (h 46 (8 + a)) 46 = xcM (h 46) a b := by
      rw [up_pg, up_pg]
      have : H 46 = h 46 := funext fun c => he 46 c (by omega) (by omega) (fun z => z.2)
      rw [this]
      rfl
    refine r_iload 38 dX4_swap_36 rfl rfl ?_
    refine r_bipush 40 dX4_swap_38 rfl rfl (by decide) ?_
    refine r_icmp_ge 141 43 dX4_swap_40 (by decide) rfl (fun c_40 => ?_) (fun c_40 => ?_)
    rotate_left -- leaf: pc 141
    refine r_aload_n 44 dX4_swap_43 rfl rfl ?_
    refine r_getR 47 dX4_swap_44 rfl kf_4_7 rfl (by first | assumption | omega) (by assumption) (by assumption) ?_
    refine r_bipush 49 dX4_swap_47 rfl rfl (by decide) ?_
    refine r_iload_n 50 dX4_swap_49 rfl rfl ?_
    refine r_iadd 51 dX4_swap_50 rfl (by first | exact w32_id (by omega) (by omega) | rfl) ?_
    refine r_iald 52 dX4_swap_51 rfl (by first | assumption | omega) (by assumption) (by first | omega | (simp only [Int.toNat_natCast]; omega)) (by first | omega | (simp only [Int.toNat_natCast]; omega)) ?_
    try simp only [Int.toNat_natCast, tq_4, tq_8, tq_22, tq_27, tq_99, tq_a, tl_0, tl_1, tl_20, tl_21, tl_22, tl_32]
    rotate_left -- leaf: pc 52
    · omega
    rw [ea]
    refine r_istore 54 dX4_swap_52 rfl rfl rfl ?_
    refine r_aload_n 55 dX4_swap_54 rfl rfl ?_
    refine r_getR 58 dX4_swap_55 rfl kf_4_7 rfl (by first | assumption | omega) (by assumption) (by assumption) ?_
    refine r_bipush 60 dX4_swap_58 rfl rfl (by decide) ?_
    refine r_iload 62 dX4_swap_60 rfl rfl ?_
    refine r_iadd 63 dX4_swap_62 rfl (by first | exact w32_id (by omega) (by omega) | rfl) ?_
    refine r_iald 64 dX4_swap_63 rfl (by first | assumption | omega) (by assumption) (by first | omega | (simp only [Int.toNat_natCast]; omega)) (by first | omega | (simp only [Int.toNat_natCast]; omega)) ?_
    try simp only [Int.toNat_natCast, tq_4, tq_8, tq_22, tq_27, tq_99, tq_a, tl_0, tl_1, tl_20, tl_21, tl_22, tl_32]
    rotate_left -- leaf: pc 64
    rw [eb]
    refine r_istore 66 dX4_swap_64 rfl rfl rfl ?_
    refine r_aload_n 67 dX4_swap_66 rfl rfl ?_
    refine r_getR 70 dX4_swap_67 rfl kf_4_7 rfl (by first | assumption | omega) (by assumption) (by assumption) ?_
    refine r_bipush 72 dX4_swap_70 rfl rfl (by decide) ?_
    refine r_iload_n 73 dX4_swap_72 rfl rfl ?_
    refine r_iadd 74 dX4_swap_73 rfl (by first | exact w32_id (by omega) (by omega) | rfl) ?_
    refine r_iload 76 dX4_swap_74 rfl rfl ?_
    refine r_iast 77 dX4_swap_76 rfl (by first | assumption | omega) (by assumption) (by first | omega | (simp only [Int.toNat_natCast]; omega)) (by first | omega | (simp only [Int.toNat_natCast]; omega)) ?_
    try simp only [Int.toNat_natCast, tq_4, tq_8, tq_22, tq_27, tq_99, tq_a, tl_0, tl_1, tl_20, tl_21, tl_22, tl_32]
    refine r_aload_n 78 dX4_swap_77 rfl rfl ?_
    refine r_getR 81 dX4_swap_78 rfl kf_4_7 rfl (by first | assumption | omega) (by assumption) (by assumption) ?_
    refine r_bipush 83 dX4_swap_81 rfl rfl (by decide) ?_
    refine r_iload 85 dX4_swap_83 rfl rfl ?_
    refine r_iadd 86 dX4_swap_85 rfl (by first | exact w32_id (by omega) (by omega) | rfl) ?_
    refine r_iload 88 dX4_swap_86 rfl rfl ?_
    refine r_iast 89 dX4_swap_88 rfl (by first | assumption | omega) (by assumption) (by first | omega | (simp only [Int.toNat_natCast]; omega)) (by first | omega | (simp only [Int.toNat_natCast]; omega)) ?_
    try simp only [Int.toNat_natCast, tq_4, tq_8, tq_22, tq_27, tq_99, tq_a, tl_0, tl_1, tl_20, tl_21, tl_22, tl_32]
    refine r_aload_n 90 dX4_swap_89 rfl rfl ?_
    refine r_aload_n 91 dX4_swap_90 rfl rfl ?_
    rotate_left -- leaf: call at pc 91
    refine r_cv0 94 dX4_swap_91 rfl kv_4_158 (by first | assumption | omega) (by assumption) rfl rfl (m_harm lm0 (by rw [epg]; exact wPg_up8 (by omega) (wPg_up8 (by omega) wm1 (wg3 b (by omega))) (wg3 a (by omega)))) ?_
    rintro r h' ⟨rfl, rfl⟩
    rw [epg]
    have ev : hmM (xcM (h 46) a b) = swM h a b := rfl
    rw [ev]
    have el : setB (up (up H 46 (8 + a) (h 46 (8 + b))) 46 (8 + b) (h 46 (8 + a))) 51 48 (rdM (xcM (h 46) a b)) 45 19 = (mrF (fun k => swM h a (a + 1 + k)) (fun k => 100 * (a : Int) + ((a + 1 + k : Nat) : Int)) (sxM h a) k).2 := by rw [setB_n (by omega), up_k (by omega), up_k (by omega)]; exact hl
    have eo : eqq (fun c => c = 8 + a ∨ c = 8 + b) h (setB (up (up H 46 (8 + a) (h 46 (8 + b))) 46 (8 + b) (h 46 (8 + a))) 51 48 (rdM (xcM (h 46) a b))) := fun c e q1 q2 q3 => by
      rw [setB_n q1, up_n (fun z => q3 ⟨z.1, Or.inr z.2⟩), up_n (fun z => q3 ⟨z.1, Or.inl z.2⟩)]; exact he c e q1 q2 (fun z => z.2)
    have back : ∀ K : zH, eqq (fun c => c = 8 + a ∨ c = 8 + b) h K → eqq (fun _ => False) h (up (up K 46 (8 + a) (h 46 (8 + a))) 46 (8 + b) (h 46 (8 + b))) := fun K hK c e q1 q2 _ => by
      by_cases z1 : c = 46 ∧ e = 8 + b
      · obtain ⟨rfl, rfl⟩ := z1; rw [up_s]
      · rw [up_n z1]
        by_cases z2 : c = 46 ∧ e = 8 + a
        · obtain ⟨rfl, rfl⟩ := z2; rw [up_s]
        · rw [up_n z2]
          exact hK c e q1 q2 (fun z => by
            rcases z.2 with w | w
            · exact z2 ⟨z.1, w⟩
            · exact z1 ⟨z.1, w⟩)
    refine r_cv1 97 dX4_swap_94 rfl kv_4_193 (by first | assumption | omega) (by assumption) rfl rfl (m_isLess lm0 (swM h a b)) ?_
    rintro r h'' (⟨q1, rfl, rfl⟩ | ⟨q1, rfl, rfl⟩)
    · rw [el] at q1
      refine r_if_eq 110 100 dX4_swap_97 (by decide) rfl (fun c_97 => ?_) (fun c_97 => ?_)
      refine r_iload_n 111 dX4_swap_110 rfl rfl ?_
      refine r_istore_n 112 dX4_swap_111 rfl rfl rfl ?_
      refine r_aload_n 113 dX4_swap_112 rfl rfl ?_
      refine r_getR 116 dX4_swap_113 rfl kf_4_7 rfl (by first | assumption | omega) (by assumption) (by assumption) ?_
      refine r_bipush 118 dX4_swap_116 rfl rfl (by decide) ?_
      refine r_iload_n 119 dX4_swap_118 rfl rfl ?_
      refine r_iadd 120 dX4_swap_119 rfl (by first | exact w32_id (by omega) (by omega) | rfl) ?_
      refine r_iload 122 dX4_swap_120 rfl rfl ?_
      refine r_iast 123 dX4_swap_122 rfl (by first | assumption | omega) (by assumption) (by first | omega | (simp only [Int.toNat_natCast]; omega)) (by first | omega | (simp only [Int.toNat_natCast]; omega)) ?_
      try simp only [Int.toNat_natCast, tq_4, tq_8, tq_22, tq_27, tq_99, tq_a, tl_0, tl_1, tl_20, tl_21, tl_22, tl_32]
      refine r_aload_n 124 dX4_swap_123 rfl rfl ?_
      refine r_getR 127 dX4_swap_124 rfl kf_4_7 rfl (by first | assumption | omega) (by assumption) (by assumption) ?_
      refine r_bipush 129 dX4_swap_127 rfl rfl (by decide) ?_
      refine r_iload 131 dX4_swap_129 rfl rfl ?_
      refine r_iadd 132 dX4_swap_131 rfl (by first | exact w32_id (by omega) (by omega) | rfl) ?_
      refine r_iload 134 dX4_swap_132 rfl rfl ?_
      refine r_iast 135 dX4_swap_134 rfl (by first | assumption | omega) (by assumption) (by first | omega | (simp only [Int.toNat_natCast]; omega)) (by first | omega | (simp only [Int.toNat_natCast]; omega)) ?_
      try simp only [Int.toNat_natCast, tq_4, tq_8, tq_22, tq_27, tq_99, tq_a, tl_0, tl_1, tl_20, tl_21, tl_22, tl_32]
      refine r_iinc 138 _ dX4_swap_135 rfl rfl rfl rfl (by first | exact w32_id (by omega) (by omega) | rfl) ?_
      refine r_goto 36 dX4_swap_138 (by decide) ?_
      rotate_left -- leaf: pc 36
      refine r_bipush 102 dX4_swap_100 rfl rfl (by decide) ?_
      refine r_iload_n 103 dX4_swap_102 rfl rfl ?_
      refine r_imul 104 dX4_swap_103 rfl (by first | exact w32_id (by omega) (by omega) | rfl) ?_
      refine r_iload 106 dX4_swap_104 rfl rfl ?_
      refine r_iadd 107 dX4_swap_106 rfl (by first | exact w32_id (by omega) (by omega) | rfl) ?_
      refine r_goto 111 dX4_swap_107 (by decide) ?_
      refine r_istore_n 112 dX4_swap_111 rfl rfl rfl ?_
      refine r_aload_n 113 dX4_swap_112 rfl rfl ?_
      refine r_getR 116 dX4_swap_113 rfl kf_4_7 rfl (by first | assumption | omega) (by assumption) (by assumption) ?_
      refine r_bipush 118 dX4_swap_116 rfl rfl (by decide) ?_
      refine r_iload_n 119 dX4_swap_118 rfl rfl ?_
      refine r_iadd 120 dX4_swap_119 rfl (by first | exact w32_id (by omega) (by omega) | rfl) ?_
      refine r_iload 122 dX4_swap_120 rfl rfl ?_
      refine r_iast 123 dX4_swap_122 rfl (by first | assumption | omega) (by assumption) (by first | omega | (simp only [Int.toNat_natCast]; omega)) (by first | omega | (simp only [Int.toNat_natCast]; omega)) ?_
      try simp only [Int.toNat_natCast, tq_4, tq_8, tq_22, tq_27, tq_99, tq_a, tl_0, tl_1, tl_20, tl_21, tl_22, tl_32]
      refine r_aload_n 124 dX4_swap_123 rfl rfl ?_
      refine r_getR 127 dX4_swap_124 rfl kf_4_7 rfl (by first | assumption | omega) (by assumption) (by assumption) ?_
      refine r_bipush 129 dX4_swap_127 rfl rfl (by decide) ?_
      refine r_iload 131 dX4_swap_129 rfl rfl ?_
      refine r_iadd 132 dX4_swap_131 rfl (by first | exact w32_id (by omega) (by omega) | rfl) ?_
      refine r_iload 134 dX4_swap_132 rfl rfl ?_
      refine r_iast 135 dX4_swap_134 rfl (by first | assumption | omega) (by assumption) (by first | omega | (simp only [Int.toNat_natCast]; omega)) (by first | omega | (simp only [Int.toNat_natCast]; omega)) ?_
      try simp only [Int.toNat_natCast, tq_4, tq_8, tq_22, tq_27, tq_99, tq_a, tl_0, tl_1, tl_20, tl_21, tl_22, tl_32]
      refine r_iinc 138 _ dX4_swap_135 rfl rfl rfl rfl (by first | exact w32_id (by omega) (by omega) | rfl) ?_
      refine r_goto 36 dX4_swap_138 (by decide) ?_
      rotate_left -- leaf: pc 36
      · omega
      · rw [if_pos q1] at ih
        exact ih _ _ _ (by omega) (back _ (fun c e z1 z2 z3 => by rw [up_n z2]; exact eo c e z1 z2 z3)) (by rw [up_k (by omega), up_k (by omega), up_s])
    · rw [el] at q1
      refine r_if_eq 110 100 dX4_swap_97 (by decide) rfl (fun c_97 => ?_) (fun c_97 => ?_)
      refine r_iload_n 111 dX4_swap_110 rfl rfl ?_
      refine r_istore_n 112 dX4_swap_111 rfl rfl rfl ?_
      refine r_aload_n 113 dX4_swap_112 rfl rfl ?_
      refine r_getR 116 dX4_swap_113 rfl kf_4_7 rfl (by first | assumption | omega) (by assumption) (by assumption) ?_
      refine r_bipush 118 dX4_swap_116 rfl rfl (by decide) ?_
      refine r_iload_n 119 dX4_swap_118 rfl rfl ?_
      refine r_iadd 120 dX4_swap_119 rfl (by first | exact w32_id (by omega) (by omega) | rfl) ?_
      refine r_iload 122 dX4_swap_120 rfl rfl ?_
      refine r_iast 123 dX4_swap_122 rfl (by first | assumption | omega) (by assumption) (by first | omega | (simp only [Int.toNat_natCast]; omega)) (by first | omega | (simp only [Int.toNat_natCast]; omega)) ?_
      try simp only [Int.toNat_natCast, tq_4, tq_8, tq_22, tq_27, tq_99, tq_a, tl_0, tl_1, tl_20, tl_21, tl_22, tl_32]
      refine r_aload_n 124 dX4_swap_123 rfl rfl ?_
      refine r_getR 127 dX4_swap_124 rfl kf_4_7 rfl (by first | assumption | omega) (by assumption) (by assumption) ?_
      refine r_bipush 129 dX4_swap_127 rfl rfl (by decide) ?_
      refine r_iload 131 dX4_swap_129 rfl rfl ?_
      refine r_iadd 132 dX4_swap_131 rfl (by first | exact w32_id (by omega) (by omega) | rfl) ?_
      refine r_iload 134 dX4_swap_132 rfl rfl ?_
      refine r_iast 135 dX4_swap_134 rfl (by first | assumption | omega) (by assumption) (by first | omega | (simp only [Int.toNat_natCast]; omega)) (by first | omega | (simp only [Int.toNat_natCast]; omega)) ?_
      try simp only [Int.toNat_natCast, tq_4, tq_8, tq_22, tq_27, tq_99, tq_a, tl_0, tl_1, tl_20, tl_21, tl_22, tl_32]
      refine r_iinc 138 _ dX4_swap_135 rfl rfl rfl rfl (by first | exact w32_id (by omega) (by omega) | rfl) ?_
      refine r_goto 36 dX4_swap_138 (by decide) ?_
      rotate_left -- leaf: pc 36
      refine r_bipush 102 dX4_swap_100 rfl rfl (by decide) ?_
      refine r_iload_n 103 dX4_swap_102 rfl rfl ?_
      refine r_imul 104 dX4_swap_103 rfl (by first | exact w32_id (by omega) (by omega) | rfl) ?_
      refine r_iload 106 dX4_swap_104 rfl rfl ?_
      refine r_iadd 107 dX4_swap_106 rfl (by first | exact w32_id (by omega) (by omega) | rfl) ?_
      refine r_goto 111 dX4_swap_107 (by decide) ?_
      refine r_istore_n 112 dX4_swap_111 rfl rfl rfl ?_
      refine r_aload_n 113 dX4_swap_112 rfl rfl ?_
      refine r_getR 116 dX4_swap_113 rfl kf_4_7 rfl (by first | assumption | omega) (by assumption) (by assumption) ?_
      refine r_bipush 118 dX4_swap_116 rfl rfl (by decide) ?_
      refine r_iload_n 119 dX4_swap_118 rfl rfl ?_
      refine r_iadd 120 dX4_swap_119 rfl (by first | exact w32_id (by omega) (by omega) | rfl) ?_
      refine r_iload 122 dX4_swap_120 rfl rfl ?_
      refine r_iast 123 dX4_swap_122 rfl (by first | assumption | omega) (by assumption) (by first | omega | (simp only [Int.toNat_natCast]; omega)) (by first | omega | (simp only [Int.toNat_natCast]; omega)) ?_
      try simp only [Int.toNat_natCast, tq_4, tq_8, tq_22, tq_27, tq_99, tq_a, tl_0, tl_1, tl_20, tl_21, tl_22, tl_32]
      refine r_aload_n 124 dX4_swap_123 rfl rfl ?_
      refine r_getR 127 dX4_swap_124 rfl kf_4_7 rfl (by first | assumption | omega) (by assumption) (by assumption) ?_
      refine r_bipush 129 dX4_swap_127 rfl rfl (by decide) ?_
      refine r_iload 131 dX4_swap_129 rfl rfl ?_
      refine r_iadd 132 dX4_swap_131 rfl (by first | exact w32_id (by omega) (by omega) | rfl) ?_
      refine r_iload 134 dX4_swap_132 rfl rfl ?_
      refine r_iast 135 dX4_swap_134 rfl (by first | assumption | omega) (by assumption) (by first | omega | (simp only [Int.toNat_natCast]; omega)) (by first | omega | (simp only [Int.toNat_natCast]; omega)) ?_
      try simp only [Int.toNat_natCast, tq_4, tq_8, tq_22, tq_27, tq_99, tq_a, tl_0, tl_1, tl_20, tl_21, tl_22, tl_32]
      refine r_iinc 138 _ dX4_swap_135 rfl rfl rfl rfl (by first | exact w32_id (by omega) (by omega) | rfl) ?_
      refine r_goto 36 dX4_swap_138 (by decide) ?_
      rotate_left -- leaf: pc 36
      · rw [if_neg (by omega)] at ih
        exact ih _ _ _ (by omega) (back _ eo) (by rw [up_k (by omega), up_k (by omega), el])
      · omega
theorem l_mswap (lm : LM G) (wm : wM h) (x : Int) {Φ : Option zV → zH → Prop} (hΦ : ∀ h', scq h h' → Φ (some (vI (soB x (sxM h 12)))) h') : ∀ (n j : Nat) (x4 x5 x6 : Option zV) (H : zH), j + n = 12 → eqq (fun _ => False) h H → H 45 19 = (sxM h j).2 → Rr l G 5 mX4_swap Φ 25 [some (vR 45), some (vI x), some (vI (sxM h j).1), some (vI j), x4, x5, x6] [] H := by
  have lm0 := lm
  have wm0 := wm
  obtain ⟨hN, ⟨ms45, ms46, ms47, ms48, ms49, ms50, ms51, ms52, ms53, ms54, ms55, ms56, ms57⟩, ⟨ml46, ml47, ml48, ml49, ml50, ml51, ml52, ml53, ml54, ml55, ml56, ml57⟩, ⟨mr0, mr2, mr7, mr16, mr17, mr18, mr20, mr22, mr24, mr25, mr26, mr27⟩⟩ := lm
  intro n
  induction n with
  | zero =>
    intro j x4 x5 x6 H hj he hl
    obtain rfl : j = 12 := by omega
    have hΦ := hΦ H (eqq_scq he)
    unfold soB at hΦ
    refine r_iload_n 26 dX4_swap_25 rfl rfl ?_
    refine r_bipush 28 dX4_swap_26 rfl rfl (by decide) ?_
    refine r_icmp_ge 147 31 dX4_swap_28 (by decide) rfl (fun c_28 => ?_) (fun c_28 => ?_)
    refine r_iload_n 148 dX4_swap_147 rfl rfl ?_
    refine r_bipush 150 dX4_swap_148 rfl rfl (by decide) ?_
    refine r_icmp_eq 157 153 dX4_swap_150 (by decide) rfl (fun c_150 => ?_) (fun c_150 => ?_)
    refine r_iload_n 158 dX4_swap_157 rfl rfl ?_
    refine r_goto 165 dX4_swap_158 (by decide) ?_
    refine r_iret dX4_swap_165 rfl ?_
    rotate_left -- leaf: return at pc 165
    refine r_iload_n 154 dX4_swap_153 rfl rfl ?_
    refine r_if_ne 161 157 dX4_swap_154 (by decide) rfl (fun c_154 => ?_) (fun c_154 => ?_)
    refine r_aload_n 162 dX4_swap_161 rfl rfl ?_
    refine r_getI 165 dX4_swap_162 rfl kf_4_189 rfl (by first | assumption | omega) (by assumption) ?_
    refine r_iret dX4_swap_165 rfl ?_
    rotate_left -- leaf: return at pc 165
    refine r_iload_n 158 dX4_swap_157 rfl rfl ?_
    refine r_goto 165 dX4_swap_158 (by decide) ?_
    refine r_iret dX4_swap_165 rfl ?_
    rotate_left -- leaf: return at pc 165
    rotate_left -- leaf: pc 31
    · rw [if_pos (Or.inl c_150)] at hΦ
      exact hΦ
    · rw [if_neg (by omega)] at hΦ
      rw [hl]
      exact hΦ
    · rw [if_pos (Or.inr c_154)] at hΦ
      exact hΦ
    · omega
  | succ n ih =>
    intro j x4 x5 x6 H hj he hl
    refine r_iload_n 26 dX4_swap_25 rfl rfl ?_
    refine r_bipush 28 dX4_swap_26 rfl rfl (by decide) ?_
    refine r_icmp_ge 147 31 dX4_swap_28 (by decide) rfl (fun c_28 => ?_) (fun c_28 => ?_)
    rotate_left -- leaf: pc 147
    refine r_iload_n 32 dX4_swap_31 rfl rfl ?_
    refine r_iconst 33 dX4_swap_32 rfl rfl ?_
    refine r_iadd 34 dX4_swap_33 rfl (by first | exact w32_id (by omega) (by omega) | rfl) ?_
    refine r_istore 36 dX4_swap_34 rfl rfl rfl ?_
    rotate_left -- leaf: pc 36
    · omega
    refine l_mswapI (l := l) lm0 wm0 x j (by omega) (fun x5 x6 H he hl => ?_) (11 - j) 0 x5 x6 H (by omega) he hl
    refine r_iinc 144 _ dX4_swap_141 rfl rfl rfl rfl (by first | exact w32_id (by omega) (by omega) | rfl) ?_
    refine r_goto 25 dX4_swap_144 (by decide) ?_
    rotate_left -- leaf: pc 25
    exact ih (j + 1) _ _ _ _ (by omega) he hl
theorem m_swap (lm : LM G) (wm : wM h) (x : Int) : Ca l G 5 mX4_swap [vR 45, vI x] h (fun r h' => r = some (vI (nSwap x h)) ∧ scq h h') := by
  have lm0 := lm
  have wm0 := wm
  obtain ⟨hN, ⟨ms45, ms46, ms47, ms48, ms49, ms50, ms51, ms52, ms53, ms54, ms55, ms56, ms57⟩, ⟨ml46, ml47, ml48, ml49, ml50, ml51, ml52, ml53, ml54, ml55, ml56, ml57⟩, ⟨mr0, mr2, mr7, mr16, mr17, mr18, mr20, mr22, mr24, mr25, mr26, mr27⟩⟩ := lm
  refine Ca.of (by decide) (Nat.le_of_ble_eq_true rfl) (fun hI hv hH => ?_)
  unfold nSwap
  refine r_iload_n 1 dX4_swap_0 rfl rfl ?_
  refine r_i2l 2 dX4_swap_1 rfl ?_
  refine r_lconst 3 dX4_swap_2 rfl 0 rfl (by decide) ?_
  refine r_lconst 4 dX4_swap_3 rfl 1 rfl (by decide) ?_
  rotate_left -- leaf: call at pc 4
  refine r_cs3 7 dX4_swap_4 rfl ks_4_49 rfl rfl (c_in x 0 1) ?_
  rintro r h' ⟨rfl, rfl⟩
  refine r_if_ne 12 10 dX4_swap_7 (by decide) rfl (fun c_7 => ?_) (fun c_7 => ?_)
  refine r_bipush 14 dX4_swap_12 rfl rfl (by decide) ?_
  refine r_istore_n 15 dX4_swap_14 rfl rfl rfl ?_
  refine r_aload_n 16 dX4_swap_15 rfl rfl ?_
  refine r_aload_n 17 dX4_swap_16 rfl rfl ?_
  rotate_left -- leaf: call at pc 17
  refine r_iconst 11 dX4_swap_10 rfl rfl ?_
  refine r_iret dX4_swap_11 rfl ?_
  rotate_left -- leaf: return at pc 11
  · rw [if_neg (fun z => z (z01_y.mp c_7))]
    refine r_cv0 20 dX4_swap_17 rfl kv_4_158 (by first | assumption | omega) (by assumption) rfl rfl (m_harm lm0 wm0.1) ?_
    rintro r h'' ⟨rfl, rfl⟩
    refine r_putI 23 dX4_swap_20 rfl kf_4_189 rfl rfl (Or.inl rfl) (by first | assumption | omega) (by assumption) ?_
    refine r_iconst 24 dX4_swap_23 rfl rfl ?_
    refine r_istore_n 25 dX4_swap_24 rfl rfl rfl ?_
    rotate_left -- leaf: pc 25
    exact l_mswap (l := l) lm0 wm0 x (Φ := fun r h'' => r = some (vI (soB x (sxM h' 12))) ∧ scq h' h'') (fun h3 q => ⟨rfl, q⟩) 12 0 none none none _ rfl (fun a b q1 q2 _ => by rw [up_n q2, setB_n q1]) up_s
  · rw [if_pos (z01_n.mp c_7)]
    exact ⟨rfl, fun _ _ _ _ _ => rfl⟩
end MO
