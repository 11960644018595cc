/-! SunPointerModel: read in general -/
def byM (la le a z : Int) : Int := if la = -4 then 1 else if ¬ la = a then 3 else if ¬ (0 ≤ z ∧ z ≤ le - 1) then 2 else 0
def bzM (h : zH) (k : Nat) (a f : Int) (i : Nat) : Int := byM (h 55 k) (h 56 k) a (f + (i : Int))
def prM (h : zH) (k : Nat) (a f : Int) (t : Nat) : Int := if ¬ bzM h k a f (2 * t) = 0 then bzM h k a f (2 * t) else bzM h k a f (2 * t + 1)
def ceM (h : zH) (k : Nat) (f : Int) (i : Nat) : Int := h 57 (40 * k + (f + (i : Int)).toNat)
def okM (h : zH) (k : Nat) (f : Int) (t : Nat) : Bool := decide ((0 ≤ ceM h k f (2 * t) ∧ ceM h k f (2 * t) < 12) ∧ (ceM h k f (2 * t + 1) = -4 ∨ (0 ≤ ceM h k f (2 * t + 1) ∧ ceM h k f (2 * t + 1) < h 45 1)))
def sgM (ce pg : Nat → Int) : Nat → Nat → Int
  | 0 => pg
  | t + 1 => up1 (sgM ce pg t) (8 + (ce (2 * t)).toNat) (if ce (2 * t + 1) = -4 then 0 else ce (2 * t + 1) + 1)
theorem byM_0 {la le a z : Int} (e : byM la le a z = 0) : ¬ la = -4 ∧ la = a ∧ 0 ≤ z ∧ z ≤ le - 1 := by
  unfold byM at e
  split at e
  · omega
  · split at e
    · omega
    · split at e <;> omega
theorem sg_in {ce pg : Nat → Int} {men : Int} (hm : men ≤ 4) (wg : wPg pg) : ∀ t : Nat, (∀ j : Nat, j < t → (0 ≤ ce (2 * j) ∧ ce (2 * j) < 12) ∧ (ce (2 * j + 1) = -4 ∨ (0 ≤ ce (2 * j + 1) ∧ ce (2 * j + 1) < men))) → wPg (sgM ce pg t) ∧ (∀ b, ¬ (8 ≤ b ∧ b < 20) → sgM ce pg t b = pg b)
  | 0, _ => ⟨wg, fun _ _ => rfl⟩
  | t + 1, hk => by
    obtain ⟨s1, s2⟩ := sg_in hm wg t (fun j hj => hk j (by omega))
    have := hk t (by omega)
    unfold sgM
    refine ⟨wPg_up8 (by omega) s1 (by split <;> omega), fun b q => ?_⟩
    rw [up1_n (by omega)]
    exact s2 b q
def tRead (k a f n : Int) (h : zH) : Int × zH := if ¬ ((0 ≤ k ∧ k ≤ 3) ∧ (0 ≤ a ∧ a ≤ 2) ∧ (0 ≤ n ∧ n ≤ 20)) then (-1, h) else if (rdR (prM h k.toNat a f) (okM h k.toNat f) n.toNat 0).1 = 1 then (-20 - ((rdR (prM h k.toNat a f) (okM h k.toNat f) n.toNat 0).2.2 : Int), h) else (((rdR (prM h k.toNat a f) (okM h k.toNat f) n.toNat 0).2.2 : Int), fun x y => if x = 46 then sgM (ceM h k.toNat f) (h 46) (rdR (prM h k.toNat a f) (okM h k.toNat f) n.toNat 0).2.2 y else if x = 45 ∧ y = 28 then (rdR (prM h k.toNat a f) (okM h k.toNat f) n.toNat 0).2.1 else h x y)
section MO
variable {l : Launch} {G : zG} {h : zH}
theorem l_rdBy (lm : LM G) (k : Nat) (hk : k ≤ 3) (wl : wL h) (a f n came : Int) (hf : in32 f) (i : Nat) (hi : i ≤ 40) {x8 : Option zV} {H : zH} (he : ∀ a b, a ≠ 46 → H a b = h a b) {Φ : Option zV → zH → Prop} (hΦ : Rr l G 3 mX4_read Φ 127 [some (vR 45), some (vI k), some (vI a), some (vI f), some (vI n), some (vI (bzM h k a f i)), some (vI came), some (vI i), x8] [] H) : Rr l G 3 mX4_read Φ 69 [some (vR 45), some (vI k), some (vI a), some (vI f), some (vI n), some (vI 0), some (vI came), some (vI i), x8] [] H := by
  obtain ⟨hN, ⟨ms45, ms46, ms47, ms48, ms49, ms50, ms51, ms52, ms53, ms54, ms55, ms56, ms57⟩, ⟨ml46, ml47, ml48, ml49, ml50, ml51, ml52, ml53, ml54, ml55, ml56, ml57⟩, ⟨mr0, mr2, mr7, mr16, mr17, mr18, mr20, mr22, mr24, mr25, mr26, mr27⟩⟩ := lm
  have wl := wl k (by omega)
  have e55 := he 55 k (by omega)
  have e56 := he 56 k (by omega)
  obtain ⟨hf1, hf2⟩ := hf
  unfold bzM byM at hΦ
  refine r_aload_n 70 dX4_read_69 rfl rfl ?_
  refine r_getR 73 dX4_read_70 rfl kf_4_38 rfl (by first | assumption | omega) (by assumption) (by assumption) ?_
  refine r_iload_n 74 dX4_read_73 rfl rfl ?_
  refine r_iald 75 dX4_read_74 rfl (by first | assumption | omega) (by assumption) (by first | omega | (simp only [Int.toNat_natCast]; omega)) (by first | omega | (simp only [Int.toNat_natCast]; omega)) ?_
  try simp only [Int.toNat_natCast, tq_4, tq_8, tq_22, tq_27, tq_99, tq_a, tl_0, tl_1, tl_20, tl_21, tl_22, tl_32]
  rotate_left -- leaf: pc 75
  rw [e55]
  refine r_bipush 77 dX4_read_75 rfl rfl (by decide) ?_
  refine r_icmp_ne 84 80 dX4_read_77 (by decide) rfl (fun c_77 => ?_) (fun c_77 => ?_)
  refine r_aload_n 85 dX4_read_84 rfl rfl ?_
  refine r_getR 88 dX4_read_85 rfl kf_4_38 rfl (by first | assumption | omega) (by assumption) (by assumption) ?_
  refine r_iload_n 89 dX4_read_88 rfl rfl ?_
  refine r_iald 90 dX4_read_89 rfl (by first | assumption | omega) (by assumption) (by first | omega | (simp only [Int.toNat_natCast]; omega)) (by first | omega | (simp only [Int.toNat_natCast]; omega)) ?_
  try simp only [Int.toNat_natCast, tq_4, tq_8, tq_22, tq_27, tq_99, tq_a, tl_0, tl_1, tl_20, tl_21, tl_22, tl_32]
  rotate_left -- leaf: pc 90
  refine r_iconst 81 dX4_read_80 rfl rfl ?_
  refine r_goto 125 dX4_read_81 (by decide) ?_
  rotate_left -- leaf: pc 125
  · rw [e55]
    refine r_iload_n 91 dX4_read_90 rfl rfl ?_
    refine r_icmp_eq 98 94 dX4_read_91 (by decide) rfl (fun c_91 => ?_) (fun c_91 => ?_)
    refine r_iload_n 99 dX4_read_98 rfl rfl ?_
    refine r_i2l 100 dX4_read_99 rfl ?_
    refine r_iload 102 dX4_read_100 rfl rfl ?_
    refine r_i2l 103 dX4_read_102 rfl ?_
    refine r_ladd 104 dX4_read_103 rfl (by first | exact w64_id (by omega) (by omega) | rfl) ?_
    refine r_lconst 105 dX4_read_104 rfl 0 rfl (by decide) ?_
    refine r_aload_n 106 dX4_read_105 rfl rfl ?_
    refine r_getR 109 dX4_read_106 rfl kf_4_41 rfl (by first | assumption | omega) (by assumption) (by assumption) ?_
    refine r_iload_n 110 dX4_read_109 rfl rfl ?_
    refine r_iald 111 dX4_read_110 rfl (by first | assumption | omega) (by assumption) (by first | omega | (simp only [Int.toNat_natCast]; omega)) (by first | omega | (simp only [Int.toNat_natCast]; omega)) ?_
    try simp only [Int.toNat_natCast, tq_4, tq_8, tq_22, tq_27, tq_99, tq_a, tl_0, tl_1, tl_20, tl_21, tl_22, tl_32]
    rotate_left -- leaf: pc 111
    refine r_iconst 95 dX4_read_94 rfl rfl ?_
    refine r_goto 125 dX4_read_95 (by decide) ?_
    rotate_left -- leaf: pc 125
    · rw [e56]
      rw [if_neg c_77, if_neg (fun z => z c_91)] at hΦ
      refine r_iconst 112 dX4_read_111 rfl rfl ?_
      refine r_isub 113 dX4_read_112 rfl (by first | exact w32_id (by omega) (by omega) | rfl) ?_
      refine r_i2l 114 dX4_read_113 rfl ?_
      rotate_left -- leaf: call at pc 114
      refine r_cs3 117 dX4_read_114 rfl ks_4_49 rfl rfl (c_in (f + (i : Int)) 0 (h 56 k - 1)) ?_
      rintro r h' ⟨rfl, rfl⟩
      refine r_if_ne 124 120 dX4_read_117 (by decide) rfl (fun c_117 => ?_) (fun c_117 => ?_)
      refine r_iconst 125 dX4_read_124 rfl rfl ?_
      refine r_istore 127 dX4_read_125 rfl rfl rfl ?_
      rotate_left -- leaf: pc 127
      refine r_iconst 121 dX4_read_120 rfl rfl ?_
      refine r_goto 125 dX4_read_121 (by decide) ?_
      refine r_istore 127 dX4_read_125 rfl rfl rfl ?_
      rotate_left -- leaf: pc 127
      · rw [if_neg (fun z => z (z01_y.mp c_117))] at hΦ
        exact hΦ
      · rw [if_pos (z01_n.mp c_117)] at hΦ
        exact hΦ
    · rw [if_neg c_77, if_pos c_91] at hΦ
      refine r_istore 127 dX4_read_125 rfl rfl rfl ?_
      rotate_left -- leaf: pc 127
      exact hΦ
  · rw [if_pos c_77] at hΦ
    refine r_istore 127 dX4_read_125 rfl rfl rfl ?_
    rotate_left -- leaf: pc 127
    exact hΦ
theorem l_mread (lm : LM G) (wm : wM h) (wl : wL h) (k : Nat) (hk : k ≤ 3) (a f : Int) (hf : in32 f) (N : Nat) (hN : N ≤ 20) (R : Int × Int × Nat) {Φ : Option zV → zH → Prop}
    (h1 : R.1 = 1 → ∀ h', sc5 h h' → Φ (some (vI (-20 - (R.2.2 : Int)))) h')
    (h0 : ¬ R.1 = 1 → ∀ h' : zH, (∀ a b, a ≠ 46 → ¬ (a = 45 ∧ b = 28) → h' a b = h a b) → h' 45 28 = R.2.1 → h' 46 = sgM (ceM h k f) (cpP h 0 99 33 46) R.2.2 → Φ (some (vI (R.2.2 : Int))) h') :
    ∀ (m t : Nat) (x8 : Option zV) (H : zH), t + m = N → (∀ a b, a ≠ 46 → H a b = h a b) → H 46 = sgM (ceM h k f) (cpP h 0 99 33 46) t → (∀ j, j < t → okM h k f j = true) → rdR (prM h k a f) (okM h k f) m t = R → Rr l G 3 mX4_read Φ 55 [some (vR 45), some (vI k), some (vI a), some (vI f), some (vI N), some (vI 0), some (vI t), some (vI (2 * (t : Int))), x8] [] H := by
  have lm0 := lm
  have wm0 := wm
  have wl0 := wl
  obtain ⟨hN, ⟨ms45, ms46, ms47, ms48, ms49, ms50, ms51, ms52, ms53, ms54, ms55, ms56, ms57⟩, ⟨ml46, ml47, ml48, ml49, ml50, ml51, ml52, ml53, ml54, ml55, ml56, ml57⟩, ⟨mr0, mr2, mr7, mr16, mr17, mr18, mr20, mr22, mr24, mr25, mr26, mr27⟩⟩ := lm
  obtain ⟨⟨wg1, wg2, wg3, wg4, wg5, wg6, wg7, wg8⟩, wmen, wtp, wsm⟩ := wm
  have wlk := wl k (by omega)
  have wC : wPg (cpP h 0 99 33 46) := wPg_cong (fun j hj => cpP_x 33 j (by omega)) wm0.1
  have J197 : ∀ (by_ : Int) (t : Nat) (i : Int) (x8 : Option zV) (H : zH), (∀ a b, a ≠ 46 → H a b = h a b) → H 46 = sgM (ceM h k f) (cpP h 0 99 33 46) t → ¬ R.1 = 1 → R.2.1 = by_ → R.2.2 = t → Rr l G 3 mX4_read Φ 197 [some (vR 45), some (vI k), some (vI a), some (vI f), some (vI N), some (vI by_), some (vI t), some (vI i), x8] [] H := by
    intro by_ t i x8 H he e46 q1 q2 q3
    have := h0 q1 (up H 45 28 by_) (fun a b z1 z2 => by rw [up_n z2]; exact he a b z1) (by rw [up_s]; exact q2.symm) (funext fun b => by rw [up_k (by omega), e46, q3])
    rw [q3] at this
    refine r_aload_n 198 dX4_read_197 rfl rfl ?_
    refine r_iload 200 dX4_read_198 rfl rfl ?_
    refine r_putI 203 dX4_read_200 rfl kf_4_235 rfl rfl (Or.inl rfl) (by first | assumption | omega) (by assumption) ?_
    refine r_iload 205 dX4_read_203 rfl rfl ?_
    refine r_iret dX4_read_205 rfl ?_
    rotate_left -- leaf: return at pc 205
    exact this
  have J191 : ∀ (by_ : Int) (t : Nat) (i : Nat) (x8 : Option zV) (H : zH), i < 40 → ¬ by_ = 0 → (∀ a b, a ≠ 46 → H a b = h a b) → H 46 = sgM (ceM h k f) (cpP h 0 99 33 46) t → ¬ R.1 = 1 → R.2.1 = by_ → R.2.2 = t → Rr l G 3 mX4_read Φ 191 [some (vR 45), some (vI k), some (vI a), some (vI f), some (vI N), some (vI by_), some (vI t), some (vI i), x8] [] H := by
    intro by_ t i x8 H hi hb he e46 q1 q2 q3
    refine r_iinc 194 _ dX4_read_191 rfl rfl rfl rfl (by first | exact w32_id (by omega) (by omega) | rfl) ?_
    refine r_goto 55 dX4_read_194 (by decide) ?_
    refine r_iload 57 dX4_read_55 rfl rfl ?_
    refine r_iconst 58 dX4_read_57 rfl rfl ?_
    refine r_iload 60 dX4_read_58 rfl rfl ?_
    refine r_imul 61 dX4_read_60 rfl (by first | exact w32_id (by omega) (by omega) | rfl) ?_
    refine r_icmp_ge 197 64 dX4_read_61 (by decide) rfl (fun c_61 => ?_) (fun c_61 => ?_)
    rotate_left -- leaf: pc 197
    refine r_iload 66 dX4_read_64 rfl rfl ?_
    refine r_if_ne 197 69 dX4_read_66 (by decide) rfl (fun c_66 => ?_) (fun c_66 => ?_)
    rotate_left -- leaf: pc 197
    rotate_left -- leaf: pc 69
    · exact J197 by_ t _ x8 H he e46 q1 q2 q3
    · exact J197 by_ t _ x8 H he e46 q1 q2 q3
    · omega
  intro m
  induction m with
  | zero =>
    intro t x8 H ht he e46 hok hR
    obtain rfl : t = N := by omega
    refine r_iload 57 dX4_read_55 rfl rfl ?_
    refine r_iconst 58 dX4_read_57 rfl rfl ?_
    refine r_iload 60 dX4_read_58 rfl rfl ?_
    refine r_imul 61 dX4_read_60 rfl (by first | exact w32_id (by omega) (by omega) | rfl) ?_
    refine r_icmp_ge 197 64 dX4_read_61 (by decide) rfl (fun c_61 => ?_) (fun c_61 => ?_)
    rotate_left -- leaf: pc 197
    rotate_left -- leaf: pc 64
    · exact J197 0 t _ x8 H he e46 (by rw [← hR]; simp [rdR]) (by rw [← hR]; rfl) (by rw [← hR]; rfl)
    · omega
  | succ m ih =>
    intro t x8 H ht he e46 hok hR
    rw [rdR] at hR
    have hpr : prM h k a f t = (if ¬ bzM h k a f (2 * t) = 0 then bzM h k a f (2 * t) else bzM h k a f (2 * t + 1)) := rfl
    have hok' : ∀ j : Nat, j < t → (0 ≤ ceM h k f (2 * j) ∧ ceM h k f (2 * j) < 12) ∧ (ceM h k f (2 * j + 1) = -4 ∨ (0 ≤ ceM h k f (2 * j + 1) ∧ ceM h k f (2 * j + 1) < h 45 1)) := fun j hj => of_decide_eq_true (hok j hj)
    obtain ⟨s1, s2⟩ := sg_in wmen.2 wC t hok'
    have e2t : (2 * (t : Int)) = ((2 * t : Nat) : Int) := by omega
    refine r_iload 57 dX4_read_55 rfl rfl ?_
    refine r_iconst 58 dX4_read_57 rfl rfl ?_
    refine r_iload 60 dX4_read_58 rfl rfl ?_
    refine r_imul 61 dX4_read_60 rfl (by first | exact w32_id (by omega) (by omega) | rfl) ?_
    refine r_icmp_ge 197 64 dX4_read_61 (by decide) rfl (fun c_61 => ?_) (fun c_61 => ?_)
    rotate_left -- leaf: pc 197
    refine r_iload 66 dX4_read_64 rfl rfl ?_
    refine r_if_ne 197 69 dX4_read_66 (by decide) rfl (fun c_66 => ?_) (fun c_66 => ?_)
    rotate_left -- leaf: pc 197
    rotate_left -- leaf: pc 69
    · omega
    · omega
    · rw [e2t]
      refine l_rdBy (l := l) lm0 k hk wl0 a f N t hf (2 * t) (by omega) he ?_
      by_cases c0 : bzM h k a f (2 * t) = 0
      · rw [if_neg (fun z => z c0)] at hpr
        rw [c0]
        refine r_iload 129 dX4_read_127 rfl rfl ?_
        refine r_if_ne 191 132 dX4_read_129 (by decide) rfl (fun c_129 => ?_) (fun c_129 => ?_)
        rotate_left -- leaf: pc 191
        refine r_iload 134 dX4_read_132 rfl rfl ?_
        refine r_iconst 135 dX4_read_134 rfl rfl ?_
        refine r_irem 136 dX4_read_135 rfl (by first | omega | (simp only [Int.toNat_natCast]; omega)) (by first | omega | (simp only [Int.toNat_natCast]; omega)) ?_
        refine r_iconst 137 dX4_read_136 rfl rfl ?_
        refine r_icmp_ne 191 140 dX4_read_137 (by decide) rfl (fun c_137 => ?_) (fun c_137 => ?_)
        rotate_left -- leaf: pc 191
        rotate_left -- leaf: pc 140
        · omega
        · refine r_iinc 194 _ dX4_read_191 rfl rfl rfl rfl (by first | exact w32_id (by omega) (by omega) | rfl) ?_
          refine r_goto 55 dX4_read_194 (by decide) ?_
          refine r_iload 57 dX4_read_55 rfl rfl ?_
          refine r_iconst 58 dX4_read_57 rfl rfl ?_
          refine r_iload 60 dX4_read_58 rfl rfl ?_
          refine r_imul 61 dX4_read_60 rfl (by first | exact w32_id (by omega) (by omega) | rfl) ?_
          refine r_icmp_ge 197 64 dX4_read_61 (by decide) rfl (fun c_61 => ?_) (fun c_61 => ?_)
          rotate_left -- leaf: pc 197
          refine r_iload 66 dX4_read_64 rfl rfl ?_
          refine r_if_ne 197 69 dX4_read_66 (by decide) rfl (fun c_66 => ?_) (fun c_66 => ?_)
          rotate_left -- leaf: pc 197
          rotate_left -- leaf: pc 69
          · omega
          · omega
          · rw [show (((2 * t : Nat) : Int) + 1) = ((2 * t + 1 : Nat) : Int) by omega]
            refine l_rdBy (l := l) lm0 k hk wl0 a f N t hf (2 * t + 1) (by omega) he ?_
            by_cases c1 : bzM h k a f (2 * t + 1) = 0
            · rw [c1] at hpr ⊢
              rw [if_neg (fun z => z hpr)] at hR
              have b0 := byM_0 c0
              have b1 := byM_0 c1
              have i1 : ((40 * (k : Int) + f + ((2 * t + 1 : Nat) : Int)) - 1).toNat = 40 * k + (f + ((2 * t : Nat) : Int)).toNat := by omega
              have i2 : (40 * (k : Int) + f + ((2 * t + 1 : Nat) : Int)).toNat = 40 * k + (f + ((2 * t + 1 : Nat) : Int)).toNat := by omega
              have e1 : H 57 (40 * k + (f + ((2 * t : Nat) : Int)).toNat) = ceM h k f (2 * t) := he 57 _ (by omega)
              have e2 : H 57 (40 * k + (f + ((2 * t + 1 : Nat) : Int)).toNat) = ceM h k f (2 * t + 1) := he 57 _ (by omega)
              have wmH : wM H := ⟨by rw [e46]; exact s1, by rw [he _ _ (by omega)]; exact wmen, by rw [he _ _ (by omega)]; exact wtp, by rw [he _ _ (by omega)]; exact wsm⟩
              refine r_iload 129 dX4_read_127 rfl rfl ?_
              refine r_if_ne 191 132 dX4_read_129 (by decide) rfl (fun c_129 => ?_) (fun c_129 => ?_)
              rotate_left -- leaf: pc 191
              refine r_iload 134 dX4_read_132 rfl rfl ?_
              refine r_iconst 135 dX4_read_134 rfl rfl ?_
              refine r_irem 136 dX4_read_135 rfl (by first | omega | (simp only [Int.toNat_natCast]; omega)) (by first | omega | (simp only [Int.toNat_natCast]; omega)) ?_
              refine r_iconst 137 dX4_read_136 rfl rfl ?_
              refine r_icmp_ne 191 140 dX4_read_137 (by decide) rfl (fun c_137 => ?_) (fun c_137 => ?_)
              rotate_left -- leaf: pc 191
              rotate_left -- leaf: pc 140
              · omega
              · omega
              · refine r_bipush 142 dX4_read_140 rfl rfl (by decide) ?_
                refine r_iload_n 143 dX4_read_142 rfl rfl ?_
                refine r_imul 144 dX4_read_143 rfl (by first | exact w32_id (by omega) (by omega) | rfl) ?_
                refine r_iload_n 145 dX4_read_144 rfl rfl ?_
                refine r_iadd 146 dX4_read_145 rfl (by first | exact w32_id (by omega) (by omega) | rfl) ?_
                refine r_iload 148 dX4_read_146 rfl rfl ?_
                refine r_iadd 149 dX4_read_148 rfl (by first | exact w32_id (by omega) (by omega) | rfl) ?_
                refine r_istore 151 dX4_read_149 rfl rfl rfl ?_
                refine r_aload_n 152 dX4_read_151 rfl rfl ?_
                refine r_aload_n 153 dX4_read_152 rfl rfl ?_
                refine r_getR 156 dX4_read_153 rfl kf_4_44 rfl (by first | assumption | omega) (by assumption) (by assumption) ?_
                refine r_iload 158 dX4_read_156 rfl rfl ?_
                refine r_iconst 159 dX4_read_158 rfl rfl ?_
                refine r_isub 160 dX4_read_159 rfl (by first | exact w32_id (by omega) (by omega) | rfl) ?_
                refine r_iald 161 dX4_read_160 rfl (by first | assumption | omega) (by assumption) (by first | omega | (simp only [Int.toNat_natCast]; omega)) (by first | omega | (simp only [Int.toNat_natCast]; omega)) ?_
                try simp only [Int.toNat_natCast, tq_4, tq_8, tq_22, tq_27, tq_99, tq_a, tl_0, tl_1, tl_20, tl_21, tl_22, tl_32]
                rotate_left -- leaf: pc 161
                rw [i1, e1]
                refine r_aload_n 162 dX4_read_161 rfl rfl ?_
                refine r_getR 165 dX4_read_162 rfl kf_4_44 rfl (by first | assumption | omega) (by assumption) (by assumption) ?_
                refine r_iload 167 dX4_read_165 rfl rfl ?_
                refine r_iald 168 dX4_read_167 rfl (by first | assumption | omega) (by assumption) (by first | omega | (simp only [Int.toNat_natCast]; omega)) (by first | omega | (simp only [Int.toNat_natCast]; omega)) ?_
                try simp only [Int.toNat_natCast, tq_4, tq_8, tq_22, tq_27, tq_99, tq_a, tl_0, tl_1, tl_20, tl_21, tl_22, tl_32]
                rotate_left -- leaf: pc 168
                rw [i2, e2]
                refine r_cv2 171 dX4_read_168 rfl kv_4_186 (by first | assumption | omega) (by assumption) rfl rfl (m_shifts lm0 wmH (ceM h k f (2 * t)) (ceM h k f (2 * t + 1))) ?_
                rintro r h' ⟨rfl, rfl⟩
                unfold tShift
                rw [he 45 1 (by omega)]
                by_cases hb : okM h k f t = true
                · rw [if_pos hb] at hR
                  have hb' : (0 ≤ ceM h k f (2 * t) ∧ ceM h k f (2 * t) < 12) ∧ (ceM h k f (2 * t + 1) = -4 ∨ (0 ≤ ceM h k f (2 * t + 1) ∧ ceM h k f (2 * t + 1) < h 45 1)) := of_decide_eq_true hb
                  rw [if_pos hb']
                  dsimp only
                  have hno : ¬ noF (stM (H 46) (ceM h k f (2 * t)).toNat) = -1 := by
                    unfold noF
                    split <;> omega
                  refine r_iconst 172 dX4_read_171 rfl rfl ?_
                  refine r_icmp_ne 188 175 dX4_read_172 (by decide) rfl (fun c_172 => ?_) (fun c_172 => ?_)
                  rotate_left -- leaf: pc 188
                  rotate_left -- leaf: pc 175
                  · refine r_iinc 191 _ dX4_read_188 rfl rfl rfl rfl (by first | exact w32_id (by omega) (by omega) | rfl) ?_
                    refine r_iinc 194 _ dX4_read_191 rfl rfl rfl rfl (by first | exact w32_id (by omega) (by omega) | rfl) ?_
                    refine r_goto 55 dX4_read_194 (by decide) ?_
                    rotate_left -- leaf: pc 55
                    have := ih (t + 1) (some (vI (40 * (k : Int) + f + ((2 * t + 1 : Nat) : Int)))) (up H 46 (8 + (ceM h k f (2 * t)).toNat) (if ceM h k f (2 * t + 1) = -4 then 0 else ceM h k f (2 * t + 1) + 1)) (by omega) (fun a b z => by rw [up_k z]; exact he a b z) (by rw [up_pg, e46]; rfl) (fun j hj => by
                      by_cases e : j = t
                      · subst e; exact hb
                      · exact hok j (by omega)) hR
                    rw [show ((t + 1 : Nat) : Int) = (t : Int) + 1 by omega, show 2 * ((t : Int) + 1) = ((2 * t + 1 : Nat) : Int) + 1 by omega] at this
                    exact this
                  · exact absurd c_172 hno
                · rw [if_neg hb] at hR
                  rw [if_neg (fun z => hb (decide_eq_true z))]
                  dsimp only
                  refine r_iconst 172 dX4_read_171 rfl rfl ?_
                  refine r_icmp_ne 188 175 dX4_read_172 (by decide) rfl (fun c_172 => ?_) (fun c_172 => ?_)
                  rotate_left -- leaf: pc 188
                  rotate_left -- leaf: pc 175
                  · exact absurd rfl c_172
                  · refine r_aload_n 176 dX4_read_175 rfl rfl ?_
                    refine r_bipush 178 dX4_read_176 rfl rfl (by decide) ?_
                    refine r_iconst 179 dX4_read_178 rfl rfl ?_
                    rotate_left -- leaf: call at pc 179
                    refine r_cv2 182 dX4_read_179 rfl kv_4_196 (by first | assumption | omega) (by assumption) rfl rfl (m_copies lm0 99 0 (by omega) (by omega)) ?_
                    rintro r h'' ⟨rfl, rfl⟩
                    have hs : sc5 h (cpP H 99 0 33) := fun a b q1 q2 q3 q4 => by
                      by_cases ea : a = 46
                      · subst ea
                        by_cases eb : b < 33
                        · have := cpP_i (h := H) (a := 99) (b := 0) (by omega) 33 b (by omega) eb
                          rw [Nat.zero_add] at this
                          rw [this, e46, s2 (99 + b) (by omega)]
                          have h2 := cpP_i (h := h) (a := 0) (b := 99) (by omega) 33 b (by omega) eb
                          rw [Nat.zero_add] at h2
                          exact h2
                        · rw [cpP_x 33 b (by omega), e46, s2 b (by omega), cpP_x 33 b (by omega)]
                      · rw [cpP_o ea 33, he a b ea]
                    have := h1 (by rw [← hR]) _ hs
                    rw [← hR] at this
                    refine r_bipush 184 dX4_read_182 rfl rfl (by decide) ?_
                    refine r_iload 186 dX4_read_184 rfl rfl ?_
                    refine r_isub 187 dX4_read_186 rfl (by first | exact w32_id (by omega) (by omega) | rfl) ?_
                    refine r_iret dX4_read_187 rfl ?_
                    rotate_left -- leaf: return at pc 187
                    exact this
            · rw [if_pos (by rw [hpr]; exact c1)] at hR
              refine r_iload 129 dX4_read_127 rfl rfl ?_
              refine r_if_ne 191 132 dX4_read_129 (by decide) rfl (fun c_129 => ?_) (fun c_129 => ?_)
              rotate_left -- leaf: pc 191
              rotate_left -- leaf: pc 132
              · exact J191 _ t (2 * t + 1) x8 H (by omega) c1 he e46 (by rw [← hR]; simp) (by rw [← hR, hpr]) (by rw [← hR])
              · exact absurd c_129 c1
        · omega
      · rw [if_pos c0] at hpr
        rw [if_pos (by rw [hpr]; exact c0)] at hR
        refine r_iload 129 dX4_read_127 rfl rfl ?_
        refine r_if_ne 191 132 dX4_read_129 (by decide) rfl (fun c_129 => ?_) (fun c_129 => ?_)
        rotate_left -- leaf: pc 191
        rotate_left -- leaf: pc 132
        · exact J191 _ t (2 * t) x8 H (by omega) c0 he e46 (by rw [← hR]; simp) (by rw [← hR, hpr]) (by rw [← hR])
        · exact absurd c_129 c0
theorem m_read (lm : LM G) (wm : wM h) (wl : wL h) (k a f n : Int) : Ca l G 3 mX4_read [vR 45, vI k, vI a, vI f, vI n] h (fun r h' => r = some (vI (tRead k a f n h).1) ∧ sc5 (tRead k a f n h).2 h') := by
  have lm0 := lm
  have wm0 := wm
  obtain ⟨hN, ⟨ms45, ms46, ms47, ms48, ms49, ms50, ms51, ms52, ms53, ms54, ms55, ms56, ms57⟩, ⟨ml46, ml47, ml48, ml49, ml50, ml51, ml52, ml53, ml54, ml55, ml56, ml57⟩, ⟨mr0, mr2, mr7, mr16, mr17, mr18, mr20, mr22, mr24, mr25, mr26, mr27⟩⟩ := lm
  obtain ⟨⟨wg1, wg2, wg3, wg4, wg5, wg6, wg7, wg8⟩, wmen, wtp, wsm⟩ := wm
  refine Ca.of (by decide) (Nat.le_of_ble_eq_true rfl) (fun hI hv hH => ?_)
  have hf : in32 f := hv (vI f) (by simp)
  unfold tRead
  refine r_iload_n 1 dX4_read_0 rfl rfl ?_
  refine r_i2l 2 dX4_read_1 rfl ?_
  refine r_lconst 3 dX4_read_2 rfl 0 rfl (by decide) ?_
  refine r_ldc2 6 (3) dX4_read_3 rfl kq_4_165 rfl ?_
  rotate_left -- leaf: call at pc 6
  refine r_cs3 9 dX4_read_6 rfl ks_4_49 rfl rfl (c_in k 0 3) ?_
  rintro r h' ⟨rfl, rfl⟩
  refine r_if_eq 37 12 dX4_read_9 (by decide) rfl (fun c_9 => ?_) (fun c_9 => ?_)
  refine r_iconst 38 dX4_read_37 rfl rfl ?_
  refine r_iret dX4_read_38 rfl ?_
  rotate_left -- leaf: return at pc 38
  refine r_iload_n 13 dX4_read_12 rfl rfl ?_
  refine r_i2l 14 dX4_read_13 rfl ?_
  refine r_lconst 15 dX4_read_14 rfl 0 rfl (by decide) ?_
  refine r_ldc2 18 (2) dX4_read_15 rfl kq_4_231 rfl ?_
  rotate_left -- leaf: call at pc 18
  · rw [if_pos (fun z => z01_n.mp c_9 z.1)]
    exact ⟨rfl, fun _ _ _ _ _ _ => rfl⟩
  · have b1 := z01_y.mp c_9
    refine r_cs3 21 dX4_read_18 rfl ks_4_49 rfl rfl (c_in a 0 2) ?_
    rintro r h'' ⟨rfl, rfl⟩
    refine r_if_eq 37 24 dX4_read_21 (by decide) rfl (fun c_21 => ?_) (fun c_21 => ?_)
    refine r_iconst 38 dX4_read_37 rfl rfl ?_
    refine r_iret dX4_read_38 rfl ?_
    rotate_left -- leaf: return at pc 38
    refine r_iload 26 dX4_read_24 rfl rfl ?_
    refine r_i2l 27 dX4_read_26 rfl ?_
    refine r_lconst 28 dX4_read_27 rfl 0 rfl (by decide) ?_
    refine r_ldc2 31 (20) dX4_read_28 rfl kq_4_233 rfl ?_
    rotate_left -- leaf: call at pc 31
    · rw [if_pos (fun z => z01_n.mp c_21 z.2.1)]
      exact ⟨rfl, fun _ _ _ _ _ _ => rfl⟩
    · have b2 := z01_y.mp c_21
      refine r_cs3 34 dX4_read_31 rfl ks_4_49 rfl rfl (c_in n 0 20) ?_
      rintro r h3 ⟨rfl, rfl⟩
      refine r_if_ne 39 37 dX4_read_34 (by decide) rfl (fun c_34 => ?_) (fun c_34 => ?_)
      refine r_aload_n 40 dX4_read_39 rfl rfl ?_
      refine r_iconst 41 dX4_read_40 rfl rfl ?_
      refine r_bipush 43 dX4_read_41 rfl rfl (by decide) ?_
      rotate_left -- leaf: call at pc 43
      refine r_iconst 38 dX4_read_37 rfl rfl ?_
      refine r_iret dX4_read_38 rfl ?_
      rotate_left -- leaf: return at pc 38
      · have b3 := z01_y.mp c_34
        rw [if_neg (fun z => z ⟨b1, b2, b3⟩)]
        obtain ⟨k, rfl⟩ := Int.eq_ofNat_of_zero_le b1.1
        obtain ⟨N, rfl⟩ := Int.eq_ofNat_of_zero_le b3.1
        rw [Int.toNat_natCast, Int.toNat_natCast]
        refine r_cv2 46 dX4_read_43 rfl kv_4_196 (by first | assumption | omega) (by assumption) rfl rfl (m_copies lm0 0 99 (by omega) (by omega)) ?_
        rintro r h4 ⟨rfl, rfl⟩
        refine r_iconst 47 dX4_read_46 rfl rfl ?_
        refine r_istore 49 dX4_read_47 rfl rfl rfl ?_
        refine r_iconst 50 dX4_read_49 rfl rfl ?_
        refine r_istore 52 dX4_read_50 rfl rfl rfl ?_
        refine r_iconst 53 dX4_read_52 rfl rfl ?_
        refine r_istore 55 dX4_read_53 rfl rfl rfl ?_
        rotate_left -- leaf: pc 55
        refine l_mread (l := l) lm0 wm0 wl k (by omega) a f hf N (by omega) (rdR (prM h3 k a f) (okM h3 k f) N 0) (fun q h5 z => ?_) (fun q h5 z1 z2 z3 => ?_) N 0 none (cpP h3 0 99 33) (by omega) (fun a b z => cpP_o z 33) rfl (fun j hj => by omega) rfl
        · rw [if_pos q]
          exact ⟨rfl, z⟩
        · rw [if_neg q]
          refine ⟨rfl, fun a b q1 q2 q3 q4 => ?_⟩
          dsimp only
          by_cases e : a = 46
          · subst e
            rw [if_pos rfl, z3]
            have hb : ¬ (99 ≤ b ∧ b < 132) := by omega
            have key : ∀ t : Nat, sgM (ceM h3 k f) (cpP h3 0 99 33 46) t b = sgM (ceM h3 k f) (h3 46) t b := by
              intro t
              induction t with
              | zero => exact cpP_x 33 b (by omega)
              | succ t ih =>
                unfold sgM up1
                split
                · rfl
                · exact ih
            exact key _
          · rw [if_neg e]
            by_cases e2 : a = 45 ∧ b = 28
            · rw [if_pos e2]
              obtain ⟨rfl, rfl⟩ := e2
              exact z2
            · rw [if_neg e2]
              exact z1 a b e e2
      · rw [if_pos (fun z => z01_n.mp c_34 z.2.2)]
        exact ⟨rfl, fun _ _ _ _ _ _ => rfl⟩
end MO
