/-! SunPointerModel: leansOf, leans, kinds, ask, drift in general -/
theorem dsM_cong {f g : Nat → Int} {d : Int} (e : ∀ q, q < 48 → f q = g q) : ∀ n q : Nat, q + n ≤ 48 → dsM f d n q = dsM g d n q
  | 0, _, _ => rfl
  | n + 1, q, hq => by
    unfold dsM
    rw [e q (by omega), dsM_cong e n (q + 1) (by omega)]
theorem asM_cong {h H : zH} {pg : Nat → Int} (e1 : ∀ b, H 52 b = h 52 b) (e2 : H 45 21 = h 45 21) : asM H pg = asM h pg := by
  unfold asM
  rw [e2, show H 52 = h 52 from funext e1]
def laM (h : zH) (m v : Nat) : Bool := asM h (up1 (h 46) (4 + m) (v : Int))
section MO
variable {l : Launch} {G : zG} {h : zH}
theorem l_leI (lm : LM G) (wm : wM h) (m : Nat) (hm : m < 4) (v : Nat) (hv : v < 7) (had so : Int) {Φ : Option zV → zH → Prop}
    (hΦ : ∀ H : zH, (∀ a b, a ≠ 51 → a ≠ 53 → ¬ (a = 46 ∧ b = 4 + m) → H a b = h a b) → (∀ u i : Nat, (i : Int) < h 46 32 → u < v + 1 → H 53 (5 * u + i) = dlM h m i u) → Rr l G 5 mX4_leansOf Φ 88 [some (vR 45), some (vI m), some (vI had), some (vI so), some (vI v), some (vI (h 46 32))] [] H) :
    ∀ (n i : Nat) (H : zH), (i : Int) + n = h 46 32 → (∀ a b, a ≠ 51 → a ≠ 53 → ¬ (a = 46 ∧ b = 4 + m) → H a b = h a b) → H 46 = up1 (h 46) (4 + m) (v : Int) → (∀ q, q < 48 → H 51 q = rdM (up1 (h 46) (4 + m) (v : Int)) q) → (∀ u i' : Nat, (i' : Int) < h 46 32 → (u < v ∨ (u = v ∧ i' < i)) → H 53 (5 * u + i') = dlM h m i' u) → Rr l G 5 mX4_leansOf Φ 52 [some (vR 45), some (vI m), some (vI had), some (vI so), some (vI v), some (vI i)] [] H := by
  have lm0 := lm
  obtain ⟨hN, ⟨ms45, ms46, ms47, ms48, ms49, ms50, ms51, ms52, ms53, ms54, ms55, ms56, ms57⟩, ⟨ml46, ml47, ml48, ml49, ml50, ml51, ml52, ml53, ml54, ml55, ml56, ml57⟩, ⟨mr0, mr2, mr7, mr16, mr17, mr18, mr20, mr22, mr24, mr25, mr26, mr27⟩⟩ := lm
  obtain ⟨⟨wg1, wg2, wg3, wg4, wg5, wg6, wg7, wg8⟩, wmen, wtp, wsm⟩ := wm
  intro n
  induction n with
  | zero =>
    intro i H hi he e46 e51 e53
    have e32 : H 46 32 = h 46 32 := he 46 32 (by omega) (by omega) (by omega)
    have hΦ := hΦ H he (fun u i' h1 h2 => e53 u i' h1 (by omega))
    have hi : (i : Int) = h 46 32 := by omega
    refine r_iload 54 dX4_leansOf_52 rfl rfl ?_
    refine r_aload_n 55 dX4_leansOf_54 rfl rfl ?_
    refine r_getR 58 dX4_leansOf_55 rfl kf_4_7 rfl (by first | assumption | omega) (by assumption) (by assumption) ?_
    refine r_bipush 60 dX4_leansOf_58 rfl rfl (by decide) ?_
    refine r_iald 61 dX4_leansOf_60 rfl (by first | assumption | omega) (by assumption) (by first | omega | (simp only [Int.toNat_natCast]; omega)) (by first | omega | (simp only [Int.toNat_natCast]; omega)) ?_
    try simp only [Int.toNat_natCast, tq_4, tq_8, tq_22, tq_27, tq_99, tq_a, tl_0, tl_1, tl_20, tl_21, tl_22, tl_32]
    rotate_left -- leaf: pc 61
    rw [e32]
    refine r_icmp_ge 88 64 dX4_leansOf_61 (by decide) rfl (fun c_61 => ?_) (fun c_61 => ?_)
    rotate_left -- leaf: pc 88
    rotate_left -- leaf: pc 64
    · rw [hi]; exact hΦ
    · omega
  | succ n ih =>
    intro i H hi he e46 e51 e53
    have e32 : H 46 32 = h 46 32 := he 46 32 (by omega) (by omega) (by omega)
    refine r_iload 54 dX4_leansOf_52 rfl rfl ?_
    refine r_aload_n 55 dX4_leansOf_54 rfl rfl ?_
    refine r_getR 58 dX4_leansOf_55 rfl kf_4_7 rfl (by first | assumption | omega) (by assumption) (by assumption) ?_
    refine r_bipush 60 dX4_leansOf_58 rfl rfl (by decide) ?_
    refine r_iald 61 dX4_leansOf_60 rfl (by first | assumption | omega) (by assumption) (by first | omega | (simp only [Int.toNat_natCast]; omega)) (by first | omega | (simp only [Int.toNat_natCast]; omega)) ?_
    try simp only [Int.toNat_natCast, tq_4, tq_8, tq_22, tq_27, tq_99, tq_a, tl_0, tl_1, tl_20, tl_21, tl_22, tl_32]
    rotate_left -- leaf: pc 61
    rw [e32]
    refine r_icmp_ge 88 64 dX4_leansOf_61 (by decide) rfl (fun c_61 => ?_) (fun c_61 => ?_)
    rotate_left -- leaf: pc 88
    refine r_aload_n 65 dX4_leansOf_64 rfl rfl ?_
    refine r_getR 68 dX4_leansOf_65 rfl kf_4_31 rfl (by first | assumption | omega) (by assumption) (by assumption) ?_
    refine r_iconst 69 dX4_leansOf_68 rfl rfl ?_
    refine r_iload 71 dX4_leansOf_69 rfl rfl ?_
    refine r_imul 72 dX4_leansOf_71 rfl (by first | exact w32_id (by omega) (by omega) | rfl) ?_
    refine r_iload 74 dX4_leansOf_72 rfl rfl ?_
    refine r_iadd 75 dX4_leansOf_74 rfl (by first | exact w32_id (by omega) (by omega) | rfl) ?_
    refine r_aload_n 76 dX4_leansOf_75 rfl rfl ?_
    refine r_iload 78 dX4_leansOf_76 rfl rfl ?_
    rotate_left -- leaf: call at pc 78
    · omega
    refine r_cv1 81 dX4_leansOf_78 rfl kv_4_146 (by first | assumption | omega) (by assumption) rfl rfl (m_doneIn lm0 i (by omega)) ?_
    rintro r h' ⟨rfl, rfl⟩
    have ed : dsM (h' 51) (h' 46 (22 + i)) 48 0 = dlM h m i v := by
      rw [dsM_cong e51 48 0 (by omega), he 46 (22 + i) (by omega) (by omega) (by omega)]
      unfold dlM dnM
      rw [up1_n (by omega)]
    rw [ed]
    refine r_iast 82 dX4_leansOf_81 rfl (by first | assumption | omega) (by assumption) (by first | omega | (simp only [Int.toNat_natCast]; omega)) (by first | omega | (simp only [Int.toNat_natCast]; omega)) ?_
    try simp only [Int.toNat_natCast, tq_4, tq_8, tq_22, tq_27, tq_99, tq_a, tl_0, tl_1, tl_20, tl_21, tl_22, tl_32]
    refine r_iinc 85 _ dX4_leansOf_82 rfl rfl rfl rfl (by first | exact w32_id (by omega) (by omega) | rfl) ?_
    refine r_goto 52 dX4_leansOf_85 (by decide) ?_
    rotate_left -- leaf: pc 52
    rw [show (5 * (v : Int) + (i : Int)).toNat = 5 * v + i by omega]
    exact ih (i + 1) _ (by omega) (fun a b q1 q2 q3 => by rw [up_k q2]; exact he a b q1 q2 q3) (funext fun b => by rw [up_k (by omega), e46]) (fun q hq => by rw [up_k (by omega)]; exact e51 q hq) (fun u i' h1 h2 => by
      by_cases e : u = v ∧ i' = i
      · obtain ⟨rfl, rfl⟩ := e; rw [up_s]
      · rw [up_j (by omega)]; exact e53 u i' h1 (by omega))
theorem l_leO (lm : LM G) (wm : wM h) (m : Nat) (hm : m < 4) {Φ : Option zV → zH → Prop} (hΦ : ∀ h' : zH, (∀ a b, a ≠ 51 → a ≠ 53 → h' a b = h a b) → (∀ u i : Nat, (i : Int) < h 46 32 → u < 7 → h' 53 (5 * u + i) = dlM h m i u) → Φ (some (vI (orN (laM h m) 7 : Nat))) h') : ∀ (n v : Nat) (x5 : Option zV) (H : zH), v + n = 7 → (∀ a b, a ≠ 51 → a ≠ 53 → ¬ (a = 46 ∧ b = 4 + m) → H a b = h a b) → (∀ u i : Nat, (i : Int) < h 46 32 → u < v → H 53 (5 * u + i) = dlM h m i u) → Rr l G 5 mX4_leansOf Φ 14 [some (vR 45), some (vI m), some (vI (h 46 (4 + m))), some (vI (orN (laM h m) v : Nat)), some (vI v), x5] [] H := by
  have lm0 := lm
  have wm0 := wm
  obtain ⟨hN, ⟨ms45, ms46, ms47, ms48, ms49, ms50, ms51, ms52, ms53, ms54, ms55, ms56, ms57⟩, ⟨ml46, ml47, ml48, ml49, ml50, ml51, ml52, ml53, ml54, ml55, ml56, ml57⟩, ⟨mr0, mr2, mr7, mr16, mr17, mr18, mr20, mr22, mr24, mr25, mr26, mr27⟩⟩ := lm
  obtain ⟨⟨wg1, wg2, wg3, wg4, wg5, wg6, wg7, wg8⟩, wmen, wtp, wsm⟩ := wm
  intro n
  induction n with
  | zero =>
    intro v x5 H hv he hw
    obtain rfl : v = 7 := by omega
    have hΦ := hΦ (up H 46 (4 + m) (h 46 (4 + m))) (fun a b q1 q2 => by
      by_cases e : a = 46 ∧ b = 4 + m
      · obtain ⟨rfl, rfl⟩ := e; rw [up_s]
      · rw [up_n e]; exact he a b q1 q2 e) (fun u i h1 h2 => by rw [up_k (by omega)]; exact hw u i h1 h2)
    refine r_iload 16 dX4_leansOf_14 rfl rfl ?_
    refine r_bipush 18 dX4_leansOf_16 rfl rfl (by decide) ?_
    refine r_icmp_gt 94 21 dX4_leansOf_18 (by decide) rfl (fun c_18 => ?_) (fun c_18 => ?_)
    refine r_aload_n 95 dX4_leansOf_94 rfl rfl ?_
    refine r_getR 98 dX4_leansOf_95 rfl kf_4_7 rfl (by first | assumption | omega) (by assumption) (by assumption) ?_
    refine r_iconst 99 dX4_leansOf_98 rfl rfl ?_
    refine r_iload_n 100 dX4_leansOf_99 rfl rfl ?_
    refine r_iadd 101 dX4_leansOf_100 rfl (by first | exact w32_id (by omega) (by omega) | rfl) ?_
    refine r_iload_n 102 dX4_leansOf_101 rfl rfl ?_
    refine r_iast 103 dX4_leansOf_102 rfl (by first | assumption | omega) (by assumption) (by first | omega | (simp only [Int.toNat_natCast]; omega)) (by first | omega | (simp only [Int.toNat_natCast]; omega)) ?_
    try simp only [Int.toNat_natCast, tq_4, tq_8, tq_22, tq_27, tq_99, tq_a, tl_0, tl_1, tl_20, tl_21, tl_22, tl_32]
    refine r_iload_n 104 dX4_leansOf_103 rfl rfl ?_
    refine r_iret dX4_leansOf_104 rfl ?_
    rotate_left -- leaf: return at pc 104
    rotate_left -- leaf: pc 21
    · exact hΦ
    · omega
  | succ n ih =>
    intro v x5 H hv he hw
    have epg : up H 46 (4 + m) (v : Int) 46 = up1 (h 46) (4 + m) (v : Int) := by
      rw [up_pg]
      funext b
      unfold up1
      split
      · rfl
      · exact he 46 b (by omega) (by omega) (by omega)
    have wmU : wM (up H 46 (4 + m) (v : Int)) := ⟨by rw [epg]; exact wPg_up4 hm wm0.1 (by omega), by rw [up_k (by omega), he 45 1 (by omega) (by omega) (by omega)]; exact wmen, by rw [up_k (by omega), he 45 8 (by omega) (by omega) (by omega)]; exact wtp, by rw [up_k (by omega), he 45 21 (by omega) (by omega) (by omega)]; exact wsm⟩
    have eas : asM (up H 46 (4 + m) (v : Int)) (up1 (h 46) (4 + m) (v : Int)) = laM h m v := asM_cong (fun b => by rw [up_k (by omega)]; exact he 52 b (by omega) (by omega) (by omega)) (by rw [up_k (by omega)]; exact he 45 21 (by omega) (by omega) (by omega))
    have hlt := orN_lt (laM h m) v
    have hp : (2 : Nat) ^ v ≤ 2 ^ 7 := Nat.pow_le_pow_right (by decide) (by omega)
    have ih := ih (v + 1)
    simp only [orN] at ih
    refine r_iload 16 dX4_leansOf_14 rfl rfl ?_
    refine r_bipush 18 dX4_leansOf_16 rfl rfl (by decide) ?_
    refine r_icmp_gt 94 21 dX4_leansOf_18 (by decide) rfl (fun c_18 => ?_) (fun c_18 => ?_)
    rotate_left -- leaf: pc 94
    refine r_aload_n 22 dX4_leansOf_21 rfl rfl ?_
    refine r_getR 25 dX4_leansOf_22 rfl kf_4_7 rfl (by first | assumption | omega) (by assumption) (by assumption) ?_
    refine r_iconst 26 dX4_leansOf_25 rfl rfl ?_
    refine r_iload_n 27 dX4_leansOf_26 rfl rfl ?_
    refine r_iadd 28 dX4_leansOf_27 rfl (by first | exact w32_id (by omega) (by omega) | rfl) ?_
    refine r_iload 30 dX4_leansOf_28 rfl rfl ?_
    refine r_iast 31 dX4_leansOf_30 rfl (by first | assumption | omega) (by assumption) (by first | omega | (simp only [Int.toNat_natCast]; omega)) (by first | omega | (simp only [Int.toNat_natCast]; omega)) ?_
    try simp only [Int.toNat_natCast, tq_4, tq_8, tq_22, tq_27, tq_99, tq_a, tl_0, tl_1, tl_20, tl_21, tl_22, tl_32]
    refine r_iload_n 32 dX4_leansOf_31 rfl rfl ?_
    refine r_aload_n 33 dX4_leansOf_32 rfl rfl ?_
    rotate_left -- leaf: call at pc 33
    · omega
    refine r_cv0 36 dX4_leansOf_33 rfl kv_4_212 (by first | assumption | omega) (by assumption) rfl rfl (m_isAsSeen lm0 wmU) ?_
    rintro r h' ⟨rfl, rfl⟩
    rw [epg, eas]
    have eo : ∀ a b, a ≠ 51 → a ≠ 53 → ¬ (a = 46 ∧ b = 4 + m) → setB (up H 46 (4 + m) (v : Int)) 51 48 (rdM (up1 (h 46) (4 + m) (v : Int))) a b = h a b := fun a b q1 q2 q3 => by rw [setB_n q1, up_n q3]; exact he a b q1 q2 q3
    have e46 : setB (up H 46 (4 + m) (v : Int)) 51 48 (rdM (up1 (h 46) (4 + m) (v : Int))) 46 = up1 (h 46) (4 + m) (v : Int) := funext fun b => by rw [setB_n (by omega), epg]
    have e51 : ∀ q, q < 48 → setB (up H 46 (4 + m) (v : Int)) 51 48 (rdM (up1 (h 46) (4 + m) (v : Int))) 51 q = rdM (up1 (h 46) (4 + m) (v : Int)) q := fun q hq => setB_i hq
    have e53 : ∀ u i : Nat, (i : Int) < h 46 32 → (u < v ∨ (u = v ∧ i < 0)) → setB (up H 46 (4 + m) (v : Int)) 51 48 (rdM (up1 (h 46) (4 + m) (v : Int))) 53 (5 * u + i) = dlM h m i u := fun u i h1 h2 => by rw [setB_n (by omega), up_k (by omega)]; exact hw u i h1 (by omega)
    generalize setB (up H 46 (4 + m) (v : Int)) 51 48 (rdM (up1 (h 46) (4 + m) (v : Int))) = W at eo e46 e51 e53 ⊢
    have J52 : ∀ so : Nat, so = (if laM h m v = true then orN (laM h m) v ||| 2 ^ v else orN (laM h m) v) → Rr l G 5 mX4_leansOf Φ 52 [some (vR 45), some (vI m), some (vI (h 46 (4 + m))), some (vI (so : Nat)), some (vI v), some (vI 0)] [] W := by
      intro so hso
      refine l_leI (l := l) lm0 wm0 m hm v (by omega) (h 46 (4 + m)) so (fun H2 q1 q2 => ?_) (h 46 32).toNat 0 W (by omega) eo e46 e51 e53
      refine r_iinc 91 _ dX4_leansOf_88 rfl rfl rfl rfl (by first | exact w32_id (by omega) (by omega) | rfl) ?_
      refine r_goto 14 dX4_leansOf_91 (by decide) ?_
      rotate_left -- leaf: pc 14
      rw [hso]
      exact ih (some (vI (h 46 32))) H2 (by omega) q1 (fun u i h1 h2 => q2 u i h1 h2)
    refine r_if_eq 46 39 dX4_leansOf_36 (by decide) rfl (fun c_36 => ?_) (fun c_36 => ?_)
    refine r_iconst 47 dX4_leansOf_46 rfl rfl ?_
    refine r_ior 48 dX4_leansOf_47 rfl rfl ?_
    rotate_left -- leaf: pc 48
    refine r_iconst 40 dX4_leansOf_39 rfl rfl ?_
    refine r_iload 42 dX4_leansOf_40 rfl rfl ?_
    refine r_ishl 43 dX4_leansOf_42 rfl rfl ?_
    refine r_goto 47 dX4_leansOf_43 (by decide) ?_
    refine r_ior 48 dX4_leansOf_47 rfl rfl ?_
    rotate_left -- leaf: pc 48
    · rw [z_or0 _ ⟨by omega, by omega⟩]
      refine r_istore_n 49 dX4_leansOf_48 rfl rfl rfl ?_
      refine r_iconst 50 dX4_leansOf_49 rfl rfl ?_
      refine r_istore 52 dX4_leansOf_50 rfl rfl rfl ?_
      rotate_left -- leaf: pc 52
      exact J52 _ (by rw [if_neg (z01_n.mp c_36)])
    · rw [z_or_bit (by omega) hlt]
      refine r_istore_n 49 dX4_leansOf_48 rfl rfl rfl ?_
      refine r_iconst 50 dX4_leansOf_49 rfl rfl ?_
      refine r_istore 52 dX4_leansOf_50 rfl rfl rfl ?_
      rotate_left -- leaf: pc 52
      exact J52 _ (by rw [if_pos (z01_y.mp c_36)])
theorem m_leansOf (lm : LM G) (wm : wM h) (m : Nat) (hm : m < 4) : Ca l G 5 mX4_leansOf [vR 45, vI m] h (fun r h' => r = some (vI (orN (laM h m) 7 : Nat)) ∧ (∀ a b, a ≠ 51 → a ≠ 53 → h' a b = h a b) ∧ (∀ u i : Nat, (i : Int) < h 46 32 → u < 7 → h' 53 (5 * u + i) = dlM h m i u)) := by
  have lm0 := lm
  obtain ⟨hN, ⟨ms45, ms46, ms47, ms48, ms49, ms50, ms51, ms52, ms53, ms54, ms55, ms56, ms57⟩, ⟨ml46, ml47, ml48, ml49, ml50, ml51, ml52, ml53, ml54, ml55, ml56, ml57⟩, ⟨mr0, mr2, mr7, mr16, mr17, mr18, mr20, mr22, mr24, mr25, mr26, mr27⟩⟩ := lm
  refine Ca.of (by decide) (Nat.le_of_ble_eq_true rfl) (fun hI hv hH => ?_)
  refine r_aload_n 1 dX4_leansOf_0 rfl rfl ?_
  refine r_getR 4 dX4_leansOf_1 rfl kf_4_7 rfl (by first | assumption | omega) (by assumption) (by assumption) ?_
  refine r_iconst 5 dX4_leansOf_4 rfl rfl ?_
  refine r_iload_n 6 dX4_leansOf_5 rfl rfl ?_
  refine r_iadd 7 dX4_leansOf_6 rfl (by first | exact w32_id (by omega) (by omega) | rfl) ?_
  refine r_iald 8 dX4_leansOf_7 rfl (by first | assumption | omega) (by assumption) (by first | omega | (simp only [Int.toNat_natCast]; omega)) (by first | omega | (simp only [Int.toNat_natCast]; omega)) ?_
  try simp only [Int.toNat_natCast, tq_4, tq_8, tq_22, tq_27, tq_99, tq_a, tl_0, tl_1, tl_20, tl_21, tl_22, tl_32]
  refine r_istore_n 9 dX4_leansOf_8 rfl rfl rfl ?_
  refine r_iconst 10 dX4_leansOf_9 rfl rfl ?_
  refine r_istore_n 11 dX4_leansOf_10 rfl rfl rfl ?_
  refine r_iconst 12 dX4_leansOf_11 rfl rfl ?_
  refine r_istore 14 dX4_leansOf_12 rfl rfl rfl ?_
  rotate_left -- leaf: pc 14
  exact l_leO (l := l) lm0 wm m hm (Φ := fun r h' => r = some (vI (orN (laM h m) 7 : Nat)) ∧ (∀ a b, a ≠ 51 → a ≠ 53 → h' a b = h a b) ∧ (∀ u i : Nat, (i : Int) < h 46 32 → u < 7 → h' 53 (5 * u + i) = dlM h m i u)) (fun h' q1 q2 => ⟨rfl, q1, q2⟩) 7 0 none h rfl (fun _ _ _ _ _ => rfl) (fun u i _ h2 => by omega)
def nLeans (m : Int) (h : zH) : Int := if ¬ (0 ≤ m ∧ m < h 45 1) then -1 else (orN (laM h m.toNat) 7 : Nat)
theorem m_leans (lm : LM G) (wm : wM h) (m : Int) : Ca l G 6 mX4_leans [vR 45, vI m] h (fun r h' => r = some (vI (nLeans m h)) ∧ sc5 h h') := by
  have lm0 := lm
  have wm0 := wm
  obtain ⟨hN, ⟨ms45, ms46, ms47, ms48, ms49, ms50, ms51, ms52, ms53, ms54, ms55, ms56, ms57⟩, ⟨ml46, ml47, ml48, ml49, ml50, ml51, ml52, ml53, ml54, ml55, ml56, ml57⟩, ⟨mr0, mr2, mr7, mr16, mr17, mr18, mr20, mr22, mr24, mr25, mr26, mr27⟩⟩ := lm
  obtain ⟨⟨wg1, wg2, wg3, wg4, wg5, wg6, wg7, wg8⟩, wmen, wtp, wsm⟩ := wm
  refine Ca.of (by decide) (Nat.le_of_ble_eq_true rfl) (fun hI hv hH => ?_)
  unfold nLeans
  refine r_aload_n 1 dX4_leans_0 rfl rfl ?_
  refine r_iload_n 2 dX4_leans_1 rfl rfl ?_
  rotate_left -- leaf: call at pc 2
  refine r_cv1 5 dX4_leans_2 rfl kv_4_161 (by first | assumption | omega) (by assumption) rfl rfl (m_isMan lm0 wm0 m) ?_
  rintro r h' ⟨rfl, rfl⟩
  refine r_if_eq 16 8 dX4_leans_5 (by decide) rfl (fun c_5 => ?_) (fun c_5 => ?_)
  refine r_iconst 17 dX4_leans_16 rfl rfl ?_
  refine r_iret dX4_leans_17 rfl ?_
  rotate_left -- leaf: return at pc 17
  refine r_aload_n 9 dX4_leans_8 rfl rfl ?_
  refine r_iload_n 10 dX4_leans_9 rfl rfl ?_
  rotate_left -- leaf: call at pc 10
  · rw [if_pos (z01_n.mp c_5)]
    exact ⟨rfl, fun _ _ _ _ _ _ => rfl⟩
  · have b1 := z01_y.mp c_5
    rw [if_neg (fun z => z b1)]
    obtain ⟨m, rfl⟩ := Int.eq_ofNat_of_zero_le b1.1
    rw [Int.toNat_natCast]
    refine r_cv1 13 dX4_leans_10 rfl kv_4_216 (by first | assumption | omega) (by assumption) rfl rfl (m_leansOf lm0 wm0 m (by omega)) ?_
    rintro r h'' ⟨rfl, q1, -⟩
    refine r_goto 17 dX4_leans_13 (by decide) ?_
    refine r_iret dX4_leans_17 rfl ?_
    rotate_left -- leaf: return at pc 17
    exact ⟨rfl, fun a b z1 z2 _ _ => q1 a b z1 z2⟩
def kaM (h : zH) (m v : Nat) : Bool := asM h (up1 (h 46) m (v : Int))
def nKinds (m : Int) (h : zH) : Int := if ¬ (0 ≤ m ∧ m < h 45 1) then -1 else (orN (kaM h m.toNat) 4 : Nat)
theorem l_mkin (lm : LM G) (wm : wM h) (m : Nat) (hm : m < 4) {Φ : Option zV → zH → Prop} (hΦ : ∀ h' : zH, (∀ a b, a ≠ 51 → h' a b = h a b) → Φ (some (vI (orN (kaM h m) 4 : Nat))) h') : ∀ (n v : Nat) (H : zH), v + n = 4 → (∀ a b, a ≠ 51 → ¬ (a = 46 ∧ b = m) → H a b = h a b) → Rr l G 5 mX4_kinds Φ 22 [some (vR 45), some (vI m), some (vI (h 46 m)), some (vI (orN (kaM h m) v : Nat)), some (vI v)] [] H := by
  have lm0 := lm
  have wm0 := wm
  obtain ⟨hN, ⟨ms45, ms46, ms47, ms48, ms49, ms50, ms51, ms52, ms53, ms54, ms55, ms56, ms57⟩, ⟨ml46, ml47, ml48, ml49, ml50, ml51, ml52, ml53, ml54, ml55, ml56, ml57⟩, ⟨mr0, mr2, mr7, mr16, mr17, mr18, mr20, mr22, mr24, mr25, mr26, mr27⟩⟩ := lm
  obtain ⟨⟨wg1, wg2, wg3, wg4, wg5, wg6, wg7, wg8⟩, wmen, wtp, wsm⟩ := wm
  intro n
  induction n with
  | zero =>
    intro v H hv he
    obtain rfl : v = 4 := by omega
    have hΦ := hΦ (up H 46 m (h 46 m)) (fun a b q1 => by
      by_cases e : a = 46 ∧ b = m
      · obtain ⟨rfl, rfl⟩ := e; rw [up_s]
      · rw [up_n e]; exact he a b q1 e)
    refine r_iload 24 dX4_kinds_22 rfl rfl ?_
    refine r_iconst 25 dX4_kinds_24 rfl rfl ?_
    refine r_icmp_ge 60 28 dX4_kinds_25 (by decide) rfl (fun c_25 => ?_) (fun c_25 => ?_)
    refine r_aload_n 61 dX4_kinds_60 rfl rfl ?_
    refine r_getR 64 dX4_kinds_61 rfl kf_4_7 rfl (by first | assumption | omega) (by assumption) (by assumption) ?_
    refine r_iload_n 65 dX4_kinds_64 rfl rfl ?_
    refine r_iload_n 66 dX4_kinds_65 rfl rfl ?_
    refine r_iast 67 dX4_kinds_66 rfl (by first | assumption | omega) (by assumption) (by first | omega | (simp only [Int.toNat_natCast]; omega)) (by first | omega | (simp only [Int.toNat_natCast]; omega)) ?_
    try simp only [Int.toNat_natCast, tq_4, tq_8, tq_22, tq_27, tq_99, tq_a, tl_0, tl_1, tl_20, tl_21, tl_22, tl_32]
    refine r_iload_n 68 dX4_kinds_67 rfl rfl ?_
    refine r_iret dX4_kinds_68 rfl ?_
    rotate_left -- leaf: return at pc 68
    rotate_left -- leaf: pc 28
    · exact hΦ
    · omega
  | succ n ih =>
    intro v H hv he
    have epg : up H 46 m (v : Int) 46 = up1 (h 46) m (v : Int) := by
      rw [up_pg]
      funext b
      unfold up1
      split
      · rfl
      · exact he 46 b (by omega) (by omega)
    have wmU : wM (up H 46 m (v : Int)) := ⟨by rw [epg]; exact wPg_up0 hm wm0.1 (by omega), by rw [up_k (by omega), he 45 1 (by omega) (by omega)]; exact wmen, by rw [up_k (by omega), he 45 8 (by omega) (by omega)]; exact wtp, by rw [up_k (by omega), he 45 21 (by omega) (by omega)]; exact wsm⟩
    have eas : asM (up H 46 m (v : Int)) (up1 (h 46) m (v : Int)) = kaM h m v := asM_cong (fun b => by rw [up_k (by omega)]; exact he 52 b (by omega) (by omega)) (by rw [up_k (by omega)]; exact he 45 21 (by omega) (by omega))
    have hlt := orN_lt (kaM h m) v
    have hp : (2 : Nat) ^ v ≤ 2 ^ 4 := Nat.pow_le_pow_right (by decide) (by omega)
    have ih := ih (v + 1) (setB (up H 46 m (v : Int)) 51 48 (rdM (up1 (h 46) m (v : Int)))) (by omega) (fun a b q1 q2 => by rw [setB_n q1, up_n q2]; exact he a b q1 q2)
    simp only [orN] at ih
    refine r_iload 24 dX4_kinds_22 rfl rfl ?_
    refine r_iconst 25 dX4_kinds_24 rfl rfl ?_
    refine r_icmp_ge 60 28 dX4_kinds_25 (by decide) rfl (fun c_25 => ?_) (fun c_25 => ?_)
    rotate_left -- leaf: pc 60
    refine r_aload_n 29 dX4_kinds_28 rfl rfl ?_
    refine r_getR 32 dX4_kinds_29 rfl kf_4_7 rfl (by first | assumption | omega) (by assumption) (by assumption) ?_
    refine r_iload_n 33 dX4_kinds_32 rfl rfl ?_
    refine r_iload 35 dX4_kinds_33 rfl rfl ?_
    refine r_iast 36 dX4_kinds_35 rfl (by first | assumption | omega) (by assumption) (by first | omega | (simp only [Int.toNat_natCast]; omega)) (by first | omega | (simp only [Int.toNat_natCast]; omega)) ?_
    try simp only [Int.toNat_natCast, tq_4, tq_8, tq_22, tq_27, tq_99, tq_a, tl_0, tl_1, tl_20, tl_21, tl_22, tl_32]
    refine r_iload_n 37 dX4_kinds_36 rfl rfl ?_
    refine r_aload_n 38 dX4_kinds_37 rfl rfl ?_
    rotate_left -- leaf: call at pc 38
    · omega
    refine r_cv0 41 dX4_kinds_38 rfl kv_4_212 (by first | assumption | omega) (by assumption) rfl rfl (m_isAsSeen lm0 wmU) ?_
    rintro r h' ⟨rfl, rfl⟩
    rw [epg, eas]
    refine r_if_eq 51 44 dX4_kinds_41 (by decide) rfl (fun c_41 => ?_) (fun c_41 => ?_)
    refine r_iconst 52 dX4_kinds_51 rfl rfl ?_
    refine r_ior 53 dX4_kinds_52 rfl rfl ?_
    rotate_left -- leaf: pc 53
    refine r_iconst 45 dX4_kinds_44 rfl rfl ?_
    refine r_iload 47 dX4_kinds_45 rfl rfl ?_
    refine r_ishl 48 dX4_kinds_47 rfl rfl ?_
    refine r_goto 52 dX4_kinds_48 (by decide) ?_
    refine r_ior 53 dX4_kinds_52 rfl rfl ?_
    rotate_left -- leaf: pc 53
    · rw [z_or0 _ ⟨by omega, by omega⟩]
      rw [if_neg (z01_n.mp c_41)] at ih
      refine r_istore_n 54 dX4_kinds_53 rfl rfl rfl ?_
      refine r_iinc 57 _ dX4_kinds_54 rfl rfl rfl rfl (by first | exact w32_id (by omega) (by omega) | rfl) ?_
      refine r_goto 22 dX4_kinds_57 (by decide) ?_
      rotate_left -- leaf: pc 22
      exact ih
    · rw [z_or_bit (by omega) hlt]
      rw [if_pos (z01_y.mp c_41)] at ih
      refine r_istore_n 54 dX4_kinds_53 rfl rfl rfl ?_
      refine r_iinc 57 _ dX4_kinds_54 rfl rfl rfl rfl (by first | exact w32_id (by omega) (by omega) | rfl) ?_
      refine r_goto 22 dX4_kinds_57 (by decide) ?_
      rotate_left -- leaf: pc 22
      exact ih
theorem m_kinds (lm : LM G) (wm : wM h) (m : Int) : Ca l G 5 mX4_kinds [vR 45, vI m] h (fun r h' => r = some (vI (nKinds m h)) ∧ sc5 h h') := by
  have lm0 := lm
  have wm0 := wm
  obtain ⟨hN, ⟨ms45, ms46, ms47, ms48, ms49, ms50, ms51, ms52, ms53, ms54, ms55, ms56, ms57⟩, ⟨ml46, ml47, ml48, ml49, ml50, ml51, ml52, ml53, ml54, ml55, ml56, ml57⟩, ⟨mr0, mr2, mr7, mr16, mr17, mr18, mr20, mr22, mr24, mr25, mr26, mr27⟩⟩ := lm
  obtain ⟨⟨wg1, wg2, wg3, wg4, wg5, wg6, wg7, wg8⟩, wmen, wtp, wsm⟩ := wm
  refine Ca.of (by decide) (Nat.le_of_ble_eq_true rfl) (fun hI hv hH => ?_)
  unfold nKinds
  refine r_aload_n 1 dX4_kinds_0 rfl rfl ?_
  refine r_iload_n 2 dX4_kinds_1 rfl rfl ?_
  rotate_left -- leaf: call at pc 2
  refine r_cv1 5 dX4_kinds_2 rfl kv_4_161 (by first | assumption | omega) (by assumption) rfl rfl (m_isMan lm0 wm0 m) ?_
  rintro r h' ⟨rfl, rfl⟩
  refine r_if_ne 10 8 dX4_kinds_5 (by decide) rfl (fun c_5 => ?_) (fun c_5 => ?_)
  rotate_left -- leaf: pc 10
  refine r_iconst 9 dX4_kinds_8 rfl rfl ?_
  refine r_iret dX4_kinds_9 rfl ?_
  rotate_left -- leaf: return at pc 9
  · have b1 := z01_y.mp c_5
    rw [if_neg (fun z => z b1)]
    obtain ⟨m, rfl⟩ := Int.eq_ofNat_of_zero_le b1.1
    rw [Int.toNat_natCast]
    refine r_aload_n 11 dX4_kinds_10 rfl rfl ?_
    refine r_getR 14 dX4_kinds_11 rfl kf_4_7 rfl (by first | assumption | omega) (by assumption) (by assumption) ?_
    refine r_iload_n 15 dX4_kinds_14 rfl rfl ?_
    refine r_iald 16 dX4_kinds_15 rfl (by first | assumption | omega) (by assumption) (by first | omega | (simp only [Int.toNat_natCast]; omega)) (by first | omega | (simp only [Int.toNat_natCast]; omega)) ?_
    try simp only [Int.toNat_natCast, tq_4, tq_8, tq_22, tq_27, tq_99, tq_a, tl_0, tl_1, tl_20, tl_21, tl_22, tl_32]
    refine r_istore_n 17 dX4_kinds_16 rfl rfl rfl ?_
    refine r_iconst 18 dX4_kinds_17 rfl rfl ?_
    refine r_istore_n 19 dX4_kinds_18 rfl rfl rfl ?_
    refine r_iconst 20 dX4_kinds_19 rfl rfl ?_
    refine r_istore 22 dX4_kinds_20 rfl rfl rfl ?_
    rotate_left -- leaf: pc 22
    exact l_mkin (l := l) lm0 wm0 m (by omega) (Φ := fun r h2 => r = some (vI (orN (kaM h' m) 4 : Nat)) ∧ sc5 h' h2) (fun h2 q1 => ⟨rfl, fun a b z1 _ _ _ => q1 a b z1⟩) 4 0 h' rfl (fun _ _ _ _ => rfl)
  · rw [if_pos (z01_n.mp c_5)]
    exact ⟨rfl, fun _ _ _ _ _ _ => rfl⟩
end MO
