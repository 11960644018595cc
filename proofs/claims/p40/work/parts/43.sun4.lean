/-! SunPointer: swap, what is seen, images, sheets -/
section SX
variable {l : Launch} {G : zG} {h : zH}
def xch (H : zH) (p a b : Nat) : zH := up (up H (p + 3) a (H (p + 3) b)) (p + 3) b (H (p + 3) a)
theorem wT_xch {H : zH} {p a b : Nat} (w : wT H p) : wT (xch H p a b) p := wT_up3 (wT_up3 w (w.2.2.2.2.2.2.1 b)) (w.2.2.2.2.2.2.1 a)
theorem xch_o {H : zH} {p a b c e : Nat} (q : c ≠ p + 3) : xch H p a b c e = H c e := by unfold xch; rw [up_k q, up_k q]
theorem eqB_xch {p a b : Nat} {X Y : zH} (e : eqB p X Y) : eqB p (xch X p a b) (xch Y p a b) := by
  unfold xch
  rw [e (p + 3) a (by omega), e (p + 3) b (by omega)]
  exact eqB_up (eqB_up e)
theorem xch_xch {p a b : Nat} {X : zH} (hab : a ≠ b) : eqB p (xch (reb p (xch X p a b)) p a b) X := by
  have h1 : reb p (xch X p a b) (p + 3) a = X (p + 3) b := by
    rw [reb_n (by omega)]; unfold xch; rw [up_j (by omega), up_s]
  have h2 : reb p (xch X p a b) (p + 3) b = X (p + 3) a := by
    rw [reb_n (by omega)]; unfold xch; rw [up_s]
  intro c e q
  show up (up (reb p (xch X p a b)) (p + 3) a (reb p (xch X p a b) (p + 3) b)) (p + 3) b (reb p (xch X p a b) (p + 3) a) c e = X c e
  rw [h1, h2]
  by_cases hc : c = p + 3
  · subst hc
    by_cases hb : e = b
    · subst hb; rw [up_s]
    · rw [up_j hb]
      by_cases ha : e = a
      · subst ha; rw [up_s]
      · rw [up_j ha, reb_n (by omega)]; unfold xch; rw [up_j hb, up_j ha]
  · rw [up_k hc, up_k hc]
    have := eqB_reb (p := p) (X := xch X p a b) c e q
    rw [this, xch_o hc]
theorem c_harmOfSwapped (ly : LX G) (w : wT h 8) (a b : Nat) (ha : a < b) (hb : b < 12) : Ca l G 5 mX3_harmOfSwapped [vR 0, vI a, vI b] h (fun r h' => r = some (vI (hmA (reb 8 (xch h 8 a b)) 8)) ∧ h' = reb 8 (xch (reb 8 (xch h 8 a b)) 8 a b)) := by
  obtain ⟨hN, ⟨ly1, ly8, ly16, ly23⟩, ltp, ⟨ls34, ls36, ls38, ls40⟩, ⟨xs0, xs15, xs30, xs33, xs42, xs43, xs44⟩, ⟨xl15, xl30, xl33, xl42, xl43, xl44⟩, ⟨xr0, xr1, xr2, xr3, xr4, xr5, xr6, xr7, xr8⟩, ⟨yr0, yr1⟩, ⟨zr0, zr1, zr2, zr3⟩⟩ := ly
  have xs1 : gs G 1 = 7 := ly1.2.1.1
  have xs8 : gs G 8 = 7 := ly8.2.1.1
  have xs16 : gs G 16 = 7 := ly16.2.1.1
  have xs23 : gs G 23 = 7 := ly23.2.1.1
  have xs31 : gs G 31 = 6 := ltp.2.1.1
  have xs34 : gs G 34 = 5 := ls34.2.1.1
  have xs36 : gs G 36 = 5 := ls36.2.1.1
  have xs38 : gs G 38 = 5 := ls38.2.1.1
  have xs40 : gs G 40 = 5 := ls40.2.1.1
  refine Ca.of (by decide) (Nat.le_of_ble_eq_true rfl) (fun hI hv hH => ?_)
  refine r_aload_n 1 dX3_harmOfSwapped_0 rfl rfl ?_
  refine r_getR 4 dX3_harmOfSwapped_1 rfl kf_3_16 rfl (by first | assumption | omega) (by assumption) (by assumption) ?_
  refine r_iload_n 5 dX3_harmOfSwapped_4 rfl rfl ?_
  refine r_iload_n 6 dX3_harmOfSwapped_5 rfl rfl ?_
  rotate_left -- leaf: call at pc 6
  refine r_cv2 9 dX3_harmOfSwapped_6 rfl kv_3_190 (by first | assumption | omega) (by assumption) rfl rfl (c_exchange ly8 a b (by omega) hb (wT_xch w)) ?_
  rintro r h' ⟨rfl, rfl⟩
  refine r_aload_n 10 dX3_harmOfSwapped_9 rfl rfl ?_
  refine r_getR 13 dX3_harmOfSwapped_10 rfl kf_3_16 rfl (by first | assumption | omega) (by assumption) (by assumption) ?_
  rotate_left -- leaf: call at pc 13
  refine r_cv0 16 dX3_harmOfSwapped_13 rfl kv_3_92 (by first | assumption | omega) (by assumption) rfl rfl (c_harm ly8 (wT_reb (wT_xch w))) ?_
  rintro r h' ⟨rfl, rfl⟩
  refine r_istore_n 17 dX3_harmOfSwapped_16 rfl rfl rfl ?_
  refine r_aload_n 18 dX3_harmOfSwapped_17 rfl rfl ?_
  refine r_getR 21 dX3_harmOfSwapped_18 rfl kf_3_16 rfl (by first | assumption | omega) (by assumption) (by assumption) ?_
  refine r_iload_n 22 dX3_harmOfSwapped_21 rfl rfl ?_
  refine r_iload_n 23 dX3_harmOfSwapped_22 rfl rfl ?_
  rotate_left -- leaf: call at pc 23
  refine r_cv2 26 dX3_harmOfSwapped_23 rfl kv_3_190 (by first | assumption | omega) (by assumption) rfl rfl (c_exchange ly8 a b (by omega) hb (wT_xch (wT_reb (wT_xch w)))) ?_
  rintro r h' ⟨rfl, rfl⟩
  refine r_iload_n 27 dX3_harmOfSwapped_26 rfl rfl ?_
  refine r_iret dX3_harmOfSwapped_27 rfl ?_
  rotate_left -- leaf: return at pc 27
  exact ⟨rfl, rfl⟩
def swV (h : zH) (a b : Nat) : Int := hmA (reb 8 (xch (cpT h 1 8) 8 a b)) 8
def swF (h : zH) : Nat → Int × Int
  | 0 => (-4, hmA h 1)
  | a + 1 => mrF (fun k => swV h a (a + 1 + k)) (fun k => 100 * (a : Int) + ((a + 1 + k : Nat) : Int)) (swF h a) (11 - a)
def qSwap (x : Int) (h : zH) : Int := if ¬ (x = 0 ∨ x = 1) then -1 else soA x (swF h 12)
theorem l_swapI (ly : LX G) (w : wX h) (x : Int) {Φ : Option zV → zH → Prop} (a : Nat) (ha : a < 12)
    (hΦ : ∀ (x6 : Option zV) (H : zH), eqB 8 H (cpT h 1 8) → scr h H → Rr l G 6 mX3_swap Φ 88 [some (vR 0), some (vI x), some (vI (swF h (a + 1)).1), some (vI (swF h (a + 1)).2), some (vI a), some (vI 12), x6] [] H) :
    ∀ (n k : Nat) (x6 : Option zV) (H : zH), k + n = 11 - a → eqB 8 H (cpT h 1 8) → scr h H → Rr l G 6 mX3_swap Φ 47 [some (vR 0), some (vI x), some (vI (mrF (fun k => swV h a (a + 1 + k)) (fun k => 100 * (a : Int) + ((a + 1 + k : Nat) : Int)) (swF h a) k).1), some (vI (mrF (fun k => swV h a (a + 1 + k)) (fun k => 100 * (a : Int) + ((a + 1 + k : Nat) : Int)) (swF h a) k).2), some (vI a), some (vI ((a + 1 + k : Nat) : Int)), x6] [] H := by
  have lX0 := ly
  obtain ⟨hN, ⟨ly1, ly8, ly16, ly23⟩, ltp, ⟨ls34, ls36, ls38, ls40⟩, ⟨xs0, xs15, xs30, xs33, xs42, xs43, xs44⟩, ⟨xl15, xl30, xl33, xl42, xl43, xl44⟩, ⟨xr0, xr1, xr2, xr3, xr4, xr5, xr6, xr7, xr8⟩, ⟨yr0, yr1⟩, ⟨zr0, zr1, zr2, zr3⟩⟩ := ly
  have xs1 : gs G 1 = 7 := ly1.2.1.1
  have xs8 : gs G 8 = 7 := ly8.2.1.1
  have xs16 : gs G 16 = 7 := ly16.2.1.1
  have xs23 : gs G 23 = 7 := ly23.2.1.1
  have xs31 : gs G 31 = 6 := ltp.2.1.1
  have xs34 : gs G 34 = 5 := ls34.2.1.1
  have xs36 : gs G 36 = 5 := ls36.2.1.1
  have xs38 : gs G 38 = 5 := ls38.2.1.1
  have xs40 : gs G 40 = 5 := ls40.2.1.1
  obtain ⟨⟨w1, w8, w16, w23⟩, wp, wsn, ws42, ws43, wk, ⟨wh34, wh36, wh38, wh40⟩, wt⟩ := w
  intro n
  induction n with
  | zero =>
    intro k x6 H hk he hs
    have hΦ := hΦ x6 H he hs
    refine r_iload 49 dX3_swap_47 rfl rfl ?_
    refine r_bipush 51 dX3_swap_49 rfl rfl (by decide) ?_
    refine r_icmp_ge 88 54 dX3_swap_51 (by decide) rfl (fun c_51 => ?_) (fun c_51 => ?_)
    rotate_left -- leaf: pc 88
    rotate_left -- leaf: pc 54
    · rw [swF, show 11 - a = k by omega] at hΦ
      rw [show ((a + 1 + k : Nat) : Int) = 12 by omega]
      exact hΦ
    · omega
  | succ n ih =>
    intro k x6 H hk he hs
    have hv : hmA (reb 8 (xch H 8 a (a + 1 + k))) 8 = swV h a (a + 1 + k) := by
      rw [reb_cong (eqB_xch he)]; rfl
    have ih := ih (k + 1) (some (vI (swV h a (a + 1 + k)))) (reb 8 (xch (reb 8 (xch H 8 a (a + 1 + k))) 8 a (a + 1 + k))) (by omega) (eqB_tr eqB_reb (eqB_tr (xch_xch (by omega)) he)) ⟨fun c e q q2 => by
        rw [reb_in (by omega), xch_o (by omega), reb_in (by omega), xch_o (by omega)]; exact hs.1 c e q q2, wT_reb (wT_xch (wT_reb (wT_xch hs.2)))⟩
    simp only [mrF] at ih
    refine r_iload 49 dX3_swap_47 rfl rfl ?_
    refine r_bipush 51 dX3_swap_49 rfl rfl (by decide) ?_
    refine r_icmp_ge 88 54 dX3_swap_51 (by decide) rfl (fun c_51 => ?_) (fun c_51 => ?_)
    rotate_left -- leaf: pc 88
    refine r_aload_n 55 dX3_swap_54 rfl rfl ?_
    refine r_iload 57 dX3_swap_55 rfl rfl ?_
    refine r_iload 59 dX3_swap_57 rfl rfl ?_
    rotate_left -- leaf: call at pc 59
    · omega
    refine r_cv2 62 dX3_swap_59 rfl kv_3_187 (by first | assumption | omega) (by assumption) rfl rfl (c_harmOfSwapped lX0 hs.2 a (a + 1 + k) (by omega) (by omega)) ?_
    rintro r h' ⟨rfl, rfl⟩
    rw [hv]
    refine r_istore 64 dX3_swap_62 rfl rfl rfl ?_
    refine r_iload 66 dX3_swap_64 rfl rfl ?_
    refine r_iload_n 67 dX3_swap_66 rfl rfl ?_
    refine r_icmp_ge 82 70 dX3_swap_67 (by decide) rfl (fun c_67 => ?_) (fun c_67 => ?_)
    refine r_iinc 85 _ dX3_swap_82 rfl rfl rfl rfl (by first | exact w32_id (by omega) (by omega) | rfl) ?_
    refine r_goto 47 dX3_swap_85 (by decide) ?_
    rotate_left -- leaf: pc 47
    refine r_iload 72 dX3_swap_70 rfl rfl ?_
    refine r_istore_n 73 dX3_swap_72 rfl rfl rfl ?_
    refine r_bipush 75 dX3_swap_73 rfl rfl (by decide) ?_
    refine r_iload 77 dX3_swap_75 rfl rfl ?_
    refine r_imul 78 dX3_swap_77 rfl (by first | exact w32_id (by omega) (by omega) | rfl) ?_
    refine r_iload 80 dX3_swap_78 rfl rfl ?_
    refine r_iadd 81 dX3_swap_80 rfl (by first | exact w32_id (by omega) (by omega) | rfl) ?_
    refine r_istore_n 82 dX3_swap_81 rfl rfl rfl ?_
    refine r_iinc 85 _ dX3_swap_82 rfl rfl rfl rfl (by first | exact w32_id (by omega) (by omega) | rfl) ?_
    refine r_goto 47 dX3_swap_85 (by decide) ?_
    rotate_left -- leaf: pc 47
    · rw [if_neg (by omega)] at ih
      exact ih
    · rw [if_pos c_67] at ih
      exact ih
theorem l_swap (ly : LX G) (w : wX h) (x : Int) {Φ : Option zV → zH → Prop} (hΦ : ∀ h', scr h h' → Φ (some (vI (soA x (swF h 12)))) h') : ∀ (n j : Nat) (x5 x6 : Option zV) (H : zH), j + n = 12 → eqB 8 H (cpT h 1 8) → scr h H → Rr l G 6 mX3_swap Φ 34 [some (vR 0), some (vI x), some (vI (swF h j).1), some (vI (swF h j).2), some (vI j), x5, x6] [] H := by
  have lX0 := ly
  have wX0 := w
  obtain ⟨hN, ⟨ly1, ly8, ly16, ly23⟩, ltp, ⟨ls34, ls36, ls38, ls40⟩, ⟨xs0, xs15, xs30, xs33, xs42, xs43, xs44⟩, ⟨xl15, xl30, xl33, xl42, xl43, xl44⟩, ⟨xr0, xr1, xr2, xr3, xr4, xr5, xr6, xr7, xr8⟩, ⟨yr0, yr1⟩, ⟨zr0, zr1, zr2, zr3⟩⟩ := ly
  have xs1 : gs G 1 = 7 := ly1.2.1.1
  have xs8 : gs G 8 = 7 := ly8.2.1.1
  have xs16 : gs G 16 = 7 := ly16.2.1.1
  have xs23 : gs G 23 = 7 := ly23.2.1.1
  have xs31 : gs G 31 = 6 := ltp.2.1.1
  have xs34 : gs G 34 = 5 := ls34.2.1.1
  have xs36 : gs G 36 = 5 := ls36.2.1.1
  have xs38 : gs G 38 = 5 := ls38.2.1.1
  have xs40 : gs G 40 = 5 := ls40.2.1.1
  obtain ⟨⟨w1, w8, w16, w23⟩, wp, wsn, ws42, ws43, wk, ⟨wh34, wh36, wh38, wh40⟩, wt⟩ := w
  intro n
  induction n with
  | zero =>
    intro j x5 x6 H hj he hs
    obtain rfl : j = 12 := by omega
    have hΦ := hΦ H hs
    unfold soA at hΦ
    refine r_iload 36 dX3_swap_34 rfl rfl ?_
    refine r_bipush 38 dX3_swap_36 rfl rfl (by decide) ?_
    refine r_icmp_ge 94 41 dX3_swap_38 (by decide) rfl (fun c_38 => ?_) (fun c_38 => ?_)
    refine r_iload_n 95 dX3_swap_94 rfl rfl ?_
    refine r_if_eq 104 98 dX3_swap_95 (by decide) rfl (fun c_95 => ?_) (fun c_95 => ?_)
    refine r_iload_n 105 dX3_swap_104 rfl rfl ?_
    refine r_goto 109 dX3_swap_105 (by decide) ?_
    refine r_iret dX3_swap_109 rfl ?_
    rotate_left -- leaf: return at pc 109
    refine r_iload_n 99 dX3_swap_98 rfl rfl ?_
    refine r_bipush 101 dX3_swap_99 rfl rfl (by decide) ?_
    refine r_icmp_ne 108 104 dX3_swap_101 (by decide) rfl (fun c_101 => ?_) (fun c_101 => ?_)
    refine r_iload_n 109 dX3_swap_108 rfl rfl ?_
    refine r_iret dX3_swap_109 rfl ?_
    rotate_left -- leaf: return at pc 109
    refine r_iload_n 105 dX3_swap_104 rfl rfl ?_
    refine r_goto 109 dX3_swap_105 (by decide) ?_
    refine r_iret dX3_swap_109 rfl ?_
    rotate_left -- leaf: return at pc 109
    rotate_left -- leaf: pc 41
    · rw [if_pos (Or.inl c_95)] at hΦ
      exact hΦ
    · rw [if_neg (by omega)] at hΦ
      exact hΦ
    · rw [if_pos (Or.inr c_101)] at hΦ
      exact hΦ
    · omega
  | succ n ih =>
    intro j x5 x6 H hj he hs
    refine r_iload 36 dX3_swap_34 rfl rfl ?_
    refine r_bipush 38 dX3_swap_36 rfl rfl (by decide) ?_
    refine r_icmp_ge 94 41 dX3_swap_38 (by decide) rfl (fun c_38 => ?_) (fun c_38 => ?_)
    rotate_left -- leaf: pc 94
    refine r_iload 43 dX3_swap_41 rfl rfl ?_
    refine r_iconst 44 dX3_swap_43 rfl rfl ?_
    refine r_iadd 45 dX3_swap_44 rfl (by first | exact w32_id (by omega) (by omega) | rfl) ?_
    refine r_istore 47 dX3_swap_45 rfl rfl rfl ?_
    rotate_left -- leaf: pc 47
    · omega
    refine l_swapI (l := l) lX0 wX0 x j (by omega) (fun x6 H he hs => ?_) (11 - j) 0 x6 H (by omega) he hs
    refine r_iinc 91 _ dX3_swap_88 rfl rfl rfl rfl (by first | exact w32_id (by omega) (by omega) | rfl) ?_
    refine r_goto 34 dX3_swap_91 (by decide) ?_
    rotate_left -- leaf: pc 34
    exact ih (j + 1) _ _ _ (by omega) he hs
theorem hmA_cpT : hmA (cpT h 1 8) 1 = hmA h 1 := by
  unfold hmA haA dnA fiF rdsB
  simp only [cpT_o (h := h) (q := 1) (p := 8) (a := 1) (by omega), cpT_o (h := h) (q := 1) (p := 8) (a := 1 + 3) (by omega), cpT_o (h := h) (q := 1) (p := 8) (a := 1 + 4) (by omega), cpT_o (h := h) (q := 1) (p := 8) (a := 1 + 5) (by omega), cpT_o (h := h) (q := 1) (p := 8) (a := 1 + 6) (by omega)]
theorem c_swap (ly : LX G) (w : wX h) (x : Int) : Ca l G 6 mX3_swap [vR 0, vI x] h (fun r h' => r = some (vI (qSwap x h)) ∧ scr h h') := by
  have lX0 := ly
  have wX0 := w
  obtain ⟨hN, ⟨ly1, ly8, ly16, ly23⟩, ltp, ⟨ls34, ls36, ls38, ls40⟩, ⟨xs0, xs15, xs30, xs33, xs42, xs43, xs44⟩, ⟨xl15, xl30, xl33, xl42, xl43, xl44⟩, ⟨xr0, xr1, xr2, xr3, xr4, xr5, xr6, xr7, xr8⟩, ⟨yr0, yr1⟩, ⟨zr0, zr1, zr2, zr3⟩⟩ := ly
  have xs1 : gs G 1 = 7 := ly1.2.1.1
  have xs8 : gs G 8 = 7 := ly8.2.1.1
  have xs16 : gs G 16 = 7 := ly16.2.1.1
  have xs23 : gs G 23 = 7 := ly23.2.1.1
  have xs31 : gs G 31 = 6 := ltp.2.1.1
  have xs34 : gs G 34 = 5 := ls34.2.1.1
  have xs36 : gs G 36 = 5 := ls36.2.1.1
  have xs38 : gs G 38 = 5 := ls38.2.1.1
  have xs40 : gs G 40 = 5 := ls40.2.1.1
  obtain ⟨⟨w1, w8, w16, w23⟩, wp, wsn, ws42, ws43, wk, ⟨wh34, wh36, wh38, wh40⟩, wt⟩ := w
  refine Ca.of (by decide) (Nat.le_of_ble_eq_true rfl) (fun hI hv hH => ?_)
  refine r_iload_n 1 dX3_swap_0 rfl rfl ?_
  rotate_left -- leaf: call at pc 1
  refine r_cs1 4 dX3_swap_1 rfl ks_3_133 rfl rfl (c_isFS x) ?_
  rintro r h' ⟨rfl, rfl⟩
  unfold qSwap
  refine r_if_ne 9 7 dX3_swap_4 (by decide) rfl (fun c_4 => ?_) (fun c_4 => ?_)
  refine r_aload_n 10 dX3_swap_9 rfl rfl ?_
  refine r_getR 13 dX3_swap_10 rfl kf_3_16 rfl (by first | assumption | omega) (by assumption) (by assumption) ?_
  refine r_aload_n 14 dX3_swap_13 rfl rfl ?_
  refine r_getR 17 dX3_swap_14 rfl kf_3_10 rfl (by first | assumption | omega) (by assumption) (by assumption) ?_
  rotate_left -- leaf: call at pc 17
  refine r_iconst 8 dX3_swap_7 rfl rfl ?_
  refine r_iret dX3_swap_8 rfl ?_
  rotate_left -- leaf: return at pc 8
  · rw [if_neg (fun q => q (z01_y.mp c_4))]
    refine r_cv1 20 dX3_swap_17 rfl kv_3_69 (by first | assumption | omega) (by assumption) rfl rfl (c_copyOf ly8 ly1 (by omega)) ?_
    rintro r h'' ⟨rfl, rfl⟩
    refine r_bipush 22 dX3_swap_20 rfl rfl (by decide) ?_
    refine r_istore_n 23 dX3_swap_22 rfl rfl rfl ?_
    refine r_aload_n 24 dX3_swap_23 rfl rfl ?_
    refine r_getR 27 dX3_swap_24 rfl kf_3_10 rfl (by first | assumption | omega) (by assumption) (by assumption) ?_
    rotate_left -- leaf: call at pc 27
    have hc : wT (cpT h' 1 8) 1 := wT_cong (fun a b q1 q2 => cpT_o (by omega)) w1
    refine r_cv0 30 dX3_swap_27 rfl kv_3_92 (by first | assumption | omega) (by assumption) rfl rfl (c_harm ly1 hc) ?_
    rintro r h'' ⟨rfl, rfl⟩
    rw [hmA_cpT]
    refine r_istore_n 31 dX3_swap_30 rfl rfl rfl ?_
    refine r_iconst 32 dX3_swap_31 rfl rfl ?_
    refine r_istore 34 dX3_swap_32 rfl rfl rfl ?_
    rotate_left -- leaf: pc 34
    exact l_swap (l := l) lX0 wX0 x (Φ := fun r h'' => r = some (vI (soA x (swF h' 12))) ∧ scr h' h'') (fun h3 q => ⟨rfl, q⟩) 12 0 none none _ rfl eqB_rf (scr_cpT w1 w8)
  · rw [if_pos (z01_n.mp c_4)]
    exact ⟨rfl, fun _ _ _ _ => rfl, w8⟩
def sSee (i q : Int) (h : zH) : Int × zH := if ¬ ((0 ≤ i ∧ i < h 1 7) ∧ ((0 ≤ q ∧ q < 48) ∨ q = -4)) then (-1, h) else if 6 ≤ h 0 9 then (-3, h) else (h 0 9 + 1, up (up (up h 42 (h 0 9).toNat i) 43 (h 0 9).toNat q) 0 9 (h 0 9 + 1))
theorem c_see (ly : LX G) (w : wX h) (i q : Int) : Ca l G 1 mX3_see [vR 0, vI i, vI q] h (fun r h' => r = some (vI (sSee i q h).1) ∧ h' = (sSee i q h).2) := by
  obtain ⟨hN, ⟨ly1, ly8, ly16, ly23⟩, ltp, ⟨ls34, ls36, ls38, ls40⟩, ⟨xs0, xs15, xs30, xs33, xs42, xs43, xs44⟩, ⟨xl15, xl30, xl33, xl42, xl43, xl44⟩, ⟨xr0, xr1, xr2, xr3, xr4, xr5, xr6, xr7, xr8⟩, ⟨yr0, yr1⟩, ⟨zr0, zr1, zr2, zr3⟩⟩ := ly
  have xs1 : gs G 1 = 7 := ly1.2.1.1
  have xs8 : gs G 8 = 7 := ly8.2.1.1
  have xs16 : gs G 16 = 7 := ly16.2.1.1
  have xs23 : gs G 23 = 7 := ly23.2.1.1
  have xs31 : gs G 31 = 6 := ltp.2.1.1
  have xs34 : gs G 34 = 5 := ls34.2.1.1
  have xs36 : gs G 36 = 5 := ls36.2.1.1
  have xs38 : gs G 38 = 5 := ls38.2.1.1
  have xs40 : gs G 40 = 5 := ls40.2.1.1
  obtain ⟨⟨w1, w8, w16, w23⟩, wp, wsn, ws42, ws43, wk, ⟨wh34, wh36, wh38, wh40⟩, wt⟩ := w
  refine Ca.of (by decide) (Nat.le_of_ble_eq_true rfl) (fun hI hv hH => ?_)
  have J26 : ((0 ≤ i ∧ i < h 1 7) ∧ ((0 ≤ q ∧ q < 48) ∨ q = -4)) → Rr l G 1 mX3_see (fun r h' => r = some (vI (sSee i q h).1) ∧ h' = (sSee i q h).2) 26 [some (vR 0), some (vI i), some (vI q)] [] h := by
    intro hc
    unfold sSee
    rw [if_neg (fun z => z hc)]
    refine r_aload_n 27 dX3_see_26 rfl rfl ?_
    refine r_getI 30 dX3_see_27 rfl kf_3_73 rfl (by first | assumption | omega) (by assumption) ?_
    refine r_bipush 32 dX3_see_30 rfl rfl (by decide) ?_
    refine r_icmp_lt 38 35 dX3_see_32 (by decide) rfl (fun c_32 => ?_) (fun c_32 => ?_)
    rotate_left -- leaf: pc 38
    refine r_bipush 37 dX3_see_35 rfl rfl (by decide) ?_
    refine r_iret dX3_see_37 rfl ?_
    rotate_left -- leaf: return at pc 37
    · rw [if_neg (by omega)]
      have e1 : up h 42 (h 0 9).toNat i 0 9 = h 0 9 := up_k (by omega)
      have e2 : up (up h 42 (h 0 9).toNat i) 43 (h 0 9).toNat q 0 9 = h 0 9 := by rw [up_k (by omega), e1]
      refine r_aload_n 39 dX3_see_38 rfl rfl ?_
      refine r_getR 42 dX3_see_39 rfl kf_3_40 rfl (by first | assumption | omega) (by assumption) (by assumption) ?_
      refine r_aload_n 43 dX3_see_42 rfl rfl ?_
      refine r_getI 46 dX3_see_43 rfl kf_3_73 rfl (by first | assumption | omega) (by assumption) ?_
      refine r_iload_n 47 dX3_see_46 rfl rfl ?_
      refine r_iast 48 dX3_see_47 rfl (by first | assumption | omega) (by assumption) (by first | omega | (simp only [Int.toNat_natCast]; omega)) (by first | omega | (simp only [Int.toNat_natCast]; omega)) ?_
      refine r_aload_n 49 dX3_see_48 rfl rfl ?_
      refine r_getR 52 dX3_see_49 rfl kf_3_44 rfl (by first | assumption | omega) (by assumption) (by assumption) ?_
      refine r_aload_n 53 dX3_see_52 rfl rfl ?_
      refine r_getI 56 dX3_see_53 rfl kf_3_73 rfl (by first | assumption | omega) (by assumption) ?_
      rotate_left -- leaf: pc 56
      rw [e1]
      refine r_iload_n 57 dX3_see_56 rfl rfl ?_
      refine r_iast 58 dX3_see_57 rfl (by first | assumption | omega) (by assumption) (by first | omega | (simp only [Int.toNat_natCast]; omega)) (by first | omega | (simp only [Int.toNat_natCast]; omega)) ?_
      refine r_aload_n 59 dX3_see_58 rfl rfl ?_
      refine r_dup 60 dX3_see_59 rfl rfl ?_
      refine r_getI 63 dX3_see_60 rfl kf_3_73 rfl (by first | assumption | omega) (by assumption) ?_
      rotate_left -- leaf: pc 63
      rw [e2]
      refine r_iconst 64 dX3_see_63 rfl rfl ?_
      refine r_iadd 65 dX3_see_64 rfl (by first | exact w32_id (by omega) (by omega) | rfl) ?_
      refine r_putI 68 dX3_see_65 rfl kf_3_73 rfl rfl (Or.inl rfl) (by first | assumption | omega) (by assumption) ?_
      refine r_aload_n 69 dX3_see_68 rfl rfl ?_
      refine r_getI 72 dX3_see_69 rfl kf_3_73 rfl (by first | assumption | omega) (by assumption) ?_
      refine r_iret dX3_see_72 rfl ?_
      rotate_left -- leaf: return at pc 72
      exact ⟨by rw [up_s], rfl⟩
    · rw [if_pos c_32]
      exact ⟨rfl, rfl⟩
  refine r_aload_n 1 dX3_see_0 rfl rfl ?_
  refine r_getR 4 dX3_see_1 rfl kf_3_10 rfl (by first | assumption | omega) (by assumption) (by assumption) ?_
  refine r_iload_n 5 dX3_see_4 rfl rfl ?_
  rotate_left -- leaf: call at pc 5
  refine r_cv1 8 dX3_see_5 rfl kv_3_117 (by first | assumption | omega) (by assumption) rfl rfl (c_hasDeed ly1 i) ?_
  rintro r h' ⟨rfl, rfl⟩
  refine r_if_eq 24 11 dX3_see_8 (by decide) rfl (fun c_8 => ?_) (fun c_8 => ?_)
  refine r_iconst 25 dX3_see_24 rfl rfl ?_
  refine r_iret dX3_see_25 rfl ?_
  rotate_left -- leaf: return at pc 25
  refine r_iload_n 12 dX3_see_11 rfl rfl ?_
  rotate_left -- leaf: call at pc 12
  · have hm := z01_n.mp c_8
    unfold sSee
    rw [if_pos (fun z => hm z.1)]
    exact ⟨rfl, rfl⟩
  · have hm := z01_y.mp c_8
    refine r_cs1 15 dX3_see_12 rfl ks_3_143 rfl rfl (c_isQuarter q) ?_
    rintro r h'' ⟨rfl, rfl⟩
    refine r_if_ne 26 18 dX3_see_15 (by decide) rfl (fun c_15 => ?_) (fun c_15 => ?_)
    rotate_left -- leaf: pc 26
    refine r_iload_n 19 dX3_see_18 rfl rfl ?_
    refine r_bipush 21 dX3_see_19 rfl rfl (by decide) ?_
    refine r_icmp_eq 26 24 dX3_see_21 (by decide) rfl (fun c_21 => ?_) (fun c_21 => ?_)
    rotate_left -- leaf: pc 26
    refine r_iconst 25 dX3_see_24 rfl rfl ?_
    refine r_iret dX3_see_25 rfl ?_
    rotate_left -- leaf: return at pc 25
    · exact J26 ⟨hm, Or.inl (z01_y.mp c_15)⟩
    · exact J26 ⟨hm, Or.inr c_21⟩
    · have hq := z01_n.mp c_15
      unfold sSee
      rw [if_pos (fun z => by
        rcases z.2 with z | z
        · exact hq z
        · exact c_21 z)]
      exact ⟨rfl, rfl⟩
def sForget (n : Int) (h : zH) : Int × zH := if n < 0 ∨ h 0 9 < n then (-1, h) else (h 0 9, up h 0 9 n)
theorem c_forget (ly : LX G) (n : Int) : Ca l G 0 mX3_forget [vR 0, vI n] h (fun r h' => r = some (vI (sForget n h).1) ∧ h' = (sForget n h).2) := by
  obtain ⟨hN, ⟨ly1, ly8, ly16, ly23⟩, ltp, ⟨ls34, ls36, ls38, ls40⟩, ⟨xs0, xs15, xs30, xs33, xs42, xs43, xs44⟩, ⟨xl15, xl30, xl33, xl42, xl43, xl44⟩, ⟨xr0, xr1, xr2, xr3, xr4, xr5, xr6, xr7, xr8⟩, ⟨yr0, yr1⟩, ⟨zr0, zr1, zr2, zr3⟩⟩ := ly
  have xs1 : gs G 1 = 7 := ly1.2.1.1
  have xs8 : gs G 8 = 7 := ly8.2.1.1
  have xs16 : gs G 16 = 7 := ly16.2.1.1
  have xs23 : gs G 23 = 7 := ly23.2.1.1
  have xs31 : gs G 31 = 6 := ltp.2.1.1
  have xs34 : gs G 34 = 5 := ls34.2.1.1
  have xs36 : gs G 36 = 5 := ls36.2.1.1
  have xs38 : gs G 38 = 5 := ls38.2.1.1
  have xs40 : gs G 40 = 5 := ls40.2.1.1
  refine Ca.of (by decide) (Nat.le_of_ble_eq_true rfl) (fun hI hv hH => ?_)
  refine r_iload_n 1 dX3_forget_0 rfl rfl ?_
  refine r_if_lt 12 4 dX3_forget_1 (by decide) rfl (fun c_1 => ?_) (fun c_1 => ?_)
  refine r_iconst 13 dX3_forget_12 rfl rfl ?_
  refine r_iret dX3_forget_13 rfl ?_
  rotate_left -- leaf: return at pc 13
  refine r_iload_n 5 dX3_forget_4 rfl rfl ?_
  refine r_aload_n 6 dX3_forget_5 rfl rfl ?_
  refine r_getI 9 dX3_forget_6 rfl kf_3_73 rfl (by first | assumption | omega) (by assumption) ?_
  refine r_icmp_le 14 12 dX3_forget_9 (by decide) rfl (fun c_9 => ?_) (fun c_9 => ?_)
  refine r_aload_n 15 dX3_forget_14 rfl rfl ?_
  refine r_getI 18 dX3_forget_15 rfl kf_3_73 rfl (by first | assumption | omega) (by assumption) ?_
  refine r_istore_n 19 dX3_forget_18 rfl rfl rfl ?_
  refine r_aload_n 20 dX3_forget_19 rfl rfl ?_
  refine r_iload_n 21 dX3_forget_20 rfl rfl ?_
  refine r_putI 24 dX3_forget_21 rfl kf_3_73 rfl rfl (Or.inl rfl) (by first | assumption | omega) (by assumption) ?_
  refine r_iload_n 25 dX3_forget_24 rfl rfl ?_
  refine r_iret dX3_forget_25 rfl ?_
  rotate_left -- leaf: return at pc 25
  refine r_iconst 13 dX3_forget_12 rfl rfl ?_
  refine r_iret dX3_forget_13 rfl ?_
  rotate_left -- leaf: return at pc 13
  · unfold sForget
    rw [if_pos (Or.inl c_1)]
    exact ⟨rfl, rfl⟩
  · unfold sForget
    rw [if_neg (by omega)]
    exact ⟨rfl, rfl⟩
  · unfold sForget
    rw [if_pos (Or.inr c_9)]
    exact ⟨rfl, rfl⟩
def imP (k : Int) : Nat := if k = 0 then 16 else 23
def sKeep (k : Int) (h : zH) : Int × zH := if k < 0 ∨ 2 ≤ k then (-1, h) else (h 30 k.toNat, up (cpT h 1 (imP k)) 30 k.toNat 1)
theorem c_keep (ly : LX G) (w : wX h) (k : Int) : Ca l G 2 mX3_keep [vR 0, vI k] h (fun r h' => r = some (vI (sKeep k h).1) ∧ h' = (sKeep k h).2) := by
  obtain ⟨hN, ⟨ly1, ly8, ly16, ly23⟩, ltp, ⟨ls34, ls36, ls38, ls40⟩, ⟨xs0, xs15, xs30, xs33, xs42, xs43, xs44⟩, ⟨xl15, xl30, xl33, xl42, xl43, xl44⟩, ⟨xr0, xr1, xr2, xr3, xr4, xr5, xr6, xr7, xr8⟩, ⟨yr0, yr1⟩, ⟨zr0, zr1, zr2, zr3⟩⟩ := ly
  have xs1 : gs G 1 = 7 := ly1.2.1.1
  have xs8 : gs G 8 = 7 := ly8.2.1.1
  have xs16 : gs G 16 = 7 := ly16.2.1.1
  have xs23 : gs G 23 = 7 := ly23.2.1.1
  have xs31 : gs G 31 = 6 := ltp.2.1.1
  have xs34 : gs G 34 = 5 := ls34.2.1.1
  have xs36 : gs G 36 = 5 := ls36.2.1.1
  have xs38 : gs G 38 = 5 := ls38.2.1.1
  have xs40 : gs G 40 = 5 := ls40.2.1.1
  obtain ⟨⟨w1, w8, w16, w23⟩, wp, wsn, ws42, ws43, wk, ⟨wh34, wh36, wh38, wh40⟩, wt⟩ := w
  refine Ca.of (by decide) (Nat.le_of_ble_eq_true rfl) (fun hI hv hH => ?_)
  unfold sKeep
  refine r_iload_n 1 dX3_keep_0 rfl rfl ?_
  refine r_if_lt 9 4 dX3_keep_1 (by decide) rfl (fun c_1 => ?_) (fun c_1 => ?_)
  refine r_iconst 10 dX3_keep_9 rfl rfl ?_
  refine r_iret dX3_keep_10 rfl ?_
  rotate_left -- leaf: return at pc 10
  refine r_iload_n 5 dX3_keep_4 rfl rfl ?_
  refine r_iconst 6 dX3_keep_5 rfl rfl ?_
  refine r_icmp_lt 11 9 dX3_keep_6 (by decide) rfl (fun c_6 => ?_) (fun c_6 => ?_)
  rotate_left -- leaf: pc 11
  refine r_iconst 10 dX3_keep_9 rfl rfl ?_
  refine r_iret dX3_keep_10 rfl ?_
  rotate_left -- leaf: return at pc 10
  · rw [if_pos (Or.inl c_1)]
    exact ⟨rfl, rfl⟩
  · rw [if_neg (by omega)]
    have hk : k = 0 ∨ k = 1 := by omega
    have wk0 := wk k.toNat
    rcases hk with rfl | rfl
    · refine r_aload_n 12 dX3_keep_11 rfl rfl ?_
      refine r_getR 15 dX3_keep_12 rfl kf_3_23 rfl (by first | assumption | omega) (by assumption) (by assumption) ?_
      refine r_iload_n 16 dX3_keep_15 rfl rfl ?_
      first | refine r_bald 17 dX3_keep_16 rfl (by first | assumption | omega) (by assumption) (by first | omega | (simp only [Int.toNat_natCast]; omega)) (by first | omega | (simp only [Int.toNat_natCast]; omega)) ?_ | refine r_zald 17 dX3_keep_16 rfl (by first | assumption | omega) (by assumption) (by first | omega | (simp only [Int.toNat_natCast]; omega)) (by first | omega | (simp only [Int.toNat_natCast]; omega)) ?_
      refine r_if_eq 24 20 dX3_keep_17 (by decide) rfl (fun c_17 => ?_) (fun c_17 => ?_)
      refine r_iconst 25 dX3_keep_24 rfl rfl ?_
      refine r_istore_n 26 dX3_keep_25 rfl rfl rfl ?_
      refine r_aload_n 27 dX3_keep_26 rfl rfl ?_
      refine r_getR 30 dX3_keep_27 rfl kf_3_19 rfl (by first | assumption | omega) (by assumption) (by assumption) ?_
      refine r_iload_n 31 dX3_keep_30 rfl rfl ?_
      refine r_aald 32 dX3_keep_31 rfl (by first | assumption | omega) (by first | exact Or.inl (by assumption) | exact Or.inr (by assumption)) (by first | omega | (simp only [Int.toNat_natCast]; omega)) (by first | omega | (simp only [Int.toNat_natCast]; omega)) (by first | assumption | rfl) ?_
      refine r_aload_n 33 dX3_keep_32 rfl rfl ?_
      refine r_getR 36 dX3_keep_33 rfl kf_3_10 rfl (by first | assumption | omega) (by assumption) (by assumption) ?_
      rotate_left -- leaf: call at pc 36
      refine r_iconst 21 dX3_keep_20 rfl rfl ?_
      refine r_goto 25 dX3_keep_21 (by decide) ?_
      refine r_istore_n 26 dX3_keep_25 rfl rfl rfl ?_
      refine r_aload_n 27 dX3_keep_26 rfl rfl ?_
      refine r_getR 30 dX3_keep_27 rfl kf_3_19 rfl (by first | assumption | omega) (by assumption) (by assumption) ?_
      refine r_iload_n 31 dX3_keep_30 rfl rfl ?_
      refine r_aald 32 dX3_keep_31 rfl (by first | assumption | omega) (by first | exact Or.inl (by assumption) | exact Or.inr (by assumption)) (by first | omega | (simp only [Int.toNat_natCast]; omega)) (by first | omega | (simp only [Int.toNat_natCast]; omega)) (by first | assumption | rfl) ?_
      refine r_aload_n 33 dX3_keep_32 rfl rfl ?_
      refine r_getR 36 dX3_keep_33 rfl kf_3_10 rfl (by first | assumption | omega) (by assumption) (by assumption) ?_
      rotate_left -- leaf: call at pc 36
      · refine r_cv1 39 dX3_keep_36 rfl kv_3_69 (by first | assumption | omega) (by assumption) rfl rfl (c_copyOf ly16 ly1 (by omega)) ?_
        rintro r h' ⟨rfl, rfl⟩
        refine r_aload_n 40 dX3_keep_39 rfl rfl ?_
        refine r_getR 43 dX3_keep_40 rfl kf_3_23 rfl (by first | assumption | omega) (by assumption) (by assumption) ?_
        refine r_iload_n 44 dX3_keep_43 rfl rfl ?_
        refine r_iconst 45 dX3_keep_44 rfl rfl ?_
        first | refine r_bast 46 dX3_keep_45 rfl (by first | assumption | omega) (by assumption) (by first | omega | (simp only [Int.toNat_natCast]; omega)) (by first | omega | (simp only [Int.toNat_natCast]; omega)) (by first | omega | (simp only [Int.toNat_natCast]; omega)) (by first | omega | (simp only [Int.toNat_natCast]; omega)) ?_ | refine r_zast 46 dX3_keep_45 rfl (by first | assumption | omega) (by assumption) (by first | omega | (simp only [Int.toNat_natCast]; omega)) (by first | omega | (simp only [Int.toNat_natCast]; omega)) (by first | exact Or.inl rfl | exact Or.inr rfl | omega) ?_
        refine r_iload_n 47 dX3_keep_46 rfl rfl ?_
        refine r_iret dX3_keep_47 rfl ?_
        rotate_left -- leaf: return at pc 47
        exact ⟨congrArg (fun z => some (vI z)) c_17.symm, rfl⟩
      · refine r_cv1 39 dX3_keep_36 rfl kv_3_69 (by first | assumption | omega) (by assumption) rfl rfl (c_copyOf ly16 ly1 (by omega)) ?_
        rintro r h' ⟨rfl, rfl⟩
        refine r_aload_n 40 dX3_keep_39 rfl rfl ?_
        refine r_getR 43 dX3_keep_40 rfl kf_3_23 rfl (by first | assumption | omega) (by assumption) (by assumption) ?_
        refine r_iload_n 44 dX3_keep_43 rfl rfl ?_
        refine r_iconst 45 dX3_keep_44 rfl rfl ?_
        first | refine r_bast 46 dX3_keep_45 rfl (by first | assumption | omega) (by assumption) (by first | omega | (simp only [Int.toNat_natCast]; omega)) (by first | omega | (simp only [Int.toNat_natCast]; omega)) (by first | omega | (simp only [Int.toNat_natCast]; omega)) (by first | omega | (simp only [Int.toNat_natCast]; omega)) ?_ | refine r_zast 46 dX3_keep_45 rfl (by first | assumption | omega) (by assumption) (by first | omega | (simp only [Int.toNat_natCast]; omega)) (by first | omega | (simp only [Int.toNat_natCast]; omega)) (by first | exact Or.inl rfl | exact Or.inr rfl | omega) ?_
        refine r_iload_n 47 dX3_keep_46 rfl rfl ?_
        refine r_iret dX3_keep_47 rfl ?_
        rotate_left -- leaf: return at pc 47
        exact ⟨congrArg (fun z => some (vI z)) (wk0.resolve_left c_17).symm, rfl⟩
    · refine r_aload_n 12 dX3_keep_11 rfl rfl ?_
      refine r_getR 15 dX3_keep_12 rfl kf_3_23 rfl (by first | assumption | omega) (by assumption) (by assumption) ?_
      refine r_iload_n 16 dX3_keep_15 rfl rfl ?_
      first | refine r_bald 17 dX3_keep_16 rfl (by first | assumption | omega) (by assumption) (by first | omega | (simp only [Int.toNat_natCast]; omega)) (by first | omega | (simp only [Int.toNat_natCast]; omega)) ?_ | refine r_zald 17 dX3_keep_16 rfl (by first | assumption | omega) (by assumption) (by first | omega | (simp only [Int.toNat_natCast]; omega)) (by first | omega | (simp only [Int.toNat_natCast]; omega)) ?_
      refine r_if_eq 24 20 dX3_keep_17 (by decide) rfl (fun c_17 => ?_) (fun c_17 => ?_)
      refine r_iconst 25 dX3_keep_24 rfl rfl ?_
      refine r_istore_n 26 dX3_keep_25 rfl rfl rfl ?_
      refine r_aload_n 27 dX3_keep_26 rfl rfl ?_
      refine r_getR 30 dX3_keep_27 rfl kf_3_19 rfl (by first | assumption | omega) (by assumption) (by assumption) ?_
      refine r_iload_n 31 dX3_keep_30 rfl rfl ?_
      refine r_aald 32 dX3_keep_31 rfl (by first | assumption | omega) (by first | exact Or.inl (by assumption) | exact Or.inr (by assumption)) (by first | omega | (simp only [Int.toNat_natCast]; omega)) (by first | omega | (simp only [Int.toNat_natCast]; omega)) (by first | assumption | rfl) ?_
      refine r_aload_n 33 dX3_keep_32 rfl rfl ?_
      refine r_getR 36 dX3_keep_33 rfl kf_3_10 rfl (by first | assumption | omega) (by assumption) (by assumption) ?_
      rotate_left -- leaf: call at pc 36
      refine r_iconst 21 dX3_keep_20 rfl rfl ?_
      refine r_goto 25 dX3_keep_21 (by decide) ?_
      refine r_istore_n 26 dX3_keep_25 rfl rfl rfl ?_
      refine r_aload_n 27 dX3_keep_26 rfl rfl ?_
      refine r_getR 30 dX3_keep_27 rfl kf_3_19 rfl (by first | assumption | omega) (by assumption) (by assumption) ?_
      refine r_iload_n 31 dX3_keep_30 rfl rfl ?_
      refine r_aald 32 dX3_keep_31 rfl (by first | assumption | omega) (by first | exact Or.inl (by assumption) | exact Or.inr (by assumption)) (by first | omega | (simp only [Int.toNat_natCast]; omega)) (by first | omega | (simp only [Int.toNat_natCast]; omega)) (by first | assumption | rfl) ?_
      refine r_aload_n 33 dX3_keep_32 rfl rfl ?_
      refine r_getR 36 dX3_keep_33 rfl kf_3_10 rfl (by first | assumption | omega) (by assumption) (by assumption) ?_
      rotate_left -- leaf: call at pc 36
      · refine r_cv1 39 dX3_keep_36 rfl kv_3_69 (by first | assumption | omega) (by assumption) rfl rfl (c_copyOf ly23 ly1 (by omega)) ?_
        rintro r h' ⟨rfl, rfl⟩
        refine r_aload_n 40 dX3_keep_39 rfl rfl ?_
        refine r_getR 43 dX3_keep_40 rfl kf_3_23 rfl (by first | assumption | omega) (by assumption) (by assumption) ?_
        refine r_iload_n 44 dX3_keep_43 rfl rfl ?_
        refine r_iconst 45 dX3_keep_44 rfl rfl ?_
        first | refine r_bast 46 dX3_keep_45 rfl (by first | assumption | omega) (by assumption) (by first | omega | (simp only [Int.toNat_natCast]; omega)) (by first | omega | (simp only [Int.toNat_natCast]; omega)) (by first | omega | (simp only [Int.toNat_natCast]; omega)) (by first | omega | (simp only [Int.toNat_natCast]; omega)) ?_ | refine r_zast 46 dX3_keep_45 rfl (by first | assumption | omega) (by assumption) (by first | omega | (simp only [Int.toNat_natCast]; omega)) (by first | omega | (simp only [Int.toNat_natCast]; omega)) (by first | exact Or.inl rfl | exact Or.inr rfl | omega) ?_
        refine r_iload_n 47 dX3_keep_46 rfl rfl ?_
        refine r_iret dX3_keep_47 rfl ?_
        rotate_left -- leaf: return at pc 47
        exact ⟨congrArg (fun z => some (vI z)) c_17.symm, rfl⟩
      · refine r_cv1 39 dX3_keep_36 rfl kv_3_69 (by first | assumption | omega) (by assumption) rfl rfl (c_copyOf ly23 ly1 (by omega)) ?_
        rintro r h' ⟨rfl, rfl⟩
        refine r_aload_n 40 dX3_keep_39 rfl rfl ?_
        refine r_getR 43 dX3_keep_40 rfl kf_3_23 rfl (by first | assumption | omega) (by assumption) (by assumption) ?_
        refine r_iload_n 44 dX3_keep_43 rfl rfl ?_
        refine r_iconst 45 dX3_keep_44 rfl rfl ?_
        first | refine r_bast 46 dX3_keep_45 rfl (by first | assumption | omega) (by assumption) (by first | omega | (simp only [Int.toNat_natCast]; omega)) (by first | omega | (simp only [Int.toNat_natCast]; omega)) (by first | omega | (simp only [Int.toNat_natCast]; omega)) (by first | omega | (simp only [Int.toNat_natCast]; omega)) ?_ | refine r_zast 46 dX3_keep_45 rfl (by first | assumption | omega) (by assumption) (by first | omega | (simp only [Int.toNat_natCast]; omega)) (by first | omega | (simp only [Int.toNat_natCast]; omega)) (by first | exact Or.inl rfl | exact Or.inr rfl | omega) ?_
        refine r_iload_n 47 dX3_keep_46 rfl rfl ?_
        refine r_iret dX3_keep_47 rfl ?_
        rotate_left -- leaf: return at pc 47
        exact ⟨congrArg (fun z => some (vI z)) (wk0.resolve_left c_17).symm, rfl⟩
  · rw [if_pos (Or.inr c_6)]
    exact ⟨rfl, rfl⟩
def sBack (k : Int) (h : zH) : Int × zH := if k < 0 ∨ 2 ≤ k then (-1, h) else if h 30 k.toNat = 0 then (-2, h) else (hmA (cpT h (imP k) 1) 1, cpT h (imP k) 1)
theorem c_back (ly : LX G) (w : wX h) (k : Int) : Ca l G 5 mX3_back [vR 0, vI k] h (fun r h' => r = some (vI (sBack k h).1) ∧ h' = (sBack k h).2) := by
  obtain ⟨hN, ⟨ly1, ly8, ly16, ly23⟩, ltp, ⟨ls34, ls36, ls38, ls40⟩, ⟨xs0, xs15, xs30, xs33, xs42, xs43, xs44⟩, ⟨xl15, xl30, xl33, xl42, xl43, xl44⟩, ⟨xr0, xr1, xr2, xr3, xr4, xr5, xr6, xr7, xr8⟩, ⟨yr0, yr1⟩, ⟨zr0, zr1, zr2, zr3⟩⟩ := ly
  have xs1 : gs G 1 = 7 := ly1.2.1.1
  have xs8 : gs G 8 = 7 := ly8.2.1.1
  have xs16 : gs G 16 = 7 := ly16.2.1.1
  have xs23 : gs G 23 = 7 := ly23.2.1.1
  have xs31 : gs G 31 = 6 := ltp.2.1.1
  have xs34 : gs G 34 = 5 := ls34.2.1.1
  have xs36 : gs G 36 = 5 := ls36.2.1.1
  have xs38 : gs G 38 = 5 := ls38.2.1.1
  have xs40 : gs G 40 = 5 := ls40.2.1.1
  obtain ⟨⟨w1, w8, w16, w23⟩, wp, wsn, ws42, ws43, wk, ⟨wh34, wh36, wh38, wh40⟩, wt⟩ := w
  refine Ca.of (by decide) (Nat.le_of_ble_eq_true rfl) (fun hI hv hH => ?_)
  unfold sBack
  refine r_iload_n 1 dX3_back_0 rfl rfl ?_
  refine r_if_lt 9 4 dX3_back_1 (by decide) rfl (fun c_1 => ?_) (fun c_1 => ?_)
  refine r_iconst 10 dX3_back_9 rfl rfl ?_
  refine r_iret dX3_back_10 rfl ?_
  rotate_left -- leaf: return at pc 10
  refine r_iload_n 5 dX3_back_4 rfl rfl ?_
  refine r_iconst 6 dX3_back_5 rfl rfl ?_
  refine r_icmp_lt 11 9 dX3_back_6 (by decide) rfl (fun c_6 => ?_) (fun c_6 => ?_)
  rotate_left -- leaf: pc 11
  refine r_iconst 10 dX3_back_9 rfl rfl ?_
  refine r_iret dX3_back_10 rfl ?_
  rotate_left -- leaf: return at pc 10
  · rw [if_pos (Or.inl c_1)]
    exact ⟨rfl, rfl⟩
  · rw [if_neg (by omega)]
    have hk : k = 0 ∨ k = 1 := by omega
    rcases hk with rfl | rfl
    · refine r_aload_n 12 dX3_back_11 rfl rfl ?_
      refine r_getR 15 dX3_back_12 rfl kf_3_23 rfl (by first | assumption | omega) (by assumption) (by assumption) ?_
      refine r_iload_n 16 dX3_back_15 rfl rfl ?_
      first | refine r_bald 17 dX3_back_16 rfl (by first | assumption | omega) (by assumption) (by first | omega | (simp only [Int.toNat_natCast]; omega)) (by first | omega | (simp only [Int.toNat_natCast]; omega)) ?_ | refine r_zald 17 dX3_back_16 rfl (by first | assumption | omega) (by assumption) (by first | omega | (simp only [Int.toNat_natCast]; omega)) (by first | omega | (simp only [Int.toNat_natCast]; omega)) ?_
      refine r_if_ne 23 20 dX3_back_17 (by decide) rfl (fun c_17 => ?_) (fun c_17 => ?_)
      refine r_aload_n 24 dX3_back_23 rfl rfl ?_
      refine r_getR 27 dX3_back_24 rfl kf_3_10 rfl (by first | assumption | omega) (by assumption) (by assumption) ?_
      refine r_aload_n 28 dX3_back_27 rfl rfl ?_
      refine r_getR 31 dX3_back_28 rfl kf_3_19 rfl (by first | assumption | omega) (by assumption) (by assumption) ?_
      refine r_iload_n 32 dX3_back_31 rfl rfl ?_
      refine r_aald 33 dX3_back_32 rfl (by first | assumption | omega) (by first | exact Or.inl (by assumption) | exact Or.inr (by assumption)) (by first | omega | (simp only [Int.toNat_natCast]; omega)) (by first | omega | (simp only [Int.toNat_natCast]; omega)) (by first | assumption | rfl) ?_
      rotate_left -- leaf: call at pc 33
      refine r_bipush 22 dX3_back_20 rfl rfl (by decide) ?_
      refine r_iret dX3_back_22 rfl ?_
      rotate_left -- leaf: return at pc 22
      · rw [if_neg c_17]
        refine r_cv1 36 dX3_back_33 rfl kv_3_69 (by first | assumption | omega) (by assumption) rfl rfl (c_copyOf ly1 ly16 (by omega)) ?_
        rintro r h' ⟨rfl, rfl⟩
        refine r_aload_n 37 dX3_back_36 rfl rfl ?_
        refine r_getR 40 dX3_back_37 rfl kf_3_10 rfl (by first | assumption | omega) (by assumption) (by assumption) ?_
        rotate_left -- leaf: call at pc 40
        refine r_cv0 43 dX3_back_40 rfl kv_3_92 (by first | assumption | omega) (by assumption) rfl rfl (c_harm ly1 (wT_cpT w16 w1)) ?_
        rintro r h' ⟨rfl, rfl⟩
        refine r_iret dX3_back_43 rfl ?_
        rotate_left -- leaf: return at pc 43
        exact ⟨rfl, rfl⟩
      · rw [if_pos c_17]
        exact ⟨rfl, rfl⟩
    · refine r_aload_n 12 dX3_back_11 rfl rfl ?_
      refine r_getR 15 dX3_back_12 rfl kf_3_23 rfl (by first | assumption | omega) (by assumption) (by assumption) ?_
      refine r_iload_n 16 dX3_back_15 rfl rfl ?_
      first | refine r_bald 17 dX3_back_16 rfl (by first | assumption | omega) (by assumption) (by first | omega | (simp only [Int.toNat_natCast]; omega)) (by first | omega | (simp only [Int.toNat_natCast]; omega)) ?_ | refine r_zald 17 dX3_back_16 rfl (by first | assumption | omega) (by assumption) (by first | omega | (simp only [Int.toNat_natCast]; omega)) (by first | omega | (simp only [Int.toNat_natCast]; omega)) ?_
      refine r_if_ne 23 20 dX3_back_17 (by decide) rfl (fun c_17 => ?_) (fun c_17 => ?_)
      refine r_aload_n 24 dX3_back_23 rfl rfl ?_
      refine r_getR 27 dX3_back_24 rfl kf_3_10 rfl (by first | assumption | omega) (by assumption) (by assumption) ?_
      refine r_aload_n 28 dX3_back_27 rfl rfl ?_
      refine r_getR 31 dX3_back_28 rfl kf_3_19 rfl (by first | assumption | omega) (by assumption) (by assumption) ?_
      refine r_iload_n 32 dX3_back_31 rfl rfl ?_
      refine r_aald 33 dX3_back_32 rfl (by first | assumption | omega) (by first | exact Or.inl (by assumption) | exact Or.inr (by assumption)) (by first | omega | (simp only [Int.toNat_natCast]; omega)) (by first | omega | (simp only [Int.toNat_natCast]; omega)) (by first | assumption | rfl) ?_
      rotate_left -- leaf: call at pc 33
      refine r_bipush 22 dX3_back_20 rfl rfl (by decide) ?_
      refine r_iret dX3_back_22 rfl ?_
      rotate_left -- leaf: return at pc 22
      · rw [if_neg c_17]
        refine r_cv1 36 dX3_back_33 rfl kv_3_69 (by first | assumption | omega) (by assumption) rfl rfl (c_copyOf ly1 ly23 (by omega)) ?_
        rintro r h' ⟨rfl, rfl⟩
        refine r_aload_n 37 dX3_back_36 rfl rfl ?_
        refine r_getR 40 dX3_back_37 rfl kf_3_10 rfl (by first | assumption | omega) (by assumption) (by assumption) ?_
        rotate_left -- leaf: call at pc 40
        refine r_cv0 43 dX3_back_40 rfl kv_3_92 (by first | assumption | omega) (by assumption) rfl rfl (c_harm ly1 (wT_cpT w23 w1)) ?_
        rintro r h' ⟨rfl, rfl⟩
        refine r_iret dX3_back_43 rfl ?_
        rotate_left -- leaf: return at pc 43
        exact ⟨rfl, rfl⟩
      · rw [if_pos c_17]
        exact ⟨rfl, rfl⟩
  · rw [if_pos (Or.inr c_6)]
    exact ⟨rfl, rfl⟩
def shP (k : Int) : Nat := 34 + 2 * k.toNat
def sSheet (k a n : Int) (h : zH) : Int × zH := if ¬ (0 ≤ k ∧ k < 4) ∨ ¬ (0 ≤ a ∧ a < 3) ∨ 40 < n then (-1, h) else if n < 0 then (-14, h) else (1, setB (up (up h (shP k) 1 a) (shP k) 2 n) (shP k + 1) 40 (fun _ => 0))
theorem c_sheet (ly : LX G) (k a n : Int) : Ca l G 1 mX3_sheet [vR 0, vI k, vI a, vI n] h (fun r h' => r = some (vI (sSheet k a n h).1) ∧ h' = (sSheet k a n h).2) := by
  obtain ⟨hN, ⟨ly1, ly8, ly16, ly23⟩, ltp, ⟨ls34, ls36, ls38, ls40⟩, ⟨xs0, xs15, xs30, xs33, xs42, xs43, xs44⟩, ⟨xl15, xl30, xl33, xl42, xl43, xl44⟩, ⟨xr0, xr1, xr2, xr3, xr4, xr5, xr6, xr7, xr8⟩, ⟨yr0, yr1⟩, ⟨zr0, zr1, zr2, zr3⟩⟩ := ly
  have xs1 : gs G 1 = 7 := ly1.2.1.1
  have xs8 : gs G 8 = 7 := ly8.2.1.1
  have xs16 : gs G 16 = 7 := ly16.2.1.1
  have xs23 : gs G 23 = 7 := ly23.2.1.1
  have xs31 : gs G 31 = 6 := ltp.2.1.1
  have xs34 : gs G 34 = 5 := ls34.2.1.1
  have xs36 : gs G 36 = 5 := ls36.2.1.1
  have xs38 : gs G 38 = 5 := ls38.2.1.1
  have xs40 : gs G 40 = 5 := ls40.2.1.1
  refine Ca.of (by decide) (Nat.le_of_ble_eq_true rfl) (fun hI hv hH => ?_)
  unfold sSheet
  refine r_iload_n 1 dX3_sheet_0 rfl rfl ?_
  rotate_left -- leaf: call at pc 1
  refine r_cs1 4 dX3_sheet_1 rfl ks_3_240 rfl rfl (c_isSheet k) ?_
  rintro r h' ⟨rfl, rfl⟩
  refine r_if_eq 20 7 dX3_sheet_4 (by decide) rfl (fun c_4 => ?_) (fun c_4 => ?_)
  refine r_iconst 21 dX3_sheet_20 rfl rfl ?_
  refine r_iret dX3_sheet_21 rfl ?_
  rotate_left -- leaf: return at pc 21
  refine r_iload_n 8 dX3_sheet_7 rfl rfl ?_
  rotate_left -- leaf: call at pc 8
  · rw [if_pos (Or.inl (z01_n.mp c_4))]
    exact ⟨rfl, rfl⟩
  · have hk := z01_y.mp c_4
    refine r_cs1 11 dX3_sheet_8 rfl ks_3_243 rfl rfl (c_isLane a) ?_
    rintro r h'' ⟨rfl, rfl⟩
    refine r_if_eq 20 14 dX3_sheet_11 (by decide) rfl (fun c_11 => ?_) (fun c_11 => ?_)
    refine r_iconst 21 dX3_sheet_20 rfl rfl ?_
    refine r_iret dX3_sheet_21 rfl ?_
    rotate_left -- leaf: return at pc 21
    refine r_iload_n 15 dX3_sheet_14 rfl rfl ?_
    refine r_bipush 17 dX3_sheet_15 rfl rfl (by decide) ?_
    refine r_icmp_le 22 20 dX3_sheet_17 (by decide) rfl (fun c_17 => ?_) (fun c_17 => ?_)
    refine r_iload_n 23 dX3_sheet_22 rfl rfl ?_
    refine r_if_ge 29 26 dX3_sheet_23 (by decide) rfl (fun c_23 => ?_) (fun c_23 => ?_)
    rotate_left -- leaf: pc 29
    refine r_bipush 28 dX3_sheet_26 rfl rfl (by decide) ?_
    refine r_iret dX3_sheet_28 rfl ?_
    rotate_left -- leaf: return at pc 28
    refine r_iconst 21 dX3_sheet_20 rfl rfl ?_
    refine r_iret dX3_sheet_21 rfl ?_
    rotate_left -- leaf: return at pc 21
    · rw [if_pos (Or.inr (Or.inl (z01_n.mp c_11)))]
      exact ⟨rfl, rfl⟩
    · have ha := z01_y.mp c_11
      rw [if_neg (by omega), if_neg (by omega)]
      have hk4 : k = 0 ∨ k = 1 ∨ k = 2 ∨ k = 3 := by omega
      rcases hk4 with rfl | rfl | rfl | rfl
      · refine r_aload_n 30 dX3_sheet_29 rfl rfl ?_
        refine r_getR 33 dX3_sheet_30 rfl kf_3_36 rfl (by first | assumption | omega) (by assumption) (by assumption) ?_
        refine r_iload_n 34 dX3_sheet_33 rfl rfl ?_
        refine r_aald 35 dX3_sheet_34 rfl (by first | assumption | omega) (by first | exact Or.inl (by assumption) | exact Or.inr (by assumption)) (by first | omega | (simp only [Int.toNat_natCast]; omega)) (by first | omega | (simp only [Int.toNat_natCast]; omega)) (by first | assumption | rfl) ?_
        refine r_iload_n 36 dX3_sheet_35 rfl rfl ?_
        refine r_iload_n 37 dX3_sheet_36 rfl rfl ?_
        rotate_left -- leaf: call at pc 37
        refine r_cv2 40 dX3_sheet_37 rfl kv_3_246 (by first | assumption | omega) (by assumption) rfl rfl (c_renew ls34 a n) ?_
        rintro r h' ⟨rfl, rfl⟩
        refine r_iconst 41 dX3_sheet_40 rfl rfl ?_
        refine r_iret dX3_sheet_41 rfl ?_
        rotate_left -- leaf: return at pc 41
        exact ⟨rfl, rfl⟩
      · refine r_aload_n 30 dX3_sheet_29 rfl rfl ?_
        refine r_getR 33 dX3_sheet_30 rfl kf_3_36 rfl (by first | assumption | omega) (by assumption) (by assumption) ?_
        refine r_iload_n 34 dX3_sheet_33 rfl rfl ?_
        refine r_aald 35 dX3_sheet_34 rfl (by first | assumption | omega) (by first | exact Or.inl (by assumption) | exact Or.inr (by assumption)) (by first | omega | (simp only [Int.toNat_natCast]; omega)) (by first | omega | (simp only [Int.toNat_natCast]; omega)) (by first | assumption | rfl) ?_
        refine r_iload_n 36 dX3_sheet_35 rfl rfl ?_
        refine r_iload_n 37 dX3_sheet_36 rfl rfl ?_
        rotate_left -- leaf: call at pc 37
        refine r_cv2 40 dX3_sheet_37 rfl kv_3_246 (by first | assumption | omega) (by assumption) rfl rfl (c_renew ls36 a n) ?_
        rintro r h' ⟨rfl, rfl⟩
        refine r_iconst 41 dX3_sheet_40 rfl rfl ?_
        refine r_iret dX3_sheet_41 rfl ?_
        rotate_left -- leaf: return at pc 41
        exact ⟨rfl, rfl⟩
      · refine r_aload_n 30 dX3_sheet_29 rfl rfl ?_
        refine r_getR 33 dX3_sheet_30 rfl kf_3_36 rfl (by first | assumption | omega) (by assumption) (by assumption) ?_
        refine r_iload_n 34 dX3_sheet_33 rfl rfl ?_
        refine r_aald 35 dX3_sheet_34 rfl (by first | assumption | omega) (by first | exact Or.inl (by assumption) | exact Or.inr (by assumption)) (by first | omega | (simp only [Int.toNat_natCast]; omega)) (by first | omega | (simp only [Int.toNat_natCast]; omega)) (by first | assumption | rfl) ?_
        refine r_iload_n 36 dX3_sheet_35 rfl rfl ?_
        refine r_iload_n 37 dX3_sheet_36 rfl rfl ?_
        rotate_left -- leaf: call at pc 37
        refine r_cv2 40 dX3_sheet_37 rfl kv_3_246 (by first | assumption | omega) (by assumption) rfl rfl (c_renew ls38 a n) ?_
        rintro r h' ⟨rfl, rfl⟩
        refine r_iconst 41 dX3_sheet_40 rfl rfl ?_
        refine r_iret dX3_sheet_41 rfl ?_
        rotate_left -- leaf: return at pc 41
        exact ⟨rfl, rfl⟩
      · refine r_aload_n 30 dX3_sheet_29 rfl rfl ?_
        refine r_getR 33 dX3_sheet_30 rfl kf_3_36 rfl (by first | assumption | omega) (by assumption) (by assumption) ?_
        refine r_iload_n 34 dX3_sheet_33 rfl rfl ?_
        refine r_aald 35 dX3_sheet_34 rfl (by first | assumption | omega) (by first | exact Or.inl (by assumption) | exact Or.inr (by assumption)) (by first | omega | (simp only [Int.toNat_natCast]; omega)) (by first | omega | (simp only [Int.toNat_natCast]; omega)) (by first | assumption | rfl) ?_
        refine r_iload_n 36 dX3_sheet_35 rfl rfl ?_
        refine r_iload_n 37 dX3_sheet_36 rfl rfl ?_
        rotate_left -- leaf: call at pc 37
        refine r_cv2 40 dX3_sheet_37 rfl kv_3_246 (by first | assumption | omega) (by assumption) rfl rfl (c_renew ls40 a n) ?_
        rintro r h' ⟨rfl, rfl⟩
        refine r_iconst 41 dX3_sheet_40 rfl rfl ?_
        refine r_iret dX3_sheet_41 rfl ?_
        rotate_left -- leaf: return at pc 41
        exact ⟨rfl, rfl⟩
    · have ha := z01_y.mp c_11
      rw [if_neg (by omega), if_pos c_23]
      exact ⟨rfl, rfl⟩
    · rw [if_pos (Or.inr (Or.inr c_17))]
      exact ⟨rfl, rfl⟩
def sLay (k i v : Int) (h : zH) : Int × zH := if ¬ (0 ≤ k ∧ k < 4) then (-1, h) else if ¬ rfuF (h (shP k) 1) (h (shP k) 2) (h (shP k) 1) i = 0 then (-10 - rfuF (h (shP k) 1) (h (shP k) 2) (h (shP k) 1) i, h) else (1, up h (shP k + 1) i.toNat (narF (h (shP k) 1) v))

theorem rfuF_0 {lane size asl i : Int} (h : rfuF lane size asl i = 0) : ¬ lane = -1 ∧ lane = asl ∧ 0 ≤ i ∧ i < size := by
  unfold rfuF at h
  by_cases h1 : lane = -1
  · rw [if_pos h1] at h; omega
  · rw [if_neg h1] at h
    by_cases h2 : lane = asl
    · rw [if_neg (fun q => q h2)] at h
      by_cases h3 : i < 0 ∨ size ≤ i
      · rw [if_pos h3] at h; omega
      · exact ⟨h1, h2, by omega, by omega⟩
    · rw [if_pos h2] at h; omega
theorem c_lay (ly : LX G) (w : wX h) (k i v : Int) : Ca l G 1 mX3_lay [vR 0, vI k, vI i, vI v] h (fun r h' => r = some (vI (sLay k i v h).1) ∧ h' = (sLay k i v h).2) := by
  obtain ⟨hN, ⟨ly1, ly8, ly16, ly23⟩, ltp, ⟨ls34, ls36, ls38, ls40⟩, ⟨xs0, xs15, xs30, xs33, xs42, xs43, xs44⟩, ⟨xl15, xl30, xl33, xl42, xl43, xl44⟩, ⟨xr0, xr1, xr2, xr3, xr4, xr5, xr6, xr7, xr8⟩, ⟨yr0, yr1⟩, ⟨zr0, zr1, zr2, zr3⟩⟩ := ly
  have xs1 : gs G 1 = 7 := ly1.2.1.1
  have xs8 : gs G 8 = 7 := ly8.2.1.1
  have xs16 : gs G 16 = 7 := ly16.2.1.1
  have xs23 : gs G 23 = 7 := ly23.2.1.1
  have xs31 : gs G 31 = 6 := ltp.2.1.1
  have xs34 : gs G 34 = 5 := ls34.2.1.1
  have xs36 : gs G 36 = 5 := ls36.2.1.1
  have xs38 : gs G 38 = 5 := ls38.2.1.1
  have xs40 : gs G 40 = 5 := ls40.2.1.1
  obtain ⟨⟨w1, w8, w16, w23⟩, wp, wsn, ws42, ws43, wk, ⟨wh34, wh36, wh38, wh40⟩, wt⟩ := w
  refine Ca.of (by decide) (Nat.le_of_ble_eq_true rfl) (fun hI hv hH => ?_)
  unfold sLay
  refine r_iload_n 1 dX3_lay_0 rfl rfl ?_
  rotate_left -- leaf: call at pc 1
  refine r_cs1 4 dX3_lay_1 rfl ks_3_240 rfl rfl (c_isSheet k) ?_
  rintro r h' ⟨rfl, rfl⟩
  refine r_if_ne 9 7 dX3_lay_4 (by decide) rfl (fun c_4 => ?_) (fun c_4 => ?_)
  rotate_left -- leaf: pc 9
  refine r_iconst 8 dX3_lay_7 rfl rfl ?_
  refine r_iret dX3_lay_8 rfl ?_
  rotate_left -- leaf: return at pc 8
  · have hk := z01_y.mp c_4
    rw [if_neg (fun z => z hk)]
    have hk4 : k = 0 ∨ k = 1 ∨ k = 2 ∨ k = 3 := by omega
    rcases hk4 with rfl | rfl | rfl | rfl
    · rw [show shP 0 = 34 from rfl]
      have wl := wh34
      have hri := rfuF_in (h' 34 1) (h' 34 2) (h' 34 1) i
      refine r_aload_n 10 dX3_lay_9 rfl rfl ?_
      refine r_getR 13 dX3_lay_10 rfl kf_3_36 rfl (by first | assumption | omega) (by assumption) (by assumption) ?_
      refine r_iload_n 14 dX3_lay_13 rfl rfl ?_
      refine r_aald 15 dX3_lay_14 rfl (by first | assumption | omega) (by first | exact Or.inl (by assumption) | exact Or.inr (by assumption)) (by first | omega | (simp only [Int.toNat_natCast]; omega)) (by first | omega | (simp only [Int.toNat_natCast]; omega)) (by first | assumption | rfl) ?_
      refine r_astore 17 dX3_lay_15 rfl rfl rfl ?_
      refine r_aload 19 dX3_lay_17 rfl rfl ?_
      refine r_aload 21 dX3_lay_19 rfl rfl ?_
      refine r_getI 24 dX3_lay_21 rfl kf_3_249 rfl (by first | assumption | omega) (by assumption) ?_
      refine r_iload_n 25 dX3_lay_24 rfl rfl ?_
      rotate_left -- leaf: call at pc 25
      refine r_cv2 28 dX3_lay_25 rfl kv_3_252 (by first | assumption | omega) (by assumption) rfl rfl (c_refusal ls34 (h' 34 1) i) ?_
      rintro r h'' ⟨rfl, rfl⟩
      refine r_istore 30 dX3_lay_28 rfl rfl rfl ?_
      refine r_iload 32 dX3_lay_30 rfl rfl ?_
      refine r_if_eq 41 35 dX3_lay_32 (by decide) rfl (fun c_32 => ?_) (fun c_32 => ?_)
      rotate_left -- leaf: pc 41
      refine r_bipush 37 dX3_lay_35 rfl rfl (by decide) ?_
      refine r_iload 39 dX3_lay_37 rfl rfl ?_
      refine r_isub 40 dX3_lay_39 rfl (by first | exact w32_id (by omega) (by omega) | rfl) ?_
      refine r_iret dX3_lay_40 rfl ?_
      rotate_left -- leaf: return at pc 40
      · rw [if_neg (fun z => z c_32)]
        have hz := rfuF_0 c_32
        obtain ⟨i, rfl⟩ := nat_of hz.2.2.1
        refine r_aload 43 dX3_lay_41 rfl rfl ?_
        refine r_iload_n 44 dX3_lay_43 rfl rfl ?_
        refine r_iload_n 45 dX3_lay_44 rfl rfl ?_
        rotate_left -- leaf: call at pc 45
        refine r_cv2 48 dX3_lay_45 rfl kv_3_255 (by first | assumption | omega) (by assumption) rfl rfl (c_put ls34 i (by have := wl.2; omega) v) ?_
        rintro r h3 ⟨rfl, rfl⟩
        refine r_iconst 49 dX3_lay_48 rfl rfl ?_
        refine r_iret dX3_lay_49 rfl ?_
        rotate_left -- leaf: return at pc 49
        exact ⟨rfl, rfl⟩
      · rw [if_pos c_32]
        exact ⟨rfl, rfl⟩
    · rw [show shP 1 = 36 from rfl]
      have wl := wh36
      have hri := rfuF_in (h' 36 1) (h' 36 2) (h' 36 1) i
      refine r_aload_n 10 dX3_lay_9 rfl rfl ?_
      refine r_getR 13 dX3_lay_10 rfl kf_3_36 rfl (by first | assumption | omega) (by assumption) (by assumption) ?_
      refine r_iload_n 14 dX3_lay_13 rfl rfl ?_
      refine r_aald 15 dX3_lay_14 rfl (by first | assumption | omega) (by first | exact Or.inl (by assumption) | exact Or.inr (by assumption)) (by first | omega | (simp only [Int.toNat_natCast]; omega)) (by first | omega | (simp only [Int.toNat_natCast]; omega)) (by first | assumption | rfl) ?_
      refine r_astore 17 dX3_lay_15 rfl rfl rfl ?_
      refine r_aload 19 dX3_lay_17 rfl rfl ?_
      refine r_aload 21 dX3_lay_19 rfl rfl ?_
      refine r_getI 24 dX3_lay_21 rfl kf_3_249 rfl (by first | assumption | omega) (by assumption) ?_
      refine r_iload_n 25 dX3_lay_24 rfl rfl ?_
      rotate_left -- leaf: call at pc 25
      refine r_cv2 28 dX3_lay_25 rfl kv_3_252 (by first | assumption | omega) (by assumption) rfl rfl (c_refusal ls36 (h' 36 1) i) ?_
      rintro r h'' ⟨rfl, rfl⟩
      refine r_istore 30 dX3_lay_28 rfl rfl rfl ?_
      refine r_iload 32 dX3_lay_30 rfl rfl ?_
      refine r_if_eq 41 35 dX3_lay_32 (by decide) rfl (fun c_32 => ?_) (fun c_32 => ?_)
      rotate_left -- leaf: pc 41
      refine r_bipush 37 dX3_lay_35 rfl rfl (by decide) ?_
      refine r_iload 39 dX3_lay_37 rfl rfl ?_
      refine r_isub 40 dX3_lay_39 rfl (by first | exact w32_id (by omega) (by omega) | rfl) ?_
      refine r_iret dX3_lay_40 rfl ?_
      rotate_left -- leaf: return at pc 40
      · rw [if_neg (fun z => z c_32)]
        have hz := rfuF_0 c_32
        obtain ⟨i, rfl⟩ := nat_of hz.2.2.1
        refine r_aload 43 dX3_lay_41 rfl rfl ?_
        refine r_iload_n 44 dX3_lay_43 rfl rfl ?_
        refine r_iload_n 45 dX3_lay_44 rfl rfl ?_
        rotate_left -- leaf: call at pc 45
        refine r_cv2 48 dX3_lay_45 rfl kv_3_255 (by first | assumption | omega) (by assumption) rfl rfl (c_put ls36 i (by have := wl.2; omega) v) ?_
        rintro r h3 ⟨rfl, rfl⟩
        refine r_iconst 49 dX3_lay_48 rfl rfl ?_
        refine r_iret dX3_lay_49 rfl ?_
        rotate_left -- leaf: return at pc 49
        exact ⟨rfl, rfl⟩
      · rw [if_pos c_32]
        exact ⟨rfl, rfl⟩
    · rw [show shP 2 = 38 from rfl]
      have wl := wh38
      have hri := rfuF_in (h' 38 1) (h' 38 2) (h' 38 1) i
      refine r_aload_n 10 dX3_lay_9 rfl rfl ?_
      refine r_getR 13 dX3_lay_10 rfl kf_3_36 rfl (by first | assumption | omega) (by assumption) (by assumption) ?_
      refine r_iload_n 14 dX3_lay_13 rfl rfl ?_
      refine r_aald 15 dX3_lay_14 rfl (by first | assumption | omega) (by first | exact Or.inl (by assumption) | exact Or.inr (by assumption)) (by first | omega | (simp only [Int.toNat_natCast]; omega)) (by first | omega | (simp only [Int.toNat_natCast]; omega)) (by first | assumption | rfl) ?_
      refine r_astore 17 dX3_lay_15 rfl rfl rfl ?_
      refine r_aload 19 dX3_lay_17 rfl rfl ?_
      refine r_aload 21 dX3_lay_19 rfl rfl ?_
      refine r_getI 24 dX3_lay_21 rfl kf_3_249 rfl (by first | assumption | omega) (by assumption) ?_
      refine r_iload_n 25 dX3_lay_24 rfl rfl ?_
      rotate_left -- leaf: call at pc 25
      refine r_cv2 28 dX3_lay_25 rfl kv_3_252 (by first | assumption | omega) (by assumption) rfl rfl (c_refusal ls38 (h' 38 1) i) ?_
      rintro r h'' ⟨rfl, rfl⟩
      refine r_istore 30 dX3_lay_28 rfl rfl rfl ?_
      refine r_iload 32 dX3_lay_30 rfl rfl ?_
      refine r_if_eq 41 35 dX3_lay_32 (by decide) rfl (fun c_32 => ?_) (fun c_32 => ?_)
      rotate_left -- leaf: pc 41
      refine r_bipush 37 dX3_lay_35 rfl rfl (by decide) ?_
      refine r_iload 39 dX3_lay_37 rfl rfl ?_
      refine r_isub 40 dX3_lay_39 rfl (by first | exact w32_id (by omega) (by omega) | rfl) ?_
      refine r_iret dX3_lay_40 rfl ?_
      rotate_left -- leaf: return at pc 40
      · rw [if_neg (fun z => z c_32)]
        have hz := rfuF_0 c_32
        obtain ⟨i, rfl⟩ := nat_of hz.2.2.1
        refine r_aload 43 dX3_lay_41 rfl rfl ?_
        refine r_iload_n 44 dX3_lay_43 rfl rfl ?_
        refine r_iload_n 45 dX3_lay_44 rfl rfl ?_
        rotate_left -- leaf: call at pc 45
        refine r_cv2 48 dX3_lay_45 rfl kv_3_255 (by first | assumption | omega) (by assumption) rfl rfl (c_put ls38 i (by have := wl.2; omega) v) ?_
        rintro r h3 ⟨rfl, rfl⟩
        refine r_iconst 49 dX3_lay_48 rfl rfl ?_
        refine r_iret dX3_lay_49 rfl ?_
        rotate_left -- leaf: return at pc 49
        exact ⟨rfl, rfl⟩
      · rw [if_pos c_32]
        exact ⟨rfl, rfl⟩
    · rw [show shP 3 = 40 from rfl]
      have wl := wh40
      have hri := rfuF_in (h' 40 1) (h' 40 2) (h' 40 1) i
      refine r_aload_n 10 dX3_lay_9 rfl rfl ?_
      refine r_getR 13 dX3_lay_10 rfl kf_3_36 rfl (by first | assumption | omega) (by assumption) (by assumption) ?_
      refine r_iload_n 14 dX3_lay_13 rfl rfl ?_
      refine r_aald 15 dX3_lay_14 rfl (by first | assumption | omega) (by first | exact Or.inl (by assumption) | exact Or.inr (by assumption)) (by first | omega | (simp only [Int.toNat_natCast]; omega)) (by first | omega | (simp only [Int.toNat_natCast]; omega)) (by first | assumption | rfl) ?_
      refine r_astore 17 dX3_lay_15 rfl rfl rfl ?_
      refine r_aload 19 dX3_lay_17 rfl rfl ?_
      refine r_aload 21 dX3_lay_19 rfl rfl ?_
      refine r_getI 24 dX3_lay_21 rfl kf_3_249 rfl (by first | assumption | omega) (by assumption) ?_
      refine r_iload_n 25 dX3_lay_24 rfl rfl ?_
      rotate_left -- leaf: call at pc 25
      refine r_cv2 28 dX3_lay_25 rfl kv_3_252 (by first | assumption | omega) (by assumption) rfl rfl (c_refusal ls40 (h' 40 1) i) ?_
      rintro r h'' ⟨rfl, rfl⟩
      refine r_istore 30 dX3_lay_28 rfl rfl rfl ?_
      refine r_iload 32 dX3_lay_30 rfl rfl ?_
      refine r_if_eq 41 35 dX3_lay_32 (by decide) rfl (fun c_32 => ?_) (fun c_32 => ?_)
      rotate_left -- leaf: pc 41
      refine r_bipush 37 dX3_lay_35 rfl rfl (by decide) ?_
      refine r_iload 39 dX3_lay_37 rfl rfl ?_
      refine r_isub 40 dX3_lay_39 rfl (by first | exact w32_id (by omega) (by omega) | rfl) ?_
      refine r_iret dX3_lay_40 rfl ?_
      rotate_left -- leaf: return at pc 40
      · rw [if_neg (fun z => z c_32)]
        have hz := rfuF_0 c_32
        obtain ⟨i, rfl⟩ := nat_of hz.2.2.1
        refine r_aload 43 dX3_lay_41 rfl rfl ?_
        refine r_iload_n 44 dX3_lay_43 rfl rfl ?_
        refine r_iload_n 45 dX3_lay_44 rfl rfl ?_
        rotate_left -- leaf: call at pc 45
        refine r_cv2 48 dX3_lay_45 rfl kv_3_255 (by first | assumption | omega) (by assumption) rfl rfl (c_put ls40 i (by have := wl.2; omega) v) ?_
        rintro r h3 ⟨rfl, rfl⟩
        refine r_iconst 49 dX3_lay_48 rfl rfl ?_
        refine r_iret dX3_lay_49 rfl ?_
        rotate_left -- leaf: return at pc 49
        exact ⟨rfl, rfl⟩
      · rw [if_pos c_32]
        exact ⟨rfl, rfl⟩
  · rw [if_pos (z01_n.mp c_4)]
    exact ⟨rfl, rfl⟩
theorem c_torn (ly : LX G) : Ca l G 0 mX3_torn [vR 0] h (fun r h' => r = some (vI (h 0 10)) ∧ h' = h) := by
  obtain ⟨hN, ⟨ly1, ly8, ly16, ly23⟩, ltp, ⟨ls34, ls36, ls38, ls40⟩, ⟨xs0, xs15, xs30, xs33, xs42, xs43, xs44⟩, ⟨xl15, xl30, xl33, xl42, xl43, xl44⟩, ⟨xr0, xr1, xr2, xr3, xr4, xr5, xr6, xr7, xr8⟩, ⟨yr0, yr1⟩, ⟨zr0, zr1, zr2, zr3⟩⟩ := ly
  have xs1 : gs G 1 = 7 := ly1.2.1.1
  have xs8 : gs G 8 = 7 := ly8.2.1.1
  have xs16 : gs G 16 = 7 := ly16.2.1.1
  have xs23 : gs G 23 = 7 := ly23.2.1.1
  have xs31 : gs G 31 = 6 := ltp.2.1.1
  have xs34 : gs G 34 = 5 := ls34.2.1.1
  have xs36 : gs G 36 = 5 := ls36.2.1.1
  have xs38 : gs G 38 = 5 := ls38.2.1.1
  have xs40 : gs G 40 = 5 := ls40.2.1.1
  refine Ca.of (by decide) (Nat.le_of_ble_eq_true rfl) (fun hI hv hH => ?_)
  refine r_aload_n 1 dX3_torn_0 rfl rfl ?_
  refine r_getI 4 dX3_torn_1 rfl kf_3_264 rfl (by first | assumption | omega) (by assumption) ?_
  refine r_iret dX3_torn_4 rfl ?_
  rotate_left -- leaf: return at pc 4
  exact ⟨rfl, rfl⟩
theorem c_imagesKept (ly : LX G) (w : wX h) : Ca l G 0 mX3_imagesKept [vR 0] h (fun r h' => r = some (vI (h 30 0 + h 30 1)) ∧ h' = h) := by
  obtain ⟨hN, ⟨ly1, ly8, ly16, ly23⟩, ltp, ⟨ls34, ls36, ls38, ls40⟩, ⟨xs0, xs15, xs30, xs33, xs42, xs43, xs44⟩, ⟨xl15, xl30, xl33, xl42, xl43, xl44⟩, ⟨xr0, xr1, xr2, xr3, xr4, xr5, xr6, xr7, xr8⟩, ⟨yr0, yr1⟩, ⟨zr0, zr1, zr2, zr3⟩⟩ := ly
  have xs1 : gs G 1 = 7 := ly1.2.1.1
  have xs8 : gs G 8 = 7 := ly8.2.1.1
  have xs16 : gs G 16 = 7 := ly16.2.1.1
  have xs23 : gs G 23 = 7 := ly23.2.1.1
  have xs31 : gs G 31 = 6 := ltp.2.1.1
  have xs34 : gs G 34 = 5 := ls34.2.1.1
  have xs36 : gs G 36 = 5 := ls36.2.1.1
  have xs38 : gs G 38 = 5 := ls38.2.1.1
  have xs40 : gs G 40 = 5 := ls40.2.1.1
  obtain ⟨⟨w1, w8, w16, w23⟩, wp, wsn, ws42, ws43, wk, ⟨wh34, wh36, wh38, wh40⟩, wt⟩ := w
  have k0 := wk 0
  have k1 := wk 1
  refine Ca.of (by decide) (Nat.le_of_ble_eq_true rfl) (fun hI hv hH => ?_)
  have J : ∀ (j : Nat) (s : Int), (j = 0 ∧ s = 0) ∨ (j = 1 ∧ s = h 30 0) ∨ (j = 2 ∧ s = h 30 0 + h 30 1) → Rr l G 0 mX3_imagesKept (fun r h' => r = some (vI (h 30 0 + h 30 1)) ∧ h' = h) 4 [some (vR 0), some (vI s), some (vI j)] [] h := by
    have J2 : Rr l G 0 mX3_imagesKept (fun r h' => r = some (vI (h 30 0 + h 30 1)) ∧ h' = h) 4 [some (vR 0), some (vI (h 30 0 + h 30 1)), some (vI 2)] [] h := by
      refine r_iload_n 5 dX3_imagesKept_4 rfl rfl ?_
      refine r_iconst 6 dX3_imagesKept_5 rfl rfl ?_
      refine r_icmp_ge 32 9 dX3_imagesKept_6 (by decide) rfl (fun c_6 => ?_) (fun c_6 => ?_)
      refine r_iload_n 33 dX3_imagesKept_32 rfl rfl ?_
      refine r_iret dX3_imagesKept_33 rfl ?_
      rotate_left -- leaf: return at pc 33
      rotate_left -- leaf: pc 9
      · exact ⟨rfl, rfl⟩
      · omega
    have J1 : Rr l G 0 mX3_imagesKept (fun r h' => r = some (vI (h 30 0 + h 30 1)) ∧ h' = h) 4 [some (vR 0), some (vI (h 30 0)), some (vI 1)] [] h := by
      refine r_iload_n 5 dX3_imagesKept_4 rfl rfl ?_
      refine r_iconst 6 dX3_imagesKept_5 rfl rfl ?_
      refine r_icmp_ge 32 9 dX3_imagesKept_6 (by decide) rfl (fun c_6 => ?_) (fun c_6 => ?_)
      rotate_left -- leaf: pc 32
      refine r_iload_n 10 dX3_imagesKept_9 rfl rfl ?_
      refine r_aload_n 11 dX3_imagesKept_10 rfl rfl ?_
      refine r_getR 14 dX3_imagesKept_11 rfl kf_3_23 rfl (by first | assumption | omega) (by assumption) (by assumption) ?_
      refine r_iload_n 15 dX3_imagesKept_14 rfl rfl ?_
      first | refine r_bald 16 dX3_imagesKept_15 rfl (by first | assumption | omega) (by assumption) (by first | omega | (simp only [Int.toNat_natCast]; omega)) (by first | omega | (simp only [Int.toNat_natCast]; omega)) ?_ | refine r_zald 16 dX3_imagesKept_15 rfl (by first | assumption | omega) (by assumption) (by first | omega | (simp only [Int.toNat_natCast]; omega)) (by first | omega | (simp only [Int.toNat_natCast]; omega)) ?_
      rotate_left -- leaf: pc 16
      · omega
      show Rr l G 0 mX3_imagesKept (fun r h' => r = some (vI (h 30 0 + h 30 1)) ∧ h' = h) 16 [some (vR 0), some (vI (h 30 0)), some (vI 1)] [vI (h 30 1), vI (h 30 0)] h
      refine r_if_eq 23 19 dX3_imagesKept_16 (by decide) rfl (fun c_16 => ?_) (fun c_16 => ?_)
      refine r_iconst 24 dX3_imagesKept_23 rfl rfl ?_
      refine r_iadd 25 dX3_imagesKept_24 rfl (by first | exact w32_id (by omega) (by omega) | rfl) ?_
      refine r_istore_n 26 dX3_imagesKept_25 rfl rfl rfl ?_
      refine r_iinc 29 _ dX3_imagesKept_26 rfl rfl rfl rfl (by first | exact w32_id (by omega) (by omega) | rfl) ?_
      refine r_goto 4 dX3_imagesKept_29 (by decide) ?_
      rotate_left -- leaf: pc 4
      refine r_iconst 20 dX3_imagesKept_19 rfl rfl ?_
      refine r_goto 24 dX3_imagesKept_20 (by decide) ?_
      refine r_iadd 25 dX3_imagesKept_24 rfl (by first | exact w32_id (by omega) (by omega) | rfl) ?_
      refine r_istore_n 26 dX3_imagesKept_25 rfl rfl rfl ?_
      refine r_iinc 29 _ dX3_imagesKept_26 rfl rfl rfl rfl (by first | exact w32_id (by omega) (by omega) | rfl) ?_
      refine r_goto 4 dX3_imagesKept_29 (by decide) ?_
      rotate_left -- leaf: pc 4
      · rw [c_16] at J2 ⊢
        exact J2
      · rw [k1.resolve_left c_16] at J2 ⊢
        exact J2
    have J0 : Rr l G 0 mX3_imagesKept (fun r h' => r = some (vI (h 30 0 + h 30 1)) ∧ h' = h) 4 [some (vR 0), some (vI 0), some (vI 0)] [] h := by
      refine r_iload_n 5 dX3_imagesKept_4 rfl rfl ?_
      refine r_iconst 6 dX3_imagesKept_5 rfl rfl ?_
      refine r_icmp_ge 32 9 dX3_imagesKept_6 (by decide) rfl (fun c_6 => ?_) (fun c_6 => ?_)
      rotate_left -- leaf: pc 32
      refine r_iload_n 10 dX3_imagesKept_9 rfl rfl ?_
      refine r_aload_n 11 dX3_imagesKept_10 rfl rfl ?_
      refine r_getR 14 dX3_imagesKept_11 rfl kf_3_23 rfl (by first | assumption | omega) (by assumption) (by assumption) ?_
      refine r_iload_n 15 dX3_imagesKept_14 rfl rfl ?_
      first | refine r_bald 16 dX3_imagesKept_15 rfl (by first | assumption | omega) (by assumption) (by first | omega | (simp only [Int.toNat_natCast]; omega)) (by first | omega | (simp only [Int.toNat_natCast]; omega)) ?_ | refine r_zald 16 dX3_imagesKept_15 rfl (by first | assumption | omega) (by assumption) (by first | omega | (simp only [Int.toNat_natCast]; omega)) (by first | omega | (simp only [Int.toNat_natCast]; omega)) ?_
      rotate_left -- leaf: pc 16
      · omega
      show Rr l G 0 mX3_imagesKept (fun r h' => r = some (vI (h 30 0 + h 30 1)) ∧ h' = h) 16 [some (vR 0), some (vI 0), some (vI 0)] [vI (h 30 0), vI 0] h
      refine r_if_eq 23 19 dX3_imagesKept_16 (by decide) rfl (fun c_16 => ?_) (fun c_16 => ?_)
      refine r_iconst 24 dX3_imagesKept_23 rfl rfl ?_
      refine r_iadd 25 dX3_imagesKept_24 rfl (by first | exact w32_id (by omega) (by omega) | rfl) ?_
      refine r_istore_n 26 dX3_imagesKept_25 rfl rfl rfl ?_
      refine r_iinc 29 _ dX3_imagesKept_26 rfl rfl rfl rfl (by first | exact w32_id (by omega) (by omega) | rfl) ?_
      refine r_goto 4 dX3_imagesKept_29 (by decide) ?_
      rotate_left -- leaf: pc 4
      refine r_iconst 20 dX3_imagesKept_19 rfl rfl ?_
      refine r_goto 24 dX3_imagesKept_20 (by decide) ?_
      refine r_iadd 25 dX3_imagesKept_24 rfl (by first | exact w32_id (by omega) (by omega) | rfl) ?_
      refine r_istore_n 26 dX3_imagesKept_25 rfl rfl rfl ?_
      refine r_iinc 29 _ dX3_imagesKept_26 rfl rfl rfl rfl (by first | exact w32_id (by omega) (by omega) | rfl) ?_
      refine r_goto 4 dX3_imagesKept_29 (by decide) ?_
      rotate_left -- leaf: pc 4
      · rw [c_16] at J1 ⊢
        exact J1
      · rw [k0.resolve_left c_16] at J1 ⊢
        exact J1
    rintro j s (⟨rfl, rfl⟩ | ⟨rfl, rfl⟩ | ⟨rfl, rfl⟩)
    · exact J0
    · exact J1
    · exact J2
  refine r_iconst 1 dX3_imagesKept_0 rfl rfl ?_
  refine r_istore_n 2 dX3_imagesKept_1 rfl rfl rfl ?_
  refine r_iconst 3 dX3_imagesKept_2 rfl rfl ?_
  refine r_istore_n 4 dX3_imagesKept_3 rfl rfl rfl ?_
  rotate_left -- leaf: pc 4
  exact J 0 0 (Or.inl ⟨rfl, rfl⟩)
def qCount (x : Int) (h : zH) : Int := if x = 0 then h 0 9 else if x = 1 then h 30 0 + h 30 1 else if x = 2 then h 31 1 else if x = 3 then (if h 34 1 = -1 then -4 else h 34 2) else if x = 4 then sumF (h (1 + 5)) (h 1 7).toNat else if x = 5 then sumF (fun j => if rdsB h 1 j = true then 4 else 0) 12 else -1
theorem c_count (ly : LX G) (w : wX h) (x : Int) : Ca l G 3 mX3_count [vR 0, vI x] h (fun r h' => r = some (vI (qCount x h)) ∧ h' = h) := by
  have lX0 := ly
  have wX0 := w
  obtain ⟨hN, ⟨ly1, ly8, ly16, ly23⟩, ltp, ⟨ls34, ls36, ls38, ls40⟩, ⟨xs0, xs15, xs30, xs33, xs42, xs43, xs44⟩, ⟨xl15, xl30, xl33, xl42, xl43, xl44⟩, ⟨xr0, xr1, xr2, xr3, xr4, xr5, xr6, xr7, xr8⟩, ⟨yr0, yr1⟩, ⟨zr0, zr1, zr2, zr3⟩⟩ := ly
  have xs1 : gs G 1 = 7 := ly1.2.1.1
  have xs8 : gs G 8 = 7 := ly8.2.1.1
  have xs16 : gs G 16 = 7 := ly16.2.1.1
  have xs23 : gs G 23 = 7 := ly23.2.1.1
  have xs31 : gs G 31 = 6 := ltp.2.1.1
  have xs34 : gs G 34 = 5 := ls34.2.1.1
  have xs36 : gs G 36 = 5 := ls36.2.1.1
  have xs38 : gs G 38 = 5 := ls38.2.1.1
  have xs40 : gs G 40 = 5 := ls40.2.1.1
  obtain ⟨⟨w1, w8, w16, w23⟩, wp, wsn, ws42, ws43, wk, ⟨wh34, wh36, wh38, wh40⟩, wt⟩ := w
  have ly1' := ly1
  obtain ⟨⟨tn0, tn1, tn2, tn3, tn4, tn5, tn6⟩, ⟨ts0, ts1, ts2, ts3, ts4, ts5, ts6⟩, ⟨tr0, tr1, tr2, tr3, tr4, tr5⟩, ⟨tl1, tl2, tl3, tl4, tl5, tl6⟩⟩ := ly1'
  have ltp' := ltp
  obtain ⟨⟨pn0, pn1⟩, ⟨ps0, ps1⟩, pr0, pl1⟩ := ltp'
  have ls34' := ls34
  obtain ⟨⟨sn0, sn1⟩, ⟨ss0, ss1⟩, sr0, sl1⟩ := ls34'
  refine Ca.of (by decide) (Nat.le_of_ble_eq_true rfl) (fun hI hv hH => ?_)
  refine r_iload_n 1 dX3_count_0 rfl rfl ?_
  by_cases k0 : x = 0
  · subst k0
    refine r_tabIn 40 dX3_count_1 (by decide) (by decide) rfl (by decide) ?_
    refine r_aload_n 41 dX3_count_40 rfl rfl ?_
    refine r_getI 44 dX3_count_41 rfl kf_3_73 rfl (by first | assumption | omega) (by assumption) ?_
    refine r_iret dX3_count_44 rfl ?_
    rotate_left -- leaf: return at pc 44
    exact ⟨rfl, rfl⟩
  by_cases k1 : x = 1
  · subst k1
    refine r_tabIn 45 dX3_count_1 (by decide) (by decide) rfl (by decide) ?_
    refine r_aload_n 46 dX3_count_45 rfl rfl ?_
    rotate_left -- leaf: call at pc 46
    refine r_cv0 49 dX3_count_46 rfl kv_3_267 (by first | assumption | omega) (by assumption) rfl rfl (c_imagesKept lX0 wX0) ?_
    rintro r h' ⟨rfl, rfl⟩
    refine r_iret dX3_count_49 rfl ?_
    rotate_left -- leaf: return at pc 49
    exact ⟨rfl, rfl⟩
  by_cases k2 : x = 2
  · subst k2
    refine r_tabIn 50 dX3_count_1 (by decide) (by decide) rfl (by decide) ?_
    refine r_aload_n 51 dX3_count_50 rfl rfl ?_
    refine r_getR 54 dX3_count_51 rfl kf_3_30 rfl (by first | assumption | omega) (by assumption) (by assumption) ?_
    refine r_getI 57 dX3_count_54 rfl kf_3_55 rfl (by first | assumption | omega) (by assumption) ?_
    refine r_iret dX3_count_57 rfl ?_
    rotate_left -- leaf: return at pc 57
    exact ⟨rfl, rfl⟩
  by_cases k3 : x = 3
  · subst k3
    refine r_tabIn 58 dX3_count_1 (by decide) (by decide) rfl (by decide) ?_
    refine r_aload_n 59 dX3_count_58 rfl rfl ?_
    refine r_getR 62 dX3_count_59 rfl kf_3_36 rfl (by first | assumption | omega) (by assumption) (by assumption) ?_
    refine r_iconst 63 dX3_count_62 rfl rfl ?_
    refine r_aald 64 dX3_count_63 rfl (by first | assumption | omega) (by first | exact Or.inl (by assumption) | exact Or.inr (by assumption)) (by first | omega | (simp only [Int.toNat_natCast]; omega)) (by first | omega | (simp only [Int.toNat_natCast]; omega)) (by first | assumption | rfl) ?_
    refine r_getI 67 dX3_count_64 rfl kf_3_249 rfl (by first | assumption | omega) (by assumption) ?_
    refine r_iconst 68 dX3_count_67 rfl rfl ?_
    refine r_icmp_ne 76 71 dX3_count_68 (by decide) rfl (fun c_68 => ?_) (fun c_68 => ?_)
    refine r_aload_n 77 dX3_count_76 rfl rfl ?_
    refine r_getR 80 dX3_count_77 rfl kf_3_36 rfl (by first | assumption | omega) (by assumption) (by assumption) ?_
    refine r_iconst 81 dX3_count_80 rfl rfl ?_
    refine r_aald 82 dX3_count_81 rfl (by first | assumption | omega) (by first | exact Or.inl (by assumption) | exact Or.inr (by assumption)) (by first | omega | (simp only [Int.toNat_natCast]; omega)) (by first | omega | (simp only [Int.toNat_natCast]; omega)) (by first | assumption | rfl) ?_
    refine r_getI 85 dX3_count_82 rfl kf_3_270 rfl (by first | assumption | omega) (by assumption) ?_
    refine r_iret dX3_count_85 rfl ?_
    rotate_left -- leaf: return at pc 85
    refine r_bipush 73 dX3_count_71 rfl rfl (by decide) ?_
    refine r_goto 85 dX3_count_73 (by decide) ?_
    refine r_iret dX3_count_85 rfl ?_
    rotate_left -- leaf: return at pc 85
    · exact ⟨by simp [qCount, c_68], rfl⟩
    · exact ⟨by simp [qCount, c_68], rfl⟩
  by_cases k4 : x = 4
  · subst k4
    refine r_tabIn 86 dX3_count_1 (by decide) (by decide) rfl (by decide) ?_
    refine r_aload_n 87 dX3_count_86 rfl rfl ?_
    refine r_getR 90 dX3_count_87 rfl kf_3_10 rfl (by first | assumption | omega) (by assumption) (by assumption) ?_
    rotate_left -- leaf: call at pc 90
    refine r_cv0 93 dX3_count_90 rfl kv_3_273 (by first | assumption | omega) (by assumption) rfl rfl (c_allWorth ly1 w1) ?_
    rintro r h' ⟨rfl, rfl⟩
    refine r_iret dX3_count_93 rfl ?_
    rotate_left -- leaf: return at pc 93
    exact ⟨rfl, rfl⟩
  by_cases k5 : x = 5
  · subst k5
    refine r_tabIn 94 dX3_count_1 (by decide) (by decide) rfl (by decide) ?_
    refine r_aload_n 95 dX3_count_94 rfl rfl ?_
    refine r_getR 98 dX3_count_95 rfl kf_3_10 rfl (by first | assumption | omega) (by assumption) (by assumption) ?_
    rotate_left -- leaf: call at pc 98
    refine r_cv0 101 dX3_count_98 rfl kv_3_276 (by first | assumption | omega) (by assumption) rfl rfl (c_quartersRead ly1) ?_
    rintro r h' ⟨rfl, rfl⟩
    refine r_iret dX3_count_101 rfl ?_
    rotate_left -- leaf: return at pc 101
    exact ⟨rfl, rfl⟩
  · refine r_tabOut 102 dX3_count_1 (by omega) (by decide) ?_
    refine r_iconst 103 dX3_count_102 rfl rfl ?_
    refine r_iret dX3_count_103 rfl ?_
    rotate_left -- leaf: return at pc 103
    exact ⟨by simp [qCount, k0, k1, k2, k3, k4, k5], rfl⟩
end SX
