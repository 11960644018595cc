/-! drift of the class -/
def nxS (s : Int) : Int := w32 (w32 (s * 1103515245) + 12345)
def drw (s b : Int) : Int := if b < 1 then 0 else z_iand (z_ishr s 16) 32767 % b
theorem zan_in (x : Int) : 0 ≤ z_iand (z_ishr x 16) 32767 ∧ z_iand (z_ishr x 16) 32767 ≤ 32767 := by
  rw [z_and_mask (x := z_ishr x 16) 15 (by decide) ⟨by have := Int32.le_toInt (Int32.ofInt x >>> (Int32.ofInt 16 &&& 31)); unfold z_ishr; omega, by have := Int32.toInt_lt (Int32.ofInt x >>> (Int32.ofInt 16 &&& 31)); unfold z_ishr; omega⟩ (by decide)]
  have : (2 : Int) ^ 15 = 32768 := by decide
  omega
theorem drw_in {s b : Int} (hb : 1 ≤ b) : 0 ≤ drw s b ∧ drw s b < b := by
  unfold drw
  rw [if_neg (by omega)]
  exact ⟨Int.emod_nonneg _ (by omega), Int.emod_lt_of_pos _ (by omega)⟩
def dfH (men : Int) (s : Int × Int × zH) : zH := reb 8 (up s.2.2 (8 + 3) (drw (nxS s.1) 12).toNat (if drw (nxS (nxS s.1)) (men + 1) = men then -4 else drw (nxS (nxS s.1)) (men + 1)))
def dfS (men : Int) (s : Int × Int × zH) : Int × Int × zH := (nxS (nxS s.1), s.2.1 + hmA (dfH men s) 8, dfH men s)
def dfN (men : Int) (s : Int × Int × zH) : Nat → Int × Int × zH
  | 0 => s
  | n + 1 => dfS men (dfN men s n)
section SX
variable {l : Launch} {G : zG} {h : zH}
theorem c_nextSeed (x : Int) : Ca l G 0 mX3_nextSeed [vI x] h (fun r h' => r = some (vI (nxS x)) ∧ h' = h) := by
  refine Ca.of (by decide) (Nat.le_of_ble_eq_true rfl) (fun hI hv hH => ?_)
  refine r_iload_n 1 dX3_nextSeed_0 rfl rfl ?_
  refine r_ldc 3 (1103515245) dX3_nextSeed_1 rfl kq_3_239 rfl ?_
  refine r_imul 4 dX3_nextSeed_3 rfl rfl ?_
  refine r_sipush 7 dX3_nextSeed_4 rfl rfl (by decide) ?_
  refine r_iadd 8 dX3_nextSeed_7 rfl rfl ?_
  refine r_iret dX3_nextSeed_8 rfl ?_
  exact ⟨rfl, rfl⟩
theorem c_drawn (s b : Int) (hb : 1 ≤ b) : Ca l G 0 mX3_drawn [vI s, vI b] h (fun r h' => r = some (vI (drw s b)) ∧ h' = h) := by
  have hz := zan_in s
  refine Ca.of (by decide) (Nat.le_of_ble_eq_true rfl) (fun hI hv hH => ?_)
  unfold drw
  rw [if_neg (by omega)]
  refine r_iload_n 1 dX3_drawn_0 rfl rfl ?_
  refine r_iconst 2 dX3_drawn_1 rfl rfl ?_
  refine r_icmp_ge 9 5 dX3_drawn_2 (by decide) rfl (fun c_2 => ?_) (fun c_2 => ?_)
  refine r_iload_n 10 dX3_drawn_9 rfl rfl ?_
  refine r_bipush 12 dX3_drawn_10 rfl rfl (by decide) ?_
  refine r_ishr 13 dX3_drawn_12 rfl rfl ?_
  refine r_sipush 16 dX3_drawn_13 rfl rfl (by decide) ?_
  refine r_iand 17 dX3_drawn_16 rfl rfl ?_
  refine r_iload_n 18 dX3_drawn_17 rfl rfl ?_
  refine r_irem 19 dX3_drawn_18 rfl (by first | omega | (simp only [Int.toNat_natCast]; omega)) (by first | omega | (simp only [Int.toNat_natCast]; omega)) ?_
  refine r_iret dX3_drawn_19 rfl ?_
  rotate_left -- leaf: return at pc 19
  refine r_iconst 6 dX3_drawn_5 rfl rfl ?_
  refine r_goto 19 dX3_drawn_6 (by decide) ?_
  refine r_iret dX3_drawn_19 rfl ?_
  rotate_left -- leaf: return at pc 19
  · exact ⟨rfl, rfl⟩
  · omega
theorem df_in (w : wX h) (hm : 1 ≤ h 1 6) (sd : Int) : ∀ t : Nat, scr h (dfN (h 1 6) (sd, 0, cpT h 1 8) t).2.2 ∧ 0 ≤ (dfN (h 1 6) (sd, 0, cpT h 1 8) t).2.1 ∧ (dfN (h 1 6) (sd, 0, cpT h 1 8) t).2.1 ≤ 2160 * (t : Int)
  | 0 => ⟨scr_cpT w.1.1 w.1.2.1, Int.le_refl 0, Int.le_refl 0⟩
  | t + 1 => by
    obtain ⟨s1, s2, s3⟩ := df_in w hm sd t
    have hw4 := w.1.1.1.2
    show scr h (dfH (h 1 6) (dfN (h 1 6) (sd, 0, cpT h 1 8) t)) ∧ 0 ≤ (dfN (h 1 6) (sd, 0, cpT h 1 8) t).2.1 + hmA (dfH (h 1 6) (dfN (h 1 6) (sd, 0, cpT h 1 8) t)) 8 ∧ (dfN (h 1 6) (sd, 0, cpT h 1 8) t).2.1 + hmA (dfH (h 1 6) (dfN (h 1 6) (sd, 0, cpT h 1 8) t)) 8 ≤ _
    generalize dfN (h 1 6) (sd, 0, cpT h 1 8) t = S at *
    have hd := drw_in (s := nxS (nxS S.1)) (b := h 1 6 + 1) (by omega)
    have hw : wT (dfH (h 1 6) S) 8 := wT_reb (wT_up3 s1.2 (by split <;> omega))
    have hh := hmA_in hw
    exact ⟨⟨fun a b q1 q2 => by unfold dfH; rw [reb_in (by omega), up_k (by omega)]; exact s1.1 a b q1 q2, hw⟩, by omega, by omega⟩
def dfA (h : zH) (sd : Int) (N : Nat) (x : Int) : Int := if x = 0 then (dfN (h 1 6) (sd, 0, cpT h 1 8) N).2.1 else (orN (fun j => decide (¬ (dfN (h 1 6) (sd, 0, cpT h 1 8) N).2.2 (8 + 3) j = -4)) 12 : Int)
theorem l_drift (ly : LX G) (w : wX h) (hm : 1 ≤ h 1 6) (sd x : Int) (N : Nat) (hN : N ≤ 40) {Φ : Option zV → zH → Prop} (hΦ : ∀ h', scr h h' → Φ (some (vI (dfA h sd N x))) h') : ∀ (n t : Nat) (x7 x8 : Option zV), t + n = N → Rr l G 5 mX3_drift Φ 53 [some (vR 0), some (vI sd), some (vI N), some (vI x), some (vI (dfN (h 1 6) (sd, 0, cpT h 1 8) t).1), some (vI (dfN (h 1 6) (sd, 0, cpT h 1 8) t).2.1), some (vI t), x7, x8] [] (dfN (h 1 6) (sd, 0, cpT h 1 8) t).2.2 := by
  have lX0 := ly
  have wX0 := w
  obtain ⟨hN, ⟨ly1, ly8, ly16, ly23⟩, ltp, ⟨ls34, ls36, ls38, ls40⟩, ⟨xs0, xs15, xs30, xs33, xs42, xs43, xs44⟩, ⟨xl15, xl30, xl33, xl42, xl43, xl44⟩, ⟨xr0, xr1, xr2, xr3, xr4, xr5, xr6, xr7, xr8⟩, ⟨yr0, yr1⟩, ⟨zr0, zr1, zr2, zr3⟩⟩ := ly
  have xs1 : gs G 1 = 7 := ly1.2.1.1
  have xs8 : gs G 8 = 7 := ly8.2.1.1
  have xs16 : gs G 16 = 7 := ly16.2.1.1
  have xs23 : gs G 23 = 7 := ly23.2.1.1
  have xs31 : gs G 31 = 6 := ltp.2.1.1
  have xs34 : gs G 34 = 5 := ls34.2.1.1
  have xs36 : gs G 36 = 5 := ls36.2.1.1
  have xs38 : gs G 38 = 5 := ls38.2.1.1
  have xs40 : gs G 40 = 5 := ls40.2.1.1
  obtain ⟨⟨w1, w8, w16, w23⟩, wp, wsn, ws42, ws43, wk, ⟨wh34, wh36, wh38, wh40⟩, wt⟩ := w
  have ly1' := ly1
  obtain ⟨⟨tn0, tn1, tn2, tn3, tn4, tn5, tn6⟩, ⟨ts0, ts1, ts2, ts3, ts4, ts5, ts6⟩, ⟨tr0, tr1, tr2, tr3, tr4, tr5⟩, ⟨tl1, tl2, tl3, tl4, tl5, tl6⟩⟩ := ly1'
  have w1' := w1
  obtain ⟨tw1, tw2, tw3, tw4, tw5, tw6, tw7, tw8, tw9, tw10⟩ := w1'
  intro n
  induction n with
  | zero =>
    intro t x7 x8 ht
    obtain rfl : t = N := by omega
    have hs := df_in wX0 hm sd t
    have hΦ := hΦ _ hs.1
    unfold dfA at hΦ
    refine r_iload 55 dX3_drift_53 rfl rfl ?_
    refine r_iload_n 56 dX3_drift_55 rfl rfl ?_
    refine r_icmp_ge 144 59 dX3_drift_56 (by decide) rfl (fun c_56 => ?_) (fun c_56 => ?_)
    refine r_iload_n 145 dX3_drift_144 rfl rfl ?_
    refine r_if_ne 153 148 dX3_drift_145 (by decide) rfl (fun c_145 => ?_) (fun c_145 => ?_)
    refine r_aload_n 154 dX3_drift_153 rfl rfl ?_
    refine r_getR 157 dX3_drift_154 rfl kf_3_16 rfl (by first | assumption | omega) (by assumption) (by assumption) ?_
    rotate_left -- leaf: call at pc 157
    refine r_iload 150 dX3_drift_148 rfl rfl ?_
    refine r_goto 160 dX3_drift_150 (by decide) ?_
    refine r_iret dX3_drift_160 rfl ?_
    rotate_left -- leaf: return at pc 160
    rotate_left -- leaf: pc 59
    · refine r_cv0 160 dX3_drift_157 rfl kv_3_88 (by first | assumption | omega) (by assumption) rfl rfl (c_hoursStood ly8) ?_
      rintro r h' ⟨rfl, rfl⟩
      rw [if_neg c_145] at hΦ
      refine r_iret dX3_drift_160 rfl ?_
      rotate_left -- leaf: return at pc 160
      exact hΦ
    · rw [if_pos c_145] at hΦ
      exact hΦ
    · omega
  | succ n ih =>
    intro t x7 x8 ht
    obtain ⟨hs, hb1, hb2⟩ := df_in wX0 hm sd t
    have ih := ih (t + 1)
    have hS : dfN (h 1 6) (sd, 0, cpT h 1 8) (t + 1) = dfS (h 1 6) (dfN (h 1 6) (sd, 0, cpT h 1 8) t) := rfl
    rw [hS] at ih
    generalize dfN (h 1 6) (sd, 0, cpT h 1 8) t = S at *
    have e6 : S.2.2 1 6 = h 1 6 := hs.1 1 6 (by omega) (by omega)
    have hd := drw_in (s := nxS (nxS S.1)) (b := h 1 6 + 1) (by omega)
    obtain ⟨hr, ehr⟩ := Int.eq_ofNat_of_zero_le (drw_in (s := nxS S.1) (b := 12) (by omega)).1
    have hr12 := (drw_in (s := nxS S.1) (b := 12) (by omega)).2
    have eH : dfH (h 1 6) S = reb 8 (up S.2.2 (8 + 3) hr (if drw (nxS (nxS S.1)) (h 1 6 + 1) = h 1 6 then -4 else drw (nxS (nxS S.1)) (h 1 6 + 1))) := by unfold dfH; rw [ehr, Int.toNat_natCast]
    refine r_iload 55 dX3_drift_53 rfl rfl ?_
    refine r_iload_n 56 dX3_drift_55 rfl rfl ?_
    refine r_icmp_ge 144 59 dX3_drift_56 (by decide) rfl (fun c_56 => ?_) (fun c_56 => ?_)
    rotate_left -- leaf: pc 144
    refine r_iload 61 dX3_drift_59 rfl rfl ?_
    rotate_left -- leaf: call at pc 61
    · omega
    refine r_cs1 64 dX3_drift_61 rfl ks_3_233 rfl rfl (c_nextSeed S.1) ?_
    rintro r h' ⟨rfl, rfl⟩
    refine r_istore 66 dX3_drift_64 rfl rfl rfl ?_
    refine r_iload 68 dX3_drift_66 rfl rfl ?_
    refine r_bipush 70 dX3_drift_68 rfl rfl (by decide) ?_
    rotate_left -- leaf: call at pc 70
    refine r_cs2 73 dX3_drift_70 rfl ks_3_236 rfl rfl (c_drawn (nxS S.1) 12 (by omega)) ?_
    rintro r h' ⟨rfl, rfl⟩
    rw [ehr]
    refine r_istore 75 dX3_drift_73 rfl rfl rfl ?_
    refine r_iload 77 dX3_drift_75 rfl rfl ?_
    rotate_left -- leaf: call at pc 77
    refine r_cs1 80 dX3_drift_77 rfl ks_3_233 rfl rfl (c_nextSeed (nxS S.1)) ?_
    rintro r h' ⟨rfl, rfl⟩
    refine r_istore 82 dX3_drift_80 rfl rfl rfl ?_
    refine r_iload 84 dX3_drift_82 rfl rfl ?_
    refine r_aload_n 85 dX3_drift_84 rfl rfl ?_
    refine r_getR 88 dX3_drift_85 rfl kf_3_10 rfl (by first | assumption | omega) (by assumption) (by assumption) ?_
    refine r_getI 91 dX3_drift_88 rfl kf_3_76 rfl (by first | assumption | omega) (by assumption) ?_
    rotate_left -- leaf: pc 91
    rw [e6]
    refine r_iconst 92 dX3_drift_91 rfl rfl ?_
    refine r_iadd 93 dX3_drift_92 rfl (by first | exact w32_id (by omega) (by omega) | rfl) ?_
    rotate_left -- leaf: call at pc 93
    refine r_cs2 96 dX3_drift_93 rfl ks_3_236 rfl rfl (c_drawn (nxS (nxS S.1)) (h 1 6 + 1) (by omega)) ?_
    rintro r h' ⟨rfl, rfl⟩
    refine r_istore 98 dX3_drift_96 rfl rfl rfl ?_
    refine r_aload_n 99 dX3_drift_98 rfl rfl ?_
    refine r_getR 102 dX3_drift_99 rfl kf_3_16 rfl (by first | assumption | omega) (by assumption) (by assumption) ?_
    refine r_iload 104 dX3_drift_102 rfl rfl ?_
    refine r_iload 106 dX3_drift_104 rfl rfl ?_
    refine r_aload_n 107 dX3_drift_106 rfl rfl ?_
    refine r_getR 110 dX3_drift_107 rfl kf_3_10 rfl (by first | assumption | omega) (by assumption) (by assumption) ?_
    refine r_getI 113 dX3_drift_110 rfl kf_3_76 rfl (by first | assumption | omega) (by assumption) ?_
    rotate_left -- leaf: pc 113
    rw [e6]
    refine r_icmp_ne 121 116 dX3_drift_113 (by decide) rfl (fun c_113 => ?_) (fun c_113 => ?_)
    refine r_iload 123 dX3_drift_121 rfl rfl ?_
    rotate_left -- leaf: call at pc 123
    refine r_bipush 118 dX3_drift_116 rfl rfl (by decide) ?_
    refine r_goto 123 dX3_drift_118 (by decide) ?_
    rotate_left -- leaf: call at pc 123
    · have hw : wT (up S.2.2 (8 + 3) hr (drw (nxS (nxS S.1)) (h 1 6 + 1))) 8 := wT_up3 hs.2 (by omega)
      rw [if_neg c_113] at eH
      refine r_cv2 126 dX3_drift_123 rfl kv_3_153 (by first | assumption | omega) (by assumption) rfl rfl (c_setStands ly8 hr (by omega) (drw (nxS (nxS S.1)) (h 1 6 + 1)) hw) ?_
      rintro r h' ⟨rfl, rfl⟩
      have hh := hmA_in (wT_reb hw)
      rw [← eH] at hh ⊢
      refine r_iload 128 dX3_drift_126 rfl rfl ?_
      refine r_aload_n 129 dX3_drift_128 rfl rfl ?_
      refine r_getR 132 dX3_drift_129 rfl kf_3_16 rfl (by first | assumption | omega) (by assumption) (by assumption) ?_
      rotate_left -- leaf: call at pc 132
      refine r_cv0 135 dX3_drift_132 rfl kv_3_92 (by first | assumption | omega) (by assumption) rfl rfl (c_harm ly8 (by rw [eH]; exact wT_reb hw)) ?_
      rintro r h' ⟨rfl, rfl⟩
      refine r_iadd 136 dX3_drift_135 rfl (by first | exact w32_id (by omega) (by omega) | rfl) ?_
      refine r_istore 138 dX3_drift_136 rfl rfl rfl ?_
      refine r_iinc 141 _ dX3_drift_138 rfl rfl rfl rfl (by first | exact w32_id (by omega) (by omega) | rfl) ?_
      refine r_goto 53 dX3_drift_141 (by decide) ?_
      rotate_left -- leaf: pc 53
      exact ih _ _ (by omega)
    · have hw : wT (up S.2.2 (8 + 3) hr (-4)) 8 := wT_up3 hs.2 (by omega)
      rw [if_pos c_113] at eH
      refine r_cv2 126 dX3_drift_123 rfl kv_3_153 (by first | assumption | omega) (by assumption) rfl rfl (c_setStands ly8 hr (by omega) (-4) hw) ?_
      rintro r h' ⟨rfl, rfl⟩
      have hh := hmA_in (wT_reb hw)
      rw [← eH] at hh ⊢
      refine r_iload 128 dX3_drift_126 rfl rfl ?_
      refine r_aload_n 129 dX3_drift_128 rfl rfl ?_
      refine r_getR 132 dX3_drift_129 rfl kf_3_16 rfl (by first | assumption | omega) (by assumption) (by assumption) ?_
      rotate_left -- leaf: call at pc 132
      refine r_cv0 135 dX3_drift_132 rfl kv_3_92 (by first | assumption | omega) (by assumption) rfl rfl (c_harm ly8 (by rw [eH]; exact wT_reb hw)) ?_
      rintro r h' ⟨rfl, rfl⟩
      refine r_iadd 136 dX3_drift_135 rfl (by first | exact w32_id (by omega) (by omega) | rfl) ?_
      refine r_istore 138 dX3_drift_136 rfl rfl rfl ?_
      refine r_iinc 141 _ dX3_drift_138 rfl rfl rfl rfl (by first | exact w32_id (by omega) (by omega) | rfl) ?_
      refine r_goto 53 dX3_drift_141 (by decide) ?_
      rotate_left -- leaf: pc 53
      exact ih _ _ (by omega)
def qDrift (sd n x : Int) (h : zH) : Int := if n < 1 ∨ 40 < n ∨ ¬ (x = 0 ∨ x = 1) then -1 else if h 1 6 = 0 then -2 else dfA h sd n.toNat x
theorem c_drift (ly : LX G) (w : wX h) (sd n x : Int) : Ca l G 5 mX3_drift [vR 0, vI sd, vI n, vI x] h (fun r h' => r = some (vI (qDrift sd n x h)) ∧ scr h h') := by
  have lX0 := ly
  have wX0 := w
  obtain ⟨hN, ⟨ly1, ly8, ly16, ly23⟩, ltp, ⟨ls34, ls36, ls38, ls40⟩, ⟨xs0, xs15, xs30, xs33, xs42, xs43, xs44⟩, ⟨xl15, xl30, xl33, xl42, xl43, xl44⟩, ⟨xr0, xr1, xr2, xr3, xr4, xr5, xr6, xr7, xr8⟩, ⟨yr0, yr1⟩, ⟨zr0, zr1, zr2, zr3⟩⟩ := ly
  have xs1 : gs G 1 = 7 := ly1.2.1.1
  have xs8 : gs G 8 = 7 := ly8.2.1.1
  have xs16 : gs G 16 = 7 := ly16.2.1.1
  have xs23 : gs G 23 = 7 := ly23.2.1.1
  have xs31 : gs G 31 = 6 := ltp.2.1.1
  have xs34 : gs G 34 = 5 := ls34.2.1.1
  have xs36 : gs G 36 = 5 := ls36.2.1.1
  have xs38 : gs G 38 = 5 := ls38.2.1.1
  have xs40 : gs G 40 = 5 := ls40.2.1.1
  obtain ⟨⟨w1, w8, w16, w23⟩, wp, wsn, ws42, ws43, wk, ⟨wh34, wh36, wh38, wh40⟩, wt⟩ := w
  have ly1' := ly1
  obtain ⟨⟨tn0, tn1, tn2, tn3, tn4, tn5, tn6⟩, ⟨ts0, ts1, ts2, ts3, ts4, ts5, ts6⟩, ⟨tr0, tr1, tr2, tr3, tr4, tr5⟩, ⟨tl1, tl2, tl3, tl4, tl5, tl6⟩⟩ := ly1'
  have w1' := w1
  obtain ⟨tw1, tw2, tw3, tw4, tw5, tw6, tw7, tw8, tw9, tw10⟩ := w1'
  refine Ca.of (by decide) (Nat.le_of_ble_eq_true rfl) (fun hI hv hH => ?_)
  unfold qDrift
  refine r_iload_n 1 dX3_drift_0 rfl rfl ?_
  refine r_iconst 2 dX3_drift_1 rfl rfl ?_
  refine r_icmp_lt 18 5 dX3_drift_2 (by decide) rfl (fun c_2 => ?_) (fun c_2 => ?_)
  refine r_iconst 19 dX3_drift_18 rfl rfl ?_
  refine r_iret dX3_drift_19 rfl ?_
  rotate_left -- leaf: return at pc 19
  refine r_iload_n 6 dX3_drift_5 rfl rfl ?_
  refine r_bipush 8 dX3_drift_6 rfl rfl (by decide) ?_
  refine r_icmp_gt 18 11 dX3_drift_8 (by decide) rfl (fun c_8 => ?_) (fun c_8 => ?_)
  refine r_iconst 19 dX3_drift_18 rfl rfl ?_
  refine r_iret dX3_drift_19 rfl ?_
  rotate_left -- leaf: return at pc 19
  refine r_iload_n 12 dX3_drift_11 rfl rfl ?_
  rotate_left -- leaf: call at pc 12
  · rw [if_pos (Or.inl c_2)]
    exact ⟨rfl, fun _ _ _ _ => rfl, w8⟩
  · rw [if_pos (Or.inr (Or.inl c_8))]
    exact ⟨rfl, fun _ _ _ _ => rfl, w8⟩
  · refine r_cs1 15 dX3_drift_12 rfl ks_3_133 rfl rfl (c_isFS x) ?_
    rintro r h' ⟨rfl, rfl⟩
    refine r_if_ne 20 18 dX3_drift_15 (by decide) rfl (fun c_15 => ?_) (fun c_15 => ?_)
    refine r_aload_n 21 dX3_drift_20 rfl rfl ?_
    refine r_getR 24 dX3_drift_21 rfl kf_3_10 rfl (by first | assumption | omega) (by assumption) (by assumption) ?_
    refine r_getI 27 dX3_drift_24 rfl kf_3_76 rfl (by first | assumption | omega) (by assumption) ?_
    refine r_if_ne 33 30 dX3_drift_27 (by decide) rfl (fun c_27 => ?_) (fun c_27 => ?_)
    refine r_aload_n 34 dX3_drift_33 rfl rfl ?_
    refine r_getR 37 dX3_drift_34 rfl kf_3_16 rfl (by first | assumption | omega) (by assumption) (by assumption) ?_
    refine r_aload_n 38 dX3_drift_37 rfl rfl ?_
    refine r_getR 41 dX3_drift_38 rfl kf_3_10 rfl (by first | assumption | omega) (by assumption) (by assumption) ?_
    rotate_left -- leaf: call at pc 41
    refine r_bipush 32 dX3_drift_30 rfl rfl (by decide) ?_
    refine r_iret dX3_drift_32 rfl ?_
    rotate_left -- leaf: return at pc 32
    refine r_iconst 19 dX3_drift_18 rfl rfl ?_
    refine r_iret dX3_drift_19 rfl ?_
    rotate_left -- leaf: return at pc 19
    · rw [if_neg (by have := z01_y.mp c_15; omega), if_neg c_27]
      obtain ⟨N, rfl⟩ := Int.eq_ofNat_of_zero_le (show 0 ≤ n by omega)
      rw [Int.toNat_natCast]
      refine r_cv1 44 dX3_drift_41 rfl kv_3_69 (by first | assumption | omega) (by assumption) rfl rfl (c_copyOf ly8 ly1 (by omega)) ?_
      rintro r h'' ⟨rfl, rfl⟩
      refine r_iload_n 45 dX3_drift_44 rfl rfl ?_
      refine r_istore 47 dX3_drift_45 rfl rfl rfl ?_
      refine r_iconst 48 dX3_drift_47 rfl rfl ?_
      refine r_istore 50 dX3_drift_48 rfl rfl rfl ?_
      refine r_iconst 51 dX3_drift_50 rfl rfl ?_
      refine r_istore 53 dX3_drift_51 rfl rfl rfl ?_
      rotate_left -- leaf: pc 53
      exact l_drift (l := l) lX0 wX0 (by omega) sd x N (by omega) (Φ := fun r h'' => r = some (vI (dfA h' sd N x)) ∧ scr h' h'') (fun h3 q => ⟨rfl, q⟩) N 0 none none (by omega)
    · rw [if_neg (by have := z01_y.mp c_15; omega), if_pos c_27]
      exact ⟨rfl, fun _ _ _ _ => rfl, w8⟩
    · rw [if_pos (Or.inr (Or.inr (z01_n.mp c_15)))]
      exact ⟨rfl, fun _ _ _ _ => rfl, w8⟩
end SX
