/-! SunPointer: the object 0; Towns 1 (now), 8 (trial), 16, 23 (images, row 15); kept 30; Tape 31; sheets 33: 34, 36, 38, 40; seen 42, 43; doneByLean 44. Fields 9 seenCount, 10 latestTorn -/
def LX (G : zG) : Prop := gN G = 58 ∧ (LT G 1 ∧ LT G 8 ∧ LT G 16 ∧ LT G 23) ∧ LTp G 31 ∧ (LSh G 34 ∧ LSh G 36 ∧ LSh G 38 ∧ LSh G 40) ∧ (gs G 0 = 8 ∧ gs G 15 = 3 ∧ gs G 30 = 2 ∧ gs G 33 = 4 ∧ gs G 42 = 0 ∧ gs G 43 = 0 ∧ gs G 44 = 0) ∧ (gl G 15 = 2 ∧ gl G 30 = 2 ∧ gl G 33 = 4 ∧ gl G 42 = 6 ∧ gl G 43 = 6 ∧ gl G 44 = 7) ∧ (gr G 0 0 = 1 ∧ gr G 0 1 = 8 ∧ gr G 0 2 = 15 ∧ gr G 0 3 = 30 ∧ gr G 0 4 = 31 ∧ gr G 0 5 = 33 ∧ gr G 0 6 = 42 ∧ gr G 0 7 = 43 ∧ gr G 0 8 = 44) ∧ (gr G 15 0 = 16 ∧ gr G 15 1 = 23) ∧ (gr G 33 0 = 34 ∧ gr G 33 1 = 36 ∧ gr G 33 2 = 38 ∧ gr G 33 3 = 40)
def wSh (h : zH) (k : Nat) : Prop := (-1 ≤ h k 1 ∧ h k 1 ≤ 2) ∧ (0 ≤ h k 2 ∧ h k 2 ≤ 40)
def wX (h : zH) : Prop := (wT h 1 ∧ wT h 8 ∧ wT h 16 ∧ wT h 23) ∧ wP h 31 ∧ (0 ≤ h 0 9 ∧ h 0 9 ≤ 6) ∧ (∀ j, 0 ≤ h 42 j ∧ h 42 j ≤ 4) ∧ (∀ j, h 43 j = -4 ∨ (0 ≤ h 43 j ∧ h 43 j ≤ 47)) ∧ (∀ j, h 30 j = 0 ∨ h 30 j = 1) ∧ (wSh h 34 ∧ wSh h 36 ∧ wSh h 38 ∧ wSh h 40) ∧ (0 ≤ h 0 10 ∧ h 0 10 ≤ 3)
theorem nat_of {x : Int} (h : 0 ≤ x) : ∃ n : Nat, x = n := ⟨x.toNat, by omega⟩
section SX
variable {l : Launch} {G : zG} {h : zH}
theorem c_isHour (x : Int) : Ca l G 0 mX3_isHour [vI x] h (fun r h' => r = some (vI (z01 (0 ≤ x ∧ x < 12))) ∧ h' = h) := by
  refine Ca.of (by decide) (Nat.le_of_ble_eq_true rfl) (fun hI hv hH => ?_)
  refine r_iload_n 1 dX3_isHour_0 rfl rfl ?_
  refine r_if_lt 14 4 dX3_isHour_1 (by decide) rfl (fun c_1 => ?_) (fun c_1 => ?_)
  refine r_iconst 15 dX3_isHour_14 rfl rfl ?_
  refine r_zret dX3_isHour_15 rfl (by first | exact Or.inl rfl | exact Or.inr rfl | assumption | omega) ?_
  rotate_left -- leaf: return at pc 15
  refine r_iload_n 5 dX3_isHour_4 rfl rfl ?_
  refine r_bipush 7 dX3_isHour_5 rfl rfl (by decide) ?_
  refine r_icmp_ge 14 10 dX3_isHour_7 (by decide) rfl (fun c_7 => ?_) (fun c_7 => ?_)
  refine r_iconst 15 dX3_isHour_14 rfl rfl ?_
  refine r_zret dX3_isHour_15 rfl (by first | exact Or.inl rfl | exact Or.inr rfl | assumption | omega) ?_
  rotate_left -- leaf: return at pc 15
  refine r_iconst 11 dX3_isHour_10 rfl rfl ?_
  refine r_goto 15 dX3_isHour_11 (by decide) ?_
  refine r_zret dX3_isHour_15 rfl (by first | exact Or.inl rfl | exact Or.inr rfl | assumption | omega) ?_
  rotate_left -- leaf: return at pc 15
  all_goals refine ⟨?_, rfl⟩
  all_goals first | rw [z01_f (by omega)] | rw [z01_t (by omega)]
theorem c_isQuarter (x : Int) : Ca l G 0 mX3_isQuarter [vI x] h (fun r h' => r = some (vI (z01 (0 ≤ x ∧ x < 48))) ∧ h' = h) := by
  refine Ca.of (by decide) (Nat.le_of_ble_eq_true rfl) (fun hI hv hH => ?_)
  refine r_iload_n 1 dX3_isQuarter_0 rfl rfl ?_
  refine r_if_lt 14 4 dX3_isQuarter_1 (by decide) rfl (fun c_1 => ?_) (fun c_1 => ?_)
  refine r_iconst 15 dX3_isQuarter_14 rfl rfl ?_
  refine r_zret dX3_isQuarter_15 rfl (by first | exact Or.inl rfl | exact Or.inr rfl | assumption | omega) ?_
  rotate_left -- leaf: return at pc 15
  refine r_iload_n 5 dX3_isQuarter_4 rfl rfl ?_
  refine r_bipush 7 dX3_isQuarter_5 rfl rfl (by decide) ?_
  refine r_icmp_ge 14 10 dX3_isQuarter_7 (by decide) rfl (fun c_7 => ?_) (fun c_7 => ?_)
  refine r_iconst 15 dX3_isQuarter_14 rfl rfl ?_
  refine r_zret dX3_isQuarter_15 rfl (by first | exact Or.inl rfl | exact Or.inr rfl | assumption | omega) ?_
  rotate_left -- leaf: return at pc 15
  refine r_iconst 11 dX3_isQuarter_10 rfl rfl ?_
  refine r_goto 15 dX3_isQuarter_11 (by decide) ?_
  refine r_zret dX3_isQuarter_15 rfl (by first | exact Or.inl rfl | exact Or.inr rfl | assumption | omega) ?_
  rotate_left -- leaf: return at pc 15
  all_goals refine ⟨?_, rfl⟩
  all_goals first | rw [z01_f (by omega)] | rw [z01_t (by omega)]
theorem c_isWorth (x : Int) : Ca l G 0 mX3_isWorth [vI x] h (fun r h' => r = some (vI (z01 (1 ≤ x ∧ x ≤ 9))) ∧ h' = h) := by
  refine Ca.of (by decide) (Nat.le_of_ble_eq_true rfl) (fun hI hv hH => ?_)
  refine r_iload_n 1 dX3_isWorth_0 rfl rfl ?_
  refine r_iconst 2 dX3_isWorth_1 rfl rfl ?_
  refine r_icmp_lt 15 5 dX3_isWorth_2 (by decide) rfl (fun c_2 => ?_) (fun c_2 => ?_)
  refine r_iconst 16 dX3_isWorth_15 rfl rfl ?_
  refine r_zret dX3_isWorth_16 rfl (by first | exact Or.inl rfl | exact Or.inr rfl | assumption | omega) ?_
  rotate_left -- leaf: return at pc 16
  refine r_iload_n 6 dX3_isWorth_5 rfl rfl ?_
  refine r_bipush 8 dX3_isWorth_6 rfl rfl (by decide) ?_
  refine r_icmp_gt 15 11 dX3_isWorth_8 (by decide) rfl (fun c_8 => ?_) (fun c_8 => ?_)
  refine r_iconst 16 dX3_isWorth_15 rfl rfl ?_
  refine r_zret dX3_isWorth_16 rfl (by first | exact Or.inl rfl | exact Or.inr rfl | assumption | omega) ?_
  rotate_left -- leaf: return at pc 16
  refine r_iconst 12 dX3_isWorth_11 rfl rfl ?_
  refine r_goto 16 dX3_isWorth_12 (by decide) ?_
  refine r_zret dX3_isWorth_16 rfl (by first | exact Or.inl rfl | exact Or.inr rfl | assumption | omega) ?_
  rotate_left -- leaf: return at pc 16
  all_goals refine ⟨?_, rfl⟩
  all_goals first | rw [z01_f (by omega)] | rw [z01_t (by omega)]
theorem c_isFS (x : Int) : Ca l G 0 mX3_isFirstOrSecond [vI x] h (fun r h' => r = some (vI (z01 (x = 0 ∨ x = 1))) ∧ h' = h) := by
  refine Ca.of (by decide) (Nat.le_of_ble_eq_true rfl) (fun hI hv hH => ?_)
  refine r_iload_n 1 dX3_isFirstOrSecond_0 rfl rfl ?_
  refine r_if_eq 9 4 dX3_isFirstOrSecond_1 (by decide) rfl (fun c_1 => ?_) (fun c_1 => ?_)
  refine r_iconst 10 dX3_isFirstOrSecond_9 rfl rfl ?_
  refine r_goto 14 dX3_isFirstOrSecond_10 (by decide) ?_
  refine r_zret dX3_isFirstOrSecond_14 rfl (by first | exact Or.inl rfl | exact Or.inr rfl | assumption | omega) ?_
  rotate_left -- leaf: return at pc 14
  refine r_iload_n 5 dX3_isFirstOrSecond_4 rfl rfl ?_
  refine r_iconst 6 dX3_isFirstOrSecond_5 rfl rfl ?_
  refine r_icmp_ne 13 9 dX3_isFirstOrSecond_6 (by decide) rfl (fun c_6 => ?_) (fun c_6 => ?_)
  refine r_iconst 14 dX3_isFirstOrSecond_13 rfl rfl ?_
  refine r_zret dX3_isFirstOrSecond_14 rfl (by first | exact Or.inl rfl | exact Or.inr rfl | assumption | omega) ?_
  rotate_left -- leaf: return at pc 14
  refine r_iconst 10 dX3_isFirstOrSecond_9 rfl rfl ?_
  refine r_goto 14 dX3_isFirstOrSecond_10 (by decide) ?_
  refine r_zret dX3_isFirstOrSecond_14 rfl (by first | exact Or.inl rfl | exact Or.inr rfl | assumption | omega) ?_
  rotate_left -- leaf: return at pc 14
  all_goals refine ⟨?_, rfl⟩
  all_goals first | rw [z01_f (by omega)] | rw [z01_t (by omega)]
theorem c_isSheet (x : Int) : Ca l G 0 mX3_isSheet [vI x] h (fun r h' => r = some (vI (z01 (0 ≤ x ∧ x < 4))) ∧ h' = h) := by
  refine Ca.of (by decide) (Nat.le_of_ble_eq_true rfl) (fun hI hv hH => ?_)
  refine r_iload_n 1 dX3_isSheet_0 rfl rfl ?_
  refine r_if_lt 13 4 dX3_isSheet_1 (by decide) rfl (fun c_1 => ?_) (fun c_1 => ?_)
  refine r_iconst 14 dX3_isSheet_13 rfl rfl ?_
  refine r_zret dX3_isSheet_14 rfl (by first | exact Or.inl rfl | exact Or.inr rfl | assumption | omega) ?_
  rotate_left -- leaf: return at pc 14
  refine r_iload_n 5 dX3_isSheet_4 rfl rfl ?_
  refine r_iconst 6 dX3_isSheet_5 rfl rfl ?_
  refine r_icmp_ge 13 9 dX3_isSheet_6 (by decide) rfl (fun c_6 => ?_) (fun c_6 => ?_)
  refine r_iconst 14 dX3_isSheet_13 rfl rfl ?_
  refine r_zret dX3_isSheet_14 rfl (by first | exact Or.inl rfl | exact Or.inr rfl | assumption | omega) ?_
  rotate_left -- leaf: return at pc 14
  refine r_iconst 10 dX3_isSheet_9 rfl rfl ?_
  refine r_goto 14 dX3_isSheet_10 (by decide) ?_
  refine r_zret dX3_isSheet_14 rfl (by first | exact Or.inl rfl | exact Or.inr rfl | assumption | omega) ?_
  rotate_left -- leaf: return at pc 14
  all_goals refine ⟨?_, rfl⟩
  all_goals first | rw [z01_f (by omega)] | rw [z01_t (by omega)]
theorem c_isLane (x : Int) : Ca l G 0 mX3_isLane [vI x] h (fun r h' => r = some (vI (z01 (0 ≤ x ∧ x < 3))) ∧ h' = h) := by
  refine Ca.of (by decide) (Nat.le_of_ble_eq_true rfl) (fun hI hv hH => ?_)
  refine r_iload_n 1 dX3_isLane_0 rfl rfl ?_
  refine r_if_lt 13 4 dX3_isLane_1 (by decide) rfl (fun c_1 => ?_) (fun c_1 => ?_)
  refine r_iconst 14 dX3_isLane_13 rfl rfl ?_
  refine r_zret dX3_isLane_14 rfl (by first | exact Or.inl rfl | exact Or.inr rfl | assumption | omega) ?_
  rotate_left -- leaf: return at pc 14
  refine r_iload_n 5 dX3_isLane_4 rfl rfl ?_
  refine r_iconst 6 dX3_isLane_5 rfl rfl ?_
  refine r_icmp_ge 13 9 dX3_isLane_6 (by decide) rfl (fun c_6 => ?_) (fun c_6 => ?_)
  refine r_iconst 14 dX3_isLane_13 rfl rfl ?_
  refine r_zret dX3_isLane_14 rfl (by first | exact Or.inl rfl | exact Or.inr rfl | assumption | omega) ?_
  rotate_left -- leaf: return at pc 14
  refine r_iconst 10 dX3_isLane_9 rfl rfl ?_
  refine r_goto 14 dX3_isLane_10 (by decide) ?_
  refine r_zret dX3_isLane_14 rfl (by first | exact Or.inl rfl | exact Or.inr rfl | assumption | omega) ?_
  rotate_left -- leaf: return at pc 14
  all_goals refine ⟨?_, rfl⟩
  all_goals first | rw [z01_f (by omega)] | rw [z01_t (by omega)]
def mayP (h : zH) (x m : Int) : Prop := (0 ≤ x ∧ x < 12) ∧ (m = -4 ∨ (0 ≤ m ∧ m < h 1 6))
theorem c_mayStand (ly : LX G) (x m : Int) : Ca l G 1 mX3_mayStand [vR 0, vI x, vI m] h (fun r h' => ((mayP h x m ∧ r = some (vI 1)) ∨ (¬ mayP h x m ∧ r = some (vI 0))) ∧ h' = h) := by
  obtain ⟨hN, ⟨ly1, ly8, ly16, ly23⟩, ltp, ⟨ls34, ls36, ls38, ls40⟩, ⟨xs0, xs15, xs30, xs33, xs42, xs43, xs44⟩, ⟨xl15, xl30, xl33, xl42, xl43, xl44⟩, ⟨xr0, xr1, xr2, xr3, xr4, xr5, xr6, xr7, xr8⟩, ⟨yr0, yr1⟩, ⟨zr0, zr1, zr2, zr3⟩⟩ := ly
  have xs1 : gs G 1 = 7 := ly1.2.1.1
  have xs8 : gs G 8 = 7 := ly8.2.1.1
  have xs16 : gs G 16 = 7 := ly16.2.1.1
  have xs23 : gs G 23 = 7 := ly23.2.1.1
  have xs31 : gs G 31 = 6 := ltp.2.1.1
  have xs34 : gs G 34 = 5 := ls34.2.1.1
  have xs36 : gs G 36 = 5 := ls36.2.1.1
  have xs38 : gs G 38 = 5 := ls38.2.1.1
  have xs40 : gs G 40 = 5 := ls40.2.1.1
  have ly1' := ly1
  obtain ⟨⟨tn0, tn1, tn2, tn3, tn4, tn5, tn6⟩, ⟨ts0, ts1, ts2, ts3, ts4, ts5, ts6⟩, ⟨tr0, tr1, tr2, tr3, tr4, tr5⟩, ⟨tl1, tl2, tl3, tl4, tl5, tl6⟩⟩ := ly1'
  refine Ca.of (by decide) (Nat.le_of_ble_eq_true rfl) (fun hI hv hH => ?_)
  refine r_iload_n 1 dX3_mayStand_0 rfl rfl ?_
  rotate_left -- leaf: call at pc 1
  refine r_cs1 4 dX3_mayStand_1 rfl ks_3_111 rfl rfl (c_isHour x) ?_
  rintro r h' ⟨rfl, rfl⟩
  refine r_if_eq 28 7 dX3_mayStand_4 (by decide) rfl (fun c_4 => ?_) (fun c_4 => ?_)
  refine r_iconst 29 dX3_mayStand_28 rfl rfl ?_
  refine r_zret dX3_mayStand_29 rfl (by first | exact Or.inl rfl | exact Or.inr rfl | assumption | omega) ?_
  rotate_left -- leaf: return at pc 29
  refine r_iload_n 8 dX3_mayStand_7 rfl rfl ?_
  refine r_bipush 10 dX3_mayStand_8 rfl rfl (by decide) ?_
  refine r_icmp_eq 24 13 dX3_mayStand_10 (by decide) rfl (fun c_10 => ?_) (fun c_10 => ?_)
  refine r_iconst 25 dX3_mayStand_24 rfl rfl ?_
  refine r_goto 29 dX3_mayStand_25 (by decide) ?_
  refine r_zret dX3_mayStand_29 rfl (by first | exact Or.inl rfl | exact Or.inr rfl | assumption | omega) ?_
  rotate_left -- leaf: return at pc 29
  refine r_aload_n 14 dX3_mayStand_13 rfl rfl ?_
  refine r_getR 17 dX3_mayStand_14 rfl kf_3_10 rfl (by first | assumption | omega) (by assumption) (by assumption) ?_
  refine r_iload_n 18 dX3_mayStand_17 rfl rfl ?_
  rotate_left -- leaf: call at pc 18
  · have hq := z01_n.mp c_4
    exact ⟨Or.inr ⟨fun q => hq q.1, rfl⟩, rfl⟩
  · have hq := z01_y.mp c_4
    exact ⟨Or.inl ⟨⟨hq, Or.inl c_10⟩, rfl⟩, rfl⟩
  · have hq := z01_y.mp c_4
    refine r_cv1 21 dX3_mayStand_18 rfl kv_3_95 (by first | assumption | omega) (by assumption) rfl rfl (c_hasMan ly1 m) ?_
    rintro r h' ⟨rfl, rfl⟩
    refine r_if_eq 28 24 dX3_mayStand_21 (by decide) rfl (fun c_21 => ?_) (fun c_21 => ?_)
    refine r_iconst 29 dX3_mayStand_28 rfl rfl ?_
    refine r_zret dX3_mayStand_29 rfl (by first | exact Or.inl rfl | exact Or.inr rfl | assumption | omega) ?_
    rotate_left -- leaf: return at pc 29
    refine r_iconst 25 dX3_mayStand_24 rfl rfl ?_
    refine r_goto 29 dX3_mayStand_25 (by decide) ?_
    refine r_zret dX3_mayStand_29 rfl (by first | exact Or.inl rfl | exact Or.inr rfl | assumption | omega) ?_
    rotate_left -- leaf: return at pc 29
    · have hm := z01_n.mp c_21
      refine ⟨Or.inr ⟨fun q => ?_, rfl⟩, rfl⟩
      rcases q.2 with z | z
      · exact c_10 z
      · exact hm z
    · exact ⟨Or.inl ⟨⟨hq, Or.inr (z01_y.mp c_21)⟩, rfl⟩, rfl⟩
def sFeed (c : Int) (h : zH) : Int × zH := if c < 0 ∨ 127 < c then (-1, h) else if 160 ≤ h 31 1 then (-3, h) else (h 31 1 + 1, up (up h (31 + 1) (h 31 1).toNat c) 31 1 (h 31 1 + 1))
theorem c_feed (ly : LX G) (w : wX h) (c : Int) : Ca l G 1 mX3_feed [vR 0, vI c] h (fun r h' => r = some (vI (sFeed c h).1) ∧ h' = (sFeed c h).2) := by
  obtain ⟨hN, ⟨ly1, ly8, ly16, ly23⟩, ltp, ⟨ls34, ls36, ls38, ls40⟩, ⟨xs0, xs15, xs30, xs33, xs42, xs43, xs44⟩, ⟨xl15, xl30, xl33, xl42, xl43, xl44⟩, ⟨xr0, xr1, xr2, xr3, xr4, xr5, xr6, xr7, xr8⟩, ⟨yr0, yr1⟩, ⟨zr0, zr1, zr2, zr3⟩⟩ := ly
  have xs1 : gs G 1 = 7 := ly1.2.1.1
  have xs8 : gs G 8 = 7 := ly8.2.1.1
  have xs16 : gs G 16 = 7 := ly16.2.1.1
  have xs23 : gs G 23 = 7 := ly23.2.1.1
  have xs31 : gs G 31 = 6 := ltp.2.1.1
  have xs34 : gs G 34 = 5 := ls34.2.1.1
  have xs36 : gs G 36 = 5 := ls36.2.1.1
  have xs38 : gs G 38 = 5 := ls38.2.1.1
  have xs40 : gs G 40 = 5 := ls40.2.1.1
  obtain ⟨⟨w1, w8, w16, w23⟩, wp, wsn, ws42, ws43, wk, ⟨wh34, wh36, wh38, wh40⟩, wt⟩ := w
  have ltp' := ltp
  obtain ⟨⟨pn0, pn1⟩, ⟨ps0, ps1⟩, pr0, pl1⟩ := ltp'
  refine Ca.of (by decide) (Nat.le_of_ble_eq_true rfl) (fun hI hv hH => ?_)
  refine r_iload_n 1 dX3_feed_0 rfl rfl ?_
  refine r_if_lt 10 4 dX3_feed_1 (by decide) rfl (fun c_1 => ?_) (fun c_1 => ?_)
  refine r_iconst 11 dX3_feed_10 rfl rfl ?_
  refine r_iret dX3_feed_11 rfl ?_
  rotate_left -- leaf: return at pc 11
  refine r_iload_n 5 dX3_feed_4 rfl rfl ?_
  refine r_bipush 7 dX3_feed_5 rfl rfl (by decide) ?_
  refine r_icmp_le 12 10 dX3_feed_7 (by decide) rfl (fun c_7 => ?_) (fun c_7 => ?_)
  rotate_left -- leaf: pc 12
  refine r_iconst 11 dX3_feed_10 rfl rfl ?_
  refine r_iret dX3_feed_11 rfl ?_
  rotate_left -- leaf: return at pc 11
  · unfold sFeed
    rw [if_pos (Or.inl c_1)]
    exact ⟨rfl, rfl⟩
  · refine r_aload_n 13 dX3_feed_12 rfl rfl ?_
    refine r_getR 16 dX3_feed_13 rfl kf_3_30 rfl (by first | assumption | omega) (by assumption) (by assumption) ?_
    refine r_iload_n 17 dX3_feed_16 rfl rfl ?_
    rotate_left -- leaf: call at pc 17
    refine r_cv1 20 dX3_feed_17 rfl kv_3_51 (by first | assumption | omega) (by assumption) rfl rfl (c_add ltp wp c (by omega)) ?_
    rintro r h' (⟨q1, rfl, rfl⟩ | ⟨q1, rfl, rfl⟩)
    · refine r_if_eq 33 23 dX3_feed_20 (by decide) rfl (fun c_20 => ?_) (fun c_20 => ?_)
      refine r_bipush 35 dX3_feed_33 rfl rfl (by decide) ?_
      refine r_iret dX3_feed_35 rfl ?_
      rotate_left -- leaf: return at pc 35
      refine r_aload_n 24 dX3_feed_23 rfl rfl ?_
      refine r_getR 27 dX3_feed_24 rfl kf_3_30 rfl (by first | assumption | omega) (by assumption) (by assumption) ?_
      refine r_getI 30 dX3_feed_27 rfl kf_3_55 rfl (by first | assumption | omega) (by assumption) ?_
      refine r_goto 35 dX3_feed_30 (by decide) ?_
      refine r_iret dX3_feed_35 rfl ?_
      rotate_left -- leaf: return at pc 35
      · unfold sFeed
        rw [if_neg (by omega), if_pos q1]
        exact ⟨rfl, rfl⟩
      · omega
    · refine r_if_eq 33 23 dX3_feed_20 (by decide) rfl (fun c_20 => ?_) (fun c_20 => ?_)
      refine r_bipush 35 dX3_feed_33 rfl rfl (by decide) ?_
      refine r_iret dX3_feed_35 rfl ?_
      rotate_left -- leaf: return at pc 35
      refine r_aload_n 24 dX3_feed_23 rfl rfl ?_
      refine r_getR 27 dX3_feed_24 rfl kf_3_30 rfl (by first | assumption | omega) (by assumption) (by assumption) ?_
      refine r_getI 30 dX3_feed_27 rfl kf_3_55 rfl (by first | assumption | omega) (by assumption) ?_
      refine r_goto 35 dX3_feed_30 (by decide) ?_
      refine r_iret dX3_feed_35 rfl ?_
      rotate_left -- leaf: return at pc 35
      · omega
      · unfold sFeed
        rw [if_neg (by omega), if_neg (by omega), up_s]
        exact ⟨rfl, rfl⟩
  · unfold sFeed
    rw [if_pos (Or.inr c_7)]
    exact ⟨rfl, rfl⟩
def sEnd (n : Int) (h : zH) : Int × zH := if n < 0 ∨ h 31 1 < n then (-1, h) else (h 31 1, up h 31 1 n)
theorem c_end (ly : LX G) (n : Int) : Ca l G 0 mX3_end [vR 0, vI n] h (fun r h' => r = some (vI (sEnd n h).1) ∧ h' = (sEnd n h).2) := by
  obtain ⟨hN, ⟨ly1, ly8, ly16, ly23⟩, ltp, ⟨ls34, ls36, ls38, ls40⟩, ⟨xs0, xs15, xs30, xs33, xs42, xs43, xs44⟩, ⟨xl15, xl30, xl33, xl42, xl43, xl44⟩, ⟨xr0, xr1, xr2, xr3, xr4, xr5, xr6, xr7, xr8⟩, ⟨yr0, yr1⟩, ⟨zr0, zr1, zr2, zr3⟩⟩ := ly
  have xs1 : gs G 1 = 7 := ly1.2.1.1
  have xs8 : gs G 8 = 7 := ly8.2.1.1
  have xs16 : gs G 16 = 7 := ly16.2.1.1
  have xs23 : gs G 23 = 7 := ly23.2.1.1
  have xs31 : gs G 31 = 6 := ltp.2.1.1
  have xs34 : gs G 34 = 5 := ls34.2.1.1
  have xs36 : gs G 36 = 5 := ls36.2.1.1
  have xs38 : gs G 38 = 5 := ls38.2.1.1
  have xs40 : gs G 40 = 5 := ls40.2.1.1
  have ltp' := ltp
  obtain ⟨⟨pn0, pn1⟩, ⟨ps0, ps1⟩, pr0, pl1⟩ := ltp'
  refine Ca.of (by decide) (Nat.le_of_ble_eq_true rfl) (fun hI hv hH => ?_)
  refine r_iload_n 1 dX3_end_0 rfl rfl ?_
  refine r_if_lt 15 4 dX3_end_1 (by decide) rfl (fun c_1 => ?_) (fun c_1 => ?_)
  refine r_iconst 16 dX3_end_15 rfl rfl ?_
  refine r_iret dX3_end_16 rfl ?_
  rotate_left -- leaf: return at pc 16
  refine r_iload_n 5 dX3_end_4 rfl rfl ?_
  refine r_aload_n 6 dX3_end_5 rfl rfl ?_
  refine r_getR 9 dX3_end_6 rfl kf_3_30 rfl (by first | assumption | omega) (by assumption) (by assumption) ?_
  refine r_getI 12 dX3_end_9 rfl kf_3_55 rfl (by first | assumption | omega) (by assumption) ?_
  refine r_icmp_le 17 15 dX3_end_12 (by decide) rfl (fun c_12 => ?_) (fun c_12 => ?_)
  refine r_aload_n 18 dX3_end_17 rfl rfl ?_
  refine r_getR 21 dX3_end_18 rfl kf_3_30 rfl (by first | assumption | omega) (by assumption) (by assumption) ?_
  refine r_getI 24 dX3_end_21 rfl kf_3_55 rfl (by first | assumption | omega) (by assumption) ?_
  refine r_istore_n 25 dX3_end_24 rfl rfl rfl ?_
  refine r_aload_n 26 dX3_end_25 rfl rfl ?_
  refine r_getR 29 dX3_end_26 rfl kf_3_30 rfl (by first | assumption | omega) (by assumption) (by assumption) ?_
  refine r_iload_n 30 dX3_end_29 rfl rfl ?_
  refine r_putI 33 dX3_end_30 rfl kf_3_55 rfl rfl (Or.inl rfl) (by first | assumption | omega) (by assumption) ?_
  refine r_iload_n 34 dX3_end_33 rfl rfl ?_
  refine r_iret dX3_end_34 rfl ?_
  rotate_left -- leaf: return at pc 34
  refine r_iconst 16 dX3_end_15 rfl rfl ?_
  refine r_iret dX3_end_16 rfl ?_
  rotate_left -- leaf: return at pc 16
  · unfold sEnd
    rw [if_pos (Or.inl c_1)]
    exact ⟨rfl, rfl⟩
  · unfold sEnd
    rw [if_neg (by omega)]
    exact ⟨rfl, rfl⟩
  · unfold sEnd
    rw [if_pos (Or.inr c_12)]
    exact ⟨rfl, rfl⟩
theorem c_fault (ly : LX G) : Ca l G 0 mX3_fault [vR 0] h (fun r h' => r = some (vI (h 31 2)) ∧ h' = h) := by
  obtain ⟨hN, ⟨ly1, ly8, ly16, ly23⟩, ltp, ⟨ls34, ls36, ls38, ls40⟩, ⟨xs0, xs15, xs30, xs33, xs42, xs43, xs44⟩, ⟨xl15, xl30, xl33, xl42, xl43, xl44⟩, ⟨xr0, xr1, xr2, xr3, xr4, xr5, xr6, xr7, xr8⟩, ⟨yr0, yr1⟩, ⟨zr0, zr1, zr2, zr3⟩⟩ := ly
  have xs1 : gs G 1 = 7 := ly1.2.1.1
  have xs8 : gs G 8 = 7 := ly8.2.1.1
  have xs16 : gs G 16 = 7 := ly16.2.1.1
  have xs23 : gs G 23 = 7 := ly23.2.1.1
  have xs31 : gs G 31 = 6 := ltp.2.1.1
  have xs34 : gs G 34 = 5 := ls34.2.1.1
  have xs36 : gs G 36 = 5 := ls36.2.1.1
  have xs38 : gs G 38 = 5 := ls38.2.1.1
  have xs40 : gs G 40 = 5 := ls40.2.1.1
  have ltp' := ltp
  obtain ⟨⟨pn0, pn1⟩, ⟨ps0, ps1⟩, pr0, pl1⟩ := ltp'
  refine Ca.of (by decide) (Nat.le_of_ble_eq_true rfl) (fun hI hv hH => ?_)
  refine r_aload_n 1 dX3_fault_0 rfl rfl ?_
  refine r_getR 4 dX3_fault_1 rfl kf_3_30 rfl (by first | assumption | omega) (by assumption) (by assumption) ?_
  refine r_getI 7 dX3_fault_4 rfl kf_3_63 rfl (by first | assumption | omega) (by assumption) ?_
  refine r_iret dX3_fault_7 rfl ?_
  rotate_left -- leaf: return at pc 7
  exact ⟨rfl, rfl⟩
def qRule (x : Int) (h : zH) : Int := if x = 0 then h 1 6 else if x = 1 then h 1 7 else if x = 2 then h 1 9 else if x = 3 then h 1 8 else if x = 4 then orN (fun j => decide (¬ h (1 + 3) j = -4)) 12 else if x = 5 then hmA h 1 else -1
theorem c_rule (ly : LX G) (w : wX h) (x : Int) : Ca l G 5 mX3_rule [vR 0, vI x] h (fun r h' => r = some (vI (qRule x h)) ∧ h' = h) := by
  obtain ⟨hN, ⟨ly1, ly8, ly16, ly23⟩, ltp, ⟨ls34, ls36, ls38, ls40⟩, ⟨xs0, xs15, xs30, xs33, xs42, xs43, xs44⟩, ⟨xl15, xl30, xl33, xl42, xl43, xl44⟩, ⟨xr0, xr1, xr2, xr3, xr4, xr5, xr6, xr7, xr8⟩, ⟨yr0, yr1⟩, ⟨zr0, zr1, zr2, zr3⟩⟩ := ly
  have xs1 : gs G 1 = 7 := ly1.2.1.1
  have xs8 : gs G 8 = 7 := ly8.2.1.1
  have xs16 : gs G 16 = 7 := ly16.2.1.1
  have xs23 : gs G 23 = 7 := ly23.2.1.1
  have xs31 : gs G 31 = 6 := ltp.2.1.1
  have xs34 : gs G 34 = 5 := ls34.2.1.1
  have xs36 : gs G 36 = 5 := ls36.2.1.1
  have xs38 : gs G 38 = 5 := ls38.2.1.1
  have xs40 : gs G 40 = 5 := ls40.2.1.1
  obtain ⟨⟨w1, w8, w16, w23⟩, wp, wsn, ws42, ws43, wk, ⟨wh34, wh36, wh38, wh40⟩, wt⟩ := w
  have ly1' := ly1
  obtain ⟨⟨tn0, tn1, tn2, tn3, tn4, tn5, tn6⟩, ⟨ts0, ts1, ts2, ts3, ts4, ts5, ts6⟩, ⟨tr0, tr1, tr2, tr3, tr4, tr5⟩, ⟨tl1, tl2, tl3, tl4, tl5, tl6⟩⟩ := ly1'
  refine Ca.of (by decide) (Nat.le_of_ble_eq_true rfl) (fun hI hv hH => ?_)
  refine r_iload_n 1 dX3_rule_0 rfl rfl ?_
  by_cases k0 : x = 0
  · subst k0
    refine r_tabIn 40 dX3_rule_1 (by decide) (by decide) rfl (by decide) ?_
    refine r_aload_n 41 dX3_rule_40 rfl rfl ?_
    refine r_getR 44 dX3_rule_41 rfl kf_3_10 rfl (by first | assumption | omega) (by assumption) (by assumption) ?_
    refine r_getI 47 dX3_rule_44 rfl kf_3_76 rfl (by first | assumption | omega) (by assumption) ?_
    refine r_iret dX3_rule_47 rfl ?_
    rotate_left -- leaf: return at pc 47
    exact ⟨rfl, rfl⟩
  by_cases k1 : x = 1
  · subst k1
    refine r_tabIn 48 dX3_rule_1 (by decide) (by decide) rfl (by decide) ?_
    refine r_aload_n 49 dX3_rule_48 rfl rfl ?_
    refine r_getR 52 dX3_rule_49 rfl kf_3_10 rfl (by first | assumption | omega) (by assumption) (by assumption) ?_
    refine r_getI 55 dX3_rule_52 rfl kf_3_79 rfl (by first | assumption | omega) (by assumption) ?_
    refine r_iret dX3_rule_55 rfl ?_
    rotate_left -- leaf: return at pc 55
    exact ⟨rfl, rfl⟩
  by_cases k2 : x = 2
  · subst k2
    refine r_tabIn 56 dX3_rule_1 (by decide) (by decide) rfl (by decide) ?_
    refine r_aload_n 57 dX3_rule_56 rfl rfl ?_
    refine r_getR 60 dX3_rule_57 rfl kf_3_10 rfl (by first | assumption | omega) (by assumption) (by assumption) ?_
    refine r_getI 63 dX3_rule_60 rfl kf_3_82 rfl (by first | assumption | omega) (by assumption) ?_
    refine r_iret dX3_rule_63 rfl ?_
    rotate_left -- leaf: return at pc 63
    exact ⟨rfl, rfl⟩
  by_cases k3 : x = 3
  · subst k3
    refine r_tabIn 64 dX3_rule_1 (by decide) (by decide) rfl (by decide) ?_
    refine r_aload_n 65 dX3_rule_64 rfl rfl ?_
    refine r_getR 68 dX3_rule_65 rfl kf_3_10 rfl (by first | assumption | omega) (by assumption) (by assumption) ?_
    refine r_getI 71 dX3_rule_68 rfl kf_3_85 rfl (by first | assumption | omega) (by assumption) ?_
    refine r_iret dX3_rule_71 rfl ?_
    rotate_left -- leaf: return at pc 71
    exact ⟨rfl, rfl⟩
  by_cases k4 : x = 4
  · subst k4
    refine r_tabIn 72 dX3_rule_1 (by decide) (by decide) rfl (by decide) ?_
    refine r_aload_n 73 dX3_rule_72 rfl rfl ?_
    refine r_getR 76 dX3_rule_73 rfl kf_3_10 rfl (by first | assumption | omega) (by assumption) (by assumption) ?_
    rotate_left -- leaf: call at pc 76
    refine r_cv0 79 dX3_rule_76 rfl kv_3_88 (by first | assumption | omega) (by assumption) rfl rfl (c_hoursStood ly1) ?_
    rintro r h' ⟨rfl, rfl⟩
    refine r_iret dX3_rule_79 rfl ?_
    rotate_left -- leaf: return at pc 79
    exact ⟨rfl, rfl⟩
  by_cases k5 : x = 5
  · subst k5
    refine r_tabIn 80 dX3_rule_1 (by decide) (by decide) rfl (by decide) ?_
    refine r_aload_n 81 dX3_rule_80 rfl rfl ?_
    refine r_getR 84 dX3_rule_81 rfl kf_3_10 rfl (by first | assumption | omega) (by assumption) (by assumption) ?_
    rotate_left -- leaf: call at pc 84
    refine r_cv0 87 dX3_rule_84 rfl kv_3_92 (by first | assumption | omega) (by assumption) rfl rfl (c_harm ly1 w1) ?_
    rintro r h' ⟨rfl, rfl⟩
    refine r_iret dX3_rule_87 rfl ?_
    rotate_left -- leaf: return at pc 87
    exact ⟨rfl, rfl⟩
  · refine r_tabOut 88 dX3_rule_1 (by omega) (by decide) ?_
    refine r_iconst 89 dX3_rule_88 rfl rfl ?_
    refine r_iret dX3_rule_89 rfl ?_
    rotate_left -- leaf: return at pc 89
    exact ⟨by simp [qRule, k0, k1, k2, k3, k4, k5], rfl⟩
def qMan (m x : Int) (h : zH) : Int := if ¬ (0 ≤ m ∧ m < h 1 6) then -1 else if x = 0 then h (1 + 1) m.toNat else if x = 1 then h (1 + 2) m.toNat else if x = 2 then orN (fun j => decide (h (1 + 3) j = m)) 12 else if x = 3 then lsA h 1 m else -1
theorem c_man (ly : LX G) (w : wX h) (m x : Int) : Ca l G 2 mX3_man [vR 0, vI m, vI x] h (fun r h' => r = some (vI (qMan m x h)) ∧ h' = h) := by
  obtain ⟨hN, ⟨ly1, ly8, ly16, ly23⟩, ltp, ⟨ls34, ls36, ls38, ls40⟩, ⟨xs0, xs15, xs30, xs33, xs42, xs43, xs44⟩, ⟨xl15, xl30, xl33, xl42, xl43, xl44⟩, ⟨xr0, xr1, xr2, xr3, xr4, xr5, xr6, xr7, xr8⟩, ⟨yr0, yr1⟩, ⟨zr0, zr1, zr2, zr3⟩⟩ := ly
  have xs1 : gs G 1 = 7 := ly1.2.1.1
  have xs8 : gs G 8 = 7 := ly8.2.1.1
  have xs16 : gs G 16 = 7 := ly16.2.1.1
  have xs23 : gs G 23 = 7 := ly23.2.1.1
  have xs31 : gs G 31 = 6 := ltp.2.1.1
  have xs34 : gs G 34 = 5 := ls34.2.1.1
  have xs36 : gs G 36 = 5 := ls36.2.1.1
  have xs38 : gs G 38 = 5 := ls38.2.1.1
  have xs40 : gs G 40 = 5 := ls40.2.1.1
  obtain ⟨⟨w1, w8, w16, w23⟩, wp, wsn, ws42, ws43, wk, ⟨wh34, wh36, wh38, wh40⟩, wt⟩ := w
  have ly1' := ly1
  obtain ⟨⟨tn0, tn1, tn2, tn3, tn4, tn5, tn6⟩, ⟨ts0, ts1, ts2, ts3, ts4, ts5, ts6⟩, ⟨tr0, tr1, tr2, tr3, tr4, tr5⟩, ⟨tl1, tl2, tl3, tl4, tl5, tl6⟩⟩ := ly1'
  have w1' := w1
  obtain ⟨tw1, tw2, tw3, tw4, tw5, tw6, tw7, tw8, tw9, tw10⟩ := w1'
  refine Ca.of (by decide) (Nat.le_of_ble_eq_true rfl) (fun hI hv hH => ?_)
  refine r_aload_n 1 dX3_man_0 rfl rfl ?_
  refine r_getR 4 dX3_man_1 rfl kf_3_10 rfl (by first | assumption | omega) (by assumption) (by assumption) ?_
  refine r_iload_n 5 dX3_man_4 rfl rfl ?_
  rotate_left -- leaf: call at pc 5
  refine r_cv1 8 dX3_man_5 rfl kv_3_95 (by first | assumption | omega) (by assumption) rfl rfl (c_hasMan ly1 m) ?_
  rintro r h' ⟨rfl, rfl⟩
  refine r_if_ne 13 11 dX3_man_8 (by decide) rfl (fun c_8 => ?_) (fun c_8 => ?_)
  rotate_left -- leaf: pc 13
  refine r_iconst 12 dX3_man_11 rfl rfl ?_
  refine r_iret dX3_man_12 rfl ?_
  rotate_left -- leaf: return at pc 12
  · have hm := z01_y.mp c_8
    have hq : ∀ z, z = (if x = 0 then h' (1 + 1) m.toNat else if x = 1 then h' (1 + 2) m.toNat else if x = 2 then (orN (fun j => decide (h' (1 + 3) j = m)) 12 : Int) else if x = 3 then lsA h' 1 m else -1) → z = qMan m x h' := by
      intro z hz
      unfold qMan
      rw [if_neg (fun q => q hm)]
      exact hz
    refine r_iload_n 14 dX3_man_13 rfl rfl ?_
    by_cases k0 : x = 0
    · subst k0
      refine r_tabIn 44 dX3_man_14 (by decide) (by decide) rfl (by decide) ?_
      refine r_aload_n 45 dX3_man_44 rfl rfl ?_
      refine r_getR 48 dX3_man_45 rfl kf_3_10 rfl (by first | assumption | omega) (by assumption) (by assumption) ?_
      refine r_getR 51 dX3_man_48 rfl kf_3_98 rfl (by first | assumption | omega) (by assumption) (by assumption) ?_
      refine r_iload_n 52 dX3_man_51 rfl rfl ?_
      refine r_iald 53 dX3_man_52 rfl (by first | assumption | omega) (by assumption) (by first | omega | (simp only [Int.toNat_natCast]; omega)) (by first | omega | (simp only [Int.toNat_natCast]; omega)) ?_
      refine r_iret dX3_man_53 rfl ?_
      rotate_left -- leaf: return at pc 53
      exact ⟨congrArg (fun z => some (vI z)) (hq _ (by simp)), rfl⟩
    by_cases k1 : x = 1
    · subst k1
      refine r_tabIn 54 dX3_man_14 (by decide) (by decide) rfl (by decide) ?_
      refine r_aload_n 55 dX3_man_54 rfl rfl ?_
      refine r_getR 58 dX3_man_55 rfl kf_3_10 rfl (by first | assumption | omega) (by assumption) (by assumption) ?_
      refine r_getR 61 dX3_man_58 rfl kf_3_101 rfl (by first | assumption | omega) (by assumption) (by assumption) ?_
      refine r_iload_n 62 dX3_man_61 rfl rfl ?_
      refine r_iald 63 dX3_man_62 rfl (by first | assumption | omega) (by assumption) (by first | omega | (simp only [Int.toNat_natCast]; omega)) (by first | omega | (simp only [Int.toNat_natCast]; omega)) ?_
      refine r_iret dX3_man_63 rfl ?_
      rotate_left -- leaf: return at pc 63
      exact ⟨congrArg (fun z => some (vI z)) (hq _ (by simp)), rfl⟩
    by_cases k2 : x = 2
    · subst k2
      refine r_tabIn 64 dX3_man_14 (by decide) (by decide) rfl (by decide) ?_
      refine r_aload_n 65 dX3_man_64 rfl rfl ?_
      refine r_getR 68 dX3_man_65 rfl kf_3_10 rfl (by first | assumption | omega) (by assumption) (by assumption) ?_
      refine r_iload_n 69 dX3_man_68 rfl rfl ?_
      rotate_left -- leaf: call at pc 69
      refine r_cv1 72 dX3_man_69 rfl kv_3_104 (by first | assumption | omega) (by assumption) rfl rfl (c_hoursOf ly1 m) ?_
      rintro r h'' ⟨rfl, rfl⟩
      refine r_iret dX3_man_72 rfl ?_
      rotate_left -- leaf: return at pc 72
      exact ⟨congrArg (fun z => some (vI z)) (hq _ (by simp)), rfl⟩
    by_cases k3 : x = 3
    · subst k3
      refine r_tabIn 73 dX3_man_14 (by decide) (by decide) rfl (by decide) ?_
      refine r_aload_n 74 dX3_man_73 rfl rfl ?_
      refine r_getR 77 dX3_man_74 rfl kf_3_10 rfl (by first | assumption | omega) (by assumption) (by assumption) ?_
      refine r_iload_n 78 dX3_man_77 rfl rfl ?_
      rotate_left -- leaf: call at pc 78
      refine r_cv1 81 dX3_man_78 rfl kv_3_108 (by first | assumption | omega) (by assumption) rfl rfl (c_longestStood ly1 m) ?_
      rintro r h'' ⟨rfl, rfl⟩
      refine r_iret dX3_man_81 rfl ?_
      rotate_left -- leaf: return at pc 81
      exact ⟨congrArg (fun z => some (vI z)) (hq _ (by simp)), rfl⟩
    · refine r_tabOut 82 dX3_man_14 (by omega) (by decide) ?_
      refine r_iconst 83 dX3_man_82 rfl rfl ?_
      refine r_iret dX3_man_83 rfl ?_
      rotate_left -- leaf: return at pc 83
      exact ⟨by rw [hq (-1) (by simp [k0, k1, k2, k3])], rfl⟩
  · have hm := z01_n.mp c_8
    exact ⟨by simp [qMan, hm], rfl⟩
def qRota (x : Int) (h : zH) : Int := if 0 ≤ x ∧ x < 12 then h (1 + 3) x.toNat else -1
theorem c_rota (ly : LX G) (x : Int) : Ca l G 1 mX3_rota [vR 0, vI x] h (fun r h' => r = some (vI (qRota x h)) ∧ h' = h) := by
  obtain ⟨hN, ⟨ly1, ly8, ly16, ly23⟩, ltp, ⟨ls34, ls36, ls38, ls40⟩, ⟨xs0, xs15, xs30, xs33, xs42, xs43, xs44⟩, ⟨xl15, xl30, xl33, xl42, xl43, xl44⟩, ⟨xr0, xr1, xr2, xr3, xr4, xr5, xr6, xr7, xr8⟩, ⟨yr0, yr1⟩, ⟨zr0, zr1, zr2, zr3⟩⟩ := ly
  have xs1 : gs G 1 = 7 := ly1.2.1.1
  have xs8 : gs G 8 = 7 := ly8.2.1.1
  have xs16 : gs G 16 = 7 := ly16.2.1.1
  have xs23 : gs G 23 = 7 := ly23.2.1.1
  have xs31 : gs G 31 = 6 := ltp.2.1.1
  have xs34 : gs G 34 = 5 := ls34.2.1.1
  have xs36 : gs G 36 = 5 := ls36.2.1.1
  have xs38 : gs G 38 = 5 := ls38.2.1.1
  have xs40 : gs G 40 = 5 := ls40.2.1.1
  have ly1' := ly1
  obtain ⟨⟨tn0, tn1, tn2, tn3, tn4, tn5, tn6⟩, ⟨ts0, ts1, ts2, ts3, ts4, ts5, ts6⟩, ⟨tr0, tr1, tr2, tr3, tr4, tr5⟩, ⟨tl1, tl2, tl3, tl4, tl5, tl6⟩⟩ := ly1'
  refine Ca.of (by decide) (Nat.le_of_ble_eq_true rfl) (fun hI hv hH => ?_)
  refine r_iload_n 1 dX3_rota_0 rfl rfl ?_
  rotate_left -- leaf: call at pc 1
  refine r_cs1 4 dX3_rota_1 rfl ks_3_111 rfl rfl (c_isHour x) ?_
  rintro r h' ⟨rfl, rfl⟩
  refine r_if_eq 19 7 dX3_rota_4 (by decide) rfl (fun c_4 => ?_) (fun c_4 => ?_)
  refine r_iconst 20 dX3_rota_19 rfl rfl ?_
  refine r_iret dX3_rota_20 rfl ?_
  rotate_left -- leaf: return at pc 20
  rotate_left -- leaf: pc 7
  · have hq := z01_n.mp c_4
    exact ⟨by simp only [qRota, if_neg hq], rfl⟩
  · have hq := z01_y.mp c_4
    refine r_aload_n 8 dX3_rota_7 rfl rfl ?_
    refine r_getR 11 dX3_rota_8 rfl kf_3_10 rfl (by first | assumption | omega) (by assumption) (by assumption) ?_
    refine r_getR 14 dX3_rota_11 rfl kf_3_114 rfl (by first | assumption | omega) (by assumption) (by assumption) ?_
    refine r_iload_n 15 dX3_rota_14 rfl rfl ?_
    refine r_iald 16 dX3_rota_15 rfl (by first | assumption | omega) (by assumption) (by first | omega | (simp only [Int.toNat_natCast]; omega)) (by first | omega | (simp only [Int.toNat_natCast]; omega)) ?_
    refine r_goto 20 dX3_rota_16 (by decide) ?_
    refine r_iret dX3_rota_20 rfl ?_
    rotate_left -- leaf: return at pc 20
    exact ⟨by simp only [qRota, if_pos hq], rfl⟩
def qDeed (i x : Int) (h : zH) : Int := if ¬ (0 ≤ i ∧ i < h 1 7) then -1 else if x = 0 then h (1 + 4) i.toNat else if x = 1 then h (1 + 5) i.toNat else if x = 2 then dnA h 1 i.toNat else if x = 3 then haA h 1 i.toNat else -1
theorem c_deed (ly : LX G) (w : wX h) (i x : Int) : Ca l G 5 mX3_deed [vR 0, vI i, vI x] h (fun r h' => r = some (vI (qDeed i x h)) ∧ h' = h) := by
  obtain ⟨hN, ⟨ly1, ly8, ly16, ly23⟩, ltp, ⟨ls34, ls36, ls38, ls40⟩, ⟨xs0, xs15, xs30, xs33, xs42, xs43, xs44⟩, ⟨xl15, xl30, xl33, xl42, xl43, xl44⟩, ⟨xr0, xr1, xr2, xr3, xr4, xr5, xr6, xr7, xr8⟩, ⟨yr0, yr1⟩, ⟨zr0, zr1, zr2, zr3⟩⟩ := ly
  have xs1 : gs G 1 = 7 := ly1.2.1.1
  have xs8 : gs G 8 = 7 := ly8.2.1.1
  have xs16 : gs G 16 = 7 := ly16.2.1.1
  have xs23 : gs G 23 = 7 := ly23.2.1.1
  have xs31 : gs G 31 = 6 := ltp.2.1.1
  have xs34 : gs G 34 = 5 := ls34.2.1.1
  have xs36 : gs G 36 = 5 := ls36.2.1.1
  have xs38 : gs G 38 = 5 := ls38.2.1.1
  have xs40 : gs G 40 = 5 := ls40.2.1.1
  obtain ⟨⟨w1, w8, w16, w23⟩, wp, wsn, ws42, ws43, wk, ⟨wh34, wh36, wh38, wh40⟩, wt⟩ := w
  have ly1' := ly1
  obtain ⟨⟨tn0, tn1, tn2, tn3, tn4, tn5, tn6⟩, ⟨ts0, ts1, ts2, ts3, ts4, ts5, ts6⟩, ⟨tr0, tr1, tr2, tr3, tr4, tr5⟩, ⟨tl1, tl2, tl3, tl4, tl5, tl6⟩⟩ := ly1'
  have w1' := w1
  obtain ⟨tw1, tw2, tw3, tw4, tw5, tw6, tw7, tw8, tw9, tw10⟩ := w1'
  refine Ca.of (by decide) (Nat.le_of_ble_eq_true rfl) (fun hI hv hH => ?_)
  refine r_aload_n 1 dX3_deed_0 rfl rfl ?_
  refine r_getR 4 dX3_deed_1 rfl kf_3_10 rfl (by first | assumption | omega) (by assumption) (by assumption) ?_
  refine r_iload_n 5 dX3_deed_4 rfl rfl ?_
  rotate_left -- leaf: call at pc 5
  refine r_cv1 8 dX3_deed_5 rfl kv_3_117 (by first | assumption | omega) (by assumption) rfl rfl (c_hasDeed ly1 i) ?_
  rintro r h' ⟨rfl, rfl⟩
  refine r_if_ne 13 11 dX3_deed_8 (by decide) rfl (fun c_8 => ?_) (fun c_8 => ?_)
  rotate_left -- leaf: pc 13
  refine r_iconst 12 dX3_deed_11 rfl rfl ?_
  refine r_iret dX3_deed_12 rfl ?_
  rotate_left -- leaf: return at pc 12
  · have hm := z01_y.mp c_8
    obtain ⟨i, rfl⟩ := nat_of hm.1
    have hq : ∀ z, z = (if x = 0 then h' (1 + 4) i else if x = 1 then h' (1 + 5) i else if x = 2 then dnA h' 1 i else if x = 3 then haA h' 1 i else -1) → z = qDeed i x h' := by
      intro z hz
      unfold qDeed
      rw [if_neg (fun q => q hm), Int.toNat_natCast]
      exact hz
    refine r_iload_n 14 dX3_deed_13 rfl rfl ?_
    by_cases k0 : x = 0
    · subst k0
      refine r_tabIn 44 dX3_deed_14 (by decide) (by decide) rfl (by decide) ?_
      refine r_aload_n 45 dX3_deed_44 rfl rfl ?_
      refine r_getR 48 dX3_deed_45 rfl kf_3_10 rfl (by first | assumption | omega) (by assumption) (by assumption) ?_
      refine r_getR 51 dX3_deed_48 rfl kf_3_120 rfl (by first | assumption | omega) (by assumption) (by assumption) ?_
      refine r_iload_n 52 dX3_deed_51 rfl rfl ?_
      refine r_iald 53 dX3_deed_52 rfl (by first | assumption | omega) (by assumption) (by first | omega | (simp only [Int.toNat_natCast]; omega)) (by first | omega | (simp only [Int.toNat_natCast]; omega)) ?_
      refine r_iret dX3_deed_53 rfl ?_
      rotate_left -- leaf: return at pc 53
      exact ⟨congrArg (fun z => some (vI z)) (hq _ (by simp)), rfl⟩
    by_cases k1 : x = 1
    · subst k1
      refine r_tabIn 54 dX3_deed_14 (by decide) (by decide) rfl (by decide) ?_
      refine r_aload_n 55 dX3_deed_54 rfl rfl ?_
      refine r_getR 58 dX3_deed_55 rfl kf_3_10 rfl (by first | assumption | omega) (by assumption) (by assumption) ?_
      refine r_getR 61 dX3_deed_58 rfl kf_3_123 rfl (by first | assumption | omega) (by assumption) (by assumption) ?_
      refine r_iload_n 62 dX3_deed_61 rfl rfl ?_
      refine r_iald 63 dX3_deed_62 rfl (by first | assumption | omega) (by assumption) (by first | omega | (simp only [Int.toNat_natCast]; omega)) (by first | omega | (simp only [Int.toNat_natCast]; omega)) ?_
      refine r_iret dX3_deed_63 rfl ?_
      rotate_left -- leaf: return at pc 63
      exact ⟨congrArg (fun z => some (vI z)) (hq _ (by simp)), rfl⟩
    by_cases k2 : x = 2
    · subst k2
      refine r_tabIn 64 dX3_deed_14 (by decide) (by decide) rfl (by decide) ?_
      refine r_aload_n 65 dX3_deed_64 rfl rfl ?_
      refine r_getR 68 dX3_deed_65 rfl kf_3_10 rfl (by first | assumption | omega) (by assumption) (by assumption) ?_
      refine r_iload_n 69 dX3_deed_68 rfl rfl ?_
      rotate_left -- leaf: call at pc 69
      refine r_cv1 72 dX3_deed_69 rfl kv_3_126 (by first | assumption | omega) (by assumption) rfl rfl (c_doneAt ly1 w1 i (by omega)) ?_
      rintro r h'' ⟨rfl, rfl⟩
      refine r_iret dX3_deed_72 rfl ?_
      rotate_left -- leaf: return at pc 72
      exact ⟨congrArg (fun z => some (vI z)) (hq _ (by simp)), rfl⟩
    by_cases k3 : x = 3
    · subst k3
      refine r_tabIn 73 dX3_deed_14 (by decide) (by decide) rfl (by decide) ?_
      refine r_aload_n 74 dX3_deed_73 rfl rfl ?_
      refine r_getR 77 dX3_deed_74 rfl kf_3_10 rfl (by first | assumption | omega) (by assumption) (by assumption) ?_
      refine r_iload_n 78 dX3_deed_77 rfl rfl ?_
      refine r_aload_n 79 dX3_deed_78 rfl rfl ?_
      refine r_getR 82 dX3_deed_79 rfl kf_3_10 rfl (by first | assumption | omega) (by assumption) (by assumption) ?_
      refine r_iload_n 83 dX3_deed_82 rfl rfl ?_
      rotate_left -- leaf: call at pc 83
      refine r_cv1 86 dX3_deed_83 rfl kv_3_126 (by first | assumption | omega) (by assumption) rfl rfl (c_doneAt ly1 w1 i (by omega)) ?_
      rintro r h'' ⟨rfl, rfl⟩
      refine r_cv2 89 dX3_deed_86 rfl kv_3_129 (by first | assumption | omega) (by assumption) rfl rfl (c_harmAt ly1 w1 i (by omega) (dnA h'' 1 i) (dnA_in i)) ?_
      rintro r h3 ⟨rfl, rfl⟩
      refine r_iret dX3_deed_89 rfl ?_
      rotate_left -- leaf: return at pc 89
      exact ⟨congrArg (fun z => some (vI z)) (hq _ (by simp [haA])), rfl⟩
    · refine r_tabOut 90 dX3_deed_14 (by omega) (by decide) ?_
      refine r_iconst 91 dX3_deed_90 rfl rfl ?_
      refine r_iret dX3_deed_91 rfl ?_
      rotate_left -- leaf: return at pc 91
      exact ⟨by rw [hq (-1) (by simp [k0, k1, k2, k3])], rfl⟩
  · have hm := z01_n.mp c_8
    exact ⟨by simp [qDeed, hm], rfl⟩
end SX
