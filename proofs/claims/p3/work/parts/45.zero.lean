/-! where there are no MEN, no DEEDS, nothing on THE TAPE -/
section SX
variable {l : Launch} {G : zG} {h : zH}
theorem c_lean0 (ly : LX G) (h0 : h 1 6 = 0) (m i q : Int) : Ca l G 1 mX3_lean [vR 0, vI m, vI i, vI q] h (fun r h' => r = some (vI (-1)) ∧ h' = h) := by
  obtain ⟨hN, ⟨ly1, ly8, ly16, ly23⟩, ltp, ⟨ls34, ls36, ls38, ls40⟩, ⟨xs0, xs15, xs30, xs33, xs42, xs43, xs44⟩, ⟨xl15, xl30, xl33, xl42, xl43, xl44⟩, ⟨xr0, xr1, xr2, xr3, xr4, xr5, xr6, xr7, xr8⟩, ⟨yr0, yr1⟩, ⟨zr0, zr1, zr2, zr3⟩⟩ := ly
  have xs1 : gs G 1 = 7 := ly1.2.1.1
  have xs8 : gs G 8 = 7 := ly8.2.1.1
  have xs16 : gs G 16 = 7 := ly16.2.1.1
  have xs23 : gs G 23 = 7 := ly23.2.1.1
  have xs31 : gs G 31 = 6 := ltp.2.1.1
  have xs34 : gs G 34 = 5 := ls34.2.1.1
  have xs36 : gs G 36 = 5 := ls36.2.1.1
  have xs38 : gs G 38 = 5 := ls38.2.1.1
  have xs40 : gs G 40 = 5 := ls40.2.1.1
  refine Ca.of (by decide) (Nat.le_of_ble_eq_true rfl) (fun hI hv hH => ?_)
  refine r_aload_n 1 dX3_lean_0 rfl rfl ?_
  refine r_getR 4 dX3_lean_1 rfl kf_3_10 rfl (by first | assumption | omega) (by assumption) (by assumption) ?_
  refine r_iload_n 5 dX3_lean_4 rfl rfl ?_
  rotate_left -- leaf: call at pc 5
  refine r_cv1 8 dX3_lean_5 rfl kv_3_95 (by first | assumption | omega) (by assumption) rfl rfl (c_hasMan ly1 m) ?_
  rintro r h' ⟨rfl, rfl⟩
  rw [z01_f (by omega)]
  refine r_if_eq 29 11 dX3_lean_8 (by decide) rfl (fun c_8 => ?_) (fun c_8 => ?_)
  refine r_iconst 30 dX3_lean_29 rfl rfl ?_
  refine r_iret dX3_lean_30 rfl ?_
  rotate_left -- leaf: return at pc 30
  rotate_left -- leaf: pc 11
  · exact ⟨rfl, rfl⟩
  · omega
theorem c_leans0 (ly : LX G) (h0 : h 1 6 = 0) (m : Int) : Ca l G 1 mX3_leans [vR 0, vI m] h (fun r h' => r = some (vI (-1)) ∧ h' = h) := by
  obtain ⟨hN, ⟨ly1, ly8, ly16, ly23⟩, ltp, ⟨ls34, ls36, ls38, ls40⟩, ⟨xs0, xs15, xs30, xs33, xs42, xs43, xs44⟩, ⟨xl15, xl30, xl33, xl42, xl43, xl44⟩, ⟨xr0, xr1, xr2, xr3, xr4, xr5, xr6, xr7, xr8⟩, ⟨yr0, yr1⟩, ⟨zr0, zr1, zr2, zr3⟩⟩ := ly
  have xs1 : gs G 1 = 7 := ly1.2.1.1
  have xs8 : gs G 8 = 7 := ly8.2.1.1
  have xs16 : gs G 16 = 7 := ly16.2.1.1
  have xs23 : gs G 23 = 7 := ly23.2.1.1
  have xs31 : gs G 31 = 6 := ltp.2.1.1
  have xs34 : gs G 34 = 5 := ls34.2.1.1
  have xs36 : gs G 36 = 5 := ls36.2.1.1
  have xs38 : gs G 38 = 5 := ls38.2.1.1
  have xs40 : gs G 40 = 5 := ls40.2.1.1
  refine Ca.of (by decide) (Nat.le_of_ble_eq_true rfl) (fun hI hv hH => ?_)
  refine r_aload_n 1 dX3_leans_0 rfl rfl ?_
  refine r_getR 4 dX3_leans_1 rfl kf_3_10 rfl (by first | assumption | omega) (by assumption) (by assumption) ?_
  refine r_iload_n 5 dX3_leans_4 rfl rfl ?_
  rotate_left -- leaf: call at pc 5
  refine r_cv1 8 dX3_leans_5 rfl kv_3_95 (by first | assumption | omega) (by assumption) rfl rfl (c_hasMan ly1 m) ?_
  rintro r h' ⟨rfl, rfl⟩
  rw [z01_f (by omega)]
  refine r_if_eq 19 11 dX3_leans_8 (by decide) rfl (fun c_8 => ?_) (fun c_8 => ?_)
  refine r_iconst 20 dX3_leans_19 rfl rfl ?_
  refine r_iret dX3_leans_20 rfl ?_
  rotate_left -- leaf: return at pc 20
  rotate_left -- leaf: pc 11
  · exact ⟨rfl, rfl⟩
  · omega
theorem c_kinds0 (ly : LX G) (h0 : h 1 6 = 0) (m : Int) : Ca l G 1 mX3_kinds [vR 0, vI m] h (fun r h' => r = some (vI (-1)) ∧ h' = h) := by
  obtain ⟨hN, ⟨ly1, ly8, ly16, ly23⟩, ltp, ⟨ls34, ls36, ls38, ls40⟩, ⟨xs0, xs15, xs30, xs33, xs42, xs43, xs44⟩, ⟨xl15, xl30, xl33, xl42, xl43, xl44⟩, ⟨xr0, xr1, xr2, xr3, xr4, xr5, xr6, xr7, xr8⟩, ⟨yr0, yr1⟩, ⟨zr0, zr1, zr2, zr3⟩⟩ := ly
  have xs1 : gs G 1 = 7 := ly1.2.1.1
  have xs8 : gs G 8 = 7 := ly8.2.1.1
  have xs16 : gs G 16 = 7 := ly16.2.1.1
  have xs23 : gs G 23 = 7 := ly23.2.1.1
  have xs31 : gs G 31 = 6 := ltp.2.1.1
  have xs34 : gs G 34 = 5 := ls34.2.1.1
  have xs36 : gs G 36 = 5 := ls36.2.1.1
  have xs38 : gs G 38 = 5 := ls38.2.1.1
  have xs40 : gs G 40 = 5 := ls40.2.1.1
  refine Ca.of (by decide) (Nat.le_of_ble_eq_true rfl) (fun hI hv hH => ?_)
  refine r_aload_n 1 dX3_kinds_0 rfl rfl ?_
  refine r_getR 4 dX3_kinds_1 rfl kf_3_10 rfl (by first | assumption | omega) (by assumption) (by assumption) ?_
  refine r_iload_n 5 dX3_kinds_4 rfl rfl ?_
  rotate_left -- leaf: call at pc 5
  refine r_cv1 8 dX3_kinds_5 rfl kv_3_95 (by first | assumption | omega) (by assumption) rfl rfl (c_hasMan ly1 m) ?_
  rintro r h' ⟨rfl, rfl⟩
  rw [z01_f (by omega)]
  refine r_if_ne 13 11 dX3_kinds_8 (by decide) rfl (fun c_8 => ?_) (fun c_8 => ?_)
  rotate_left -- leaf: pc 13
  refine r_iconst 12 dX3_kinds_11 rfl rfl ?_
  refine r_iret dX3_kinds_12 rfl ?_
  rotate_left -- leaf: return at pc 12
  · omega
  · exact ⟨rfl, rfl⟩
theorem c_ask0 (ly : LX G) (h0 : h 1 6 = 0) (m x : Int) : Ca l G 1 mX3_ask [vR 0, vI m, vI x] h (fun r h' => r = some (vI (-1)) ∧ h' = h) := by
  obtain ⟨hN, ⟨ly1, ly8, ly16, ly23⟩, ltp, ⟨ls34, ls36, ls38, ls40⟩, ⟨xs0, xs15, xs30, xs33, xs42, xs43, xs44⟩, ⟨xl15, xl30, xl33, xl42, xl43, xl44⟩, ⟨xr0, xr1, xr2, xr3, xr4, xr5, xr6, xr7, xr8⟩, ⟨yr0, yr1⟩, ⟨zr0, zr1, zr2, zr3⟩⟩ := ly
  have xs1 : gs G 1 = 7 := ly1.2.1.1
  have xs8 : gs G 8 = 7 := ly8.2.1.1
  have xs16 : gs G 16 = 7 := ly16.2.1.1
  have xs23 : gs G 23 = 7 := ly23.2.1.1
  have xs31 : gs G 31 = 6 := ltp.2.1.1
  have xs34 : gs G 34 = 5 := ls34.2.1.1
  have xs36 : gs G 36 = 5 := ls36.2.1.1
  have xs38 : gs G 38 = 5 := ls38.2.1.1
  have xs40 : gs G 40 = 5 := ls40.2.1.1
  refine Ca.of (by decide) (Nat.le_of_ble_eq_true rfl) (fun hI hv hH => ?_)
  refine r_aload_n 1 dX3_ask_0 rfl rfl ?_
  refine r_getR 4 dX3_ask_1 rfl kf_3_10 rfl (by first | assumption | omega) (by assumption) (by assumption) ?_
  refine r_iload_n 5 dX3_ask_4 rfl rfl ?_
  rotate_left -- leaf: call at pc 5
  refine r_cv1 8 dX3_ask_5 rfl kv_3_95 (by first | assumption | omega) (by assumption) rfl rfl (c_hasMan ly1 m) ?_
  rintro r h' ⟨rfl, rfl⟩
  rw [z01_f (by omega)]
  refine r_if_eq 18 11 dX3_ask_8 (by decide) rfl (fun c_8 => ?_) (fun c_8 => ?_)
  refine r_iconst 19 dX3_ask_18 rfl rfl ?_
  refine r_iret dX3_ask_19 rfl ?_
  rotate_left -- leaf: return at pc 19
  rotate_left -- leaf: pc 11
  · exact ⟨rfl, rfl⟩
  · omega
theorem c_luck0 (ly : LX G) (h0 : h 1 7 = 0) (v i x : Int) : Ca l G 1 mX3_luck [vR 0, vI v, vI i, vI x] h (fun r h' => r = some (vL (-1)) ∧ h' = h) := by
  obtain ⟨hN, ⟨ly1, ly8, ly16, ly23⟩, ltp, ⟨ls34, ls36, ls38, ls40⟩, ⟨xs0, xs15, xs30, xs33, xs42, xs43, xs44⟩, ⟨xl15, xl30, xl33, xl42, xl43, xl44⟩, ⟨xr0, xr1, xr2, xr3, xr4, xr5, xr6, xr7, xr8⟩, ⟨yr0, yr1⟩, ⟨zr0, zr1, zr2, zr3⟩⟩ := ly
  have xs1 : gs G 1 = 7 := ly1.2.1.1
  have xs8 : gs G 8 = 7 := ly8.2.1.1
  have xs16 : gs G 16 = 7 := ly16.2.1.1
  have xs23 : gs G 23 = 7 := ly23.2.1.1
  have xs31 : gs G 31 = 6 := ltp.2.1.1
  have xs34 : gs G 34 = 5 := ls34.2.1.1
  have xs36 : gs G 36 = 5 := ls36.2.1.1
  have xs38 : gs G 38 = 5 := ls38.2.1.1
  have xs40 : gs G 40 = 5 := ls40.2.1.1
  refine Ca.of (by decide) (Nat.le_of_ble_eq_true rfl) (fun hI hv hH => ?_)
  refine r_iload_n 1 dX3_luck_0 rfl rfl ?_
  refine r_if_lt 28 4 dX3_luck_1 (by decide) rfl (fun c_1 => ?_) (fun c_1 => ?_)
  refine r_ldc2 31 (-1) dX3_luck_28 rfl kq_3_196 rfl ?_
  refine r_lret dX3_luck_31 rfl ?_
  rotate_left -- leaf: return at pc 31
  refine r_iload_n 5 dX3_luck_4 rfl rfl ?_
  refine r_bipush 7 dX3_luck_5 rfl rfl (by decide) ?_
  refine r_icmp_gt 28 10 dX3_luck_7 (by decide) rfl (fun c_7 => ?_) (fun c_7 => ?_)
  refine r_ldc2 31 (-1) dX3_luck_28 rfl kq_3_196 rfl ?_
  refine r_lret dX3_luck_31 rfl ?_
  rotate_left -- leaf: return at pc 31
  refine r_aload_n 11 dX3_luck_10 rfl rfl ?_
  refine r_getR 14 dX3_luck_11 rfl kf_3_10 rfl (by first | assumption | omega) (by assumption) (by assumption) ?_
  refine r_iload_n 15 dX3_luck_14 rfl rfl ?_
  rotate_left -- leaf: call at pc 15
  · exact ⟨rfl, rfl⟩
  · exact ⟨rfl, rfl⟩
  · refine r_cv1 18 dX3_luck_15 rfl kv_3_117 (by first | assumption | omega) (by assumption) rfl rfl (c_hasDeed ly1 i) ?_
    rintro r h' ⟨rfl, rfl⟩
    rw [z01_f (by omega)]
    refine r_if_eq 28 21 dX3_luck_18 (by decide) rfl (fun c_18 => ?_) (fun c_18 => ?_)
    refine r_ldc2 31 (-1) dX3_luck_28 rfl kq_3_196 rfl ?_
    refine r_lret dX3_luck_31 rfl ?_
    rotate_left -- leaf: return at pc 31
    rotate_left -- leaf: pc 21
    · exact ⟨rfl, rfl⟩
    · omega
theorem c_part0 (x : Int) : Ca l G 0 mX3_partOfFraction [vL 0, vI x] h (fun r h' => r = some (vL (if x = 0 then 0 else 1)) ∧ h' = h) := by
  refine Ca.of (by decide) (Nat.le_of_ble_eq_true rfl) (fun hI hv hH => ?_)
  refine r_ldc2 3 (1000000000000) dX3_partOfFraction_0 rfl kq_3_206 rfl ?_
  refine r_lstore_n 4 dX3_partOfFraction_3 rfl rfl rfl ?_
  refine r_lload_n 5 dX3_partOfFraction_4 rfl rfl ?_
  refine r_lstore 7 dX3_partOfFraction_5 rfl rfl rfl ?_
  refine r_iconst 8 dX3_partOfFraction_7 rfl rfl ?_
  refine r_istore 10 dX3_partOfFraction_8 rfl rfl rfl ?_
  refine r_iload 12 dX3_partOfFraction_10 rfl rfl ?_
  refine r_bipush 14 dX3_partOfFraction_12 rfl rfl (by decide) ?_
  refine r_icmp_ge 43 17 dX3_partOfFraction_14 (by decide) rfl (fun c_14 => ?_) (fun c_14 => ?_)
  rotate_left -- leaf: pc 43
  rotate_left -- leaf: pc 17
  · omega
  · refine r_lload 19 dX3_partOfFraction_17 rfl rfl ?_
    refine r_lconst 20 dX3_partOfFraction_19 rfl 0 rfl (by decide) ?_
    refine r_lcmp 21 dX3_partOfFraction_20 rfl ?_
    refine r_if_le 43 24 dX3_partOfFraction_21 (by decide) rfl (fun c_21 => ?_) (fun c_21 => ?_)
    rotate_left -- leaf: pc 43
    rotate_left -- leaf: pc 24
    · refine r_lload_n 44 dX3_partOfFraction_43 rfl rfl ?_
      refine r_lconst 45 dX3_partOfFraction_44 rfl 0 rfl (by decide) ?_
      refine r_lcmp 46 dX3_partOfFraction_45 rfl ?_
      refine r_if_gt 53 49 dX3_partOfFraction_46 (by decide) rfl (fun c_46 => ?_) (fun c_46 => ?_)
      refine r_iload_n 54 dX3_partOfFraction_53 rfl rfl ?_
      refine r_if_ne 61 57 dX3_partOfFraction_54 (by decide) rfl (fun c_54 => ?_) (fun c_54 => ?_)
      refine r_ldc2 64 (1000000000000) dX3_partOfFraction_61 rfl kq_3_206 rfl ?_
      refine r_lload_n 65 dX3_partOfFraction_64 rfl rfl ?_
      refine r_ldiv 66 dX3_partOfFraction_65 rfl (by first | omega | (simp only [Int.toNat_natCast]; omega)) (by first | omega | (simp only [Int.toNat_natCast]; omega)) ?_
      refine r_lret dX3_partOfFraction_66 rfl ?_
      rotate_left -- leaf: return at pc 66
      refine r_lload_n 58 dX3_partOfFraction_57 rfl rfl ?_
      refine r_goto 64 dX3_partOfFraction_58 (by decide) ?_
      refine r_lload_n 65 dX3_partOfFraction_64 rfl rfl ?_
      refine r_ldiv 66 dX3_partOfFraction_65 rfl (by first | omega | (simp only [Int.toNat_natCast]; omega)) (by first | omega | (simp only [Int.toNat_natCast]; omega)) ?_
      refine r_lret dX3_partOfFraction_66 rfl ?_
      rotate_left -- leaf: return at pc 66
      refine r_ldc2 52 (-1) dX3_partOfFraction_49 rfl kq_3_196 rfl ?_
      refine r_lret dX3_partOfFraction_52 rfl ?_
      rotate_left -- leaf: return at pc 52
      · rw [if_neg c_54]
        exact ⟨rfl, rfl⟩
      · rw [if_pos c_54]
        exact ⟨rfl, rfl⟩
      · simp [z_lcmp] at c_46
    · simp [z_lcmp] at c_21
theorem c_mean0 (ly : LX G) (h0 : h 1 7 = 0) (v x : Int) : Ca l G 1 mX3_mean [vR 0, vI v, vI x] h (fun r h' => r = some (vL (if v < 0 ∨ 10 < v ∨ ¬ (x = 0 ∨ x = 1) then -1 else if x = 0 then 0 else 1)) ∧ h' = h) := by
  obtain ⟨hN, ⟨ly1, ly8, ly16, ly23⟩, ltp, ⟨ls34, ls36, ls38, ls40⟩, ⟨xs0, xs15, xs30, xs33, xs42, xs43, xs44⟩, ⟨xl15, xl30, xl33, xl42, xl43, xl44⟩, ⟨xr0, xr1, xr2, xr3, xr4, xr5, xr6, xr7, xr8⟩, ⟨yr0, yr1⟩, ⟨zr0, zr1, zr2, zr3⟩⟩ := ly
  have xs1 : gs G 1 = 7 := ly1.2.1.1
  have xs8 : gs G 8 = 7 := ly8.2.1.1
  have xs16 : gs G 16 = 7 := ly16.2.1.1
  have xs23 : gs G 23 = 7 := ly23.2.1.1
  have xs31 : gs G 31 = 6 := ltp.2.1.1
  have xs34 : gs G 34 = 5 := ls34.2.1.1
  have xs36 : gs G 36 = 5 := ls36.2.1.1
  have xs38 : gs G 38 = 5 := ls38.2.1.1
  have xs40 : gs G 40 = 5 := ls40.2.1.1
  have ly1' := ly1
  obtain ⟨⟨tn0, tn1, tn2, tn3, tn4, tn5, tn6⟩, ⟨ts0, ts1, ts2, ts3, ts4, ts5, ts6⟩, ⟨tr0, tr1, tr2, tr3, tr4, tr5⟩, ⟨tl1, tl2, tl3, tl4, tl5, tl6⟩⟩ := ly1'
  refine Ca.of (by decide) (Nat.le_of_ble_eq_true rfl) (fun hI hv hH => ?_)
  refine r_iload_n 1 dX3_mean_0 rfl rfl ?_
  refine r_if_lt 17 4 dX3_mean_1 (by decide) rfl (fun c_1 => ?_) (fun c_1 => ?_)
  refine r_ldc2 20 (-1) dX3_mean_17 rfl kq_3_196 rfl ?_
  refine r_lret dX3_mean_20 rfl ?_
  rotate_left -- leaf: return at pc 20
  refine r_iload_n 5 dX3_mean_4 rfl rfl ?_
  refine r_bipush 7 dX3_mean_5 rfl rfl (by decide) ?_
  refine r_icmp_gt 17 10 dX3_mean_7 (by decide) rfl (fun c_7 => ?_) (fun c_7 => ?_)
  refine r_ldc2 20 (-1) dX3_mean_17 rfl kq_3_196 rfl ?_
  refine r_lret dX3_mean_20 rfl ?_
  rotate_left -- leaf: return at pc 20
  refine r_iload_n 11 dX3_mean_10 rfl rfl ?_
  rotate_left -- leaf: call at pc 11
  · rw [if_pos (Or.inl c_1)]
    exact ⟨rfl, rfl⟩
  · rw [if_pos (Or.inr (Or.inl c_7))]
    exact ⟨rfl, rfl⟩
  · refine r_cs1 14 dX3_mean_11 rfl ks_3_133 rfl rfl (c_isFS x) ?_
    rintro r h' ⟨rfl, rfl⟩
    refine r_if_ne 21 17 dX3_mean_14 (by decide) rfl (fun c_14 => ?_) (fun c_14 => ?_)
    refine r_lconst 22 dX3_mean_21 rfl 0 rfl (by decide) ?_
    refine r_lstore_n 23 dX3_mean_22 rfl rfl rfl ?_
    refine r_iconst 24 dX3_mean_23 rfl rfl ?_
    refine r_istore 26 dX3_mean_24 rfl rfl rfl ?_
    refine r_iload 28 dX3_mean_26 rfl rfl ?_
    refine r_aload_n 29 dX3_mean_28 rfl rfl ?_
    refine r_getR 32 dX3_mean_29 rfl kf_3_10 rfl (by first | assumption | omega) (by assumption) (by assumption) ?_
    refine r_getI 35 dX3_mean_32 rfl kf_3_79 rfl (by first | assumption | omega) (by assumption) ?_
    refine r_icmp_ge 54 38 dX3_mean_35 (by decide) rfl (fun c_35 => ?_) (fun c_35 => ?_)
    refine r_lload_n 55 dX3_mean_54 rfl rfl ?_
    refine r_iload_n 56 dX3_mean_55 rfl rfl ?_
    rotate_left -- leaf: call at pc 56
    rotate_left -- leaf: pc 38
    refine r_ldc2 20 (-1) dX3_mean_17 rfl kq_3_196 rfl ?_
    refine r_lret dX3_mean_20 rfl ?_
    rotate_left -- leaf: return at pc 20
    · rw [if_neg (by have := z01_y.mp c_14; omega)]
      refine r_cs2 59 dX3_mean_56 rfl ks_3_202 rfl rfl (c_part0 x) ?_
      rintro r h'' ⟨rfl, rfl⟩
      refine r_lret dX3_mean_59 rfl ?_
      rotate_left -- leaf: return at pc 59
      exact ⟨rfl, rfl⟩
    · omega
    · rw [if_pos (Or.inr (Or.inr (z01_n.mp c_14)))]
      exact ⟨rfl, rfl⟩
/-- Tape.tell where nothing is on THE TAPE -/
theorem nxR_0 {r by_ : Nat → Int} (h1 : r 1 = 0) (h6 : r 6 = 0) : nxR r by_ = up1 (up1 (up1 r 5 0) 6 0) 4 0 := by
  have e : nPl r by_ = 0 := by
    unfold nPl
    rw [h1, h6]
    rfl
  unfold nxR
  rw [e, if_pos (by omega)]
  rfl
theorem reT_reT {t : Nat} {r r' : Nat → Int} : reT (reT h t r) t r' = reT h t r' := by
  funext a b
  unfold reT
  split <;> rfl
theorem wT_clr {p : Nat} (w : wT h p) : wT (setB (up (up (up (up h p 6 0) p 7 0) p 8 0) p 9 3) (p + 3) 12 (fun _ => -4)) p :=
  wT_st (wT_up0 (wT_up0 (wT_up0 (wT_up0 w (by omega) (by omega) (by omega) (by omega)) (by omega) (by omega) (by omega) (by omega)) (by omega) (by omega) (by omega) (by omega)) (by omega) (by omega) (by omega) (by omega)) (fun _ => Or.inl rfl)
theorem clT0_o {p a b : Nat} (q : ¬ (p ≤ a ∧ a ≤ p + 6)) : clT0 p h a b = h a b := by
  unfold clT0
  rw [reb_in q, setB_n (by omega), up_k (by omega), up_k (by omega), up_k (by omega), up_k (by omega)]
theorem clT0_s {p j : Nat} (hj : j < 12) : clT0 p h (p + 3) j = -4 := by
  unfold clT0
  rw [reb_n (by omega), setB_i hj]
theorem c_tell0 {t p : Nat} (ly : LTp G t) (lT : LT G p) (w : wP h t) (wt : wT h p) (hd : p + 6 < t ∨ t + 1 < p) (h0 : h t 1 = 0) : Ca l G 4 mX1_tell [vR t, vR p] h (fun r h' => r = some (vI 0) ∧ ∃ r', h' = reT (clT0 p h) t r' ∧ r' 1 = 0 ∧ r' 2 = 0 ∧ (0 ≤ r' 5 ∧ r' 5 ≤ 160) ∧ (0 ≤ r' 6 ∧ r' 6 ≤ 160)) := by
  have ly0 := ly
  have lT0 := lT
  have tn0 : p < gN G := lT.1.1
  have ts0 : gs G p = 7 := lT.2.1.1
  obtain ⟨⟨n0, n1⟩, ⟨s0, s1⟩, r0, l1⟩ := ly
  obtain ⟨q1, q2, q3, q4⟩ := w
  refine Ca.of (by decide) (Nat.le_of_ble_eq_true rfl) (fun hI hv hH => ?_)
  refine r_aload_n 1 dX1_tell_0 rfl rfl ?_
  rotate_left -- leaf: call at pc 1
  refine r_cv0 4 dX1_tell_1 rfl kv_1_19 (by first | assumption | omega) (by assumption) rfl rfl (c_clear lT0 (wT_clr wt)) ?_
  rintro r h' ⟨rfl, rfl⟩
  have ec : ∀ b, clT0 p h t b = h t b := fun b => clT0_o (by omega)
  have ec1 : ∀ b, clT0 p h (t + 1) b = h (t + 1) b := fun b => clT0_o (by omega)
  have hst : ∀ j, j < 12 → clT0 p h (p + 3) j = -4 := fun j hj => clT0_s hj
  generalize clT0 p h = C at ec ec1 hst ⊢
  obtain ⟨r0', hr0⟩ : ∃ r0', r0' = C t := ⟨_, rfl⟩
  rw [← reT_self (h := C) (t := t), ← hr0]
  refine r_aload_n 5 dX1_tell_4 rfl rfl ?_
  refine r_iconst 6 dX1_tell_5 rfl rfl ?_
  refine r_putI 9 dX1_tell_6 rfl kf_1_24 rfl rfl (Or.inl rfl) (by first | assumption | omega) (by assumption) ?_
  rotate_left -- leaf: pc 9
  rw [reT_up]
  refine r_aload_n 10 dX1_tell_9 rfl rfl ?_
  refine r_iconst 11 dX1_tell_10 rfl rfl ?_
  refine r_putI 14 dX1_tell_11 rfl kf_1_27 rfl rfl (Or.inl rfl) (by first | assumption | omega) (by assumption) ?_
  rotate_left -- leaf: pc 14
  rw [reT_up]
  refine r_aload_n 15 dX1_tell_14 rfl rfl ?_
  refine r_iconst 16 dX1_tell_15 rfl rfl ?_
  refine r_putI 19 dX1_tell_16 rfl kf_1_30 rfl rfl (Or.inl rfl) (by first | assumption | omega) (by assumption) ?_
  rotate_left -- leaf: pc 19
  rw [reT_up]
  refine r_aload_n 20 dX1_tell_19 rfl rfl ?_
  refine r_iconst 21 dX1_tell_20 rfl rfl ?_
  refine r_putI 24 dX1_tell_21 rfl kf_1_33 rfl rfl (Or.inr ⟨rfl, by first | exact Or.inl rfl | exact Or.inr rfl | assumption | omega⟩) (by first | assumption | omega) (by assumption) ?_
  rotate_left -- leaf: pc 24
  rw [reT_up]
  refine r_aload_n 25 dX1_tell_24 rfl rfl ?_
  refine r_iconst 26 dX1_tell_25 rfl rfl ?_
  refine r_putI 29 dX1_tell_26 rfl kf_1_37 rfl rfl (Or.inr ⟨rfl, by first | exact Or.inl rfl | exact Or.inr rfl | assumption | omega⟩) (by first | assumption | omega) (by assumption) ?_
  rotate_left -- leaf: pc 29
  rw [reT_up]
  refine r_iconst 30 dX1_tell_29 rfl rfl ?_
  refine r_istore_n 31 dX1_tell_30 rfl rfl rfl ?_
  refine r_aload_n 32 dX1_tell_31 rfl rfl ?_
  rotate_left -- leaf: call at pc 32
  obtain ⟨r1, hr1⟩ : ∃ r1, r1 = up1 (up1 (up1 (up1 (up1 r0' 2 0) 3 0) 6 0) 8 0) 9 0 := ⟨_, rfl⟩
  rw [← hr1]
  have e1 : r1 1 = 0 := by rw [hr1]; simp [up1, hr0, ec, h0]
  have e2 : r1 2 = 0 := by rw [hr1]; simp [up1]
  have e5 : r1 5 = h t 5 := by rw [hr1]; simp [up1, hr0, ec]
  have e6 : r1 6 = 0 := by rw [hr1]; simp [up1]
  have wr : wR r1 (C (t + 1)) := ⟨by omega, by omega, by omega, fun j => by rw [ec1]; exact q4 j⟩
  refine r_cv0 35 dX1_tell_32 rfl kv_1_40 (by first | assumption | omega) (by assumption) rfl rfl (c_next ly0 wr) ?_
  rintro r h' ⟨rfl, rfl⟩
  rw [nxR_0 e1 e6]
  obtain ⟨r2, hr2⟩ : ∃ r2, r2 = up1 (up1 (up1 r1 5 0) 6 0) 4 0 := ⟨_, rfl⟩
  rw [← hr2]
  have f1 : r2 1 = 0 := by rw [hr2]; simp [up1, e1]
  have f2 : r2 2 = 0 := by rw [hr2]; simp [up1, e2]
  have f4 : r2 4 = 0 := by rw [hr2]; simp [up1]
  have f5 : r2 5 = 0 := by rw [hr2]; simp [up1]
  have f6 : r2 6 = 0 := by rw [hr2]; simp [up1]
  refine r_iconst 36 dX1_tell_35 rfl rfl ?_
  refine r_istore_n 37 dX1_tell_36 rfl rfl rfl ?_
  refine r_iload_n 38 dX1_tell_37 rfl rfl ?_
  refine r_sipush 41 dX1_tell_38 rfl rfl (by decide) ?_
  refine r_icmp_ge 83 44 dX1_tell_41 (by decide) rfl (fun c_41 => ?_) (fun c_41 => ?_)
  rotate_left -- leaf: pc 83
  rotate_left -- leaf: pc 44
  · omega
  · refine r_aload_n 45 dX1_tell_44 rfl rfl ?_
    rotate_left -- leaf: call at pc 45
    refine r_cv0 48 dX1_tell_45 rfl kv_1_43 (by first | assumption | omega) (by assumption) rfl rfl (c_isGood ly0) ?_
    rintro r h' ⟨rfl, rfl⟩
    rw [reT_s, f2, z01_t rfl]
    refine r_if_eq 83 51 dX1_tell_48 (by decide) rfl (fun c_48 => ?_) (fun c_48 => ?_)
    rotate_left -- leaf: pc 83
    refine r_aload_n 52 dX1_tell_51 rfl rfl ?_
    refine r_getI 55 dX1_tell_52 rfl kf_1_47 rfl (by first | assumption | omega) (by assumption) ?_
    rotate_left -- leaf: pc 55
    · omega
    rw [reT_s, f4]
    refine r_if_eq 83 58 dX1_tell_55 (by decide) rfl (fun c_55 => ?_) (fun c_55 => ?_)
    rotate_left -- leaf: pc 83
    rotate_left -- leaf: pc 58
    · refine r_aload_n 84 dX1_tell_83 rfl rfl ?_
      rotate_left -- leaf: call at pc 84
      refine r_cv0 87 dX1_tell_84 rfl kv_1_43 (by first | assumption | omega) (by assumption) rfl rfl (c_isGood ly0) ?_
      rintro r h' ⟨rfl, rfl⟩
      rw [reT_s, f2, z01_t rfl]
      refine r_if_eq 107 90 dX1_tell_87 (by decide) rfl (fun c_87 => ?_) (fun c_87 => ?_)
      rotate_left -- leaf: pc 107
      refine r_aload_n 91 dX1_tell_90 rfl rfl ?_
      rotate_left -- leaf: call at pc 91
      · omega
      · refine r_cv0 94 dX1_tell_91 rfl kv_1_54 (by first | assumption | omega) (by assumption) rfl rfl (c_allWho lT0) ?_
        rintro r h' ⟨⟨z1, rfl⟩ | ⟨z1, rfl⟩, rfl⟩
        · refine r_if_ne 107 97 dX1_tell_94 (by decide) rfl (fun c_94 => ?_) (fun c_94 => ?_)
          refine r_iload_n 108 dX1_tell_107 rfl rfl ?_
          refine r_iret dX1_tell_108 rfl ?_
          rotate_left -- leaf: return at pc 108
          rotate_left -- leaf: pc 97
          · exact ⟨rfl, r2, reT_reT.symm, f1, f2, by omega, by omega⟩
          · omega
        · exact absurd (fun j hj => Or.inl (by rw [reT_n (by omega)]; exact hst j hj)) z1
    · omega
theorem c_text0 (ly : LX G) (w : wX h) (h0 : h 31 1 = 0) : Ca l G 5 mX3_text [vR 0] h (fun r h' => r = some (vI 0)) := by
  obtain ⟨hN, ⟨ly1, ly8, ly16, ly23⟩, ltp, ⟨ls34, ls36, ls38, ls40⟩, ⟨xs0, xs15, xs30, xs33, xs42, xs43, xs44⟩, ⟨xl15, xl30, xl33, xl42, xl43, xl44⟩, ⟨xr0, xr1, xr2, xr3, xr4, xr5, xr6, xr7, xr8⟩, ⟨yr0, yr1⟩, ⟨zr0, zr1, zr2, zr3⟩⟩ := ly
  have xs1 : gs G 1 = 7 := ly1.2.1.1
  have xs8 : gs G 8 = 7 := ly8.2.1.1
  have xs16 : gs G 16 = 7 := ly16.2.1.1
  have xs23 : gs G 23 = 7 := ly23.2.1.1
  have xs31 : gs G 31 = 6 := ltp.2.1.1
  have xs34 : gs G 34 = 5 := ls34.2.1.1
  have xs36 : gs G 36 = 5 := ls36.2.1.1
  have xs38 : gs G 38 = 5 := ls38.2.1.1
  have xs40 : gs G 40 = 5 := ls40.2.1.1
  obtain ⟨⟨w1, w8, w16, w23⟩, wp, wsn, ws42, ws43, wk, ⟨wh34, wh36, wh38, wh40⟩, wt⟩ := w
  have ltp' := ltp
  obtain ⟨⟨pn0, pn1⟩, ⟨ps0, ps1⟩, pr0, pl1⟩ := ltp'
  refine Ca.of (by decide) (Nat.le_of_ble_eq_true rfl) (fun hI hv hH => ?_)
  refine r_aload_n 1 dX3_text_0 rfl rfl ?_
  refine r_getR 4 dX3_text_1 rfl kf_3_30 rfl (by first | assumption | omega) (by assumption) (by assumption) ?_
  refine r_aload_n 5 dX3_text_4 rfl rfl ?_
  refine r_getR 8 dX3_text_5 rfl kf_3_16 rfl (by first | assumption | omega) (by assumption) (by assumption) ?_
  rotate_left -- leaf: call at pc 8
  refine r_cv1 11 dX3_text_8 rfl kv_3_59 (by first | assumption | omega) (by assumption) rfl rfl (c_tell0 ltp ly8 wp w8 (by omega) h0) ?_
  rintro r h' ⟨rfl, r', rfl, g1, g2, g5, g6⟩
  refine r_istore_n 12 dX3_text_11 rfl rfl rfl ?_
  refine r_aload_n 13 dX3_text_12 rfl rfl ?_
  refine r_getR 16 dX3_text_13 rfl kf_3_30 rfl (by first | assumption | omega) (by assumption) (by assumption) ?_
  refine r_iconst 17 dX3_text_16 rfl rfl ?_
  refine r_putI 20 dX3_text_17 rfl kf_3_55 rfl rfl (Or.inl rfl) (by first | assumption | omega) (by assumption) ?_
  refine r_aload_n 21 dX3_text_20 rfl rfl ?_
  refine r_getR 24 dX3_text_21 rfl kf_3_30 rfl (by first | assumption | omega) (by assumption) (by assumption) ?_
  refine r_getI 27 dX3_text_24 rfl kf_3_63 rfl (by first | assumption | omega) (by assumption) ?_
  rotate_left -- leaf: pc 27
  rw [reT_up, reT_s, up1_n (by decide), g2]
  refine r_if_eq 41 30 dX3_text_27 (by decide) rfl (fun c_27 => ?_) (fun c_27 => ?_)
  refine r_aload_n 42 dX3_text_41 rfl rfl ?_
  refine r_getR 45 dX3_text_42 rfl kf_3_10 rfl (by first | assumption | omega) (by assumption) (by assumption) ?_
  refine r_aload_n 46 dX3_text_45 rfl rfl ?_
  refine r_getR 49 dX3_text_46 rfl kf_3_16 rfl (by first | assumption | omega) (by assumption) (by assumption) ?_
  rotate_left -- leaf: call at pc 49
  rotate_left -- leaf: pc 30
  · refine r_cv1 52 dX3_text_49 rfl kv_3_69 (by first | assumption | omega) (by assumption) rfl rfl (c_copyOf ly1 ly8 (by omega)) ?_
    rintro r h' ⟨rfl, rfl⟩
    have J : ∀ (n j : Nat) (H : zH), j + n = 2 → Rr l G 5 mX3_text (fun r h' => r = some (vI 0)) 59 [some (vR 0), some (vI 0), some (vI j)] [] H := by
      intro n
      induction n with
      | zero =>
        intro j H hj
        refine r_iload_n 60 dX3_text_59 rfl rfl ?_
        refine r_iconst 61 dX3_text_60 rfl rfl ?_
        refine r_icmp_ge 77 64 dX3_text_61 (by decide) rfl (fun c_61 => ?_) (fun c_61 => ?_)
        refine r_iload_n 78 dX3_text_77 rfl rfl ?_
        refine r_iret dX3_text_78 rfl ?_
        rotate_left -- leaf: return at pc 78
        rotate_left -- leaf: pc 64
        · rfl
        · omega
      | succ n ih =>
        intro j H hj
        refine r_iload_n 60 dX3_text_59 rfl rfl ?_
        refine r_iconst 61 dX3_text_60 rfl rfl ?_
        refine r_icmp_ge 77 64 dX3_text_61 (by decide) rfl (fun c_61 => ?_) (fun c_61 => ?_)
        rotate_left -- leaf: pc 77
        refine r_aload_n 65 dX3_text_64 rfl rfl ?_
        refine r_getR 68 dX3_text_65 rfl kf_3_23 rfl (by first | assumption | omega) (by assumption) (by assumption) ?_
        refine r_iload_n 69 dX3_text_68 rfl rfl ?_
        refine r_iconst 70 dX3_text_69 rfl rfl ?_
        first | refine r_bast 71 dX3_text_70 rfl (by first | assumption | omega) (by assumption) (by first | omega | (simp only [Int.toNat_natCast]; omega)) (by first | omega | (simp only [Int.toNat_natCast]; omega)) (by first | omega | (simp only [Int.toNat_natCast]; omega)) (by first | omega | (simp only [Int.toNat_natCast]; omega)) ?_ | refine r_zast 71 dX3_text_70 rfl (by first | assumption | omega) (by assumption) (by first | omega | (simp only [Int.toNat_natCast]; omega)) (by first | omega | (simp only [Int.toNat_natCast]; omega)) (by first | exact Or.inl rfl | exact Or.inr rfl | omega) ?_
        refine r_iinc 74 _ dX3_text_71 rfl rfl rfl rfl (by first | exact w32_id (by omega) (by omega) | rfl) ?_
        refine r_goto 59 dX3_text_74 (by decide) ?_
        rotate_left -- leaf: pc 59
        · omega
        · exact ih (j + 1) _ (by omega)
    refine r_aload_n 53 dX3_text_52 rfl rfl ?_
    refine r_iconst 54 dX3_text_53 rfl rfl ?_
    refine r_putI 57 dX3_text_54 rfl kf_3_73 rfl rfl (Or.inl rfl) (by first | assumption | omega) (by assumption) ?_
    refine r_iconst 58 dX3_text_57 rfl rfl ?_
    refine r_istore_n 59 dX3_text_58 rfl rfl rfl ?_
    rotate_left -- leaf: pc 59
    exact J 2 0 _ rfl
  · omega
theorem c_drift0 (ly : LX G) (h0 : h 1 6 = 0) (sd n x : Int) : Ca l G 1 mX3_drift [vR 0, vI sd, vI n, vI x] h (fun r h' => r = some (vI (if n < 1 ∨ 40 < n ∨ ¬ (x = 0 ∨ x = 1) then -1 else -2)) ∧ h' = h) := by
  obtain ⟨hN, ⟨ly1, ly8, ly16, ly23⟩, ltp, ⟨ls34, ls36, ls38, ls40⟩, ⟨xs0, xs15, xs30, xs33, xs42, xs43, xs44⟩, ⟨xl15, xl30, xl33, xl42, xl43, xl44⟩, ⟨xr0, xr1, xr2, xr3, xr4, xr5, xr6, xr7, xr8⟩, ⟨yr0, yr1⟩, ⟨zr0, zr1, zr2, zr3⟩⟩ := ly
  have xs1 : gs G 1 = 7 := ly1.2.1.1
  have xs8 : gs G 8 = 7 := ly8.2.1.1
  have xs16 : gs G 16 = 7 := ly16.2.1.1
  have xs23 : gs G 23 = 7 := ly23.2.1.1
  have xs31 : gs G 31 = 6 := ltp.2.1.1
  have xs34 : gs G 34 = 5 := ls34.2.1.1
  have xs36 : gs G 36 = 5 := ls36.2.1.1
  have xs38 : gs G 38 = 5 := ls38.2.1.1
  have xs40 : gs G 40 = 5 := ls40.2.1.1
  have ly1' := ly1
  obtain ⟨⟨tn0, tn1, tn2, tn3, tn4, tn5, tn6⟩, ⟨ts0, ts1, ts2, ts3, ts4, ts5, ts6⟩, ⟨tr0, tr1, tr2, tr3, tr4, tr5⟩, ⟨tl1, tl2, tl3, tl4, tl5, tl6⟩⟩ := ly1'
  refine Ca.of (by decide) (Nat.le_of_ble_eq_true rfl) (fun hI hv hH => ?_)
  refine r_iload_n 1 dX3_drift_0 rfl rfl ?_
  refine r_iconst 2 dX3_drift_1 rfl rfl ?_
  refine r_icmp_lt 18 5 dX3_drift_2 (by decide) rfl (fun c_2 => ?_) (fun c_2 => ?_)
  refine r_iconst 19 dX3_drift_18 rfl rfl ?_
  refine r_iret dX3_drift_19 rfl ?_
  rotate_left -- leaf: return at pc 19
  refine r_iload_n 6 dX3_drift_5 rfl rfl ?_
  refine r_bipush 8 dX3_drift_6 rfl rfl (by decide) ?_
  refine r_icmp_gt 18 11 dX3_drift_8 (by decide) rfl (fun c_8 => ?_) (fun c_8 => ?_)
  refine r_iconst 19 dX3_drift_18 rfl rfl ?_
  refine r_iret dX3_drift_19 rfl ?_
  rotate_left -- leaf: return at pc 19
  refine r_iload_n 12 dX3_drift_11 rfl rfl ?_
  rotate_left -- leaf: call at pc 12
  · rw [if_pos (Or.inl c_2)]
    exact ⟨rfl, rfl⟩
  · rw [if_pos (Or.inr (Or.inl c_8))]
    exact ⟨rfl, rfl⟩
  · refine r_cs1 15 dX3_drift_12 rfl ks_3_133 rfl rfl (c_isFS x) ?_
    rintro r h' ⟨rfl, rfl⟩
    refine r_if_ne 20 18 dX3_drift_15 (by decide) rfl (fun c_15 => ?_) (fun c_15 => ?_)
    refine r_aload_n 21 dX3_drift_20 rfl rfl ?_
    refine r_getR 24 dX3_drift_21 rfl kf_3_10 rfl (by first | assumption | omega) (by assumption) (by assumption) ?_
    refine r_getI 27 dX3_drift_24 rfl kf_3_76 rfl (by first | assumption | omega) (by assumption) ?_
    refine r_if_ne 33 30 dX3_drift_27 (by decide) rfl (fun c_27 => ?_) (fun c_27 => ?_)
    rotate_left -- leaf: pc 33
    refine r_bipush 32 dX3_drift_30 rfl rfl (by decide) ?_
    refine r_iret dX3_drift_32 rfl ?_
    rotate_left -- leaf: return at pc 32
    refine r_iconst 19 dX3_drift_18 rfl rfl ?_
    refine r_iret dX3_drift_19 rfl ?_
    rotate_left -- leaf: return at pc 19
    · omega
    · rw [if_neg (by have := z01_y.mp c_15; omega)]
      exact ⟨rfl, rfl⟩
    · rw [if_pos (Or.inr (Or.inr (z01_n.mp c_15)))]
      exact ⟨rfl, rfl⟩
end SX
