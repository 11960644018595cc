/-! a fresh object: class and reference answer alike (7): text, nothing on THE TAPE -/
section PQ
variable {l : Launch} {G : zG} {h : zH}
theorem c_text1 (ly : LX G) (w : wX h) (h0 : h 31 1 = 0) : Ca l G 5 mX3_text [vR 0] h (fun r h' => r = some (vI 0) ∧ ∀ a b, 45 ≤ a → h' a b = h a b) := by
  obtain ⟨hN, ⟨ly1, ly8, ly16, ly23⟩, ltp, ⟨ls34, ls36, ls38, ls40⟩, ⟨xs0, xs15, xs30, xs33, xs42, xs43, xs44⟩, ⟨xl15, xl30, xl33, xl42, xl43, xl44⟩, ⟨xr0, xr1, xr2, xr3, xr4, xr5, xr6, xr7, xr8⟩, ⟨yr0, yr1⟩, ⟨zr0, zr1, zr2, zr3⟩⟩ := ly
  have xs1 : gs G 1 = 7 := ly1.2.1.1
  have xs8 : gs G 8 = 7 := ly8.2.1.1
  have xs16 : gs G 16 = 7 := ly16.2.1.1
  have xs23 : gs G 23 = 7 := ly23.2.1.1
  have xs31 : gs G 31 = 6 := ltp.2.1.1
  have xs34 : gs G 34 = 5 := ls34.2.1.1
  have xs36 : gs G 36 = 5 := ls36.2.1.1
  have xs38 : gs G 38 = 5 := ls38.2.1.1
  have xs40 : gs G 40 = 5 := ls40.2.1.1
  obtain ⟨⟨w1, w8, w16, w23⟩, wp, wsn, ws42, ws43, wk, ⟨wh34, wh36, wh38, wh40⟩, wt⟩ := w
  have ltp' := ltp
  obtain ⟨⟨pn0, pn1⟩, ⟨ps0, ps1⟩, pr0, pl1⟩ := ltp'
  refine Ca.of (by decide) (Nat.le_of_ble_eq_true rfl) (fun hI hv hH => ?_)
  refine r_aload_n 1 dX3_text_0 rfl rfl ?_
  refine r_getR 4 dX3_text_1 rfl kf_3_30 rfl (by first | assumption | omega) (by assumption) (by assumption) ?_
  refine r_aload_n 5 dX3_text_4 rfl rfl ?_
  refine r_getR 8 dX3_text_5 rfl kf_3_16 rfl (by first | assumption | omega) (by assumption) (by assumption) ?_
  rotate_left -- leaf: call at pc 8
  refine r_cv1 11 dX3_text_8 rfl kv_3_59 (by first | assumption | omega) (by assumption) rfl rfl (c_tell0 ltp ly8 wp w8 (by omega) h0) ?_
  rintro r h' ⟨rfl, r', rfl, g1, g2, g5, g6⟩
  refine r_istore_n 12 dX3_text_11 rfl rfl rfl ?_
  refine r_aload_n 13 dX3_text_12 rfl rfl ?_
  refine r_getR 16 dX3_text_13 rfl kf_3_30 rfl (by first | assumption | omega) (by assumption) (by assumption) ?_
  refine r_iconst 17 dX3_text_16 rfl rfl ?_
  refine r_putI 20 dX3_text_17 rfl kf_3_55 rfl rfl (Or.inl rfl) (by first | assumption | omega) (by assumption) ?_
  refine r_aload_n 21 dX3_text_20 rfl rfl ?_
  refine r_getR 24 dX3_text_21 rfl kf_3_30 rfl (by first | assumption | omega) (by assumption) (by assumption) ?_
  refine r_getI 27 dX3_text_24 rfl kf_3_63 rfl (by first | assumption | omega) (by assumption) ?_
  rotate_left -- leaf: pc 27
  rw [reT_up, reT_s, up1_n (by decide), g2]
  refine r_if_eq 41 30 dX3_text_27 (by decide) rfl (fun c_27 => ?_) (fun c_27 => ?_)
  refine r_aload_n 42 dX3_text_41 rfl rfl ?_
  refine r_getR 45 dX3_text_42 rfl kf_3_10 rfl (by first | assumption | omega) (by assumption) (by assumption) ?_
  refine r_aload_n 46 dX3_text_45 rfl rfl ?_
  refine r_getR 49 dX3_text_46 rfl kf_3_16 rfl (by first | assumption | omega) (by assumption) (by assumption) ?_
  rotate_left -- leaf: call at pc 49
  rotate_left -- leaf: pc 30
  · refine r_cv1 52 dX3_text_49 rfl kv_3_69 (by first | assumption | omega) (by assumption) rfl rfl (c_copyOf ly1 ly8 (by omega)) ?_
    rintro r h' ⟨rfl, rfl⟩
    have J : ∀ (n j : Nat) (H : zH), j + n = 2 → (∀ a b, 45 ≤ a → H a b = h a b) → Rr l G 5 mX3_text (fun r h' => r = some (vI 0) ∧ ∀ a b, 45 ≤ a → h' a b = h a b) 59 [some (vR 0), some (vI 0), some (vI j)] [] H := by
      intro n
      induction n with
      | zero =>
        intro j H hj he
        refine r_iload_n 60 dX3_text_59 rfl rfl ?_
        refine r_iconst 61 dX3_text_60 rfl rfl ?_
        refine r_icmp_ge 77 64 dX3_text_61 (by decide) rfl (fun c_61 => ?_) (fun c_61 => ?_)
        refine r_iload_n 78 dX3_text_77 rfl rfl ?_
        refine r_iret dX3_text_78 rfl ?_
        rotate_left -- leaf: return at pc 78
        rotate_left -- leaf: pc 64
        · exact ⟨rfl, he⟩
        · omega
      | succ n ih =>
        intro j H hj he
        refine r_iload_n 60 dX3_text_59 rfl rfl ?_
        refine r_iconst 61 dX3_text_60 rfl rfl ?_
        refine r_icmp_ge 77 64 dX3_text_61 (by decide) rfl (fun c_61 => ?_) (fun c_61 => ?_)
        rotate_left -- leaf: pc 77
        refine r_aload_n 65 dX3_text_64 rfl rfl ?_
        refine r_getR 68 dX3_text_65 rfl kf_3_23 rfl (by first | assumption | omega) (by assumption) (by assumption) ?_
        refine r_iload_n 69 dX3_text_68 rfl rfl ?_
        refine r_iconst 70 dX3_text_69 rfl rfl ?_
        first | refine r_bast 71 dX3_text_70 rfl (by first | assumption | omega) (by assumption) (by first | omega | (simp only [Int.toNat_natCast]; omega)) (by first | omega | (simp only [Int.toNat_natCast]; omega)) (by first | omega | (simp only [Int.toNat_natCast]; omega)) (by first | omega | (simp only [Int.toNat_natCast]; omega)) ?_ | refine r_zast 71 dX3_text_70 rfl (by first | assumption | omega) (by assumption) (by first | omega | (simp only [Int.toNat_natCast]; omega)) (by first | omega | (simp only [Int.toNat_natCast]; omega)) (by first | exact Or.inl rfl | exact Or.inr rfl | omega) ?_
        refine r_iinc 74 _ dX3_text_71 rfl rfl rfl rfl (by first | exact w32_id (by omega) (by omega) | rfl) ?_
        refine r_goto 59 dX3_text_74 (by decide) ?_
        rotate_left -- leaf: pc 59
        · omega
        · exact ih (j + 1) _ (by omega) (fun a b ha => by rw [up_k (by omega)]; exact he a b ha)
    refine r_aload_n 53 dX3_text_52 rfl rfl ?_
    refine r_iconst 54 dX3_text_53 rfl rfl ?_
    refine r_putI 57 dX3_text_54 rfl kf_3_73 rfl rfl (Or.inl rfl) (by first | assumption | omega) (by assumption) ?_
    refine r_iconst 58 dX3_text_57 rfl rfl ?_
    refine r_istore_n 59 dX3_text_58 rfl rfl rfl ?_
    rotate_left -- leaf: pc 59
    exact J 2 0 _ rfl (fun a b ha => by rw [up_k (by omega), cpT_o (by omega), reT_n (by omega), clT0_o (by omega)])
  · omega
theorem p_text (lx : LX G) (lm : LM G) : Pq l G mX3_text mX4_text [] (vI 0) :=
  ⟨⟨5, by omega, (c_text1 lx wX_hZ (hZ_0 (by omega) (by omega))).mono (fun r h' q => ⟨q.1, q.2⟩)⟩, fun h f => ⟨2, by omega, (m_text0 lm (fM_0 f (by omega) (by omega))).mono (fun r h' q => q)⟩⟩
end PQ
