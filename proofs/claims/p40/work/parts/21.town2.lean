/-! SunPointer$Town: what changes it -/
section TW
variable {l : Launch} {G : zG} {h : zH} {p : Nat}
theorem slipF_in (k hr sd : Int) (h1 : 0 ≤ sd) (h2 : sd ≤ 48) : -7 ≤ slipF k hr sd ∧ slipF k hr sd ≤ 1 := by
  unfold slipF
  split
  · omega
  · split
    · omega
    · split
      · split <;> omega
      · omega
theorem bendF_in {men pa : Int} {kd ln st : Nat → Int} {j : Nat} (hj : j < 12) (h1 : 0 ≤ pa ∧ pa ≤ 6) (h2 : ∀ j, 0 ≤ ln j ∧ ln j ≤ 6) : -20 ≤ bendF men pa kd ln st j ∧ bendF men pa kd ln st j ≤ 20 := by
  unfold bendF
  split
  · have := stoodF_in st j
    have := slipF_in (kd (st j).toNat) j (stoodF st j) (by omega) (by omega)
    have := h2 (st j).toNat
    omega
  · omega
theorem reb_n {a b : Nat} (q : a ≠ p + 6) : reb p h a b = h a b := setB_n q
theorem wT_reb (w : wT h p) : wT (reb p h) p := by
  obtain ⟨w1, w2, w3, w4, w5, w6, w7, w8, w9, w10⟩ := w
  refine ⟨by rw [reb_n (by omega)]; exact w1, by rw [reb_n (by omega)]; exact w2, by rw [reb_n (by omega)]; exact w3, by rw [reb_n (by omega)]; exact w4, fun j => by rw [reb_n (by omega)]; exact w5 j, fun j => by rw [reb_n (by omega)]; exact w6 j, fun j => by rw [reb_n (by omega)]; exact w7 j, fun j => by rw [reb_n (by omega)]; exact w8 j, fun j => by rw [reb_n (by omega)]; exact w9 j, fun j => ?_⟩
  by_cases hj : j < 12
  · unfold reb; rw [setB_i hj]; exact bendF_in hj w4 w6
  · unfold reb; rw [setB_o (by omega)]; exact w10 j
theorem l_reckon (ly : LT G p) (w : wT h p) {Φ : Option zV → zH → Prop} (hΦ : Φ none (reb p h)) : ∀ (n j : Nat) (x3 x4 : Option zV), j + n = 12 → Rr l G 1 mX2_reckonBends Φ 4 [some (vR p), some (vI (if j = 0 then 0 else stoodF (h (p + 3)) (j - 1))), some (vI j), x3, x4] [] (setB h (p + 6) j (bendF (h p 6) (h p 9) (h (p + 1)) (h (p + 2)) (h (p + 3)))) := by
  have ly0 := ly
  obtain ⟨⟨n0, n1, n2, n3, n4, n5, n6⟩, ⟨s0, s1, s2, s3, s4, s5, s6⟩, ⟨r0, r1, r2, r3, r4, r5⟩, ⟨l1, l2, l3, l4, l5, l6⟩⟩ := ly
  obtain ⟨w1, w2, w3, w4, w5, w6, w7, w8, w9, w10⟩ := w
  intro n
  induction n with
  | zero =>
    intro j x3 x4 hj
    obtain rfl : j = 12 := by omega
    refine r_iload_n 5 dX2_reckonBends_4 rfl rfl ?_
    refine r_bipush 7 dX2_reckonBends_5 rfl rfl (by decide) ?_
    refine r_icmp_ge 103 10 dX2_reckonBends_7 (by decide) rfl (fun c_7 => ?_) (fun c_7 => ?_)
    refine r_ret dX2_reckonBends_103 rfl ?_
    rotate_left -- leaf: return at pc 103
    rotate_left -- leaf: pc 10
    · exact hΦ
    · omega
  | succ n ih =>
    intro j x3 x4 hj
    have ih := ih (j + 1)
    obtain ⟨f, hf⟩ : ∃ f, f = bendF (h p 6) (h p 9) (h (p + 1)) (h (p + 2)) (h (p + 3)) := ⟨_, rfl⟩
    rw [← hf] at ih ⊢
    obtain ⟨sd, hsd⟩ : ∃ sd, sd = (if j = 0 then 0 else stoodF (h (p + 3)) (j - 1)) := ⟨_, rfl⟩
    rw [← hsd]
    have hsi : 0 ≤ sd ∧ sd ≤ 44 := by
      have := stoodF_in (h (p + 3)) (j - 1)
      rw [hsd]; split <;> omega
    obtain ⟨g, hgd⟩ : ∃ g, g = setB h (p + 6) j f := ⟨_, rfl⟩
    rw [← hgd]
    have hg : ∀ a b, a ≠ p + 6 → g a b = h a b := fun a b q => by rw [hgd]; exact setB_n q
    have e3 : ∀ b, g (p + 3) b = h (p + 3) b := fun b => hg _ _ (by omega)
    have J96 : ∀ x4, Rr l G 1 mX2_reckonBends Φ 96 [some (vR p), some (vI (stoodF (h (p + 3)) j)), some (vI j), some (vI (h (p + 3) j)), x4] [vI (f j), vI j, vR (p + 6)] g := by
      intro x4
      refine r_iast 97 dX2_reckonBends_96 rfl (by first | assumption | omega) (by assumption) (by first | omega | (simp only [Int.toNat_natCast]; omega)) (by first | omega | (simp only [Int.toNat_natCast]; omega)) ?_
      refine r_iinc 100 _ dX2_reckonBends_97 rfl rfl rfl rfl (by first | exact w32_id (by omega) (by omega) | rfl) ?_
      refine r_goto 4 dX2_reckonBends_100 (by decide) ?_
      rotate_left -- leaf: pc 4
      have e : up g (p + 6) (j : Int).toNat (f j) = setB h (p + 6) (j + 1) f := by rw [Int.toNat_natCast, hgd]; exact setB_s
      rw [e]
      have := ih (some (vI (h (p + 3) j))) x4 (by omega)
      rw [if_neg (by omega), Nat.add_sub_cancel] at this
      exact this
    have J52 : ∀ x4, Rr l G 1 mX2_reckonBends Φ 52 [some (vR p), some (vI sd), some (vI j), some (vI (h (p + 3) j)), x4] [vI (stoodF (h (p + 3)) j)] g := by
      intro x4
      refine r_istore_n 53 dX2_reckonBends_52 rfl rfl rfl ?_
      refine r_aload_n 54 dX2_reckonBends_53 rfl rfl ?_
      refine r_getR 57 dX2_reckonBends_54 rfl kf_2_27 rfl (by first | assumption | omega) (by assumption) (by assumption) ?_
      refine r_iload_n 58 dX2_reckonBends_57 rfl rfl ?_
      refine r_aload_n 59 dX2_reckonBends_58 rfl rfl ?_
      refine r_iload_n 60 dX2_reckonBends_59 rfl rfl ?_
      rotate_left -- leaf: call at pc 60
      refine r_cv1 63 dX2_reckonBends_60 rfl kv_2_59 (by first | assumption | omega) (by assumption) rfl rfl (c_hasMan ly0 (h (p + 3) j)) ?_
      rintro r h' ⟨rfl, rfl⟩
      rw [hg p 6 (by omega)]
      refine r_if_eq 95 66 dX2_reckonBends_63 (by decide) rfl (fun c_63 => ?_) (fun c_63 => ?_)
      refine r_iconst 96 dX2_reckonBends_95 rfl rfl ?_
      rotate_left -- leaf: pc 96
      rotate_left -- leaf: pc 66
      · have hz : f j = 0 := by rw [hf]; unfold bendF; rw [if_neg (z01_n.mp c_63)]
        have := J96 x4
        rw [hz] at this
        exact this
      · have hm := z01_y.mp c_63
        have hsx := stoodF_in (h (p + 3)) j
        have w6 := w6 (h (p + 3) j).toNat
        have hsl := slipF_in (h (p + 1) (h (p + 3) j).toNat) j (stoodF (h (p + 3)) j) (by omega) (by omega)
        refine r_aload_n 67 dX2_reckonBends_66 rfl rfl ?_
        refine r_getR 70 dX2_reckonBends_67 rfl kf_2_9 rfl (by first | assumption | omega) (by assumption) (by assumption) ?_
        refine r_iload_n 71 dX2_reckonBends_70 rfl rfl ?_
        refine r_iald 72 dX2_reckonBends_71 rfl (by first | assumption | omega) (by assumption) (by first | omega | (simp only [Int.toNat_natCast]; omega)) (by first | omega | (simp only [Int.toNat_natCast]; omega)) ?_
        refine r_iload_n 73 dX2_reckonBends_72 rfl rfl ?_
        refine r_iload_n 74 dX2_reckonBends_73 rfl rfl ?_
        rotate_left -- leaf: call at pc 74
        rw [hg (p + 1) _ (by omega)]
        refine r_cs3 77 dX2_reckonBends_74 rfl ks_2_63 rfl rfl (c_slip (h (p + 1) (h (p + 3) j).toNat) j (stoodF (h (p + 3)) j) (by omega) (by omega)) ?_
        rintro r h'' ⟨rfl, rfl⟩
        refine r_aload_n 78 dX2_reckonBends_77 rfl rfl ?_
        refine r_getR 81 dX2_reckonBends_78 rfl kf_2_15 rfl (by first | assumption | omega) (by assumption) (by assumption) ?_
        refine r_iload_n 82 dX2_reckonBends_81 rfl rfl ?_
        refine r_iald 83 dX2_reckonBends_82 rfl (by first | assumption | omega) (by assumption) (by first | omega | (simp only [Int.toNat_natCast]; omega)) (by first | omega | (simp only [Int.toNat_natCast]; omega)) ?_
        rotate_left -- leaf: pc 83
        rw [hg (p + 2) _ (by omega)]
        refine r_iadd 84 dX2_reckonBends_83 rfl (by first | exact w32_id (by omega) (by omega) | rfl) ?_
        refine r_aload_n 85 dX2_reckonBends_84 rfl rfl ?_
        refine r_getI 88 dX2_reckonBends_85 rfl kf_2_43 rfl (by first | assumption | omega) (by assumption) ?_
        rotate_left -- leaf: pc 88
        rw [hg p 9 (by omega)]
        refine r_iadd 89 dX2_reckonBends_88 rfl (by first | exact w32_id (by omega) (by omega) | rfl) ?_
        refine r_bipush 91 dX2_reckonBends_89 rfl rfl (by decide) ?_
        refine r_isub 92 dX2_reckonBends_91 rfl (by first | exact w32_id (by omega) (by omega) | rfl) ?_
        refine r_goto 96 dX2_reckonBends_92 (by decide) ?_
        rotate_left -- leaf: pc 96
        have hz : f j = slipF (h (p + 1) (h (p + 3) j).toNat) j (stoodF (h (p + 3)) j) + h (p + 2) (h (p + 3) j).toNat + h p 9 - 6 := by rw [hf]; unfold bendF; rw [if_pos hm]
        have := J96 x4
        rw [hz] at this
        exact this
    have J38 : Rr l G 1 mX2_reckonBends Φ 38 [some (vR p), some (vI sd), some (vI j), some (vI (h (p + 3) j)), x4] [vI (z01 (0 < j ∧ h (p + 3) j = h (p + 3) (j - 1)))] g := by
      refine r_istore 40 dX2_reckonBends_38 rfl rfl rfl ?_
      refine r_iload 42 dX2_reckonBends_40 rfl rfl ?_
      refine r_if_eq 51 45 dX2_reckonBends_42 (by decide) rfl (fun c_42 => ?_) (fun c_42 => ?_)
      refine r_iconst 52 dX2_reckonBends_51 rfl rfl ?_
      rotate_left -- leaf: pc 52
      refine r_iload_n 46 dX2_reckonBends_45 rfl rfl ?_
      refine r_iconst 47 dX2_reckonBends_46 rfl rfl ?_
      refine r_iadd 48 dX2_reckonBends_47 rfl (by first | exact w32_id (by omega) (by omega) | rfl) ?_
      refine r_goto 52 dX2_reckonBends_48 (by decide) ?_
      rotate_left -- leaf: pc 52
      · have hn := z01_n.mp c_42
        have hz : stoodF (h (p + 3)) j = 0 := by
          cases j with
          | zero => rfl
          | succ j => unfold stoodF; exact if_neg (fun q => hn ⟨by omega, q⟩)
        have := J52 (some (vI (z01 (0 < j ∧ h (p + 3) j = h (p + 3) (j - 1)))))
        rw [hz] at this
        exact this
      · obtain ⟨hn, hn2⟩ := z01_y.mp c_42
        have hz : stoodF (h (p + 3)) j = sd + 4 := by
          rw [hsd, if_neg (by omega)]
          obtain ⟨i, rfl⟩ : ∃ i, j = i + 1 := ⟨j - 1, by omega⟩
          rw [Nat.add_sub_cancel] at hn2 ⊢
          rw [stoodF, if_pos hn2]
        have := J52 (some (vI (z01 (0 < j ∧ h (p + 3) j = h (p + 3) (j - 1)))))
        rw [hz] at this
        exact this
    refine r_iload_n 5 dX2_reckonBends_4 rfl rfl ?_
    refine r_bipush 7 dX2_reckonBends_5 rfl rfl (by decide) ?_
    refine r_icmp_ge 103 10 dX2_reckonBends_7 (by decide) rfl (fun c_7 => ?_) (fun c_7 => ?_)
    refine r_ret dX2_reckonBends_103 rfl ?_
    rotate_left -- leaf: return at pc 103
    refine r_aload_n 11 dX2_reckonBends_10 rfl rfl ?_
    refine r_getR 14 dX2_reckonBends_11 rfl kf_2_18 rfl (by first | assumption | omega) (by assumption) (by assumption) ?_
    refine r_iload_n 15 dX2_reckonBends_14 rfl rfl ?_
    refine r_iald 16 dX2_reckonBends_15 rfl (by first | assumption | omega) (by assumption) (by first | omega | (simp only [Int.toNat_natCast]; omega)) (by first | omega | (simp only [Int.toNat_natCast]; omega)) ?_
    rotate_left -- leaf: pc 16
    · omega
    rw [Int.toNat_natCast, e3]
    refine r_istore_n 17 dX2_reckonBends_16 rfl rfl rfl ?_
    refine r_iload_n 18 dX2_reckonBends_17 rfl rfl ?_
    refine r_if_le 37 21 dX2_reckonBends_18 (by decide) rfl (fun c_18 => ?_) (fun c_18 => ?_)
    refine r_iconst 38 dX2_reckonBends_37 rfl rfl ?_
    rotate_left -- leaf: pc 38
    refine r_iload_n 22 dX2_reckonBends_21 rfl rfl ?_
    refine r_aload_n 23 dX2_reckonBends_22 rfl rfl ?_
    refine r_getR 26 dX2_reckonBends_23 rfl kf_2_18 rfl (by first | assumption | omega) (by assumption) (by assumption) ?_
    refine r_iload_n 27 dX2_reckonBends_26 rfl rfl ?_
    refine r_iconst 28 dX2_reckonBends_27 rfl rfl ?_
    refine r_isub 29 dX2_reckonBends_28 rfl (by first | exact w32_id (by omega) (by omega) | rfl) ?_
    refine r_iald 30 dX2_reckonBends_29 rfl (by first | assumption | omega) (by assumption) (by first | omega | (simp only [Int.toNat_natCast]; omega)) (by first | omega | (simp only [Int.toNat_natCast]; omega)) ?_
    rotate_left -- leaf: pc 30
    · have := J38
      rw [z01_f (by omega)] at this
      exact this
    · have ej : ((j : Int) - 1).toNat = j - 1 := by omega
      rw [ej, e3]
      refine r_icmp_ne 37 33 dX2_reckonBends_30 (by decide) rfl (fun c_30 => ?_) (fun c_30 => ?_)
      refine r_iconst 38 dX2_reckonBends_37 rfl rfl ?_
      rotate_left -- leaf: pc 38
      refine r_iconst 34 dX2_reckonBends_33 rfl rfl ?_
      refine r_goto 38 dX2_reckonBends_34 (by decide) ?_
      rotate_left -- leaf: pc 38
      · have := J38
        rw [z01_f (fun q => c_30 q.2)] at this
        exact this
      · have := J38
        rw [z01_t ⟨by omega, c_30⟩] at this
        exact this
theorem c_reckon (ly : LT G p) (w : wT h p) : Ca l G 1 mX2_reckonBends [vR p] h (fun r h' => r = none ∧ h' = reb p h) := by
  refine Ca.of (by decide) (Nat.le_of_ble_eq_true rfl) (fun hI hv hH => ?_)
  refine r_iconst 1 dX2_reckonBends_0 rfl rfl ?_
  refine r_istore_n 2 dX2_reckonBends_1 rfl rfl rfl ?_
  refine r_iconst 3 dX2_reckonBends_2 rfl rfl ?_
  refine r_istore_n 4 dX2_reckonBends_3 rfl rfl rfl ?_
  rotate_left -- leaf: pc 4
  have := l_reckon (l := l) (G := G) ly w (Φ := fun r h' => r = none ∧ h' = reb p h) ⟨rfl, rfl⟩ 12 0 none none rfl
  rw [setB_0] at this
  exact this
end TW
