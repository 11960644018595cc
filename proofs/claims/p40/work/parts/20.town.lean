/-! SunPointer$Town: where its cells lie (p: the object, p + 1 .. p + 6 its rows) -/
def LT (G : zG) (p : Nat) : Prop := (p < gN G ∧ p + 1 < gN G ∧ p + 2 < gN G ∧ p + 3 < gN G ∧ p + 4 < gN G ∧ p + 5 < gN G ∧ p + 6 < gN G) ∧ (gs G p = 7 ∧ gs G (p + 1) = 0 ∧ gs G (p + 2) = 0 ∧ gs G (p + 3) = 0 ∧ gs G (p + 4) = 0 ∧ gs G (p + 5) = 0 ∧ gs G (p + 6) = 0) ∧ (gr G p 0 = p + 1 ∧ gr G p 1 = p + 2 ∧ gr G p 2 = p + 3 ∧ gr G p 3 = p + 4 ∧ gr G p 4 = p + 5 ∧ gr G p 5 = p + 6) ∧ (gl G (p + 1) = 4 ∧ gl G (p + 2) = 4 ∧ gl G (p + 3) = 12 ∧ gl G (p + 4) = 5 ∧ gl G (p + 5) = 5 ∧ gl G (p + 6) = 12)
/-- what a Town's numbers are within -/
def wT (h : zH) (p : Nat) : Prop := (0 ≤ h p 6 ∧ h p 6 ≤ 4) ∧ (0 ≤ h p 7 ∧ h p 7 ≤ 5) ∧ (0 ≤ h p 8 ∧ h p 8 < 4096) ∧ (0 ≤ h p 9 ∧ h p 9 ≤ 6) ∧ (∀ j, 0 ≤ h (p + 1) j ∧ h (p + 1) j ≤ 3) ∧ (∀ j, 0 ≤ h (p + 2) j ∧ h (p + 2) j ≤ 6) ∧ (∀ j, h (p + 3) j = -4 ∨ (0 ≤ h (p + 3) j ∧ h (p + 3) j ≤ 3)) ∧ (∀ j, 0 ≤ h (p + 4) j ∧ h (p + 4) j ≤ 47) ∧ (∀ j, 0 ≤ h (p + 5) j ∧ h (p + 5) j ≤ 9) ∧ (∀ j, -20 ≤ h (p + 6) j ∧ h (p + 6) j ≤ 20)
def stoodF (st : Nat → Int) : Nat → Int
  | 0 => 0
  | n + 1 => if st (n + 1) = st n then stoodF st n + 4 else 0
theorem stoodF_in (st : Nat → Int) : ∀ j : Nat, 0 ≤ stoodF st j ∧ stoodF st j ≤ 4 * j
  | 0 => by simp [stoodF]
  | n + 1 => by
    have := stoodF_in st n
    unfold stoodF
    split <;> omega
def slipF (kind hour stood : Int) : Int := if kind = 1 then -1 else if kind = 2 then -1 - stood / 8 else if kind = 3 then (if hour % 2 = 0 then 1 else -1) else 0
def bendF (men pa : Int) (kd ln st : Nat → Int) (j : Nat) : Int := if 0 ≤ st j ∧ st j < men then slipF (kd (st j).toNat) j (stoodF st j) + ln (st j).toNat + pa - 6 else 0
/-- the bends reckoned anew -/
def reb (p : Nat) (h : zH) : zH := setB h (p + 6) 12 (bendF (h p 6) (h p 9) (h (p + 1)) (h (p + 2)) (h (p + 3)))
section TW
variable {l : Launch} {G : zG} {h : zH} {p : Nat}
theorem c_hasMan (ly : LT G p) (m : Int) : Ca l G 0 mX2_hasMan [vR p, vI m] h (fun r h' => r = some (vI (z01 (0 ≤ m ∧ m < h p 6))) ∧ h' = h) := by
  obtain ⟨⟨n0, n1, n2, n3, n4, n5, n6⟩, ⟨s0, s1, s2, s3, s4, s5, s6⟩, ⟨r0, r1, r2, r3, r4, r5⟩, ⟨l1, l2, l3, l4, l5, l6⟩⟩ := ly
  refine Ca.of (by decide) (Nat.le_of_ble_eq_true rfl) (fun hI hv hH => ?_)
  refine r_iload_n 1 dX2_hasMan_0 rfl rfl ?_
  refine r_if_lt 16 4 dX2_hasMan_1 (by decide) rfl (fun c_1 => ?_) (fun c_1 => ?_)
  refine r_iconst 17 dX2_hasMan_16 rfl rfl ?_
  refine r_zret dX2_hasMan_17 rfl (by first | exact Or.inl rfl | exact Or.inr rfl | assumption | omega) ?_
  rotate_left -- leaf: return at pc 17
  refine r_iload_n 5 dX2_hasMan_4 rfl rfl ?_
  refine r_aload_n 6 dX2_hasMan_5 rfl rfl ?_
  refine r_getI 9 dX2_hasMan_6 rfl kf_2_33 rfl (by first | assumption | omega) (by assumption) ?_
  refine r_icmp_ge 16 12 dX2_hasMan_9 (by decide) rfl (fun c_9 => ?_) (fun c_9 => ?_)
  refine r_iconst 17 dX2_hasMan_16 rfl rfl ?_
  refine r_zret dX2_hasMan_17 rfl (by first | exact Or.inl rfl | exact Or.inr rfl | assumption | omega) ?_
  rotate_left -- leaf: return at pc 17
  refine r_iconst 13 dX2_hasMan_12 rfl rfl ?_
  refine r_goto 17 dX2_hasMan_13 (by decide) ?_
  refine r_zret dX2_hasMan_17 rfl (by first | exact Or.inl rfl | exact Or.inr rfl | assumption | omega) ?_
  rotate_left -- leaf: return at pc 17
  all_goals refine ⟨?_, rfl⟩
  all_goals unfold z01
  all_goals first | rw [if_pos (by omega)] | rw [if_neg (by omega)]
theorem c_hasDeed (ly : LT G p) (m : Int) : Ca l G 0 mX2_hasDeed [vR p, vI m] h (fun r h' => r = some (vI (z01 (0 ≤ m ∧ m < h p 7))) ∧ h' = h) := by
  obtain ⟨⟨n0, n1, n2, n3, n4, n5, n6⟩, ⟨s0, s1, s2, s3, s4, s5, s6⟩, ⟨r0, r1, r2, r3, r4, r5⟩, ⟨l1, l2, l3, l4, l5, l6⟩⟩ := ly
  refine Ca.of (by decide) (Nat.le_of_ble_eq_true rfl) (fun hI hv hH => ?_)
  refine r_iload_n 1 dX2_hasDeed_0 rfl rfl ?_
  refine r_if_lt 16 4 dX2_hasDeed_1 (by decide) rfl (fun c_1 => ?_) (fun c_1 => ?_)
  refine r_iconst 17 dX2_hasDeed_16 rfl rfl ?_
  refine r_zret dX2_hasDeed_17 rfl (by first | exact Or.inl rfl | exact Or.inr rfl | assumption | omega) ?_
  rotate_left -- leaf: return at pc 17
  refine r_iload_n 5 dX2_hasDeed_4 rfl rfl ?_
  refine r_aload_n 6 dX2_hasDeed_5 rfl rfl ?_
  refine r_getI 9 dX2_hasDeed_6 rfl kf_2_37 rfl (by first | assumption | omega) (by assumption) ?_
  refine r_icmp_ge 16 12 dX2_hasDeed_9 (by decide) rfl (fun c_9 => ?_) (fun c_9 => ?_)
  refine r_iconst 17 dX2_hasDeed_16 rfl rfl ?_
  refine r_zret dX2_hasDeed_17 rfl (by first | exact Or.inl rfl | exact Or.inr rfl | assumption | omega) ?_
  rotate_left -- leaf: return at pc 17
  refine r_iconst 13 dX2_hasDeed_12 rfl rfl ?_
  refine r_goto 17 dX2_hasDeed_13 (by decide) ?_
  refine r_zret dX2_hasDeed_17 rfl (by first | exact Or.inl rfl | exact Or.inr rfl | assumption | omega) ?_
  rotate_left -- leaf: return at pc 17
  all_goals refine ⟨?_, rfl⟩
  all_goals unfold z01
  all_goals first | rw [if_pos (by omega)] | rw [if_neg (by omega)]
theorem c_isCloudy (ly : LT G p) (j : Nat) (hj : j < 12) : Ca l G 0 mX2_isCloudy [vR p, vI j] h (fun r h' => r = some (vI (bitI (h p 8) j)) ∧ h' = h) := by
  obtain ⟨⟨n0, n1, n2, n3, n4, n5, n6⟩, ⟨s0, s1, s2, s3, s4, s5, s6⟩, ⟨r0, r1, r2, r3, r4, r5⟩, ⟨l1, l2, l3, l4, l5, l6⟩⟩ := ly
  refine Ca.of (by decide) (Nat.le_of_ble_eq_true rfl) (fun hI hv hH => ?_)
  have e1 : z_iand (z_ishr (h p 8) j) 1 = bitI (h p 8) j := by
    rw [z_shr (hH p 8) (by omega), z_and1 ?_]
    · rfl
    · have h1 := hH p 8
      have h2 : (0 : Int) < 2 ^ j := Int.pow_pos (by decide)
      have := Int.ediv_mul_le (h p 8) (show (2 : Int) ^ j ≠ 0 by omega)
      have := Int.lt_ediv_add_one_mul_self (h p 8) h2
      constructor
      · have := h1.1
        apply Int.le_ediv_of_mul_le h2
        have : (-2147483648 : Int) * 2 ^ j ≤ -2147483648 := by
          have : (1 : Int) ≤ 2 ^ j := h2
          omega
        omega
      · have := h1.2
        apply Int.ediv_lt_of_lt_mul h2
        have : (2147483648 : Int) ≤ 2147483648 * 2 ^ j := by
          have : (1 : Int) ≤ 2 ^ j := h2
          omega
        omega
  have hb : bitI (h p 8) j = 0 ∨ bitI (h p 8) j = 1 := by unfold bitI; omega
  refine r_aload_n 1 dX2_isCloudy_0 rfl rfl ?_
  refine r_getI 4 dX2_isCloudy_1 rfl kf_2_40 rfl (by first | assumption | omega) (by assumption) ?_
  refine r_iload_n 5 dX2_isCloudy_4 rfl rfl ?_
  refine r_ishr 6 dX2_isCloudy_5 rfl rfl ?_
  refine r_iconst 7 dX2_isCloudy_6 rfl rfl ?_
  refine r_iand 8 dX2_isCloudy_7 rfl rfl ?_
  rotate_left -- leaf: pc 8
  rw [e1]
  refine r_iconst 9 dX2_isCloudy_8 rfl rfl ?_
  refine r_icmp_ne 16 12 dX2_isCloudy_9 (by decide) rfl (fun c_9 => ?_) (fun c_9 => ?_)
  refine r_iconst 17 dX2_isCloudy_16 rfl rfl ?_
  refine r_zret dX2_isCloudy_17 rfl (by first | exact Or.inl rfl | exact Or.inr rfl | assumption | omega) ?_
  rotate_left -- leaf: return at pc 17
  refine r_iconst 13 dX2_isCloudy_12 rfl rfl ?_
  refine r_goto 17 dX2_isCloudy_13 (by decide) ?_
  refine r_zret dX2_isCloudy_17 rfl (by first | exact Or.inl rfl | exact Or.inr rfl | assumption | omega) ?_
  rotate_left -- leaf: return at pc 17
  all_goals refine ⟨?_, rfl⟩
  · rw [show bitI (h p 8) j = 0 by omega]
  · rw [show bitI (h p 8) j = 1 by omega]
theorem c_readsIn (ly : LT G p) (j : Nat) (hj : j < 12) : Ca l G 1 mX2_readsIn [vR p, vI j] h (fun r h' => r = some (vI (z01 (¬ h (p + 3) j = -4 ∧ bitI (h p 8) j = 0))) ∧ h' = h) := by
  have ly0 := ly
  obtain ⟨⟨n0, n1, n2, n3, n4, n5, n6⟩, ⟨s0, s1, s2, s3, s4, s5, s6⟩, ⟨r0, r1, r2, r3, r4, r5⟩, ⟨l1, l2, l3, l4, l5, l6⟩⟩ := ly
  refine Ca.of (by decide) (Nat.le_of_ble_eq_true rfl) (fun hI hv hH => ?_)
  refine r_aload_n 1 dX2_readsIn_0 rfl rfl ?_
  refine r_getR 4 dX2_readsIn_1 rfl kf_2_18 rfl (by first | assumption | omega) (by assumption) (by assumption) ?_
  refine r_iload_n 5 dX2_readsIn_4 rfl rfl ?_
  refine r_iald 6 dX2_readsIn_5 rfl (by first | assumption | omega) (by assumption) (by first | omega | (simp only [Int.toNat_natCast]; omega)) (by first | omega | (simp only [Int.toNat_natCast]; omega)) ?_
  refine r_bipush 8 dX2_readsIn_6 rfl rfl (by decide) ?_
  refine r_icmp_eq 23 11 dX2_readsIn_8 (by decide) rfl (fun c_8 => ?_) (fun c_8 => ?_)
  refine r_iconst 24 dX2_readsIn_23 rfl rfl ?_
  refine r_zret dX2_readsIn_24 rfl (by first | exact Or.inl rfl | exact Or.inr rfl | assumption | omega) ?_
  rotate_left -- leaf: return at pc 24
  refine r_aload_n 12 dX2_readsIn_11 rfl rfl ?_
  refine r_iload_n 13 dX2_readsIn_12 rfl rfl ?_
  rotate_left -- leaf: call at pc 13
  · refine ⟨?_, rfl⟩
    simp only [Int.toNat_natCast] at c_8
    rw [z01_f (fun z => z.1 c_8)]
  · simp only [Int.toNat_natCast] at c_8
    refine r_cv1 16 dX2_readsIn_13 rfl kv_2_67 (by first | assumption | omega) (by assumption) rfl rfl (c_isCloudy ly0 j hj) ?_
    rintro r h' ⟨rfl, rfl⟩
    have hb : bitI (h' p 8) j = 0 ∨ bitI (h' p 8) j = 1 := by unfold bitI; omega
    refine r_if_ne 23 19 dX2_readsIn_16 (by decide) rfl (fun c_16 => ?_) (fun c_16 => ?_)
    refine r_iconst 24 dX2_readsIn_23 rfl rfl ?_
    refine r_zret dX2_readsIn_24 rfl (by first | exact Or.inl rfl | exact Or.inr rfl | assumption | omega) ?_
    rotate_left -- leaf: return at pc 24
    refine r_iconst 20 dX2_readsIn_19 rfl rfl ?_
    refine r_goto 24 dX2_readsIn_20 (by decide) ?_
    refine r_zret dX2_readsIn_24 rfl (by first | exact Or.inl rfl | exact Or.inr rfl | assumption | omega) ?_
    rotate_left -- leaf: return at pc 24
    · exact ⟨by rw [z01_f (fun z => c_16 z.2)], rfl⟩
    · exact ⟨by rw [z01_t ⟨c_8, c_16⟩], rfl⟩
theorem c_slip (k hr sd : Int) (h0 : 0 ≤ hr) (h1 : 0 ≤ sd) : Ca l G 0 mX2_slip [vI k, vI hr, vI sd] h (fun r h' => r = some (vI (slipF k hr sd)) ∧ h' = h) := by
  refine Ca.of (by decide) (Nat.le_of_ble_eq_true rfl) (fun hI hv hH => ?_)
  have hs : in32 sd := hv (vI sd) (by simp)
  have hs2 := hs.2
  have hd0 : 0 ≤ sd / 8 := by omega
  have hd1 : sd / 8 ≤ sd := by omega
  refine r_iload_n 1 dX2_slip_0 rfl rfl ?_
  by_cases k1 : k = 1
  · subst k1
    refine r_tabIn 28 dX2_slip_1 (by decide) (by decide) rfl (by decide) ?_
    refine r_iconst 29 dX2_slip_28 rfl rfl ?_
    refine r_iret dX2_slip_29 rfl ?_
    rotate_left -- leaf: return at pc 29
    exact ⟨rfl, rfl⟩
  by_cases k2 : k = 2
  · subst k2
    refine r_tabIn 30 dX2_slip_1 (by decide) (by decide) rfl (by decide) ?_
    refine r_iconst 31 dX2_slip_30 rfl rfl ?_
    refine r_iload_n 32 dX2_slip_31 rfl rfl ?_
    refine r_bipush 34 dX2_slip_32 rfl rfl (by decide) ?_
    refine r_idiv 35 dX2_slip_34 rfl (by first | omega | (simp only [Int.toNat_natCast]; omega)) (by first | omega | (simp only [Int.toNat_natCast]; omega)) ?_
    refine r_isub 36 dX2_slip_35 rfl (by first | exact w32_id (by omega) (by omega) | rfl) ?_
    refine r_iret dX2_slip_36 rfl ?_
    rotate_left -- leaf: return at pc 36
    exact ⟨by simp [slipF], rfl⟩
  by_cases k3 : k = 3
  · subst k3
    refine r_tabIn 37 dX2_slip_1 (by decide) (by decide) rfl (by decide) ?_
    refine r_iload_n 38 dX2_slip_37 rfl rfl ?_
    refine r_iconst 39 dX2_slip_38 rfl rfl ?_
    refine r_irem 40 dX2_slip_39 rfl (by first | omega | (simp only [Int.toNat_natCast]; omega)) (by first | omega | (simp only [Int.toNat_natCast]; omega)) ?_
    refine r_if_ne 47 43 dX2_slip_40 (by decide) rfl (fun c_40 => ?_) (fun c_40 => ?_)
    refine r_iconst 48 dX2_slip_47 rfl rfl ?_
    refine r_iret dX2_slip_48 rfl ?_
    rotate_left -- leaf: return at pc 48
    refine r_iconst 44 dX2_slip_43 rfl rfl ?_
    refine r_goto 48 dX2_slip_44 (by decide) ?_
    refine r_iret dX2_slip_48 rfl ?_
    rotate_left -- leaf: return at pc 48
    · exact ⟨by simp [slipF, c_40], rfl⟩
    · exact ⟨by simp [slipF, c_40], rfl⟩
  · refine r_tabOut 49 dX2_slip_1 (by omega) (by decide) ?_
    refine r_iconst 50 dX2_slip_49 rfl rfl ?_
    refine r_iret dX2_slip_50 rfl ?_
    rotate_left -- leaf: return at pc 50
    exact ⟨by simp [slipF, k1, k2, k3], rfl⟩
end TW
