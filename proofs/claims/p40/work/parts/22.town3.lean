/-! SunPointer$Town: what changes it, part 2 -/
def tlen (i : Nat) : Nat := match i with
  | 1 => 4
  | 2 => 4
  | 3 => 12
  | 4 => 5
  | 5 => 5
  | 6 => 12
  | _ => 0
/-- Town p becomes as Town q -/
def cpT (h : zH) (q p : Nat) : zH := fun a b => if a = p then (if 6 ≤ b ∧ b ≤ 9 then h q b else h p b) else if p < a ∧ a ≤ p + 6 ∧ b < tlen (a - p) then h (q + (a - p)) b else h a b
def cldF (c : Int) (j : Nat) (b : Int) : Int := if b = 0 then z_iand c (z_ixor (2 ^ j) (-1)) else z_ior c (2 ^ j)
section TW
variable {l : Launch} {G : zG} {h : zH} {p : Nat}

theorem c_setKind (ly : LT G p) (m : Nat) (hm : m < 4) (v : Int) (w : wT (up h (p + 1) m v) p) : Ca l G 2 mX2_setKind [vR p, vI m, vI v] h (fun r h' => r = none ∧ h' = reb p (up h (p + 1) m v)) := by
  have ly0 := ly
  obtain ⟨⟨n0, n1, n2, n3, n4, n5, n6⟩, ⟨s0, s1, s2, s3, s4, s5, s6⟩, ⟨r0, r1, r2, r3, r4, r5⟩, ⟨l1, l2, l3, l4, l5, l6⟩⟩ := ly
  refine Ca.of (by decide) (Nat.le_of_ble_eq_true rfl) (fun hI hv hH => ?_)
  refine r_aload_n 1 dX2_setKind_0 rfl rfl ?_
  refine r_getR 4 dX2_setKind_1 rfl kf_2_9 rfl (by first | assumption | omega) (by assumption) (by assumption) ?_
  refine r_iload_n 5 dX2_setKind_4 rfl rfl ?_
  refine r_iload_n 6 dX2_setKind_5 rfl rfl ?_
  refine r_iast 7 dX2_setKind_6 rfl (by first | assumption | omega) (by assumption) (by first | omega | (simp only [Int.toNat_natCast]; omega)) (by first | omega | (simp only [Int.toNat_natCast]; omega)) ?_
  refine r_aload_n 8 dX2_setKind_7 rfl rfl ?_
  rotate_left -- leaf: call at pc 8
  rw [Int.toNat_natCast]
  refine r_cv0 11 dX2_setKind_8 rfl kv_2_56 (by first | assumption | omega) (by assumption) rfl rfl (c_reckon ly0 w) ?_
  rintro r h' ⟨rfl, rfl⟩
  refine r_ret dX2_setKind_11 rfl ?_
  rotate_left -- leaf: return at pc 11
  exact ⟨rfl, rfl⟩

theorem c_setLean (ly : LT G p) (m : Nat) (hm : m < 4) (v : Int) (w : wT (up h (p + 2) m v) p) : Ca l G 2 mX2_setLean [vR p, vI m, vI v] h (fun r h' => r = none ∧ h' = reb p (up h (p + 2) m v)) := by
  have ly0 := ly
  obtain ⟨⟨n0, n1, n2, n3, n4, n5, n6⟩, ⟨s0, s1, s2, s3, s4, s5, s6⟩, ⟨r0, r1, r2, r3, r4, r5⟩, ⟨l1, l2, l3, l4, l5, l6⟩⟩ := ly
  refine Ca.of (by decide) (Nat.le_of_ble_eq_true rfl) (fun hI hv hH => ?_)
  refine r_aload_n 1 dX2_setLean_0 rfl rfl ?_
  refine r_getR 4 dX2_setLean_1 rfl kf_2_15 rfl (by first | assumption | omega) (by assumption) (by assumption) ?_
  refine r_iload_n 5 dX2_setLean_4 rfl rfl ?_
  refine r_iload_n 6 dX2_setLean_5 rfl rfl ?_
  refine r_iast 7 dX2_setLean_6 rfl (by first | assumption | omega) (by assumption) (by first | omega | (simp only [Int.toNat_natCast]; omega)) (by first | omega | (simp only [Int.toNat_natCast]; omega)) ?_
  refine r_aload_n 8 dX2_setLean_7 rfl rfl ?_
  rotate_left -- leaf: call at pc 8
  rw [Int.toNat_natCast]
  refine r_cv0 11 dX2_setLean_8 rfl kv_2_56 (by first | assumption | omega) (by assumption) rfl rfl (c_reckon ly0 w) ?_
  rintro r h' ⟨rfl, rfl⟩
  refine r_ret dX2_setLean_11 rfl ?_
  rotate_left -- leaf: return at pc 11
  exact ⟨rfl, rfl⟩

theorem c_setStands (ly : LT G p) (m : Nat) (hm : m < 12) (v : Int) (w : wT (up h (p + 3) m v) p) : Ca l G 2 mX2_setStands [vR p, vI m, vI v] h (fun r h' => r = none ∧ h' = reb p (up h (p + 3) m v)) := by
  have ly0 := ly
  obtain ⟨⟨n0, n1, n2, n3, n4, n5, n6⟩, ⟨s0, s1, s2, s3, s4, s5, s6⟩, ⟨r0, r1, r2, r3, r4, r5⟩, ⟨l1, l2, l3, l4, l5, l6⟩⟩ := ly
  refine Ca.of (by decide) (Nat.le_of_ble_eq_true rfl) (fun hI hv hH => ?_)
  refine r_aload_n 1 dX2_setStands_0 rfl rfl ?_
  refine r_getR 4 dX2_setStands_1 rfl kf_2_18 rfl (by first | assumption | omega) (by assumption) (by assumption) ?_
  refine r_iload_n 5 dX2_setStands_4 rfl rfl ?_
  refine r_iload_n 6 dX2_setStands_5 rfl rfl ?_
  refine r_iast 7 dX2_setStands_6 rfl (by first | assumption | omega) (by assumption) (by first | omega | (simp only [Int.toNat_natCast]; omega)) (by first | omega | (simp only [Int.toNat_natCast]; omega)) ?_
  refine r_aload_n 8 dX2_setStands_7 rfl rfl ?_
  rotate_left -- leaf: call at pc 8
  rw [Int.toNat_natCast]
  refine r_cv0 11 dX2_setStands_8 rfl kv_2_56 (by first | assumption | omega) (by assumption) rfl rfl (c_reckon ly0 w) ?_
  rintro r h' ⟨rfl, rfl⟩
  refine r_ret dX2_setStands_11 rfl ?_
  rotate_left -- leaf: return at pc 11
  exact ⟨rfl, rfl⟩

theorem c_setPainted (ly : LT G p) (v : Int) (w : wT (up h p 9 v) p) : Ca l G 2 mX2_setPainted [vR p, vI v] h (fun r h' => r = none ∧ h' = reb p (up h p 9 v)) := by
  have ly0 := ly
  obtain ⟨⟨n0, n1, n2, n3, n4, n5, n6⟩, ⟨s0, s1, s2, s3, s4, s5, s6⟩, ⟨r0, r1, r2, r3, r4, r5⟩, ⟨l1, l2, l3, l4, l5, l6⟩⟩ := ly
  refine Ca.of (by decide) (Nat.le_of_ble_eq_true rfl) (fun hI hv hH => ?_)
  refine r_aload_n 1 dX2_setPainted_0 rfl rfl ?_
  refine r_iload_n 2 dX2_setPainted_1 rfl rfl ?_
  refine r_putI 5 dX2_setPainted_2 rfl kf_2_43 rfl rfl (Or.inl rfl) (by first | assumption | omega) (by assumption) ?_
  refine r_aload_n 6 dX2_setPainted_5 rfl rfl ?_
  rotate_left -- leaf: call at pc 6
  refine r_cv0 9 dX2_setPainted_6 rfl kv_2_56 (by first | assumption | omega) (by assumption) rfl rfl (c_reckon ly0 w) ?_
  rintro r h' ⟨rfl, rfl⟩
  refine r_ret dX2_setPainted_9 rfl ?_
  rotate_left -- leaf: return at pc 9
  exact ⟨rfl, rfl⟩
theorem c_exchange (ly : LT G p) (a b : Nat) (ha : a < 12) (hb : b < 12) (w : wT (up (up h (p + 3) a (h (p + 3) b)) (p + 3) b (h (p + 3) a)) p) : Ca l G 2 mX2_exchange [vR p, vI a, vI b] h (fun r h' => r = none ∧ h' = reb p (up (up h (p + 3) a (h (p + 3) b)) (p + 3) b (h (p + 3) a))) := by
  have ly0 := ly
  obtain ⟨⟨n0, n1, n2, n3, n4, n5, n6⟩, ⟨s0, s1, s2, s3, s4, s5, s6⟩, ⟨r0, r1, r2, r3, r4, r5⟩, ⟨l1, l2, l3, l4, l5, l6⟩⟩ := ly
  refine Ca.of (by decide) (Nat.le_of_ble_eq_true rfl) (fun hI hv hH => ?_)
  refine r_aload_n 1 dX2_exchange_0 rfl rfl ?_
  refine r_getR 4 dX2_exchange_1 rfl kf_2_18 rfl (by first | assumption | omega) (by assumption) (by assumption) ?_
  refine r_iload_n 5 dX2_exchange_4 rfl rfl ?_
  refine r_iald 6 dX2_exchange_5 rfl (by first | assumption | omega) (by assumption) (by first | omega | (simp only [Int.toNat_natCast]; omega)) (by first | omega | (simp only [Int.toNat_natCast]; omega)) ?_
  refine r_istore_n 7 dX2_exchange_6 rfl rfl rfl ?_
  refine r_aload_n 8 dX2_exchange_7 rfl rfl ?_
  refine r_getR 11 dX2_exchange_8 rfl kf_2_18 rfl (by first | assumption | omega) (by assumption) (by assumption) ?_
  refine r_iload_n 12 dX2_exchange_11 rfl rfl ?_
  refine r_aload_n 13 dX2_exchange_12 rfl rfl ?_
  refine r_getR 16 dX2_exchange_13 rfl kf_2_18 rfl (by first | assumption | omega) (by assumption) (by assumption) ?_
  refine r_iload_n 17 dX2_exchange_16 rfl rfl ?_
  refine r_iald 18 dX2_exchange_17 rfl (by first | assumption | omega) (by assumption) (by first | omega | (simp only [Int.toNat_natCast]; omega)) (by first | omega | (simp only [Int.toNat_natCast]; omega)) ?_
  refine r_iast 19 dX2_exchange_18 rfl (by first | assumption | omega) (by assumption) (by first | omega | (simp only [Int.toNat_natCast]; omega)) (by first | omega | (simp only [Int.toNat_natCast]; omega)) ?_
  refine r_aload_n 20 dX2_exchange_19 rfl rfl ?_
  refine r_getR 23 dX2_exchange_20 rfl kf_2_18 rfl (by first | assumption | omega) (by assumption) (by assumption) ?_
  refine r_iload_n 24 dX2_exchange_23 rfl rfl ?_
  refine r_iload_n 25 dX2_exchange_24 rfl rfl ?_
  refine r_iast 26 dX2_exchange_25 rfl (by first | assumption | omega) (by assumption) (by first | omega | (simp only [Int.toNat_natCast]; omega)) (by first | omega | (simp only [Int.toNat_natCast]; omega)) ?_
  refine r_aload_n 27 dX2_exchange_26 rfl rfl ?_
  rotate_left -- leaf: call at pc 27
  simp only [Int.toNat_natCast]
  refine r_cv0 30 dX2_exchange_27 rfl kv_2_56 (by first | assumption | omega) (by assumption) rfl rfl (c_reckon ly0 w) ?_
  rintro r h' ⟨rfl, rfl⟩
  refine r_ret dX2_exchange_30 rfl ?_
  rotate_left -- leaf: return at pc 30
  exact ⟨rfl, rfl⟩
theorem l_setAll (ly : LT G p) (m : Int) {Φ : Option zV → zH → Prop} (w : wT (setB h (p + 3) 12 (fun _ => m)) p) (hΦ : Φ none (reb p (setB h (p + 3) 12 (fun _ => m)))) : ∀ (n j : Nat), j + n = 12 → Rr l G 2 mX2_setAllStand Φ 2 [some (vR p), some (vI m), some (vI j)] [] (setB h (p + 3) j (fun _ => m)) := by
  have ly0 := ly
  obtain ⟨⟨n0, n1, n2, n3, n4, n5, n6⟩, ⟨s0, s1, s2, s3, s4, s5, s6⟩, ⟨r0, r1, r2, r3, r4, r5⟩, ⟨l1, l2, l3, l4, l5, l6⟩⟩ := ly
  intro n
  induction n with
  | zero =>
    intro j hj
    obtain rfl : j = 12 := by omega
    refine r_iload_n 3 dX2_setAllStand_2 rfl rfl ?_
    refine r_bipush 5 dX2_setAllStand_3 rfl rfl (by decide) ?_
    refine r_icmp_ge 21 8 dX2_setAllStand_5 (by decide) rfl (fun c_5 => ?_) (fun c_5 => ?_)
    refine r_aload_n 22 dX2_setAllStand_21 rfl rfl ?_
    rotate_left -- leaf: call at pc 22
    rotate_left -- leaf: pc 8
    · refine r_cv0 25 dX2_setAllStand_22 rfl kv_2_56 (by first | assumption | omega) (by assumption) rfl rfl (c_reckon ly0 w) ?_
      rintro r h' ⟨rfl, rfl⟩
      refine r_ret dX2_setAllStand_25 rfl ?_
      rotate_left -- leaf: return at pc 25
      exact hΦ
    · omega
  | succ n ih =>
    intro j hj
    refine r_iload_n 3 dX2_setAllStand_2 rfl rfl ?_
    refine r_bipush 5 dX2_setAllStand_3 rfl rfl (by decide) ?_
    refine r_icmp_ge 21 8 dX2_setAllStand_5 (by decide) rfl (fun c_5 => ?_) (fun c_5 => ?_)
    rotate_left -- leaf: pc 21
    refine r_aload_n 9 dX2_setAllStand_8 rfl rfl ?_
    refine r_getR 12 dX2_setAllStand_9 rfl kf_2_18 rfl (by first | assumption | omega) (by assumption) (by assumption) ?_
    refine r_iload_n 13 dX2_setAllStand_12 rfl rfl ?_
    refine r_iload_n 14 dX2_setAllStand_13 rfl rfl ?_
    refine r_iast 15 dX2_setAllStand_14 rfl (by first | assumption | omega) (by assumption) (by first | omega | (simp only [Int.toNat_natCast]; omega)) (by first | omega | (simp only [Int.toNat_natCast]; omega)) ?_
    refine r_iinc 18 _ dX2_setAllStand_15 rfl rfl rfl rfl (by first | exact w32_id (by omega) (by omega) | rfl) ?_
    refine r_goto 2 dX2_setAllStand_18 (by decide) ?_
    rotate_left -- leaf: pc 2
    · omega
    · rw [Int.toNat_natCast]
      have e := setB_s (h := h) (k := p + 3) (j := j) (f := fun _ => m)
      rw [e]
      exact ih (j + 1) (by omega)
theorem c_setAllStand (ly : LT G p) (m : Int) (w : wT (setB h (p + 3) 12 (fun _ => m)) p) : Ca l G 2 mX2_setAllStand [vR p, vI m] h (fun r h' => r = none ∧ h' = reb p (setB h (p + 3) 12 (fun _ => m))) := by
  refine Ca.of (by decide) (Nat.le_of_ble_eq_true rfl) (fun hI hv hH => ?_)
  refine r_iconst 1 dX2_setAllStand_0 rfl rfl ?_
  refine r_istore_n 2 dX2_setAllStand_1 rfl rfl rfl ?_
  rotate_left -- leaf: pc 2
  have := l_setAll (l := l) (G := G) ly m (Φ := fun r h' => r = none ∧ h' = reb p (setB h (p + 3) 12 (fun _ => m))) w ⟨rfl, rfl⟩ 12 0 rfl
  rw [setB_0] at this
  exact this
/-- an empty Town -/
def clT0 (p : Nat) (h : zH) : zH := reb p (setB (up (up (up (up h p 6 0) p 7 0) p 8 0) p 9 3) (p + 3) 12 (fun _ => -4))
theorem c_clear (ly : LT G p) (w : wT (setB (up (up (up (up h p 6 0) p 7 0) p 8 0) p 9 3) (p + 3) 12 (fun _ => -4)) p) : Ca l G 3 mX2_clear [vR p] h (fun r h' => r = none ∧ h' = clT0 p h) := by
  have ly0 := ly
  obtain ⟨⟨n0, n1, n2, n3, n4, n5, n6⟩, ⟨s0, s1, s2, s3, s4, s5, s6⟩, ⟨r0, r1, r2, r3, r4, r5⟩, ⟨l1, l2, l3, l4, l5, l6⟩⟩ := ly
  refine Ca.of (by decide) (Nat.le_of_ble_eq_true rfl) (fun hI hv hH => ?_)
  refine r_aload_n 1 dX2_clear_0 rfl rfl ?_
  refine r_iconst 2 dX2_clear_1 rfl rfl ?_
  refine r_putI 5 dX2_clear_2 rfl kf_2_33 rfl rfl (Or.inl rfl) (by first | assumption | omega) (by assumption) ?_
  refine r_aload_n 6 dX2_clear_5 rfl rfl ?_
  refine r_iconst 7 dX2_clear_6 rfl rfl ?_
  refine r_putI 10 dX2_clear_7 rfl kf_2_37 rfl rfl (Or.inl rfl) (by first | assumption | omega) (by assumption) ?_
  refine r_aload_n 11 dX2_clear_10 rfl rfl ?_
  refine r_iconst 12 dX2_clear_11 rfl rfl ?_
  refine r_putI 15 dX2_clear_12 rfl kf_2_40 rfl rfl (Or.inl rfl) (by first | assumption | omega) (by assumption) ?_
  refine r_aload_n 16 dX2_clear_15 rfl rfl ?_
  refine r_iconst 17 dX2_clear_16 rfl rfl ?_
  refine r_putI 20 dX2_clear_17 rfl kf_2_43 rfl rfl (Or.inl rfl) (by first | assumption | omega) (by assumption) ?_
  refine r_aload_n 21 dX2_clear_20 rfl rfl ?_
  refine r_bipush 23 dX2_clear_21 rfl rfl (by decide) ?_
  rotate_left -- leaf: call at pc 23
  refine r_cv1 26 dX2_clear_23 rfl kv_2_46 (by first | assumption | omega) (by assumption) rfl rfl (c_setAllStand ly0 (-4) w) ?_
  rintro r h' ⟨rfl, rfl⟩
  refine r_ret dX2_clear_26 rfl ?_
  rotate_left -- leaf: return at pc 26
  exact ⟨rfl, rfl⟩
theorem c_addMan (ly : LT G p) (k v : Int) (hw : wT h p) (w : h p 6 < 4 → wT (up (up (up h (p + 1) (h p 6).toNat k) (p + 2) (h p 6).toNat v) p 6 (h p 6 + 1)) p) : Ca l G 2 mX2_addMan [vR p, vI k, vI v] h (fun r h' => (4 ≤ h p 6 ∧ r = some (vI 0) ∧ h' = h) ∨ (h p 6 < 4 ∧ r = some (vI 1) ∧ h' = reb p (up (up (up h (p + 1) (h p 6).toNat k) (p + 2) (h p 6).toNat v) p 6 (h p 6 + 1)))) := by
  have ly0 := ly
  obtain ⟨⟨n0, n1, n2, n3, n4, n5, n6⟩, ⟨s0, s1, s2, s3, s4, s5, s6⟩, ⟨r0, r1, r2, r3, r4, r5⟩, ⟨l1, l2, l3, l4, l5, l6⟩⟩ := ly
  obtain ⟨w1, w2, w3, w4, w5, w6, w7, w8, w9, w10⟩ := hw
  refine Ca.of (by decide) (Nat.le_of_ble_eq_true rfl) (fun hI hv hH => ?_)
  refine r_aload_n 1 dX2_addMan_0 rfl rfl ?_
  refine r_getI 4 dX2_addMan_1 rfl kf_2_33 rfl (by first | assumption | omega) (by assumption) ?_
  refine r_iconst 5 dX2_addMan_4 rfl rfl ?_
  refine r_icmp_lt 10 8 dX2_addMan_5 (by decide) rfl (fun c_5 => ?_) (fun c_5 => ?_)
  rotate_left -- leaf: pc 10
  refine r_iconst 9 dX2_addMan_8 rfl rfl ?_
  refine r_zret dX2_addMan_9 rfl (by first | exact Or.inl rfl | exact Or.inr rfl | assumption | omega) ?_
  rotate_left -- leaf: return at pc 9
  · have e1 : up h (p + 1) (h p 6).toNat k p 6 = h p 6 := up_k (by omega)
    refine r_aload_n 11 dX2_addMan_10 rfl rfl ?_
    refine r_getR 14 dX2_addMan_11 rfl kf_2_9 rfl (by first | assumption | omega) (by assumption) (by assumption) ?_
    refine r_aload_n 15 dX2_addMan_14 rfl rfl ?_
    refine r_getI 18 dX2_addMan_15 rfl kf_2_33 rfl (by first | assumption | omega) (by assumption) ?_
    refine r_iload_n 19 dX2_addMan_18 rfl rfl ?_
    refine r_iast 20 dX2_addMan_19 rfl (by first | assumption | omega) (by assumption) (by first | omega | (simp only [Int.toNat_natCast]; omega)) (by first | omega | (simp only [Int.toNat_natCast]; omega)) ?_
    refine r_aload_n 21 dX2_addMan_20 rfl rfl ?_
    refine r_getR 24 dX2_addMan_21 rfl kf_2_15 rfl (by first | assumption | omega) (by assumption) (by assumption) ?_
    refine r_aload_n 25 dX2_addMan_24 rfl rfl ?_
    refine r_getI 28 dX2_addMan_25 rfl kf_2_33 rfl (by first | assumption | omega) (by assumption) ?_
    rotate_left -- leaf: pc 28
    rw [e1]
    have e2 : up (up h (p + 1) (h p 6).toNat k) (p + 2) (h p 6).toNat v p 6 = h p 6 := by rw [up_k (by omega), e1]
    refine r_iload_n 29 dX2_addMan_28 rfl rfl ?_
    refine r_iast 30 dX2_addMan_29 rfl (by first | assumption | omega) (by assumption) (by first | omega | (simp only [Int.toNat_natCast]; omega)) (by first | omega | (simp only [Int.toNat_natCast]; omega)) ?_
    refine r_aload_n 31 dX2_addMan_30 rfl rfl ?_
    refine r_dup 32 dX2_addMan_31 rfl rfl ?_
    refine r_getI 35 dX2_addMan_32 rfl kf_2_33 rfl (by first | assumption | omega) (by assumption) ?_
    rotate_left -- leaf: pc 35
    rw [e2]
    refine r_iconst 36 dX2_addMan_35 rfl rfl ?_
    refine r_iadd 37 dX2_addMan_36 rfl (by first | exact w32_id (by omega) (by omega) | rfl) ?_
    refine r_putI 40 dX2_addMan_37 rfl kf_2_33 rfl rfl (Or.inl rfl) (by first | assumption | omega) (by assumption) ?_
    refine r_aload_n 41 dX2_addMan_40 rfl rfl ?_
    rotate_left -- leaf: call at pc 41
    refine r_cv0 44 dX2_addMan_41 rfl kv_2_56 (by first | assumption | omega) (by assumption) rfl rfl (c_reckon ly0 (w c_5)) ?_
    rintro r h' ⟨rfl, rfl⟩
    refine r_iconst 45 dX2_addMan_44 rfl rfl ?_
    refine r_zret dX2_addMan_45 rfl (by first | exact Or.inl rfl | exact Or.inr rfl | assumption | omega) ?_
    rotate_left -- leaf: return at pc 45
    exact Or.inr ⟨c_5, rfl, rfl⟩
  · exact Or.inl ⟨c_5, rfl, rfl⟩
theorem c_addDeed (ly : LT G p) (k v : Int) (hw : wT h p) : Ca l G 0 mX2_addDeed [vR p, vI k, vI v] h (fun r h' => (5 ≤ h p 7 ∧ r = some (vI 0) ∧ h' = h) ∨ (h p 7 < 5 ∧ r = some (vI 1) ∧ h' = up (up (up h (p + 4) (h p 7).toNat k) (p + 5) (h p 7).toNat v) p 7 (h p 7 + 1))) := by
  obtain ⟨⟨n0, n1, n2, n3, n4, n5, n6⟩, ⟨s0, s1, s2, s3, s4, s5, s6⟩, ⟨r0, r1, r2, r3, r4, r5⟩, ⟨l1, l2, l3, l4, l5, l6⟩⟩ := ly
  obtain ⟨w1, w2, w3, w4, w5, w6, w7, w8, w9, w10⟩ := hw
  refine Ca.of (by decide) (Nat.le_of_ble_eq_true rfl) (fun hI hv hH => ?_)
  refine r_aload_n 1 dX2_addDeed_0 rfl rfl ?_
  refine r_getI 4 dX2_addDeed_1 rfl kf_2_37 rfl (by first | assumption | omega) (by assumption) ?_
  refine r_iconst 5 dX2_addDeed_4 rfl rfl ?_
  refine r_icmp_lt 10 8 dX2_addDeed_5 (by decide) rfl (fun c_5 => ?_) (fun c_5 => ?_)
  rotate_left -- leaf: pc 10
  refine r_iconst 9 dX2_addDeed_8 rfl rfl ?_
  refine r_zret dX2_addDeed_9 rfl (by first | exact Or.inl rfl | exact Or.inr rfl | assumption | omega) ?_
  rotate_left -- leaf: return at pc 9
  · have e1 : up h (p + 4) (h p 7).toNat k p 7 = h p 7 := up_k (by omega)
    refine r_aload_n 11 dX2_addDeed_10 rfl rfl ?_
    refine r_getR 14 dX2_addDeed_11 rfl kf_2_21 rfl (by first | assumption | omega) (by assumption) (by assumption) ?_
    refine r_aload_n 15 dX2_addDeed_14 rfl rfl ?_
    refine r_getI 18 dX2_addDeed_15 rfl kf_2_37 rfl (by first | assumption | omega) (by assumption) ?_
    refine r_iload_n 19 dX2_addDeed_18 rfl rfl ?_
    refine r_iast 20 dX2_addDeed_19 rfl (by first | assumption | omega) (by assumption) (by first | omega | (simp only [Int.toNat_natCast]; omega)) (by first | omega | (simp only [Int.toNat_natCast]; omega)) ?_
    refine r_aload_n 21 dX2_addDeed_20 rfl rfl ?_
    refine r_getR 24 dX2_addDeed_21 rfl kf_2_24 rfl (by first | assumption | omega) (by assumption) (by assumption) ?_
    refine r_aload_n 25 dX2_addDeed_24 rfl rfl ?_
    refine r_getI 28 dX2_addDeed_25 rfl kf_2_37 rfl (by first | assumption | omega) (by assumption) ?_
    rotate_left -- leaf: pc 28
    rw [e1]
    have e2 : up (up h (p + 4) (h p 7).toNat k) (p + 5) (h p 7).toNat v p 7 = h p 7 := by rw [up_k (by omega), e1]
    refine r_iload_n 29 dX2_addDeed_28 rfl rfl ?_
    refine r_iast 30 dX2_addDeed_29 rfl (by first | assumption | omega) (by assumption) (by first | omega | (simp only [Int.toNat_natCast]; omega)) (by first | omega | (simp only [Int.toNat_natCast]; omega)) ?_
    refine r_aload_n 31 dX2_addDeed_30 rfl rfl ?_
    refine r_dup 32 dX2_addDeed_31 rfl rfl ?_
    refine r_getI 35 dX2_addDeed_32 rfl kf_2_37 rfl (by first | assumption | omega) (by assumption) ?_
    rotate_left -- leaf: pc 35
    rw [e2]
    refine r_iconst 36 dX2_addDeed_35 rfl rfl ?_
    refine r_iadd 37 dX2_addDeed_36 rfl (by first | exact w32_id (by omega) (by omega) | rfl) ?_
    refine r_putI 40 dX2_addDeed_37 rfl kf_2_37 rfl rfl (Or.inl rfl) (by first | assumption | omega) (by assumption) ?_
    refine r_iconst 41 dX2_addDeed_40 rfl rfl ?_
    refine r_zret dX2_addDeed_41 rfl (by first | exact Or.inl rfl | exact Or.inr rfl | assumption | omega) ?_
    rotate_left -- leaf: return at pc 41
    exact Or.inr ⟨c_5, rfl, rfl⟩
  · exact Or.inl ⟨c_5, rfl, rfl⟩
theorem c_setCloudy (ly : LT G p) (j : Nat) (hj : j < 12) (b : Int) : Ca l G 0 mX2_setCloudy [vR p, vI j, vI b] h (fun r h' => r = none ∧ h' = up h p 8 (cldF (h p 8) j b)) := by
  obtain ⟨⟨n0, n1, n2, n3, n4, n5, n6⟩, ⟨s0, s1, s2, s3, s4, s5, s6⟩, ⟨r0, r1, r2, r3, r4, r5⟩, ⟨l1, l2, l3, l4, l5, l6⟩⟩ := ly
  refine Ca.of (by decide) (Nat.le_of_ble_eq_true rfl) (fun hI hv hH => ?_)
  refine r_aload_n 1 dX2_setCloudy_0 rfl rfl ?_
  refine r_iload_n 2 dX2_setCloudy_1 rfl rfl ?_
  refine r_if_eq 16 5 dX2_setCloudy_2 (by decide) rfl (fun c_2 => ?_) (fun c_2 => ?_)
  refine r_aload_n 17 dX2_setCloudy_16 rfl rfl ?_
  refine r_getI 20 dX2_setCloudy_17 rfl kf_2_40 rfl (by first | assumption | omega) (by assumption) ?_
  refine r_iconst 21 dX2_setCloudy_20 rfl rfl ?_
  refine r_iload_n 22 dX2_setCloudy_21 rfl rfl ?_
  refine r_ishl 23 dX2_setCloudy_22 rfl rfl ?_
  refine r_iconst 24 dX2_setCloudy_23 rfl rfl ?_
  refine r_ixor 25 dX2_setCloudy_24 rfl rfl ?_
  refine r_iand 26 dX2_setCloudy_25 rfl rfl ?_
  refine r_putI 29 dX2_setCloudy_26 rfl kf_2_40 rfl rfl (Or.inl rfl) (by first | assumption | omega) (by assumption) ?_
  refine r_ret dX2_setCloudy_29 rfl ?_
  rotate_left -- leaf: return at pc 29
  refine r_aload_n 6 dX2_setCloudy_5 rfl rfl ?_
  refine r_getI 9 dX2_setCloudy_6 rfl kf_2_40 rfl (by first | assumption | omega) (by assumption) ?_
  refine r_iconst 10 dX2_setCloudy_9 rfl rfl ?_
  refine r_iload_n 11 dX2_setCloudy_10 rfl rfl ?_
  refine r_ishl 12 dX2_setCloudy_11 rfl rfl ?_
  refine r_ior 13 dX2_setCloudy_12 rfl rfl ?_
  refine r_goto 26 dX2_setCloudy_13 (by decide) ?_
  refine r_putI 29 dX2_setCloudy_26 rfl kf_2_40 rfl rfl (Or.inl rfl) (by first | assumption | omega) (by assumption) ?_
  refine r_ret dX2_setCloudy_29 rfl ?_
  rotate_left -- leaf: return at pc 29
  · refine ⟨rfl, ?_⟩
    rw [z_shl1 j (by omega), cldF, if_pos c_2]
  · refine ⟨rfl, ?_⟩
    rw [z_shl1 j (by omega), cldF, if_neg c_2]
theorem ne_pq {p q : Nat} (i j : Nat) (h : p + 6 < q ∨ q + 6 < p) (hi : i ≤ 6) (hj : j ≤ 6) : ¬ q + i = p + j := by omega
theorem ne_pq0 {p q : Nat} (j : Nat) (h : p + 6 < q ∨ q + 6 < p) (hj : j ≤ 6) : ¬ q = p + j := by omega
theorem cpT_eq {q : Nat} (hpq : p + 6 < q ∨ q + 6 < p) : up (up (up (up (cpy (cpy (cpy (cpy (cpy (cpy h (q + 1) (p + 1) 4) (q + 2) (p + 2) 4) (q + 3) (p + 3) 12) (q + 4) (p + 4) 5) (q + 5) (p + 5) 5) (q + 6) (p + 6) 12) p 6 ((cpy (cpy (cpy (cpy (cpy (cpy h (q + 1) (p + 1) 4) (q + 2) (p + 2) 4) (q + 3) (p + 3) 12) (q + 4) (p + 4) 5) (q + 5) (p + 5) 5) (q + 6) (p + 6) 12) q 6)) p 7 (up (cpy (cpy (cpy (cpy (cpy (cpy h (q + 1) (p + 1) 4) (q + 2) (p + 2) 4) (q + 3) (p + 3) 12) (q + 4) (p + 4) 5) (q + 5) (p + 5) 5) (q + 6) (p + 6) 12) p 6 ((cpy (cpy (cpy (cpy (cpy (cpy h (q + 1) (p + 1) 4) (q + 2) (p + 2) 4) (q + 3) (p + 3) 12) (q + 4) (p + 4) 5) (q + 5) (p + 5) 5) (q + 6) (p + 6) 12) q 6) q 7)) p 8 (up (up (cpy (cpy (cpy (cpy (cpy (cpy h (q + 1) (p + 1) 4) (q + 2) (p + 2) 4) (q + 3) (p + 3) 12) (q + 4) (p + 4) 5) (q + 5) (p + 5) 5) (q + 6) (p + 6) 12) p 6 ((cpy (cpy (cpy (cpy (cpy (cpy h (q + 1) (p + 1) 4) (q + 2) (p + 2) 4) (q + 3) (p + 3) 12) (q + 4) (p + 4) 5) (q + 5) (p + 5) 5) (q + 6) (p + 6) 12) q 6)) p 7 (up (cpy (cpy (cpy (cpy (cpy (cpy h (q + 1) (p + 1) 4) (q + 2) (p + 2) 4) (q + 3) (p + 3) 12) (q + 4) (p + 4) 5) (q + 5) (p + 5) 5) (q + 6) (p + 6) 12) p 6 ((cpy (cpy (cpy (cpy (cpy (cpy h (q + 1) (p + 1) 4) (q + 2) (p + 2) 4) (q + 3) (p + 3) 12) (q + 4) (p + 4) 5) (q + 5) (p + 5) 5) (q + 6) (p + 6) 12) q 6) q 7) q 8)) p 9 (up (up (up (cpy (cpy (cpy (cpy (cpy (cpy h (q + 1) (p + 1) 4) (q + 2) (p + 2) 4) (q + 3) (p + 3) 12) (q + 4) (p + 4) 5) (q + 5) (p + 5) 5) (q + 6) (p + 6) 12) p 6 ((cpy (cpy (cpy (cpy (cpy (cpy h (q + 1) (p + 1) 4) (q + 2) (p + 2) 4) (q + 3) (p + 3) 12) (q + 4) (p + 4) 5) (q + 5) (p + 5) 5) (q + 6) (p + 6) 12) q 6)) p 7 (up (cpy (cpy (cpy (cpy (cpy (cpy h (q + 1) (p + 1) 4) (q + 2) (p + 2) 4) (q + 3) (p + 3) 12) (q + 4) (p + 4) 5) (q + 5) (p + 5) 5) (q + 6) (p + 6) 12) p 6 ((cpy (cpy (cpy (cpy (cpy (cpy h (q + 1) (p + 1) 4) (q + 2) (p + 2) 4) (q + 3) (p + 3) 12) (q + 4) (p + 4) 5) (q + 5) (p + 5) 5) (q + 6) (p + 6) 12) q 6) q 7)) p 8 (up (up (cpy (cpy (cpy (cpy (cpy (cpy h (q + 1) (p + 1) 4) (q + 2) (p + 2) 4) (q + 3) (p + 3) 12) (q + 4) (p + 4) 5) (q + 5) (p + 5) 5) (q + 6) (p + 6) 12) p 6 ((cpy (cpy (cpy (cpy (cpy (cpy h (q + 1) (p + 1) 4) (q + 2) (p + 2) 4) (q + 3) (p + 3) 12) (q + 4) (p + 4) 5) (q + 5) (p + 5) 5) (q + 6) (p + 6) 12) q 6)) p 7 (up (cpy (cpy (cpy (cpy (cpy (cpy h (q + 1) (p + 1) 4) (q + 2) (p + 2) 4) (q + 3) (p + 3) 12) (q + 4) (p + 4) 5) (q + 5) (p + 5) 5) (q + 6) (p + 6) 12) p 6 ((cpy (cpy (cpy (cpy (cpy (cpy h (q + 1) (p + 1) 4) (q + 2) (p + 2) 4) (q + 3) (p + 3) 12) (q + 4) (p + 4) 5) (q + 5) (p + 5) 5) (q + 6) (p + 6) 12) q 6) q 7) q 8) q 9) = cpT h q p := by
  have hq0 : ¬ q = p := by omega
  have q1 := ne_pq0 1 hpq (by decide)
  have q2 := ne_pq0 2 hpq (by decide)
  have q3 := ne_pq0 3 hpq (by decide)
  have q4 := ne_pq0 4 hpq (by decide)
  have q5 := ne_pq0 5 hpq (by decide)
  have q6 := ne_pq0 6 hpq (by decide)
  have e11 := ne_pq 1 1 hpq (by decide) (by decide)
  have e12 := ne_pq 1 2 hpq (by decide) (by decide)
  have e13 := ne_pq 1 3 hpq (by decide) (by decide)
  have e14 := ne_pq 1 4 hpq (by decide) (by decide)
  have e15 := ne_pq 1 5 hpq (by decide) (by decide)
  have e16 := ne_pq 1 6 hpq (by decide) (by decide)
  have e21 := ne_pq 2 1 hpq (by decide) (by decide)
  have e22 := ne_pq 2 2 hpq (by decide) (by decide)
  have e23 := ne_pq 2 3 hpq (by decide) (by decide)
  have e24 := ne_pq 2 4 hpq (by decide) (by decide)
  have e25 := ne_pq 2 5 hpq (by decide) (by decide)
  have e26 := ne_pq 2 6 hpq (by decide) (by decide)
  have e31 := ne_pq 3 1 hpq (by decide) (by decide)
  have e32 := ne_pq 3 2 hpq (by decide) (by decide)
  have e33 := ne_pq 3 3 hpq (by decide) (by decide)
  have e34 := ne_pq 3 4 hpq (by decide) (by decide)
  have e35 := ne_pq 3 5 hpq (by decide) (by decide)
  have e36 := ne_pq 3 6 hpq (by decide) (by decide)
  have e41 := ne_pq 4 1 hpq (by decide) (by decide)
  have e42 := ne_pq 4 2 hpq (by decide) (by decide)
  have e43 := ne_pq 4 3 hpq (by decide) (by decide)
  have e44 := ne_pq 4 4 hpq (by decide) (by decide)
  have e45 := ne_pq 4 5 hpq (by decide) (by decide)
  have e46 := ne_pq 4 6 hpq (by decide) (by decide)
  have e51 := ne_pq 5 1 hpq (by decide) (by decide)
  have e52 := ne_pq 5 2 hpq (by decide) (by decide)
  have e53 := ne_pq 5 3 hpq (by decide) (by decide)
  have e54 := ne_pq 5 4 hpq (by decide) (by decide)
  have e55 := ne_pq 5 5 hpq (by decide) (by decide)
  have e56 := ne_pq 5 6 hpq (by decide) (by decide)
  have e61 := ne_pq 6 1 hpq (by decide) (by decide)
  have e62 := ne_pq 6 2 hpq (by decide) (by decide)
  have e63 := ne_pq 6 3 hpq (by decide) (by decide)
  have e64 := ne_pq 6 4 hpq (by decide) (by decide)
  have e65 := ne_pq 6 5 hpq (by decide) (by decide)
  have e66 := ne_pq 6 6 hpq (by decide) (by decide)
  funext a b
  by_cases h0 : a = p
  · subst h0
    by_cases b6 : b = 6
    · subst b6
      simp [up, cpy, cpT, hq0, q1, q2, q3, q4, q5, q6]
    by_cases b7 : b = 7
    · subst b7
      simp [up, cpy, cpT, hq0, q1, q2, q3, q4, q5, q6]
    by_cases b8 : b = 8
    · subst b8
      simp [up, cpy, cpT, hq0, q1, q2, q3, q4, q5, q6]
    by_cases b9 : b = 9
    · subst b9
      simp [up, cpy, cpT, hq0, q1, q2, q3, q4, q5, q6]
    · have hb : ¬ (6 ≤ b ∧ b ≤ 9) := by omega
      simp [up, cpy, cpT, b6, b7, b8, b9, hb]
  by_cases h1 : a = p + 1
  · subst h1
    by_cases hb : b < 4
    · simp [up, cpy, cpT, tlen, hb, e11, e12, e13, e14, e15, e16]
    · simp [up, cpy, cpT, tlen, hb]
  by_cases h2 : a = p + 2
  · subst h2
    by_cases hb : b < 4
    · simp [up, cpy, cpT, tlen, hb, e21, e22, e23, e24, e25, e26]
    · simp [up, cpy, cpT, tlen, hb]
  by_cases h3 : a = p + 3
  · subst h3
    by_cases hb : b < 12
    · simp [up, cpy, cpT, tlen, hb, e31, e32, e33, e34, e35, e36]
    · simp [up, cpy, cpT, tlen, hb]
  by_cases h4 : a = p + 4
  · subst h4
    by_cases hb : b < 5
    · simp [up, cpy, cpT, tlen, hb, e41, e42, e43, e44, e45, e46]
    · simp [up, cpy, cpT, tlen, hb]
  by_cases h5 : a = p + 5
  · subst h5
    by_cases hb : b < 5
    · simp [up, cpy, cpT, tlen, hb, e51, e52, e53, e54, e55, e56]
    · simp [up, cpy, cpT, tlen, hb]
  by_cases h6 : a = p + 6
  · subst h6
    by_cases hb : b < 12
    · simp [up, cpy, cpT, tlen, hb, e61, e62, e63, e64, e65, e66]
    · simp [up, cpy, cpT, tlen, hb]
  have hout : ¬ (p < a ∧ a ≤ p + 6 ∧ b < tlen (a - p)) := by
    clear e11 e12 e13 e14 e15 e16 e21 e22 e23 e24 e25 e26 e31 e32 e33 e34 e35 e36 e41 e42 e43 e44 e45 e46 e51 e52 e53 e54 e55 e56 e61 e62 e63 e64 e65 e66 q1 q2 q3 q4 q5 q6 hq0 hpq
    omega
  simp [up, cpy, cpT, h0, h1, h2, h3, h4, h5, h6, hout]
theorem c_copyOf {q : Nat} (ly : LT G p) (lq : LT G q) (hpq : p + 6 < q ∨ q + 6 < p) : Ca l G 1 mX2_copyOf [vR p, vR q] h (fun r h' => r = none ∧ h' = cpT h q p) := by
  obtain ⟨⟨n0, n1, n2, n3, n4, n5, n6⟩, ⟨s0, s1, s2, s3, s4, s5, s6⟩, ⟨r0, r1, r2, r3, r4, r5⟩, ⟨l1, l2, l3, l4, l5, l6⟩⟩ := ly
  obtain ⟨⟨n0', n1', n2', n3', n4', n5', n6'⟩, ⟨s0', s1', s2', s3', s4', s5', s6'⟩, ⟨r0', r1', r2', r3', r4', r5'⟩, ⟨l1', l2', l3', l4', l5', l6'⟩⟩ := lq
  refine Ca.of (by decide) (Nat.le_of_ble_eq_true rfl) (fun hI hv hH => ?_)
  refine r_aload_n 1 dX2_copyOf_0 rfl rfl ?_
  refine r_getR 4 dX2_copyOf_1 rfl kf_2_9 rfl (by first | assumption | omega) (by assumption) (by assumption) ?_
  refine r_iconst 5 dX2_copyOf_4 rfl rfl ?_
  refine r_aload_n 6 dX2_copyOf_5 rfl rfl ?_
  refine r_getR 9 dX2_copyOf_6 rfl kf_2_9 rfl (by first | assumption | omega) (by assumption) (by assumption) ?_
  refine r_iconst 10 dX2_copyOf_9 rfl rfl ?_
  refine r_iconst 11 dX2_copyOf_10 rfl rfl ?_
  refine r_copy (n := 4) 14 dX2_copyOf_11 rfl kc_2_50 rfl rfl (by first | assumption | omega) (by first | assumption | omega) (by assumption) (by assumption) rfl (by first | omega | (simp only [Int.toNat_natCast]; omega)) (by first | omega | (simp only [Int.toNat_natCast]; omega)) ?_
  refine r_aload_n 15 dX2_copyOf_14 rfl rfl ?_
  refine r_getR 18 dX2_copyOf_15 rfl kf_2_15 rfl (by first | assumption | omega) (by assumption) (by assumption) ?_
  refine r_iconst 19 dX2_copyOf_18 rfl rfl ?_
  refine r_aload_n 20 dX2_copyOf_19 rfl rfl ?_
  refine r_getR 23 dX2_copyOf_20 rfl kf_2_15 rfl (by first | assumption | omega) (by assumption) (by assumption) ?_
  refine r_iconst 24 dX2_copyOf_23 rfl rfl ?_
  refine r_iconst 25 dX2_copyOf_24 rfl rfl ?_
  refine r_copy (n := 4) 28 dX2_copyOf_25 rfl kc_2_50 rfl rfl (by first | assumption | omega) (by first | assumption | omega) (by assumption) (by assumption) rfl (by first | omega | (simp only [Int.toNat_natCast]; omega)) (by first | omega | (simp only [Int.toNat_natCast]; omega)) ?_
  refine r_aload_n 29 dX2_copyOf_28 rfl rfl ?_
  refine r_getR 32 dX2_copyOf_29 rfl kf_2_18 rfl (by first | assumption | omega) (by assumption) (by assumption) ?_
  refine r_iconst 33 dX2_copyOf_32 rfl rfl ?_
  refine r_aload_n 34 dX2_copyOf_33 rfl rfl ?_
  refine r_getR 37 dX2_copyOf_34 rfl kf_2_18 rfl (by first | assumption | omega) (by assumption) (by assumption) ?_
  refine r_iconst 38 dX2_copyOf_37 rfl rfl ?_
  refine r_bipush 40 dX2_copyOf_38 rfl rfl (by decide) ?_
  refine r_copy (n := 12) 43 dX2_copyOf_40 rfl kc_2_50 rfl rfl (by first | assumption | omega) (by first | assumption | omega) (by assumption) (by assumption) rfl (by first | omega | (simp only [Int.toNat_natCast]; omega)) (by first | omega | (simp only [Int.toNat_natCast]; omega)) ?_
  refine r_aload_n 44 dX2_copyOf_43 rfl rfl ?_
  refine r_getR 47 dX2_copyOf_44 rfl kf_2_21 rfl (by first | assumption | omega) (by assumption) (by assumption) ?_
  refine r_iconst 48 dX2_copyOf_47 rfl rfl ?_
  refine r_aload_n 49 dX2_copyOf_48 rfl rfl ?_
  refine r_getR 52 dX2_copyOf_49 rfl kf_2_21 rfl (by first | assumption | omega) (by assumption) (by assumption) ?_
  refine r_iconst 53 dX2_copyOf_52 rfl rfl ?_
  refine r_iconst 54 dX2_copyOf_53 rfl rfl ?_
  refine r_copy (n := 5) 57 dX2_copyOf_54 rfl kc_2_50 rfl rfl (by first | assumption | omega) (by first | assumption | omega) (by assumption) (by assumption) rfl (by first | omega | (simp only [Int.toNat_natCast]; omega)) (by first | omega | (simp only [Int.toNat_natCast]; omega)) ?_
  refine r_aload_n 58 dX2_copyOf_57 rfl rfl ?_
  refine r_getR 61 dX2_copyOf_58 rfl kf_2_24 rfl (by first | assumption | omega) (by assumption) (by assumption) ?_
  refine r_iconst 62 dX2_copyOf_61 rfl rfl ?_
  refine r_aload_n 63 dX2_copyOf_62 rfl rfl ?_
  refine r_getR 66 dX2_copyOf_63 rfl kf_2_24 rfl (by first | assumption | omega) (by assumption) (by assumption) ?_
  refine r_iconst 67 dX2_copyOf_66 rfl rfl ?_
  refine r_iconst 68 dX2_copyOf_67 rfl rfl ?_
  refine r_copy (n := 5) 71 dX2_copyOf_68 rfl kc_2_50 rfl rfl (by first | assumption | omega) (by first | assumption | omega) (by assumption) (by assumption) rfl (by first | omega | (simp only [Int.toNat_natCast]; omega)) (by first | omega | (simp only [Int.toNat_natCast]; omega)) ?_
  refine r_aload_n 72 dX2_copyOf_71 rfl rfl ?_
  refine r_getR 75 dX2_copyOf_72 rfl kf_2_27 rfl (by first | assumption | omega) (by assumption) (by assumption) ?_
  refine r_iconst 76 dX2_copyOf_75 rfl rfl ?_
  refine r_aload_n 77 dX2_copyOf_76 rfl rfl ?_
  refine r_getR 80 dX2_copyOf_77 rfl kf_2_27 rfl (by first | assumption | omega) (by assumption) (by assumption) ?_
  refine r_iconst 81 dX2_copyOf_80 rfl rfl ?_
  refine r_bipush 83 dX2_copyOf_81 rfl rfl (by decide) ?_
  refine r_copy (n := 12) 86 dX2_copyOf_83 rfl kc_2_50 rfl rfl (by first | assumption | omega) (by first | assumption | omega) (by assumption) (by assumption) rfl (by first | omega | (simp only [Int.toNat_natCast]; omega)) (by first | omega | (simp only [Int.toNat_natCast]; omega)) ?_
  refine r_aload_n 87 dX2_copyOf_86 rfl rfl ?_
  refine r_aload_n 88 dX2_copyOf_87 rfl rfl ?_
  refine r_getI 91 dX2_copyOf_88 rfl kf_2_33 rfl (by first | assumption | omega) (by assumption) ?_
  refine r_putI 94 dX2_copyOf_91 rfl kf_2_33 rfl rfl (Or.inl rfl) (by first | assumption | omega) (by assumption) ?_
  refine r_aload_n 95 dX2_copyOf_94 rfl rfl ?_
  refine r_aload_n 96 dX2_copyOf_95 rfl rfl ?_
  refine r_getI 99 dX2_copyOf_96 rfl kf_2_37 rfl (by first | assumption | omega) (by assumption) ?_
  refine r_putI 102 dX2_copyOf_99 rfl kf_2_37 rfl rfl (Or.inl rfl) (by first | assumption | omega) (by assumption) ?_
  refine r_aload_n 103 dX2_copyOf_102 rfl rfl ?_
  refine r_aload_n 104 dX2_copyOf_103 rfl rfl ?_
  refine r_getI 107 dX2_copyOf_104 rfl kf_2_40 rfl (by first | assumption | omega) (by assumption) ?_
  refine r_putI 110 dX2_copyOf_107 rfl kf_2_40 rfl rfl (Or.inl rfl) (by first | assumption | omega) (by assumption) ?_
  refine r_aload_n 111 dX2_copyOf_110 rfl rfl ?_
  refine r_aload_n 112 dX2_copyOf_111 rfl rfl ?_
  refine r_getI 115 dX2_copyOf_112 rfl kf_2_43 rfl (by first | assumption | omega) (by assumption) ?_
  refine r_putI 118 dX2_copyOf_115 rfl kf_2_43 rfl rfl (Or.inl rfl) (by first | assumption | omega) (by assumption) ?_
  refine r_ret dX2_copyOf_118 rfl ?_
  rotate_left -- leaf: return at pc 118
  exact ⟨rfl, cpT_eq hpq⟩
end TW
