/-! SunPointerModel: clouds by odds, in general -/
theorem z_andn {a b : Nat} (ha : a < 4096) (hb : b < 4096) : z_iand (a : Int) (z_ixor (b : Int) (-1)) = ((a &&& (4095 ^^^ b) : Nat) : Int) := by
  have e1 : Int32.ofInt (z_ixor (b : Int) (-1)) = Int32.ofInt b ^^^ Int32.ofInt (-1) := by unfold z_ixor; exact Int32.ofInt_toInt _
  have e0 : a &&& (b ^^^ 4294967295) = a &&& (4095 ^^^ b) := by
    apply Nat.eq_of_testBit_eq
    intro i
    rw [Nat.testBit_and, Nat.testBit_and, Nat.testBit_xor, Nat.testBit_xor]
    by_cases hi : i < 12
    · have h1 : Nat.testBit 4294967295 i = true := by
        rw [show 4294967295 = 2 ^ 32 - 1 from rfl, Nat.testBit_two_pow_sub_one]; simp; omega
      have h2 : Nat.testBit 4095 i = true := by
        rw [show 4095 = 2 ^ 12 - 1 from rfl, Nat.testBit_two_pow_sub_one]; simp; omega
      rw [h1, h2]
      cases a.testBit i <;> cases b.testBit i <;> rfl
    · have h3 : a.testBit i = false := Nat.testBit_lt_two_pow (Nat.lt_of_lt_of_le ha (show 2 ^ 12 ≤ 2 ^ i from Nat.pow_le_pow_right (by decide) (by omega)))
      rw [h3]; rfl
  have e2 : Int32.ofInt (a : Int) &&& (Int32.ofInt (b : Int) ^^^ Int32.ofInt (-1)) = nI (a &&& (4095 ^^^ b)) := by
    rw [i32_nat, i32_nat]
    apply Int32.toBitVec.inj
    show BitVec.ofNat 32 a &&& (BitVec.ofNat 32 b ^^^ BitVec.ofNat 32 4294967295) = BitVec.ofNat 32 (a &&& (4095 ^^^ b))
    rw [← e0, BitVec.ofNat_and, BitVec.ofNat_xor]
  have hle := Nat.and_le_left (n := a) (m := 4095 ^^^ b)
  unfold z_iand
  rw [e1, e2, nI_toInt (by omega)]
theorem z_lcmp0 {a : Int} : z_lcmp a 0 = 0 ↔ a = 0 := by
  unfold z_lcmp
  split
  · omega
  · split <;> omega
def mayN (pg : Nat → Int) : Nat := orN (hoB pg (-4)) 12 &&& (4095 ^^^ (pg 20).toNat)
theorem mayN_lt (pg : Nat → Int) : mayN pg < 4096 := by
  have h1 := orN_lt (hoB pg (-4)) 12
  have h2 := Nat.and_le_left (n := orN (hoB pg (-4)) 12) (m := 4095 ^^^ (pg 20).toNat)
  unfold mayN
  omega
def dwF (M : Nat) : Nat → Int
  | 0 => 1
  | j + 1 => dwF M j * (if bitI (M : Int) j = 1 then 10 else 1)
def fcF (M S j : Nat) (v : Int) : Int := if bitI (M : Int) j = 0 then 1 else if bitI (S : Int) j = 1 then v else 10 - v
def odF (M S : Nat) (v : Int) : Nat → Int
  | 0 => 1
  | j + 1 => odF M S v j * fcF M S j v
theorem dwF_in (M : Nat) : ∀ j : Nat, 1 ≤ dwF M j ∧ dwF M j ≤ ((10 ^ j : Nat) : Int)
  | 0 => by simp [dwF]
  | j + 1 => by
    have := dwF_in M j
    have e : ((10 ^ (j + 1) : Nat) : Int) = ((10 ^ j : Nat) : Int) * 10 := by rw [Nat.pow_succ]; push_cast; rfl
    unfold dwF
    split <;> omega
theorem fcF_in {M S j : Nat} {v : Int} (hv : 0 ≤ v ∧ v ≤ 10) : 0 ≤ fcF M S j v ∧ fcF M S j v ≤ 10 := by
  unfold fcF
  split
  · omega
  · split <;> omega
theorem odF_in (M S : Nat) {v : Int} (hv : 0 ≤ v ∧ v ≤ 10) : ∀ j : Nat, 0 ≤ odF M S v j ∧ odF M S v j ≤ ((10 ^ j : Nat) : Int)
  | 0 => by simp [odF]
  | j + 1 => by
    have := odF_in M S hv j
    have e : ((10 ^ (j + 1) : Nat) : Int) = ((10 ^ j : Nat) : Int) * 10 := by rw [Nat.pow_succ]; push_cast; rfl
    unfold odF
    rw [e]
    exact mul_iA this (fcF_in hv)
def pgS (pg : Nat → Int) (S : Nat) : Nat → Int := up1 pg 20 (((pg 20).toNat ||| S : Nat) : Int)
def vaM (pg : Nat → Int) (i : Int) (S : Nat) : Int := if i = -4 then hmM (pgS pg S) else if dnM (pgS pg S) i.toNat = -4 then 0 else 1
def clS (pg : Nat → Int) (v i : Int) : Nat → Int
  | 0 => 0
  | S + 1 => clS pg v i S + (if S &&& (4095 ^^^ mayN pg) = 0 then odF (mayN pg) S v 12 * vaM pg i S else 0)
def nBy (pg : Nat → Int) (v i x : Int) : Int := (if x = 0 then clS pg v i 4096 else dwF (mayN pg) 12) / ((Nat.gcd (clS pg v i 4096).toNat (dwF (mayN pg) 12).toNat : Nat) : Int)
theorem wPg_up20 {pg : Nat → Int} {v : Int} (w : wPg pg) (hv : 0 ≤ v ∧ v < 4096) : wPg (up1 pg 20 v) := by
  obtain ⟨w1, w2, w3, w4, w5, w6, w7, w8⟩ := w
  exact ⟨fun i hi => by rw [up1_n (by omega)]; exact w1 i hi, fun i hi => by rw [up1_n (by omega)]; exact w2 i hi, fun i hi => by rw [up1_n (by omega)]; exact w3 i hi, by rw [up1_s]; exact hv, by rw [up1_n (by omega)]; exact w5, fun i hi => by rw [up1_n (by omega)]; exact w6 i hi, fun i hi => by rw [up1_n (by omega)]; exact w7 i hi, by rw [up1_n (by omega)]; exact w8⟩
theorem wPg_pgS {pg : Nat → Int} (w : wPg pg) {S : Nat} (hS : S < 4096) : wPg (pgS pg S) := by
  have h20 := w.2.2.2.1
  have := Nat.or_lt_two_pow (x := (pg 20).toNat) (y := S) (n := 12) (by omega) hS
  exact wPg_up20 w (by omega)
theorem vaM_in {pg : Nat → Int} (w : wPg pg) (i : Int) {S : Nat} (hS : S < 4096) : 0 ≤ vaM pg i S ∧ vaM pg i S ≤ 2160 := by
  have := hmM_in (wPg_pgS w hS)
  unfold vaM
  split
  · exact this
  · split <;> omega
theorem clS_in {pg : Nat → Int} (w : wPg pg) {v : Int} (hv : 0 ≤ v ∧ v ≤ 10) (i : Int) : ∀ S : Nat, S ≤ 4096 → 0 ≤ clS pg v i S ∧ clS pg v i S ≤ 2160000000000000 * (S : Int)
  | 0, _ => by simp [clS]
  | S + 1, hS => by
    have := clS_in w hv i S (by omega)
    have h1 := odF_in (mayN pg) S hv 12
    have h2 := vaM_in w i (S := S) (by omega)
    have h3 := mul_iA h1 h2
    have e : ((10 ^ 12 : Nat) : Int) = 1000000000000 := by decide
    rw [e] at h3
    unfold clS
    split <;> omega
section MO
variable {l : Launch} {G : zG} {h : zH}
theorem l_low (u d : Nat) (hd : 0 < d) (x : Int) {Φ : Option zV → zH → Prop} (hΦ : Φ (some (vL ((if x = 0 then (u : Int) else (d : Int)) / ((Nat.gcd u d : Nat) : Int)))) h) : ∀ (k a b : Nat) (x9 : Option zV), b ≤ k → Nat.gcd a b = Nat.gcd u d → Rr l G 0 mX4_lowest Φ 6 [some (vL (u : Int)), none, some (vL (d : Int)), none, some (vI x), some (vL (a : Int)), none, some (vL (b : Int)), none, x9, none] [] h := by
  have hg := Nat.gcd_pos_of_pos_right u hd
  have J31 : ∀ (a : Nat) (b : Int) (x9 : Option zV), a = Nat.gcd u d → Rr l G 0 mX4_lowest Φ 31 [some (vL (u : Int)), none, some (vL (d : Int)), none, some (vI x), some (vL (a : Int)), none, some (vL b), none, x9, none] [] h := by
    intro a b x9 ha
    subst ha
    refine r_iload 33 dX4_lowest_31 rfl rfl ?_
    refine r_if_ne 40 36 dX4_lowest_33 (by decide) rfl (fun c_33 => ?_) (fun c_33 => ?_)
    refine r_lload_n 41 dX4_lowest_40 rfl rfl ?_
    refine r_lload 43 dX4_lowest_41 rfl rfl ?_
    refine r_ldiv 44 dX4_lowest_43 rfl (by first | omega | (simp only [Int.toNat_natCast]; omega)) (by first | omega | (simp only [Int.toNat_natCast]; omega)) ?_
    refine r_lret dX4_lowest_44 rfl ?_
    rotate_left -- leaf: return at pc 44
    refine r_lload_n 37 dX4_lowest_36 rfl rfl ?_
    refine r_goto 41 dX4_lowest_37 (by decide) ?_
    refine r_lload 43 dX4_lowest_41 rfl rfl ?_
    refine r_ldiv 44 dX4_lowest_43 rfl (by first | omega | (simp only [Int.toNat_natCast]; omega)) (by first | omega | (simp only [Int.toNat_natCast]; omega)) ?_
    refine r_lret dX4_lowest_44 rfl ?_
    rotate_left -- leaf: return at pc 44
    · rw [if_neg c_33] at hΦ
      exact hΦ
    · rw [if_pos c_33] at hΦ
      exact hΦ
  intro k
  induction k with
  | zero =>
    intro a b x9 hb hg
    obtain rfl : b = 0 := by omega
    refine r_lload 8 dX4_lowest_6 rfl rfl ?_
    refine r_lconst 9 dX4_lowest_8 rfl 0 rfl (by decide) ?_
    refine r_lcmp 10 dX4_lowest_9 rfl ?_
    refine r_if_eq 31 13 dX4_lowest_10 (by decide) rfl (fun c_10 => ?_) (fun c_10 => ?_)
    rotate_left -- leaf: pc 31
    rotate_left -- leaf: pc 13
    · exact J31 a 0 x9 (by rw [← hg]; exact (Nat.gcd_zero_right a).symm)
    · exact absurd (z_lcmp0.mpr rfl) c_10
  | succ k ih =>
    intro a b x9 hb hg
    refine r_lload 8 dX4_lowest_6 rfl rfl ?_
    refine r_lconst 9 dX4_lowest_8 rfl 0 rfl (by decide) ?_
    refine r_lcmp 10 dX4_lowest_9 rfl ?_
    refine r_if_eq 31 13 dX4_lowest_10 (by decide) rfl (fun c_10 => ?_) (fun c_10 => ?_)
    rotate_left -- leaf: pc 31
    rotate_left -- leaf: pc 13
    · have hb0 : b = 0 := by have := z_lcmp0.mp c_10; omega
      subst hb0
      exact J31 a 0 x9 (by rw [← hg]; exact (Nat.gcd_zero_right a).symm)
    · have hb0 : 0 < b := by
        rcases Nat.eq_zero_or_pos b with e | e
        · subst e; exact absurd (z_lcmp0.mpr rfl) c_10
        · exact e
      refine r_lload 15 dX4_lowest_13 rfl rfl ?_
      refine r_lload 17 dX4_lowest_15 rfl rfl ?_
      refine r_lrem 18 dX4_lowest_17 rfl (by first | omega | (simp only [Int.toNat_natCast]; omega)) (by first | omega | (simp only [Int.toNat_natCast]; omega)) ?_
      refine r_lstore 20 dX4_lowest_18 rfl rfl rfl ?_
      refine r_lload 22 dX4_lowest_20 rfl rfl ?_
      refine r_lstore 24 dX4_lowest_22 rfl rfl rfl ?_
      refine r_lload 26 dX4_lowest_24 rfl rfl ?_
      refine r_lstore 28 dX4_lowest_26 rfl rfl rfl ?_
      refine r_goto 6 dX4_lowest_28 (by decide) ?_
      rotate_left -- leaf: pc 6
      rw [← Int.natCast_emod]
      exact ih b (a % b) _ (by have := Nat.mod_lt a hb0; omega) (by rw [← hg, Nat.gcd_comm b, ← Nat.gcd_rec, Nat.gcd_comm])
theorem m_lowest (u d : Nat) (hd : 0 < d) (x : Int) : Ca l G 0 mX4_lowest [vL (u : Int), vL (d : Int), vI x] h (fun r h' => r = some (vL ((if x = 0 then (u : Int) else (d : Int)) / ((Nat.gcd u d : Nat) : Int))) ∧ h' = h) := by
  refine Ca.of (by decide) (Nat.le_of_ble_eq_true rfl) (fun hI hv hH => ?_)
  refine r_lload_n 1 dX4_lowest_0 rfl rfl ?_
  refine r_lstore 3 dX4_lowest_1 rfl rfl rfl ?_
  refine r_lload_n 4 dX4_lowest_3 rfl rfl ?_
  refine r_lstore 6 dX4_lowest_4 rfl rfl rfl ?_
  rotate_left -- leaf: pc 6
  exact l_low (l := l) u d hd x (Φ := fun r h' => r = some (vL ((if x = 0 then (u : Int) else (d : Int)) / ((Nat.gcd u d : Nat) : Int))) ∧ h' = h) ⟨rfl, rfl⟩ d u d none (Nat.le_refl _) rfl
theorem l_byA (lm : LM G) (v i x hd up0 : Int) (M : Nat) (hM : M < 4096) {Φ : Option zV → zH → Prop} {x11 x13 : Option zV} {H : zH} (hΦ : Rr l G 5 mX4_byClouds Φ 67 [some (vR 45), some (vI v), some (vI i), some (vI x), some (vI hd), some (vI (M : Int)), some (vL up0), none, some (vL (dwF M 12)), none, some (vI 12), x11, none, x13] [] H) : ∀ (n j : Nat), j + n = 12 → Rr l G 5 mX4_byClouds Φ 31 [some (vR 45), some (vI v), some (vI i), some (vI x), some (vI hd), some (vI (M : Int)), some (vL up0), none, some (vL (dwF M j)), none, some (vI j), x11, none, x13] [] H := by
  obtain ⟨hN, ⟨ms45, ms46, ms47, ms48, ms49, ms50, ms51, ms52, ms53, ms54, ms55, ms56, ms57⟩, ⟨ml46, ml47, ml48, ml49, ml50, ml51, ml52, ml53, ml54, ml55, ml56, ml57⟩, ⟨mr0, mr2, mr7, mr16, mr17, mr18, mr20, mr22, mr24, mr25, mr26, mr27⟩⟩ := lm
  intro n
  induction n with
  | zero =>
    intro j hj
    obtain rfl : j = 12 := by omega
    refine r_iload 33 dX4_byClouds_31 rfl rfl ?_
    refine r_bipush 35 dX4_byClouds_33 rfl rfl (by decide) ?_
    refine r_icmp_ge 67 38 dX4_byClouds_35 (by decide) rfl (fun c_35 => ?_) (fun c_35 => ?_)
    rotate_left -- leaf: pc 67
    rotate_left -- leaf: pc 38
    · exact hΦ
    · omega
  | succ n ih =>
    intro j hj
    have hd := dwF_in M j
    have hp : (10 : Nat) ^ j ≤ 10 ^ 11 := Nat.pow_le_pow_right (by decide) (by omega)
    have ih := ih (j + 1) (by omega)
    rw [dwF] at ih
    refine r_iload 33 dX4_byClouds_31 rfl rfl ?_
    refine r_bipush 35 dX4_byClouds_33 rfl rfl (by decide) ?_
    refine r_icmp_ge 67 38 dX4_byClouds_35 (by decide) rfl (fun c_35 => ?_) (fun c_35 => ?_)
    rotate_left -- leaf: pc 67
    refine r_lload 40 dX4_byClouds_38 rfl rfl ?_
    refine r_iload 42 dX4_byClouds_40 rfl rfl ?_
    refine r_iload 44 dX4_byClouds_42 rfl rfl ?_
    refine r_ishr 45 dX4_byClouds_44 rfl rfl ?_
    refine r_iconst 46 dX4_byClouds_45 rfl rfl ?_
    refine r_iand 47 dX4_byClouds_46 rfl rfl ?_
    rotate_left -- leaf: pc 47
    · omega
    · rw [z_bit ⟨by omega, by omega⟩ (by omega)]
      refine r_iconst 48 dX4_byClouds_47 rfl rfl ?_
      refine r_icmp_ne 57 51 dX4_byClouds_48 (by decide) rfl (fun c_48 => ?_) (fun c_48 => ?_)
      refine r_lconst 58 dX4_byClouds_57 rfl 1 rfl (by decide) ?_
      refine r_lmul 59 dX4_byClouds_58 rfl (by first | exact w64_id (by omega) (by omega) | rfl) ?_
      refine r_lstore 61 dX4_byClouds_59 rfl rfl rfl ?_
      refine r_iinc 64 _ dX4_byClouds_61 rfl rfl rfl rfl (by first | exact w32_id (by omega) (by omega) | rfl) ?_
      refine r_goto 31 dX4_byClouds_64 (by decide) ?_
      rotate_left -- leaf: pc 31
      refine r_ldc2 54 (10) dX4_byClouds_51 rfl kq_4_200 rfl ?_
      refine r_goto 58 dX4_byClouds_54 (by decide) ?_
      refine r_lmul 59 dX4_byClouds_58 rfl (by first | exact w64_id (by omega) (by omega) | rfl) ?_
      refine r_lstore 61 dX4_byClouds_59 rfl rfl rfl ?_
      refine r_iinc 64 _ dX4_byClouds_61 rfl rfl rfl rfl (by first | exact w32_id (by omega) (by omega) | rfl) ?_
      refine r_goto 31 dX4_byClouds_64 (by decide) ?_
      rotate_left -- leaf: pc 31
      · rw [if_neg c_48] at ih
        exact ih
      · rw [if_pos c_48] at ih
        exact ih
theorem l_byC (lm : LM G) (v i x hd up0 dw : Int) (hv : 0 ≤ v ∧ v ≤ 10) (M S : Nat) (hM : M < 4096) (hS : S < 4096) {Φ : Option zV → zH → Prop} {H : zH} (hΦ : Rr l G 5 mX4_byClouds Φ 147 [some (vR 45), some (vI v), some (vI i), some (vI x), some (vI hd), some (vI (M : Int)), some (vL up0), none, some (vL dw), none, some (vI S), some (vL (odF M S v 12)), none, some (vI 12)] [] H) : ∀ (n j : Nat), j + n = 12 → Rr l G 5 mX4_byClouds Φ 94 [some (vR 45), some (vI v), some (vI i), some (vI x), some (vI hd), some (vI (M : Int)), some (vL up0), none, some (vL dw), none, some (vI S), some (vL (odF M S v j)), none, some (vI j)] [] H := by
  obtain ⟨hN, ⟨ms45, ms46, ms47, ms48, ms49, ms50, ms51, ms52, ms53, ms54, ms55, ms56, ms57⟩, ⟨ml46, ml47, ml48, ml49, ml50, ml51, ml52, ml53, ml54, ml55, ml56, ml57⟩, ⟨mr0, mr2, mr7, mr16, mr17, mr18, mr20, mr22, mr24, mr25, mr26, mr27⟩⟩ := lm
  intro n
  induction n with
  | zero =>
    intro j hj
    obtain rfl : j = 12 := by omega
    refine r_iload 96 dX4_byClouds_94 rfl rfl ?_
    refine r_bipush 98 dX4_byClouds_96 rfl rfl (by decide) ?_
    refine r_icmp_ge 147 101 dX4_byClouds_98 (by decide) rfl (fun c_98 => ?_) (fun c_98 => ?_)
    rotate_left -- leaf: pc 147
    rotate_left -- leaf: pc 101
    · exact hΦ
    · omega
  | succ n ih =>
    intro j hj
    have ho := odF_in M S hv (j + 1)
    have hp : (10 : Nat) ^ (j + 1) ≤ 10 ^ 12 := Nat.pow_le_pow_right (by decide) (by omega)
    have ih := ih (j + 1) (by omega)
    have J138 : ∀ f : Int, f = fcF M S j v → Rr l G 5 mX4_byClouds Φ 138 [some (vR 45), some (vI v), some (vI i), some (vI x), some (vI hd), some (vI (M : Int)), some (vL up0), none, some (vL dw), none, some (vI S), some (vL (odF M S v j)), none, some (vI j)] [vL f, vL (odF M S v j)] H := by
      intro f hf
      subst hf
      have ho : 0 ≤ odF M S v j * fcF M S j v ∧ odF M S v j * fcF M S j v ≤ ((10 ^ (j + 1) : Nat) : Int) := ho
      refine r_lmul 139 dX4_byClouds_138 rfl (w64_id (by omega) (by omega)) ?_
      refine r_lstore 141 dX4_byClouds_139 rfl rfl rfl ?_
      refine r_iinc 144 _ dX4_byClouds_141 rfl rfl rfl rfl (by first | exact w32_id (by omega) (by omega) | rfl) ?_
      refine r_goto 94 dX4_byClouds_144 (by decide) ?_
      rotate_left -- leaf: pc 94
      exact ih
    refine r_iload 96 dX4_byClouds_94 rfl rfl ?_
    refine r_bipush 98 dX4_byClouds_96 rfl rfl (by decide) ?_
    refine r_icmp_ge 147 101 dX4_byClouds_98 (by decide) rfl (fun c_98 => ?_) (fun c_98 => ?_)
    rotate_left -- leaf: pc 147
    refine r_lload 103 dX4_byClouds_101 rfl rfl ?_
    refine r_iload 105 dX4_byClouds_103 rfl rfl ?_
    refine r_iload 107 dX4_byClouds_105 rfl rfl ?_
    refine r_ishr 108 dX4_byClouds_107 rfl rfl ?_
    refine r_iconst 109 dX4_byClouds_108 rfl rfl ?_
    refine r_iand 110 dX4_byClouds_109 rfl rfl ?_
    rotate_left -- leaf: pc 110
    · omega
    · rw [z_bit ⟨by omega, by omega⟩ (by omega)]
      refine r_if_ne 117 113 dX4_byClouds_110 (by decide) rfl (fun c_110 => ?_) (fun c_110 => ?_)
      refine r_iload 119 dX4_byClouds_117 rfl rfl ?_
      refine r_iload 121 dX4_byClouds_119 rfl rfl ?_
      refine r_ishr 122 dX4_byClouds_121 rfl rfl ?_
      refine r_iconst 123 dX4_byClouds_122 rfl rfl ?_
      refine r_iand 124 dX4_byClouds_123 rfl rfl ?_
      rotate_left -- leaf: pc 124
      refine r_lconst 114 dX4_byClouds_113 rfl 1 rfl (by decide) ?_
      refine r_goto 138 dX4_byClouds_114 (by decide) ?_
      rotate_left -- leaf: pc 138
      · rw [z_bit ⟨by omega, by omega⟩ (by omega)]
        refine r_iconst 125 dX4_byClouds_124 rfl rfl ?_
        refine r_icmp_ne 133 128 dX4_byClouds_125 (by decide) rfl (fun c_125 => ?_) (fun c_125 => ?_)
        refine r_bipush 135 dX4_byClouds_133 rfl rfl (by decide) ?_
        refine r_iload_n 136 dX4_byClouds_135 rfl rfl ?_
        refine r_isub 137 dX4_byClouds_136 rfl (by first | exact w32_id (by omega) (by omega) | rfl) ?_
        refine r_i2l 138 dX4_byClouds_137 rfl ?_
        rotate_left -- leaf: pc 138
        refine r_iload_n 129 dX4_byClouds_128 rfl rfl ?_
        refine r_i2l 130 dX4_byClouds_129 rfl ?_
        refine r_goto 138 dX4_byClouds_130 (by decide) ?_
        rotate_left -- leaf: pc 138
        · exact J138 _ (by unfold fcF; rw [if_neg c_110, if_neg c_125])
        · exact J138 _ (by unfold fcF; rw [if_neg c_110, if_pos c_125])
      · exact J138 _ (by unfold fcF; rw [if_pos c_110])
theorem l_byB (lm : LM G) (wm : wM h) (v i x dw : Int) (hv : 0 ≤ v ∧ v ≤ 10) (hi : i = -4 ∨ (0 ≤ i ∧ i < h 46 32)) {Φ : Option zV → zH → Prop}
    (hΦ : ∀ (H : zH) (x11 x13 : Option zV), (∀ a b, a ≠ 51 → ¬ (a = 46 ∧ b = 20) → H a b = h a b) → Rr l G 5 mX4_byClouds Φ 206 [some (vR 45), some (vI v), some (vI i), some (vI x), some (vI (h 46 20)), some (vI (mayN (h 46) : Nat)), some (vL (clS (h 46) v i 4096)), none, some (vL dw), none, some (vI 4096), x11, none, x13] [] H) :
    ∀ (n S : Nat) (H : zH) (x11 x13 : Option zV), S + n = 4096 → (∀ a b, a ≠ 51 → ¬ (a = 46 ∧ b = 20) → H a b = h a b) → Rr l G 5 mX4_byClouds Φ 70 [some (vR 45), some (vI v), some (vI i), some (vI x), some (vI (h 46 20)), some (vI (mayN (h 46) : Nat)), some (vL (clS (h 46) v i S)), none, some (vL dw), none, some (vI S), x11, none, x13] [] H := by
  have lm0 := lm
  have wm0 := wm
  obtain ⟨hN, ⟨ms45, ms46, ms47, ms48, ms49, ms50, ms51, ms52, ms53, ms54, ms55, ms56, ms57⟩, ⟨ml46, ml47, ml48, ml49, ml50, ml51, ml52, ml53, ml54, ml55, ml56, ml57⟩, ⟨mr0, mr2, mr7, mr16, mr17, mr18, mr20, mr22, mr24, mr25, mr26, mr27⟩⟩ := lm
  obtain ⟨⟨wg1, wg2, wg3, wg4, wg5, wg6, wg7, wg8⟩, wmen, wtp, wsm⟩ := wm
  have hM := mayN_lt (h 46)
  intro n
  induction n with
  | zero =>
    intro S H x11 x13 hS he
    obtain rfl : S = 4096 := by omega
    refine r_iload 72 dX4_byClouds_70 rfl rfl ?_
    refine r_sipush 75 dX4_byClouds_72 rfl rfl (by decide) ?_
    refine r_icmp_ge 206 78 dX4_byClouds_75 (by decide) rfl (fun c_75 => ?_) (fun c_75 => ?_)
    rotate_left -- leaf: pc 206
    rotate_left -- leaf: pc 78
    · exact hΦ H x11 x13 he
    · omega
  | succ n ih =>
    intro S H x11 x13 hS he
    have ih := ih (S + 1)
    rw [clS] at ih
    have hup := clS_in wm0.1 hv i S (by omega)
    have hod := odF_in (mayN (h 46)) S hv 12
    have hva := vaM_in wm0.1 i (S := S) (by omega)
    have hpr := mul_iA hod hva
    rw [show ((10 ^ 12 : Nat) : Int) = 1000000000000 by decide] at hod hpr
    have hpg := wPg_pgS wm0.1 (S := S) (by omega)
    have hhm := hmM_in hpg
    refine r_iload 72 dX4_byClouds_70 rfl rfl ?_
    refine r_sipush 75 dX4_byClouds_72 rfl rfl (by decide) ?_
    refine r_icmp_ge 206 78 dX4_byClouds_75 (by decide) rfl (fun c_75 => ?_) (fun c_75 => ?_)
    rotate_left -- leaf: pc 206
    refine r_iload 80 dX4_byClouds_78 rfl rfl ?_
    refine r_iload 82 dX4_byClouds_80 rfl rfl ?_
    refine r_iconst 83 dX4_byClouds_82 rfl rfl ?_
    refine r_ixor 84 dX4_byClouds_83 rfl rfl ?_
    refine r_iand 85 dX4_byClouds_84 rfl rfl ?_
    rotate_left -- leaf: pc 85
    · omega
    · rw [z_andn (a := S) (b := mayN (h 46)) (by omega) hM]
      refine r_if_ne 200 88 dX4_byClouds_85 (by decide) rfl (fun c_85 => ?_) (fun c_85 => ?_)
      rotate_left -- leaf: pc 200
      refine r_lconst 89 dX4_byClouds_88 rfl 1 rfl (by decide) ?_
      refine r_lstore 91 dX4_byClouds_89 rfl rfl rfl ?_
      refine r_iconst 92 dX4_byClouds_91 rfl rfl ?_
      refine r_istore 94 dX4_byClouds_92 rfl rfl rfl ?_
      rotate_left -- leaf: pc 94
      · rw [if_neg (by omega)] at ih
        refine r_iinc 203 _ dX4_byClouds_200 rfl rfl rfl rfl (by first | exact w32_id (by omega) (by omega) | rfl) ?_
        refine r_goto 70 dX4_byClouds_203 (by decide) ?_
        rotate_left -- leaf: pc 70
        have := ih H x11 x13 (by omega) he
        rw [Int.add_zero] at this
        exact this
      · rw [if_pos (by omega)] at ih
        refine l_byC (l := l) lm0 v i x _ _ dw hv (mayN (h 46)) S hM (by omega) ?_ 12 0 rfl
        have e20 : z_ior (h 46 20) (S : Int) = (((h 46 20).toNat ||| S : Nat) : Int) := by
          have := z_or_nat (a := (h 46 20).toNat) (b := S) 12 (by decide) (by omega) (by omega)
          rw [← this]
          congr 1
          omega
        have epg : up H 46 20 (((h 46 20).toNat ||| S : Nat) : Int) 46 = pgS (h 46) S := by
          rw [up_pg]
          unfold pgS
          funext b
          unfold up1
          split
          · rfl
          · exact he 46 b (by omega) (by omega)
        have J195 : ∀ (va x13 : Int) (W : zH), va = vaM (h 46) i S → (∀ a b, a ≠ 51 → ¬ (a = 46 ∧ b = 20) → W a b = h a b) → Rr l G 5 mX4_byClouds Φ 195 [some (vR 45), some (vI v), some (vI i), some (vI x), some (vI (h 46 20)), some (vI (mayN (h 46) : Nat)), some (vL (clS (h 46) v i S)), none, some (vL dw), none, some (vI S), some (vL (odF (mayN (h 46)) S v 12)), none, some (vI x13)] [vI va, vL (odF (mayN (h 46)) S v 12), vL (clS (h 46) v i S)] W := by
          intro va x13 W hva hW
          subst hva
          refine r_i2l 196 dX4_byClouds_195 rfl ?_
          refine r_lmul 197 dX4_byClouds_196 rfl (w64_id (by omega) (by omega)) ?_
          refine r_ladd 198 dX4_byClouds_197 rfl (w64_id (by omega) (by omega)) ?_
          refine r_lstore 200 dX4_byClouds_198 rfl rfl rfl ?_
          refine r_iinc 203 _ dX4_byClouds_200 rfl rfl rfl rfl (by first | exact w32_id (by omega) (by omega) | rfl) ?_
          refine r_goto 70 dX4_byClouds_203 (by decide) ?_
          rotate_left -- leaf: pc 70
          exact ih W _ _ (by omega) hW
        refine r_aload_n 148 dX4_byClouds_147 rfl rfl ?_
        refine r_getR 151 dX4_byClouds_148 rfl kf_4_7 rfl (by first | assumption | omega) (by assumption) (by assumption) ?_
        refine r_bipush 153 dX4_byClouds_151 rfl rfl (by decide) ?_
        refine r_iload 155 dX4_byClouds_153 rfl rfl ?_
        refine r_iload 157 dX4_byClouds_155 rfl rfl ?_
        refine r_ior 158 dX4_byClouds_157 rfl rfl ?_
        rotate_left -- leaf: pc 158
        rw [e20]
        refine r_iast 159 dX4_byClouds_158 rfl (by first | assumption | omega) (by assumption) (by first | omega | (simp only [Int.toNat_natCast]; omega)) (by first | omega | (simp only [Int.toNat_natCast]; omega)) ?_
        try simp only [Int.toNat_natCast, tq_4, tq_8, tq_22, tq_27, tq_99, tq_a, tl_0, tl_1, tl_20, tl_21, tl_22, tl_32]
        refine r_aload_n 160 dX4_byClouds_159 rfl rfl ?_
        rotate_left -- leaf: call at pc 160
        refine r_cv0 163 dX4_byClouds_160 rfl kv_4_158 (by first | assumption | omega) (by assumption) rfl rfl (m_harm lm0 (by rw [epg]; exact hpg)) ?_
        rintro r h' ⟨rfl, rfl⟩
        rw [epg]
        have hW : ∀ a b, a ≠ 51 → ¬ (a = 46 ∧ b = 20) → setB (up H 46 20 (((h 46 20).toNat ||| S : Nat) : Int)) 51 48 (rdM (pgS (h 46) S)) a b = h a b := fun a b q1 q2 => by rw [setB_n q1, up_n q2]; exact he a b q1 q2
        refine r_istore 165 dX4_byClouds_163 rfl rfl rfl ?_
        refine r_lload 167 dX4_byClouds_165 rfl rfl ?_
        refine r_lload 169 dX4_byClouds_167 rfl rfl ?_
        refine r_iload_n 170 dX4_byClouds_169 rfl rfl ?_
        refine r_bipush 172 dX4_byClouds_170 rfl rfl (by decide) ?_
        refine r_icmp_ne 180 175 dX4_byClouds_172 (by decide) rfl (fun c_172 => ?_) (fun c_172 => ?_)
        rotate_left -- leaf: pc 180
        refine r_iload 177 dX4_byClouds_175 rfl rfl ?_
        refine r_goto 195 dX4_byClouds_177 (by decide) ?_
        rotate_left -- leaf: pc 195
        · have hi2 : 0 ≤ i ∧ i < h 46 32 := by omega
          obtain ⟨i, rfl⟩ := Int.eq_ofNat_of_zero_le hi2.1
          refine r_aload_n 181 dX4_byClouds_180 rfl rfl ?_
          refine r_iload_n 182 dX4_byClouds_181 rfl rfl ?_
          rotate_left -- leaf: call at pc 182
          refine r_cv1 185 dX4_byClouds_182 rfl kv_4_146 (by first | assumption | omega) (by assumption) rfl rfl (m_doneIn lm0 i (by omega)) ?_
          rintro r h'' ⟨rfl, rfl⟩
          have ed : dsM (setB (up H 46 20 (((h 46 20).toNat ||| S : Nat) : Int)) 51 48 (rdM (pgS (h 46) S)) 51) (setB (up H 46 20 (((h 46 20).toNat ||| S : Nat) : Int)) 51 48 (rdM (pgS (h 46) S)) 46 (22 + i)) 48 0 = dnM (pgS (h 46) S) i := by
            rw [dsM_set 48 0 (by omega), setB_n (by omega), epg]
            rfl
          rw [ed]
          refine r_bipush 187 dX4_byClouds_185 rfl rfl (by decide) ?_
          refine r_icmp_ne 194 190 dX4_byClouds_187 (by decide) rfl (fun c_187 => ?_) (fun c_187 => ?_)
          refine r_iconst 195 dX4_byClouds_194 rfl rfl ?_
          rotate_left -- leaf: pc 195
          refine r_iconst 191 dX4_byClouds_190 rfl rfl ?_
          refine r_goto 195 dX4_byClouds_191 (by decide) ?_
          rotate_left -- leaf: pc 195
          · exact J195 _ _ _ (by unfold vaM; rw [if_neg c_172, Int.toNat_natCast, if_neg c_187]) hW
          · exact J195 _ _ _ (by unfold vaM; rw [if_neg c_172, Int.toNat_natCast, if_pos c_187]) hW
        · exact J195 _ _ _ (by unfold vaM; rw [if_pos c_172]) hW
theorem m_byClouds (lm : LM G) (wm : wM h) (v i x : Int) (hv10 : 0 ≤ v ∧ v ≤ 10) (hi : i = -4 ∨ (0 ≤ i ∧ i < h 46 32)) : Ca l G 5 mX4_byClouds [vR 45, vI v, vI i, vI x] h (fun r h' => r = some (vL (nBy (h 46) v i x)) ∧ scm h h') := by
  have lm0 := lm
  have wm0 := wm
  obtain ⟨hN, ⟨ms45, ms46, ms47, ms48, ms49, ms50, ms51, ms52, ms53, ms54, ms55, ms56, ms57⟩, ⟨ml46, ml47, ml48, ml49, ml50, ml51, ml52, ml53, ml54, ml55, ml56, ml57⟩, ⟨mr0, mr2, mr7, mr16, mr17, mr18, mr20, mr22, mr24, mr25, mr26, mr27⟩⟩ := lm
  obtain ⟨⟨wg1, wg2, wg3, wg4, wg5, wg6, wg7, wg8⟩, wmen, wtp, wsm⟩ := wm
  have hM := mayN_lt (h 46)
  refine Ca.of (by decide) (Nat.le_of_ble_eq_true rfl) (fun hI hv hH => ?_)
  refine r_aload_n 1 dX4_byClouds_0 rfl rfl ?_
  refine r_getR 4 dX4_byClouds_1 rfl kf_4_7 rfl (by first | assumption | omega) (by assumption) (by assumption) ?_
  refine r_bipush 6 dX4_byClouds_4 rfl rfl (by decide) ?_
  refine r_iald 7 dX4_byClouds_6 rfl (by first | assumption | omega) (by assumption) (by first | omega | (simp only [Int.toNat_natCast]; omega)) (by first | omega | (simp only [Int.toNat_natCast]; omega)) ?_
  try simp only [Int.toNat_natCast, tq_4, tq_8, tq_22, tq_27, tq_99, tq_a, tl_0, tl_1, tl_20, tl_21, tl_22, tl_32]
  refine r_istore 9 dX4_byClouds_7 rfl rfl rfl ?_
  refine r_aload_n 10 dX4_byClouds_9 rfl rfl ?_
  refine r_bipush 12 dX4_byClouds_10 rfl rfl (by decide) ?_
  rotate_left -- leaf: call at pc 12
  refine r_cv1 15 dX4_byClouds_12 rfl kv_4_155 (by first | assumption | omega) (by assumption) rfl rfl (m_hoursOf lm0 wg3 (-4)) ?_
  rintro r h' ⟨rfl, rfl⟩
  have e1 : z_iand ((orN (hoB (h' 46) (-4)) 12 : Nat) : Int) (z_ixor (h' 46 20) (-1)) = (mayN (h' 46) : Nat) := by
    have := z_andn (a := orN (hoB (h' 46) (-4)) 12) (b := (h' 46 20).toNat) (orN_lt _ 12) (by omega)
    rw [show (((h' 46 20).toNat : Nat) : Int) = h' 46 20 by omega] at this
    exact this
  refine r_iload 17 dX4_byClouds_15 rfl rfl ?_
  refine r_iconst 18 dX4_byClouds_17 rfl rfl ?_
  refine r_ixor 19 dX4_byClouds_18 rfl rfl ?_
  refine r_iand 20 dX4_byClouds_19 rfl rfl ?_
  rotate_left -- leaf: pc 20
  rw [e1]
  refine r_istore 22 dX4_byClouds_20 rfl rfl rfl ?_
  refine r_lconst 23 dX4_byClouds_22 rfl 0 rfl (by decide) ?_
  refine r_lstore 25 dX4_byClouds_23 rfl rfl rfl ?_
  refine r_lconst 26 dX4_byClouds_25 rfl 1 rfl (by decide) ?_
  refine r_lstore 28 dX4_byClouds_26 rfl rfl rfl ?_
  refine r_iconst 29 dX4_byClouds_28 rfl rfl ?_
  refine r_istore 31 dX4_byClouds_29 rfl rfl rfl ?_
  rotate_left -- leaf: pc 31
  refine l_byA (l := l) lm0 v i x _ _ (mayN (h' 46)) hM ?_ 12 0 rfl
  have hdw := dwF_in (mayN (h' 46)) 12
  obtain ⟨U, hU⟩ : ∃ U : Nat, clS (h' 46) v i 4096 = (U : Int) := Int.eq_ofNat_of_zero_le (clS_in wm0.1 hv10 i 4096 (Nat.le_refl _)).1
  obtain ⟨D, hD⟩ : ∃ D : Nat, dwF (mayN (h' 46)) 12 = (D : Int) := Int.eq_ofNat_of_zero_le (by omega)
  have hD0 : 0 < D := by rw [hD] at hdw; omega
  have hn : nBy (h' 46) v i x = (if x = 0 then (U : Int) else (D : Int)) / ((Nat.gcd U D : Nat) : Int) := by
    unfold nBy
    rw [hU, hD, Int.toNat_natCast, Int.toNat_natCast]
  rw [hn]
  refine r_iconst 68 dX4_byClouds_67 rfl rfl ?_
  refine r_istore 70 dX4_byClouds_68 rfl rfl rfl ?_
  rotate_left -- leaf: pc 70
  refine l_byB (l := l) lm0 wm0 v i x _ hv10 hi (fun H x11 x13 he => ?_) 4096 0 h' none none rfl (fun _ _ _ _ => rfl)
  rw [hU, hD]
  clear hU hn
  refine r_aload_n 207 dX4_byClouds_206 rfl rfl ?_
  refine r_getR 210 dX4_byClouds_207 rfl kf_4_7 rfl (by first | assumption | omega) (by assumption) (by assumption) ?_
  refine r_bipush 212 dX4_byClouds_210 rfl rfl (by decide) ?_
  refine r_iload 214 dX4_byClouds_212 rfl rfl ?_
  refine r_iast 215 dX4_byClouds_214 rfl (by first | assumption | omega) (by assumption) (by first | omega | (simp only [Int.toNat_natCast]; omega)) (by first | omega | (simp only [Int.toNat_natCast]; omega)) ?_
  try simp only [Int.toNat_natCast, tq_4, tq_8, tq_22, tq_27, tq_99, tq_a, tl_0, tl_1, tl_20, tl_21, tl_22, tl_32]
  refine r_lload 217 dX4_byClouds_215 rfl rfl ?_
  refine r_lload 219 dX4_byClouds_217 rfl rfl ?_
  refine r_iload_n 220 dX4_byClouds_219 rfl rfl ?_
  rotate_left -- leaf: call at pc 220
  refine r_cs3 223 dX4_byClouds_220 rfl ks_4_202 rfl rfl (m_lowest U D hD0 x) ?_
  rintro r h3 ⟨rfl, rfl⟩
  refine r_lret dX4_byClouds_223 rfl ?_
  rotate_left -- leaf: return at pc 223
  refine ⟨rfl, fun a b q => ?_⟩
  by_cases e : a = 46 ∧ b = 20
  · obtain ⟨rfl, rfl⟩ := e; rw [up_s]
  · rw [up_n e]; exact he a b q e
def nMean (v x : Int) (h : zH) : Int := if (0 ≤ v ∧ v ≤ 10) ∧ (0 ≤ x ∧ x ≤ 1) then nBy (h 46) v (-4) x else -1
theorem m_mean (lm : LM G) (wm : wM h) (v x : Int) : Ca l G 6 mX4_mean [vR 45, vI v, vI x] h (fun r h' => r = some (vL (nMean v x h)) ∧ scm h h') := by
  have lm0 := lm
  obtain ⟨hN, ⟨ms45, ms46, ms47, ms48, ms49, ms50, ms51, ms52, ms53, ms54, ms55, ms56, ms57⟩, ⟨ml46, ml47, ml48, ml49, ml50, ml51, ml52, ml53, ml54, ml55, ml56, ml57⟩, ⟨mr0, mr2, mr7, mr16, mr17, mr18, mr20, mr22, mr24, mr25, mr26, mr27⟩⟩ := lm
  refine Ca.of (by decide) (Nat.le_of_ble_eq_true rfl) (fun hI hv hH => ?_)
  unfold nMean
  refine r_iload_n 1 dX4_mean_0 rfl rfl ?_
  refine r_i2l 2 dX4_mean_1 rfl ?_
  refine r_lconst 3 dX4_mean_2 rfl 0 rfl (by decide) ?_
  refine r_ldc2 6 (10) dX4_mean_3 rfl kq_4_200 rfl ?_
  rotate_left -- leaf: call at pc 6
  refine r_cs3 9 dX4_mean_6 rfl ks_4_49 rfl rfl (c_in v 0 10) ?_
  rintro r h' ⟨rfl, rfl⟩
  refine r_if_eq 33 12 dX4_mean_9 (by decide) rfl (fun c_9 => ?_) (fun c_9 => ?_)
  refine r_ldc2 36 (-1) dX4_mean_33 rfl kq_4_210 rfl ?_
  refine r_lret dX4_mean_36 rfl ?_
  rotate_left -- leaf: return at pc 36
  refine r_iload_n 13 dX4_mean_12 rfl rfl ?_
  refine r_i2l 14 dX4_mean_13 rfl ?_
  refine r_lconst 15 dX4_mean_14 rfl 0 rfl (by decide) ?_
  refine r_lconst 16 dX4_mean_15 rfl 1 rfl (by decide) ?_
  rotate_left -- leaf: call at pc 16
  · rw [if_neg (fun z => z01_n.mp c_9 z.1)]
    exact ⟨rfl, fun _ _ _ => rfl⟩
  · have hv1 := z01_y.mp c_9
    refine r_cs3 19 dX4_mean_16 rfl ks_4_49 rfl rfl (c_in x 0 1) ?_
    rintro r h'' ⟨rfl, rfl⟩
    refine r_if_eq 33 22 dX4_mean_19 (by decide) rfl (fun c_19 => ?_) (fun c_19 => ?_)
    refine r_ldc2 36 (-1) dX4_mean_33 rfl kq_4_210 rfl ?_
    refine r_lret dX4_mean_36 rfl ?_
    rotate_left -- leaf: return at pc 36
    refine r_aload_n 23 dX4_mean_22 rfl rfl ?_
    refine r_iload_n 24 dX4_mean_23 rfl rfl ?_
    refine r_bipush 26 dX4_mean_24 rfl rfl (by decide) ?_
    refine r_iload_n 27 dX4_mean_26 rfl rfl ?_
    rotate_left -- leaf: call at pc 27
    · rw [if_neg (fun z => z01_n.mp c_19 z.2)]
      exact ⟨rfl, fun _ _ _ => rfl⟩
    · rw [if_pos ⟨hv1, z01_y.mp c_19⟩]
      refine r_cv3 30 dX4_mean_27 rfl kv_4_206 (by first | assumption | omega) (by assumption) rfl rfl (m_byClouds lm0 wm v (-4) x hv1 (Or.inl rfl)) ?_
      rintro r h3 ⟨rfl, q⟩
      refine r_goto 36 dX4_mean_30 (by decide) ?_
      refine r_lret dX4_mean_36 rfl ?_
      rotate_left -- leaf: return at pc 36
      exact ⟨rfl, q⟩
def nLuck (v i x : Int) (h : zH) : Int := if (0 ≤ v ∧ v ≤ 10) ∧ (0 ≤ i ∧ i < h 46 32) ∧ (0 ≤ x ∧ x ≤ 1) then nBy (h 46) v i x else -1
theorem m_luck (lm : LM G) (wm : wM h) (v i x : Int) : Ca l G 6 mX4_luck [vR 45, vI v, vI i, vI x] h (fun r h' => r = some (vL (nLuck v i x h)) ∧ scm h h') := by
  have lm0 := lm
  obtain ⟨hN, ⟨ms45, ms46, ms47, ms48, ms49, ms50, ms51, ms52, ms53, ms54, ms55, ms56, ms57⟩, ⟨ml46, ml47, ml48, ml49, ml50, ml51, ml52, ml53, ml54, ml55, ml56, ml57⟩, ⟨mr0, mr2, mr7, mr16, mr17, mr18, mr20, mr22, mr24, mr25, mr26, mr27⟩⟩ := lm
  refine Ca.of (by decide) (Nat.le_of_ble_eq_true rfl) (fun hI hv hH => ?_)
  unfold nLuck
  refine r_iload_n 1 dX4_luck_0 rfl rfl ?_
  refine r_i2l 2 dX4_luck_1 rfl ?_
  refine r_lconst 3 dX4_luck_2 rfl 0 rfl (by decide) ?_
  refine r_ldc2 6 (10) dX4_luck_3 rfl kq_4_200 rfl ?_
  rotate_left -- leaf: call at pc 6
  refine r_cs3 9 dX4_luck_6 rfl ks_4_49 rfl rfl (c_in v 0 10) ?_
  rintro r h' ⟨rfl, rfl⟩
  refine r_if_eq 40 12 dX4_luck_9 (by decide) rfl (fun c_9 => ?_) (fun c_9 => ?_)
  refine r_ldc2 43 (-1) dX4_luck_40 rfl kq_4_210 rfl ?_
  refine r_lret dX4_luck_43 rfl ?_
  rotate_left -- leaf: return at pc 43
  refine r_aload_n 13 dX4_luck_12 rfl rfl ?_
  refine r_iload_n 14 dX4_luck_13 rfl rfl ?_
  rotate_left -- leaf: call at pc 14
  · rw [if_neg (fun z => z01_n.mp c_9 z.1)]
    exact ⟨rfl, fun _ _ _ => rfl⟩
  · have hv1 := z01_y.mp c_9
    refine r_cv1 17 dX4_luck_14 rfl kv_4_173 (by first | assumption | omega) (by assumption) rfl rfl (m_isDeed lm0 wm i) ?_
    rintro r h'' ⟨rfl, rfl⟩
    refine r_if_eq 40 20 dX4_luck_17 (by decide) rfl (fun c_17 => ?_) (fun c_17 => ?_)
    refine r_ldc2 43 (-1) dX4_luck_40 rfl kq_4_210 rfl ?_
    refine r_lret dX4_luck_43 rfl ?_
    rotate_left -- leaf: return at pc 43
    refine r_iload_n 21 dX4_luck_20 rfl rfl ?_
    refine r_i2l 22 dX4_luck_21 rfl ?_
    refine r_lconst 23 dX4_luck_22 rfl 0 rfl (by decide) ?_
    refine r_lconst 24 dX4_luck_23 rfl 1 rfl (by decide) ?_
    rotate_left -- leaf: call at pc 24
    · rw [if_neg (fun z => z01_n.mp c_17 z.2.1)]
      exact ⟨rfl, fun _ _ _ => rfl⟩
    · have hi1 := z01_y.mp c_17
      refine r_cs3 27 dX4_luck_24 rfl ks_4_49 rfl rfl (c_in x 0 1) ?_
      rintro r h3 ⟨rfl, rfl⟩
      refine r_if_eq 40 30 dX4_luck_27 (by decide) rfl (fun c_27 => ?_) (fun c_27 => ?_)
      refine r_ldc2 43 (-1) dX4_luck_40 rfl kq_4_210 rfl ?_
      refine r_lret dX4_luck_43 rfl ?_
      rotate_left -- leaf: return at pc 43
      refine r_aload_n 31 dX4_luck_30 rfl rfl ?_
      refine r_iload_n 32 dX4_luck_31 rfl rfl ?_
      refine r_iload_n 33 dX4_luck_32 rfl rfl ?_
      refine r_iload_n 34 dX4_luck_33 rfl rfl ?_
      rotate_left -- leaf: call at pc 34
      · rw [if_neg (fun z => z01_n.mp c_27 z.2.2)]
        exact ⟨rfl, fun _ _ _ => rfl⟩
      · rw [if_pos ⟨hv1, hi1, z01_y.mp c_27⟩]
        refine r_cv3 37 dX4_luck_34 rfl kv_4_206 (by first | assumption | omega) (by assumption) rfl rfl (m_byClouds lm0 wm v i x hv1 (Or.inr hi1)) ?_
        rintro r h4 ⟨rfl, q⟩
        refine r_goto 43 dX4_luck_37 (by decide) ?_
        refine r_lret dX4_luck_43 rfl ?_
        rotate_left -- leaf: return at pc 43
        exact ⟨rfl, q⟩
end MO
