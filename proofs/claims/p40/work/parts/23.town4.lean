/-! SunPointer$Town: what is asked of it -/
def rdsP (h : zH) (p j : Nat) : Prop := ¬ h (p + 3) j = -4 ∧ bitI (h p 8) j = 0
def rdsB (h : zH) (p j : Nat) : Bool := decide (¬ h (p + 3) j = -4 ∧ bitI (h p 8) j = 0)
theorem rdsB_t {h : zH} {p j : Nat} : rdsB h p j = true ↔ (¬ h (p + 3) j = -4 ∧ bitI (h p 8) j = 0) := decide_eq_true_iff
def clampF (v : Int) : Int := if 0 < (if v < 47 then v else 47) then (if v < 47 then v else 47) else 0
def rdgF (h : zH) (p q : Nat) : Int := if rdsB h p (q / 4) = true then clampF (q + h (p + 6) (q / 4)) else -4
def fiF (h : zH) (p j : Nat) (due : Int) : Int := if rdsB h p j = true then (if (if due = 0 then 4 * (j : Int) else if 4 * (j : Int) < due - h (p + 6) j then due - h (p + 6) j else 4 * (j : Int)) < 4 * (j : Int) + 4 then (if due = 0 then 4 * (j : Int) else if 4 * (j : Int) < due - h (p + 6) j then due - h (p + 6) j else 4 * (j : Int)) else -4) else -4
/-- the first of F j, F (j + 1) .. (n of them) that isn't -4 -/
def srch (F : Nat → Int) : Nat → Nat → Int
  | 0, _ => -4
  | n + 1, j => if F j = -4 then srch F n (j + 1) else F j
def sumF (f : Nat → Int) : Nat → Int
  | 0 => 0
  | n + 1 => sumF f n + f n
def absF (x : Int) : Int := if 0 ≤ x then x else -x
def haF (wo du q : Int) : Int := wo * (if q = -4 then 48 else absF (q - du))
def dnA (h : zH) (p i : Nat) : Int := srch (fun j => fiF h p j (h (p + 4) i)) 12 0
def haA (h : zH) (p i : Nat) : Int := haF (h (p + 5) i) (h (p + 4) i) (dnA h p i)
def hmA (h : zH) (p : Nat) : Int := sumF (haA h p) (h p 7).toNat
/-- the bits n for which c n -/
def orN (c : Nat → Bool) : Nat → Nat
  | 0 => 0
  | n + 1 => if c n = true then orN c n ||| 2 ^ n else orN c n
theorem orN_lt (c : Nat → Bool) : ∀ n, orN c n < 2 ^ n
  | 0 => by simp [orN]
  | n + 1 => by
    have h1 := orN_lt c n
    have h2 : (2 : Nat) ^ (n + 1) = 2 ^ n * 2 := Nat.pow_succ 2 n
    have h3 : 0 < (2 : Nat) ^ n := Nat.pow_pos (by decide)
    unfold orN
    split
    · exact Nat.or_lt_two_pow (by omega) (by omega)
    · omega
theorem z_or_bit {a n : Nat} (hn : n < 30) (ha : a < 2 ^ n) : z_ior (a : Int) (z_ishl 1 (n : Int)) = ((a ||| 2 ^ n : Nat) : Int) := by
  have h2 : (2 : Nat) ^ (n + 1) = 2 ^ n * 2 := Nat.pow_succ 2 n
  have h3 : 0 < (2 : Nat) ^ n := Nat.pow_pos (by decide)
  rw [z_shl1 n (by omega), show (2 : Int) ^ n = ((2 ^ n : Nat) : Int) by simp, z_or_nat (n + 1) (by omega) (by omega) (by omega)]
/-- how long he stands at a stretch: now, at most -/
def lsF (st : Nat → Int) (m : Int) : Nat → Int × Int
  | 0 => (0, 0)
  | n + 1 => ((if st n = m then (lsF st m n).1 + 1 else 0), (if (lsF st m n).2 < (if st n = m then (lsF st m n).1 + 1 else 0) then (if st n = m then (lsF st m n).1 + 1 else 0) else (lsF st m n).2))
theorem lsF_in (st : Nat → Int) (m : Int) : ∀ n : Nat, 0 ≤ (lsF st m n).1 ∧ (lsF st m n).1 ≤ n ∧ 0 ≤ (lsF st m n).2 ∧ (lsF st m n).2 ≤ n
  | 0 => by simp [lsF]
  | n + 1 => by
    have := lsF_in st m n
    simp only [lsF]
    split <;> split <;> omega
theorem clampF_in (v : Int) : 0 ≤ clampF v ∧ clampF v ≤ 47 := by
  unfold clampF
  split <;> split <;> omega
section TW
variable {l : Launch} {G : zG} {h : zH} {p : Nat}
theorem rdgF_in (q : Nat) : rdgF h p q = -4 ∨ (0 ≤ rdgF h p q ∧ rdgF h p q ≤ 47) := by
  unfold rdgF
  split
  · exact Or.inr (clampF_in _)
  · exact Or.inl rfl
theorem fiF_in {j : Nat} {due : Int} (hj : j < 12) : fiF h p j due = -4 ∨ (4 * (j : Int) ≤ fiF h p j due ∧ fiF h p j due < 4 * j + 4) := by
  unfold fiF
  obtain ⟨v, hv⟩ : ∃ v, v = (if due = 0 then 4 * (j : Int) else if 4 * (j : Int) < due - h (p + 6) j then due - h (p + 6) j else 4 * (j : Int)) := ⟨_, rfl⟩
  rw [← hv]
  have h1 : 4 * (j : Int) ≤ v := by
    rw [hv]
    split
    · omega
    · split <;> omega
  by_cases c1 : rdsB h p j = true
  · rw [if_pos c1]
    by_cases c2 : v < 4 * (j : Int) + 4
    · rw [if_pos c2]; exact Or.inr ⟨h1, c2⟩
    · rw [if_neg c2]; exact Or.inl rfl
  · rw [if_neg c1]; exact Or.inl rfl
theorem srch_in {F : Nat → Int} (hF : ∀ j, j < 12 → F j = -4 ∨ (0 ≤ F j ∧ F j < 48)) : ∀ n j, j + n ≤ 12 → srch F n j = -4 ∨ (0 ≤ srch F n j ∧ srch F n j < 48)
  | 0, _, _ => Or.inl rfl
  | n + 1, j, h => by
    unfold srch
    split
    · exact srch_in hF n (j + 1) (by omega)
    · exact hF j (by omega)
theorem dnA_in (i : Nat) : dnA h p i = -4 ∨ (0 ≤ dnA h p i ∧ dnA h p i < 48) := srch_in (fun j hj => by
  have := fiF_in (h := h) (p := p) (due := h (p + 4) i) hj
  omega) 12 0 (by omega)
theorem mul_in {a b A B : Int} (h1 : 0 ≤ a) (h2 : a ≤ A) (h3 : 0 ≤ b) (h4 : b ≤ B) : 0 ≤ a * b ∧ a * b ≤ A * B := ⟨Int.mul_nonneg h1 h3, Int.mul_le_mul h2 h4 h3 (by omega)⟩
theorem haF_in {wo du q : Int} (h1 : 0 ≤ wo ∧ wo ≤ 9) (h2 : 0 ≤ du ∧ du ≤ 47) (h3 : q = -4 ∨ (0 ≤ q ∧ q < 48)) : 0 ≤ haF wo du q ∧ haF wo du q ≤ 432 := by
  have : 0 ≤ (if q = -4 then 48 else absF (q - du)) ∧ (if q = -4 then 48 else absF (q - du)) ≤ 48 := by
    unfold absF
    split
    · omega
    · split <;> omega
  exact mul_in h1.1 h1.2 this.1 this.2
theorem haA_in (w : wT h p) (i : Nat) : 0 ≤ haA h p i ∧ haA h p i ≤ 432 := haF_in (w.2.2.2.2.2.2.2.2.1 i) (w.2.2.2.2.2.2.2.1 i) (dnA_in i)
theorem sumF_in {f : Nat → Int} {B : Int} (hf : ∀ i, 0 ≤ f i ∧ f i ≤ B) : ∀ n : Nat, 0 ≤ sumF f n ∧ sumF f n ≤ B * n
  | 0 => by simp [sumF]
  | n + 1 => by
    have h1 := sumF_in hf n
    have h2 := hf n
    have : B * ((n + 1 : Nat) : Int) = B * n + B := by rw [Int.natCast_succ, Int.mul_add, Int.mul_one]
    simp only [sumF]
    omega
theorem hmA_in (w : wT h p) : 0 ≤ hmA h p ∧ hmA h p ≤ 2160 := by
  have h1 := sumF_in (haA_in w) (h p 7).toNat
  have h2 := w.2.1
  unfold hmA
  omega
theorem c_reading (ly : LT G p) (w : wT h p) (q : Nat) (hq : q < 48) : Ca l G 2 mX2_reading [vR p, vI q] h (fun r h' => r = some (vI (rdgF h p q)) ∧ h' = h) := by
  have ly0 := ly
  obtain ⟨⟨n0, n1, n2, n3, n4, n5, n6⟩, ⟨s0, s1, s2, s3, s4, s5, s6⟩, ⟨r0, r1, r2, r3, r4, r5⟩, ⟨l1, l2, l3, l4, l5, l6⟩⟩ := ly
  obtain ⟨w1, w2, w3, w4, w5, w6, w7, w8, w9, w10⟩ := w
  have wb := w10 (q / 4)
  refine Ca.of (by decide) (Nat.le_of_ble_eq_true rfl) (fun hI hv hH => ?_)
  refine r_iload_n 1 dX2_reading_0 rfl rfl ?_
  refine r_iconst 2 dX2_reading_1 rfl rfl ?_
  refine r_idiv 3 dX2_reading_2 rfl (by first | omega | (simp only [Int.toNat_natCast]; omega)) (by first | omega | (simp only [Int.toNat_natCast]; omega)) ?_
  refine r_istore_n 4 dX2_reading_3 rfl rfl rfl ?_
  refine r_aload_n 5 dX2_reading_4 rfl rfl ?_
  refine r_iload_n 6 dX2_reading_5 rfl rfl ?_
  rotate_left -- leaf: call at pc 6
  have e : (q : Int) / 4 = ((q / 4 : Nat) : Int) := by omega
  rw [e]
  refine r_cv1 9 dX2_reading_6 rfl kv_2_70 (by first | assumption | omega) (by assumption) rfl rfl (c_readsIn ly0 (q / 4) (by omega)) ?_
  rintro r h' ⟨rfl, rfl⟩
  refine r_if_ne 15 12 dX2_reading_9 (by decide) rfl (fun c_9 => ?_) (fun c_9 => ?_)
  rotate_left -- leaf: pc 15
  refine r_bipush 14 dX2_reading_12 rfl rfl (by decide) ?_
  refine r_iret dX2_reading_14 rfl ?_
  rotate_left -- leaf: return at pc 14
  · have hr := z01_y.mp c_9
    have wb2 : -20 ≤ h' (p + 6) ((q / 4 : Nat) : Int).toNat ∧ h' (p + 6) ((q / 4 : Nat) : Int).toNat ≤ 20 := by rw [Int.toNat_natCast]; exact wb
    refine r_iconst 16 dX2_reading_15 rfl rfl ?_
    refine r_bipush 18 dX2_reading_16 rfl rfl (by decide) ?_
    refine r_iload_n 19 dX2_reading_18 rfl rfl ?_
    refine r_aload_n 20 dX2_reading_19 rfl rfl ?_
    refine r_getR 23 dX2_reading_20 rfl kf_2_27 rfl (by first | assumption | omega) (by assumption) (by assumption) ?_
    refine r_iload_n 24 dX2_reading_23 rfl rfl ?_
    refine r_iald 25 dX2_reading_24 rfl (by first | assumption | omega) (by assumption) (by first | omega | (simp only [Int.toNat_natCast]; omega)) (by first | omega | (simp only [Int.toNat_natCast]; omega)) ?_
    refine r_iadd 26 dX2_reading_25 rfl (by first | exact w32_id (by omega) (by omega) | rfl) ?_
    refine r_min 29 dX2_reading_26 rfl kn_2_73 rfl rfl ?_
    refine r_max 32 dX2_reading_29 rfl kx_2_79 rfl rfl ?_
    refine r_iret dX2_reading_32 rfl ?_
    rotate_left -- leaf: return at pc 32
    refine ⟨?_, rfl⟩
    rw [Int.toNat_natCast]
    unfold rdgF
    rw [if_pos (rdsB_t.mpr hr)]
    rfl
  · have hr := z01_n.mp c_9
    refine ⟨?_, rfl⟩
    unfold rdgF
    rw [if_neg (fun z => hr (rdsB_t.mp z))]
theorem c_firstIn (ly : LT G p) (w : wT h p) (j : Nat) (hj : j < 12) (due : Int) (hd : 0 ≤ due ∧ due ≤ 47) : Ca l G 2 mX2_firstIn [vR p, vI j, vI due] h (fun r h' => r = some (vI (fiF h p j due)) ∧ h' = h) := by
  have ly0 := ly
  obtain ⟨⟨n0, n1, n2, n3, n4, n5, n6⟩, ⟨s0, s1, s2, s3, s4, s5, s6⟩, ⟨r0, r1, r2, r3, r4, r5⟩, ⟨l1, l2, l3, l4, l5, l6⟩⟩ := ly
  obtain ⟨w1, w2, w3, w4, w5, w6, w7, w8, w9, w10⟩ := w
  have wb := w10 j
  refine Ca.of (by decide) (Nat.le_of_ble_eq_true rfl) (fun hI hv hH => ?_)
  refine r_aload_n 1 dX2_firstIn_0 rfl rfl ?_
  refine r_iload_n 2 dX2_firstIn_1 rfl rfl ?_
  rotate_left -- leaf: call at pc 2
  refine r_cv1 5 dX2_firstIn_2 rfl kv_2_70 (by first | assumption | omega) (by assumption) rfl rfl (c_readsIn ly0 j hj) ?_
  rintro r h' ⟨rfl, rfl⟩
  refine r_if_ne 11 8 dX2_firstIn_5 (by decide) rfl (fun c_5 => ?_) (fun c_5 => ?_)
  rotate_left -- leaf: pc 11
  refine r_bipush 10 dX2_firstIn_8 rfl rfl (by decide) ?_
  refine r_iret dX2_firstIn_10 rfl ?_
  rotate_left -- leaf: return at pc 10
  · have hr := z01_y.mp c_5
    have hj4 : (j : Int) * 4 = 4 * j := Int.mul_comm _ _
    have J35 : ∀ v, v = (if due = 0 then 4 * (j : Int) else if 4 * (j : Int) < due - h' (p + 6) j then due - h' (p + 6) j else 4 * (j : Int)) → Rr l G 2 mX2_firstIn (fun r h'' => r = some (vI (fiF h' p j due)) ∧ h'' = h') 35 [some (vR p), some (vI j), some (vI due), some (vI ((j : Int) * 4)), none] [vI v] h' := by
      intro v hv
      refine r_istore 37 dX2_firstIn_35 rfl rfl rfl ?_
      refine r_iload 39 dX2_firstIn_37 rfl rfl ?_
      refine r_iload_n 40 dX2_firstIn_39 rfl rfl ?_
      refine r_iconst 41 dX2_firstIn_40 rfl rfl ?_
      refine r_iadd 42 dX2_firstIn_41 rfl (by first | exact w32_id (by omega) (by omega) | rfl) ?_
      refine r_icmp_ge 50 45 dX2_firstIn_42 (by decide) rfl (fun c_42 => ?_) (fun c_42 => ?_)
      refine r_bipush 52 dX2_firstIn_50 rfl rfl (by decide) ?_
      refine r_iret dX2_firstIn_52 rfl ?_
      rotate_left -- leaf: return at pc 52
      refine r_iload 47 dX2_firstIn_45 rfl rfl ?_
      refine r_goto 52 dX2_firstIn_47 (by decide) ?_
      refine r_iret dX2_firstIn_52 rfl ?_
      rotate_left -- leaf: return at pc 52
      · refine ⟨?_, rfl⟩
        unfold fiF
        rw [if_pos (rdsB_t.mpr hr), ← hv, if_neg (by omega)]
      · refine ⟨?_, rfl⟩
        unfold fiF
        rw [if_pos (rdsB_t.mpr hr), ← hv, if_pos (by omega)]
    refine r_iload_n 12 dX2_firstIn_11 rfl rfl ?_
    refine r_iconst 13 dX2_firstIn_12 rfl rfl ?_
    refine r_imul 14 dX2_firstIn_13 rfl (by first | exact w32_id (by omega) (by omega) | rfl) ?_
    refine r_istore_n 15 dX2_firstIn_14 rfl rfl rfl ?_
    refine r_iload_n 16 dX2_firstIn_15 rfl rfl ?_
    refine r_if_ne 23 19 dX2_firstIn_16 (by decide) rfl (fun c_16 => ?_) (fun c_16 => ?_)
    rotate_left -- leaf: pc 23
    rotate_left -- leaf: pc 19
    · have wb2 : -20 ≤ h' (p + 6) ((j : Nat) : Int).toNat ∧ h' (p + 6) ((j : Nat) : Int).toNat ≤ 20 := by rw [Int.toNat_natCast]; exact wb
      refine r_iload_n 24 dX2_firstIn_23 rfl rfl ?_
      refine r_iload_n 25 dX2_firstIn_24 rfl rfl ?_
      refine r_aload_n 26 dX2_firstIn_25 rfl rfl ?_
      refine r_getR 29 dX2_firstIn_26 rfl kf_2_27 rfl (by first | assumption | omega) (by assumption) (by assumption) ?_
      refine r_iload_n 30 dX2_firstIn_29 rfl rfl ?_
      refine r_iald 31 dX2_firstIn_30 rfl (by first | assumption | omega) (by assumption) (by first | omega | (simp only [Int.toNat_natCast]; omega)) (by first | omega | (simp only [Int.toNat_natCast]; omega)) ?_
      refine r_isub 32 dX2_firstIn_31 rfl (by first | exact w32_id (by omega) (by omega) | rfl) ?_
      refine r_max 35 dX2_firstIn_32 rfl kx_2_79 rfl rfl ?_
      rotate_left -- leaf: pc 35
      refine J35 _ ?_
      rw [if_neg c_16, Int.toNat_natCast, hj4]
    · refine r_iload_n 20 dX2_firstIn_19 rfl rfl ?_
      refine r_goto 35 dX2_firstIn_20 (by decide) ?_
      rotate_left -- leaf: pc 35
      refine J35 _ ?_
      rw [if_pos c_16, hj4]
  · have hr := z01_n.mp c_5
    refine ⟨?_, rfl⟩
    unfold fiF
    rw [if_neg (fun z => hr (rdsB_t.mp z))]
theorem l_doneAt (ly : LT G p) (w : wT h p) (i : Nat) (hi : i < 5) {Φ : Option zV → zH → Prop} (hΦ : Φ (some (vI (dnA h p i))) h) : ∀ (n j : Nat) (x3 : Option zV), j + n = 12 → srch (fun j => fiF h p j (h (p + 4) i)) n j = dnA h p i → Rr l G 3 mX2_doneAt Φ 2 [some (vR p), some (vI i), some (vI j), x3] [] h := by
  have ly0 := ly
  have w0 := w
  obtain ⟨⟨n0, n1, n2, n3, n4, n5, n6⟩, ⟨s0, s1, s2, s3, s4, s5, s6⟩, ⟨r0, r1, r2, r3, r4, r5⟩, ⟨l1, l2, l3, l4, l5, l6⟩⟩ := ly
  obtain ⟨w1, w2, w3, w4, w5, w6, w7, w8, w9, w10⟩ := w
  intro n
  induction n with
  | zero =>
    intro j x3 hj he
    obtain rfl : j = 12 := by omega
    refine r_iload_n 3 dX2_doneAt_2 rfl rfl ?_
    refine r_bipush 5 dX2_doneAt_3 rfl rfl (by decide) ?_
    refine r_icmp_ge 34 8 dX2_doneAt_5 (by decide) rfl (fun c_5 => ?_) (fun c_5 => ?_)
    refine r_bipush 36 dX2_doneAt_34 rfl rfl (by decide) ?_
    refine r_iret dX2_doneAt_36 rfl ?_
    rotate_left -- leaf: return at pc 36
    rotate_left -- leaf: pc 8
    · rw [← he] at hΦ
      exact hΦ
    · omega
  | succ n ih =>
    intro j x3 hj he
    refine r_iload_n 3 dX2_doneAt_2 rfl rfl ?_
    refine r_bipush 5 dX2_doneAt_3 rfl rfl (by decide) ?_
    refine r_icmp_ge 34 8 dX2_doneAt_5 (by decide) rfl (fun c_5 => ?_) (fun c_5 => ?_)
    rotate_left -- leaf: pc 34
    refine r_aload_n 9 dX2_doneAt_8 rfl rfl ?_
    refine r_iload_n 10 dX2_doneAt_9 rfl rfl ?_
    refine r_aload_n 11 dX2_doneAt_10 rfl rfl ?_
    refine r_getR 14 dX2_doneAt_11 rfl kf_2_21 rfl (by first | assumption | omega) (by assumption) (by assumption) ?_
    refine r_iload_n 15 dX2_doneAt_14 rfl rfl ?_
    refine r_iald 16 dX2_doneAt_15 rfl (by first | assumption | omega) (by assumption) (by first | omega | (simp only [Int.toNat_natCast]; omega)) (by first | omega | (simp only [Int.toNat_natCast]; omega)) ?_
    rotate_left -- leaf: call at pc 16
    · omega
    rw [Int.toNat_natCast]
    refine r_cv2 19 dX2_doneAt_16 rfl kv_2_82 (by first | assumption | omega) (by assumption) rfl rfl (c_firstIn ly0 w0 j (by omega) (h (p + 4) i) (w8 i)) ?_
    rintro r h' ⟨rfl, rfl⟩
    rw [srch] at he
    refine r_istore_n 20 dX2_doneAt_19 rfl rfl rfl ?_
    refine r_iload_n 21 dX2_doneAt_20 rfl rfl ?_
    refine r_bipush 23 dX2_doneAt_21 rfl rfl (by decide) ?_
    refine r_icmp_eq 28 26 dX2_doneAt_23 (by decide) rfl (fun c_23 => ?_) (fun c_23 => ?_)
    refine r_iinc 31 _ dX2_doneAt_28 rfl rfl rfl rfl (by first | exact w32_id (by omega) (by omega) | rfl) ?_
    refine r_goto 2 dX2_doneAt_31 (by decide) ?_
    rotate_left -- leaf: pc 2
    refine r_iload_n 27 dX2_doneAt_26 rfl rfl ?_
    refine r_iret dX2_doneAt_27 rfl ?_
    rotate_left -- leaf: return at pc 27
    · rw [if_pos c_23] at he
      exact ih (j + 1) _ (by omega) he
    · rw [if_neg c_23] at he
      show Φ (some (vI (fiF h' p j (h' (p + 4) i)))) h'
      rw [he]
      exact hΦ
theorem c_doneAt (ly : LT G p) (w : wT h p) (i : Nat) (hi : i < 5) : Ca l G 3 mX2_doneAt [vR p, vI i] h (fun r h' => r = some (vI (dnA h p i)) ∧ h' = h) := by
  refine Ca.of (by decide) (Nat.le_of_ble_eq_true rfl) (fun hI hv hH => ?_)
  refine r_iconst 1 dX2_doneAt_0 rfl rfl ?_
  refine r_istore_n 2 dX2_doneAt_1 rfl rfl rfl ?_
  rotate_left -- leaf: pc 2
  exact l_doneAt (l := l) ly w i hi (Φ := fun r h' => r = some (vI (dnA h p i)) ∧ h' = h) ⟨rfl, rfl⟩ 12 0 none rfl rfl
theorem c_harmAt (ly : LT G p) (w : wT h p) (i : Nat) (hi : i < 5) (q : Int) (hq : q = -4 ∨ (0 ≤ q ∧ q < 48)) : Ca l G 1 mX2_harmAt [vR p, vI i, vI q] h (fun r h' => r = some (vI (haF (h (p + 5) i) (h (p + 4) i) q)) ∧ h' = h) := by
  obtain ⟨⟨n0, n1, n2, n3, n4, n5, n6⟩, ⟨s0, s1, s2, s3, s4, s5, s6⟩, ⟨r0, r1, r2, r3, r4, r5⟩, ⟨l1, l2, l3, l4, l5, l6⟩⟩ := ly
  obtain ⟨w1, w2, w3, w4, w5, w6, w7, w8, w9, w10⟩ := w
  have w8 := w8 i
  have w9 := w9 i
  have hh := haF_in w9 w8 hq
  refine Ca.of (by decide) (Nat.le_of_ble_eq_true rfl) (fun hI hv hH => ?_)
  have J28 : ∀ v, v = (if q = -4 then 48 else absF (q - h (p + 4) i)) → Rr l G 1 mX2_harmAt (fun r h' => r = some (vI (haF (h (p + 5) i) (h (p + 4) i) q)) ∧ h' = h) 28 [some (vR p), some (vI i), some (vI q)] [vI v, vI (h (p + 5) i)] h := by
    intro v hv
    have e : haF (h (p + 5) i) (h (p + 4) i) q = h (p + 5) i * v := by rw [hv]; rfl
    rw [e] at hh
    refine r_imul 29 dX2_harmAt_28 rfl (by first | exact w32_id (by omega) (by omega) | rfl) ?_
    refine r_iret dX2_harmAt_29 rfl ?_
    rotate_left -- leaf: return at pc 29
    exact ⟨by rw [e], rfl⟩
  refine r_aload_n 1 dX2_harmAt_0 rfl rfl ?_
  refine r_getR 4 dX2_harmAt_1 rfl kf_2_24 rfl (by first | assumption | omega) (by assumption) (by assumption) ?_
  refine r_iload_n 5 dX2_harmAt_4 rfl rfl ?_
  refine r_iald 6 dX2_harmAt_5 rfl (by first | assumption | omega) (by assumption) (by first | omega | (simp only [Int.toNat_natCast]; omega)) (by first | omega | (simp only [Int.toNat_natCast]; omega)) ?_
  rotate_left -- leaf: pc 6
  rw [Int.toNat_natCast]
  refine r_iload_n 7 dX2_harmAt_6 rfl rfl ?_
  refine r_bipush 9 dX2_harmAt_7 rfl rfl (by decide) ?_
  refine r_icmp_ne 17 12 dX2_harmAt_9 (by decide) rfl (fun c_9 => ?_) (fun c_9 => ?_)
  refine r_iload_n 18 dX2_harmAt_17 rfl rfl ?_
  refine r_aload_n 19 dX2_harmAt_18 rfl rfl ?_
  refine r_getR 22 dX2_harmAt_19 rfl kf_2_21 rfl (by first | assumption | omega) (by assumption) (by assumption) ?_
  refine r_iload_n 23 dX2_harmAt_22 rfl rfl ?_
  refine r_iald 24 dX2_harmAt_23 rfl (by first | assumption | omega) (by assumption) (by first | omega | (simp only [Int.toNat_natCast]; omega)) (by first | omega | (simp only [Int.toNat_natCast]; omega)) ?_
  rotate_left -- leaf: pc 24
  refine r_bipush 14 dX2_harmAt_12 rfl rfl (by decide) ?_
  refine r_goto 28 dX2_harmAt_14 (by decide) ?_
  rotate_left -- leaf: pc 28
  · rw [Int.toNat_natCast]
    refine r_isub 25 dX2_harmAt_24 rfl (by first | exact w32_id (by omega) (by omega) | rfl) ?_
    refine r_abs 28 dX2_harmAt_25 rfl ka_2_85 rfl rfl (by first | omega | (simp only [Int.toNat_natCast]; omega)) ?_
    rotate_left -- leaf: pc 28
    refine J28 _ ?_
    rw [if_neg c_9]
    rfl
  · exact J28 _ (by rw [if_pos c_9])
theorem l_harm (ly : LT G p) (w : wT h p) {Φ : Option zV → zH → Prop} (hΦ : Φ (some (vI (hmA h p))) h) : ∀ (n j : Nat), j + n = (h p 7).toNat → Rr l G 4 mX2_harm Φ 4 [some (vR p), some (vI (sumF (haA h p) j)), some (vI j)] [] h := by
  have ly0 := ly
  have w0 := w
  obtain ⟨⟨n0, n1, n2, n3, n4, n5, n6⟩, ⟨s0, s1, s2, s3, s4, s5, s6⟩, ⟨r0, r1, r2, r3, r4, r5⟩, ⟨l1, l2, l3, l4, l5, l6⟩⟩ := ly
  obtain ⟨w1, w2, w3, w4, w5, w6, w7, w8, w9, w10⟩ := w
  intro n
  induction n with
  | zero =>
    intro j hj
    refine r_iload_n 5 dX2_harm_4 rfl rfl ?_
    refine r_aload_n 6 dX2_harm_5 rfl rfl ?_
    refine r_getI 9 dX2_harm_6 rfl kf_2_37 rfl (by first | assumption | omega) (by assumption) ?_
    refine r_icmp_ge 31 12 dX2_harm_9 (by decide) rfl (fun c_9 => ?_) (fun c_9 => ?_)
    refine r_iload_n 32 dX2_harm_31 rfl rfl ?_
    refine r_iret dX2_harm_32 rfl ?_
    rotate_left -- leaf: return at pc 32
    rotate_left -- leaf: pc 12
    · rw [show j = (h p 7).toNat by omega]
      exact hΦ
    · omega
  | succ n ih =>
    intro j hj
    have hs := sumF_in (haA_in w0) j
    have hs2 := haA_in w0 j
    refine r_iload_n 5 dX2_harm_4 rfl rfl ?_
    refine r_aload_n 6 dX2_harm_5 rfl rfl ?_
    refine r_getI 9 dX2_harm_6 rfl kf_2_37 rfl (by first | assumption | omega) (by assumption) ?_
    refine r_icmp_ge 31 12 dX2_harm_9 (by decide) rfl (fun c_9 => ?_) (fun c_9 => ?_)
    rotate_left -- leaf: pc 31
    refine r_iload_n 13 dX2_harm_12 rfl rfl ?_
    refine r_aload_n 14 dX2_harm_13 rfl rfl ?_
    refine r_iload_n 15 dX2_harm_14 rfl rfl ?_
    refine r_aload_n 16 dX2_harm_15 rfl rfl ?_
    refine r_iload_n 17 dX2_harm_16 rfl rfl ?_
    rotate_left -- leaf: call at pc 17
    · omega
    refine r_cv1 20 dX2_harm_17 rfl kv_2_89 (by first | assumption | omega) (by assumption) rfl rfl (c_doneAt ly0 w0 j (by omega)) ?_
    rintro r h' ⟨rfl, rfl⟩
    have hd := dnA_in (h := h') (p := p) j
    refine r_cv2 23 dX2_harm_20 rfl kv_2_92 (by first | assumption | omega) (by assumption) rfl rfl (c_harmAt ly0 w0 j (by omega) (dnA h' p j) hd) ?_
    rintro r h'' ⟨rfl, rfl⟩
    have e : haF (h'' (p + 5) j) (h'' (p + 4) j) (dnA h'' p j) = haA h'' p j := rfl
    rw [e]
    refine r_iadd 24 dX2_harm_23 rfl (by first | exact w32_id (by omega) (by omega) | rfl) ?_
    refine r_istore_n 25 dX2_harm_24 rfl rfl rfl ?_
    refine r_iinc 28 _ dX2_harm_25 rfl rfl rfl rfl (by first | exact w32_id (by omega) (by omega) | rfl) ?_
    refine r_goto 4 dX2_harm_28 (by decide) ?_
    rotate_left -- leaf: pc 4
    exact ih (j + 1) (by omega)
theorem c_harm (ly : LT G p) (w : wT h p) : Ca l G 4 mX2_harm [vR p] h (fun r h' => r = some (vI (hmA h p)) ∧ h' = h) := by
  refine Ca.of (by decide) (Nat.le_of_ble_eq_true rfl) (fun hI hv hH => ?_)
  refine r_iconst 1 dX2_harm_0 rfl rfl ?_
  refine r_istore_n 2 dX2_harm_1 rfl rfl rfl ?_
  refine r_iconst 3 dX2_harm_2 rfl rfl ?_
  refine r_istore_n 4 dX2_harm_3 rfl rfl rfl ?_
  rotate_left -- leaf: pc 4
  exact l_harm (l := l) ly w (Φ := fun r h' => r = some (vI (hmA h p)) ∧ h' = h) ⟨rfl, rfl⟩ (h p 7).toNat 0 (by omega)
theorem l_hoursStood (ly : LT G p) {Φ : Option zV → zH → Prop} (hΦ : Φ (some (vI (orN (fun j => decide (¬ h (p + 3) j = -4)) 12))) h) : ∀ (n j : Nat), j + n = 12 → Rr l G 0 mX2_hoursStood Φ 4 [some (vR p), some (vI (orN (fun j => decide (¬ h (p + 3) j = -4)) j)), some (vI j)] [] h := by
  obtain ⟨⟨n0, n1, n2, n3, n4, n5, n6⟩, ⟨s0, s1, s2, s3, s4, s5, s6⟩, ⟨r0, r1, r2, r3, r4, r5⟩, ⟨l1, l2, l3, l4, l5, l6⟩⟩ := ly
  intro n
  induction n with
  | zero =>
    intro j hj
    obtain rfl : j = 12 := by omega
    refine r_iload_n 5 dX2_hoursStood_4 rfl rfl ?_
    refine r_bipush 7 dX2_hoursStood_5 rfl rfl (by decide) ?_
    refine r_icmp_ge 33 10 dX2_hoursStood_7 (by decide) rfl (fun c_7 => ?_) (fun c_7 => ?_)
    refine r_iload_n 34 dX2_hoursStood_33 rfl rfl ?_
    refine r_iret dX2_hoursStood_34 rfl ?_
    rotate_left -- leaf: return at pc 34
    rotate_left -- leaf: pc 10
    · exact hΦ
    · omega
  | succ n ih =>
    intro j hj
    have ih := ih (j + 1) (by omega)
    rw [orN] at ih
    refine r_iload_n 5 dX2_hoursStood_4 rfl rfl ?_
    refine r_bipush 7 dX2_hoursStood_5 rfl rfl (by decide) ?_
    refine r_icmp_ge 33 10 dX2_hoursStood_7 (by decide) rfl (fun c_7 => ?_) (fun c_7 => ?_)
    rotate_left -- leaf: pc 33
    refine r_aload_n 11 dX2_hoursStood_10 rfl rfl ?_
    refine r_getR 14 dX2_hoursStood_11 rfl kf_2_18 rfl (by first | assumption | omega) (by assumption) (by assumption) ?_
    refine r_iload_n 15 dX2_hoursStood_14 rfl rfl ?_
    refine r_iald 16 dX2_hoursStood_15 rfl (by first | assumption | omega) (by assumption) (by first | omega | (simp only [Int.toNat_natCast]; omega)) (by first | omega | (simp only [Int.toNat_natCast]; omega)) ?_
    refine r_bipush 18 dX2_hoursStood_16 rfl rfl (by decide) ?_
    refine r_icmp_eq 27 21 dX2_hoursStood_18 (by decide) rfl (fun c_18 => ?_) (fun c_18 => ?_)
    refine r_iinc 30 _ dX2_hoursStood_27 rfl rfl rfl rfl (by first | exact w32_id (by omega) (by omega) | rfl) ?_
    refine r_goto 4 dX2_hoursStood_30 (by decide) ?_
    rotate_left -- leaf: pc 4
    refine r_iload_n 22 dX2_hoursStood_21 rfl rfl ?_
    refine r_iconst 23 dX2_hoursStood_22 rfl rfl ?_
    refine r_iload_n 24 dX2_hoursStood_23 rfl rfl ?_
    refine r_ishl 25 dX2_hoursStood_24 rfl rfl ?_
    refine r_ior 26 dX2_hoursStood_25 rfl rfl ?_
    refine r_istore_n 27 dX2_hoursStood_26 rfl rfl rfl ?_
    refine r_iinc 30 _ dX2_hoursStood_27 rfl rfl rfl rfl (by first | exact w32_id (by omega) (by omega) | rfl) ?_
    refine r_goto 4 dX2_hoursStood_30 (by decide) ?_
    rotate_left -- leaf: pc 4
    · omega
    · rw [Int.toNat_natCast] at c_18
      rw [if_neg (by simp [c_18])] at ih
      exact ih
    · rw [Int.toNat_natCast] at c_18
      rw [if_pos (by simp [c_18])] at ih
      rw [z_or_bit (by omega) (orN_lt _ j)]
      exact ih
theorem c_hoursStood (ly : LT G p) : Ca l G 0 mX2_hoursStood [vR p] h (fun r h' => r = some (vI (orN (fun j => decide (¬ h (p + 3) j = -4)) 12)) ∧ h' = h) := by
  refine Ca.of (by decide) (Nat.le_of_ble_eq_true rfl) (fun hI hv hH => ?_)
  refine r_iconst 1 dX2_hoursStood_0 rfl rfl ?_
  refine r_istore_n 2 dX2_hoursStood_1 rfl rfl rfl ?_
  refine r_iconst 3 dX2_hoursStood_2 rfl rfl ?_
  refine r_istore_n 4 dX2_hoursStood_3 rfl rfl rfl ?_
  rotate_left -- leaf: pc 4
  exact l_hoursStood (l := l) ly (Φ := fun r h' => r = some (vI (orN (fun j => decide (¬ h (p + 3) j = -4)) 12)) ∧ h' = h) ⟨rfl, rfl⟩ 12 0 rfl
theorem l_hoursOf (ly : LT G p) (m : Int) {Φ : Option zV → zH → Prop} (hΦ : Φ (some (vI (orN (fun j => decide (h (p + 3) j = m)) 12))) h) : ∀ (n j : Nat), j + n = 12 → Rr l G 0 mX2_hoursOf Φ 4 [some (vR p), some (vI m), some (vI (orN (fun j => decide (h (p + 3) j = m)) j)), some (vI j)] [] h := by
  obtain ⟨⟨n0, n1, n2, n3, n4, n5, n6⟩, ⟨s0, s1, s2, s3, s4, s5, s6⟩, ⟨r0, r1, r2, r3, r4, r5⟩, ⟨l1, l2, l3, l4, l5, l6⟩⟩ := ly
  intro n
  induction n with
  | zero =>
    intro j hj
    obtain rfl : j = 12 := by omega
    refine r_iload_n 5 dX2_hoursOf_4 rfl rfl ?_
    refine r_bipush 7 dX2_hoursOf_5 rfl rfl (by decide) ?_
    refine r_icmp_ge 32 10 dX2_hoursOf_7 (by decide) rfl (fun c_7 => ?_) (fun c_7 => ?_)
    refine r_iload_n 33 dX2_hoursOf_32 rfl rfl ?_
    refine r_iret dX2_hoursOf_33 rfl ?_
    rotate_left -- leaf: return at pc 33
    rotate_left -- leaf: pc 10
    · exact hΦ
    · omega
  | succ n ih =>
    intro j hj
    have ih := ih (j + 1) (by omega)
    rw [orN] at ih
    refine r_iload_n 5 dX2_hoursOf_4 rfl rfl ?_
    refine r_bipush 7 dX2_hoursOf_5 rfl rfl (by decide) ?_
    refine r_icmp_ge 32 10 dX2_hoursOf_7 (by decide) rfl (fun c_7 => ?_) (fun c_7 => ?_)
    rotate_left -- leaf: pc 32
    refine r_aload_n 11 dX2_hoursOf_10 rfl rfl ?_
    refine r_getR 14 dX2_hoursOf_11 rfl kf_2_18 rfl (by first | assumption | omega) (by assumption) (by assumption) ?_
    refine r_iload_n 15 dX2_hoursOf_14 rfl rfl ?_
    refine r_iald 16 dX2_hoursOf_15 rfl (by first | assumption | omega) (by assumption) (by first | omega | (simp only [Int.toNat_natCast]; omega)) (by first | omega | (simp only [Int.toNat_natCast]; omega)) ?_
    refine r_iload_n 17 dX2_hoursOf_16 rfl rfl ?_
    refine r_icmp_ne 26 20 dX2_hoursOf_17 (by decide) rfl (fun c_17 => ?_) (fun c_17 => ?_)
    refine r_iinc 29 _ dX2_hoursOf_26 rfl rfl rfl rfl (by first | exact w32_id (by omega) (by omega) | rfl) ?_
    refine r_goto 4 dX2_hoursOf_29 (by decide) ?_
    rotate_left -- leaf: pc 4
    refine r_iload_n 21 dX2_hoursOf_20 rfl rfl ?_
    refine r_iconst 22 dX2_hoursOf_21 rfl rfl ?_
    refine r_iload_n 23 dX2_hoursOf_22 rfl rfl ?_
    refine r_ishl 24 dX2_hoursOf_23 rfl rfl ?_
    refine r_ior 25 dX2_hoursOf_24 rfl rfl ?_
    refine r_istore_n 26 dX2_hoursOf_25 rfl rfl rfl ?_
    refine r_iinc 29 _ dX2_hoursOf_26 rfl rfl rfl rfl (by first | exact w32_id (by omega) (by omega) | rfl) ?_
    refine r_goto 4 dX2_hoursOf_29 (by decide) ?_
    rotate_left -- leaf: pc 4
    · omega
    · rw [Int.toNat_natCast] at c_17
      rw [if_neg (by simp [c_17])] at ih
      exact ih
    · rw [Int.toNat_natCast] at c_17
      rw [if_pos (by simp [c_17])] at ih
      rw [z_or_bit (by omega) (orN_lt _ j)]
      exact ih
theorem c_hoursOf (ly : LT G p) (m : Int) : Ca l G 0 mX2_hoursOf [vR p, vI m] h (fun r h' => r = some (vI (orN (fun j => decide (h (p + 3) j = m)) 12)) ∧ h' = h) := by
  refine Ca.of (by decide) (Nat.le_of_ble_eq_true rfl) (fun hI hv hH => ?_)
  refine r_iconst 1 dX2_hoursOf_0 rfl rfl ?_
  refine r_istore_n 2 dX2_hoursOf_1 rfl rfl rfl ?_
  refine r_iconst 3 dX2_hoursOf_2 rfl rfl ?_
  refine r_istore_n 4 dX2_hoursOf_3 rfl rfl rfl ?_
  rotate_left -- leaf: pc 4
  exact l_hoursOf (l := l) ly m (Φ := fun r h' => r = some (vI (orN (fun j => decide (h (p + 3) j = m)) 12)) ∧ h' = h) ⟨rfl, rfl⟩ 12 0 rfl
def lsA (h : zH) (p : Nat) (m : Int) : Int := if (lsF (h (p + 3)) m 12).2 = 0 then -4 else (lsF (h (p + 3)) m 12).2 * 4 - 1
theorem l_longest (ly : LT G p) (m : Int) {Φ : Option zV → zH → Prop} (hΦ : Φ (some (vI (lsA h p m))) h) : ∀ (n j : Nat), j + n = 12 → Rr l G 1 mX2_longestStood Φ 7 [some (vR p), some (vI m), some (vI (lsF (h (p + 3)) m j).1), some (vI (lsF (h (p + 3)) m j).2), some (vI j)] [] h := by
  obtain ⟨⟨n0, n1, n2, n3, n4, n5, n6⟩, ⟨s0, s1, s2, s3, s4, s5, s6⟩, ⟨r0, r1, r2, r3, r4, r5⟩, ⟨l1, l2, l3, l4, l5, l6⟩⟩ := ly
  intro n
  induction n with
  | zero =>
    intro j hj
    obtain rfl : j = 12 := by omega
    have hi := lsF_in (h (p + 3)) m 12
    refine r_iload 9 dX2_longestStood_7 rfl rfl ?_
    refine r_bipush 11 dX2_longestStood_9 rfl rfl (by decide) ?_
    refine r_icmp_ge 45 14 dX2_longestStood_11 (by decide) rfl (fun c_11 => ?_) (fun c_11 => ?_)
    refine r_iload_n 46 dX2_longestStood_45 rfl rfl ?_
    refine r_if_ne 54 49 dX2_longestStood_46 (by decide) rfl (fun c_46 => ?_) (fun c_46 => ?_)
    refine r_iload_n 55 dX2_longestStood_54 rfl rfl ?_
    refine r_iconst 56 dX2_longestStood_55 rfl rfl ?_
    refine r_imul 57 dX2_longestStood_56 rfl (by first | exact w32_id (by omega) (by omega) | rfl) ?_
    refine r_iconst 58 dX2_longestStood_57 rfl rfl ?_
    refine r_isub 59 dX2_longestStood_58 rfl (by first | exact w32_id (by omega) (by omega) | rfl) ?_
    refine r_iret dX2_longestStood_59 rfl ?_
    rotate_left -- leaf: return at pc 59
    refine r_bipush 51 dX2_longestStood_49 rfl rfl (by decide) ?_
    refine r_goto 59 dX2_longestStood_51 (by decide) ?_
    refine r_iret dX2_longestStood_59 rfl ?_
    rotate_left -- leaf: return at pc 59
    rotate_left -- leaf: pc 14
    · unfold lsA at hΦ
      rw [if_neg c_46] at hΦ
      exact hΦ
    · unfold lsA at hΦ
      rw [if_pos c_46] at hΦ
      exact hΦ
    · omega
  | succ n ih =>
    intro j hj
    have hi := lsF_in (h (p + 3)) m j
    have ih := ih (j + 1) (by omega)
    simp only [lsF] at ih
    refine r_iload 9 dX2_longestStood_7 rfl rfl ?_
    refine r_bipush 11 dX2_longestStood_9 rfl rfl (by decide) ?_
    refine r_icmp_ge 45 14 dX2_longestStood_11 (by decide) rfl (fun c_11 => ?_) (fun c_11 => ?_)
    rotate_left -- leaf: pc 45
    refine r_aload_n 15 dX2_longestStood_14 rfl rfl ?_
    refine r_getR 18 dX2_longestStood_15 rfl kf_2_18 rfl (by first | assumption | omega) (by assumption) (by assumption) ?_
    refine r_iload 20 dX2_longestStood_18 rfl rfl ?_
    refine r_iald 21 dX2_longestStood_20 rfl (by first | assumption | omega) (by assumption) (by first | omega | (simp only [Int.toNat_natCast]; omega)) (by first | omega | (simp only [Int.toNat_natCast]; omega)) ?_
    refine r_iload_n 22 dX2_longestStood_21 rfl rfl ?_
    refine r_icmp_ne 31 25 dX2_longestStood_22 (by decide) rfl (fun c_22 => ?_) (fun c_22 => ?_)
    refine r_iconst 32 dX2_longestStood_31 rfl rfl ?_
    refine r_istore_n 33 dX2_longestStood_32 rfl rfl rfl ?_
    refine r_iload_n 34 dX2_longestStood_33 rfl rfl ?_
    refine r_iload_n 35 dX2_longestStood_34 rfl rfl ?_
    refine r_max 38 dX2_longestStood_35 rfl kx_2_79 rfl rfl ?_
    refine r_istore_n 39 dX2_longestStood_38 rfl rfl rfl ?_
    refine r_iinc 42 _ dX2_longestStood_39 rfl rfl rfl rfl (by first | exact w32_id (by omega) (by omega) | rfl) ?_
    refine r_goto 7 dX2_longestStood_42 (by decide) ?_
    rotate_left -- leaf: pc 7
    refine r_iload_n 26 dX2_longestStood_25 rfl rfl ?_
    refine r_iconst 27 dX2_longestStood_26 rfl rfl ?_
    refine r_iadd 28 dX2_longestStood_27 rfl (by first | exact w32_id (by omega) (by omega) | rfl) ?_
    refine r_goto 32 dX2_longestStood_28 (by decide) ?_
    refine r_istore_n 33 dX2_longestStood_32 rfl rfl rfl ?_
    refine r_iload_n 34 dX2_longestStood_33 rfl rfl ?_
    refine r_iload_n 35 dX2_longestStood_34 rfl rfl ?_
    refine r_max 38 dX2_longestStood_35 rfl kx_2_79 rfl rfl ?_
    refine r_istore_n 39 dX2_longestStood_38 rfl rfl rfl ?_
    refine r_iinc 42 _ dX2_longestStood_39 rfl rfl rfl rfl (by first | exact w32_id (by omega) (by omega) | rfl) ?_
    refine r_goto 7 dX2_longestStood_42 (by decide) ?_
    rotate_left -- leaf: pc 7
    · omega
    · rw [Int.toNat_natCast] at c_22
      rw [if_neg c_22] at ih
      exact ih
    · rw [Int.toNat_natCast] at c_22
      rw [if_pos c_22] at ih
      exact ih
theorem c_longestStood (ly : LT G p) (m : Int) : Ca l G 1 mX2_longestStood [vR p, vI m] h (fun r h' => r = some (vI (lsA h p m)) ∧ h' = h) := by
  refine Ca.of (by decide) (Nat.le_of_ble_eq_true rfl) (fun hI hv hH => ?_)
  refine r_iconst 1 dX2_longestStood_0 rfl rfl ?_
  refine r_istore_n 2 dX2_longestStood_1 rfl rfl rfl ?_
  refine r_iconst 3 dX2_longestStood_2 rfl rfl ?_
  refine r_istore_n 4 dX2_longestStood_3 rfl rfl rfl ?_
  refine r_iconst 5 dX2_longestStood_4 rfl rfl ?_
  refine r_istore 7 dX2_longestStood_5 rfl rfl rfl ?_
  rotate_left -- leaf: pc 7
  exact l_longest (l := l) ly m (Φ := fun r h' => r = some (vI (lsA h p m)) ∧ h' = h) ⟨rfl, rfl⟩ 12 0 rfl
def awP (h : zH) (p : Nat) : Prop := ∀ j, j < 12 → (h (p + 3) j = -4 ∨ (0 ≤ h (p + 3) j ∧ h (p + 3) j < h p 6))
theorem l_allWho (ly : LT G p) {Φ : Option zV → zH → Prop} (hT : awP h p → Φ (some (vI 1)) h) (hF : ¬ awP h p → Φ (some (vI 0)) h) : ∀ (n j : Nat), j + n = 12 → (∀ i, i < j → (h (p + 3) i = -4 ∨ (0 ≤ h (p + 3) i ∧ h (p + 3) i < h p 6))) → Rr l G 1 mX2_allWhoStandAreThere Φ 2 [some (vR p), some (vI j)] [] h := by
  have ly0 := ly
  obtain ⟨⟨n0, n1, n2, n3, n4, n5, n6⟩, ⟨s0, s1, s2, s3, s4, s5, s6⟩, ⟨r0, r1, r2, r3, r4, r5⟩, ⟨l1, l2, l3, l4, l5, l6⟩⟩ := ly
  intro n
  induction n with
  | zero =>
    intro j hj ha
    obtain rfl : j = 12 := by omega
    refine r_iload_n 3 dX2_allWhoStandAreThere_2 rfl rfl ?_
    refine r_bipush 5 dX2_allWhoStandAreThere_3 rfl rfl (by decide) ?_
    refine r_icmp_ge 40 8 dX2_allWhoStandAreThere_5 (by decide) rfl (fun c_5 => ?_) (fun c_5 => ?_)
    refine r_iconst 41 dX2_allWhoStandAreThere_40 rfl rfl ?_
    refine r_zret dX2_allWhoStandAreThere_41 rfl (by first | exact Or.inl rfl | exact Or.inr rfl | assumption | omega) ?_
    rotate_left -- leaf: return at pc 41
    rotate_left -- leaf: pc 8
    · exact hT ha
    · omega
  | succ n ih =>
    intro j hj ha
    refine r_iload_n 3 dX2_allWhoStandAreThere_2 rfl rfl ?_
    refine r_bipush 5 dX2_allWhoStandAreThere_3 rfl rfl (by decide) ?_
    refine r_icmp_ge 40 8 dX2_allWhoStandAreThere_5 (by decide) rfl (fun c_5 => ?_) (fun c_5 => ?_)
    rotate_left -- leaf: pc 40
    refine r_aload_n 9 dX2_allWhoStandAreThere_8 rfl rfl ?_
    refine r_getR 12 dX2_allWhoStandAreThere_9 rfl kf_2_18 rfl (by first | assumption | omega) (by assumption) (by assumption) ?_
    refine r_iload_n 13 dX2_allWhoStandAreThere_12 rfl rfl ?_
    refine r_iald 14 dX2_allWhoStandAreThere_13 rfl (by first | assumption | omega) (by assumption) (by first | omega | (simp only [Int.toNat_natCast]; omega)) (by first | omega | (simp only [Int.toNat_natCast]; omega)) ?_
    refine r_bipush 16 dX2_allWhoStandAreThere_14 rfl rfl (by decide) ?_
    refine r_icmp_eq 34 19 dX2_allWhoStandAreThere_16 (by decide) rfl (fun c_16 => ?_) (fun c_16 => ?_)
    refine r_iinc 37 _ dX2_allWhoStandAreThere_34 rfl rfl rfl rfl (by first | exact w32_id (by omega) (by omega) | rfl) ?_
    refine r_goto 2 dX2_allWhoStandAreThere_37 (by decide) ?_
    rotate_left -- leaf: pc 2
    refine r_aload_n 20 dX2_allWhoStandAreThere_19 rfl rfl ?_
    refine r_aload_n 21 dX2_allWhoStandAreThere_20 rfl rfl ?_
    refine r_getR 24 dX2_allWhoStandAreThere_21 rfl kf_2_18 rfl (by first | assumption | omega) (by assumption) (by assumption) ?_
    refine r_iload_n 25 dX2_allWhoStandAreThere_24 rfl rfl ?_
    refine r_iald 26 dX2_allWhoStandAreThere_25 rfl (by first | assumption | omega) (by assumption) (by first | omega | (simp only [Int.toNat_natCast]; omega)) (by first | omega | (simp only [Int.toNat_natCast]; omega)) ?_
    rotate_left -- leaf: call at pc 26
    · omega
    · rw [Int.toNat_natCast] at c_16
      refine ih (j + 1) (by omega) (fun i hi => ?_)
      by_cases e : i = j
      · subst e; exact Or.inl c_16
      · exact ha i (by omega)
    · rw [Int.toNat_natCast] at c_16 ⊢
      refine r_cv1 29 dX2_allWhoStandAreThere_26 rfl kv_2_59 (by first | assumption | omega) (by assumption) rfl rfl (c_hasMan ly0 (h (p + 3) j)) ?_
      rintro r h' ⟨rfl, rfl⟩
      refine r_if_ne 34 32 dX2_allWhoStandAreThere_29 (by decide) rfl (fun c_29 => ?_) (fun c_29 => ?_)
      refine r_iinc 37 _ dX2_allWhoStandAreThere_34 rfl rfl rfl rfl (by first | exact w32_id (by omega) (by omega) | rfl) ?_
      refine r_goto 2 dX2_allWhoStandAreThere_37 (by decide) ?_
      rotate_left -- leaf: pc 2
      refine r_iconst 33 dX2_allWhoStandAreThere_32 rfl rfl ?_
      refine r_zret dX2_allWhoStandAreThere_33 rfl (by first | exact Or.inl rfl | exact Or.inr rfl | assumption | omega) ?_
      rotate_left -- leaf: return at pc 33
      · refine ih (j + 1) (by omega) (fun i hi => ?_)
        by_cases e : i = j
        · subst e; exact Or.inr (z01_y.mp c_29)
        · exact ha i (by omega)
      · exact hF (fun q => by
          rcases q j (by omega) with z | z
          · exact c_16 z
          · exact z01_n.mp c_29 z)
theorem c_allWho (ly : LT G p) : Ca l G 1 mX2_allWhoStandAreThere [vR p] h (fun r h' => ((awP h p ∧ r = some (vI 1)) ∨ (¬ awP h p ∧ r = some (vI 0))) ∧ h' = h) := by
  refine Ca.of (by decide) (Nat.le_of_ble_eq_true rfl) (fun hI hv hH => ?_)
  refine r_iconst 1 dX2_allWhoStandAreThere_0 rfl rfl ?_
  refine r_istore_n 2 dX2_allWhoStandAreThere_1 rfl rfl rfl ?_
  rotate_left -- leaf: pc 2
  exact l_allWho (l := l) ly (Φ := fun r h' => ((awP h p ∧ r = some (vI 1)) ∨ (¬ awP h p ∧ r = some (vI 0))) ∧ h' = h) (fun q => ⟨Or.inl ⟨q, rfl⟩, rfl⟩) (fun q => ⟨Or.inr ⟨q, rfl⟩, rfl⟩) 12 0 rfl (fun i hi => absurd hi (by omega))
theorem l_allWorth (ly : LT G p) (w : wT h p) {Φ : Option zV → zH → Prop} (hΦ : Φ (some (vI (sumF (h (p + 5)) (h p 7).toNat))) h) : ∀ (n j : Nat), j + n = (h p 7).toNat → Rr l G 0 mX2_allWorth Φ 4 [some (vR p), some (vI (sumF (h (p + 5)) j)), some (vI j)] [] h := by
  obtain ⟨⟨n0, n1, n2, n3, n4, n5, n6⟩, ⟨s0, s1, s2, s3, s4, s5, s6⟩, ⟨r0, r1, r2, r3, r4, r5⟩, ⟨l1, l2, l3, l4, l5, l6⟩⟩ := ly
  obtain ⟨w1, w2, w3, w4, w5, w6, w7, w8, w9, w10⟩ := w
  intro n
  induction n with
  | zero =>
    intro j hj
    refine r_iload_n 5 dX2_allWorth_4 rfl rfl ?_
    refine r_aload_n 6 dX2_allWorth_5 rfl rfl ?_
    refine r_getI 9 dX2_allWorth_6 rfl kf_2_37 rfl (by first | assumption | omega) (by assumption) ?_
    refine r_icmp_ge 27 12 dX2_allWorth_9 (by decide) rfl (fun c_9 => ?_) (fun c_9 => ?_)
    refine r_iload_n 28 dX2_allWorth_27 rfl rfl ?_
    refine r_iret dX2_allWorth_28 rfl ?_
    rotate_left -- leaf: return at pc 28
    rotate_left -- leaf: pc 12
    · rw [show j = (h p 7).toNat by omega]
      exact hΦ
    · omega
  | succ n ih =>
    intro j hj
    have hs := sumF_in w9 j
    have hs2 := w9 j
    refine r_iload_n 5 dX2_allWorth_4 rfl rfl ?_
    refine r_aload_n 6 dX2_allWorth_5 rfl rfl ?_
    refine r_getI 9 dX2_allWorth_6 rfl kf_2_37 rfl (by first | assumption | omega) (by assumption) ?_
    refine r_icmp_ge 27 12 dX2_allWorth_9 (by decide) rfl (fun c_9 => ?_) (fun c_9 => ?_)
    rotate_left -- leaf: pc 27
    refine r_iload_n 13 dX2_allWorth_12 rfl rfl ?_
    refine r_aload_n 14 dX2_allWorth_13 rfl rfl ?_
    refine r_getR 17 dX2_allWorth_14 rfl kf_2_24 rfl (by first | assumption | omega) (by assumption) (by assumption) ?_
    refine r_iload_n 18 dX2_allWorth_17 rfl rfl ?_
    refine r_iald 19 dX2_allWorth_18 rfl (by first | assumption | omega) (by assumption) (by first | omega | (simp only [Int.toNat_natCast]; omega)) (by first | omega | (simp only [Int.toNat_natCast]; omega)) ?_
    rotate_left -- leaf: pc 19
    · omega
    rw [Int.toNat_natCast]
    refine r_iadd 20 dX2_allWorth_19 rfl (by first | exact w32_id (by omega) (by omega) | rfl) ?_
    refine r_istore_n 21 dX2_allWorth_20 rfl rfl rfl ?_
    refine r_iinc 24 _ dX2_allWorth_21 rfl rfl rfl rfl (by first | exact w32_id (by omega) (by omega) | rfl) ?_
    refine r_goto 4 dX2_allWorth_24 (by decide) ?_
    rotate_left -- leaf: pc 4
    exact ih (j + 1) (by omega)
theorem c_allWorth (ly : LT G p) (w : wT h p) : Ca l G 0 mX2_allWorth [vR p] h (fun r h' => r = some (vI (sumF (h (p + 5)) (h p 7).toNat)) ∧ h' = h) := by
  refine Ca.of (by decide) (Nat.le_of_ble_eq_true rfl) (fun hI hv hH => ?_)
  refine r_iconst 1 dX2_allWorth_0 rfl rfl ?_
  refine r_istore_n 2 dX2_allWorth_1 rfl rfl rfl ?_
  refine r_iconst 3 dX2_allWorth_2 rfl rfl ?_
  refine r_istore_n 4 dX2_allWorth_3 rfl rfl rfl ?_
  rotate_left -- leaf: pc 4
  exact l_allWorth (l := l) ly w (Φ := fun r h' => r = some (vI (sumF (h (p + 5)) (h p 7).toNat)) ∧ h' = h) ⟨rfl, rfl⟩ (h p 7).toNat 0 (by omega)
theorem l_quarters (ly : LT G p) {Φ : Option zV → zH → Prop} (hΦ : Φ (some (vI (sumF (fun j => if rdsB h p j = true then 4 else 0) 12))) h) : ∀ (n j : Nat), j + n = 12 → Rr l G 2 mX2_quartersRead Φ 4 [some (vR p), some (vI (sumF (fun j => if rdsB h p j = true then 4 else 0) j)), some (vI j)] [] h := by
  have ly0 := ly
  obtain ⟨⟨n0, n1, n2, n3, n4, n5, n6⟩, ⟨s0, s1, s2, s3, s4, s5, s6⟩, ⟨r0, r1, r2, r3, r4, r5⟩, ⟨l1, l2, l3, l4, l5, l6⟩⟩ := ly
  intro n
  induction n with
  | zero =>
    intro j hj
    obtain rfl : j = 12 := by omega
    refine r_iload_n 5 dX2_quartersRead_4 rfl rfl ?_
    refine r_bipush 7 dX2_quartersRead_5 rfl rfl (by decide) ?_
    refine r_icmp_ge 32 10 dX2_quartersRead_7 (by decide) rfl (fun c_7 => ?_) (fun c_7 => ?_)
    refine r_iload_n 33 dX2_quartersRead_32 rfl rfl ?_
    refine r_iret dX2_quartersRead_33 rfl ?_
    rotate_left -- leaf: return at pc 33
    rotate_left -- leaf: pc 10
    · exact hΦ
    · omega
  | succ n ih =>
    intro j hj
    have ih := ih (j + 1) (by omega)
    have hs := sumF_in (f := fun j => if rdsB h p j = true then 4 else 0) (B := 4) (fun i => by split <;> omega) j
    rw [sumF] at ih
    refine r_iload_n 5 dX2_quartersRead_4 rfl rfl ?_
    refine r_bipush 7 dX2_quartersRead_5 rfl rfl (by decide) ?_
    refine r_icmp_ge 32 10 dX2_quartersRead_7 (by decide) rfl (fun c_7 => ?_) (fun c_7 => ?_)
    rotate_left -- leaf: pc 32
    refine r_iload_n 11 dX2_quartersRead_10 rfl rfl ?_
    refine r_aload_n 12 dX2_quartersRead_11 rfl rfl ?_
    refine r_iload_n 13 dX2_quartersRead_12 rfl rfl ?_
    rotate_left -- leaf: call at pc 13
    · omega
    refine r_cv1 16 dX2_quartersRead_13 rfl kv_2_70 (by first | assumption | omega) (by assumption) rfl rfl (c_readsIn ly0 j (by omega)) ?_
    rintro r h' ⟨rfl, rfl⟩
    refine r_if_eq 23 19 dX2_quartersRead_16 (by decide) rfl (fun c_16 => ?_) (fun c_16 => ?_)
    refine r_iconst 24 dX2_quartersRead_23 rfl rfl ?_
    refine r_iadd 25 dX2_quartersRead_24 rfl (by first | exact w32_id (by omega) (by omega) | rfl) ?_
    refine r_istore_n 26 dX2_quartersRead_25 rfl rfl rfl ?_
    refine r_iinc 29 _ dX2_quartersRead_26 rfl rfl rfl rfl (by first | exact w32_id (by omega) (by omega) | rfl) ?_
    refine r_goto 4 dX2_quartersRead_29 (by decide) ?_
    rotate_left -- leaf: pc 4
    refine r_iconst 20 dX2_quartersRead_19 rfl rfl ?_
    refine r_goto 24 dX2_quartersRead_20 (by decide) ?_
    refine r_iadd 25 dX2_quartersRead_24 rfl (by first | exact w32_id (by omega) (by omega) | rfl) ?_
    refine r_istore_n 26 dX2_quartersRead_25 rfl rfl rfl ?_
    refine r_iinc 29 _ dX2_quartersRead_26 rfl rfl rfl rfl (by first | exact w32_id (by omega) (by omega) | rfl) ?_
    refine r_goto 4 dX2_quartersRead_29 (by decide) ?_
    rotate_left -- leaf: pc 4
    · rw [if_neg (fun z => z01_n.mp c_16 (rdsB_t.mp z))] at ih
      exact ih
    · rw [if_pos (rdsB_t.mpr (z01_y.mp c_16))] at ih
      exact ih
theorem c_quartersRead (ly : LT G p) : Ca l G 2 mX2_quartersRead [vR p] h (fun r h' => r = some (vI (sumF (fun j => if rdsB h p j = true then 4 else 0) 12)) ∧ h' = h) := by
  refine Ca.of (by decide) (Nat.le_of_ble_eq_true rfl) (fun hI hv hH => ?_)
  refine r_iconst 1 dX2_quartersRead_0 rfl rfl ?_
  refine r_istore_n 2 dX2_quartersRead_1 rfl rfl rfl ?_
  refine r_iconst 3 dX2_quartersRead_2 rfl rfl ?_
  refine r_istore_n 4 dX2_quartersRead_3 rfl rfl rfl ?_
  rotate_left -- leaf: pc 4
  exact l_quarters (l := l) ly (Φ := fun r h' => r = some (vI (sumF (fun j => if rdsB h p j = true then 4 else 0) 12)) ∧ h' = h) ⟨rfl, rfl⟩ 12 0 rfl
end TW
