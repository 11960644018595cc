/-! what only a Town's own numbers decide; mostLeft, ask, drift -/
def eqR (p : Nat) (X Y : zH) : Prop := (∀ b, 6 ≤ b → b ≤ 9 → X p b = Y p b) ∧ (∀ i b, 1 ≤ i → i ≤ 6 → b < tlen i → X (p + i) b = Y (p + i) b)
theorem eqR_tr {p : Nat} {X Y Z : zH} (e : eqR p X Y) (f : eqR p Y Z) : eqR p X Z := ⟨fun b h1 h2 => (e.1 b h1 h2).trans (f.1 b h1 h2), fun i b h1 h2 h3 => (e.2 i b h1 h2 h3).trans (f.2 i b h1 h2 h3)⟩
theorem eqR_sy {p : Nat} {X Y : zH} (e : eqR p X Y) : eqR p Y X := ⟨fun b h1 h2 => (e.1 b h1 h2).symm, fun i b h1 h2 h3 => (e.2 i b h1 h2 h3).symm⟩
theorem eqR_of {p : Nat} {X Y : zH} (e : ∀ a b, p ≤ a → a ≤ p + 6 → X a b = Y a b) : eqR p X Y := ⟨fun b _ _ => e _ _ (by omega) (by omega), fun i b _ _ _ => e _ _ (by omega) (by omega)⟩
theorem eqR_up {p k j : Nat} {v : Int} {X Y : zH} (e : eqR p X Y) : eqR p (up X k j v) (up Y k j v) := by
  refine ⟨fun b h1 h2 => ?_, fun i b h1 h2 h3 => ?_⟩
  · unfold up; split
    · rfl
    · exact e.1 b h1 h2
  · unfold up; split
    · rfl
    · exact e.2 i b h1 h2 h3
theorem srch_cong {F F' : Nat → Int} : ∀ n j, (∀ k, k < j + n → F k = F' k) → srch F n j = srch F' n j
  | 0, _, _ => rfl
  | n + 1, j, h => by
    unfold srch
    rw [h j (by omega), srch_cong n (j + 1) (fun k hk => h k (by omega))]
theorem sumF_cong {F F' : Nat → Int} : ∀ n, (∀ k, k < n → F k = F' k) → sumF F n = sumF F' n
  | 0, _ => rfl
  | n + 1, h => by unfold sumF; rw [h n (by omega), sumF_cong n (fun k hk => h k (by omega))]
theorem stoodF_cong {s t : Nat → Int} : ∀ n, (∀ k, k ≤ n → s k = t k) → stoodF s n = stoodF t n
  | 0, _ => rfl
  | n + 1, h => by unfold stoodF; rw [h (n + 1) (by omega), h n (by omega), stoodF_cong n (fun k hk => h k (by omega))]
theorem fiF_eqR {p j : Nat} {X Y : zH} {due : Int} (e : eqR p X Y) (hj : j < 12) : fiF X p j due = fiF Y p j due := by
  unfold fiF rdsB
  rw [e.2 3 j (by omega) (by omega) hj, e.2 6 j (by omega) (by omega) hj, e.1 8 (by omega) (by omega)]
theorem dnA_eqR {p i : Nat} {X Y : zH} (e : eqR p X Y) (hi : i < 5) : dnA X p i = dnA Y p i := by
  unfold dnA
  rw [e.2 4 i (by omega) (by omega) hi]
  exact srch_cong 12 0 (fun k hk => fiF_eqR e (by omega))
theorem hmA_eqR {p : Nat} {X Y : zH} (e : eqR p X Y) (h5 : X p 7 ≤ 5) : hmA X p = hmA Y p := by
  unfold hmA
  rw [← e.1 7 (by omega) (by omega)]
  refine sumF_cong _ (fun k hk => ?_)
  unfold haA
  rw [e.2 5 k (by omega) (by omega) (show k < 5 by omega), e.2 4 k (by omega) (by omega) (show k < 5 by omega), dnA_eqR e (by omega)]
theorem reb_eqR {p : Nat} {X Y : zH} (e : eqR p X Y) (h4 : X p 6 ≤ 4) : eqR p (reb p X) (reb p Y) := by
  refine ⟨fun b h1 h2 => ?_, fun i b h1 h2 h3 => ?_⟩
  · rw [reb_n (by omega), reb_n (by omega)]; exact e.1 b h1 h2
  · by_cases q : i = 6
    · subst q
      have hb : b < 12 := h3
      unfold reb
      rw [setB_i hb, setB_i hb]
      unfold bendF
      rw [← e.1 6 (by omega) (by omega), ← e.1 9 (by omega) (by omega), ← e.2 3 b (by omega) (by omega) hb]
      split
      · rename_i c
        rw [e.2 1 (X (p + 3) b).toNat (by omega) (by omega) (show (X (p + 3) b).toNat < 4 by omega), e.2 2 (X (p + 3) b).toNat (by omega) (by omega) (show (X (p + 3) b).toNat < 4 by omega), stoodF_cong b (fun k hk => e.2 3 k (by omega) (by omega) (show k < 12 by omega))]
      · rfl
    · rw [reb_n (by omega), reb_n (by omega)]; exact e.2 i b h1 h2 h3
theorem cpT_eqR {p q : Nat} {X Y : zH} (e : ∀ a b, q ≤ a → a ≤ q + 6 → X a b = Y a b) : eqR p (cpT X q p) (cpT Y q p) := by
  refine ⟨fun b h1 h2 => ?_, fun i b h1 h2 h3 => ?_⟩
  · rw [cpT_f ⟨h1, h2⟩, cpT_f ⟨h1, h2⟩]; exact e _ _ (by omega) (by omega)
  · rw [cpT_r i ⟨h1, h2⟩ h3, cpT_r i ⟨h1, h2⟩ h3]; exact e _ _ (by omega) (by omega)
theorem sxV_scr {h H : zH} {k m i : Nat} {v : Int} (w : wX h) (hs : scr h H) (hk : 9 ≤ k) (hi : i < 5) : sxV H k m i v = sxV h k m i v := by
  unfold sxV
  refine dnA_eqR (reb_eqR (eqR_up (cpT_eqR (fun a b _ _ => hs.1 a b (by omega) (by omega)))) ?_) hi
  rw [up_k (by omega), cpT_f (by omega), hs.1 1 6 (by omega) (by omega)]
  exact w.1.1.1.2
def cntB (c : Nat → Bool) : Nat → Int
  | 0 => 0
  | n + 1 => cntB c n + (if c n = true then 1 else 0)
theorem cntB_in (c : Nat → Bool) : ∀ n : Nat, 0 ≤ cntB c n ∧ cntB c n ≤ n
  | 0 => by simp [cntB]
  | n + 1 => by
    have := cntB_in c n
    unfold cntB
    split <;> omega
theorem cntB_cong {c d : Nat → Bool} : ∀ n, (∀ j, j < n → c j = d j) → cntB c n = cntB d n
  | 0, _ => rfl
  | n + 1, h => by rw [cntB, cntB, cntB_cong n (fun j hj => h j (by omega)), h n (by omega)]
/-- how many are left at most, of the possible ones -/
def mlF (d : Nat → Int) (P : Nat) : Nat → Int
  | 0 => 0
  | n + 1 => if bitI P n = 0 then mlF d P n else (if mlF d P n < 1 + cntB (fun b => decide (bitI P b = 1 ∧ d b = d n)) n then 1 + cntB (fun b => decide (bitI P b = 1 ∧ d b = d n)) n else mlF d P n)
theorem mlF_in (d : Nat → Int) (P : Nat) : ∀ n : Nat, 0 ≤ mlF d P n ∧ mlF d P n ≤ n
  | 0 => by simp [mlF]
  | n + 1 => by
    have := mlF_in d P n
    have := cntB_in (fun b => decide (bitI P b = 1 ∧ d b = d n)) n
    unfold mlF
    split
    · omega
    · split <;> omega
-- Integer.bitCount
def z_iushr (x y : Int) : Int := ((Int32.ofInt x).toUInt32 >>> ((Int32.ofInt y).toUInt32 &&& Int32.toUInt32 31)).toInt32.toInt
section RI
variable {l : Launch} {G : zG} {d : Nat} {M : zM} {Φ : Option zV → zH → Prop} {pc : Nat} {ls : List (Option zV)} {st : List zV} {h : zH}
theorem r_iushr (np : Nat) {x y : Int} (hd : decode M.2.1 pc = .ok (.iushr, 1)) (hn : pc + 1 = np) (k : Rr l G d M Φ np ls (vI (z_iushr x y) :: st) h) : Rr l G d M Φ pc ls (vI y :: vI x :: st) h := by
  subst hn
  intro p e s m args below meth c H locs lc C hl hP hS hk
  have ev : ((Int32.ofInt x).toUInt32 >>> ((Int32.ofInt y).toUInt32 &&& Int32.toUInt32 31)).toInt32 = Int32.ofInt (z_iushr x y) := by rw [z_iushr, Int32.ofInt_toInt]
  refine lv_iushr C.1 C.2.1 hd ev ?_
  exact k p e s m args below meth c H locs lc C hl hP hS ⟨hk.1, ok_c (v := vI _) ⟨by have := Int32.le_toInt ((Int32.ofInt x).toUInt32 >>> ((Int32.ofInt y).toUInt32 &&& Int32.toUInt32 31)).toInt32; unfold z_iushr; omega, by have := Int32.toInt_lt ((Int32.ofInt x).toUInt32 >>> ((Int32.ofInt y).toUInt32 &&& Int32.toUInt32 31)).toInt32; unfold z_iushr; omega⟩ (ok_tl (ok_tl hk.2.1)), hk.2.2⟩
theorem r_ldcw (np : Nat) {i : Nat} (v : Int) (hd : decode M.2.1 pc = .ok (.ldc_w i, 3)) (hn : pc + 3 = np) (hw : Cond.constant M.1.cls i (Int32.ofInt v) ∈ ww) (hr : b32 v = true) (k : Rr l G d M Φ np ls (vI v :: st) h) : Rr l G d M Φ pc ls st h := by
  subst hn
  intro p e s m args below meth c H locs lc C hl hP hS hk
  refine lv_ldcw C.1 C.2.1 C.2.2.2.2.1 (mc_w C hw) hd ?_
  exact k p e s m args below meth c H locs lc C hl hP hS ⟨hk.1, ok_c (b32_in hr) hk.2.1, hk.2.2⟩
end RI
def mJ6_bitCount : zM := (yJ6_bitCount_0f7a4, cJ6_bitCount_0f7a4, 1, some .int)
theorem kq_J6_1 : Cond.constant RJ6 265 (Int32.ofInt 1431655765) ∈ ww := by decide +kernel
theorem kq_J6_2 : Cond.constant RJ6 266 (Int32.ofInt 858993459) ∈ ww := by decide +kernel
theorem kq_J6_3 : Cond.constant RJ6 267 (Int32.ofInt 252645135) ∈ ww := by decide +kernel
theorem ks_J6 : CS RX3 223 mJ6_bitCount 1 := ⟨⟨by decide +kernel, by decide +kernel, by decide +kernel⟩, (show Cond.code yJ6_bitCount_0f7a4 cJ6_bitCount_0f7a4 1 (some .int) ∈ ww by decide +kernel), by decide +kernel⟩
def bc1 (x : Int) : Int := w32 (x - z_iand (z_iushr x 1) 1431655765)
def bc2 (x : Int) : Int := w32 (z_iand x 858993459 + z_iand (z_iushr x 2) 858993459)
def bc3 (x : Int) : Int := z_iand (w32 (x + z_iushr x 4)) 252645135
def bc4 (x : Int) : Int := w32 (x + z_iushr x 8)
def bc5 (x : Int) : Int := w32 (x + z_iushr x 16)
def bcF (x : Int) : Int := z_iand (bc5 (bc4 (bc3 (bc2 (bc1 x))))) 63
theorem bcF_c : ∀ x : Nat, x < 128 → bcF (x : Int) = cntB (fun b => decide (bitI (x : Int) b = 1)) 7 := by decide +kernel
section SX
variable {l : Launch} {G : zG} {h : zH}
theorem c_bitCount (x : Int) : Ca l G 0 mJ6_bitCount [vI x] h (fun r h' => r = some (vI (bcF x)) ∧ h' = h) := by
  refine Ca.of (by decide) (Nat.le_of_ble_eq_true rfl) (fun hI hv hH => ?_)
  refine r_iload_n 1 dJ6_bitCount_0f7a4_0 rfl rfl ?_
  refine r_iload_n 2 dJ6_bitCount_0f7a4_1 rfl rfl ?_
  refine r_iconst 3 dJ6_bitCount_0f7a4_2 rfl rfl ?_
  refine r_iushr 4 dJ6_bitCount_0f7a4_3 rfl ?_
  refine r_ldcw 7 1431655765 dJ6_bitCount_0f7a4_4 rfl kq_J6_1 rfl ?_
  refine r_iand 8 dJ6_bitCount_0f7a4_7 rfl rfl ?_
  refine r_isub (v := bc1 x) 9 dJ6_bitCount_0f7a4_8 rfl rfl ?_
  refine r_istore_n 10 dJ6_bitCount_0f7a4_9 rfl rfl rfl ?_
  refine r_iload_n 11 dJ6_bitCount_0f7a4_10 rfl rfl ?_
  refine r_ldcw 14 858993459 dJ6_bitCount_0f7a4_11 rfl kq_J6_2 rfl ?_
  refine r_iand 15 dJ6_bitCount_0f7a4_14 rfl rfl ?_
  refine r_iload_n 16 dJ6_bitCount_0f7a4_15 rfl rfl ?_
  refine r_iconst 17 dJ6_bitCount_0f7a4_16 rfl rfl ?_
  refine r_iushr 18 dJ6_bitCount_0f7a4_17 rfl ?_
  refine r_ldcw 21 858993459 dJ6_bitCount_0f7a4_18 rfl kq_J6_2 rfl ?_
  refine r_iand 22 dJ6_bitCount_0f7a4_21 rfl rfl ?_
  refine r_iadd (v := bc2 (bc1 x)) 23 dJ6_bitCount_0f7a4_22 rfl rfl ?_
  refine r_istore_n 24 dJ6_bitCount_0f7a4_23 rfl rfl rfl ?_
  refine r_iload_n 25 dJ6_bitCount_0f7a4_24 rfl rfl ?_
  refine r_iload_n 26 dJ6_bitCount_0f7a4_25 rfl rfl ?_
  refine r_iconst 27 dJ6_bitCount_0f7a4_26 rfl rfl ?_
  refine r_iushr 28 dJ6_bitCount_0f7a4_27 rfl ?_
  refine r_iadd 29 dJ6_bitCount_0f7a4_28 rfl rfl ?_
  refine r_ldcw 32 252645135 dJ6_bitCount_0f7a4_29 rfl kq_J6_3 rfl ?_
  refine r_iand (v := bc3 (bc2 (bc1 x))) 33 dJ6_bitCount_0f7a4_32 rfl rfl ?_
  refine r_istore_n 34 dJ6_bitCount_0f7a4_33 rfl rfl rfl ?_
  refine r_iload_n 35 dJ6_bitCount_0f7a4_34 rfl rfl ?_
  refine r_iload_n 36 dJ6_bitCount_0f7a4_35 rfl rfl ?_
  refine r_bipush 38 dJ6_bitCount_0f7a4_36 rfl rfl (by decide) ?_
  refine r_iushr 39 dJ6_bitCount_0f7a4_38 rfl ?_
  refine r_iadd (v := bc4 (bc3 (bc2 (bc1 x)))) 40 dJ6_bitCount_0f7a4_39 rfl rfl ?_
  refine r_istore_n 41 dJ6_bitCount_0f7a4_40 rfl rfl rfl ?_
  refine r_iload_n 42 dJ6_bitCount_0f7a4_41 rfl rfl ?_
  refine r_iload_n 43 dJ6_bitCount_0f7a4_42 rfl rfl ?_
  refine r_bipush 45 dJ6_bitCount_0f7a4_43 rfl rfl (by decide) ?_
  refine r_iushr 46 dJ6_bitCount_0f7a4_45 rfl ?_
  refine r_iadd (v := bc5 (bc4 (bc3 (bc2 (bc1 x))))) 47 dJ6_bitCount_0f7a4_46 rfl rfl ?_
  refine r_istore_n 48 dJ6_bitCount_0f7a4_47 rfl rfl rfl ?_
  refine r_iload_n 49 dJ6_bitCount_0f7a4_48 rfl rfl ?_
  refine r_bipush 51 dJ6_bitCount_0f7a4_49 rfl rfl (by decide) ?_
  refine r_iand (v := bcF x) 52 dJ6_bitCount_0f7a4_51 rfl rfl ?_
  exact r_iret dJ6_bitCount_0f7a4_52 rfl ⟨rfl, rfl⟩
theorem l_mlI (ly : LX G) (m i P : Nat) (hP : P < 128) (mo : Int) (j : Nat) (hj : j < 7) {Φ : Option zV → zH → Prop} (hΦ : Rr l G 5 mX3_mostLeft Φ 110 [some (vR 0), some (vI m), some (vI i), some (vI P), some (vI mo), some (vI j), some (vI (1 + cntB (fun b => decide (bitI P b = 1 ∧ h 44 b = h 44 j)) j)), some (vI j)] [] h) : ∀ (n k : Nat), k + n = j → Rr l G 5 mX3_mostLeft Φ 67 [some (vR 0), some (vI m), some (vI i), some (vI P), some (vI mo), some (vI j), some (vI (1 + cntB (fun b => decide (bitI P b = 1 ∧ h 44 b = h 44 j)) k)), some (vI k)] [] h := by
  obtain ⟨hN, ⟨ly1, ly8, ly16, ly23⟩, ltp, ⟨ls34, ls36, ls38, ls40⟩, ⟨xs0, xs15, xs30, xs33, xs42, xs43, xs44⟩, ⟨xl15, xl30, xl33, xl42, xl43, xl44⟩, ⟨xr0, xr1, xr2, xr3, xr4, xr5, xr6, xr7, xr8⟩, ⟨yr0, yr1⟩, ⟨zr0, zr1, zr2, zr3⟩⟩ := ly
  have xs1 : gs G 1 = 7 := ly1.2.1.1
  have xs8 : gs G 8 = 7 := ly8.2.1.1
  have xs16 : gs G 16 = 7 := ly16.2.1.1
  have xs23 : gs G 23 = 7 := ly23.2.1.1
  have xs31 : gs G 31 = 6 := ltp.2.1.1
  have xs34 : gs G 34 = 5 := ls34.2.1.1
  have xs36 : gs G 36 = 5 := ls36.2.1.1
  have xs38 : gs G 38 = 5 := ls38.2.1.1
  have xs40 : gs G 40 = 5 := ls40.2.1.1
  intro n
  induction n with
  | zero =>
    intro k hk
    obtain rfl : k = j := by omega
    refine r_iload 69 dX3_mostLeft_67 rfl rfl ?_
    refine r_iload 71 dX3_mostLeft_69 rfl rfl ?_
    refine r_icmp_ge 110 74 dX3_mostLeft_71 (by decide) rfl (fun c_71 => ?_) (fun c_71 => ?_)
    rotate_left -- leaf: pc 110
    rotate_left -- leaf: pc 74
    · exact hΦ
    · omega
  | succ n ih =>
    intro k hk
    have ih := ih (k + 1) (by omega)
    have hc := cntB_in (fun b => decide (bitI P b = 1 ∧ h 44 b = h 44 j)) k
    simp only [cntB] at ih
    refine r_iload 69 dX3_mostLeft_67 rfl rfl ?_
    refine r_iload 71 dX3_mostLeft_69 rfl rfl ?_
    refine r_icmp_ge 110 74 dX3_mostLeft_71 (by decide) rfl (fun c_71 => ?_) (fun c_71 => ?_)
    rotate_left -- leaf: pc 110
    refine r_iload_n 75 dX3_mostLeft_74 rfl rfl ?_
    refine r_iload 77 dX3_mostLeft_75 rfl rfl ?_
    refine r_ishr 78 dX3_mostLeft_77 rfl rfl ?_
    refine r_iconst 79 dX3_mostLeft_78 rfl rfl ?_
    refine r_iand 80 dX3_mostLeft_79 rfl rfl ?_
    refine r_iconst 81 dX3_mostLeft_80 rfl rfl ?_
    refine r_icmp_ne 104 84 dX3_mostLeft_81 (by decide) rfl (fun c_81 => ?_) (fun c_81 => ?_)
    refine r_iinc 107 _ dX3_mostLeft_104 rfl rfl rfl rfl (by first | exact w32_id (by omega) (by omega) | rfl) ?_
    refine r_goto 67 dX3_mostLeft_107 (by decide) ?_
    rotate_left -- leaf: pc 67
    refine r_aload_n 85 dX3_mostLeft_84 rfl rfl ?_
    refine r_getR 88 dX3_mostLeft_85 rfl kf_3_47 rfl (by first | assumption | omega) (by assumption) (by assumption) ?_
    refine r_iload 90 dX3_mostLeft_88 rfl rfl ?_
    refine r_iald 91 dX3_mostLeft_90 rfl (by first | assumption | omega) (by assumption) (by first | omega | (simp only [Int.toNat_natCast]; omega)) (by first | omega | (simp only [Int.toNat_natCast]; omega)) ?_
    refine r_aload_n 92 dX3_mostLeft_91 rfl rfl ?_
    refine r_getR 95 dX3_mostLeft_92 rfl kf_3_47 rfl (by first | assumption | omega) (by assumption) (by assumption) ?_
    refine r_iload 97 dX3_mostLeft_95 rfl rfl ?_
    refine r_iald 98 dX3_mostLeft_97 rfl (by first | assumption | omega) (by assumption) (by first | omega | (simp only [Int.toNat_natCast]; omega)) (by first | omega | (simp only [Int.toNat_natCast]; omega)) ?_
    refine r_icmp_ne 104 101 dX3_mostLeft_98 (by decide) rfl (fun c_98 => ?_) (fun c_98 => ?_)
    refine r_iinc 107 _ dX3_mostLeft_104 rfl rfl rfl rfl (by first | exact w32_id (by omega) (by omega) | rfl) ?_
    refine r_goto 67 dX3_mostLeft_107 (by decide) ?_
    rotate_left -- leaf: pc 67
    refine r_iinc 104 _ dX3_mostLeft_101 rfl rfl rfl rfl (by first | exact w32_id (by omega) (by omega) | rfl) ?_
    refine r_iinc 107 _ dX3_mostLeft_104 rfl rfl rfl rfl (by first | exact w32_id (by omega) (by omega) | rfl) ?_
    refine r_goto 67 dX3_mostLeft_107 (by decide) ?_
    rotate_left -- leaf: pc 67
    · omega
    · rw [z_bit ⟨by omega, by omega⟩ (by omega)] at c_81
      rw [if_neg (by rw [decide_eq_true_iff]; exact fun z => c_81 z.1), Int.add_zero] at ih
      exact ih
    · rw [Int.toNat_natCast, Int.toNat_natCast] at c_98
      rw [if_neg (by rw [decide_eq_true_iff]; exact fun z => c_98 z.2), Int.add_zero] at ih
      exact ih
    · rw [z_bit ⟨by omega, by omega⟩ (by omega)] at c_81
      rw [Int.toNat_natCast, Int.toNat_natCast] at c_98
      rw [if_pos (by rw [decide_eq_true_iff]; exact ⟨c_81, c_98⟩), ← Int.add_assoc] at ih
      exact ih
def eq8 (X Y : zH) : Prop := ∀ a b, 8 ≤ a → a ≤ 14 → X a b = Y a b
theorem eq8_reb {X Y : zH} (e : eq8 X Y) : eq8 (reb 8 X) (reb 8 Y) := by
  have e0 : ∀ i, i < 6 → X (8 + i) = Y (8 + i) := fun i hi => by
    funext b
    exact e _ _ (by omega) (by omega)
  have q0 : X 8 = Y 8 := e0 0 (by decide)
  intro a b h1 h2
  unfold reb setB
  rw [q0, e0 1 (by decide), e0 2 (by decide), e0 3 (by decide)]
  split
  · rfl
  · exact e a b h1 h2
theorem l_mlO (ly : LX G) (w : wX h) (m i P : Nat) (hm : (m : Int) < h 1 6) (hi : i < 5) (hP : P < 128) {Φ : Option zV → zH → Prop} (hΦ : ∀ h', scr h h' → Φ (some (vI (mlF (fun v => sxV h (8 + 2) m i (v : Int)) P 7))) h') : ∀ (n j : Nat) (x6 x7 : Option zV) (H : zH), j + n = 7 → (∀ v, eq8 (reb 8 (up H (8 + 2) m v)) (reb 8 (up (cpT h 1 8) (8 + 2) m v))) → scr h H → (∀ b : Nat, b < j → bitI P b = 1 → H 44 b = sxV h (8 + 2) m i (b : Int)) → Rr l G 5 mX3_mostLeft Φ 17 [some (vR 0), some (vI m), some (vI i), some (vI P), some (vI (mlF (fun v => sxV h (8 + 2) m i (v : Int)) P j)), some (vI j), x6, x7] [] H := by
  have lX0 := ly
  have wX0 := w
  obtain ⟨hN, ⟨ly1, ly8, ly16, ly23⟩, ltp, ⟨ls34, ls36, ls38, ls40⟩, ⟨xs0, xs15, xs30, xs33, xs42, xs43, xs44⟩, ⟨xl15, xl30, xl33, xl42, xl43, xl44⟩, ⟨xr0, xr1, xr2, xr3, xr4, xr5, xr6, xr7, xr8⟩, ⟨yr0, yr1⟩, ⟨zr0, zr1, zr2, zr3⟩⟩ := ly
  have xs1 : gs G 1 = 7 := ly1.2.1.1
  have xs8 : gs G 8 = 7 := ly8.2.1.1
  have xs16 : gs G 16 = 7 := ly16.2.1.1
  have xs23 : gs G 23 = 7 := ly23.2.1.1
  have xs31 : gs G 31 = 6 := ltp.2.1.1
  have xs34 : gs G 34 = 5 := ls34.2.1.1
  have xs36 : gs G 36 = 5 := ls36.2.1.1
  have xs38 : gs G 38 = 5 := ls38.2.1.1
  have xs40 : gs G 40 = 5 := ls40.2.1.1
  obtain ⟨⟨w1, w8, w16, w23⟩, wp, wsn, ws42, ws43, wk, ⟨wh34, wh36, wh38, wh40⟩, wt⟩ := w
  have ly1' := ly1
  obtain ⟨⟨tn0, tn1, tn2, tn3, tn4, tn5, tn6⟩, ⟨ts0, ts1, ts2, ts3, ts4, ts5, ts6⟩, ⟨tr0, tr1, tr2, tr3, tr4, tr5⟩, ⟨tl1, tl2, tl3, tl4, tl5, tl6⟩⟩ := ly1'
  have w1' := w1
  obtain ⟨tw1, tw2, tw3, tw4, tw5, tw6, tw7, tw8, tw9, tw10⟩ := w1'
  intro n
  induction n with
  | zero =>
    intro j x6 x7 H hj he hs hd
    obtain rfl : j = 7 := by omega
    have hΦ := hΦ H hs
    refine r_iload 19 dX3_mostLeft_17 rfl rfl ?_
    refine r_bipush 21 dX3_mostLeft_19 rfl rfl (by decide) ?_
    refine r_icmp_ge 125 24 dX3_mostLeft_21 (by decide) rfl (fun c_21 => ?_) (fun c_21 => ?_)
    refine r_iload 127 dX3_mostLeft_125 rfl rfl ?_
    refine r_iret dX3_mostLeft_127 rfl ?_
    rotate_left -- leaf: return at pc 127
    rotate_left -- leaf: pc 24
    · exact hΦ
    · omega
  | succ n ih =>
    intro j x6 x7 H hj he hs hd
    have hwn := wT_up2 (m := m) (v := (j : Int)) hs.2 (by omega)
    have hv : dnA (reb 8 (up H (8 + 2) m (j : Int))) 8 i = sxV h (8 + 2) m i (j : Int) := dnA_eqR (eqR_of (he (j : Int))) hi
    have hs' : scr h (up (reb 8 (up H (8 + 2) m (j : Int))) 44 j (sxV h (8 + 2) m i (j : Int))) := ⟨fun a b q1 q2 => by rw [up_k q2, reb_in (by omega), up_k (by omega)]; exact hs.1 a b q1 q2, wT_cong (fun a b q1 q2 => up_k (by omega)) (wT_reb hwn)⟩
    have he' : ∀ v, eq8 (reb 8 (up (up (reb 8 (up H (8 + 2) m (j : Int))) 44 j (sxV h (8 + 2) m i (j : Int))) (8 + 2) m v)) (reb 8 (up (cpT h 1 8) (8 + 2) m v)) := fun v a b h1 h2 => by
      rw [← he v a b h1 h2]
      have e1 : reb 8 (up (reb 8 (up H (8 + 2) m (j : Int))) (8 + 2) m v) = reb 8 (up H (8 + 2) m v) := reb_cong (eqB_tr (eqB_up eqB_reb) (by rw [up_up]; exact eqB_rf))
      rw [← e1]
      refine eq8_reb (fun a b h1 h2 => ?_) a b h1 h2
      unfold up
      split
      · rfl
      · rw [if_neg (by omega)]
    have hd' : ∀ b : Nat, b < j + 1 → bitI P b = 1 → up (reb 8 (up H (8 + 2) m (j : Int))) 44 j (sxV h (8 + 2) m i (j : Int)) 44 b = sxV h (8 + 2) m i (b : Int) := fun b hb hbit => by
      by_cases e : b = j
      · subst e; rw [up_s]
      · rw [up_j e, reb_in (by omega), up_k (by omega)]; exact hd b (by omega) hbit
    have hml := mlF_in (fun v => sxV h (8 + 2) m i (v : Int)) P j
    refine r_iload 19 dX3_mostLeft_17 rfl rfl ?_
    refine r_bipush 21 dX3_mostLeft_19 rfl rfl (by decide) ?_
    refine r_icmp_ge 125 24 dX3_mostLeft_21 (by decide) rfl (fun c_21 => ?_) (fun c_21 => ?_)
    refine r_iload 127 dX3_mostLeft_125 rfl rfl ?_
    refine r_iret dX3_mostLeft_127 rfl ?_
    rotate_left -- leaf: return at pc 127
    refine r_iload_n 25 dX3_mostLeft_24 rfl rfl ?_
    refine r_iload 27 dX3_mostLeft_25 rfl rfl ?_
    refine r_ishr 28 dX3_mostLeft_27 rfl rfl ?_
    refine r_iconst 29 dX3_mostLeft_28 rfl rfl ?_
    refine r_iand 30 dX3_mostLeft_29 rfl rfl ?_
    refine r_if_ne 36 33 dX3_mostLeft_30 (by decide) rfl (fun c_30 => ?_) (fun c_30 => ?_)
    refine r_aload_n 37 dX3_mostLeft_36 rfl rfl ?_
    refine r_getR 40 dX3_mostLeft_37 rfl kf_3_16 rfl (by first | assumption | omega) (by assumption) (by assumption) ?_
    refine r_iload_n 41 dX3_mostLeft_40 rfl rfl ?_
    refine r_iload 43 dX3_mostLeft_41 rfl rfl ?_
    rotate_left -- leaf: call at pc 43
    refine r_goto 119 dX3_mostLeft_33 (by decide) ?_
    refine r_iinc 122 _ dX3_mostLeft_119 rfl rfl rfl rfl (by first | exact w32_id (by omega) (by omega) | rfl) ?_
    refine r_goto 17 dX3_mostLeft_122 (by decide) ?_
    rotate_left -- leaf: pc 17
    · omega
    · refine r_cv2 46 dX3_mostLeft_43 rfl kv_3_140 (by first | assumption | omega) (by assumption) rfl rfl (c_setLean ly8 m (by omega) (j : Int) hwn) ?_
      rintro r h' ⟨rfl, rfl⟩
      refine r_aload_n 47 dX3_mostLeft_46 rfl rfl ?_
      refine r_getR 50 dX3_mostLeft_47 rfl kf_3_47 rfl (by first | assumption | omega) (by assumption) (by assumption) ?_
      refine r_iload 52 dX3_mostLeft_50 rfl rfl ?_
      refine r_aload_n 53 dX3_mostLeft_52 rfl rfl ?_
      refine r_getR 56 dX3_mostLeft_53 rfl kf_3_16 rfl (by first | assumption | omega) (by assumption) (by assumption) ?_
      refine r_iload_n 57 dX3_mostLeft_56 rfl rfl ?_
      rotate_left -- leaf: call at pc 57
      refine r_cv1 60 dX3_mostLeft_57 rfl kv_3_126 (by first | assumption | omega) (by assumption) rfl rfl (c_doneAt ly8 (wT_reb hwn) i hi) ?_
      rintro r h' ⟨rfl, rfl⟩
      rw [hv]
      refine r_iast 61 dX3_mostLeft_60 rfl (by first | assumption | omega) (by assumption) (by first | omega | (simp only [Int.toNat_natCast]; omega)) (by first | omega | (simp only [Int.toNat_natCast]; omega)) ?_
      refine r_iconst 62 dX3_mostLeft_61 rfl rfl ?_
      refine r_istore 64 dX3_mostLeft_62 rfl rfl rfl ?_
      refine r_iconst 65 dX3_mostLeft_64 rfl rfl ?_
      refine r_istore 67 dX3_mostLeft_65 rfl rfl rfl ?_
      rotate_left -- leaf: pc 67
      rw [Int.toNat_natCast]
      rw [z_bit ⟨by omega, by omega⟩ (by omega)] at c_30
      have hal : cntB (fun b => decide (bitI P b = 1 ∧ up (reb 8 (up H (8 + 2) m (j : Int))) 44 j (sxV h (8 + 2) m i (j : Int)) 44 b = up (reb 8 (up H (8 + 2) m (j : Int))) 44 j (sxV h (8 + 2) m i (j : Int)) 44 j)) j = cntB (fun b => decide (bitI P b = 1 ∧ sxV h (8 + 2) m i (b : Int) = sxV h (8 + 2) m i (j : Int))) j := by
        refine cntB_cong j (fun b hb => ?_)
        rw [up_s, decide_eq_decide]
        constructor
        · rintro ⟨q1, q2⟩; exact ⟨q1, by rw [← hd' b (by omega) q1]; exact q2⟩
        · rintro ⟨q1, q2⟩; exact ⟨q1, by rw [hd' b (by omega) q1]; exact q2⟩
      refine l_mlI (l := l) lX0 m i P hP _ j (by omega) ?_ j 0 (by omega)
      rw [hal]
      have hc := cntB_in (fun b => decide (bitI P b = 1 ∧ sxV h (8 + 2) m i (b : Int) = sxV h (8 + 2) m i (j : Int))) j
      have ih := ih (j + 1) (some (vI (1 + cntB (fun b => decide (bitI P b = 1 ∧ sxV h (8 + 2) m i (b : Int) = sxV h (8 + 2) m i (j : Int))) j))) (some (vI j)) _ (by omega) he' hs' hd'
      rw [mlF, if_neg c_30] at ih
      refine r_iload 112 dX3_mostLeft_110 rfl rfl ?_
      refine r_iload 114 dX3_mostLeft_112 rfl rfl ?_
      refine r_max 117 dX3_mostLeft_114 rfl kx_3_230 rfl rfl ?_
      refine r_istore 119 dX3_mostLeft_117 rfl rfl rfl ?_
      refine r_iinc 122 _ dX3_mostLeft_119 rfl rfl rfl rfl (by first | exact w32_id (by omega) (by omega) | rfl) ?_
      refine r_goto 17 dX3_mostLeft_122 (by decide) ?_
      rotate_left -- leaf: pc 17
      exact ih
    · rw [z_bit ⟨by omega, by omega⟩ (by omega)] at c_30
      have ih := ih (j + 1) x6 x7 H (by omega) he hs (fun b hb hbit => by
        by_cases e : b = j
        · subst e; omega
        · exact hd b (by omega) hbit)
      rw [mlF, if_pos c_30] at ih
      exact ih
theorem c_mostLeft (ly : LX G) (w : wX h) (m i P : Nat) (hm : (m : Int) < h 1 6) (hi : i < 5) (hP : P < 128) : Ca l G 5 mX3_mostLeft [vR 0, vI m, vI i, vI P] h (fun r h' => r = some (vI (mlF (fun v => sxV h (8 + 2) m i (v : Int)) P 7)) ∧ scr h h') := by
  have lX0 := ly
  have wX0 := w
  obtain ⟨hN, ⟨ly1, ly8, ly16, ly23⟩, ltp, ⟨ls34, ls36, ls38, ls40⟩, ⟨xs0, xs15, xs30, xs33, xs42, xs43, xs44⟩, ⟨xl15, xl30, xl33, xl42, xl43, xl44⟩, ⟨xr0, xr1, xr2, xr3, xr4, xr5, xr6, xr7, xr8⟩, ⟨yr0, yr1⟩, ⟨zr0, zr1, zr2, zr3⟩⟩ := ly
  have xs1 : gs G 1 = 7 := ly1.2.1.1
  have xs8 : gs G 8 = 7 := ly8.2.1.1
  have xs16 : gs G 16 = 7 := ly16.2.1.1
  have xs23 : gs G 23 = 7 := ly23.2.1.1
  have xs31 : gs G 31 = 6 := ltp.2.1.1
  have xs34 : gs G 34 = 5 := ls34.2.1.1
  have xs36 : gs G 36 = 5 := ls36.2.1.1
  have xs38 : gs G 38 = 5 := ls38.2.1.1
  have xs40 : gs G 40 = 5 := ls40.2.1.1
  obtain ⟨⟨w1, w8, w16, w23⟩, wp, wsn, ws42, ws43, wk, ⟨wh34, wh36, wh38, wh40⟩, wt⟩ := w
  refine Ca.of (by decide) (Nat.le_of_ble_eq_true rfl) (fun hI hv hH => ?_)
  refine r_aload_n 1 dX3_mostLeft_0 rfl rfl ?_
  refine r_getR 4 dX3_mostLeft_1 rfl kf_3_16 rfl (by first | assumption | omega) (by assumption) (by assumption) ?_
  refine r_aload_n 5 dX3_mostLeft_4 rfl rfl ?_
  refine r_getR 8 dX3_mostLeft_5 rfl kf_3_10 rfl (by first | assumption | omega) (by assumption) (by assumption) ?_
  rotate_left -- leaf: call at pc 8
  refine r_cv1 11 dX3_mostLeft_8 rfl kv_3_69 (by first | assumption | omega) (by assumption) rfl rfl (c_copyOf ly8 ly1 (by omega)) ?_
  rintro r h' ⟨rfl, rfl⟩
  refine r_iconst 12 dX3_mostLeft_11 rfl rfl ?_
  refine r_istore 14 dX3_mostLeft_12 rfl rfl rfl ?_
  refine r_iconst 15 dX3_mostLeft_14 rfl rfl ?_
  refine r_istore 17 dX3_mostLeft_15 rfl rfl rfl ?_
  rotate_left -- leaf: pc 17
  exact l_mlO (l := l) lX0 wX0 m i P hm hi hP (Φ := fun r h' => r = some (vI (mlF (fun v => sxV h (8 + 2) m i (v : Int)) P 7)) ∧ scr h h') (fun h3 q => ⟨rfl, q⟩) 7 0 none none _ rfl (fun _ _ _ _ _ => rfl) (scr_cpT w1 w8) (fun b hb => absurd hb (by omega))
def akV (h : zH) (m P i : Nat) : Int := mlF (fun v => sxV h (8 + 2) m i (v : Int)) P 7
def akP (h : zH) (m : Nat) : Nat := orN (asS h (8 + 2) m) 7
def akB (P : Nat) : Int := cntB (fun b => decide (bitI (P : Int) b = 1)) 7
def qAsk (m x : Int) (h : zH) : Int := if ¬ ((0 ≤ m ∧ m < h 1 6) ∧ (x = 0 ∨ x = 1)) then -1 else soA x (miF (akV h m.toNat (akP h m.toNat)) (-4) (akB (akP h m.toNat)) (h 1 7).toNat)
theorem l_ask (ly : LX G) (w : wX h) (m P : Nat) (hm : (m : Int) < h 1 6) (hP : P < 128) (x : Int) {Φ : Option zV → zH → Prop} (hΦ : ∀ h', scr h h' → Φ (some (vI (soA x (miF (akV h m P) (-4) (akB P) (h 1 7).toNat)))) h') : ∀ (n j : Nat) (x7 : Option zV) (H : zH), j + n = (h 1 7).toNat → scr h H → Rr l G 6 mX3_ask Φ 39 [some (vR 0), some (vI m), some (vI x), some (vI P), some (vI (miF (akV h m P) (-4) (akB P) j).1), some (vI (miF (akV h m P) (-4) (akB P) j).2), some (vI j), x7] [] H := by
  have lX0 := ly
  have wX0 := w
  obtain ⟨hN, ⟨ly1, ly8, ly16, ly23⟩, ltp, ⟨ls34, ls36, ls38, ls40⟩, ⟨xs0, xs15, xs30, xs33, xs42, xs43, xs44⟩, ⟨xl15, xl30, xl33, xl42, xl43, xl44⟩, ⟨xr0, xr1, xr2, xr3, xr4, xr5, xr6, xr7, xr8⟩, ⟨yr0, yr1⟩, ⟨zr0, zr1, zr2, zr3⟩⟩ := ly
  have xs1 : gs G 1 = 7 := ly1.2.1.1
  have xs8 : gs G 8 = 7 := ly8.2.1.1
  have xs16 : gs G 16 = 7 := ly16.2.1.1
  have xs23 : gs G 23 = 7 := ly23.2.1.1
  have xs31 : gs G 31 = 6 := ltp.2.1.1
  have xs34 : gs G 34 = 5 := ls34.2.1.1
  have xs36 : gs G 36 = 5 := ls36.2.1.1
  have xs38 : gs G 38 = 5 := ls38.2.1.1
  have xs40 : gs G 40 = 5 := ls40.2.1.1
  obtain ⟨⟨w1, w8, w16, w23⟩, wp, wsn, ws42, ws43, wk, ⟨wh34, wh36, wh38, wh40⟩, wt⟩ := w
  have ly1' := ly1
  obtain ⟨⟨tn0, tn1, tn2, tn3, tn4, tn5, tn6⟩, ⟨ts0, ts1, ts2, ts3, ts4, ts5, ts6⟩, ⟨tr0, tr1, tr2, tr3, tr4, tr5⟩, ⟨tl1, tl2, tl3, tl4, tl5, tl6⟩⟩ := ly1'
  have w1' := w1
  obtain ⟨tw1, tw2, tw3, tw4, tw5, tw6, tw7, tw8, tw9, tw10⟩ := w1'
  intro n
  induction n with
  | zero =>
    intro j x7 H hj hs
    have hΦ := hΦ H hs
    rw [← hj, Nat.add_zero] at hΦ
    have e7 : H 1 7 = h 1 7 := hs.1 1 7 (by omega) (by omega)
    refine r_iload 41 dX3_ask_39 rfl rfl ?_
    refine r_aload_n 42 dX3_ask_41 rfl rfl ?_
    refine r_getR 45 dX3_ask_42 rfl kf_3_10 rfl (by first | assumption | omega) (by assumption) (by assumption) ?_
    refine r_getI 48 dX3_ask_45 rfl kf_3_79 rfl (by first | assumption | omega) (by assumption) ?_
    rotate_left -- leaf: pc 48
    rw [e7]
    refine r_icmp_ge 82 51 dX3_ask_48 (by decide) rfl (fun c_48 => ?_) (fun c_48 => ?_)
    refine r_iload_n 83 dX3_ask_82 rfl rfl ?_
    refine r_if_eq 93 86 dX3_ask_83 (by decide) rfl (fun c_83 => ?_) (fun c_83 => ?_)
    refine r_iload 95 dX3_ask_93 rfl rfl ?_
    refine r_goto 100 dX3_ask_95 (by decide) ?_
    refine r_iret dX3_ask_100 rfl ?_
    rotate_left -- leaf: return at pc 100
    refine r_iload 88 dX3_ask_86 rfl rfl ?_
    refine r_bipush 90 dX3_ask_88 rfl rfl (by decide) ?_
    refine r_icmp_ne 98 93 dX3_ask_90 (by decide) rfl (fun c_90 => ?_) (fun c_90 => ?_)
    refine r_iload 100 dX3_ask_98 rfl rfl ?_
    refine r_iret dX3_ask_100 rfl ?_
    rotate_left -- leaf: return at pc 100
    refine r_iload 95 dX3_ask_93 rfl rfl ?_
    refine r_goto 100 dX3_ask_95 (by decide) ?_
    refine r_iret dX3_ask_100 rfl ?_
    rotate_left -- leaf: return at pc 100
    rotate_left -- leaf: pc 51
    · unfold soA at hΦ
      rw [if_pos (Or.inl c_83)] at hΦ
      exact hΦ
    · unfold soA at hΦ
      rw [if_neg (by omega)] at hΦ
      exact hΦ
    · unfold soA at hΦ
      rw [if_pos (Or.inr c_90)] at hΦ
      exact hΦ
    · omega
  | succ n ih =>
    intro j x7 H hj hs
    have e7 : H 1 7 = h 1 7 := hs.1 1 7 (by omega) (by omega)
    have e6 : H 1 6 = h 1 6 := hs.1 1 6 (by omega) (by omega)
    have ev : mlF (fun v => sxV H (8 + 2) m j (v : Int)) P 7 = akV h m P j := by
      unfold akV
      congr 1
      funext v
      exact sxV_scr wX0 hs (by omega) (by omega)
    refine r_iload 41 dX3_ask_39 rfl rfl ?_
    refine r_aload_n 42 dX3_ask_41 rfl rfl ?_
    refine r_getR 45 dX3_ask_42 rfl kf_3_10 rfl (by first | assumption | omega) (by assumption) (by assumption) ?_
    refine r_getI 48 dX3_ask_45 rfl kf_3_79 rfl (by first | assumption | omega) (by assumption) ?_
    rotate_left -- leaf: pc 48
    rw [e7]
    refine r_icmp_ge 82 51 dX3_ask_48 (by decide) rfl (fun c_48 => ?_) (fun c_48 => ?_)
    rotate_left -- leaf: pc 82
    refine r_aload_n 52 dX3_ask_51 rfl rfl ?_
    refine r_iload_n 53 dX3_ask_52 rfl rfl ?_
    refine r_iload 55 dX3_ask_53 rfl rfl ?_
    refine r_iload_n 56 dX3_ask_55 rfl rfl ?_
    rotate_left -- leaf: call at pc 56
    · omega
    refine r_cv3 59 dX3_ask_56 rfl kv_3_226 (by first | assumption | omega) (by assumption) rfl rfl (c_mostLeft lX0 (scr_wX wX0 hs) m j P (by rw [e6]; exact hm) (by omega) hP) ?_
    rintro r h' ⟨rfl, q⟩
    rw [ev]
    have ih := ih (j + 1) (some (vI (akV h m P j))) h' (by omega) (scr_tr hs q)
    simp only [miF] at ih
    refine r_istore 61 dX3_ask_59 rfl rfl rfl ?_
    refine r_iload 63 dX3_ask_61 rfl rfl ?_
    refine r_iload 65 dX3_ask_63 rfl rfl ?_
    refine r_icmp_ge 76 68 dX3_ask_65 (by decide) rfl (fun c_65 => ?_) (fun c_65 => ?_)
    refine r_iinc 79 _ dX3_ask_76 rfl rfl rfl rfl (by first | exact w32_id (by omega) (by omega) | rfl) ?_
    refine r_goto 39 dX3_ask_79 (by decide) ?_
    rotate_left -- leaf: pc 39
    refine r_iload 70 dX3_ask_68 rfl rfl ?_
    refine r_istore 72 dX3_ask_70 rfl rfl rfl ?_
    refine r_iload 74 dX3_ask_72 rfl rfl ?_
    refine r_istore 76 dX3_ask_74 rfl rfl rfl ?_
    refine r_iinc 79 _ dX3_ask_76 rfl rfl rfl rfl (by first | exact w32_id (by omega) (by omega) | rfl) ?_
    refine r_goto 39 dX3_ask_79 (by decide) ?_
    rotate_left -- leaf: pc 39
    · rw [if_neg (by omega)] at ih
      exact ih
    · rw [if_pos c_65] at ih
      exact ih
theorem c_ask (ly : LX G) (w : wX h) (m x : Int) : Ca l G 6 mX3_ask [vR 0, vI m, vI x] h (fun r h' => r = some (vI (qAsk m x h)) ∧ scr h h') := by
  have lX0 := ly
  have wX0 := w
  obtain ⟨hN, ⟨ly1, ly8, ly16, ly23⟩, ltp, ⟨ls34, ls36, ls38, ls40⟩, ⟨xs0, xs15, xs30, xs33, xs42, xs43, xs44⟩, ⟨xl15, xl30, xl33, xl42, xl43, xl44⟩, ⟨xr0, xr1, xr2, xr3, xr4, xr5, xr6, xr7, xr8⟩, ⟨yr0, yr1⟩, ⟨zr0, zr1, zr2, zr3⟩⟩ := ly
  have xs1 : gs G 1 = 7 := ly1.2.1.1
  have xs8 : gs G 8 = 7 := ly8.2.1.1
  have xs16 : gs G 16 = 7 := ly16.2.1.1
  have xs23 : gs G 23 = 7 := ly23.2.1.1
  have xs31 : gs G 31 = 6 := ltp.2.1.1
  have xs34 : gs G 34 = 5 := ls34.2.1.1
  have xs36 : gs G 36 = 5 := ls36.2.1.1
  have xs38 : gs G 38 = 5 := ls38.2.1.1
  have xs40 : gs G 40 = 5 := ls40.2.1.1
  obtain ⟨⟨w1, w8, w16, w23⟩, wp, wsn, ws42, ws43, wk, ⟨wh34, wh36, wh38, wh40⟩, wt⟩ := w
  have ly1' := ly1
  obtain ⟨⟨tn0, tn1, tn2, tn3, tn4, tn5, tn6⟩, ⟨ts0, ts1, ts2, ts3, ts4, ts5, ts6⟩, ⟨tr0, tr1, tr2, tr3, tr4, tr5⟩, ⟨tl1, tl2, tl3, tl4, tl5, tl6⟩⟩ := ly1'
  have w1' := w1
  obtain ⟨tw1, tw2, tw3, tw4, tw5, tw6, tw7, tw8, tw9, tw10⟩ := w1'
  refine Ca.of (by decide) (Nat.le_of_ble_eq_true rfl) (fun hI hv hH => ?_)
  unfold qAsk
  refine r_aload_n 1 dX3_ask_0 rfl rfl ?_
  refine r_getR 4 dX3_ask_1 rfl kf_3_10 rfl (by first | assumption | omega) (by assumption) (by assumption) ?_
  refine r_iload_n 5 dX3_ask_4 rfl rfl ?_
  rotate_left -- leaf: call at pc 5
  refine r_cv1 8 dX3_ask_5 rfl kv_3_95 (by first | assumption | omega) (by assumption) rfl rfl (c_hasMan ly1 m) ?_
  rintro r h' ⟨rfl, rfl⟩
  refine r_if_eq 18 11 dX3_ask_8 (by decide) rfl (fun c_8 => ?_) (fun c_8 => ?_)
  refine r_iconst 19 dX3_ask_18 rfl rfl ?_
  refine r_iret dX3_ask_19 rfl ?_
  rotate_left -- leaf: return at pc 19
  refine r_iload_n 12 dX3_ask_11 rfl rfl ?_
  rotate_left -- leaf: call at pc 12
  · rw [if_pos (fun z => z01_n.mp c_8 z.1)]
    exact ⟨rfl, fun _ _ _ _ => rfl, w8⟩
  refine r_cs1 15 dX3_ask_12 rfl ks_3_133 rfl rfl (c_isFS x) ?_
  rintro r h'' ⟨rfl, rfl⟩
  refine r_if_ne 20 18 dX3_ask_15 (by decide) rfl (fun c_15 => ?_) (fun c_15 => ?_)
  refine r_aload_n 21 dX3_ask_20 rfl rfl ?_
  refine r_iload_n 22 dX3_ask_21 rfl rfl ?_
  rotate_left -- leaf: call at pc 22
  refine r_iconst 19 dX3_ask_18 rfl rfl ?_
  refine r_iret dX3_ask_19 rfl ?_
  rotate_left -- leaf: return at pc 19
  · have b1 := z01_y.mp c_8
    rw [if_neg (fun z => z ⟨b1, z01_y.mp c_15⟩)]
    obtain ⟨m, rfl⟩ := Int.eq_ofNat_of_zero_le b1.1
    rw [Int.toNat_natCast]
    refine r_cv1 25 dX3_ask_22 rfl kv_3_216 (by first | assumption | omega) (by assumption) rfl rfl (c_las lX0 wX0 m b1.2) ?_
    rintro r h3 ⟨rfl, q⟩
    refine r_istore_n 26 dX3_ask_25 rfl rfl rfl ?_
    refine r_bipush 28 dX3_ask_26 rfl rfl (by decide) ?_
    refine r_istore 30 dX3_ask_28 rfl rfl rfl ?_
    refine r_iload_n 31 dX3_ask_30 rfl rfl ?_
    rotate_left -- leaf: call at pc 31
    have hP : akP h'' m < 128 := orN_lt _ 7
    refine r_cs1 34 dX3_ask_31 rfl ks_J6 rfl rfl (c_bitCount (orN (asS h'' (8 + 2) m) 7 : Nat)) ?_
    rintro r h4 ⟨rfl, rfl⟩
    rw [bcF_c (orN (asS h'' (8 + 2) m) 7) hP]
    refine r_istore 36 dX3_ask_34 rfl rfl rfl ?_
    refine r_iconst 37 dX3_ask_36 rfl rfl ?_
    refine r_istore 39 dX3_ask_37 rfl rfl rfl ?_
    rotate_left -- leaf: pc 39
    exact l_ask (l := l) lX0 wX0 m (akP h'' m) b1.2 hP x (Φ := fun r h5 => r = some (vI (soA x (miF (akV h'' m (akP h'' m)) (-4) (akB (akP h'' m)) (h'' 1 7).toNat))) ∧ scr h'' h5) (fun h5 q5 => ⟨rfl, q5⟩) (h'' 1 7).toNat 0 none _ (by omega) q
  · rw [if_pos (fun z => z01_n.mp c_15 z.2)]
    exact ⟨rfl, fun _ _ _ _ => rfl, w8⟩
end SX
