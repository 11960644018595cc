/-! clouds by odds, of the class -/
theorem mul_iA {a b A B : Int} (ha : 0 ≤ a ∧ a ≤ A) (hb : 0 ≤ b ∧ b ≤ B) : 0 ≤ a * b ∧ a * b ≤ A * B := ⟨Int.mul_nonneg ha.1 hb.1, Int.mul_le_mul ha.2 hb.2 hb.1 (Int.le_trans ha.1 ha.2)⟩
def whS (v wo du q : Int) (s : Int × Int) : Int × Int := if q = -4 then s else (s.1 + s.2 / 10 * (10 - v) * haF wo du q, s.2 / 10 * v)
def whN (F : Nat → Int) (v wo du : Int) : Nat → Int × Int
  | 0 => (0, 1000000000000)
  | n + 1 => whS v wo du (F n) (whN F v wo du n)
def whR (h : zH) (i : Nat) (v : Int) : Int := (whN (fun j => fiF h 1 j (h (1 + 4) i)) v (h (1 + 5) i) (h (1 + 4) i) 12).1 + (whN (fun j => fiF h 1 j (h (1 + 4) i)) v (h (1 + 5) i) (h (1 + 4) i) 12).2 * haF (h (1 + 5) i) (h (1 + 4) i) (-4)
theorem haF_iA {wo du q : Int} (h1 : 0 ≤ wo ∧ wo ≤ 9) (h2 : 0 ≤ du ∧ du ≤ 47) (h3 : q = -4 ∨ (0 ≤ q ∧ q < 48)) : 0 ≤ haF wo du q ∧ haF wo du q ≤ 432 := by
  unfold haF
  have : 0 ≤ (if q = -4 then 48 else absF (q - du)) ∧ (if q = -4 then 48 else absF (q - du)) ≤ 48 := by
    unfold absF
    split
    · omega
    · split <;> omega
  exact mul_iA h1 this
theorem wh_in {F : Nat → Int} {v wo du : Int} (hv : 0 ≤ v ∧ v ≤ 10) (h1 : 0 ≤ wo ∧ wo ≤ 9) (h2 : 0 ≤ du ∧ du ≤ 47) (hF : ∀ j, j < 12 → F j = -4 ∨ (0 ≤ F j ∧ F j < 48)) : ∀ n : Nat, n ≤ 12 → (0 ≤ (whN F v wo du n).1 ∧ (whN F v wo du n).1 ≤ 432000000000000 * (n : Int)) ∧ (0 ≤ (whN F v wo du n).2 ∧ (whN F v wo du n).2 ≤ 1000000000000)
  | 0, _ => by simp [whN]
  | n + 1, hn => by
    obtain ⟨a1, a2⟩ := wh_in hv h1 h2 hF n (by omega)
    have hh := haF_iA h1 h2 (hF n (by omega))
    simp only [whN]
    unfold whS
    split
    · exact ⟨⟨a1.1, by omega⟩, a2⟩
    · have b1 := mul_iA (a := (whN F v wo du n).2 / 10) (b := 10 - v) (A := 100000000000) (B := 10) (by omega) (by omega)
      have b2 := mul_iA (a := (whN F v wo du n).2 / 10 * (10 - v)) (A := 1000000000000) (by omega) hh
      have b3 := mul_iA (a := (whN F v wo du n).2 / 10) (b := v) (A := 100000000000) (B := 10) (by omega) hv
      refine ⟨⟨?_, ?_⟩, ?_, ?_⟩
      · show 0 ≤ _ + _; omega
      · show _ + _ ≤ _; omega
      · exact b3.1
      · show _ * _ ≤ _; omega
def odN (F : Nat → Int) (v : Int) : Nat → Int
  | 0 => 1000000000000
  | n + 1 => if F n = -4 then odN F v n else odN F v n / 10 * v
theorem od_in {F : Nat → Int} {v : Int} (hv : 0 ≤ v ∧ v ≤ 10) : ∀ n : Nat, 0 ≤ odN F v n ∧ odN F v n ≤ 1000000000000
  | 0 => by simp [odN]
  | n + 1 => by
    have a := od_in (F := F) hv n
    unfold odN
    split
    · exact a
    · have b3 := mul_iA (a := odN F v n / 10) (b := v) (A := 100000000000) (B := 10) (by omega) hv
      omega
def euN : Nat → Int → Int → Int
  | 0, a, _ => a
  | n + 1, a, b => if 0 < b then euN n b (a % b) else a
def pfF (p x : Int) : Int := if 0 < euN 100 1000000000000 p then (if x = 0 then p else 1000000000000) / euN 100 1000000000000 p else -1
section SX
variable {l : Launch} {G : zG} {h : zH}
theorem l_wh (ly : LX G) (w : wX h) (i : Nat) (hi : i < 5) (v : Int) (hv : 0 ≤ v ∧ v ≤ 10) {Φ : Option zV → zH → Prop} (hΦ : Φ (some (vL (whR h i v))) h) : ∀ (n j : Nat) (x8 : Option zV), j + n = 12 → Rr l G 4 mX3_weighedHarm Φ 10 [some (vR 0), some (vI i), some (vI v), some (vL (whN (fun j => fiF h 1 j (h (1 + 4) i)) v (h (1 + 5) i) (h (1 + 4) i) j).1), none, some (vL (whN (fun j => fiF h 1 j (h (1 + 4) i)) v (h (1 + 5) i) (h (1 + 4) i) j).2), none, some (vI j), x8] [] h := by
  obtain ⟨hN, ⟨ly1, ly8, ly16, ly23⟩, ltp, ⟨ls34, ls36, ls38, ls40⟩, ⟨xs0, xs15, xs30, xs33, xs42, xs43, xs44⟩, ⟨xl15, xl30, xl33, xl42, xl43, xl44⟩, ⟨xr0, xr1, xr2, xr3, xr4, xr5, xr6, xr7, xr8⟩, ⟨yr0, yr1⟩, ⟨zr0, zr1, zr2, zr3⟩⟩ := ly
  have xs1 : gs G 1 = 7 := ly1.2.1.1
  have xs8 : gs G 8 = 7 := ly8.2.1.1
  have xs16 : gs G 16 = 7 := ly16.2.1.1
  have xs23 : gs G 23 = 7 := ly23.2.1.1
  have xs31 : gs G 31 = 6 := ltp.2.1.1
  have xs34 : gs G 34 = 5 := ls34.2.1.1
  have xs36 : gs G 36 = 5 := ls36.2.1.1
  have xs38 : gs G 38 = 5 := ls38.2.1.1
  have xs40 : gs G 40 = 5 := ls40.2.1.1
  obtain ⟨⟨w1, w8, w16, w23⟩, wp, wsn, ws42, ws43, wk, ⟨wh34, wh36, wh38, wh40⟩, wt⟩ := w
  have ly1' := ly1
  obtain ⟨⟨tn0, tn1, tn2, tn3, tn4, tn5, tn6⟩, ⟨ts0, ts1, ts2, ts3, ts4, ts5, ts6⟩, ⟨tr0, tr1, tr2, tr3, tr4, tr5⟩, ⟨tl1, tl2, tl3, tl4, tl5, tl6⟩⟩ := ly1'
  have w1' := w1
  obtain ⟨tw1, tw2, tw3, tw4, tw5, tw6, tw7, tw8, tw9, tw10⟩ := w1'
  have hF : ∀ j, j < 12 → fiF h 1 j (h (1 + 4) i) = -4 ∨ (0 ≤ fiF h 1 j (h (1 + 4) i) ∧ fiF h 1 j (h (1 + 4) i) < 48) := fun j hj => by
    have := fiF_in (h := h) (p := 1) (j := j) (due := h (1 + 4) i) hj
    omega
  have hwi := wh_in hv (tw9 i) (tw8 i) hF
  intro n
  induction n with
  | zero =>
    intro j x8 hj
    obtain rfl : j = 12 := by omega
    have hb := hwi 12 (by omega)
    have hh := haF_iA (tw9 i) (tw8 i) (Or.inl (rfl : (-4 : Int) = -4))
    have hm := mul_iA hb.2 hh
    refine r_iload 12 dX3_weighedHarm_10 rfl rfl ?_
    refine r_bipush 14 dX3_weighedHarm_12 rfl rfl (by decide) ?_
    refine r_icmp_ge 88 17 dX3_weighedHarm_14 (by decide) rfl (fun c_14 => ?_) (fun c_14 => ?_)
    refine r_lload_n 89 dX3_weighedHarm_88 rfl rfl ?_
    refine r_lload 91 dX3_weighedHarm_89 rfl rfl ?_
    refine r_aload_n 92 dX3_weighedHarm_91 rfl rfl ?_
    refine r_getR 95 dX3_weighedHarm_92 rfl kf_3_10 rfl (by first | assumption | omega) (by assumption) (by assumption) ?_
    refine r_iload_n 96 dX3_weighedHarm_95 rfl rfl ?_
    refine r_bipush 98 dX3_weighedHarm_96 rfl rfl (by decide) ?_
    rotate_left -- leaf: call at pc 98
    rotate_left -- leaf: pc 17
    · refine r_cv2 101 dX3_weighedHarm_98 rfl kv_3_129 (by first | assumption | omega) (by assumption) rfl rfl (c_harmAt ly1 w1 i hi (-4) (Or.inl rfl)) ?_
      rintro r h' ⟨rfl, rfl⟩
      refine r_i2l 102 dX3_weighedHarm_101 rfl ?_
      refine r_lmul 103 dX3_weighedHarm_102 rfl (by first | exact w64_id (by omega) (by omega) | rfl) ?_
      refine r_ladd 104 dX3_weighedHarm_103 rfl (by first | exact w64_id (by omega) (by omega) | rfl) ?_
      refine r_lret dX3_weighedHarm_104 rfl ?_
      rotate_left -- leaf: return at pc 104
      exact hΦ
    · omega
  | succ n ih =>
    intro j x8 hj
    have hb := hwi j (by omega)
    have hFj := hF j (by omega)
    have hh := haF_iA (tw9 i) (tw8 i) hFj
    have b1 := mul_iA (a := (whN (fun j => fiF h 1 j (h (1 + 4) i)) v (h (1 + 5) i) (h (1 + 4) i) j).2 / 10) (b := 10 - v) (A := 100000000000) (B := 10) (by omega) (by omega)
    have b2 := mul_iA (a := (whN (fun j => fiF h 1 j (h (1 + 4) i)) v (h (1 + 5) i) (h (1 + 4) i) j).2 / 10 * (10 - v)) (A := 1000000000000) (by omega) hh
    have b3 := mul_iA (a := (whN (fun j => fiF h 1 j (h (1 + 4) i)) v (h (1 + 5) i) (h (1 + 4) i) j).2 / 10) (b := v) (A := 100000000000) (B := 10) (by omega) hv
    have ih := ih (j + 1) (some (vI (fiF h 1 j (h (1 + 4) i)))) (by omega)
    have hS : whN (fun j => fiF h 1 j (h (1 + 4) i)) v (h (1 + 5) i) (h (1 + 4) i) (j + 1) = whS v (h (1 + 5) i) (h (1 + 4) i) (fiF h 1 j (h (1 + 4) i)) (whN (fun j => fiF h 1 j (h (1 + 4) i)) v (h (1 + 5) i) (h (1 + 4) i) j) := rfl
    rw [hS] at ih
    unfold whS at ih
    generalize whN (fun j => fiF h 1 j (h (1 + 4) i)) v (h (1 + 5) i) (h (1 + 4) i) j = S at *
    refine r_iload 12 dX3_weighedHarm_10 rfl rfl ?_
    refine r_bipush 14 dX3_weighedHarm_12 rfl rfl (by decide) ?_
    refine r_icmp_ge 88 17 dX3_weighedHarm_14 (by decide) rfl (fun c_14 => ?_) (fun c_14 => ?_)
    refine r_lload_n 89 dX3_weighedHarm_88 rfl rfl ?_
    refine r_lload 91 dX3_weighedHarm_89 rfl rfl ?_
    refine r_aload_n 92 dX3_weighedHarm_91 rfl rfl ?_
    refine r_getR 95 dX3_weighedHarm_92 rfl kf_3_10 rfl (by first | assumption | omega) (by assumption) (by assumption) ?_
    refine r_iload_n 96 dX3_weighedHarm_95 rfl rfl ?_
    refine r_bipush 98 dX3_weighedHarm_96 rfl rfl (by decide) ?_
    rotate_left -- leaf: call at pc 98
    refine r_aload_n 18 dX3_weighedHarm_17 rfl rfl ?_
    refine r_getR 21 dX3_weighedHarm_18 rfl kf_3_10 rfl (by first | assumption | omega) (by assumption) (by assumption) ?_
    refine r_iload 23 dX3_weighedHarm_21 rfl rfl ?_
    refine r_aload_n 24 dX3_weighedHarm_23 rfl rfl ?_
    refine r_getR 27 dX3_weighedHarm_24 rfl kf_3_10 rfl (by first | assumption | omega) (by assumption) (by assumption) ?_
    refine r_getR 30 dX3_weighedHarm_27 rfl kf_3_120 rfl (by first | assumption | omega) (by assumption) (by assumption) ?_
    refine r_iload_n 31 dX3_weighedHarm_30 rfl rfl ?_
    refine r_iald 32 dX3_weighedHarm_31 rfl (by first | assumption | omega) (by assumption) (by first | omega | (simp only [Int.toNat_natCast]; omega)) (by first | omega | (simp only [Int.toNat_natCast]; omega)) ?_
    rotate_left -- leaf: pc 32
    · omega
    rw [Int.toNat_natCast]
    refine r_cv2 35 dX3_weighedHarm_32 rfl kv_3_211 (by first | assumption | omega) (by assumption) rfl rfl (c_firstIn ly1 w1 j (by omega) (h (1 + 4) i) (tw8 i)) ?_
    rintro r h' ⟨rfl, rfl⟩
    refine r_istore 37 dX3_weighedHarm_35 rfl rfl rfl ?_
    refine r_iload 39 dX3_weighedHarm_37 rfl rfl ?_
    refine r_bipush 41 dX3_weighedHarm_39 rfl rfl (by decide) ?_
    refine r_icmp_eq 82 44 dX3_weighedHarm_41 (by decide) rfl (fun c_41 => ?_) (fun c_41 => ?_)
    refine r_iinc 85 _ dX3_weighedHarm_82 rfl rfl rfl rfl (by first | exact w32_id (by omega) (by omega) | rfl) ?_
    refine r_goto 10 dX3_weighedHarm_85 (by decide) ?_
    rotate_left -- leaf: pc 10
    refine r_lload_n 45 dX3_weighedHarm_44 rfl rfl ?_
    refine r_lload 47 dX3_weighedHarm_45 rfl rfl ?_
    refine r_ldc2 50 (10) dX3_weighedHarm_47 rfl kq_3_214 rfl ?_
    refine r_ldiv 51 dX3_weighedHarm_50 rfl (by first | omega | (simp only [Int.toNat_natCast]; omega)) (by first | omega | (simp only [Int.toNat_natCast]; omega)) ?_
    refine r_bipush 53 dX3_weighedHarm_51 rfl rfl (by decide) ?_
    refine r_iload_n 54 dX3_weighedHarm_53 rfl rfl ?_
    refine r_isub 55 dX3_weighedHarm_54 rfl (by first | exact w32_id (by omega) (by omega) | rfl) ?_
    refine r_i2l 56 dX3_weighedHarm_55 rfl ?_
    refine r_lmul 57 dX3_weighedHarm_56 rfl (by first | exact w64_id (by omega) (by omega) | rfl) ?_
    refine r_aload_n 58 dX3_weighedHarm_57 rfl rfl ?_
    refine r_getR 61 dX3_weighedHarm_58 rfl kf_3_10 rfl (by first | assumption | omega) (by assumption) (by assumption) ?_
    refine r_iload_n 62 dX3_weighedHarm_61 rfl rfl ?_
    refine r_iload 64 dX3_weighedHarm_62 rfl rfl ?_
    rotate_left -- leaf: call at pc 64
    · rw [if_pos c_41] at ih
      exact ih
    · rw [if_neg c_41] at ih
      refine r_cv2 67 dX3_weighedHarm_64 rfl kv_3_129 (by first | assumption | omega) (by assumption) rfl rfl (c_harmAt ly1 w1 i hi (fiF h' 1 j (h' (1 + 4) i)) hFj) ?_
      rintro r h'' ⟨rfl, rfl⟩
      refine r_i2l 68 dX3_weighedHarm_67 rfl ?_
      refine r_lmul 69 dX3_weighedHarm_68 rfl (by first | exact w64_id (by omega) (by omega) | rfl) ?_
      refine r_ladd 70 dX3_weighedHarm_69 rfl (by first | exact w64_id (by omega) (by omega) | rfl) ?_
      refine r_lstore_n 71 dX3_weighedHarm_70 rfl rfl rfl ?_
      refine r_lload 73 dX3_weighedHarm_71 rfl rfl ?_
      refine r_ldc2 76 (10) dX3_weighedHarm_73 rfl kq_3_214 rfl ?_
      refine r_ldiv 77 dX3_weighedHarm_76 rfl (by first | omega | (simp only [Int.toNat_natCast]; omega)) (by first | omega | (simp only [Int.toNat_natCast]; omega)) ?_
      refine r_iload_n 78 dX3_weighedHarm_77 rfl rfl ?_
      refine r_i2l 79 dX3_weighedHarm_78 rfl ?_
      refine r_lmul 80 dX3_weighedHarm_79 rfl (by first | exact w64_id (by omega) (by omega) | rfl) ?_
      refine r_lstore 82 dX3_weighedHarm_80 rfl rfl rfl ?_
      refine r_iinc 85 _ dX3_weighedHarm_82 rfl rfl rfl rfl (by first | exact w32_id (by omega) (by omega) | rfl) ?_
      refine r_goto 10 dX3_weighedHarm_85 (by decide) ?_
      rotate_left -- leaf: pc 10
      exact ih
theorem c_wh (ly : LX G) (w : wX h) (i : Nat) (hi : i < 5) (v : Int) (hw : 0 ≤ v ∧ v ≤ 10) : Ca l G 4 mX3_weighedHarm [vR 0, vI i, vI v] h (fun r h' => r = some (vL (whR h i v)) ∧ h' = h) := by
  refine Ca.of (by decide) (Nat.le_of_ble_eq_true rfl) (fun hI hv hH => ?_)
  refine r_lconst 1 dX3_weighedHarm_0 rfl 0 rfl (by decide) ?_
  refine r_lstore_n 2 dX3_weighedHarm_1 rfl rfl rfl ?_
  refine r_ldc2 5 (1000000000000) dX3_weighedHarm_2 rfl kq_3_206 rfl ?_
  refine r_lstore 7 dX3_weighedHarm_5 rfl rfl rfl ?_
  refine r_iconst 8 dX3_weighedHarm_7 rfl rfl ?_
  refine r_istore 10 dX3_weighedHarm_8 rfl rfl rfl ?_
  rotate_left -- leaf: pc 10
  exact l_wh (l := l) ly w i hi v hw (Φ := fun r h' => r = some (vL (whR h i v)) ∧ h' = h) ⟨rfl, rfl⟩ 12 0 none rfl
theorem l_odds (ly : LX G) (w : wX h) (i : Nat) (hi : i < 5) (v : Int) (hv : 0 ≤ v ∧ v ≤ 10) {Φ : Option zV → zH → Prop} (hΦ : Φ (some (vL (odN (fun j => fiF h 1 j (h (1 + 4) i)) v 12))) h) : ∀ (n j : Nat), j + n = 12 → Rr l G 4 mX3_oddsOfNever Φ 7 [some (vR 0), some (vI i), some (vI v), some (vL (odN (fun j => fiF h 1 j (h (1 + 4) i)) v j)), none, some (vI j)] [] h := by
  obtain ⟨hN, ⟨ly1, ly8, ly16, ly23⟩, ltp, ⟨ls34, ls36, ls38, ls40⟩, ⟨xs0, xs15, xs30, xs33, xs42, xs43, xs44⟩, ⟨xl15, xl30, xl33, xl42, xl43, xl44⟩, ⟨xr0, xr1, xr2, xr3, xr4, xr5, xr6, xr7, xr8⟩, ⟨yr0, yr1⟩, ⟨zr0, zr1, zr2, zr3⟩⟩ := ly
  have xs1 : gs G 1 = 7 := ly1.2.1.1
  have xs8 : gs G 8 = 7 := ly8.2.1.1
  have xs16 : gs G 16 = 7 := ly16.2.1.1
  have xs23 : gs G 23 = 7 := ly23.2.1.1
  have xs31 : gs G 31 = 6 := ltp.2.1.1
  have xs34 : gs G 34 = 5 := ls34.2.1.1
  have xs36 : gs G 36 = 5 := ls36.2.1.1
  have xs38 : gs G 38 = 5 := ls38.2.1.1
  have xs40 : gs G 40 = 5 := ls40.2.1.1
  obtain ⟨⟨w1, w8, w16, w23⟩, wp, wsn, ws42, ws43, wk, ⟨wh34, wh36, wh38, wh40⟩, wt⟩ := w
  have ly1' := ly1
  obtain ⟨⟨tn0, tn1, tn2, tn3, tn4, tn5, tn6⟩, ⟨ts0, ts1, ts2, ts3, ts4, ts5, ts6⟩, ⟨tr0, tr1, tr2, tr3, tr4, tr5⟩, ⟨tl1, tl2, tl3, tl4, tl5, tl6⟩⟩ := ly1'
  have w1' := w1
  obtain ⟨tw1, tw2, tw3, tw4, tw5, tw6, tw7, tw8, tw9, tw10⟩ := w1'
  intro n
  induction n with
  | zero =>
    intro j hj
    obtain rfl : j = 12 := by omega
    refine r_iload 9 dX3_oddsOfNever_7 rfl rfl ?_
    refine r_bipush 11 dX3_oddsOfNever_9 rfl rfl (by decide) ?_
    refine r_icmp_ge 52 14 dX3_oddsOfNever_11 (by decide) rfl (fun c_11 => ?_) (fun c_11 => ?_)
    refine r_lload_n 53 dX3_oddsOfNever_52 rfl rfl ?_
    refine r_lret dX3_oddsOfNever_53 rfl ?_
    rotate_left -- leaf: return at pc 53
    rotate_left -- leaf: pc 14
    · exact hΦ
    · omega
  | succ n ih =>
    intro j hj
    have hb := od_in (F := fun j => fiF h 1 j (h (1 + 4) i)) hv j
    have b3 := mul_iA (a := odN (fun j => fiF h 1 j (h (1 + 4) i)) v j / 10) (b := v) (A := 100000000000) (B := 10) (by omega) hv
    have ih := ih (j + 1) (by omega)
    rw [odN] at ih
    refine r_iload 9 dX3_oddsOfNever_7 rfl rfl ?_
    refine r_bipush 11 dX3_oddsOfNever_9 rfl rfl (by decide) ?_
    refine r_icmp_ge 52 14 dX3_oddsOfNever_11 (by decide) rfl (fun c_11 => ?_) (fun c_11 => ?_)
    refine r_lload_n 53 dX3_oddsOfNever_52 rfl rfl ?_
    refine r_lret dX3_oddsOfNever_53 rfl ?_
    rotate_left -- leaf: return at pc 53
    refine r_aload_n 15 dX3_oddsOfNever_14 rfl rfl ?_
    refine r_getR 18 dX3_oddsOfNever_15 rfl kf_3_10 rfl (by first | assumption | omega) (by assumption) (by assumption) ?_
    refine r_iload 20 dX3_oddsOfNever_18 rfl rfl ?_
    refine r_aload_n 21 dX3_oddsOfNever_20 rfl rfl ?_
    refine r_getR 24 dX3_oddsOfNever_21 rfl kf_3_10 rfl (by first | assumption | omega) (by assumption) (by assumption) ?_
    refine r_getR 27 dX3_oddsOfNever_24 rfl kf_3_120 rfl (by first | assumption | omega) (by assumption) (by assumption) ?_
    refine r_iload_n 28 dX3_oddsOfNever_27 rfl rfl ?_
    refine r_iald 29 dX3_oddsOfNever_28 rfl (by first | assumption | omega) (by assumption) (by first | omega | (simp only [Int.toNat_natCast]; omega)) (by first | omega | (simp only [Int.toNat_natCast]; omega)) ?_
    rotate_left -- leaf: pc 29
    · omega
    rw [Int.toNat_natCast]
    refine r_cv2 32 dX3_oddsOfNever_29 rfl kv_3_211 (by first | assumption | omega) (by assumption) rfl rfl (c_firstIn ly1 w1 j (by omega) (h (1 + 4) i) (tw8 i)) ?_
    rintro r h' ⟨rfl, rfl⟩
    refine r_bipush 34 dX3_oddsOfNever_32 rfl rfl (by decide) ?_
    refine r_icmp_eq 46 37 dX3_oddsOfNever_34 (by decide) rfl (fun c_34 => ?_) (fun c_34 => ?_)
    refine r_iinc 49 _ dX3_oddsOfNever_46 rfl rfl rfl rfl (by first | exact w32_id (by omega) (by omega) | rfl) ?_
    refine r_goto 7 dX3_oddsOfNever_49 (by decide) ?_
    rotate_left -- leaf: pc 7
    refine r_lload_n 38 dX3_oddsOfNever_37 rfl rfl ?_
    refine r_ldc2 41 (10) dX3_oddsOfNever_38 rfl kq_3_214 rfl ?_
    refine r_ldiv 42 dX3_oddsOfNever_41 rfl (by first | omega | (simp only [Int.toNat_natCast]; omega)) (by first | omega | (simp only [Int.toNat_natCast]; omega)) ?_
    refine r_iload_n 43 dX3_oddsOfNever_42 rfl rfl ?_
    refine r_i2l 44 dX3_oddsOfNever_43 rfl ?_
    refine r_lmul 45 dX3_oddsOfNever_44 rfl (by first | exact w64_id (by omega) (by omega) | rfl) ?_
    refine r_lstore_n 46 dX3_oddsOfNever_45 rfl rfl rfl ?_
    refine r_iinc 49 _ dX3_oddsOfNever_46 rfl rfl rfl rfl (by first | exact w32_id (by omega) (by omega) | rfl) ?_
    refine r_goto 7 dX3_oddsOfNever_49 (by decide) ?_
    rotate_left -- leaf: pc 7
    · rw [if_pos c_34] at ih
      exact ih
    · rw [if_neg c_34] at ih
      exact ih
theorem c_odds (ly : LX G) (w : wX h) (i : Nat) (hi : i < 5) (v : Int) (hw : 0 ≤ v ∧ v ≤ 10) : Ca l G 4 mX3_oddsOfNever [vR 0, vI i, vI v] h (fun r h' => r = some (vL (odN (fun j => fiF h 1 j (h (1 + 4) i)) v 12)) ∧ h' = h) := by
  refine Ca.of (by decide) (Nat.le_of_ble_eq_true rfl) (fun hI hv hH => ?_)
  refine r_ldc2 3 (1000000000000) dX3_oddsOfNever_0 rfl kq_3_206 rfl ?_
  refine r_lstore_n 4 dX3_oddsOfNever_3 rfl rfl rfl ?_
  refine r_iconst 5 dX3_oddsOfNever_4 rfl rfl ?_
  refine r_istore 7 dX3_oddsOfNever_5 rfl rfl rfl ?_
  rotate_left -- leaf: pc 7
  exact l_odds (l := l) ly w i hi v hw (Φ := fun r h' => r = some (vL (odN (fun j => fiF h 1 j (h (1 + 4) i)) v 12)) ∧ h' = h) ⟨rfl, rfl⟩ 12 0 rfl
theorem z_lcmp_le {a : Int} : z_lcmp a 0 ≤ 0 ↔ a ≤ 0 := by
  unfold z_lcmp
  split
  · omega
  · split <;> omega
theorem l_pf (p x : Int) (hp : 0 ≤ p) {Φ : Option zV → zH → Prop} (hΦ : Φ (some (vL (pfF p x))) h) : ∀ (n t : Nat) (a b : Int) (x8 : Option zV), t + n = 100 → 0 ≤ a → 0 ≤ b → euN n a b = euN 100 1000000000000 p → Rr l G 0 mX3_partOfFraction Φ 10 [some (vL p), none, some (vI x), some (vL a), none, some (vL b), none, some (vI t), x8, none] [] h := by
  have fin : ∀ (a b : Int) (t : Nat) (x8 : Option zV), 0 ≤ a → a = euN 100 1000000000000 p → Rr l G 0 mX3_partOfFraction Φ 43 [some (vL p), none, some (vI x), some (vL a), none, some (vL b), none, some (vI t), x8, none] [] h := by
    intro a b t x8 ha e
    unfold pfF at hΦ
    rw [← e] at hΦ
    refine r_lload_n 44 dX3_partOfFraction_43 rfl rfl ?_
    refine r_lconst 45 dX3_partOfFraction_44 rfl 0 rfl (by decide) ?_
    refine r_lcmp 46 dX3_partOfFraction_45 rfl ?_
    refine r_if_gt 53 49 dX3_partOfFraction_46 (by decide) rfl (fun c_46 => ?_) (fun c_46 => ?_)
    rotate_left -- leaf: pc 53
    refine r_ldc2 52 (-1) dX3_partOfFraction_49 rfl kq_3_196 rfl ?_
    refine r_lret dX3_partOfFraction_52 rfl ?_
    rotate_left -- leaf: return at pc 52
    · have c1 : 0 < a := Int.not_le.mp (fun z => absurd (z_lcmp_le.mpr z) (by omega))
      rw [if_pos c1] at hΦ
      refine r_iload_n 54 dX3_partOfFraction_53 rfl rfl ?_
      refine r_if_ne 61 57 dX3_partOfFraction_54 (by decide) rfl (fun c_54 => ?_) (fun c_54 => ?_)
      refine r_ldc2 64 (1000000000000) dX3_partOfFraction_61 rfl kq_3_206 rfl ?_
      refine r_lload_n 65 dX3_partOfFraction_64 rfl rfl ?_
      refine r_ldiv 66 dX3_partOfFraction_65 rfl (by first | omega | (simp only [Int.toNat_natCast]; omega)) (by first | omega | (simp only [Int.toNat_natCast]; omega)) ?_
      refine r_lret dX3_partOfFraction_66 rfl ?_
      rotate_left -- leaf: return at pc 66
      refine r_lload_n 58 dX3_partOfFraction_57 rfl rfl ?_
      refine r_goto 64 dX3_partOfFraction_58 (by decide) ?_
      refine r_lload_n 65 dX3_partOfFraction_64 rfl rfl ?_
      refine r_ldiv 66 dX3_partOfFraction_65 rfl (by first | omega | (simp only [Int.toNat_natCast]; omega)) (by first | omega | (simp only [Int.toNat_natCast]; omega)) ?_
      refine r_lret dX3_partOfFraction_66 rfl ?_
      rotate_left -- leaf: return at pc 66
      · rw [if_neg c_54] at hΦ
        exact hΦ
      · rw [if_pos c_54] at hΦ
        exact hΦ
    · rw [if_neg (by have := z_lcmp_le.mp c_46; omega)] at hΦ
      exact hΦ
  intro n
  induction n with
  | zero =>
    intro t a b x8 ht ha hb he
    refine r_iload 12 dX3_partOfFraction_10 rfl rfl ?_
    refine r_bipush 14 dX3_partOfFraction_12 rfl rfl (by decide) ?_
    refine r_icmp_ge 43 17 dX3_partOfFraction_14 (by decide) rfl (fun c_14 => ?_) (fun c_14 => ?_)
    rotate_left -- leaf: pc 43
    rotate_left -- leaf: pc 17
    · exact fin a b t x8 ha he
    · omega
  | succ n ih =>
    intro t a b x8 ht ha hb he
    rw [euN] at he
    refine r_iload 12 dX3_partOfFraction_10 rfl rfl ?_
    refine r_bipush 14 dX3_partOfFraction_12 rfl rfl (by decide) ?_
    refine r_icmp_ge 43 17 dX3_partOfFraction_14 (by decide) rfl (fun c_14 => ?_) (fun c_14 => ?_)
    rotate_left -- leaf: pc 43
    refine r_lload 19 dX3_partOfFraction_17 rfl rfl ?_
    refine r_lconst 20 dX3_partOfFraction_19 rfl 0 rfl (by decide) ?_
    refine r_lcmp 21 dX3_partOfFraction_20 rfl ?_
    refine r_if_le 43 24 dX3_partOfFraction_21 (by decide) rfl (fun c_21 => ?_) (fun c_21 => ?_)
    rotate_left -- leaf: pc 43
    rotate_left -- leaf: pc 24
    · omega
    · have c1 := z_lcmp_le.mp c_21
      rw [if_neg (by omega)] at he
      exact fin a b t x8 ha he
    · have c1 : 0 < b := Int.not_le.mp (fun z => absurd (z_lcmp_le.mpr z) (by omega))
      rw [if_pos c1] at he
      refine r_lload_n 25 dX3_partOfFraction_24 rfl rfl ?_
      refine r_lload 27 dX3_partOfFraction_25 rfl rfl ?_
      refine r_lrem 28 dX3_partOfFraction_27 rfl (by first | omega | (simp only [Int.toNat_natCast]; omega)) (by first | omega | (simp only [Int.toNat_natCast]; omega)) ?_
      refine r_lstore 30 dX3_partOfFraction_28 rfl rfl rfl ?_
      refine r_lload 32 dX3_partOfFraction_30 rfl rfl ?_
      refine r_lstore_n 33 dX3_partOfFraction_32 rfl rfl rfl ?_
      refine r_lload 35 dX3_partOfFraction_33 rfl rfl ?_
      refine r_lstore 37 dX3_partOfFraction_35 rfl rfl rfl ?_
      refine r_iinc 40 _ dX3_partOfFraction_37 rfl rfl rfl rfl (by first | exact w32_id (by omega) (by omega) | rfl) ?_
      refine r_goto 10 dX3_partOfFraction_40 (by decide) ?_
      rotate_left -- leaf: pc 10
      exact ih (t + 1) b (a % b) (some (vL (a % b))) (by omega) hb (Int.emod_nonneg _ (by omega)) he
theorem c_pf (p x : Int) (hp : 0 ≤ p) : Ca l G 0 mX3_partOfFraction [vL p, vI x] h (fun r h' => r = some (vL (pfF p x)) ∧ h' = h) := by
  refine Ca.of (by decide) (Nat.le_of_ble_eq_true rfl) (fun hI hv hH => ?_)
  refine r_ldc2 3 (1000000000000) dX3_partOfFraction_0 rfl kq_3_206 rfl ?_
  refine r_lstore_n 4 dX3_partOfFraction_3 rfl rfl rfl ?_
  refine r_lload_n 5 dX3_partOfFraction_4 rfl rfl ?_
  refine r_lstore 7 dX3_partOfFraction_5 rfl rfl rfl ?_
  refine r_iconst 8 dX3_partOfFraction_7 rfl rfl ?_
  refine r_istore 10 dX3_partOfFraction_8 rfl rfl rfl ?_
  rotate_left -- leaf: pc 10
  exact l_pf (l := l) p x hp (Φ := fun r h' => r = some (vL (pfF p x)) ∧ h' = h) ⟨rfl, rfl⟩ 100 0 1000000000000 p none rfl (by omega) hp rfl
def qMean (v x : Int) (h : zH) : Int := if v < 0 ∨ 10 < v ∨ ¬ (x = 0 ∨ x = 1) then -1 else pfF (sumF (fun i => whR h i v) (h 1 7).toNat) x
theorem whR_in (w : wX h) (i : Nat) (v : Int) (hv : 0 ≤ v ∧ v ≤ 10) : 0 ≤ whR h i v ∧ whR h i v ≤ 6000000000000000 := by
  obtain ⟨⟨w1, w8, w16, w23⟩, wp, wsn, ws42, ws43, wk, ⟨wh34, wh36, wh38, wh40⟩, wt⟩ := w
  have w1' := w1
  obtain ⟨tw1, tw2, tw3, tw4, tw5, tw6, tw7, tw8, tw9, tw10⟩ := w1'
  have hF : ∀ j, j < 12 → fiF h 1 j (h (1 + 4) i) = -4 ∨ (0 ≤ fiF h 1 j (h (1 + 4) i) ∧ fiF h 1 j (h (1 + 4) i) < 48) := fun j hj => by
    have := fiF_in (h := h) (p := 1) (j := j) (due := h (1 + 4) i) hj
    omega
  have hb := wh_in hv (tw9 i) (tw8 i) hF 12 (by omega)
  have hm := mul_iA hb.2 (haF_iA (tw9 i) (tw8 i) (Or.inl (rfl : (-4 : Int) = -4)))
  unfold whR
  omega
theorem l_mean (ly : LX G) (w : wX h) (v x : Int) (hv : 0 ≤ v ∧ v ≤ 10) {Φ : Option zV → zH → Prop} (hΦ : Φ (some (vL (pfF (sumF (fun i => whR h i v) (h 1 7).toNat) x))) h) : ∀ (n j : Nat), j + n = (h 1 7).toNat → Rr l G 5 mX3_mean Φ 26 [some (vR 0), some (vI v), some (vI x), some (vL (sumF (fun i => whR h i v) j)), none, some (vI j)] [] h := by
  have lX0 := ly
  have wX0 := w
  obtain ⟨hN, ⟨ly1, ly8, ly16, ly23⟩, ltp, ⟨ls34, ls36, ls38, ls40⟩, ⟨xs0, xs15, xs30, xs33, xs42, xs43, xs44⟩, ⟨xl15, xl30, xl33, xl42, xl43, xl44⟩, ⟨xr0, xr1, xr2, xr3, xr4, xr5, xr6, xr7, xr8⟩, ⟨yr0, yr1⟩, ⟨zr0, zr1, zr2, zr3⟩⟩ := ly
  have xs1 : gs G 1 = 7 := ly1.2.1.1
  have xs8 : gs G 8 = 7 := ly8.2.1.1
  have xs16 : gs G 16 = 7 := ly16.2.1.1
  have xs23 : gs G 23 = 7 := ly23.2.1.1
  have xs31 : gs G 31 = 6 := ltp.2.1.1
  have xs34 : gs G 34 = 5 := ls34.2.1.1
  have xs36 : gs G 36 = 5 := ls36.2.1.1
  have xs38 : gs G 38 = 5 := ls38.2.1.1
  have xs40 : gs G 40 = 5 := ls40.2.1.1
  obtain ⟨⟨w1, w8, w16, w23⟩, wp, wsn, ws42, ws43, wk, ⟨wh34, wh36, wh38, wh40⟩, wt⟩ := w
  have ly1' := ly1
  obtain ⟨⟨tn0, tn1, tn2, tn3, tn4, tn5, tn6⟩, ⟨ts0, ts1, ts2, ts3, ts4, ts5, ts6⟩, ⟨tr0, tr1, tr2, tr3, tr4, tr5⟩, ⟨tl1, tl2, tl3, tl4, tl5, tl6⟩⟩ := ly1'
  have w1' := w1
  obtain ⟨tw1, tw2, tw3, tw4, tw5, tw6, tw7, tw8, tw9, tw10⟩ := w1'
  have hsm := sumF_in (f := fun i => whR h i v) (B := 6000000000000000) (fun i => whR_in wX0 i v hv)
  intro n
  induction n with
  | zero =>
    intro j hj
    have hb := hsm j
    refine r_iload 28 dX3_mean_26 rfl rfl ?_
    refine r_aload_n 29 dX3_mean_28 rfl rfl ?_
    refine r_getR 32 dX3_mean_29 rfl kf_3_10 rfl (by first | assumption | omega) (by assumption) (by assumption) ?_
    refine r_getI 35 dX3_mean_32 rfl kf_3_79 rfl (by first | assumption | omega) (by assumption) ?_
    refine r_icmp_ge 54 38 dX3_mean_35 (by decide) rfl (fun c_35 => ?_) (fun c_35 => ?_)
    refine r_lload_n 55 dX3_mean_54 rfl rfl ?_
    refine r_iload_n 56 dX3_mean_55 rfl rfl ?_
    rotate_left -- leaf: call at pc 56
    rotate_left -- leaf: pc 38
    · rw [show j = (h 1 7).toNat by omega]
      refine r_cs2 59 dX3_mean_56 rfl ks_3_202 rfl rfl (c_pf (sumF (fun i => whR h i v) (h 1 7).toNat) x (hsm _).1) ?_
      rintro r h' ⟨rfl, rfl⟩
      refine r_lret dX3_mean_59 rfl ?_
      rotate_left -- leaf: return at pc 59
      exact hΦ
    · omega
  | succ n ih =>
    intro j hj
    have hb := hsm j
    have hw := whR_in wX0 j v hv
    have ih := ih (j + 1) (by omega)
    rw [sumF] at ih
    refine r_iload 28 dX3_mean_26 rfl rfl ?_
    refine r_aload_n 29 dX3_mean_28 rfl rfl ?_
    refine r_getR 32 dX3_mean_29 rfl kf_3_10 rfl (by first | assumption | omega) (by assumption) (by assumption) ?_
    refine r_getI 35 dX3_mean_32 rfl kf_3_79 rfl (by first | assumption | omega) (by assumption) ?_
    refine r_icmp_ge 54 38 dX3_mean_35 (by decide) rfl (fun c_35 => ?_) (fun c_35 => ?_)
    rotate_left -- leaf: pc 54
    refine r_lload_n 39 dX3_mean_38 rfl rfl ?_
    refine r_aload_n 40 dX3_mean_39 rfl rfl ?_
    refine r_iload 42 dX3_mean_40 rfl rfl ?_
    refine r_iload_n 43 dX3_mean_42 rfl rfl ?_
    rotate_left -- leaf: call at pc 43
    · omega
    refine r_cv2 46 dX3_mean_43 rfl kv_3_198 (by first | assumption | omega) (by assumption) rfl rfl (c_wh lX0 wX0 j (by omega) v hv) ?_
    rintro r h' ⟨rfl, rfl⟩
    refine r_ladd 47 dX3_mean_46 rfl (by first | exact w64_id (by omega) (by omega) | rfl) ?_
    refine r_lstore_n 48 dX3_mean_47 rfl rfl rfl ?_
    refine r_iinc 51 _ dX3_mean_48 rfl rfl rfl rfl (by first | exact w32_id (by omega) (by omega) | rfl) ?_
    refine r_goto 26 dX3_mean_51 (by decide) ?_
    rotate_left -- leaf: pc 26
    exact ih
theorem c_mean (ly : LX G) (w : wX h) (v x : Int) : Ca l G 5 mX3_mean [vR 0, vI v, vI x] h (fun r h' => r = some (vL (qMean v x h)) ∧ h' = h) := by
  have lX0 := ly
  have wX0 := w
  refine Ca.of (by decide) (Nat.le_of_ble_eq_true rfl) (fun hI hv hH => ?_)
  unfold qMean
  refine r_iload_n 1 dX3_mean_0 rfl rfl ?_
  refine r_if_lt 17 4 dX3_mean_1 (by decide) rfl (fun c_1 => ?_) (fun c_1 => ?_)
  refine r_ldc2 20 (-1) dX3_mean_17 rfl kq_3_196 rfl ?_
  refine r_lret dX3_mean_20 rfl ?_
  rotate_left -- leaf: return at pc 20
  refine r_iload_n 5 dX3_mean_4 rfl rfl ?_
  refine r_bipush 7 dX3_mean_5 rfl rfl (by decide) ?_
  refine r_icmp_gt 17 10 dX3_mean_7 (by decide) rfl (fun c_7 => ?_) (fun c_7 => ?_)
  refine r_ldc2 20 (-1) dX3_mean_17 rfl kq_3_196 rfl ?_
  refine r_lret dX3_mean_20 rfl ?_
  rotate_left -- leaf: return at pc 20
  refine r_iload_n 11 dX3_mean_10 rfl rfl ?_
  rotate_left -- leaf: call at pc 11
  · rw [if_pos (Or.inl c_1)]
    exact ⟨rfl, rfl⟩
  · rw [if_pos (Or.inr (Or.inl c_7))]
    exact ⟨rfl, rfl⟩
  · refine r_cs1 14 dX3_mean_11 rfl ks_3_133 rfl rfl (c_isFS x) ?_
    rintro r h' ⟨rfl, rfl⟩
    refine r_if_ne 21 17 dX3_mean_14 (by decide) rfl (fun c_14 => ?_) (fun c_14 => ?_)
    refine r_lconst 22 dX3_mean_21 rfl 0 rfl (by decide) ?_
    refine r_lstore_n 23 dX3_mean_22 rfl rfl rfl ?_
    refine r_iconst 24 dX3_mean_23 rfl rfl ?_
    refine r_istore 26 dX3_mean_24 rfl rfl rfl ?_
    rotate_left -- leaf: pc 26
    refine r_ldc2 20 (-1) dX3_mean_17 rfl kq_3_196 rfl ?_
    refine r_lret dX3_mean_20 rfl ?_
    rotate_left -- leaf: return at pc 20
    · rw [if_neg (by have := z01_y.mp c_14; omega)]
      exact l_mean (l := l) lX0 wX0 v x (by omega) (Φ := fun r h'' => r = some (vL (pfF (sumF (fun i => whR h' i v) (h' 1 7).toNat) x)) ∧ h'' = h') ⟨rfl, rfl⟩ (h' 1 7).toNat 0 (by omega)
    · rw [if_pos (Or.inr (Or.inr (z01_n.mp c_14)))]
      exact ⟨rfl, rfl⟩
def qLuck (v i x : Int) (h : zH) : Int := if v < 0 ∨ 10 < v ∨ ¬ (0 ≤ i ∧ i < h 1 7) ∨ ¬ (x = 0 ∨ x = 1) then -1 else pfF (1000000000000 - odN (fun j => fiF h 1 j (h (1 + 4) i.toNat)) v 12) x
theorem c_luck (ly : LX G) (w : wX h) (v i x : Int) : Ca l G 5 mX3_luck [vR 0, vI v, vI i, vI x] h (fun r h' => r = some (vL (qLuck v i x h)) ∧ h' = h) := by
  have lX0 := ly
  have wX0 := w
  obtain ⟨hN, ⟨ly1, ly8, ly16, ly23⟩, ltp, ⟨ls34, ls36, ls38, ls40⟩, ⟨xs0, xs15, xs30, xs33, xs42, xs43, xs44⟩, ⟨xl15, xl30, xl33, xl42, xl43, xl44⟩, ⟨xr0, xr1, xr2, xr3, xr4, xr5, xr6, xr7, xr8⟩, ⟨yr0, yr1⟩, ⟨zr0, zr1, zr2, zr3⟩⟩ := ly
  have xs1 : gs G 1 = 7 := ly1.2.1.1
  have xs8 : gs G 8 = 7 := ly8.2.1.1
  have xs16 : gs G 16 = 7 := ly16.2.1.1
  have xs23 : gs G 23 = 7 := ly23.2.1.1
  have xs31 : gs G 31 = 6 := ltp.2.1.1
  have xs34 : gs G 34 = 5 := ls34.2.1.1
  have xs36 : gs G 36 = 5 := ls36.2.1.1
  have xs38 : gs G 38 = 5 := ls38.2.1.1
  have xs40 : gs G 40 = 5 := ls40.2.1.1
  obtain ⟨⟨w1, w8, w16, w23⟩, wp, wsn, ws42, ws43, wk, ⟨wh34, wh36, wh38, wh40⟩, wt⟩ := w
  have ly1' := ly1
  obtain ⟨⟨tn0, tn1, tn2, tn3, tn4, tn5, tn6⟩, ⟨ts0, ts1, ts2, ts3, ts4, ts5, ts6⟩, ⟨tr0, tr1, tr2, tr3, tr4, tr5⟩, ⟨tl1, tl2, tl3, tl4, tl5, tl6⟩⟩ := ly1'
  have w1' := w1
  obtain ⟨tw1, tw2, tw3, tw4, tw5, tw6, tw7, tw8, tw9, tw10⟩ := w1'
  refine Ca.of (by decide) (Nat.le_of_ble_eq_true rfl) (fun hI hv hH => ?_)
  unfold qLuck
  refine r_iload_n 1 dX3_luck_0 rfl rfl ?_
  refine r_if_lt 28 4 dX3_luck_1 (by decide) rfl (fun c_1 => ?_) (fun c_1 => ?_)
  refine r_ldc2 31 (-1) dX3_luck_28 rfl kq_3_196 rfl ?_
  refine r_lret dX3_luck_31 rfl ?_
  rotate_left -- leaf: return at pc 31
  refine r_iload_n 5 dX3_luck_4 rfl rfl ?_
  refine r_bipush 7 dX3_luck_5 rfl rfl (by decide) ?_
  refine r_icmp_gt 28 10 dX3_luck_7 (by decide) rfl (fun c_7 => ?_) (fun c_7 => ?_)
  refine r_ldc2 31 (-1) dX3_luck_28 rfl kq_3_196 rfl ?_
  refine r_lret dX3_luck_31 rfl ?_
  rotate_left -- leaf: return at pc 31
  refine r_aload_n 11 dX3_luck_10 rfl rfl ?_
  refine r_getR 14 dX3_luck_11 rfl kf_3_10 rfl (by first | assumption | omega) (by assumption) (by assumption) ?_
  refine r_iload_n 15 dX3_luck_14 rfl rfl ?_
  rotate_left -- leaf: call at pc 15
  · rw [if_pos (Or.inl c_1)]
    exact ⟨rfl, rfl⟩
  · rw [if_pos (Or.inr (Or.inl c_7))]
    exact ⟨rfl, rfl⟩
  · refine r_cv1 18 dX3_luck_15 rfl kv_3_117 (by first | assumption | omega) (by assumption) rfl rfl (c_hasDeed ly1 i) ?_
    rintro r h' ⟨rfl, rfl⟩
    refine r_if_eq 28 21 dX3_luck_18 (by decide) rfl (fun c_18 => ?_) (fun c_18 => ?_)
    refine r_ldc2 31 (-1) dX3_luck_28 rfl kq_3_196 rfl ?_
    refine r_lret dX3_luck_31 rfl ?_
    rotate_left -- leaf: return at pc 31
    refine r_iload_n 22 dX3_luck_21 rfl rfl ?_
    rotate_left -- leaf: call at pc 22
    · rw [if_pos (Or.inr (Or.inr (Or.inl (z01_n.mp c_18))))]
      exact ⟨rfl, rfl⟩
    · refine r_cs1 25 dX3_luck_22 rfl ks_3_133 rfl rfl (c_isFS x) ?_
      rintro r h'' ⟨rfl, rfl⟩
      have b1 := z01_y.mp c_18
      refine r_if_ne 32 28 dX3_luck_25 (by decide) rfl (fun c_25 => ?_) (fun c_25 => ?_)
      refine r_ldc2 35 (1000000000000) dX3_luck_32 rfl kq_3_206 rfl ?_
      refine r_aload_n 36 dX3_luck_35 rfl rfl ?_
      refine r_iload_n 37 dX3_luck_36 rfl rfl ?_
      refine r_iload_n 38 dX3_luck_37 rfl rfl ?_
      rotate_left -- leaf: call at pc 38
      refine r_ldc2 31 (-1) dX3_luck_28 rfl kq_3_196 rfl ?_
      refine r_lret dX3_luck_31 rfl ?_
      rotate_left -- leaf: return at pc 31
      · rw [if_neg (by have := z01_y.mp c_25; omega)]
        obtain ⟨i, rfl⟩ := Int.eq_ofNat_of_zero_le b1.1
        rw [Int.toNat_natCast]
        have ho := od_in (F := fun j => fiF h'' 1 j (h'' (1 + 4) i)) (v := v) (by omega) 12
        refine r_cv2 41 dX3_luck_38 rfl kv_3_208 (by first | assumption | omega) (by assumption) rfl rfl (c_odds lX0 wX0 i (by omega) v (by omega)) ?_
        rintro r h3 ⟨rfl, rfl⟩
        refine r_lsub 42 dX3_luck_41 rfl (by first | exact w64_id (by omega) (by omega) | rfl) ?_
        refine r_iload_n 43 dX3_luck_42 rfl rfl ?_
        rotate_left -- leaf: call at pc 43
        refine r_cs2 46 dX3_luck_43 rfl ks_3_202 rfl rfl (c_pf (1000000000000 - odN (fun j => fiF h3 1 j (h3 (1 + 4) i)) v 12) x (by omega)) ?_
        rintro r h4 ⟨rfl, rfl⟩
        refine r_lret dX3_luck_46 rfl ?_
        rotate_left -- leaf: return at pc 46
        exact ⟨rfl, rfl⟩
      · rw [if_pos (Or.inr (Or.inr (Or.inr (z01_n.mp c_25))))]
        exact ⟨rfl, rfl⟩
end SX
