/-! worlds that differ in a Town's bends alone; what a copy is -/
def eqB (p : Nat) (X Y : zH) : Prop := ∀ a b, ¬ (a = p + 6 ∧ b < 12) → X a b = Y a b
theorem reb_cong {p : Nat} {X Y : zH} (e : eqB p X Y) : reb p X = reb p Y := by
  have e0 : ∀ i, i < 6 → X (p + i) = Y (p + i) := fun i hi => by
    funext b
    exact e _ _ (by omega)
  have q0 : X p = Y p := e0 0 (by decide)
  funext a b
  unfold reb setB
  rw [q0, e0 1 (by decide), e0 2 (by decide), e0 3 (by decide)]
  split
  · rfl
  · exact e a b (by assumption)
theorem eqB_reb {p : Nat} {X : zH} : eqB p (reb p X) X := fun a b q => by
  unfold reb setB
  rw [if_neg q]
theorem eqB_up {p k j : Nat} {v : Int} {X Y : zH} (e : eqB p X Y) : eqB p (up X k j v) (up Y k j v) := fun a b q => by
  unfold up
  split
  · rfl
  · exact e a b q
theorem eqB_tr {p : Nat} {X Y Z : zH} (e : eqB p X Y) (f : eqB p Y Z) : eqB p X Z := fun a b q => (e a b q).trans (f a b q)
theorem eqB_rf {p : Nat} {X : zH} : eqB p X X := fun _ _ _ => rfl
theorem up_up {k j : Nat} {v w : Int} {X : zH} : up (up X k j v) k j w = up X k j w := by
  funext a b
  unfold up
  split <;> rfl
theorem up_id {k j : Nat} {X : zH} : up X k j (X k j) = X := by
  funext a b
  unfold up
  split
  · rename_i q; rw [q.1, q.2]
  · rfl
theorem reb_in {p : Nat} {X : zH} {a b : Nat} (q : ¬ (p ≤ a ∧ a ≤ p + 6)) : reb p X a b = X a b := reb_n (by omega)
theorem cpT_o {h : zH} {q p a b : Nat} (e : ¬ (p ≤ a ∧ a ≤ p + 6)) : cpT h q p a b = h a b := by
  unfold cpT
  rw [if_neg (by omega), if_neg (by omega)]
theorem cpT_f {h : zH} {q p b : Nat} (e : 6 ≤ b ∧ b ≤ 9) : cpT h q p p b = h q b := by
  unfold cpT
  rw [if_pos rfl, if_pos e]
theorem cpT_r {h : zH} {q p b : Nat} (i : Nat) (hi : 1 ≤ i ∧ i ≤ 6) (e : b < tlen i) : cpT h q p (p + i) b = h (q + i) b := by
  unfold cpT
  rw [if_neg (by omega), if_pos ⟨by omega, by omega, by rw [Nat.add_sub_cancel_left]; exact e⟩, Nat.add_sub_cancel_left]
theorem cpT_p {h : zH} {q p : Nat} {P : Int → Prop} (i b : Nat) (hi : 1 ≤ i ∧ i ≤ 6) (h1 : P (h (q + i) b)) (h2 : P (h (p + i) b)) : P (cpT h q p (p + i) b) := by
  by_cases e : b < tlen i
  · rw [cpT_r i hi e]; exact h1
  · have : cpT h q p (p + i) b = h (p + i) b := by
      unfold cpT
      rw [if_neg (by omega), if_neg (fun z => e (by have := z.2.2; rw [Nat.add_sub_cancel_left] at this; exact this))]
    rw [this]; exact h2
theorem wT_cpT {h : zH} {q p : Nat} (w : wT h q) (w' : wT h p) : wT (cpT h q p) p := by
  obtain ⟨w1, w2, w3, w4, w5, w6, w7, w8, w9, w10⟩ := w
  obtain ⟨v1, v2, v3, v4, v5, v6, v7, v8, v9, v10⟩ := w'
  exact ⟨by rw [cpT_f (by omega)]; exact w1, by rw [cpT_f (by omega)]; exact w2, by rw [cpT_f (by omega)]; exact w3, by rw [cpT_f (by omega)]; exact w4,
    fun j => cpT_p (P := fun x => 0 ≤ x ∧ x ≤ 3) 1 j (by omega) (w5 j) (v5 j), fun j => cpT_p (P := fun x => 0 ≤ x ∧ x ≤ 6) 2 j (by omega) (w6 j) (v6 j), fun j => cpT_p (P := fun x => x = -4 ∨ (0 ≤ x ∧ x ≤ 3)) 3 j (by omega) (w7 j) (v7 j), fun j => cpT_p (P := fun x => 0 ≤ x ∧ x ≤ 47) 4 j (by omega) (w8 j) (v8 j), fun j => cpT_p (P := fun x => 0 ≤ x ∧ x ≤ 9) 5 j (by omega) (w9 j) (v9 j), fun j => cpT_p (P := fun x => -20 ≤ x ∧ x ≤ 20) 6 j (by omega) (w10 j) (v10 j)⟩
/-- only the trial Town is written over -/
def scr (h h' : zH) : Prop := (∀ a b, ¬ (8 ≤ a ∧ a ≤ 14) → a ≠ 44 → h' a b = h a b) ∧ wT h' 8
/-- the least of f 0 .. f (n - 1) below what there was, the first -/
def miF (f : Nat → Int) (b0 l0 : Int) : Nat → Int × Int
  | 0 => (b0, l0)
  | n + 1 => if f n < (miF f b0 l0 n).2 then ((n : Int), f n) else miF f b0 l0 n
section SX
variable {l : Launch} {G : zG} {h : zH}
def mkV (h : zH) (v : Nat) : Int := hmA (reb 8 (up (cpT h 1 8) 8 9 (v : Int))) 8
def qMark (x : Int) (h : zH) : Int := if ¬ (x = 0 ∨ x = 1) then -1 else if x = 0 then (miF (mkV h) (-4) 2147483647 7).1 else (miF (mkV h) (-4) 2147483647 7).2
theorem l_mark (ly : LX G) (w : wX h) (x : Int) {Φ : Option zV → zH → Prop} (hΦ : ∀ h', scr h h' → Φ (some (vI (if x = 0 then (miF (mkV h) (-4) 2147483647 7).1 else (miF (mkV h) (-4) 2147483647 7).2))) h') : ∀ (n j : Nat) (x5 : Option zV) (H : zH), j + n = 7 → (∀ v, reb 8 (up H 8 9 v) = reb 8 (up (cpT h 1 8) 8 9 v)) → scr h H → Rr l G 5 mX3_mark Φ 29 [some (vR 0), some (vI x), some (vI (miF (mkV h) (-4) 2147483647 j).1), some (vI (miF (mkV h) (-4) 2147483647 j).2), some (vI j), x5] [] H := by
  obtain ⟨hN, ⟨ly1, ly8, ly16, ly23⟩, ltp, ⟨ls34, ls36, ls38, ls40⟩, ⟨xs0, xs15, xs30, xs33, xs42, xs43, xs44⟩, ⟨xl15, xl30, xl33, xl42, xl43, xl44⟩, ⟨xr0, xr1, xr2, xr3, xr4, xr5, xr6, xr7, xr8⟩, ⟨yr0, yr1⟩, ⟨zr0, zr1, zr2, zr3⟩⟩ := ly
  have xs1 : gs G 1 = 7 := ly1.2.1.1
  have xs8 : gs G 8 = 7 := ly8.2.1.1
  have xs16 : gs G 16 = 7 := ly16.2.1.1
  have xs23 : gs G 23 = 7 := ly23.2.1.1
  have xs31 : gs G 31 = 6 := ltp.2.1.1
  have xs34 : gs G 34 = 5 := ls34.2.1.1
  have xs36 : gs G 36 = 5 := ls36.2.1.1
  have xs38 : gs G 38 = 5 := ls38.2.1.1
  have xs40 : gs G 40 = 5 := ls40.2.1.1
  obtain ⟨⟨w1, w8, w16, w23⟩, wp, wsn, ws42, ws43, wk, ⟨wh34, wh36, wh38, wh40⟩, wt⟩ := w
  have ly1' := ly1
  obtain ⟨⟨tn0, tn1, tn2, tn3, tn4, tn5, tn6⟩, ⟨ts0, ts1, ts2, ts3, ts4, ts5, ts6⟩, ⟨tr0, tr1, tr2, tr3, tr4, tr5⟩, ⟨tl1, tl2, tl3, tl4, tl5, tl6⟩⟩ := ly1'
  intro n
  induction n with
  | zero =>
    intro j x5 H hj he hs
    obtain rfl : j = 7 := by omega
    have hΦ := hΦ H hs
    refine r_iload 31 dX3_mark_29 rfl rfl ?_
    refine r_bipush 33 dX3_mark_31 rfl rfl (by decide) ?_
    refine r_icmp_ge 72 36 dX3_mark_33 (by decide) rfl (fun c_33 => ?_) (fun c_33 => ?_)
    refine r_iload_n 73 dX3_mark_72 rfl rfl ?_
    refine r_if_ne 80 76 dX3_mark_73 (by decide) rfl (fun c_73 => ?_) (fun c_73 => ?_)
    refine r_iload_n 81 dX3_mark_80 rfl rfl ?_
    refine r_iret dX3_mark_81 rfl ?_
    rotate_left -- leaf: return at pc 81
    refine r_iload_n 77 dX3_mark_76 rfl rfl ?_
    refine r_goto 81 dX3_mark_77 (by decide) ?_
    refine r_iret dX3_mark_81 rfl ?_
    rotate_left -- leaf: return at pc 81
    rotate_left -- leaf: pc 36
    · rw [if_neg c_73] at hΦ
      exact hΦ
    · rw [if_pos c_73] at hΦ
      exact hΦ
    · omega
  | succ n ih =>
    intro j x5 H hj he hs
    have hwn := wT_up0 (m := 9) (v := (j : Int)) hs.2 (by omega) (by omega) (by omega) (by omega)
    have ih := ih (j + 1) (some (vI (mkV h j))) (reb 8 (up H 8 9 j)) (by omega) (fun v => by
      rw [← he v]
      exact reb_cong (eqB_tr (eqB_up eqB_reb) (by rw [up_up]; exact eqB_rf))) ⟨fun a b q q2 => by
        rw [reb_in (by omega), up_k (by omega)]; exact hs.1 a b q q2, wT_reb hwn⟩
    have hv : hmA (reb 8 (up H 8 9 j)) 8 = mkV h j := by rw [he]; rfl
    simp only [miF] at ih
    refine r_iload 31 dX3_mark_29 rfl rfl ?_
    refine r_bipush 33 dX3_mark_31 rfl rfl (by decide) ?_
    refine r_icmp_ge 72 36 dX3_mark_33 (by decide) rfl (fun c_33 => ?_) (fun c_33 => ?_)
    rotate_left -- leaf: pc 72
    refine r_aload_n 37 dX3_mark_36 rfl rfl ?_
    refine r_getR 40 dX3_mark_37 rfl kf_3_16 rfl (by first | assumption | omega) (by assumption) (by assumption) ?_
    refine r_iload 42 dX3_mark_40 rfl rfl ?_
    rotate_left -- leaf: call at pc 42
    · omega
    refine r_cv1 45 dX3_mark_42 rfl kv_3_163 (by first | assumption | omega) (by assumption) rfl rfl (c_setPainted ly8 j hwn) ?_
    rintro r h' ⟨rfl, rfl⟩
    refine r_aload_n 46 dX3_mark_45 rfl rfl ?_
    refine r_getR 49 dX3_mark_46 rfl kf_3_16 rfl (by first | assumption | omega) (by assumption) (by assumption) ?_
    rotate_left -- leaf: call at pc 49
    refine r_cv0 52 dX3_mark_49 rfl kv_3_92 (by first | assumption | omega) (by assumption) rfl rfl (c_harm ly8 (wT_reb hwn)) ?_
    rintro r h' ⟨rfl, rfl⟩
    rw [hv]
    refine r_istore 54 dX3_mark_52 rfl rfl rfl ?_
    refine r_iload 56 dX3_mark_54 rfl rfl ?_
    refine r_iload_n 57 dX3_mark_56 rfl rfl ?_
    refine r_icmp_ge 66 60 dX3_mark_57 (by decide) rfl (fun c_57 => ?_) (fun c_57 => ?_)
    refine r_iinc 69 _ dX3_mark_66 rfl rfl rfl rfl (by first | exact w32_id (by omega) (by omega) | rfl) ?_
    refine r_goto 29 dX3_mark_69 (by decide) ?_
    rotate_left -- leaf: pc 29
    refine r_iload 62 dX3_mark_60 rfl rfl ?_
    refine r_istore_n 63 dX3_mark_62 rfl rfl rfl ?_
    refine r_iload 65 dX3_mark_63 rfl rfl ?_
    refine r_istore_n 66 dX3_mark_65 rfl rfl rfl ?_
    refine r_iinc 69 _ dX3_mark_66 rfl rfl rfl rfl (by first | exact w32_id (by omega) (by omega) | rfl) ?_
    refine r_goto 29 dX3_mark_69 (by decide) ?_
    rotate_left -- leaf: pc 29
    · rw [if_neg (by omega)] at ih
      exact ih
    · rw [if_pos c_57] at ih
      exact ih
theorem scr_cpT (w1 : wT h 1) (w8 : wT h 8) : scr h (cpT h 1 8) := ⟨fun a b q _ => cpT_o (by omega), wT_cpT w1 w8⟩
theorem c_mark (ly : LX G) (w : wX h) (x : Int) : Ca l G 5 mX3_mark [vR 0, vI x] h (fun r h' => r = some (vI (qMark x h)) ∧ scr h h') := by
  have lX0 := ly
  have wX0 := w
  obtain ⟨hN, ⟨ly1, ly8, ly16, ly23⟩, ltp, ⟨ls34, ls36, ls38, ls40⟩, ⟨xs0, xs15, xs30, xs33, xs42, xs43, xs44⟩, ⟨xl15, xl30, xl33, xl42, xl43, xl44⟩, ⟨xr0, xr1, xr2, xr3, xr4, xr5, xr6, xr7, xr8⟩, ⟨yr0, yr1⟩, ⟨zr0, zr1, zr2, zr3⟩⟩ := ly
  have xs1 : gs G 1 = 7 := ly1.2.1.1
  have xs8 : gs G 8 = 7 := ly8.2.1.1
  have xs16 : gs G 16 = 7 := ly16.2.1.1
  have xs23 : gs G 23 = 7 := ly23.2.1.1
  have xs31 : gs G 31 = 6 := ltp.2.1.1
  have xs34 : gs G 34 = 5 := ls34.2.1.1
  have xs36 : gs G 36 = 5 := ls36.2.1.1
  have xs38 : gs G 38 = 5 := ls38.2.1.1
  have xs40 : gs G 40 = 5 := ls40.2.1.1
  obtain ⟨⟨w1, w8, w16, w23⟩, wp, wsn, ws42, ws43, wk, ⟨wh34, wh36, wh38, wh40⟩, wt⟩ := w
  refine Ca.of (by decide) (Nat.le_of_ble_eq_true rfl) (fun hI hv hH => ?_)
  refine r_iload_n 1 dX3_mark_0 rfl rfl ?_
  rotate_left -- leaf: call at pc 1
  refine r_cs1 4 dX3_mark_1 rfl ks_3_133 rfl rfl (c_isFS x) ?_
  rintro r h' ⟨rfl, rfl⟩
  unfold qMark
  refine r_if_ne 9 7 dX3_mark_4 (by decide) rfl (fun c_4 => ?_) (fun c_4 => ?_)
  refine r_aload_n 10 dX3_mark_9 rfl rfl ?_
  refine r_getR 13 dX3_mark_10 rfl kf_3_16 rfl (by first | assumption | omega) (by assumption) (by assumption) ?_
  refine r_aload_n 14 dX3_mark_13 rfl rfl ?_
  refine r_getR 17 dX3_mark_14 rfl kf_3_10 rfl (by first | assumption | omega) (by assumption) (by assumption) ?_
  rotate_left -- leaf: call at pc 17
  refine r_iconst 8 dX3_mark_7 rfl rfl ?_
  refine r_iret dX3_mark_8 rfl ?_
  rotate_left -- leaf: return at pc 8
  · rw [if_neg (fun q => q (z01_y.mp c_4))]
    refine r_cv1 20 dX3_mark_17 rfl kv_3_69 (by first | assumption | omega) (by assumption) rfl rfl (c_copyOf ly8 ly1 (by omega)) ?_
    rintro r h'' ⟨rfl, rfl⟩
    refine r_bipush 22 dX3_mark_20 rfl rfl (by decide) ?_
    refine r_istore_n 23 dX3_mark_22 rfl rfl rfl ?_
    refine r_ldc 25 (2147483647) dX3_mark_23 rfl kq_3_186 rfl ?_
    refine r_istore_n 26 dX3_mark_25 rfl rfl rfl ?_
    refine r_iconst 27 dX3_mark_26 rfl rfl ?_
    refine r_istore 29 dX3_mark_27 rfl rfl rfl ?_
    rotate_left -- leaf: pc 29
    exact l_mark (l := l) lX0 wX0 x (Φ := fun r h'' => r = some (vI (if x = 0 then (miF (mkV h') (-4) 2147483647 7).1 else (miF (mkV h') (-4) 2147483647 7).2)) ∧ scr h' h'') (fun h3 q => ⟨rfl, q⟩) 7 0 none _ rfl (fun _ => rfl) (scr_cpT w1 w8)
  · rw [if_pos (z01_n.mp c_4)]
    exact ⟨rfl, fun _ _ _ _ => rfl, w8⟩
def soV (h : zH) (m : Nat) : Int := hmA (reb 8 (setB (cpT h 1 8) (8 + 3) 12 (fun _ => (m : Int)))) 8
def soA (x : Int) (s : Int × Int) : Int := if x = 0 ∨ s.1 = -4 then s.1 else s.2
def qSole (x : Int) (h : zH) : Int := if ¬ (x = 0 ∨ x = 1) then -1 else soA x (miF (soV h) (-4) 2147483647 (h 1 6).toNat)
theorem setB_setB {k n : Nat} {f g : Nat → Int} {X : zH} : setB (setB X k n f) k n g = setB X k n g := by
  funext a b
  unfold setB
  split <;> rfl
theorem eqB_setB {p k n : Nat} {f : Nat → Int} {X Y : zH} (e : eqB p X Y) : eqB p (setB X k n f) (setB Y k n f) := fun a b q => by
  unfold setB
  split
  · rfl
  · exact e a b q
theorem l_sole (ly : LX G) (w : wX h) (x : Int) {Φ : Option zV → zH → Prop} (hΦ : ∀ h', scr h h' → Φ (some (vI (soA x (miF (soV h) (-4) 2147483647 (h 1 6).toNat)))) h') : ∀ (n j : Nat) (x5 : Option zV) (H : zH), j + n = (h 1 6).toNat → (∀ v : Int, reb 8 (setB H (8 + 3) 12 (fun _ => v)) = reb 8 (setB (cpT h 1 8) (8 + 3) 12 (fun _ => v))) → scr h H → Rr l G 5 mX3_sole Φ 29 [some (vR 0), some (vI x), some (vI (miF (soV h) (-4) 2147483647 j).1), some (vI (miF (soV h) (-4) 2147483647 j).2), some (vI j), x5] [] H := by
  obtain ⟨hN, ⟨ly1, ly8, ly16, ly23⟩, ltp, ⟨ls34, ls36, ls38, ls40⟩, ⟨xs0, xs15, xs30, xs33, xs42, xs43, xs44⟩, ⟨xl15, xl30, xl33, xl42, xl43, xl44⟩, ⟨xr0, xr1, xr2, xr3, xr4, xr5, xr6, xr7, xr8⟩, ⟨yr0, yr1⟩, ⟨zr0, zr1, zr2, zr3⟩⟩ := ly
  have xs1 : gs G 1 = 7 := ly1.2.1.1
  have xs8 : gs G 8 = 7 := ly8.2.1.1
  have xs16 : gs G 16 = 7 := ly16.2.1.1
  have xs23 : gs G 23 = 7 := ly23.2.1.1
  have xs31 : gs G 31 = 6 := ltp.2.1.1
  have xs34 : gs G 34 = 5 := ls34.2.1.1
  have xs36 : gs G 36 = 5 := ls36.2.1.1
  have xs38 : gs G 38 = 5 := ls38.2.1.1
  have xs40 : gs G 40 = 5 := ls40.2.1.1
  obtain ⟨⟨w1, w8, w16, w23⟩, wp, wsn, ws42, ws43, wk, ⟨wh34, wh36, wh38, wh40⟩, wt⟩ := w
  have ly1' := ly1
  obtain ⟨⟨tn0, tn1, tn2, tn3, tn4, tn5, tn6⟩, ⟨ts0, ts1, ts2, ts3, ts4, ts5, ts6⟩, ⟨tr0, tr1, tr2, tr3, tr4, tr5⟩, ⟨tl1, tl2, tl3, tl4, tl5, tl6⟩⟩ := ly1'
  have w1' := w1
  obtain ⟨tw1, tw2, tw3, tw4, tw5, tw6, tw7, tw8, tw9, tw10⟩ := w1'
  intro n
  induction n with
  | zero =>
    intro j x5 H hj he hs
    have hΦ := hΦ H hs
    rw [← hj, Nat.add_zero] at hΦ
    have e6 : H 1 6 = h 1 6 := hs.1 1 6 (by omega) (by omega)
    refine r_iload 31 dX3_sole_29 rfl rfl ?_
    refine r_aload_n 32 dX3_sole_31 rfl rfl ?_
    refine r_getR 35 dX3_sole_32 rfl kf_3_10 rfl (by first | assumption | omega) (by assumption) (by assumption) ?_
    refine r_getI 38 dX3_sole_35 rfl kf_3_76 rfl (by first | assumption | omega) (by assumption) ?_
    rotate_left -- leaf: pc 38
    rw [e6]
    refine r_icmp_ge 77 41 dX3_sole_38 (by decide) rfl (fun c_38 => ?_) (fun c_38 => ?_)
    refine r_iload_n 78 dX3_sole_77 rfl rfl ?_
    refine r_if_eq 87 81 dX3_sole_78 (by decide) rfl (fun c_78 => ?_) (fun c_78 => ?_)
    refine r_iload_n 88 dX3_sole_87 rfl rfl ?_
    refine r_goto 92 dX3_sole_88 (by decide) ?_
    refine r_iret dX3_sole_92 rfl ?_
    rotate_left -- leaf: return at pc 92
    refine r_iload_n 82 dX3_sole_81 rfl rfl ?_
    refine r_bipush 84 dX3_sole_82 rfl rfl (by decide) ?_
    refine r_icmp_ne 91 87 dX3_sole_84 (by decide) rfl (fun c_84 => ?_) (fun c_84 => ?_)
    refine r_iload_n 92 dX3_sole_91 rfl rfl ?_
    refine r_iret dX3_sole_92 rfl ?_
    rotate_left -- leaf: return at pc 92
    refine r_iload_n 88 dX3_sole_87 rfl rfl ?_
    refine r_goto 92 dX3_sole_88 (by decide) ?_
    refine r_iret dX3_sole_92 rfl ?_
    rotate_left -- leaf: return at pc 92
    rotate_left -- leaf: pc 41
    · unfold soA at hΦ
      rw [if_pos (Or.inl c_78)] at hΦ
      exact hΦ
    · unfold soA at hΦ
      rw [if_neg (by omega)] at hΦ
      exact hΦ
    · unfold soA at hΦ
      rw [if_pos (Or.inr c_84)] at hΦ
      exact hΦ
    · omega
  | succ n ih =>
    intro j x5 H hj he hs
    have e6 : H 1 6 = h 1 6 := hs.1 1 6 (by omega) (by omega)
    have hwn := wT_st (f := fun _ => (j : Int)) hs.2 (fun _ => by omega)
    have ih := ih (j + 1) (some (vI (soV h j))) (reb 8 (setB H (8 + 3) 12 (fun _ => (j : Int)))) (by omega) (fun v => by
      rw [← he v]
      exact reb_cong (eqB_tr (eqB_setB eqB_reb) (by rw [setB_setB]; exact eqB_rf))) ⟨fun a b q q2 => by
        rw [reb_in (by omega), setB_n (by omega)]; exact hs.1 a b q q2, wT_reb hwn⟩
    have hv : hmA (reb 8 (setB H (8 + 3) 12 (fun _ => (j : Int)))) 8 = soV h j := by rw [he]; rfl
    simp only [miF] at ih
    refine r_iload 31 dX3_sole_29 rfl rfl ?_
    refine r_aload_n 32 dX3_sole_31 rfl rfl ?_
    refine r_getR 35 dX3_sole_32 rfl kf_3_10 rfl (by first | assumption | omega) (by assumption) (by assumption) ?_
    refine r_getI 38 dX3_sole_35 rfl kf_3_76 rfl (by first | assumption | omega) (by assumption) ?_
    rotate_left -- leaf: pc 38
    rw [e6]
    refine r_icmp_ge 77 41 dX3_sole_38 (by decide) rfl (fun c_38 => ?_) (fun c_38 => ?_)
    rotate_left -- leaf: pc 77
    refine r_aload_n 42 dX3_sole_41 rfl rfl ?_
    refine r_getR 45 dX3_sole_42 rfl kf_3_16 rfl (by first | assumption | omega) (by assumption) (by assumption) ?_
    refine r_iload 47 dX3_sole_45 rfl rfl ?_
    rotate_left -- leaf: call at pc 47
    · omega
    refine r_cv1 50 dX3_sole_47 rfl kv_3_193 (by first | assumption | omega) (by assumption) rfl rfl (c_setAllStand ly8 j hwn) ?_
    rintro r h' ⟨rfl, rfl⟩
    refine r_aload_n 51 dX3_sole_50 rfl rfl ?_
    refine r_getR 54 dX3_sole_51 rfl kf_3_16 rfl (by first | assumption | omega) (by assumption) (by assumption) ?_
    rotate_left -- leaf: call at pc 54
    refine r_cv0 57 dX3_sole_54 rfl kv_3_92 (by first | assumption | omega) (by assumption) rfl rfl (c_harm ly8 (wT_reb hwn)) ?_
    rintro r h' ⟨rfl, rfl⟩
    rw [hv]
    refine r_istore 59 dX3_sole_57 rfl rfl rfl ?_
    refine r_iload 61 dX3_sole_59 rfl rfl ?_
    refine r_iload_n 62 dX3_sole_61 rfl rfl ?_
    refine r_icmp_ge 71 65 dX3_sole_62 (by decide) rfl (fun c_62 => ?_) (fun c_62 => ?_)
    refine r_iinc 74 _ dX3_sole_71 rfl rfl rfl rfl (by first | exact w32_id (by omega) (by omega) | rfl) ?_
    refine r_goto 29 dX3_sole_74 (by decide) ?_
    rotate_left -- leaf: pc 29
    refine r_iload 67 dX3_sole_65 rfl rfl ?_
    refine r_istore_n 68 dX3_sole_67 rfl rfl rfl ?_
    refine r_iload 70 dX3_sole_68 rfl rfl ?_
    refine r_istore_n 71 dX3_sole_70 rfl rfl rfl ?_
    refine r_iinc 74 _ dX3_sole_71 rfl rfl rfl rfl (by first | exact w32_id (by omega) (by omega) | rfl) ?_
    refine r_goto 29 dX3_sole_74 (by decide) ?_
    rotate_left -- leaf: pc 29
    · rw [if_neg (by omega)] at ih
      exact ih
    · rw [if_pos c_62] at ih
      exact ih
theorem c_sole (ly : LX G) (w : wX h) (x : Int) : Ca l G 5 mX3_sole [vR 0, vI x] h (fun r h' => r = some (vI (qSole x h)) ∧ scr h h') := by
  have lX0 := ly
  have wX0 := w
  obtain ⟨hN, ⟨ly1, ly8, ly16, ly23⟩, ltp, ⟨ls34, ls36, ls38, ls40⟩, ⟨xs0, xs15, xs30, xs33, xs42, xs43, xs44⟩, ⟨xl15, xl30, xl33, xl42, xl43, xl44⟩, ⟨xr0, xr1, xr2, xr3, xr4, xr5, xr6, xr7, xr8⟩, ⟨yr0, yr1⟩, ⟨zr0, zr1, zr2, zr3⟩⟩ := ly
  have xs1 : gs G 1 = 7 := ly1.2.1.1
  have xs8 : gs G 8 = 7 := ly8.2.1.1
  have xs16 : gs G 16 = 7 := ly16.2.1.1
  have xs23 : gs G 23 = 7 := ly23.2.1.1
  have xs31 : gs G 31 = 6 := ltp.2.1.1
  have xs34 : gs G 34 = 5 := ls34.2.1.1
  have xs36 : gs G 36 = 5 := ls36.2.1.1
  have xs38 : gs G 38 = 5 := ls38.2.1.1
  have xs40 : gs G 40 = 5 := ls40.2.1.1
  obtain ⟨⟨w1, w8, w16, w23⟩, wp, wsn, ws42, ws43, wk, ⟨wh34, wh36, wh38, wh40⟩, wt⟩ := w
  refine Ca.of (by decide) (Nat.le_of_ble_eq_true rfl) (fun hI hv hH => ?_)
  refine r_iload_n 1 dX3_sole_0 rfl rfl ?_
  rotate_left -- leaf: call at pc 1
  refine r_cs1 4 dX3_sole_1 rfl ks_3_133 rfl rfl (c_isFS x) ?_
  rintro r h' ⟨rfl, rfl⟩
  unfold qSole
  refine r_if_ne 9 7 dX3_sole_4 (by decide) rfl (fun c_4 => ?_) (fun c_4 => ?_)
  refine r_aload_n 10 dX3_sole_9 rfl rfl ?_
  refine r_getR 13 dX3_sole_10 rfl kf_3_16 rfl (by first | assumption | omega) (by assumption) (by assumption) ?_
  refine r_aload_n 14 dX3_sole_13 rfl rfl ?_
  refine r_getR 17 dX3_sole_14 rfl kf_3_10 rfl (by first | assumption | omega) (by assumption) (by assumption) ?_
  rotate_left -- leaf: call at pc 17
  refine r_iconst 8 dX3_sole_7 rfl rfl ?_
  refine r_iret dX3_sole_8 rfl ?_
  rotate_left -- leaf: return at pc 8
  · rw [if_neg (fun q => q (z01_y.mp c_4))]
    refine r_cv1 20 dX3_sole_17 rfl kv_3_69 (by first | assumption | omega) (by assumption) rfl rfl (c_copyOf ly8 ly1 (by omega)) ?_
    rintro r h'' ⟨rfl, rfl⟩
    refine r_bipush 22 dX3_sole_20 rfl rfl (by decide) ?_
    refine r_istore_n 23 dX3_sole_22 rfl rfl rfl ?_
    refine r_ldc 25 (2147483647) dX3_sole_23 rfl kq_3_186 rfl ?_
    refine r_istore_n 26 dX3_sole_25 rfl rfl rfl ?_
    refine r_iconst 27 dX3_sole_26 rfl rfl ?_
    refine r_istore 29 dX3_sole_27 rfl rfl rfl ?_
    rotate_left -- leaf: pc 29
    exact l_sole (l := l) lX0 wX0 x (Φ := fun r h'' => r = some (vI (soA x (miF (soV h') (-4) 2147483647 (h' 1 6).toNat))) ∧ scr h' h'') (fun h3 q => ⟨rfl, q⟩) (h' 1 6).toNat 0 none _ (by omega) (fun _ => rfl) (scr_cpT w1 w8)
  · rw [if_pos (z01_n.mp c_4)]
    exact ⟨rfl, fun _ _ _ _ => rfl, w8⟩
/-- of pairs (n, k), k in its row from a on, the least below what there was, the first; code: what is told of a pair -/
def mrF (f : Nat → Int) (code : Nat → Int) (s : Int × Int) : Nat → Int × Int
  | 0 => s
  | n + 1 => if f n < (mrF f code s n).2 then (code n, f n) else mrF f code s n
def gvV (h : zH) (j m : Nat) : Int := hmA (reb 8 (up (cpT h 1 8) (8 + 3) j (m : Int))) 8
def gvF (h : zH) : Nat → Int × Int
  | 0 => (-4, hmA h 1)
  | j + 1 => mrF (gvV h j) (fun m => 10 * (j : Int) + m) (gvF h j) (h 1 6).toNat
def qGive (x : Int) (h : zH) : Int := if ¬ (x = 0 ∨ x = 1) then -1 else soA x (gvF h 12)
theorem l_giveI (ly : LX G) (w : wX h) (x : Int) {Φ : Option zV → zH → Prop} (j : Nat) (hj : j < 12)
    (hΦ : ∀ (x6 : Option zV) (H : zH), eqB 8 (up H (8 + 3) j (h (1 + 3) j)) (cpT h 1 8) → scr h H → Rr l G 5 mX3_give Φ 100 [some (vR 0), some (vI x), some (vI (gvF h (j + 1)).1), some (vI (gvF h (j + 1)).2), some (vI j), some (vI (h 1 6)), x6] [] H) :
    ∀ (n m : Nat) (x6 : Option zV) (H : zH), m + n = (h 1 6).toNat → eqB 8 (up H (8 + 3) j (h (1 + 3) j)) (cpT h 1 8) → scr h H → Rr l G 5 mX3_give Φ 44 [some (vR 0), some (vI x), some (vI (mrF (gvV h j) (fun m => 10 * (j : Int) + m) (gvF h j) m).1), some (vI (mrF (gvV h j) (fun m => 10 * (j : Int) + m) (gvF h j) m).2), some (vI j), some (vI m), x6] [] H := by
  obtain ⟨hN, ⟨ly1, ly8, ly16, ly23⟩, ltp, ⟨ls34, ls36, ls38, ls40⟩, ⟨xs0, xs15, xs30, xs33, xs42, xs43, xs44⟩, ⟨xl15, xl30, xl33, xl42, xl43, xl44⟩, ⟨xr0, xr1, xr2, xr3, xr4, xr5, xr6, xr7, xr8⟩, ⟨yr0, yr1⟩, ⟨zr0, zr1, zr2, zr3⟩⟩ := ly
  have xs1 : gs G 1 = 7 := ly1.2.1.1
  have xs8 : gs G 8 = 7 := ly8.2.1.1
  have xs16 : gs G 16 = 7 := ly16.2.1.1
  have xs23 : gs G 23 = 7 := ly23.2.1.1
  have xs31 : gs G 31 = 6 := ltp.2.1.1
  have xs34 : gs G 34 = 5 := ls34.2.1.1
  have xs36 : gs G 36 = 5 := ls36.2.1.1
  have xs38 : gs G 38 = 5 := ls38.2.1.1
  have xs40 : gs G 40 = 5 := ls40.2.1.1
  obtain ⟨⟨w1, w8, w16, w23⟩, wp, wsn, ws42, ws43, wk, ⟨wh34, wh36, wh38, wh40⟩, wt⟩ := w
  have ly1' := ly1
  obtain ⟨⟨tn0, tn1, tn2, tn3, tn4, tn5, tn6⟩, ⟨ts0, ts1, ts2, ts3, ts4, ts5, ts6⟩, ⟨tr0, tr1, tr2, tr3, tr4, tr5⟩, ⟨tl1, tl2, tl3, tl4, tl5, tl6⟩⟩ := ly1'
  have w1' := w1
  obtain ⟨tw1, tw2, tw3, tw4, tw5, tw6, tw7, tw8, tw9, tw10⟩ := w1'
  intro n
  induction n with
  | zero =>
    intro m x6 H hm he hs
    have hΦ := hΦ x6 H he hs
    have e6 : H 1 6 = h 1 6 := hs.1 1 6 (by omega) (by omega)
    refine r_iload 46 dX3_give_44 rfl rfl ?_
    refine r_aload_n 47 dX3_give_46 rfl rfl ?_
    refine r_getR 50 dX3_give_47 rfl kf_3_10 rfl (by first | assumption | omega) (by assumption) (by assumption) ?_
    refine r_getI 53 dX3_give_50 rfl kf_3_76 rfl (by first | assumption | omega) (by assumption) ?_
    rotate_left -- leaf: pc 53
    rw [e6]
    refine r_icmp_ge 100 56 dX3_give_53 (by decide) rfl (fun c_53 => ?_) (fun c_53 => ?_)
    rotate_left -- leaf: pc 100
    rotate_left -- leaf: pc 56
    · rw [gvF, show (h 1 6).toNat = m by omega, show h 1 6 = (m : Int) by omega] at hΦ
      exact hΦ
    · omega
  | succ n ih =>
    intro m x6 H hm he hs
    have e6 : H 1 6 = h 1 6 := hs.1 1 6 (by omega) (by omega)
    have hwn := wT_up3 (m := j) (v := (m : Int)) hs.2 (by omega)
    have e1 : ∀ v : Int, reb 8 (up H (8 + 3) j v) = reb 8 (up (cpT h 1 8) (8 + 3) j v) := fun v => by
      have := eqB_up (k := 8 + 3) (j := j) (v := v) he
      rw [up_up] at this
      exact reb_cong this
    have ih := ih (m + 1) (some (vI (gvV h j m))) (reb 8 (up H (8 + 3) j (m : Int))) (by omega) (eqB_tr (eqB_up eqB_reb) (by rw [up_up]; exact he)) ⟨fun a b q q2 => by
        rw [reb_in (by omega), up_k (by omega)]; exact hs.1 a b q q2, wT_reb hwn⟩
    have hv : hmA (reb 8 (up H (8 + 3) j (m : Int))) 8 = gvV h j m := by rw [e1]; rfl
    simp only [mrF] at ih
    refine r_iload 46 dX3_give_44 rfl rfl ?_
    refine r_aload_n 47 dX3_give_46 rfl rfl ?_
    refine r_getR 50 dX3_give_47 rfl kf_3_10 rfl (by first | assumption | omega) (by assumption) (by assumption) ?_
    refine r_getI 53 dX3_give_50 rfl kf_3_76 rfl (by first | assumption | omega) (by assumption) ?_
    rotate_left -- leaf: pc 53
    rw [e6]
    refine r_icmp_ge 100 56 dX3_give_53 (by decide) rfl (fun c_53 => ?_) (fun c_53 => ?_)
    rotate_left -- leaf: pc 100
    refine r_aload_n 57 dX3_give_56 rfl rfl ?_
    refine r_getR 60 dX3_give_57 rfl kf_3_16 rfl (by first | assumption | omega) (by assumption) (by assumption) ?_
    refine r_iload 62 dX3_give_60 rfl rfl ?_
    refine r_iload 64 dX3_give_62 rfl rfl ?_
    rotate_left -- leaf: call at pc 64
    · omega
    refine r_cv2 67 dX3_give_64 rfl kv_3_153 (by first | assumption | omega) (by assumption) rfl rfl (c_setStands ly8 j hj m hwn) ?_
    rintro r h' ⟨rfl, rfl⟩
    refine r_aload_n 68 dX3_give_67 rfl rfl ?_
    refine r_getR 71 dX3_give_68 rfl kf_3_16 rfl (by first | assumption | omega) (by assumption) (by assumption) ?_
    rotate_left -- leaf: call at pc 71
    refine r_cv0 74 dX3_give_71 rfl kv_3_92 (by first | assumption | omega) (by assumption) rfl rfl (c_harm ly8 (wT_reb hwn)) ?_
    rintro r h' ⟨rfl, rfl⟩
    rw [hv]
    refine r_istore 76 dX3_give_74 rfl rfl rfl ?_
    refine r_iload 78 dX3_give_76 rfl rfl ?_
    refine r_iload_n 79 dX3_give_78 rfl rfl ?_
    refine r_icmp_ge 94 82 dX3_give_79 (by decide) rfl (fun c_79 => ?_) (fun c_79 => ?_)
    refine r_iinc 97 _ dX3_give_94 rfl rfl rfl rfl (by first | exact w32_id (by omega) (by omega) | rfl) ?_
    refine r_goto 44 dX3_give_97 (by decide) ?_
    rotate_left -- leaf: pc 44
    refine r_iload 84 dX3_give_82 rfl rfl ?_
    refine r_istore_n 85 dX3_give_84 rfl rfl rfl ?_
    refine r_bipush 87 dX3_give_85 rfl rfl (by decide) ?_
    refine r_iload 89 dX3_give_87 rfl rfl ?_
    refine r_imul 90 dX3_give_89 rfl (by first | exact w32_id (by omega) (by omega) | rfl) ?_
    refine r_iload 92 dX3_give_90 rfl rfl ?_
    refine r_iadd 93 dX3_give_92 rfl (by first | exact w32_id (by omega) (by omega) | rfl) ?_
    refine r_istore_n 94 dX3_give_93 rfl rfl rfl ?_
    refine r_iinc 97 _ dX3_give_94 rfl rfl rfl rfl (by first | exact w32_id (by omega) (by omega) | rfl) ?_
    refine r_goto 44 dX3_give_97 (by decide) ?_
    rotate_left -- leaf: pc 44
    · rw [if_neg (by omega)] at ih
      exact ih
    · rw [if_pos c_79] at ih
      exact ih
theorem l_give (ly : LX G) (w : wX h) (x : Int) {Φ : Option zV → zH → Prop} (hΦ : ∀ h', scr h h' → Φ (some (vI (soA x (gvF h 12)))) h') : ∀ (n j : Nat) (x5 x6 : Option zV) (H : zH), j + n = 12 → eqB 8 H (cpT h 1 8) → scr h H → Rr l G 5 mX3_give Φ 34 [some (vR 0), some (vI x), some (vI (gvF h j).1), some (vI (gvF h j).2), some (vI j), x5, x6] [] H := by
  have lX0 := ly
  have wX0 := w
  obtain ⟨hN, ⟨ly1, ly8, ly16, ly23⟩, ltp, ⟨ls34, ls36, ls38, ls40⟩, ⟨xs0, xs15, xs30, xs33, xs42, xs43, xs44⟩, ⟨xl15, xl30, xl33, xl42, xl43, xl44⟩, ⟨xr0, xr1, xr2, xr3, xr4, xr5, xr6, xr7, xr8⟩, ⟨yr0, yr1⟩, ⟨zr0, zr1, zr2, zr3⟩⟩ := ly
  have xs1 : gs G 1 = 7 := ly1.2.1.1
  have xs8 : gs G 8 = 7 := ly8.2.1.1
  have xs16 : gs G 16 = 7 := ly16.2.1.1
  have xs23 : gs G 23 = 7 := ly23.2.1.1
  have xs31 : gs G 31 = 6 := ltp.2.1.1
  have xs34 : gs G 34 = 5 := ls34.2.1.1
  have xs36 : gs G 36 = 5 := ls36.2.1.1
  have xs38 : gs G 38 = 5 := ls38.2.1.1
  have xs40 : gs G 40 = 5 := ls40.2.1.1
  obtain ⟨⟨w1, w8, w16, w23⟩, wp, wsn, ws42, ws43, wk, ⟨wh34, wh36, wh38, wh40⟩, wt⟩ := w
  have ly1' := ly1
  obtain ⟨⟨tn0, tn1, tn2, tn3, tn4, tn5, tn6⟩, ⟨ts0, ts1, ts2, ts3, ts4, ts5, ts6⟩, ⟨tr0, tr1, tr2, tr3, tr4, tr5⟩, ⟨tl1, tl2, tl3, tl4, tl5, tl6⟩⟩ := ly1'
  have w1' := w1
  obtain ⟨tw1, tw2, tw3, tw4, tw5, tw6, tw7, tw8, tw9, tw10⟩ := w1'
  intro n
  induction n with
  | zero =>
    intro j x5 x6 H hj he hs
    obtain rfl : j = 12 := by omega
    have hΦ := hΦ H hs
    unfold soA at hΦ
    refine r_iload 36 dX3_give_34 rfl rfl ?_
    refine r_bipush 38 dX3_give_36 rfl rfl (by decide) ?_
    refine r_icmp_ge 125 41 dX3_give_38 (by decide) rfl (fun c_38 => ?_) (fun c_38 => ?_)
    refine r_iload_n 126 dX3_give_125 rfl rfl ?_
    refine r_if_eq 135 129 dX3_give_126 (by decide) rfl (fun c_126 => ?_) (fun c_126 => ?_)
    refine r_iload_n 136 dX3_give_135 rfl rfl ?_
    refine r_goto 140 dX3_give_136 (by decide) ?_
    refine r_iret dX3_give_140 rfl ?_
    rotate_left -- leaf: return at pc 140
    refine r_iload_n 130 dX3_give_129 rfl rfl ?_
    refine r_bipush 132 dX3_give_130 rfl rfl (by decide) ?_
    refine r_icmp_ne 139 135 dX3_give_132 (by decide) rfl (fun c_132 => ?_) (fun c_132 => ?_)
    refine r_iload_n 140 dX3_give_139 rfl rfl ?_
    refine r_iret dX3_give_140 rfl ?_
    rotate_left -- leaf: return at pc 140
    refine r_iload_n 136 dX3_give_135 rfl rfl ?_
    refine r_goto 140 dX3_give_136 (by decide) ?_
    refine r_iret dX3_give_140 rfl ?_
    rotate_left -- leaf: return at pc 140
    rotate_left -- leaf: pc 41
    · rw [if_pos (Or.inl c_126)] at hΦ
      exact hΦ
    · rw [if_neg (by omega)] at hΦ
      exact hΦ
    · rw [if_pos (Or.inr c_132)] at hΦ
      exact hΦ
    · omega
  | succ n ih =>
    intro j x5 x6 H hj he hs
    have eC : cpT h 1 8 (8 + 3) j = h (1 + 3) j := cpT_r 3 (by omega) (show j < 12 by omega)
    refine r_iload 36 dX3_give_34 rfl rfl ?_
    refine r_bipush 38 dX3_give_36 rfl rfl (by decide) ?_
    refine r_icmp_ge 125 41 dX3_give_38 (by decide) rfl (fun c_38 => ?_) (fun c_38 => ?_)
    rotate_left -- leaf: pc 125
    refine r_iconst 42 dX3_give_41 rfl rfl ?_
    refine r_istore 44 dX3_give_42 rfl rfl rfl ?_
    rotate_left -- leaf: pc 44
    · omega
    have e0 : eqB 8 (up H (8 + 3) j (h (1 + 3) j)) (cpT h 1 8) := by
      have := eqB_up (k := 8 + 3) (j := j) (v := h (1 + 3) j) he
      rw [← eC, up_id, eC] at this
      exact this
    refine l_giveI (l := l) lX0 wX0 x j (by omega) (fun x6 H he hs => ?_) (h 1 6).toNat 0 x6 H (by omega) e0 hs
    have e3 : H (1 + 3) j = h (1 + 3) j := hs.1 _ _ (by omega) (by omega)
    have hwn := wT_up3 (m := j) (v := h (1 + 3) j) hs.2 (tw7 j)
    refine r_aload_n 101 dX3_give_100 rfl rfl ?_
    refine r_getR 104 dX3_give_101 rfl kf_3_16 rfl (by first | assumption | omega) (by assumption) (by assumption) ?_
    refine r_iload 106 dX3_give_104 rfl rfl ?_
    refine r_aload_n 107 dX3_give_106 rfl rfl ?_
    refine r_getR 110 dX3_give_107 rfl kf_3_10 rfl (by first | assumption | omega) (by assumption) (by assumption) ?_
    refine r_getR 113 dX3_give_110 rfl kf_3_114 rfl (by first | assumption | omega) (by assumption) (by assumption) ?_
    refine r_iload 115 dX3_give_113 rfl rfl ?_
    refine r_iald 116 dX3_give_115 rfl (by first | assumption | omega) (by assumption) (by first | omega | (simp only [Int.toNat_natCast]; omega)) (by first | omega | (simp only [Int.toNat_natCast]; omega)) ?_
    rotate_left -- leaf: call at pc 116
    rw [Int.toNat_natCast, e3]
    refine r_cv2 119 dX3_give_116 rfl kv_3_153 (by first | assumption | omega) (by assumption) rfl rfl (c_setStands ly8 j (by omega) (h (1 + 3) j) hwn) ?_
    rintro r h' ⟨rfl, rfl⟩
    refine r_iinc 122 _ dX3_give_119 rfl rfl rfl rfl (by first | exact w32_id (by omega) (by omega) | rfl) ?_
    refine r_goto 34 dX3_give_122 (by decide) ?_
    rotate_left -- leaf: pc 34
    exact ih (j + 1) _ _ _ (by omega) (eqB_tr eqB_reb he) ⟨fun a b q q2 => by
        rw [reb_in (by omega), up_k (by omega)]; exact hs.1 a b q q2, wT_reb hwn⟩
theorem c_give (ly : LX G) (w : wX h) (x : Int) : Ca l G 5 mX3_give [vR 0, vI x] h (fun r h' => r = some (vI (qGive x h)) ∧ scr h h') := by
  have lX0 := ly
  have wX0 := w
  obtain ⟨hN, ⟨ly1, ly8, ly16, ly23⟩, ltp, ⟨ls34, ls36, ls38, ls40⟩, ⟨xs0, xs15, xs30, xs33, xs42, xs43, xs44⟩, ⟨xl15, xl30, xl33, xl42, xl43, xl44⟩, ⟨xr0, xr1, xr2, xr3, xr4, xr5, xr6, xr7, xr8⟩, ⟨yr0, yr1⟩, ⟨zr0, zr1, zr2, zr3⟩⟩ := ly
  have xs1 : gs G 1 = 7 := ly1.2.1.1
  have xs8 : gs G 8 = 7 := ly8.2.1.1
  have xs16 : gs G 16 = 7 := ly16.2.1.1
  have xs23 : gs G 23 = 7 := ly23.2.1.1
  have xs31 : gs G 31 = 6 := ltp.2.1.1
  have xs34 : gs G 34 = 5 := ls34.2.1.1
  have xs36 : gs G 36 = 5 := ls36.2.1.1
  have xs38 : gs G 38 = 5 := ls38.2.1.1
  have xs40 : gs G 40 = 5 := ls40.2.1.1
  obtain ⟨⟨w1, w8, w16, w23⟩, wp, wsn, ws42, ws43, wk, ⟨wh34, wh36, wh38, wh40⟩, wt⟩ := w
  refine Ca.of (by decide) (Nat.le_of_ble_eq_true rfl) (fun hI hv hH => ?_)
  refine r_iload_n 1 dX3_give_0 rfl rfl ?_
  rotate_left -- leaf: call at pc 1
  refine r_cs1 4 dX3_give_1 rfl ks_3_133 rfl rfl (c_isFS x) ?_
  rintro r h' ⟨rfl, rfl⟩
  unfold qGive
  refine r_if_ne 9 7 dX3_give_4 (by decide) rfl (fun c_4 => ?_) (fun c_4 => ?_)
  refine r_aload_n 10 dX3_give_9 rfl rfl ?_
  refine r_getR 13 dX3_give_10 rfl kf_3_16 rfl (by first | assumption | omega) (by assumption) (by assumption) ?_
  refine r_aload_n 14 dX3_give_13 rfl rfl ?_
  refine r_getR 17 dX3_give_14 rfl kf_3_10 rfl (by first | assumption | omega) (by assumption) (by assumption) ?_
  rotate_left -- leaf: call at pc 17
  refine r_iconst 8 dX3_give_7 rfl rfl ?_
  refine r_iret dX3_give_8 rfl ?_
  rotate_left -- leaf: return at pc 8
  · rw [if_neg (fun q => q (z01_y.mp c_4))]
    refine r_cv1 20 dX3_give_17 rfl kv_3_69 (by first | assumption | omega) (by assumption) rfl rfl (c_copyOf ly8 ly1 (by omega)) ?_
    rintro r h'' ⟨rfl, rfl⟩
    refine r_bipush 22 dX3_give_20 rfl rfl (by decide) ?_
    refine r_istore_n 23 dX3_give_22 rfl rfl rfl ?_
    refine r_aload_n 24 dX3_give_23 rfl rfl ?_
    refine r_getR 27 dX3_give_24 rfl kf_3_10 rfl (by first | assumption | omega) (by assumption) (by assumption) ?_
    rotate_left -- leaf: call at pc 27
    have hc : wT (cpT h' 1 8) 1 := wT_cong (fun a b q1 q2 => cpT_o (by omega)) w1
    have hh : hmA (cpT h' 1 8) 1 = hmA h' 1 := by
      unfold hmA haA dnA fiF rdsB
      simp only [cpT_o (h := h') (q := 1) (p := 8) (a := 1) (by omega), cpT_o (h := h') (q := 1) (p := 8) (a := 1 + 3) (by omega), cpT_o (h := h') (q := 1) (p := 8) (a := 1 + 4) (by omega), cpT_o (h := h') (q := 1) (p := 8) (a := 1 + 5) (by omega), cpT_o (h := h') (q := 1) (p := 8) (a := 1 + 6) (by omega)]
    refine r_cv0 30 dX3_give_27 rfl kv_3_92 (by first | assumption | omega) (by assumption) rfl rfl (c_harm ly1 hc) ?_
    rintro r h'' ⟨rfl, rfl⟩
    rw [hh]
    refine r_istore_n 31 dX3_give_30 rfl rfl rfl ?_
    refine r_iconst 32 dX3_give_31 rfl rfl ?_
    refine r_istore 34 dX3_give_32 rfl rfl rfl ?_
    rotate_left -- leaf: pc 34
    exact l_give (l := l) lX0 wX0 x (Φ := fun r h'' => r = some (vI (soA x (gvF h' 12))) ∧ scr h' h'') (fun h3 q => ⟨rfl, q⟩) 12 0 none none _ rfl eqB_rf (scr_cpT w1 w8)
  · rw [if_pos (z01_n.mp c_4)]
    exact ⟨rfl, fun _ _ _ _ => rfl, w8⟩
end SX
