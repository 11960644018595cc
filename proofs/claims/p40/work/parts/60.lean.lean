/-! what a changed man does: lean, leans, kinds in general -/
def sxV (h : zH) (k m i : Nat) (v : Int) : Int := dnA (reb 8 (up (cpT h 1 8) k m v)) 8 i
def lnB (h : zH) (m i : Nat) (q : Int) (j : Nat) : Bool := decide (¬ sxV h (8 + 2) m i (zNear j) = -4 ∧ sxV h (8 + 2) m i (zNear j) ≤ q)
def fst7 (ok : Nat → Bool) : Nat → Nat → Int
  | 0, _ => -4
  | k + 1, j => if ok j = true then zNear j else fst7 ok k (j + 1)
def qLean (m i q : Int) (h : zH) : Int := if ¬ ((0 ≤ m ∧ m < h 1 6) ∧ (0 ≤ i ∧ i < h 1 7) ∧ (0 ≤ q ∧ q < 48)) then -1 else fst7 (lnB h m.toNat i.toNat q) 7 0
theorem zNear_in : ∀ j, j < 7 → 0 ≤ zNear j ∧ zNear j ≤ 6 := by decide
def allN (c : Nat → Bool) : Nat → Bool
  | 0 => true
  | n + 1 => allN c n && c n
theorem allN_f {c : Nat → Bool} {j : Nat} (hc : ¬ c j = true) : ∀ n, j < n → ¬ allN c n = true
  | 0, h => absurd h (by omega)
  | n + 1, h => by
    rw [allN, Bool.and_eq_true]
    by_cases e : j = n
    · subst e; exact fun z => hc z.2
    · exact fun z => allN_f hc n (by omega) z.1
theorem allN_cong {c d : Nat → Bool} : ∀ n, (∀ j, j < n → c j = d j) → allN c n = allN d n
  | 0, _ => rfl
  | n + 1, h => by rw [allN, allN, allN_cong n (fun j hj => h j (by omega)), h n (by omega)]
def snB (H : zH) (s : Nat) : Bool := decide ((0 ≤ H 42 s ∧ H 42 s < H 8 7) ∧ dnA H 8 (H 42 s).toNat = H 43 s)
def asS (h : zH) (k m : Nat) (v : Nat) : Bool := allN (fun s => decide ((0 ≤ h 42 s ∧ h 42 s < h 1 7) ∧ sxV h k m (h 42 s).toNat (v : Int) = h 43 s)) (h 0 9).toNat
section SX
variable {l : Launch} {G : zG} {h : zH}
theorem sx_42 {k m a b : Nat} {v : Int} (hk : 8 ≤ k ∧ k ≤ 14) (ha : ¬ (8 ≤ a ∧ a ≤ 14)) : reb 8 (up (cpT h 1 8) k m v) a b = h a b := by
  rw [reb_in (by omega), up_k (by omega), cpT_o (by omega)]
theorem sx_87 {k m : Nat} {v : Int} (hk : 9 ≤ k ∧ k ≤ 14) : reb 8 (up (cpT h 1 8) k m v) 8 7 = h 1 7 := by
  rw [reb_n (by omega), up_k (by omega), cpT_f (by omega)]
theorem as_sx {k m v : Nat} (hk : 9 ≤ k ∧ k ≤ 14) : allN (snB (reb 8 (up (cpT h 1 8) k m (v : Int)))) (reb 8 (up (cpT h 1 8) k m (v : Int)) 0 9).toNat = asS h k m v := by
  rw [sx_42 (by omega) (by omega)]
  refine allN_cong _ (fun s _ => ?_)
  unfold snB
  rw [sx_87 hk, sx_42 (a := 42) (by omega) (by omega), sx_42 (a := 43) (by omega) (by omega)]
  rfl
theorem scr_wX {h' : zH} (w : wX h) (s : scr h h') : wX h' := by
  obtain ⟨⟨w1, w8, w16, w23⟩, ⟨p1, p2, p3, p4⟩, wsn, ws42, ws43, wk, ⟨wh34, wh36, wh38, wh40⟩, wt⟩ := w
  have e : ∀ a b, ¬ (8 ≤ a ∧ a ≤ 14) → a ≠ 44 → h' a b = h a b := s.1
  refine ⟨⟨wT_cong (fun a b q1 q2 => e a b (by omega) (by omega)) w1, s.2, wT_cong (fun a b q1 q2 => e a b (by omega) (by omega)) w16, wT_cong (fun a b q1 q2 => e a b (by omega) (by omega)) w23⟩, ⟨?_, ?_, ?_, fun j => ?_⟩, ?_, fun j => ?_, fun j => ?_, fun j => ?_, ⟨?_, ?_, ?_, ?_⟩, ?_⟩
  · rw [e _ _ (by omega) (by omega)]; exact p1
  · rw [e _ _ (by omega) (by omega)]; exact p2
  · rw [e _ _ (by omega) (by omega)]; exact p3
  · rw [e _ _ (by omega) (by omega)]; exact p4 j
  · rw [e _ _ (by omega) (by omega)]; exact wsn
  · rw [e _ _ (by omega) (by omega)]; exact ws42 j
  · rw [e _ _ (by omega) (by omega)]; exact ws43 j
  · rw [e _ _ (by omega) (by omega)]; exact wk j
  · exact ⟨by rw [e _ _ (by omega) (by omega)]; exact wh34.1, by rw [e _ _ (by omega) (by omega)]; exact wh34.2⟩
  · exact ⟨by rw [e _ _ (by omega) (by omega)]; exact wh36.1, by rw [e _ _ (by omega) (by omega)]; exact wh36.2⟩
  · exact ⟨by rw [e _ _ (by omega) (by omega)]; exact wh38.1, by rw [e _ _ (by omega) (by omega)]; exact wh38.2⟩
  · exact ⟨by rw [e _ _ (by omega) (by omega)]; exact wh40.1, by rw [e _ _ (by omega) (by omega)]; exact wh40.2⟩
  · rw [e _ _ (by omega) (by omega)]; exact wt
theorem scr_tr {a b c : zH} (s : scr a b) (t : scr b c) : scr a c := ⟨fun x y q1 q2 => (t.1 x y q1 q2).trans (s.1 x y q1 q2), t.2⟩
theorem l_lean (ly : LX G) (w : wX h) (m i : Nat) (hm : (m : Int) < h 1 6) (hi : (i : Int) < h 1 7) (q : Int) {Φ : Option zV → zH → Prop} (hΦ : ∀ h', scr h h' → Φ (some (vI (fst7 (lnB h m i q) 7 0))) h') : ∀ (n j : Nat) (x7 x8 : Option zV) (H : zH), j + n = 7 → fst7 (lnB h m i q) n j = fst7 (lnB h m i q) 7 0 → (∀ v, reb 8 (up H (8 + 2) m v) = reb 8 (up (cpT h 1 8) (8 + 2) m v)) → scr h H → Rr l G 5 mX3_lean Φ 55 [some (vR 0), some (vI m), some (vI i), some (vI q), some (vR 2000), some (vI 7), some (vI j), x7, x8] [] H := by
  obtain ⟨hN, ⟨ly1, ly8, ly16, ly23⟩, ltp, ⟨ls34, ls36, ls38, ls40⟩, ⟨xs0, xs15, xs30, xs33, xs42, xs43, xs44⟩, ⟨xl15, xl30, xl33, xl42, xl43, xl44⟩, ⟨xr0, xr1, xr2, xr3, xr4, xr5, xr6, xr7, xr8⟩, ⟨yr0, yr1⟩, ⟨zr0, zr1, zr2, zr3⟩⟩ := ly
  have xs1 : gs G 1 = 7 := ly1.2.1.1
  have xs8 : gs G 8 = 7 := ly8.2.1.1
  have xs16 : gs G 16 = 7 := ly16.2.1.1
  have xs23 : gs G 23 = 7 := ly23.2.1.1
  have xs31 : gs G 31 = 6 := ltp.2.1.1
  have xs34 : gs G 34 = 5 := ls34.2.1.1
  have xs36 : gs G 36 = 5 := ls36.2.1.1
  have xs38 : gs G 38 = 5 := ls38.2.1.1
  have xs40 : gs G 40 = 5 := ls40.2.1.1
  obtain ⟨⟨w1, w8, w16, w23⟩, wp, wsn, ws42, ws43, wk, ⟨wh34, wh36, wh38, wh40⟩, wt⟩ := w
  have ly1' := ly1
  obtain ⟨⟨tn0, tn1, tn2, tn3, tn4, tn5, tn6⟩, ⟨ts0, ts1, ts2, ts3, ts4, ts5, ts6⟩, ⟨tr0, tr1, tr2, tr3, tr4, tr5⟩, ⟨tl1, tl2, tl3, tl4, tl5, tl6⟩⟩ := ly1'
  have w1' := w1
  obtain ⟨tw1, tw2, tw3, tw4, tw5, tw6, tw7, tw8, tw9, tw10⟩ := w1'
  intro n
  induction n with
  | zero =>
    intro j x7 x8 H hj hf he hs
    obtain rfl : j = 7 := by omega
    have hΦ := hΦ H hs
    rw [← hf] at hΦ
    refine r_iload 57 dX3_lean_55 rfl rfl ?_
    refine r_iload 59 dX3_lean_57 rfl rfl ?_
    refine r_icmp_ge 111 62 dX3_lean_59 (by decide) rfl (fun c_59 => ?_) (fun c_59 => ?_)
    refine r_bipush 113 dX3_lean_111 rfl rfl (by decide) ?_
    refine r_iret dX3_lean_113 rfl ?_
    rotate_left -- leaf: return at pc 113
    rotate_left -- leaf: pc 62
    · exact hΦ
    · omega
  | succ n ih =>
    intro j x7 x8 H hj hf he hs
    have hz := zNear_in j (by omega)
    have hwn := wT_up2 (m := m) hs.2 hz
    have hv : dnA (reb 8 (up H (8 + 2) m (zNear j))) 8 i = sxV h (8 + 2) m i (zNear j) := by rw [he]; rfl
    have hs' : scr h (reb 8 (up H (8 + 2) m (zNear j))) := ⟨fun a b q1 q2 => by rw [reb_in (by omega), up_k (by omega)]; exact hs.1 a b q1 q2, wT_reb hwn⟩
    have he' : ∀ v, reb 8 (up (reb 8 (up H (8 + 2) m (zNear j))) (8 + 2) m v) = reb 8 (up (cpT h 1 8) (8 + 2) m v) := fun v => by
      rw [← he v]
      exact reb_cong (eqB_tr (eqB_up eqB_reb) (by rw [up_up]; exact eqB_rf))
    have hf : (if lnB h m i q j = true then zNear j else fst7 (lnB h m i q) n (j + 1)) = fst7 (lnB h m i q) 7 0 := hf
    have hΦ := hΦ _ hs'
    refine r_iload 57 dX3_lean_55 rfl rfl ?_
    refine r_iload 59 dX3_lean_57 rfl rfl ?_
    refine r_icmp_ge 111 62 dX3_lean_59 (by decide) rfl (fun c_59 => ?_) (fun c_59 => ?_)
    rotate_left -- leaf: pc 111
    refine r_aload 64 dX3_lean_62 rfl rfl ?_
    refine r_iload 66 dX3_lean_64 rfl rfl ?_
    rotate_left -- leaf: pc 66
    · omega
    refine r_nald 67 dX3_lean_66 rfl (by omega) (by omega) ?_
    rw [Int.toNat_natCast]
    refine r_istore 69 dX3_lean_67 rfl rfl rfl ?_
    refine r_aload_n 70 dX3_lean_69 rfl rfl ?_
    refine r_getR 73 dX3_lean_70 rfl kf_3_16 rfl (by first | assumption | omega) (by assumption) (by assumption) ?_
    refine r_iload_n 74 dX3_lean_73 rfl rfl ?_
    refine r_iload 76 dX3_lean_74 rfl rfl ?_
    rotate_left -- leaf: call at pc 76
    refine r_cv2 79 dX3_lean_76 rfl kv_3_140 (by first | assumption | omega) (by assumption) rfl rfl (c_setLean ly8 m (by omega) (zNear j) hwn) ?_
    rintro r h' ⟨rfl, rfl⟩
    refine r_aload_n 80 dX3_lean_79 rfl rfl ?_
    refine r_getR 83 dX3_lean_80 rfl kf_3_16 rfl (by first | assumption | omega) (by assumption) (by assumption) ?_
    refine r_iload_n 84 dX3_lean_83 rfl rfl ?_
    rotate_left -- leaf: call at pc 84
    refine r_cv1 87 dX3_lean_84 rfl kv_3_126 (by first | assumption | omega) (by assumption) rfl rfl (c_doneAt ly8 (wT_reb hwn) i (by omega)) ?_
    rintro r h' ⟨rfl, rfl⟩
    rw [hv]
    refine r_istore 89 dX3_lean_87 rfl rfl rfl ?_
    refine r_iload 91 dX3_lean_89 rfl rfl ?_
    refine r_bipush 93 dX3_lean_91 rfl rfl (by decide) ?_
    refine r_icmp_eq 105 96 dX3_lean_93 (by decide) rfl (fun c_93 => ?_) (fun c_93 => ?_)
    refine r_iinc 108 _ dX3_lean_105 rfl rfl rfl rfl (by first | exact w32_id (by omega) (by omega) | rfl) ?_
    refine r_goto 55 dX3_lean_108 (by decide) ?_
    rotate_left -- leaf: pc 55
    refine r_iload 98 dX3_lean_96 rfl rfl ?_
    refine r_iload_n 99 dX3_lean_98 rfl rfl ?_
    refine r_icmp_gt 105 102 dX3_lean_99 (by decide) rfl (fun c_99 => ?_) (fun c_99 => ?_)
    refine r_iinc 108 _ dX3_lean_105 rfl rfl rfl rfl (by first | exact w32_id (by omega) (by omega) | rfl) ?_
    refine r_goto 55 dX3_lean_108 (by decide) ?_
    rotate_left -- leaf: pc 55
    refine r_iload 104 dX3_lean_102 rfl rfl ?_
    refine r_iret dX3_lean_104 rfl ?_
    rotate_left -- leaf: return at pc 104
    · exact ih (j + 1) _ _ _ (by omega) (by rw [← hf, if_neg (by unfold lnB; rw [decide_eq_true_iff]; omega)]) he' hs'
    · exact ih (j + 1) _ _ _ (by omega) (by rw [← hf, if_neg (by unfold lnB; rw [decide_eq_true_iff]; omega)]) he' hs'
    · rw [← hf, if_pos (by unfold lnB; rw [decide_eq_true_iff]; omega)] at hΦ
      exact hΦ
theorem c_lean (ly : LX G) (w : wX h) (m i q : Int) : Ca l G 5 mX3_lean [vR 0, vI m, vI i, vI q] h (fun r h' => r = some (vI (qLean m i q h)) ∧ scr h h') := by
  have lX0 := ly
  have wX0 := w
  obtain ⟨hN, ⟨ly1, ly8, ly16, ly23⟩, ltp, ⟨ls34, ls36, ls38, ls40⟩, ⟨xs0, xs15, xs30, xs33, xs42, xs43, xs44⟩, ⟨xl15, xl30, xl33, xl42, xl43, xl44⟩, ⟨xr0, xr1, xr2, xr3, xr4, xr5, xr6, xr7, xr8⟩, ⟨yr0, yr1⟩, ⟨zr0, zr1, zr2, zr3⟩⟩ := ly
  have xs1 : gs G 1 = 7 := ly1.2.1.1
  have xs8 : gs G 8 = 7 := ly8.2.1.1
  have xs16 : gs G 16 = 7 := ly16.2.1.1
  have xs23 : gs G 23 = 7 := ly23.2.1.1
  have xs31 : gs G 31 = 6 := ltp.2.1.1
  have xs34 : gs G 34 = 5 := ls34.2.1.1
  have xs36 : gs G 36 = 5 := ls36.2.1.1
  have xs38 : gs G 38 = 5 := ls38.2.1.1
  have xs40 : gs G 40 = 5 := ls40.2.1.1
  obtain ⟨⟨w1, w8, w16, w23⟩, wp, wsn, ws42, ws43, wk, ⟨wh34, wh36, wh38, wh40⟩, wt⟩ := w
  have ly1' := ly1
  obtain ⟨⟨tn0, tn1, tn2, tn3, tn4, tn5, tn6⟩, ⟨ts0, ts1, ts2, ts3, ts4, ts5, ts6⟩, ⟨tr0, tr1, tr2, tr3, tr4, tr5⟩, ⟨tl1, tl2, tl3, tl4, tl5, tl6⟩⟩ := ly1'
  have w1' := w1
  obtain ⟨tw1, tw2, tw3, tw4, tw5, tw6, tw7, tw8, tw9, tw10⟩ := w1'
  refine Ca.of (by decide) (Nat.le_of_ble_eq_true rfl) (fun hI hv hH => ?_)
  unfold qLean
  refine r_aload_n 1 dX3_lean_0 rfl rfl ?_
  refine r_getR 4 dX3_lean_1 rfl kf_3_10 rfl (by first | assumption | omega) (by assumption) (by assumption) ?_
  refine r_iload_n 5 dX3_lean_4 rfl rfl ?_
  rotate_left -- leaf: call at pc 5
  refine r_cv1 8 dX3_lean_5 rfl kv_3_95 (by first | assumption | omega) (by assumption) rfl rfl (c_hasMan ly1 m) ?_
  rintro r h' ⟨rfl, rfl⟩
  refine r_if_eq 29 11 dX3_lean_8 (by decide) rfl (fun c_8 => ?_) (fun c_8 => ?_)
  refine r_iconst 30 dX3_lean_29 rfl rfl ?_
  refine r_iret dX3_lean_30 rfl ?_
  rotate_left -- leaf: return at pc 30
  refine r_aload_n 12 dX3_lean_11 rfl rfl ?_
  refine r_getR 15 dX3_lean_12 rfl kf_3_10 rfl (by first | assumption | omega) (by assumption) (by assumption) ?_
  refine r_iload_n 16 dX3_lean_15 rfl rfl ?_
  rotate_left -- leaf: call at pc 16
  · rw [if_pos (fun z => z01_n.mp c_8 z.1)]
    exact ⟨rfl, fun _ _ _ _ => rfl, w8⟩
  refine r_cv1 19 dX3_lean_16 rfl kv_3_117 (by first | assumption | omega) (by assumption) rfl rfl (c_hasDeed ly1 i) ?_
  rintro r h'' ⟨rfl, rfl⟩
  refine r_if_eq 29 22 dX3_lean_19 (by decide) rfl (fun c_19 => ?_) (fun c_19 => ?_)
  refine r_iconst 30 dX3_lean_29 rfl rfl ?_
  refine r_iret dX3_lean_30 rfl ?_
  rotate_left -- leaf: return at pc 30
  refine r_iload_n 23 dX3_lean_22 rfl rfl ?_
  rotate_left -- leaf: call at pc 23
  · rw [if_pos (fun z => z01_n.mp c_19 z.2.1)]
    exact ⟨rfl, fun _ _ _ _ => rfl, w8⟩
  refine r_cs1 26 dX3_lean_23 rfl ks_3_143 rfl rfl (c_isQuarter q) ?_
  rintro r h3 ⟨rfl, rfl⟩
  refine r_if_ne 31 29 dX3_lean_26 (by decide) rfl (fun c_26 => ?_) (fun c_26 => ?_)
  refine r_aload_n 32 dX3_lean_31 rfl rfl ?_
  refine r_getR 35 dX3_lean_32 rfl kf_3_16 rfl (by first | assumption | omega) (by assumption) (by assumption) ?_
  refine r_aload_n 36 dX3_lean_35 rfl rfl ?_
  refine r_getR 39 dX3_lean_36 rfl kf_3_10 rfl (by first | assumption | omega) (by assumption) (by assumption) ?_
  rotate_left -- leaf: call at pc 39
  refine r_iconst 30 dX3_lean_29 rfl rfl ?_
  refine r_iret dX3_lean_30 rfl ?_
  rotate_left -- leaf: return at pc 30
  · rw [if_neg (fun z => z ⟨z01_y.mp c_8, z01_y.mp c_19, z01_y.mp c_26⟩)]
    have b1 := z01_y.mp c_8
    have b2 := z01_y.mp c_19
    obtain ⟨m, rfl⟩ := Int.eq_ofNat_of_zero_le b1.1
    obtain ⟨i, rfl⟩ := Int.eq_ofNat_of_zero_le b2.1
    rw [Int.toNat_natCast, Int.toNat_natCast]
    refine r_cv1 42 dX3_lean_39 rfl kv_3_69 (by first | assumption | omega) (by assumption) rfl rfl (c_copyOf ly8 ly1 (by omega)) ?_
    rintro r h4 ⟨rfl, rfl⟩
    refine r_near 45 dX3_lean_42 rfl kg_181 ?_
    refine r_astore 47 dX3_lean_45 rfl rfl rfl ?_
    refine r_aload 49 dX3_lean_47 rfl rfl ?_
    refine r_nlen 50 dX3_lean_49 rfl ?_
    refine r_istore 52 dX3_lean_50 rfl rfl rfl ?_
    refine r_iconst 53 dX3_lean_52 rfl rfl ?_
    refine r_istore 55 dX3_lean_53 rfl rfl rfl ?_
    rotate_left -- leaf: pc 55
    exact l_lean (l := l) lX0 wX0 m i b1.2 b2.2 q (Φ := fun r h'' => r = some (vI (fst7 (lnB h3 m i q) 7 0)) ∧ scr h3 h'') (fun h5 q5 => ⟨rfl, q5⟩) 7 0 none none _ rfl rfl (fun _ => rfl) (scr_cpT w1 w8)
  · rw [if_pos (fun z => z01_n.mp c_26 z.2.2)]
    exact ⟨rfl, fun _ _ _ _ => rfl, w8⟩
theorem l_tias (ly : LX G) (w8 : wT h 8) (w9 : 0 ≤ h 0 9 ∧ h 0 9 ≤ 6) (w42 : ∀ j, 0 ≤ h 42 j ∧ h 42 j ≤ 4) {Φ : Option zV → zH → Prop} (hΦ : Φ (some (vI (z01 (allN (snB h) (h 0 9).toNat = true)))) h) : ∀ (n j : Nat) (x2 : Option zV), j + n = (h 0 9).toNat → allN (snB h) j = true → Rr l G 4 mX3_trialIsAsSeen Φ 2 [some (vR 0), some (vI j), x2] [] h := by
  obtain ⟨hN, ⟨ly1, ly8, ly16, ly23⟩, ltp, ⟨ls34, ls36, ls38, ls40⟩, ⟨xs0, xs15, xs30, xs33, xs42, xs43, xs44⟩, ⟨xl15, xl30, xl33, xl42, xl43, xl44⟩, ⟨xr0, xr1, xr2, xr3, xr4, xr5, xr6, xr7, xr8⟩, ⟨yr0, yr1⟩, ⟨zr0, zr1, zr2, zr3⟩⟩ := ly
  have xs1 : gs G 1 = 7 := ly1.2.1.1
  have xs8 : gs G 8 = 7 := ly8.2.1.1
  have xs16 : gs G 16 = 7 := ly16.2.1.1
  have xs23 : gs G 23 = 7 := ly23.2.1.1
  have xs31 : gs G 31 = 6 := ltp.2.1.1
  have xs34 : gs G 34 = 5 := ls34.2.1.1
  have xs36 : gs G 36 = 5 := ls36.2.1.1
  have xs38 : gs G 38 = 5 := ls38.2.1.1
  have xs40 : gs G 40 = 5 := ls40.2.1.1
  intro n
  induction n with
  | zero =>
    intro j x2 hj ha
    refine r_iload_n 3 dX3_trialIsAsSeen_2 rfl rfl ?_
    refine r_aload_n 4 dX3_trialIsAsSeen_3 rfl rfl ?_
    refine r_getI 7 dX3_trialIsAsSeen_4 rfl kf_3_73 rfl (by first | assumption | omega) (by assumption) ?_
    refine r_icmp_ge 53 10 dX3_trialIsAsSeen_7 (by decide) rfl (fun c_7 => ?_) (fun c_7 => ?_)
    refine r_iconst 54 dX3_trialIsAsSeen_53 rfl rfl ?_
    refine r_zret dX3_trialIsAsSeen_54 rfl (by first | exact Or.inl rfl | exact Or.inr rfl | assumption | omega) ?_
    rotate_left -- leaf: return at pc 54
    rotate_left -- leaf: pc 10
    · rw [← show j = (h 0 9).toNat by omega, z01_t ha] at hΦ
      exact hΦ
    · omega
  | succ n ih =>
    intro j x2 hj ha
    have w42j := w42 j
    obtain ⟨i, hi⟩ := Int.eq_ofNat_of_zero_le w42j.1
    refine r_iload_n 3 dX3_trialIsAsSeen_2 rfl rfl ?_
    refine r_aload_n 4 dX3_trialIsAsSeen_3 rfl rfl ?_
    refine r_getI 7 dX3_trialIsAsSeen_4 rfl kf_3_73 rfl (by first | assumption | omega) (by assumption) ?_
    refine r_icmp_ge 53 10 dX3_trialIsAsSeen_7 (by decide) rfl (fun c_7 => ?_) (fun c_7 => ?_)
    refine r_iconst 54 dX3_trialIsAsSeen_53 rfl rfl ?_
    refine r_zret dX3_trialIsAsSeen_54 rfl (by first | exact Or.inl rfl | exact Or.inr rfl | assumption | omega) ?_
    rotate_left -- leaf: return at pc 54
    refine r_aload_n 11 dX3_trialIsAsSeen_10 rfl rfl ?_
    refine r_getR 14 dX3_trialIsAsSeen_11 rfl kf_3_40 rfl (by first | assumption | omega) (by assumption) (by assumption) ?_
    refine r_iload_n 15 dX3_trialIsAsSeen_14 rfl rfl ?_
    refine r_iald 16 dX3_trialIsAsSeen_15 rfl (by first | assumption | omega) (by assumption) (by first | omega | (simp only [Int.toNat_natCast]; omega)) (by first | omega | (simp only [Int.toNat_natCast]; omega)) ?_
    rotate_left -- leaf: pc 16
    · omega
    rw [Int.toNat_natCast, hi]
    refine r_istore_n 17 dX3_trialIsAsSeen_16 rfl rfl rfl ?_
    refine r_aload_n 18 dX3_trialIsAsSeen_17 rfl rfl ?_
    refine r_getR 21 dX3_trialIsAsSeen_18 rfl kf_3_16 rfl (by first | assumption | omega) (by assumption) (by assumption) ?_
    refine r_iload_n 22 dX3_trialIsAsSeen_21 rfl rfl ?_
    rotate_left -- leaf: call at pc 22
    refine r_cv1 25 dX3_trialIsAsSeen_22 rfl kv_3_117 (by first | assumption | omega) (by assumption) rfl rfl (c_hasDeed ly8 i) ?_
    rintro r h' ⟨rfl, rfl⟩
    refine r_if_eq 45 28 dX3_trialIsAsSeen_25 (by decide) rfl (fun c_25 => ?_) (fun c_25 => ?_)
    refine r_iconst 46 dX3_trialIsAsSeen_45 rfl rfl ?_
    refine r_zret dX3_trialIsAsSeen_46 rfl (by first | exact Or.inl rfl | exact Or.inr rfl | assumption | omega) ?_
    rotate_left -- leaf: return at pc 46
    refine r_aload_n 29 dX3_trialIsAsSeen_28 rfl rfl ?_
    refine r_getR 32 dX3_trialIsAsSeen_29 rfl kf_3_16 rfl (by first | assumption | omega) (by assumption) (by assumption) ?_
    refine r_iload_n 33 dX3_trialIsAsSeen_32 rfl rfl ?_
    rotate_left -- leaf: call at pc 33
    · rw [z01_f (allN_f (j := j) (by unfold snB; rw [decide_eq_true_iff, hi]; exact fun z => z01_n.mp c_25 z.1) _ (by omega))] at hΦ
      exact hΦ
    refine r_cv1 36 dX3_trialIsAsSeen_33 rfl kv_3_126 (by first | assumption | omega) (by assumption) rfl rfl (c_doneAt ly8 w8 i (by omega)) ?_
    rintro r h'' ⟨rfl, rfl⟩
    refine r_aload_n 37 dX3_trialIsAsSeen_36 rfl rfl ?_
    refine r_getR 40 dX3_trialIsAsSeen_37 rfl kf_3_44 rfl (by first | assumption | omega) (by assumption) (by assumption) ?_
    refine r_iload_n 41 dX3_trialIsAsSeen_40 rfl rfl ?_
    refine r_iald 42 dX3_trialIsAsSeen_41 rfl (by first | assumption | omega) (by assumption) (by first | omega | (simp only [Int.toNat_natCast]; omega)) (by first | omega | (simp only [Int.toNat_natCast]; omega)) ?_
    refine r_icmp_eq 47 45 dX3_trialIsAsSeen_42 (by decide) rfl (fun c_42 => ?_) (fun c_42 => ?_)
    refine r_iinc 50 _ dX3_trialIsAsSeen_47 rfl rfl rfl rfl (by first | exact w32_id (by omega) (by omega) | rfl) ?_
    refine r_goto 2 dX3_trialIsAsSeen_50 (by decide) ?_
    rotate_left -- leaf: pc 2
    refine r_iconst 46 dX3_trialIsAsSeen_45 rfl rfl ?_
    refine r_zret dX3_trialIsAsSeen_46 rfl (by first | exact Or.inl rfl | exact Or.inr rfl | assumption | omega) ?_
    rotate_left -- leaf: return at pc 46
    · rw [Int.toNat_natCast] at c_42
      exact ih (j + 1) (some (vI i)) (by omega) (by rw [allN, ha, Bool.true_and]; unfold snB; rw [decide_eq_true_iff, hi, Int.toNat_natCast]; exact ⟨z01_y.mp c_25, c_42⟩)
    · rw [Int.toNat_natCast] at c_42
      rw [z01_f (allN_f (j := j) (by unfold snB; rw [decide_eq_true_iff, hi, Int.toNat_natCast]; exact fun z => c_42 z.2) _ (by omega))] at hΦ
      exact hΦ
theorem c_tias (ly : LX G) (w8 : wT h 8) (w9 : 0 ≤ h 0 9 ∧ h 0 9 ≤ 6) (w42 : ∀ j, 0 ≤ h 42 j ∧ h 42 j ≤ 4) : Ca l G 4 mX3_trialIsAsSeen [vR 0] h (fun r h' => r = some (vI (z01 (allN (snB h) (h 0 9).toNat = true))) ∧ h' = h) := by
  refine Ca.of (by decide) (Nat.le_of_ble_eq_true rfl) (fun hI hv hH => ?_)
  refine r_iconst 1 dX3_trialIsAsSeen_0 rfl rfl ?_
  refine r_istore_n 2 dX3_trialIsAsSeen_1 rfl rfl rfl ?_
  rotate_left -- leaf: pc 2
  exact l_tias (l := l) ly w8 w9 w42 (Φ := fun r h' => r = some (vI (z01 (allN (snB h) (h 0 9).toNat = true))) ∧ h' = h) ⟨rfl, rfl⟩ (h 0 9).toNat 0 none (by omega) rfl
theorem l_las (ly : LX G) (w : wX h) (m : Nat) (hm : (m : Int) < h 1 6) {Φ : Option zV → zH → Prop} (hΦ : ∀ h', scr h h' → Φ (some (vI (orN (asS h (8 + 2) m) 7))) h') : ∀ (n j : Nat) (H : zH), j + n = 7 → (∀ v, reb 8 (up H (8 + 2) m v) = reb 8 (up (cpT h 1 8) (8 + 2) m v)) → scr h H → Rr l G 5 mX3_leansAsSeen Φ 15 [some (vR 0), some (vI m), some (vI (orN (asS h (8 + 2) m) j)), some (vI j)] [] H := by
  have lX0 := ly
  have wX0 := w
  obtain ⟨hN, ⟨ly1, ly8, ly16, ly23⟩, ltp, ⟨ls34, ls36, ls38, ls40⟩, ⟨xs0, xs15, xs30, xs33, xs42, xs43, xs44⟩, ⟨xl15, xl30, xl33, xl42, xl43, xl44⟩, ⟨xr0, xr1, xr2, xr3, xr4, xr5, xr6, xr7, xr8⟩, ⟨yr0, yr1⟩, ⟨zr0, zr1, zr2, zr3⟩⟩ := ly
  have xs1 : gs G 1 = 7 := ly1.2.1.1
  have xs8 : gs G 8 = 7 := ly8.2.1.1
  have xs16 : gs G 16 = 7 := ly16.2.1.1
  have xs23 : gs G 23 = 7 := ly23.2.1.1
  have xs31 : gs G 31 = 6 := ltp.2.1.1
  have xs34 : gs G 34 = 5 := ls34.2.1.1
  have xs36 : gs G 36 = 5 := ls36.2.1.1
  have xs38 : gs G 38 = 5 := ls38.2.1.1
  have xs40 : gs G 40 = 5 := ls40.2.1.1
  obtain ⟨⟨w1, w8, w16, w23⟩, wp, wsn, ws42, ws43, wk, ⟨wh34, wh36, wh38, wh40⟩, wt⟩ := w
  have ly1' := ly1
  obtain ⟨⟨tn0, tn1, tn2, tn3, tn4, tn5, tn6⟩, ⟨ts0, ts1, ts2, ts3, ts4, ts5, ts6⟩, ⟨tr0, tr1, tr2, tr3, tr4, tr5⟩, ⟨tl1, tl2, tl3, tl4, tl5, tl6⟩⟩ := ly1'
  have w1' := w1
  obtain ⟨tw1, tw2, tw3, tw4, tw5, tw6, tw7, tw8, tw9, tw10⟩ := w1'
  intro n
  induction n with
  | zero =>
    intro j H hj he hs
    obtain rfl : j = 7 := by omega
    have hΦ := hΦ H hs
    refine r_iload_n 16 dX3_leansAsSeen_15 rfl rfl ?_
    refine r_bipush 18 dX3_leansAsSeen_16 rfl rfl (by decide) ?_
    refine r_icmp_ge 49 21 dX3_leansAsSeen_18 (by decide) rfl (fun c_18 => ?_) (fun c_18 => ?_)
    refine r_iload_n 50 dX3_leansAsSeen_49 rfl rfl ?_
    refine r_iret dX3_leansAsSeen_50 rfl ?_
    rotate_left -- leaf: return at pc 50
    rotate_left -- leaf: pc 21
    · exact hΦ
    · omega
  | succ n ih =>
    intro j H hj he hs
    have hwn := wT_up2 (m := m) (v := (j : Int)) hs.2 (by omega)
    have hs' : scr h (reb 8 (up H (8 + 2) m (j : Int))) := ⟨fun a b q1 q2 => by rw [reb_in (by omega), up_k (by omega)]; exact hs.1 a b q1 q2, wT_reb hwn⟩
    have he' : ∀ v, reb 8 (up (reb 8 (up H (8 + 2) m (j : Int))) (8 + 2) m v) = reb 8 (up (cpT h 1 8) (8 + 2) m v) := fun v => by
      rw [← he v]
      exact reb_cong (eqB_tr (eqB_up eqB_reb) (by rw [up_up]; exact eqB_rf))
    have ih := ih (j + 1) (reb 8 (up H (8 + 2) m (j : Int))) (by omega) he' hs'
    simp only [orN] at ih
    have wX1 := scr_wX wX0 hs'
    refine r_iload_n 16 dX3_leansAsSeen_15 rfl rfl ?_
    refine r_bipush 18 dX3_leansAsSeen_16 rfl rfl (by decide) ?_
    refine r_icmp_ge 49 21 dX3_leansAsSeen_18 (by decide) rfl (fun c_18 => ?_) (fun c_18 => ?_)
    rotate_left -- leaf: pc 49
    refine r_aload_n 22 dX3_leansAsSeen_21 rfl rfl ?_
    refine r_getR 25 dX3_leansAsSeen_22 rfl kf_3_16 rfl (by first | assumption | omega) (by assumption) (by assumption) ?_
    refine r_iload_n 26 dX3_leansAsSeen_25 rfl rfl ?_
    refine r_iload_n 27 dX3_leansAsSeen_26 rfl rfl ?_
    rotate_left -- leaf: call at pc 27
    · omega
    refine r_cv2 30 dX3_leansAsSeen_27 rfl kv_3_140 (by first | assumption | omega) (by assumption) rfl rfl (c_setLean ly8 m (by omega) (j : Int) hwn) ?_
    rintro r h' ⟨rfl, rfl⟩
    refine r_aload_n 31 dX3_leansAsSeen_30 rfl rfl ?_
    rotate_left -- leaf: call at pc 31
    refine r_cv0 34 dX3_leansAsSeen_31 rfl kv_3_219 (by first | assumption | omega) (by assumption) rfl rfl (c_tias lX0 (wT_reb hwn) wX1.2.2.1 wX1.2.2.2.1) ?_
    rintro r h' ⟨rfl, rfl⟩
    have ev : allN (snB (reb 8 (up H (8 + 2) m (j : Int)))) (reb 8 (up H (8 + 2) m (j : Int)) 0 9).toNat = asS h (8 + 2) m j := by
      rw [he (j : Int)]; exact as_sx (by omega)
    rw [ev]
    refine r_if_eq 43 37 dX3_leansAsSeen_34 (by decide) rfl (fun c_34 => ?_) (fun c_34 => ?_)
    refine r_iinc 46 _ dX3_leansAsSeen_43 rfl rfl rfl rfl (by first | exact w32_id (by omega) (by omega) | rfl) ?_
    refine r_goto 15 dX3_leansAsSeen_46 (by decide) ?_
    rotate_left -- leaf: pc 15
    refine r_iload_n 38 dX3_leansAsSeen_37 rfl rfl ?_
    refine r_iconst 39 dX3_leansAsSeen_38 rfl rfl ?_
    refine r_iload_n 40 dX3_leansAsSeen_39 rfl rfl ?_
    refine r_ishl 41 dX3_leansAsSeen_40 rfl rfl ?_
    refine r_ior 42 dX3_leansAsSeen_41 rfl rfl ?_
    refine r_istore_n 43 dX3_leansAsSeen_42 rfl rfl rfl ?_
    refine r_iinc 46 _ dX3_leansAsSeen_43 rfl rfl rfl rfl (by first | exact w32_id (by omega) (by omega) | rfl) ?_
    refine r_goto 15 dX3_leansAsSeen_46 (by decide) ?_
    rotate_left -- leaf: pc 15
    · rw [if_neg (z01_n.mp c_34)] at ih
      exact ih
    · rw [if_pos (z01_y.mp c_34)] at ih
      rw [z_or_bit (by omega) (orN_lt _ j)]
      exact ih
theorem c_las (ly : LX G) (w : wX h) (m : Nat) (hm : (m : Int) < h 1 6) : Ca l G 5 mX3_leansAsSeen [vR 0, vI m] h (fun r h' => r = some (vI (orN (asS h (8 + 2) m) 7)) ∧ scr h h') := by
  have lX0 := ly
  have wX0 := w
  obtain ⟨hN, ⟨ly1, ly8, ly16, ly23⟩, ltp, ⟨ls34, ls36, ls38, ls40⟩, ⟨xs0, xs15, xs30, xs33, xs42, xs43, xs44⟩, ⟨xl15, xl30, xl33, xl42, xl43, xl44⟩, ⟨xr0, xr1, xr2, xr3, xr4, xr5, xr6, xr7, xr8⟩, ⟨yr0, yr1⟩, ⟨zr0, zr1, zr2, zr3⟩⟩ := ly
  have xs1 : gs G 1 = 7 := ly1.2.1.1
  have xs8 : gs G 8 = 7 := ly8.2.1.1
  have xs16 : gs G 16 = 7 := ly16.2.1.1
  have xs23 : gs G 23 = 7 := ly23.2.1.1
  have xs31 : gs G 31 = 6 := ltp.2.1.1
  have xs34 : gs G 34 = 5 := ls34.2.1.1
  have xs36 : gs G 36 = 5 := ls36.2.1.1
  have xs38 : gs G 38 = 5 := ls38.2.1.1
  have xs40 : gs G 40 = 5 := ls40.2.1.1
  obtain ⟨⟨w1, w8, w16, w23⟩, wp, wsn, ws42, ws43, wk, ⟨wh34, wh36, wh38, wh40⟩, wt⟩ := w
  refine Ca.of (by decide) (Nat.le_of_ble_eq_true rfl) (fun hI hv hH => ?_)
  refine r_aload_n 1 dX3_leansAsSeen_0 rfl rfl ?_
  refine r_getR 4 dX3_leansAsSeen_1 rfl kf_3_16 rfl (by first | assumption | omega) (by assumption) (by assumption) ?_
  refine r_aload_n 5 dX3_leansAsSeen_4 rfl rfl ?_
  refine r_getR 8 dX3_leansAsSeen_5 rfl kf_3_10 rfl (by first | assumption | omega) (by assumption) (by assumption) ?_
  rotate_left -- leaf: call at pc 8
  refine r_cv1 11 dX3_leansAsSeen_8 rfl kv_3_69 (by first | assumption | omega) (by assumption) rfl rfl (c_copyOf ly8 ly1 (by omega)) ?_
  rintro r h' ⟨rfl, rfl⟩
  refine r_iconst 12 dX3_leansAsSeen_11 rfl rfl ?_
  refine r_istore_n 13 dX3_leansAsSeen_12 rfl rfl rfl ?_
  refine r_iconst 14 dX3_leansAsSeen_13 rfl rfl ?_
  refine r_istore_n 15 dX3_leansAsSeen_14 rfl rfl rfl ?_
  rotate_left -- leaf: pc 15
  exact l_las (l := l) lX0 wX0 m hm (Φ := fun r h' => r = some (vI (orN (asS h (8 + 2) m) 7)) ∧ scr h h') (fun h3 q => ⟨rfl, q⟩) 7 0 _ rfl (fun _ => rfl) (scr_cpT w1 w8)
def qLeans (m : Int) (h : zH) : Int := if ¬ (0 ≤ m ∧ m < h 1 6) then -1 else (orN (asS h (8 + 2) m.toNat) 7 : Int)
theorem c_leans (ly : LX G) (w : wX h) (m : Int) : Ca l G 6 mX3_leans [vR 0, vI m] h (fun r h' => r = some (vI (qLeans m h)) ∧ scr h h') := by
  have lX0 := ly
  have wX0 := w
  obtain ⟨hN, ⟨ly1, ly8, ly16, ly23⟩, ltp, ⟨ls34, ls36, ls38, ls40⟩, ⟨xs0, xs15, xs30, xs33, xs42, xs43, xs44⟩, ⟨xl15, xl30, xl33, xl42, xl43, xl44⟩, ⟨xr0, xr1, xr2, xr3, xr4, xr5, xr6, xr7, xr8⟩, ⟨yr0, yr1⟩, ⟨zr0, zr1, zr2, zr3⟩⟩ := ly
  have xs1 : gs G 1 = 7 := ly1.2.1.1
  have xs8 : gs G 8 = 7 := ly8.2.1.1
  have xs16 : gs G 16 = 7 := ly16.2.1.1
  have xs23 : gs G 23 = 7 := ly23.2.1.1
  have xs31 : gs G 31 = 6 := ltp.2.1.1
  have xs34 : gs G 34 = 5 := ls34.2.1.1
  have xs36 : gs G 36 = 5 := ls36.2.1.1
  have xs38 : gs G 38 = 5 := ls38.2.1.1
  have xs40 : gs G 40 = 5 := ls40.2.1.1
  obtain ⟨⟨w1, w8, w16, w23⟩, wp, wsn, ws42, ws43, wk, ⟨wh34, wh36, wh38, wh40⟩, wt⟩ := w
  refine Ca.of (by decide) (Nat.le_of_ble_eq_true rfl) (fun hI hv hH => ?_)
  unfold qLeans
  refine r_aload_n 1 dX3_leans_0 rfl rfl ?_
  refine r_getR 4 dX3_leans_1 rfl kf_3_10 rfl (by first | assumption | omega) (by assumption) (by assumption) ?_
  refine r_iload_n 5 dX3_leans_4 rfl rfl ?_
  rotate_left -- leaf: call at pc 5
  refine r_cv1 8 dX3_leans_5 rfl kv_3_95 (by first | assumption | omega) (by assumption) rfl rfl (c_hasMan ly1 m) ?_
  rintro r h' ⟨rfl, rfl⟩
  refine r_if_eq 19 11 dX3_leans_8 (by decide) rfl (fun c_8 => ?_) (fun c_8 => ?_)
  refine r_iconst 20 dX3_leans_19 rfl rfl ?_
  refine r_iret dX3_leans_20 rfl ?_
  rotate_left -- leaf: return at pc 20
  refine r_aload_n 12 dX3_leans_11 rfl rfl ?_
  refine r_iload_n 13 dX3_leans_12 rfl rfl ?_
  rotate_left -- leaf: call at pc 13
  · rw [if_pos (z01_n.mp c_8)]
    exact ⟨rfl, fun _ _ _ _ => rfl, w8⟩
  have b1 := z01_y.mp c_8
  rw [if_neg (fun z => z b1)]
  obtain ⟨m, rfl⟩ := Int.eq_ofNat_of_zero_le b1.1
  rw [Int.toNat_natCast]
  refine r_cv1 16 dX3_leans_13 rfl kv_3_216 (by first | assumption | omega) (by assumption) rfl rfl (c_las lX0 wX0 m b1.2) ?_
  rintro r h'' ⟨rfl, q⟩
  refine r_goto 20 dX3_leans_16 (by decide) ?_
  refine r_iret dX3_leans_20 rfl ?_
  rotate_left -- leaf: return at pc 20
  exact ⟨rfl, q⟩
theorem l_kinds (ly : LX G) (w : wX h) (m : Nat) (hm : (m : Int) < h 1 6) {Φ : Option zV → zH → Prop} (hΦ : ∀ h', scr h h' → Φ (some (vI (orN (asS h (8 + 1) m) 4))) h') : ∀ (n j : Nat) (H : zH), j + n = 4 → (∀ v, reb 8 (up H (8 + 1) m v) = reb 8 (up (cpT h 1 8) (8 + 1) m v)) → scr h H → Rr l G 5 mX3_kinds Φ 28 [some (vR 0), some (vI m), some (vI (orN (asS h (8 + 1) m) j)), some (vI j)] [] H := by
  have lX0 := ly
  have wX0 := w
  obtain ⟨hN, ⟨ly1, ly8, ly16, ly23⟩, ltp, ⟨ls34, ls36, ls38, ls40⟩, ⟨xs0, xs15, xs30, xs33, xs42, xs43, xs44⟩, ⟨xl15, xl30, xl33, xl42, xl43, xl44⟩, ⟨xr0, xr1, xr2, xr3, xr4, xr5, xr6, xr7, xr8⟩, ⟨yr0, yr1⟩, ⟨zr0, zr1, zr2, zr3⟩⟩ := ly
  have xs1 : gs G 1 = 7 := ly1.2.1.1
  have xs8 : gs G 8 = 7 := ly8.2.1.1
  have xs16 : gs G 16 = 7 := ly16.2.1.1
  have xs23 : gs G 23 = 7 := ly23.2.1.1
  have xs31 : gs G 31 = 6 := ltp.2.1.1
  have xs34 : gs G 34 = 5 := ls34.2.1.1
  have xs36 : gs G 36 = 5 := ls36.2.1.1
  have xs38 : gs G 38 = 5 := ls38.2.1.1
  have xs40 : gs G 40 = 5 := ls40.2.1.1
  obtain ⟨⟨w1, w8, w16, w23⟩, wp, wsn, ws42, ws43, wk, ⟨wh34, wh36, wh38, wh40⟩, wt⟩ := w
  have ly1' := ly1
  obtain ⟨⟨tn0, tn1, tn2, tn3, tn4, tn5, tn6⟩, ⟨ts0, ts1, ts2, ts3, ts4, ts5, ts6⟩, ⟨tr0, tr1, tr2, tr3, tr4, tr5⟩, ⟨tl1, tl2, tl3, tl4, tl5, tl6⟩⟩ := ly1'
  have w1' := w1
  obtain ⟨tw1, tw2, tw3, tw4, tw5, tw6, tw7, tw8, tw9, tw10⟩ := w1'
  intro n
  induction n with
  | zero =>
    intro j H hj he hs
    obtain rfl : j = 4 := by omega
    have hΦ := hΦ H hs
    refine r_iload_n 29 dX3_kinds_28 rfl rfl ?_
    refine r_iconst 30 dX3_kinds_29 rfl rfl ?_
    refine r_icmp_ge 61 33 dX3_kinds_30 (by decide) rfl (fun c_30 => ?_) (fun c_30 => ?_)
    refine r_iload_n 62 dX3_kinds_61 rfl rfl ?_
    refine r_iret dX3_kinds_62 rfl ?_
    rotate_left -- leaf: return at pc 62
    rotate_left -- leaf: pc 33
    · exact hΦ
    · omega
  | succ n ih =>
    intro j H hj he hs
    have hwn := wT_up1 (m := m) (v := (j : Int)) hs.2 (by omega)
    have hs' : scr h (reb 8 (up H (8 + 1) m (j : Int))) := ⟨fun a b q1 q2 => by rw [reb_in (by omega), up_k (by omega)]; exact hs.1 a b q1 q2, wT_reb hwn⟩
    have he' : ∀ v, reb 8 (up (reb 8 (up H (8 + 1) m (j : Int))) (8 + 1) m v) = reb 8 (up (cpT h 1 8) (8 + 1) m v) := fun v => by
      rw [← he v]
      exact reb_cong (eqB_tr (eqB_up eqB_reb) (by rw [up_up]; exact eqB_rf))
    have ih := ih (j + 1) (reb 8 (up H (8 + 1) m (j : Int))) (by omega) he' hs'
    simp only [orN] at ih
    have wX1 := scr_wX wX0 hs'
    refine r_iload_n 29 dX3_kinds_28 rfl rfl ?_
    refine r_iconst 30 dX3_kinds_29 rfl rfl ?_
    refine r_icmp_ge 61 33 dX3_kinds_30 (by decide) rfl (fun c_30 => ?_) (fun c_30 => ?_)
    rotate_left -- leaf: pc 61
    refine r_aload_n 34 dX3_kinds_33 rfl rfl ?_
    refine r_getR 37 dX3_kinds_34 rfl kf_3_16 rfl (by first | assumption | omega) (by assumption) (by assumption) ?_
    refine r_iload_n 38 dX3_kinds_37 rfl rfl ?_
    refine r_iload_n 39 dX3_kinds_38 rfl rfl ?_
    rotate_left -- leaf: call at pc 39
    · omega
    refine r_cv2 42 dX3_kinds_39 rfl kv_3_136 (by first | assumption | omega) (by assumption) rfl rfl (c_setKind ly8 m (by omega) (j : Int) hwn) ?_
    rintro r h' ⟨rfl, rfl⟩
    refine r_aload_n 43 dX3_kinds_42 rfl rfl ?_
    rotate_left -- leaf: call at pc 43
    refine r_cv0 46 dX3_kinds_43 rfl kv_3_219 (by first | assumption | omega) (by assumption) rfl rfl (c_tias lX0 (wT_reb hwn) wX1.2.2.1 wX1.2.2.2.1) ?_
    rintro r h' ⟨rfl, rfl⟩
    have ev : allN (snB (reb 8 (up H (8 + 1) m (j : Int)))) (reb 8 (up H (8 + 1) m (j : Int)) 0 9).toNat = asS h (8 + 1) m j := by
      rw [he (j : Int)]; exact as_sx (by omega)
    rw [ev]
    refine r_if_eq 55 49 dX3_kinds_46 (by decide) rfl (fun c_46 => ?_) (fun c_46 => ?_)
    refine r_iinc 58 _ dX3_kinds_55 rfl rfl rfl rfl (by first | exact w32_id (by omega) (by omega) | rfl) ?_
    refine r_goto 28 dX3_kinds_58 (by decide) ?_
    rotate_left -- leaf: pc 28
    refine r_iload_n 50 dX3_kinds_49 rfl rfl ?_
    refine r_iconst 51 dX3_kinds_50 rfl rfl ?_
    refine r_iload_n 52 dX3_kinds_51 rfl rfl ?_
    refine r_ishl 53 dX3_kinds_52 rfl rfl ?_
    refine r_ior 54 dX3_kinds_53 rfl rfl ?_
    refine r_istore_n 55 dX3_kinds_54 rfl rfl rfl ?_
    refine r_iinc 58 _ dX3_kinds_55 rfl rfl rfl rfl (by first | exact w32_id (by omega) (by omega) | rfl) ?_
    refine r_goto 28 dX3_kinds_58 (by decide) ?_
    rotate_left -- leaf: pc 28
    · rw [if_neg (z01_n.mp c_46)] at ih
      exact ih
    · rw [if_pos (z01_y.mp c_46)] at ih
      rw [z_or_bit (by omega) (orN_lt _ j)]
      exact ih
def qKinds (m : Int) (h : zH) : Int := if ¬ (0 ≤ m ∧ m < h 1 6) then -1 else (orN (asS h (8 + 1) m.toNat) 4 : Int)
theorem c_kinds (ly : LX G) (w : wX h) (m : Int) : Ca l G 5 mX3_kinds [vR 0, vI m] h (fun r h' => r = some (vI (qKinds m h)) ∧ scr h h') := by
  have lX0 := ly
  have wX0 := w
  obtain ⟨hN, ⟨ly1, ly8, ly16, ly23⟩, ltp, ⟨ls34, ls36, ls38, ls40⟩, ⟨xs0, xs15, xs30, xs33, xs42, xs43, xs44⟩, ⟨xl15, xl30, xl33, xl42, xl43, xl44⟩, ⟨xr0, xr1, xr2, xr3, xr4, xr5, xr6, xr7, xr8⟩, ⟨yr0, yr1⟩, ⟨zr0, zr1, zr2, zr3⟩⟩ := ly
  have xs1 : gs G 1 = 7 := ly1.2.1.1
  have xs8 : gs G 8 = 7 := ly8.2.1.1
  have xs16 : gs G 16 = 7 := ly16.2.1.1
  have xs23 : gs G 23 = 7 := ly23.2.1.1
  have xs31 : gs G 31 = 6 := ltp.2.1.1
  have xs34 : gs G 34 = 5 := ls34.2.1.1
  have xs36 : gs G 36 = 5 := ls36.2.1.1
  have xs38 : gs G 38 = 5 := ls38.2.1.1
  have xs40 : gs G 40 = 5 := ls40.2.1.1
  obtain ⟨⟨w1, w8, w16, w23⟩, wp, wsn, ws42, ws43, wk, ⟨wh34, wh36, wh38, wh40⟩, wt⟩ := w
  refine Ca.of (by decide) (Nat.le_of_ble_eq_true rfl) (fun hI hv hH => ?_)
  unfold qKinds
  refine r_aload_n 1 dX3_kinds_0 rfl rfl ?_
  refine r_getR 4 dX3_kinds_1 rfl kf_3_10 rfl (by first | assumption | omega) (by assumption) (by assumption) ?_
  refine r_iload_n 5 dX3_kinds_4 rfl rfl ?_
  rotate_left -- leaf: call at pc 5
  refine r_cv1 8 dX3_kinds_5 rfl kv_3_95 (by first | assumption | omega) (by assumption) rfl rfl (c_hasMan ly1 m) ?_
  rintro r h' ⟨rfl, rfl⟩
  refine r_if_ne 13 11 dX3_kinds_8 (by decide) rfl (fun c_8 => ?_) (fun c_8 => ?_)
  refine r_aload_n 14 dX3_kinds_13 rfl rfl ?_
  refine r_getR 17 dX3_kinds_14 rfl kf_3_16 rfl (by first | assumption | omega) (by assumption) (by assumption) ?_
  refine r_aload_n 18 dX3_kinds_17 rfl rfl ?_
  refine r_getR 21 dX3_kinds_18 rfl kf_3_10 rfl (by first | assumption | omega) (by assumption) (by assumption) ?_
  rotate_left -- leaf: call at pc 21
  refine r_iconst 12 dX3_kinds_11 rfl rfl ?_
  refine r_iret dX3_kinds_12 rfl ?_
  rotate_left -- leaf: return at pc 12
  · have b1 := z01_y.mp c_8
    rw [if_neg (fun z => z b1)]
    obtain ⟨m, rfl⟩ := Int.eq_ofNat_of_zero_le b1.1
    rw [Int.toNat_natCast]
    refine r_cv1 24 dX3_kinds_21 rfl kv_3_69 (by first | assumption | omega) (by assumption) rfl rfl (c_copyOf ly8 ly1 (by omega)) ?_
    rintro r h'' ⟨rfl, rfl⟩
    refine r_iconst 25 dX3_kinds_24 rfl rfl ?_
    refine r_istore_n 26 dX3_kinds_25 rfl rfl rfl ?_
    refine r_iconst 27 dX3_kinds_26 rfl rfl ?_
    refine r_istore_n 28 dX3_kinds_27 rfl rfl rfl ?_
    rotate_left -- leaf: pc 28
    exact l_kinds (l := l) lX0 wX0 m b1.2 (Φ := fun r h'' => r = some (vI (orN (asS h' (8 + 1) m) 4)) ∧ scr h' h'') (fun h3 q => ⟨rfl, q⟩) 4 0 _ rfl (fun _ => rfl) (scr_cpT w1 w8)
  · rw [if_pos (z01_n.mp c_8)]
    exact ⟨rfl, fun _ _ _ _ => rfl, w8⟩
end SX
