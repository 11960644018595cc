/-! SunPointer: what is changed, what is read -/
theorem wT_cong {h h' : zH} {q : Nat} (e : ∀ a b, q ≤ a → a ≤ q + 6 → h' a b = h a b) (w : wT h q) : wT h' q := by
  obtain ⟨w1, w2, w3, w4, w5, w6, w7, w8, w9, w10⟩ := w
  refine ⟨?_, ?_, ?_, ?_, fun j => ?_, fun j => ?_, fun j => ?_, fun j => ?_, fun j => ?_, fun j => ?_⟩
  · rw [e q 6 (by omega) (by omega)]; exact w1
  · rw [e q 7 (by omega) (by omega)]; exact w2
  · rw [e q 8 (by omega) (by omega)]; exact w3
  · rw [e q 9 (by omega) (by omega)]; exact w4
  · rw [e (q + 1) j (by omega) (by omega)]; exact w5 j
  · rw [e (q + 2) j (by omega) (by omega)]; exact w6 j
  · rw [e (q + 3) j (by omega) (by omega)]; exact w7 j
  · rw [e (q + 4) j (by omega) (by omega)]; exact w8 j
  · rw [e (q + 5) j (by omega) (by omega)]; exact w9 j
  · rw [e (q + 6) j (by omega) (by omega)]; exact w10 j
theorem up_r {h : zH} {k j : Nat} {v : Int} {P : Int → Prop} (a b : Nat) (h1 : P (h a b)) (h2 : a = k → b = j → P v) : P (up h k j v a b) := by
  by_cases q : a = k ∧ b = j
  · obtain ⟨rfl, rfl⟩ := q; rw [up_s]; exact h2 rfl rfl
  · rw [up_n q]; exact h1
theorem setB_r {h : zH} {k n : Nat} {f : Nat → Int} {P : Int → Prop} (a b : Nat) (h1 : P (h a b)) (h2 : a = k → b < n → P (f b)) : P (setB h k n f a b) := by
  unfold setB
  split
  · rename_i q; exact h2 q.1 q.2
  · exact h1
theorem wT_up1 {h : zH} {p m : Nat} {v : Int} (w : wT h p) (hv : 0 ≤ v ∧ v ≤ 3) : wT (up h (p + 1) m v) p := by
  obtain ⟨w1, w2, w3, w4, w5, w6, w7, w8, w9, w10⟩ := w
  exact ⟨by rw [up_k (by omega)]; exact w1, by rw [up_k (by omega)]; exact w2, by rw [up_k (by omega)]; exact w3, by rw [up_k (by omega)]; exact w4, fun j => up_r (P := fun x => 0 ≤ x ∧ x ≤ 3) _ _ (w5 j) (fun _ _ => hv), fun j => by rw [up_k (by omega)]; exact w6 j, fun j => by rw [up_k (by omega)]; exact w7 j, fun j => by rw [up_k (by omega)]; exact w8 j, fun j => by rw [up_k (by omega)]; exact w9 j, fun j => by rw [up_k (by omega)]; exact w10 j⟩
theorem wT_up2 {h : zH} {p m : Nat} {v : Int} (w : wT h p) (hv : 0 ≤ v ∧ v ≤ 6) : wT (up h (p + 2) m v) p := by
  obtain ⟨w1, w2, w3, w4, w5, w6, w7, w8, w9, w10⟩ := w
  exact ⟨by rw [up_k (by omega)]; exact w1, by rw [up_k (by omega)]; exact w2, by rw [up_k (by omega)]; exact w3, by rw [up_k (by omega)]; exact w4, fun j => by rw [up_k (by omega)]; exact w5 j, fun j => up_r (P := fun x => 0 ≤ x ∧ x ≤ 6) _ _ (w6 j) (fun _ _ => hv), fun j => by rw [up_k (by omega)]; exact w7 j, fun j => by rw [up_k (by omega)]; exact w8 j, fun j => by rw [up_k (by omega)]; exact w9 j, fun j => by rw [up_k (by omega)]; exact w10 j⟩
theorem wT_up3 {h : zH} {p m : Nat} {v : Int} (w : wT h p) (hv : v = -4 ∨ (0 ≤ v ∧ v ≤ 3)) : wT (up h (p + 3) m v) p := by
  obtain ⟨w1, w2, w3, w4, w5, w6, w7, w8, w9, w10⟩ := w
  exact ⟨by rw [up_k (by omega)]; exact w1, by rw [up_k (by omega)]; exact w2, by rw [up_k (by omega)]; exact w3, by rw [up_k (by omega)]; exact w4, fun j => by rw [up_k (by omega)]; exact w5 j, fun j => by rw [up_k (by omega)]; exact w6 j, fun j => up_r (P := fun x => x = -4 ∨ (0 ≤ x ∧ x ≤ 3)) _ _ (w7 j) (fun _ _ => hv), fun j => by rw [up_k (by omega)]; exact w8 j, fun j => by rw [up_k (by omega)]; exact w9 j, fun j => by rw [up_k (by omega)]; exact w10 j⟩
theorem wT_up4 {h : zH} {p m : Nat} {v : Int} (w : wT h p) (hv : 0 ≤ v ∧ v ≤ 47) : wT (up h (p + 4) m v) p := by
  obtain ⟨w1, w2, w3, w4, w5, w6, w7, w8, w9, w10⟩ := w
  exact ⟨by rw [up_k (by omega)]; exact w1, by rw [up_k (by omega)]; exact w2, by rw [up_k (by omega)]; exact w3, by rw [up_k (by omega)]; exact w4, fun j => by rw [up_k (by omega)]; exact w5 j, fun j => by rw [up_k (by omega)]; exact w6 j, fun j => by rw [up_k (by omega)]; exact w7 j, fun j => up_r (P := fun x => 0 ≤ x ∧ x ≤ 47) _ _ (w8 j) (fun _ _ => hv), fun j => by rw [up_k (by omega)]; exact w9 j, fun j => by rw [up_k (by omega)]; exact w10 j⟩
theorem wT_up5 {h : zH} {p m : Nat} {v : Int} (w : wT h p) (hv : 0 ≤ v ∧ v ≤ 9) : wT (up h (p + 5) m v) p := by
  obtain ⟨w1, w2, w3, w4, w5, w6, w7, w8, w9, w10⟩ := w
  exact ⟨by rw [up_k (by omega)]; exact w1, by rw [up_k (by omega)]; exact w2, by rw [up_k (by omega)]; exact w3, by rw [up_k (by omega)]; exact w4, fun j => by rw [up_k (by omega)]; exact w5 j, fun j => by rw [up_k (by omega)]; exact w6 j, fun j => by rw [up_k (by omega)]; exact w7 j, fun j => by rw [up_k (by omega)]; exact w8 j, fun j => up_r (P := fun x => 0 ≤ x ∧ x ≤ 9) _ _ (w9 j) (fun _ _ => hv), fun j => by rw [up_k (by omega)]; exact w10 j⟩
theorem wT_up0 {h : zH} {p m : Nat} {v : Int} (w : wT h p) (h6 : m = 6 → 0 ≤ v ∧ v ≤ 4) (h7 : m = 7 → 0 ≤ v ∧ v ≤ 5) (h8 : m = 8 → 0 ≤ v ∧ v < 4096) (h9 : m = 9 → 0 ≤ v ∧ v ≤ 6) : wT (up h p m v) p := by
  obtain ⟨w1, w2, w3, w4, w5, w6, w7, w8, w9, w10⟩ := w
  exact ⟨up_r (P := fun x => 0 ≤ x ∧ x ≤ 4) _ _ w1 (fun _ q => h6 q.symm), up_r (P := fun x => 0 ≤ x ∧ x ≤ 5) _ _ w2 (fun _ q => h7 q.symm), up_r (P := fun x => 0 ≤ x ∧ x < 4096) _ _ w3 (fun _ q => h8 q.symm), up_r (P := fun x => 0 ≤ x ∧ x ≤ 6) _ _ w4 (fun _ q => h9 q.symm), fun j => by rw [up_k (by omega)]; exact w5 j, fun j => by rw [up_k (by omega)]; exact w6 j, fun j => by rw [up_k (by omega)]; exact w7 j, fun j => by rw [up_k (by omega)]; exact w8 j, fun j => by rw [up_k (by omega)]; exact w9 j, fun j => by rw [up_k (by omega)]; exact w10 j⟩
theorem wT_st {h : zH} {p : Nat} {f : Nat → Int} (w : wT h p) (hv : ∀ j, f j = -4 ∨ (0 ≤ f j ∧ f j ≤ 3)) : wT (setB h (p + 3) 12 f) p := by
  obtain ⟨w1, w2, w3, w4, w5, w6, w7, w8, w9, w10⟩ := w
  exact ⟨by rw [setB_n (by omega)]; exact w1, by rw [setB_n (by omega)]; exact w2, by rw [setB_n (by omega)]; exact w3, by rw [setB_n (by omega)]; exact w4, fun j => by rw [setB_n (by omega)]; exact w5 j, fun j => by rw [setB_n (by omega)]; exact w6 j, fun j => setB_r (P := fun x => x = -4 ∨ (0 ≤ x ∧ x ≤ 3)) _ _ (w7 j) (fun _ _ => hv j), fun j => by rw [setB_n (by omega)]; exact w8 j, fun j => by rw [setB_n (by omega)]; exact w9 j, fun j => by rw [setB_n (by omega)]; exact w10 j⟩
section SX
variable {l : Launch} {G : zG} {h : zH}
def sAlter (m x v : Int) (h : zH) : Int × zH := if ¬ ((0 ≤ m ∧ m < h 1 6) ∧ (x = 0 ∨ x = 1)) then (-1, h) else if v < 0 ∨ (if x = 0 then 4 else 7) ≤ v then (-1, h) else if x = 0 then (h (1 + 1) m.toNat, reb 1 (up h (1 + 1) m.toNat v)) else (h (1 + 2) m.toNat, reb 1 (up h (1 + 2) m.toNat v))
theorem c_alter (ly : LX G) (w : wX h) (m x v : Int) : Ca l G 3 mX3_alter [vR 0, vI m, vI x, vI v] h (fun r h' => r = some (vI (sAlter m x v h).1) ∧ h' = (sAlter m x v h).2) := by
  obtain ⟨hN, ⟨ly1, ly8, ly16, ly23⟩, ltp, ⟨ls34, ls36, ls38, ls40⟩, ⟨xs0, xs15, xs30, xs33, xs42, xs43, xs44⟩, ⟨xl15, xl30, xl33, xl42, xl43, xl44⟩, ⟨xr0, xr1, xr2, xr3, xr4, xr5, xr6, xr7, xr8⟩, ⟨yr0, yr1⟩, ⟨zr0, zr1, zr2, zr3⟩⟩ := ly
  have xs1 : gs G 1 = 7 := ly1.2.1.1
  have xs8 : gs G 8 = 7 := ly8.2.1.1
  have xs16 : gs G 16 = 7 := ly16.2.1.1
  have xs23 : gs G 23 = 7 := ly23.2.1.1
  have xs31 : gs G 31 = 6 := ltp.2.1.1
  have xs34 : gs G 34 = 5 := ls34.2.1.1
  have xs36 : gs G 36 = 5 := ls36.2.1.1
  have xs38 : gs G 38 = 5 := ls38.2.1.1
  have xs40 : gs G 40 = 5 := ls40.2.1.1
  obtain ⟨⟨w1, w8, w16, w23⟩, wp, wsn, ws42, ws43, wk, ⟨wh34, wh36, wh38, wh40⟩, wt⟩ := w
  have ly1' := ly1
  obtain ⟨⟨tn0, tn1, tn2, tn3, tn4, tn5, tn6⟩, ⟨ts0, ts1, ts2, ts3, ts4, ts5, ts6⟩, ⟨tr0, tr1, tr2, tr3, tr4, tr5⟩, ⟨tl1, tl2, tl3, tl4, tl5, tl6⟩⟩ := ly1'
  have w1' := w1
  obtain ⟨tw1, tw2, tw3, tw4, tw5, tw6, tw7, tw8, tw9, tw10⟩ := w1'
  refine Ca.of (by decide) (Nat.le_of_ble_eq_true rfl) (fun hI hv hH => ?_)
  refine r_aload_n 1 dX3_alter_0 rfl rfl ?_
  refine r_getR 4 dX3_alter_1 rfl kf_3_10 rfl (by first | assumption | omega) (by assumption) (by assumption) ?_
  refine r_iload_n 5 dX3_alter_4 rfl rfl ?_
  rotate_left -- leaf: call at pc 5
  refine r_cv1 8 dX3_alter_5 rfl kv_3_95 (by first | assumption | omega) (by assumption) rfl rfl (c_hasMan ly1 m) ?_
  rintro r h' ⟨rfl, rfl⟩
  refine r_if_eq 18 11 dX3_alter_8 (by decide) rfl (fun c_8 => ?_) (fun c_8 => ?_)
  refine r_iconst 19 dX3_alter_18 rfl rfl ?_
  refine r_iret dX3_alter_19 rfl ?_
  rotate_left -- leaf: return at pc 19
  refine r_iload_n 12 dX3_alter_11 rfl rfl ?_
  rotate_left -- leaf: call at pc 12
  · have hm := z01_n.mp c_8
    unfold sAlter
    rw [if_pos (fun q => hm q.1)]
    exact ⟨rfl, rfl⟩
  · have hm := z01_y.mp c_8
    refine r_cs1 15 dX3_alter_12 rfl ks_3_133 rfl rfl (c_isFS x) ?_
    rintro r h'' ⟨rfl, rfl⟩
    refine r_if_ne 20 18 dX3_alter_15 (by decide) rfl (fun c_15 => ?_) (fun c_15 => ?_)
    rotate_left -- leaf: pc 20
    refine r_iconst 19 dX3_alter_18 rfl rfl ?_
    refine r_iret dX3_alter_19 rfl ?_
    rotate_left -- leaf: return at pc 19
    · have hx := z01_y.mp c_15
      have e0 : ¬ ¬ ((0 ≤ m ∧ m < h'' 1 6) ∧ (x = 0 ∨ x = 1)) := fun q => q ⟨hm, hx⟩
      obtain ⟨m, rfl⟩ := nat_of hm.1
      refine r_iload_n 21 dX3_alter_20 rfl rfl ?_
      refine r_if_lt 38 24 dX3_alter_21 (by decide) rfl (fun c_21 => ?_) (fun c_21 => ?_)
      refine r_iconst 39 dX3_alter_38 rfl rfl ?_
      refine r_iret dX3_alter_39 rfl ?_
      rotate_left -- leaf: return at pc 39
      refine r_iload_n 25 dX3_alter_24 rfl rfl ?_
      refine r_iload_n 26 dX3_alter_25 rfl rfl ?_
      refine r_if_ne 33 29 dX3_alter_26 (by decide) rfl (fun c_26 => ?_) (fun c_26 => ?_)
      refine r_bipush 35 dX3_alter_33 rfl rfl (by decide) ?_
      refine r_icmp_lt 40 38 dX3_alter_35 (by decide) rfl (fun c_35 => ?_) (fun c_35 => ?_)
      rotate_left -- leaf: pc 40
      refine r_iconst 39 dX3_alter_38 rfl rfl ?_
      refine r_iret dX3_alter_39 rfl ?_
      rotate_left -- leaf: return at pc 39
      refine r_iconst 30 dX3_alter_29 rfl rfl ?_
      refine r_goto 35 dX3_alter_30 (by decide) ?_
      refine r_icmp_lt 40 38 dX3_alter_35 (by decide) rfl (fun c_35 => ?_) (fun c_35 => ?_)
      rotate_left -- leaf: pc 40
      refine r_iconst 39 dX3_alter_38 rfl rfl ?_
      refine r_iret dX3_alter_39 rfl ?_
      rotate_left -- leaf: return at pc 39
      · unfold sAlter
        rw [if_neg e0, if_pos (Or.inl c_21)]
        exact ⟨rfl, rfl⟩
      · unfold sAlter
        rw [if_neg e0, if_neg (by rw [if_neg c_26]; omega), if_neg c_26]
        refine r_iload_n 41 dX3_alter_40 rfl rfl ?_
        refine r_if_ne 56 44 dX3_alter_41 (by decide) rfl (fun c_41 => ?_) (fun c_41 => ?_)
        refine r_aload_n 57 dX3_alter_56 rfl rfl ?_
        refine r_getR 60 dX3_alter_57 rfl kf_3_10 rfl (by first | assumption | omega) (by assumption) (by assumption) ?_
        refine r_getR 63 dX3_alter_60 rfl kf_3_101 rfl (by first | assumption | omega) (by assumption) (by assumption) ?_
        refine r_iload_n 64 dX3_alter_63 rfl rfl ?_
        refine r_iald 65 dX3_alter_64 rfl (by first | assumption | omega) (by assumption) (by first | omega | (simp only [Int.toNat_natCast]; omega)) (by first | omega | (simp only [Int.toNat_natCast]; omega)) ?_
        rotate_left -- leaf: pc 65
        rotate_left -- leaf: pc 44
        · rw [Int.toNat_natCast]
          refine r_istore 67 dX3_alter_65 rfl rfl rfl ?_
          refine r_iload_n 68 dX3_alter_67 rfl rfl ?_
          refine r_if_ne 83 71 dX3_alter_68 (by decide) rfl (fun c_68 => ?_) (fun c_68 => ?_)
          refine r_aload_n 84 dX3_alter_83 rfl rfl ?_
          refine r_getR 87 dX3_alter_84 rfl kf_3_10 rfl (by first | assumption | omega) (by assumption) (by assumption) ?_
          refine r_iload_n 88 dX3_alter_87 rfl rfl ?_
          refine r_iload_n 89 dX3_alter_88 rfl rfl ?_
          rotate_left -- leaf: call at pc 89
          rotate_left -- leaf: pc 71
          · refine r_cv2 92 dX3_alter_89 rfl kv_3_140 (by first | assumption | omega) (by assumption) rfl rfl (c_setLean ly1 m (by omega) v (wT_up2 w1 (by omega))) ?_
            rintro r h3 ⟨rfl, rfl⟩
            refine r_iload 94 dX3_alter_92 rfl rfl ?_
            refine r_iret dX3_alter_94 rfl ?_
            rotate_left -- leaf: return at pc 94
            exact ⟨rfl, rfl⟩
          · omega
        · omega
      · unfold sAlter
        rw [if_neg e0, if_pos (by rw [if_neg c_26]; omega)]
        exact ⟨rfl, rfl⟩
      · unfold sAlter
        rw [if_neg e0, if_neg (by rw [if_pos c_26]; omega), if_pos c_26]
        refine r_iload_n 41 dX3_alter_40 rfl rfl ?_
        refine r_if_ne 56 44 dX3_alter_41 (by decide) rfl (fun c_41 => ?_) (fun c_41 => ?_)
        rotate_left -- leaf: pc 56
        refine r_aload_n 45 dX3_alter_44 rfl rfl ?_
        refine r_getR 48 dX3_alter_45 rfl kf_3_10 rfl (by first | assumption | omega) (by assumption) (by assumption) ?_
        refine r_getR 51 dX3_alter_48 rfl kf_3_98 rfl (by first | assumption | omega) (by assumption) (by assumption) ?_
        refine r_iload_n 52 dX3_alter_51 rfl rfl ?_
        refine r_iald 53 dX3_alter_52 rfl (by first | assumption | omega) (by assumption) (by first | omega | (simp only [Int.toNat_natCast]; omega)) (by first | omega | (simp only [Int.toNat_natCast]; omega)) ?_
        refine r_goto 65 dX3_alter_53 (by decide) ?_
        rotate_left -- leaf: pc 65
        · omega
        · rw [Int.toNat_natCast]
          refine r_istore 67 dX3_alter_65 rfl rfl rfl ?_
          refine r_iload_n 68 dX3_alter_67 rfl rfl ?_
          refine r_if_ne 83 71 dX3_alter_68 (by decide) rfl (fun c_68 => ?_) (fun c_68 => ?_)
          rotate_left -- leaf: pc 83
          refine r_aload_n 72 dX3_alter_71 rfl rfl ?_
          refine r_getR 75 dX3_alter_72 rfl kf_3_10 rfl (by first | assumption | omega) (by assumption) (by assumption) ?_
          refine r_iload_n 76 dX3_alter_75 rfl rfl ?_
          refine r_iload_n 77 dX3_alter_76 rfl rfl ?_
          rotate_left -- leaf: call at pc 77
          · omega
          · refine r_cv2 80 dX3_alter_77 rfl kv_3_136 (by first | assumption | omega) (by assumption) rfl rfl (c_setKind ly1 m (by omega) v (wT_up1 w1 (by omega))) ?_
            rintro r h3 ⟨rfl, rfl⟩
            refine r_goto 92 dX3_alter_80 (by decide) ?_
            refine r_iload 94 dX3_alter_92 rfl rfl ?_
            refine r_iret dX3_alter_94 rfl ?_
            rotate_left -- leaf: return at pc 94
            exact ⟨rfl, rfl⟩
      · unfold sAlter
        rw [if_neg e0, if_pos (by rw [if_pos c_26]; omega)]
        exact ⟨rfl, rfl⟩
    · have hx := z01_n.mp c_15
      unfold sAlter
      rw [if_pos (fun q => hx q.2)]
      exact ⟨rfl, rfl⟩
def sMove (i x v : Int) (h : zH) : Int × zH := if ¬ ((0 ≤ i ∧ i < h 1 7) ∧ (x = 0 ∨ x = 1)) then (-1, h) else if x = 0 then (if 0 ≤ v ∧ v < 48 then (h (1 + 4) i.toNat, up h (1 + 4) i.toNat v) else (-1, h)) else (if 1 ≤ v ∧ v ≤ 9 then (h (1 + 5) i.toNat, up h (1 + 5) i.toNat v) else (-1, h))
theorem c_move (ly : LX G) (w : wX h) (i x v : Int) : Ca l G 1 mX3_move [vR 0, vI i, vI x, vI v] h (fun r h' => r = some (vI (sMove i x v h).1) ∧ h' = (sMove i x v h).2) := by
  obtain ⟨hN, ⟨ly1, ly8, ly16, ly23⟩, ltp, ⟨ls34, ls36, ls38, ls40⟩, ⟨xs0, xs15, xs30, xs33, xs42, xs43, xs44⟩, ⟨xl15, xl30, xl33, xl42, xl43, xl44⟩, ⟨xr0, xr1, xr2, xr3, xr4, xr5, xr6, xr7, xr8⟩, ⟨yr0, yr1⟩, ⟨zr0, zr1, zr2, zr3⟩⟩ := ly
  have xs1 : gs G 1 = 7 := ly1.2.1.1
  have xs8 : gs G 8 = 7 := ly8.2.1.1
  have xs16 : gs G 16 = 7 := ly16.2.1.1
  have xs23 : gs G 23 = 7 := ly23.2.1.1
  have xs31 : gs G 31 = 6 := ltp.2.1.1
  have xs34 : gs G 34 = 5 := ls34.2.1.1
  have xs36 : gs G 36 = 5 := ls36.2.1.1
  have xs38 : gs G 38 = 5 := ls38.2.1.1
  have xs40 : gs G 40 = 5 := ls40.2.1.1
  obtain ⟨⟨w1, w8, w16, w23⟩, wp, wsn, ws42, ws43, wk, ⟨wh34, wh36, wh38, wh40⟩, wt⟩ := w
  have ly1' := ly1
  obtain ⟨⟨tn0, tn1, tn2, tn3, tn4, tn5, tn6⟩, ⟨ts0, ts1, ts2, ts3, ts4, ts5, ts6⟩, ⟨tr0, tr1, tr2, tr3, tr4, tr5⟩, ⟨tl1, tl2, tl3, tl4, tl5, tl6⟩⟩ := ly1'
  have w1' := w1
  obtain ⟨tw1, tw2, tw3, tw4, tw5, tw6, tw7, tw8, tw9, tw10⟩ := w1'
  refine Ca.of (by decide) (Nat.le_of_ble_eq_true rfl) (fun hI hv hH => ?_)
  refine r_aload_n 1 dX3_move_0 rfl rfl ?_
  refine r_getR 4 dX3_move_1 rfl kf_3_10 rfl (by first | assumption | omega) (by assumption) (by assumption) ?_
  refine r_iload_n 5 dX3_move_4 rfl rfl ?_
  rotate_left -- leaf: call at pc 5
  refine r_cv1 8 dX3_move_5 rfl kv_3_117 (by first | assumption | omega) (by assumption) rfl rfl (c_hasDeed ly1 i) ?_
  rintro r h' ⟨rfl, rfl⟩
  refine r_if_eq 18 11 dX3_move_8 (by decide) rfl (fun c_8 => ?_) (fun c_8 => ?_)
  refine r_iconst 19 dX3_move_18 rfl rfl ?_
  refine r_iret dX3_move_19 rfl ?_
  rotate_left -- leaf: return at pc 19
  refine r_iload_n 12 dX3_move_11 rfl rfl ?_
  rotate_left -- leaf: call at pc 12
  · have hm := z01_n.mp c_8
    unfold sMove
    rw [if_pos (fun q => hm q.1)]
    exact ⟨rfl, rfl⟩
  · have hm := z01_y.mp c_8
    refine r_cs1 15 dX3_move_12 rfl ks_3_133 rfl rfl (c_isFS x) ?_
    rintro r h'' ⟨rfl, rfl⟩
    refine r_if_ne 20 18 dX3_move_15 (by decide) rfl (fun c_15 => ?_) (fun c_15 => ?_)
    rotate_left -- leaf: pc 20
    refine r_iconst 19 dX3_move_18 rfl rfl ?_
    refine r_iret dX3_move_19 rfl ?_
    rotate_left -- leaf: return at pc 19
    · have hx := z01_y.mp c_15
      have e0 : ¬ ¬ ((0 ≤ i ∧ i < h'' 1 7) ∧ (x = 0 ∨ x = 1)) := fun q => q ⟨hm, hx⟩
      obtain ⟨i, rfl⟩ := nat_of hm.1
      unfold sMove
      rw [if_neg e0]
      refine r_iload_n 21 dX3_move_20 rfl rfl ?_
      refine r_if_ne 34 24 dX3_move_21 (by decide) rfl (fun c_21 => ?_) (fun c_21 => ?_)
      refine r_iload_n 35 dX3_move_34 rfl rfl ?_
      rotate_left -- leaf: call at pc 35
      refine r_iload_n 25 dX3_move_24 rfl rfl ?_
      rotate_left -- leaf: call at pc 25
      · rw [if_neg c_21]
        refine r_cs1 38 dX3_move_35 rfl ks_3_146 rfl rfl (c_isWorth v) ?_
        rintro r h3 ⟨rfl, rfl⟩
        refine r_if_ne 43 41 dX3_move_38 (by decide) rfl (fun c_38 => ?_) (fun c_38 => ?_)
        rotate_left -- leaf: pc 43
        refine r_iconst 42 dX3_move_41 rfl rfl ?_
        refine r_iret dX3_move_42 rfl ?_
        rotate_left -- leaf: return at pc 42
        · rw [if_pos (z01_y.mp c_38)]
          refine r_iload_n 44 dX3_move_43 rfl rfl ?_
          refine r_if_ne 59 47 dX3_move_44 (by decide) rfl (fun c_44 => ?_) (fun c_44 => ?_)
          refine r_aload_n 60 dX3_move_59 rfl rfl ?_
          refine r_getR 63 dX3_move_60 rfl kf_3_10 rfl (by first | assumption | omega) (by assumption) (by assumption) ?_
          refine r_getR 66 dX3_move_63 rfl kf_3_123 rfl (by first | assumption | omega) (by assumption) (by assumption) ?_
          refine r_iload_n 67 dX3_move_66 rfl rfl ?_
          refine r_iald 68 dX3_move_67 rfl (by first | assumption | omega) (by assumption) (by first | omega | (simp only [Int.toNat_natCast]; omega)) (by first | omega | (simp only [Int.toNat_natCast]; omega)) ?_
          refine r_istore 70 dX3_move_68 rfl rfl rfl ?_
          refine r_iload_n 71 dX3_move_70 rfl rfl ?_
          refine r_if_ne 87 74 dX3_move_71 (by decide) rfl (fun c_71 => ?_) (fun c_71 => ?_)
          refine r_aload_n 88 dX3_move_87 rfl rfl ?_
          refine r_getR 91 dX3_move_88 rfl kf_3_10 rfl (by first | assumption | omega) (by assumption) (by assumption) ?_
          refine r_getR 94 dX3_move_91 rfl kf_3_123 rfl (by first | assumption | omega) (by assumption) (by assumption) ?_
          refine r_iload_n 95 dX3_move_94 rfl rfl ?_
          refine r_iload_n 96 dX3_move_95 rfl rfl ?_
          refine r_iast 97 dX3_move_96 rfl (by first | assumption | omega) (by assumption) (by first | omega | (simp only [Int.toNat_natCast]; omega)) (by first | omega | (simp only [Int.toNat_natCast]; omega)) ?_
          refine r_iload 99 dX3_move_97 rfl rfl ?_
          refine r_iret dX3_move_99 rfl ?_
          rotate_left -- leaf: return at pc 99
          refine r_aload_n 75 dX3_move_74 rfl rfl ?_
          refine r_getR 78 dX3_move_75 rfl kf_3_10 rfl (by first | assumption | omega) (by assumption) (by assumption) ?_
          refine r_getR 81 dX3_move_78 rfl kf_3_120 rfl (by first | assumption | omega) (by assumption) (by assumption) ?_
          refine r_iload_n 82 dX3_move_81 rfl rfl ?_
          refine r_iload_n 83 dX3_move_82 rfl rfl ?_
          refine r_iast 84 dX3_move_83 rfl (by first | assumption | omega) (by assumption) (by first | omega | (simp only [Int.toNat_natCast]; omega)) (by first | omega | (simp only [Int.toNat_natCast]; omega)) ?_
          refine r_goto 97 dX3_move_84 (by decide) ?_
          refine r_iload 99 dX3_move_97 rfl rfl ?_
          refine r_iret dX3_move_99 rfl ?_
          rotate_left -- leaf: return at pc 99
          rotate_left -- leaf: pc 47
          · exact ⟨rfl, rfl⟩
          · omega
          · omega
        · rw [if_neg (z01_n.mp c_38)]
          exact ⟨rfl, rfl⟩
      · rw [if_pos c_21]
        refine r_cs1 28 dX3_move_25 rfl ks_3_143 rfl rfl (c_isQuarter v) ?_
        rintro r h3 ⟨rfl, rfl⟩
        refine r_if_ne 43 31 dX3_move_28 (by decide) rfl (fun c_28 => ?_) (fun c_28 => ?_)
        rotate_left -- leaf: pc 43
        refine r_goto 41 dX3_move_31 (by decide) ?_
        refine r_iconst 42 dX3_move_41 rfl rfl ?_
        refine r_iret dX3_move_42 rfl ?_
        rotate_left -- leaf: return at pc 42
        · rw [if_pos (z01_y.mp c_28)]
          refine r_iload_n 44 dX3_move_43 rfl rfl ?_
          refine r_if_ne 59 47 dX3_move_44 (by decide) rfl (fun c_44 => ?_) (fun c_44 => ?_)
          rotate_left -- leaf: pc 59
          refine r_aload_n 48 dX3_move_47 rfl rfl ?_
          refine r_getR 51 dX3_move_48 rfl kf_3_10 rfl (by first | assumption | omega) (by assumption) (by assumption) ?_
          refine r_getR 54 dX3_move_51 rfl kf_3_120 rfl (by first | assumption | omega) (by assumption) (by assumption) ?_
          refine r_iload_n 55 dX3_move_54 rfl rfl ?_
          refine r_iald 56 dX3_move_55 rfl (by first | assumption | omega) (by assumption) (by first | omega | (simp only [Int.toNat_natCast]; omega)) (by first | omega | (simp only [Int.toNat_natCast]; omega)) ?_
          refine r_goto 68 dX3_move_56 (by decide) ?_
          refine r_istore 70 dX3_move_68 rfl rfl rfl ?_
          refine r_iload_n 71 dX3_move_70 rfl rfl ?_
          refine r_if_ne 87 74 dX3_move_71 (by decide) rfl (fun c_71 => ?_) (fun c_71 => ?_)
          refine r_aload_n 88 dX3_move_87 rfl rfl ?_
          refine r_getR 91 dX3_move_88 rfl kf_3_10 rfl (by first | assumption | omega) (by assumption) (by assumption) ?_
          refine r_getR 94 dX3_move_91 rfl kf_3_123 rfl (by first | assumption | omega) (by assumption) (by assumption) ?_
          refine r_iload_n 95 dX3_move_94 rfl rfl ?_
          refine r_iload_n 96 dX3_move_95 rfl rfl ?_
          refine r_iast 97 dX3_move_96 rfl (by first | assumption | omega) (by assumption) (by first | omega | (simp only [Int.toNat_natCast]; omega)) (by first | omega | (simp only [Int.toNat_natCast]; omega)) ?_
          refine r_iload 99 dX3_move_97 rfl rfl ?_
          refine r_iret dX3_move_99 rfl ?_
          rotate_left -- leaf: return at pc 99
          refine r_aload_n 75 dX3_move_74 rfl rfl ?_
          refine r_getR 78 dX3_move_75 rfl kf_3_10 rfl (by first | assumption | omega) (by assumption) (by assumption) ?_
          refine r_getR 81 dX3_move_78 rfl kf_3_120 rfl (by first | assumption | omega) (by assumption) (by assumption) ?_
          refine r_iload_n 82 dX3_move_81 rfl rfl ?_
          refine r_iload_n 83 dX3_move_82 rfl rfl ?_
          refine r_iast 84 dX3_move_83 rfl (by first | assumption | omega) (by assumption) (by first | omega | (simp only [Int.toNat_natCast]; omega)) (by first | omega | (simp only [Int.toNat_natCast]; omega)) ?_
          refine r_goto 97 dX3_move_84 (by decide) ?_
          refine r_iload 99 dX3_move_97 rfl rfl ?_
          refine r_iret dX3_move_99 rfl ?_
          rotate_left -- leaf: return at pc 99
          · omega
          · omega
          · exact ⟨rfl, rfl⟩
        · rw [if_neg (z01_n.mp c_28)]
          exact ⟨rfl, rfl⟩
    · have hx := z01_n.mp c_15
      unfold sMove
      rw [if_pos (fun q => hx q.2)]
      exact ⟨rfl, rfl⟩
def mayB (h : zH) (x m : Int) : Bool := decide ((0 ≤ x ∧ x < 12) ∧ (m = -4 ∨ (0 ≤ m ∧ m < h 1 6)))
theorem mayB_t {h : zH} {x m : Int} : mayB h x m = true ↔ mayP h x m := decide_eq_true_iff
def sShift (x m : Int) (h : zH) : Int × zH := if mayB h x m = true then (h (1 + 3) x.toNat, reb 1 (up h (1 + 3) x.toNat m)) else (-1, h)
theorem c_shift (ly : LX G) (w : wX h) (x m : Int) : Ca l G 3 mX3_shift [vR 0, vI x, vI m] h (fun r h' => r = some (vI (sShift x m h).1) ∧ h' = (sShift x m h).2) := by
  have lX0 := ly
  obtain ⟨hN, ⟨ly1, ly8, ly16, ly23⟩, ltp, ⟨ls34, ls36, ls38, ls40⟩, ⟨xs0, xs15, xs30, xs33, xs42, xs43, xs44⟩, ⟨xl15, xl30, xl33, xl42, xl43, xl44⟩, ⟨xr0, xr1, xr2, xr3, xr4, xr5, xr6, xr7, xr8⟩, ⟨yr0, yr1⟩, ⟨zr0, zr1, zr2, zr3⟩⟩ := ly
  have xs1 : gs G 1 = 7 := ly1.2.1.1
  have xs8 : gs G 8 = 7 := ly8.2.1.1
  have xs16 : gs G 16 = 7 := ly16.2.1.1
  have xs23 : gs G 23 = 7 := ly23.2.1.1
  have xs31 : gs G 31 = 6 := ltp.2.1.1
  have xs34 : gs G 34 = 5 := ls34.2.1.1
  have xs36 : gs G 36 = 5 := ls36.2.1.1
  have xs38 : gs G 38 = 5 := ls38.2.1.1
  have xs40 : gs G 40 = 5 := ls40.2.1.1
  obtain ⟨⟨w1, w8, w16, w23⟩, wp, wsn, ws42, ws43, wk, ⟨wh34, wh36, wh38, wh40⟩, wt⟩ := w
  have ly1' := ly1
  obtain ⟨⟨tn0, tn1, tn2, tn3, tn4, tn5, tn6⟩, ⟨ts0, ts1, ts2, ts3, ts4, ts5, ts6⟩, ⟨tr0, tr1, tr2, tr3, tr4, tr5⟩, ⟨tl1, tl2, tl3, tl4, tl5, tl6⟩⟩ := ly1'
  have w1' := w1
  obtain ⟨tw1, tw2, tw3, tw4, tw5, tw6, tw7, tw8, tw9, tw10⟩ := w1'
  refine Ca.of (by decide) (Nat.le_of_ble_eq_true rfl) (fun hI hv hH => ?_)
  refine r_aload_n 1 dX3_shift_0 rfl rfl ?_
  refine r_iload_n 2 dX3_shift_1 rfl rfl ?_
  refine r_iload_n 3 dX3_shift_2 rfl rfl ?_
  rotate_left -- leaf: call at pc 3
  refine r_cv2 6 dX3_shift_3 rfl kv_3_149 (by first | assumption | omega) (by assumption) rfl rfl (c_mayStand lX0 x m) ?_
  rintro r h' ⟨⟨q1, rfl⟩ | ⟨q1, rfl⟩, rfl⟩
  · have q2 := q1
    obtain ⟨⟨a1, a2⟩, a3⟩ := q1
    obtain ⟨x, rfl⟩ := nat_of a1
    unfold sShift
    rw [if_pos (mayB_t.mpr q2)]
    refine r_if_ne 11 9 dX3_shift_6 (by decide) rfl (fun c_6 => ?_) (fun c_6 => ?_)
    refine r_aload_n 12 dX3_shift_11 rfl rfl ?_
    refine r_getR 15 dX3_shift_12 rfl kf_3_10 rfl (by first | assumption | omega) (by assumption) (by assumption) ?_
    refine r_getR 18 dX3_shift_15 rfl kf_3_114 rfl (by first | assumption | omega) (by assumption) (by assumption) ?_
    refine r_iload_n 19 dX3_shift_18 rfl rfl ?_
    refine r_iald 20 dX3_shift_19 rfl (by first | assumption | omega) (by assumption) (by first | omega | (simp only [Int.toNat_natCast]; omega)) (by first | omega | (simp only [Int.toNat_natCast]; omega)) ?_
    refine r_istore_n 21 dX3_shift_20 rfl rfl rfl ?_
    refine r_aload_n 22 dX3_shift_21 rfl rfl ?_
    refine r_getR 25 dX3_shift_22 rfl kf_3_10 rfl (by first | assumption | omega) (by assumption) (by assumption) ?_
    refine r_iload_n 26 dX3_shift_25 rfl rfl ?_
    refine r_iload_n 27 dX3_shift_26 rfl rfl ?_
    rotate_left -- leaf: call at pc 27
    rotate_left -- leaf: pc 9
    · rw [Int.toNat_natCast]
      refine r_cv2 30 dX3_shift_27 rfl kv_3_153 (by first | assumption | omega) (by assumption) rfl rfl (c_setStands ly1 x (by omega) m (wT_up3 w1 (by omega))) ?_
      rintro r h3 ⟨rfl, rfl⟩
      refine r_iload_n 31 dX3_shift_30 rfl rfl ?_
      refine r_iret dX3_shift_31 rfl ?_
      rotate_left -- leaf: return at pc 31
      exact ⟨rfl, rfl⟩
    · omega
  · unfold sShift
    rw [if_neg (fun z => q1 (mayB_t.mp z))]
    refine r_if_ne 11 9 dX3_shift_6 (by decide) rfl (fun c_6 => ?_) (fun c_6 => ?_)
    rotate_left -- leaf: pc 11
    refine r_iconst 10 dX3_shift_9 rfl rfl ?_
    refine r_iret dX3_shift_10 rfl ?_
    rotate_left -- leaf: return at pc 10
    · omega
    · exact ⟨rfl, rfl⟩
def sCloud (x b : Int) (h : zH) : Int × zH := if 0 ≤ x ∧ x < 12 then (bitI (h 1 8) x.toNat, up h 1 8 (cldF (h 1 8) x.toNat b)) else (-1, h)
theorem c_cloud (ly : LX G) (w : wX h) (x b : Int) : Ca l G 1 mX3_cloud [vR 0, vI x, vI b] h (fun r h' => r = some (vI (sCloud x b h).1) ∧ h' = (sCloud x b h).2) := by
  obtain ⟨hN, ⟨ly1, ly8, ly16, ly23⟩, ltp, ⟨ls34, ls36, ls38, ls40⟩, ⟨xs0, xs15, xs30, xs33, xs42, xs43, xs44⟩, ⟨xl15, xl30, xl33, xl42, xl43, xl44⟩, ⟨xr0, xr1, xr2, xr3, xr4, xr5, xr6, xr7, xr8⟩, ⟨yr0, yr1⟩, ⟨zr0, zr1, zr2, zr3⟩⟩ := ly
  have xs1 : gs G 1 = 7 := ly1.2.1.1
  have xs8 : gs G 8 = 7 := ly8.2.1.1
  have xs16 : gs G 16 = 7 := ly16.2.1.1
  have xs23 : gs G 23 = 7 := ly23.2.1.1
  have xs31 : gs G 31 = 6 := ltp.2.1.1
  have xs34 : gs G 34 = 5 := ls34.2.1.1
  have xs36 : gs G 36 = 5 := ls36.2.1.1
  have xs38 : gs G 38 = 5 := ls38.2.1.1
  have xs40 : gs G 40 = 5 := ls40.2.1.1
  obtain ⟨⟨w1, w8, w16, w23⟩, wp, wsn, ws42, ws43, wk, ⟨wh34, wh36, wh38, wh40⟩, wt⟩ := w
  have ly1' := ly1
  obtain ⟨⟨tn0, tn1, tn2, tn3, tn4, tn5, tn6⟩, ⟨ts0, ts1, ts2, ts3, ts4, ts5, ts6⟩, ⟨tr0, tr1, tr2, tr3, tr4, tr5⟩, ⟨tl1, tl2, tl3, tl4, tl5, tl6⟩⟩ := ly1'
  have w1' := w1
  obtain ⟨tw1, tw2, tw3, tw4, tw5, tw6, tw7, tw8, tw9, tw10⟩ := w1'
  refine Ca.of (by decide) (Nat.le_of_ble_eq_true rfl) (fun hI hv hH => ?_)
  refine r_iload_n 1 dX3_cloud_0 rfl rfl ?_
  rotate_left -- leaf: call at pc 1
  refine r_cs1 4 dX3_cloud_1 rfl ks_3_111 rfl rfl (c_isHour x) ?_
  rintro r h' ⟨rfl, rfl⟩
  refine r_if_ne 9 7 dX3_cloud_4 (by decide) rfl (fun c_4 => ?_) (fun c_4 => ?_)
  rotate_left -- leaf: pc 9
  refine r_iconst 8 dX3_cloud_7 rfl rfl ?_
  refine r_iret dX3_cloud_8 rfl ?_
  rotate_left -- leaf: return at pc 8
  · have hx := z01_y.mp c_4
    unfold sCloud
    rw [if_pos hx]
    obtain ⟨x, rfl⟩ := nat_of hx.1
    rw [Int.toNat_natCast]
    refine r_aload_n 10 dX3_cloud_9 rfl rfl ?_
    refine r_getR 13 dX3_cloud_10 rfl kf_3_10 rfl (by first | assumption | omega) (by assumption) (by assumption) ?_
    refine r_iload_n 14 dX3_cloud_13 rfl rfl ?_
    rotate_left -- leaf: call at pc 14
    refine r_cv1 17 dX3_cloud_14 rfl kv_3_156 (by first | assumption | omega) (by assumption) rfl rfl (c_isCloudy ly1 x (by omega)) ?_
    rintro r h'' ⟨rfl, rfl⟩
    have hb : bitI (h'' 1 8) x = 0 ∨ bitI (h'' 1 8) x = 1 := by unfold bitI; omega
    refine r_if_eq 24 20 dX3_cloud_17 (by decide) rfl (fun c_17 => ?_) (fun c_17 => ?_)
    refine r_iconst 25 dX3_cloud_24 rfl rfl ?_
    refine r_istore_n 26 dX3_cloud_25 rfl rfl rfl ?_
    refine r_aload_n 27 dX3_cloud_26 rfl rfl ?_
    refine r_getR 30 dX3_cloud_27 rfl kf_3_10 rfl (by first | assumption | omega) (by assumption) (by assumption) ?_
    refine r_iload_n 31 dX3_cloud_30 rfl rfl ?_
    refine r_iload_n 32 dX3_cloud_31 rfl rfl ?_
    rotate_left -- leaf: call at pc 32
    refine r_iconst 21 dX3_cloud_20 rfl rfl ?_
    refine r_goto 25 dX3_cloud_21 (by decide) ?_
    refine r_istore_n 26 dX3_cloud_25 rfl rfl rfl ?_
    refine r_aload_n 27 dX3_cloud_26 rfl rfl ?_
    refine r_getR 30 dX3_cloud_27 rfl kf_3_10 rfl (by first | assumption | omega) (by assumption) (by assumption) ?_
    refine r_iload_n 31 dX3_cloud_30 rfl rfl ?_
    refine r_iload_n 32 dX3_cloud_31 rfl rfl ?_
    rotate_left -- leaf: call at pc 32
    · refine r_cv2 35 dX3_cloud_32 rfl kv_3_159 (by first | assumption | omega) (by assumption) rfl rfl (c_setCloudy ly1 x (by omega) b) ?_
      rintro r h3 ⟨rfl, rfl⟩
      refine r_iload_n 36 dX3_cloud_35 rfl rfl ?_
      refine r_iret dX3_cloud_36 rfl ?_
      rotate_left -- leaf: return at pc 36
      exact ⟨by rw [c_17], rfl⟩
    · refine r_cv2 35 dX3_cloud_32 rfl kv_3_159 (by first | assumption | omega) (by assumption) rfl rfl (c_setCloudy ly1 x (by omega) b) ?_
      rintro r h3 ⟨rfl, rfl⟩
      refine r_iload_n 36 dX3_cloud_35 rfl rfl ?_
      refine r_iret dX3_cloud_36 rfl ?_
      rotate_left -- leaf: return at pc 36
      exact ⟨by rw [show bitI (h'' 1 8) x = 1 by omega], rfl⟩
  · unfold sCloud
    rw [if_neg (z01_n.mp c_4)]
    exact ⟨rfl, rfl⟩
def sPaint (v : Int) (h : zH) : Int × zH := if v < 0 ∨ 7 ≤ v then (-1, h) else (h 1 9, reb 1 (up h 1 9 v))
theorem c_paint (ly : LX G) (w : wX h) (v : Int) : Ca l G 3 mX3_paint [vR 0, vI v] h (fun r h' => r = some (vI (sPaint v h).1) ∧ h' = (sPaint v h).2) := by
  obtain ⟨hN, ⟨ly1, ly8, ly16, ly23⟩, ltp, ⟨ls34, ls36, ls38, ls40⟩, ⟨xs0, xs15, xs30, xs33, xs42, xs43, xs44⟩, ⟨xl15, xl30, xl33, xl42, xl43, xl44⟩, ⟨xr0, xr1, xr2, xr3, xr4, xr5, xr6, xr7, xr8⟩, ⟨yr0, yr1⟩, ⟨zr0, zr1, zr2, zr3⟩⟩ := ly
  have xs1 : gs G 1 = 7 := ly1.2.1.1
  have xs8 : gs G 8 = 7 := ly8.2.1.1
  have xs16 : gs G 16 = 7 := ly16.2.1.1
  have xs23 : gs G 23 = 7 := ly23.2.1.1
  have xs31 : gs G 31 = 6 := ltp.2.1.1
  have xs34 : gs G 34 = 5 := ls34.2.1.1
  have xs36 : gs G 36 = 5 := ls36.2.1.1
  have xs38 : gs G 38 = 5 := ls38.2.1.1
  have xs40 : gs G 40 = 5 := ls40.2.1.1
  obtain ⟨⟨w1, w8, w16, w23⟩, wp, wsn, ws42, ws43, wk, ⟨wh34, wh36, wh38, wh40⟩, wt⟩ := w
  have ly1' := ly1
  obtain ⟨⟨tn0, tn1, tn2, tn3, tn4, tn5, tn6⟩, ⟨ts0, ts1, ts2, ts3, ts4, ts5, ts6⟩, ⟨tr0, tr1, tr2, tr3, tr4, tr5⟩, ⟨tl1, tl2, tl3, tl4, tl5, tl6⟩⟩ := ly1'
  refine Ca.of (by decide) (Nat.le_of_ble_eq_true rfl) (fun hI hv hH => ?_)
  refine r_iload_n 1 dX3_paint_0 rfl rfl ?_
  refine r_if_lt 10 4 dX3_paint_1 (by decide) rfl (fun c_1 => ?_) (fun c_1 => ?_)
  refine r_iconst 11 dX3_paint_10 rfl rfl ?_
  refine r_iret dX3_paint_11 rfl ?_
  rotate_left -- leaf: return at pc 11
  refine r_iload_n 5 dX3_paint_4 rfl rfl ?_
  refine r_bipush 7 dX3_paint_5 rfl rfl (by decide) ?_
  refine r_icmp_lt 12 10 dX3_paint_7 (by decide) rfl (fun c_7 => ?_) (fun c_7 => ?_)
  rotate_left -- leaf: pc 12
  refine r_iconst 11 dX3_paint_10 rfl rfl ?_
  refine r_iret dX3_paint_11 rfl ?_
  rotate_left -- leaf: return at pc 11
  · unfold sPaint
    rw [if_pos (Or.inl c_1)]
    exact ⟨rfl, rfl⟩
  · unfold sPaint
    rw [if_neg (by omega)]
    refine r_aload_n 13 dX3_paint_12 rfl rfl ?_
    refine r_getR 16 dX3_paint_13 rfl kf_3_10 rfl (by first | assumption | omega) (by assumption) (by assumption) ?_
    refine r_getI 19 dX3_paint_16 rfl kf_3_82 rfl (by first | assumption | omega) (by assumption) ?_
    refine r_istore_n 20 dX3_paint_19 rfl rfl rfl ?_
    refine r_aload_n 21 dX3_paint_20 rfl rfl ?_
    refine r_getR 24 dX3_paint_21 rfl kf_3_10 rfl (by first | assumption | omega) (by assumption) (by assumption) ?_
    refine r_iload_n 25 dX3_paint_24 rfl rfl ?_
    rotate_left -- leaf: call at pc 25
    refine r_cv1 28 dX3_paint_25 rfl kv_3_163 (by first | assumption | omega) (by assumption) rfl rfl (c_setPainted ly1 v (wT_up0 w1 (by omega) (by omega) (by omega) (by omega))) ?_
    rintro r h3 ⟨rfl, rfl⟩
    refine r_iload_n 29 dX3_paint_28 rfl rfl ?_
    refine r_iret dX3_paint_29 rfl ?_
    rotate_left -- leaf: return at pc 29
    exact ⟨rfl, rfl⟩
  · unfold sPaint
    rw [if_pos (Or.inr c_7)]
    exact ⟨rfl, rfl⟩
def sWant (a b : Int) (h : zH) : Int × zH := if ¬ ((0 ≤ a ∧ a < 48) ∧ (1 ≤ b ∧ b ≤ 9)) then (-1, h) else if 5 ≤ h 1 7 then (-3, h) else (h 1 7 + 1, up (up (up h (1 + 4) (h 1 7).toNat a) (1 + 5) (h 1 7).toNat b) 1 7 (h 1 7 + 1))
theorem c_want (ly : LX G) (w : wX h) (a b : Int) : Ca l G 1 mX3_want [vR 0, vI a, vI b] h (fun r h' => r = some (vI (sWant a b h).1) ∧ h' = (sWant a b h).2) := by
  obtain ⟨hN, ⟨ly1, ly8, ly16, ly23⟩, ltp, ⟨ls34, ls36, ls38, ls40⟩, ⟨xs0, xs15, xs30, xs33, xs42, xs43, xs44⟩, ⟨xl15, xl30, xl33, xl42, xl43, xl44⟩, ⟨xr0, xr1, xr2, xr3, xr4, xr5, xr6, xr7, xr8⟩, ⟨yr0, yr1⟩, ⟨zr0, zr1, zr2, zr3⟩⟩ := ly
  have xs1 : gs G 1 = 7 := ly1.2.1.1
  have xs8 : gs G 8 = 7 := ly8.2.1.1
  have xs16 : gs G 16 = 7 := ly16.2.1.1
  have xs23 : gs G 23 = 7 := ly23.2.1.1
  have xs31 : gs G 31 = 6 := ltp.2.1.1
  have xs34 : gs G 34 = 5 := ls34.2.1.1
  have xs36 : gs G 36 = 5 := ls36.2.1.1
  have xs38 : gs G 38 = 5 := ls38.2.1.1
  have xs40 : gs G 40 = 5 := ls40.2.1.1
  obtain ⟨⟨w1, w8, w16, w23⟩, wp, wsn, ws42, ws43, wk, ⟨wh34, wh36, wh38, wh40⟩, wt⟩ := w
  have ly1' := ly1
  obtain ⟨⟨tn0, tn1, tn2, tn3, tn4, tn5, tn6⟩, ⟨ts0, ts1, ts2, ts3, ts4, ts5, ts6⟩, ⟨tr0, tr1, tr2, tr3, tr4, tr5⟩, ⟨tl1, tl2, tl3, tl4, tl5, tl6⟩⟩ := ly1'
  refine Ca.of (by decide) (Nat.le_of_ble_eq_true rfl) (fun hI hv hH => ?_)
  refine r_iload_n 1 dX3_want_0 rfl rfl ?_
  rotate_left -- leaf: call at pc 1
  refine r_cs1 4 dX3_want_1 rfl ks_3_143 rfl rfl (c_isQuarter a) ?_
  rintro r h' ⟨rfl, rfl⟩
  refine r_if_eq 14 7 dX3_want_4 (by decide) rfl (fun c_4 => ?_) (fun c_4 => ?_)
  refine r_iconst 15 dX3_want_14 rfl rfl ?_
  refine r_iret dX3_want_15 rfl ?_
  rotate_left -- leaf: return at pc 15
  refine r_iload_n 8 dX3_want_7 rfl rfl ?_
  rotate_left -- leaf: call at pc 8
  · have hm := z01_n.mp c_4
    unfold sWant
    rw [if_pos (fun q => hm q.1)]
    exact ⟨rfl, rfl⟩
  · have hm := z01_y.mp c_4
    refine r_cs1 11 dX3_want_8 rfl ks_3_146 rfl rfl (c_isWorth b) ?_
    rintro r h'' ⟨rfl, rfl⟩
    refine r_if_ne 16 14 dX3_want_11 (by decide) rfl (fun c_11 => ?_) (fun c_11 => ?_)
    rotate_left -- leaf: pc 16
    refine r_iconst 15 dX3_want_14 rfl rfl ?_
    refine r_iret dX3_want_15 rfl ?_
    rotate_left -- leaf: return at pc 15
    · have hx := z01_y.mp c_11
      unfold sWant
      rw [if_neg (fun q => q ⟨hm, hx⟩)]
      refine r_aload_n 17 dX3_want_16 rfl rfl ?_
      refine r_getR 20 dX3_want_17 rfl kf_3_10 rfl (by first | assumption | omega) (by assumption) (by assumption) ?_
      refine r_iload_n 21 dX3_want_20 rfl rfl ?_
      refine r_iload_n 22 dX3_want_21 rfl rfl ?_
      rotate_left -- leaf: call at pc 22
      refine r_cv2 25 dX3_want_22 rfl kv_3_167 (by first | assumption | omega) (by assumption) rfl rfl (c_addDeed ly1 a b w1) ?_
      rintro r h3 (⟨q1, rfl, rfl⟩ | ⟨q1, rfl, rfl⟩)
      · rw [if_pos q1]
        refine r_if_eq 38 28 dX3_want_25 (by decide) rfl (fun c_25 => ?_) (fun c_25 => ?_)
        refine r_bipush 40 dX3_want_38 rfl rfl (by decide) ?_
        refine r_iret dX3_want_40 rfl ?_
        rotate_left -- leaf: return at pc 40
        refine r_aload_n 29 dX3_want_28 rfl rfl ?_
        refine r_getR 32 dX3_want_29 rfl kf_3_10 rfl (by first | assumption | omega) (by assumption) (by assumption) ?_
        refine r_getI 35 dX3_want_32 rfl kf_3_79 rfl (by first | assumption | omega) (by assumption) ?_
        refine r_goto 40 dX3_want_35 (by decide) ?_
        refine r_iret dX3_want_40 rfl ?_
        rotate_left -- leaf: return at pc 40
        · exact ⟨rfl, rfl⟩
        · omega
      · rw [if_neg (by omega)]
        refine r_if_eq 38 28 dX3_want_25 (by decide) rfl (fun c_25 => ?_) (fun c_25 => ?_)
        refine r_bipush 40 dX3_want_38 rfl rfl (by decide) ?_
        refine r_iret dX3_want_40 rfl ?_
        rotate_left -- leaf: return at pc 40
        refine r_aload_n 29 dX3_want_28 rfl rfl ?_
        refine r_getR 32 dX3_want_29 rfl kf_3_10 rfl (by first | assumption | omega) (by assumption) (by assumption) ?_
        refine r_getI 35 dX3_want_32 rfl kf_3_79 rfl (by first | assumption | omega) (by assumption) ?_
        refine r_goto 40 dX3_want_35 (by decide) ?_
        refine r_iret dX3_want_40 rfl ?_
        rotate_left -- leaf: return at pc 40
        · omega
        · exact ⟨by rw [up_s], rfl⟩
    · have hx := z01_n.mp c_11
      unfold sWant
      rw [if_pos (fun q => hx q.2)]
      exact ⟨rfl, rfl⟩
def sDrop (n : Int) (h : zH) : Int × zH := if n < 0 ∨ h 1 7 < n then (-1, h) else (h 1 7, up h 1 7 n)
theorem c_drop (ly : LX G) (n : Int) : Ca l G 0 mX3_drop [vR 0, vI n] h (fun r h' => r = some (vI (sDrop n h).1) ∧ h' = (sDrop n h).2) := by
  obtain ⟨hN, ⟨ly1, ly8, ly16, ly23⟩, ltp, ⟨ls34, ls36, ls38, ls40⟩, ⟨xs0, xs15, xs30, xs33, xs42, xs43, xs44⟩, ⟨xl15, xl30, xl33, xl42, xl43, xl44⟩, ⟨xr0, xr1, xr2, xr3, xr4, xr5, xr6, xr7, xr8⟩, ⟨yr0, yr1⟩, ⟨zr0, zr1, zr2, zr3⟩⟩ := ly
  have xs1 : gs G 1 = 7 := ly1.2.1.1
  have xs8 : gs G 8 = 7 := ly8.2.1.1
  have xs16 : gs G 16 = 7 := ly16.2.1.1
  have xs23 : gs G 23 = 7 := ly23.2.1.1
  have xs31 : gs G 31 = 6 := ltp.2.1.1
  have xs34 : gs G 34 = 5 := ls34.2.1.1
  have xs36 : gs G 36 = 5 := ls36.2.1.1
  have xs38 : gs G 38 = 5 := ls38.2.1.1
  have xs40 : gs G 40 = 5 := ls40.2.1.1
  have ly1' := ly1
  obtain ⟨⟨tn0, tn1, tn2, tn3, tn4, tn5, tn6⟩, ⟨ts0, ts1, ts2, ts3, ts4, ts5, ts6⟩, ⟨tr0, tr1, tr2, tr3, tr4, tr5⟩, ⟨tl1, tl2, tl3, tl4, tl5, tl6⟩⟩ := ly1'
  refine Ca.of (by decide) (Nat.le_of_ble_eq_true rfl) (fun hI hv hH => ?_)
  refine r_iload_n 1 dX3_drop_0 rfl rfl ?_
  refine r_if_lt 15 4 dX3_drop_1 (by decide) rfl (fun c_1 => ?_) (fun c_1 => ?_)
  refine r_iconst 16 dX3_drop_15 rfl rfl ?_
  refine r_iret dX3_drop_16 rfl ?_
  rotate_left -- leaf: return at pc 16
  refine r_iload_n 5 dX3_drop_4 rfl rfl ?_
  refine r_aload_n 6 dX3_drop_5 rfl rfl ?_
  refine r_getR 9 dX3_drop_6 rfl kf_3_10 rfl (by first | assumption | omega) (by assumption) (by assumption) ?_
  refine r_getI 12 dX3_drop_9 rfl kf_3_79 rfl (by first | assumption | omega) (by assumption) ?_
  refine r_icmp_le 17 15 dX3_drop_12 (by decide) rfl (fun c_12 => ?_) (fun c_12 => ?_)
  refine r_aload_n 18 dX3_drop_17 rfl rfl ?_
  refine r_getR 21 dX3_drop_18 rfl kf_3_10 rfl (by first | assumption | omega) (by assumption) (by assumption) ?_
  refine r_getI 24 dX3_drop_21 rfl kf_3_79 rfl (by first | assumption | omega) (by assumption) ?_
  refine r_istore_n 25 dX3_drop_24 rfl rfl rfl ?_
  refine r_aload_n 26 dX3_drop_25 rfl rfl ?_
  refine r_getR 29 dX3_drop_26 rfl kf_3_10 rfl (by first | assumption | omega) (by assumption) (by assumption) ?_
  refine r_iload_n 30 dX3_drop_29 rfl rfl ?_
  refine r_putI 33 dX3_drop_30 rfl kf_3_79 rfl rfl (Or.inl rfl) (by first | assumption | omega) (by assumption) ?_
  refine r_iload_n 34 dX3_drop_33 rfl rfl ?_
  refine r_iret dX3_drop_34 rfl ?_
  rotate_left -- leaf: return at pc 34
  refine r_iconst 16 dX3_drop_15 rfl rfl ?_
  refine r_iret dX3_drop_16 rfl ?_
  rotate_left -- leaf: return at pc 16
  · unfold sDrop
    rw [if_pos (Or.inl c_1)]
    exact ⟨rfl, rfl⟩
  · unfold sDrop
    rw [if_neg (by omega)]
    exact ⟨rfl, rfl⟩
  · unfold sDrop
    rw [if_pos (Or.inr c_12)]
    exact ⟨rfl, rfl⟩
def qShows (q : Int) (h : zH) : Int := if 0 ≤ q ∧ q < 48 then rdgF h 1 q.toNat else -1
theorem c_shows (ly : LX G) (w : wX h) (q : Int) : Ca l G 3 mX3_shows [vR 0, vI q] h (fun r h' => r = some (vI (qShows q h)) ∧ h' = h) := by
  obtain ⟨hN, ⟨ly1, ly8, ly16, ly23⟩, ltp, ⟨ls34, ls36, ls38, ls40⟩, ⟨xs0, xs15, xs30, xs33, xs42, xs43, xs44⟩, ⟨xl15, xl30, xl33, xl42, xl43, xl44⟩, ⟨xr0, xr1, xr2, xr3, xr4, xr5, xr6, xr7, xr8⟩, ⟨yr0, yr1⟩, ⟨zr0, zr1, zr2, zr3⟩⟩ := ly
  have xs1 : gs G 1 = 7 := ly1.2.1.1
  have xs8 : gs G 8 = 7 := ly8.2.1.1
  have xs16 : gs G 16 = 7 := ly16.2.1.1
  have xs23 : gs G 23 = 7 := ly23.2.1.1
  have xs31 : gs G 31 = 6 := ltp.2.1.1
  have xs34 : gs G 34 = 5 := ls34.2.1.1
  have xs36 : gs G 36 = 5 := ls36.2.1.1
  have xs38 : gs G 38 = 5 := ls38.2.1.1
  have xs40 : gs G 40 = 5 := ls40.2.1.1
  obtain ⟨⟨w1, w8, w16, w23⟩, wp, wsn, ws42, ws43, wk, ⟨wh34, wh36, wh38, wh40⟩, wt⟩ := w
  have ly1' := ly1
  obtain ⟨⟨tn0, tn1, tn2, tn3, tn4, tn5, tn6⟩, ⟨ts0, ts1, ts2, ts3, ts4, ts5, ts6⟩, ⟨tr0, tr1, tr2, tr3, tr4, tr5⟩, ⟨tl1, tl2, tl3, tl4, tl5, tl6⟩⟩ := ly1'
  refine Ca.of (by decide) (Nat.le_of_ble_eq_true rfl) (fun hI hv hH => ?_)
  refine r_iload_n 1 dX3_shows_0 rfl rfl ?_
  rotate_left -- leaf: call at pc 1
  refine r_cs1 4 dX3_shows_1 rfl ks_3_143 rfl rfl (c_isQuarter q) ?_
  rintro r h' ⟨rfl, rfl⟩
  unfold qShows
  refine r_if_eq 18 7 dX3_shows_4 (by decide) rfl (fun c_4 => ?_) (fun c_4 => ?_)
  refine r_iconst 19 dX3_shows_18 rfl rfl ?_
  refine r_iret dX3_shows_19 rfl ?_
  rotate_left -- leaf: return at pc 19
  refine r_aload_n 8 dX3_shows_7 rfl rfl ?_
  refine r_getR 11 dX3_shows_8 rfl kf_3_10 rfl (by first | assumption | omega) (by assumption) (by assumption) ?_
  refine r_iload_n 12 dX3_shows_11 rfl rfl ?_
  rotate_left -- leaf: call at pc 12
  · rw [if_neg (z01_n.mp c_4)]
    exact ⟨rfl, rfl⟩
  · have hq := z01_y.mp c_4
    rw [if_pos hq]
    obtain ⟨q, rfl⟩ := nat_of hq.1
    rw [Int.toNat_natCast]
    refine r_cv1 15 dX3_shows_12 rfl kv_3_170 (by first | assumption | omega) (by assumption) rfl rfl (c_reading ly1 w1 q (by omega)) ?_
    rintro r h'' ⟨rfl, rfl⟩
    refine r_goto 19 dX3_shows_15 (by decide) ?_
    refine r_iret dX3_shows_19 rfl ?_
    rotate_left -- leaf: return at pc 19
    exact ⟨rfl, rfl⟩
/-- TIME GOES BACK: how often, where first, what was read latest, behind n QUARTERS -/
def loF (rd : Nat → Int) : Nat → Int × Int × Int
  | 0 => (0, -4, -4)
  | n + 1 => if rd n = -4 then loF rd n else if rd n < (loF rd n).2.2 then ((loF rd n).1 + 1, (if (loF rd n).2.1 = -4 then (n : Int) else (loF rd n).2.1), rd n) else ((loF rd n).1, (loF rd n).2.1, rd n)
theorem loF_in (rd : Nat → Int) : ∀ n : Nat, 0 ≤ (loF rd n).1 ∧ (loF rd n).1 ≤ n
  | 0 => by simp [loF]
  | n + 1 => by
    have := loF_in rd n
    simp only [loF]
    split
    · omega
    · split <;> simp <;> omega
def qLost (x : Int) (h : zH) : Int := if ¬ (x = 0 ∨ x = 1) then -1 else if x = 0 then (loF (rdgF h 1) 48).1 else (loF (rdgF h 1) 48).2.1
theorem l_lost (ly : LX G) (w : wX h) (x : Int) {Φ : Option zV → zH → Prop} (hΦ : Φ (some (vI (if x = 0 then (loF (rdgF h 1) 48).1 else (loF (rdgF h 1) 48).2.1))) h) : ∀ (n j : Nat) (x6 : Option zV), j + n = 48 → Rr l G 3 mX3_lost Φ 21 [some (vR 0), some (vI x), some (vI (loF (rdgF h 1) j).1), some (vI (loF (rdgF h 1) j).2.1), some (vI (loF (rdgF h 1) j).2.2), some (vI j), x6] [] h := by
  obtain ⟨hN, ⟨ly1, ly8, ly16, ly23⟩, ltp, ⟨ls34, ls36, ls38, ls40⟩, ⟨xs0, xs15, xs30, xs33, xs42, xs43, xs44⟩, ⟨xl15, xl30, xl33, xl42, xl43, xl44⟩, ⟨xr0, xr1, xr2, xr3, xr4, xr5, xr6, xr7, xr8⟩, ⟨yr0, yr1⟩, ⟨zr0, zr1, zr2, zr3⟩⟩ := ly
  have xs1 : gs G 1 = 7 := ly1.2.1.1
  have xs8 : gs G 8 = 7 := ly8.2.1.1
  have xs16 : gs G 16 = 7 := ly16.2.1.1
  have xs23 : gs G 23 = 7 := ly23.2.1.1
  have xs31 : gs G 31 = 6 := ltp.2.1.1
  have xs34 : gs G 34 = 5 := ls34.2.1.1
  have xs36 : gs G 36 = 5 := ls36.2.1.1
  have xs38 : gs G 38 = 5 := ls38.2.1.1
  have xs40 : gs G 40 = 5 := ls40.2.1.1
  obtain ⟨⟨w1, w8, w16, w23⟩, wp, wsn, ws42, ws43, wk, ⟨wh34, wh36, wh38, wh40⟩, wt⟩ := w
  have ly1' := ly1
  obtain ⟨⟨tn0, tn1, tn2, tn3, tn4, tn5, tn6⟩, ⟨ts0, ts1, ts2, ts3, ts4, ts5, ts6⟩, ⟨tr0, tr1, tr2, tr3, tr4, tr5⟩, ⟨tl1, tl2, tl3, tl4, tl5, tl6⟩⟩ := ly1'
  intro n
  induction n with
  | zero =>
    intro j x6 hj
    obtain rfl : j = 48 := by omega
    refine r_iload 23 dX3_lost_21 rfl rfl ?_
    refine r_bipush 25 dX3_lost_23 rfl rfl (by decide) ?_
    refine r_icmp_ge 82 28 dX3_lost_25 (by decide) rfl (fun c_25 => ?_) (fun c_25 => ?_)
    refine r_iload_n 83 dX3_lost_82 rfl rfl ?_
    refine r_if_ne 90 86 dX3_lost_83 (by decide) rfl (fun c_83 => ?_) (fun c_83 => ?_)
    refine r_iload_n 91 dX3_lost_90 rfl rfl ?_
    refine r_iret dX3_lost_91 rfl ?_
    rotate_left -- leaf: return at pc 91
    refine r_iload_n 87 dX3_lost_86 rfl rfl ?_
    refine r_goto 91 dX3_lost_87 (by decide) ?_
    refine r_iret dX3_lost_91 rfl ?_
    rotate_left -- leaf: return at pc 91
    rotate_left -- leaf: pc 28
    · rw [if_neg c_83] at hΦ
      exact hΦ
    · rw [if_pos c_83] at hΦ
      exact hΦ
    · omega
  | succ n ih =>
    intro j x6 hj
    have ih := ih (j + 1) (some (vI (rdgF h 1 j))) (by omega)
    have hin := loF_in (rdgF h 1) j
    simp only [loF] at ih
    refine r_iload 23 dX3_lost_21 rfl rfl ?_
    refine r_bipush 25 dX3_lost_23 rfl rfl (by decide) ?_
    refine r_icmp_ge 82 28 dX3_lost_25 (by decide) rfl (fun c_25 => ?_) (fun c_25 => ?_)
    rotate_left -- leaf: pc 82
    refine r_aload_n 29 dX3_lost_28 rfl rfl ?_
    refine r_getR 32 dX3_lost_29 rfl kf_3_10 rfl (by first | assumption | omega) (by assumption) (by assumption) ?_
    refine r_iload 34 dX3_lost_32 rfl rfl ?_
    rotate_left -- leaf: call at pc 34
    · omega
    refine r_cv1 37 dX3_lost_34 rfl kv_3_170 (by first | assumption | omega) (by assumption) rfl rfl (c_reading ly1 w1 j (by omega)) ?_
    rintro r h' ⟨rfl, rfl⟩
    refine r_istore 39 dX3_lost_37 rfl rfl rfl ?_
    refine r_iload 41 dX3_lost_39 rfl rfl ?_
    refine r_bipush 43 dX3_lost_41 rfl rfl (by decide) ?_
    refine r_icmp_ne 49 46 dX3_lost_43 (by decide) rfl (fun c_43 => ?_) (fun c_43 => ?_)
    refine r_iload 51 dX3_lost_49 rfl rfl ?_
    refine r_iload 53 dX3_lost_51 rfl rfl ?_
    refine r_icmp_ge 72 56 dX3_lost_53 (by decide) rfl (fun c_53 => ?_) (fun c_53 => ?_)
    refine r_iload 74 dX3_lost_72 rfl rfl ?_
    refine r_istore 76 dX3_lost_74 rfl rfl rfl ?_
    refine r_iinc 79 _ dX3_lost_76 rfl rfl rfl rfl (by first | exact w32_id (by omega) (by omega) | rfl) ?_
    refine r_goto 21 dX3_lost_79 (by decide) ?_
    rotate_left -- leaf: pc 21
    refine r_iinc 59 _ dX3_lost_56 rfl rfl rfl rfl (by first | exact w32_id (by omega) (by omega) | rfl) ?_
    refine r_iload_n 60 dX3_lost_59 rfl rfl ?_
    refine r_bipush 62 dX3_lost_60 rfl rfl (by decide) ?_
    refine r_icmp_ne 70 65 dX3_lost_62 (by decide) rfl (fun c_62 => ?_) (fun c_62 => ?_)
    refine r_iload_n 71 dX3_lost_70 rfl rfl ?_
    refine r_istore_n 72 dX3_lost_71 rfl rfl rfl ?_
    refine r_iload 74 dX3_lost_72 rfl rfl ?_
    refine r_istore 76 dX3_lost_74 rfl rfl rfl ?_
    refine r_iinc 79 _ dX3_lost_76 rfl rfl rfl rfl (by first | exact w32_id (by omega) (by omega) | rfl) ?_
    refine r_goto 21 dX3_lost_79 (by decide) ?_
    rotate_left -- leaf: pc 21
    refine r_iload 67 dX3_lost_65 rfl rfl ?_
    refine r_goto 71 dX3_lost_67 (by decide) ?_
    refine r_istore_n 72 dX3_lost_71 rfl rfl rfl ?_
    refine r_iload 74 dX3_lost_72 rfl rfl ?_
    refine r_istore 76 dX3_lost_74 rfl rfl rfl ?_
    refine r_iinc 79 _ dX3_lost_76 rfl rfl rfl rfl (by first | exact w32_id (by omega) (by omega) | rfl) ?_
    refine r_goto 21 dX3_lost_79 (by decide) ?_
    rotate_left -- leaf: pc 21
    refine r_goto 76 dX3_lost_46 (by decide) ?_
    refine r_iinc 79 _ dX3_lost_76 rfl rfl rfl rfl (by first | exact w32_id (by omega) (by omega) | rfl) ?_
    refine r_goto 21 dX3_lost_79 (by decide) ?_
    rotate_left -- leaf: pc 21
    · rw [if_neg c_43, if_neg (by omega)] at ih
      exact ih
    · rw [if_neg c_43, if_pos c_53, if_neg c_62] at ih
      exact ih
    · rw [if_neg c_43, if_pos c_53, if_pos c_62] at ih
      exact ih
    · rw [if_pos c_43] at ih
      exact ih
theorem c_lost (ly : LX G) (w : wX h) (x : Int) : Ca l G 3 mX3_lost [vR 0, vI x] h (fun r h' => r = some (vI (qLost x h)) ∧ h' = h) := by
  refine Ca.of (by decide) (Nat.le_of_ble_eq_true rfl) (fun hI hv hH => ?_)
  refine r_iload_n 1 dX3_lost_0 rfl rfl ?_
  rotate_left -- leaf: call at pc 1
  refine r_cs1 4 dX3_lost_1 rfl ks_3_133 rfl rfl (c_isFS x) ?_
  rintro r h' ⟨rfl, rfl⟩
  unfold qLost
  refine r_if_ne 9 7 dX3_lost_4 (by decide) rfl (fun c_4 => ?_) (fun c_4 => ?_)
  refine r_iconst 10 dX3_lost_9 rfl rfl ?_
  refine r_istore_n 11 dX3_lost_10 rfl rfl rfl ?_
  refine r_bipush 13 dX3_lost_11 rfl rfl (by decide) ?_
  refine r_istore_n 14 dX3_lost_13 rfl rfl rfl ?_
  refine r_bipush 16 dX3_lost_14 rfl rfl (by decide) ?_
  refine r_istore 18 dX3_lost_16 rfl rfl rfl ?_
  refine r_iconst 19 dX3_lost_18 rfl rfl ?_
  refine r_istore 21 dX3_lost_19 rfl rfl rfl ?_
  rotate_left -- leaf: pc 21
  refine r_iconst 8 dX3_lost_7 rfl rfl ?_
  refine r_iret dX3_lost_8 rfl ?_
  rotate_left -- leaf: return at pc 8
  · rw [if_neg (fun q => q (z01_y.mp c_4))]
    exact l_lost (l := l) ly w x (Φ := fun r h'' => r = some (vI (if x = 0 then (loF (rdgF h' 1) 48).1 else (loF (rdgF h' 1) 48).2.1)) ∧ h'' = h') ⟨rfl, rfl⟩ 48 0 none rfl
  · rw [if_pos (z01_n.mp c_4)]
    exact ⟨rfl, rfl⟩
def woF (rd : Nat → Int) : Nat → Int × Int
  | 0 => (-4, -4)
  | n + 1 => if ¬ rd n = -4 ∧ (woF rd n).1 < absF (rd n - n) then (absF (rd n - n), (n : Int)) else woF rd n
def qWorst (x : Int) (h : zH) : Int := if ¬ (x = 0 ∨ x = 1) then -1 else if x = 0 then (woF (rdgF h 1) 48).1 else (woF (rdgF h 1) 48).2
theorem l_worst (ly : LX G) (w : wX h) (x : Int) {Φ : Option zV → zH → Prop} (hΦ : Φ (some (vI (if x = 0 then (woF (rdgF h 1) 48).1 else (woF (rdgF h 1) 48).2))) h) : ∀ (n j : Nat) (x6 : Option zV), j + n = 48 → Rr l G 3 mX3_worst Φ 18 [some (vR 0), some (vI x), some (vI (woF (rdgF h 1) j).1), some (vI (woF (rdgF h 1) j).2), some (vI j), x6] [] h := by
  obtain ⟨hN, ⟨ly1, ly8, ly16, ly23⟩, ltp, ⟨ls34, ls36, ls38, ls40⟩, ⟨xs0, xs15, xs30, xs33, xs42, xs43, xs44⟩, ⟨xl15, xl30, xl33, xl42, xl43, xl44⟩, ⟨xr0, xr1, xr2, xr3, xr4, xr5, xr6, xr7, xr8⟩, ⟨yr0, yr1⟩, ⟨zr0, zr1, zr2, zr3⟩⟩ := ly
  have xs1 : gs G 1 = 7 := ly1.2.1.1
  have xs8 : gs G 8 = 7 := ly8.2.1.1
  have xs16 : gs G 16 = 7 := ly16.2.1.1
  have xs23 : gs G 23 = 7 := ly23.2.1.1
  have xs31 : gs G 31 = 6 := ltp.2.1.1
  have xs34 : gs G 34 = 5 := ls34.2.1.1
  have xs36 : gs G 36 = 5 := ls36.2.1.1
  have xs38 : gs G 38 = 5 := ls38.2.1.1
  have xs40 : gs G 40 = 5 := ls40.2.1.1
  obtain ⟨⟨w1, w8, w16, w23⟩, wp, wsn, ws42, ws43, wk, ⟨wh34, wh36, wh38, wh40⟩, wt⟩ := w
  have ly1' := ly1
  obtain ⟨⟨tn0, tn1, tn2, tn3, tn4, tn5, tn6⟩, ⟨ts0, ts1, ts2, ts3, ts4, ts5, ts6⟩, ⟨tr0, tr1, tr2, tr3, tr4, tr5⟩, ⟨tl1, tl2, tl3, tl4, tl5, tl6⟩⟩ := ly1'
  intro n
  induction n with
  | zero =>
    intro j x6 hj
    obtain rfl : j = 48 := by omega
    refine r_iload 20 dX3_worst_18 rfl rfl ?_
    refine r_bipush 22 dX3_worst_20 rfl rfl (by decide) ?_
    refine r_icmp_ge 73 25 dX3_worst_22 (by decide) rfl (fun c_22 => ?_) (fun c_22 => ?_)
    refine r_iload_n 74 dX3_worst_73 rfl rfl ?_
    refine r_if_ne 81 77 dX3_worst_74 (by decide) rfl (fun c_74 => ?_) (fun c_74 => ?_)
    refine r_iload_n 82 dX3_worst_81 rfl rfl ?_
    refine r_iret dX3_worst_82 rfl ?_
    rotate_left -- leaf: return at pc 82
    refine r_iload_n 78 dX3_worst_77 rfl rfl ?_
    refine r_goto 82 dX3_worst_78 (by decide) ?_
    refine r_iret dX3_worst_82 rfl ?_
    rotate_left -- leaf: return at pc 82
    rotate_left -- leaf: pc 25
    · rw [if_neg c_74] at hΦ
      exact hΦ
    · rw [if_pos c_74] at hΦ
      exact hΦ
    · omega
  | succ n ih =>
    intro j x6 hj
    have ih := ih (j + 1) (some (vI (rdgF h 1 j))) (by omega)
    simp only [woF] at ih
    refine r_iload 20 dX3_worst_18 rfl rfl ?_
    refine r_bipush 22 dX3_worst_20 rfl rfl (by decide) ?_
    refine r_icmp_ge 73 25 dX3_worst_22 (by decide) rfl (fun c_22 => ?_) (fun c_22 => ?_)
    rotate_left -- leaf: pc 73
    refine r_aload_n 26 dX3_worst_25 rfl rfl ?_
    refine r_getR 29 dX3_worst_26 rfl kf_3_10 rfl (by first | assumption | omega) (by assumption) (by assumption) ?_
    refine r_iload 31 dX3_worst_29 rfl rfl ?_
    rotate_left -- leaf: call at pc 31
    · omega
    refine r_cv1 34 dX3_worst_31 rfl kv_3_170 (by first | assumption | omega) (by assumption) rfl rfl (c_reading ly1 w1 j (by omega)) ?_
    rintro r h' ⟨rfl, rfl⟩
    have hr := rdgF_in (h := h') (p := 1) j
    refine r_istore 36 dX3_worst_34 rfl rfl rfl ?_
    refine r_iload 38 dX3_worst_36 rfl rfl ?_
    refine r_bipush 40 dX3_worst_38 rfl rfl (by decide) ?_
    refine r_icmp_eq 67 43 dX3_worst_40 (by decide) rfl (fun c_40 => ?_) (fun c_40 => ?_)
    refine r_iinc 70 _ dX3_worst_67 rfl rfl rfl rfl (by first | exact w32_id (by omega) (by omega) | rfl) ?_
    refine r_goto 18 dX3_worst_70 (by decide) ?_
    rotate_left -- leaf: pc 18
    refine r_iload 45 dX3_worst_43 rfl rfl ?_
    refine r_iload 47 dX3_worst_45 rfl rfl ?_
    refine r_isub 48 dX3_worst_47 rfl (by first | exact w32_id (by omega) (by omega) | rfl) ?_
    refine r_abs 51 dX3_worst_48 rfl ka_3_173 rfl rfl (by first | omega | (simp only [Int.toNat_natCast]; omega)) ?_
    refine r_iload_n 52 dX3_worst_51 rfl rfl ?_
    refine r_icmp_le 67 55 dX3_worst_52 (by decide) rfl (fun c_52 => ?_) (fun c_52 => ?_)
    refine r_iinc 70 _ dX3_worst_67 rfl rfl rfl rfl (by first | exact w32_id (by omega) (by omega) | rfl) ?_
    refine r_goto 18 dX3_worst_70 (by decide) ?_
    rotate_left -- leaf: pc 18
    refine r_iload 57 dX3_worst_55 rfl rfl ?_
    refine r_iload 59 dX3_worst_57 rfl rfl ?_
    refine r_isub 60 dX3_worst_59 rfl (by first | exact w32_id (by omega) (by omega) | rfl) ?_
    refine r_abs 63 dX3_worst_60 rfl ka_3_173 rfl rfl (by first | omega | (simp only [Int.toNat_natCast]; omega)) ?_
    refine r_istore_n 64 dX3_worst_63 rfl rfl rfl ?_
    refine r_iload 66 dX3_worst_64 rfl rfl ?_
    refine r_istore_n 67 dX3_worst_66 rfl rfl rfl ?_
    refine r_iinc 70 _ dX3_worst_67 rfl rfl rfl rfl (by first | exact w32_id (by omega) (by omega) | rfl) ?_
    refine r_goto 18 dX3_worst_70 (by decide) ?_
    rotate_left -- leaf: pc 18
    · rw [if_neg (fun q => q.1 c_40)] at ih
      exact ih
    · rw [if_neg (fun q => by have := q.2; unfold absF at this; omega)] at ih
      exact ih
    · rw [if_pos ⟨c_40, c_52⟩] at ih
      exact ih
theorem c_worst (ly : LX G) (w : wX h) (x : Int) : Ca l G 3 mX3_worst [vR 0, vI x] h (fun r h' => r = some (vI (qWorst x h)) ∧ h' = h) := by
  refine Ca.of (by decide) (Nat.le_of_ble_eq_true rfl) (fun hI hv hH => ?_)
  refine r_iload_n 1 dX3_worst_0 rfl rfl ?_
  rotate_left -- leaf: call at pc 1
  refine r_cs1 4 dX3_worst_1 rfl ks_3_133 rfl rfl (c_isFS x) ?_
  rintro r h' ⟨rfl, rfl⟩
  unfold qWorst
  refine r_if_ne 9 7 dX3_worst_4 (by decide) rfl (fun c_4 => ?_) (fun c_4 => ?_)
  refine r_bipush 11 dX3_worst_9 rfl rfl (by decide) ?_
  refine r_istore_n 12 dX3_worst_11 rfl rfl rfl ?_
  refine r_bipush 14 dX3_worst_12 rfl rfl (by decide) ?_
  refine r_istore_n 15 dX3_worst_14 rfl rfl rfl ?_
  refine r_iconst 16 dX3_worst_15 rfl rfl ?_
  refine r_istore 18 dX3_worst_16 rfl rfl rfl ?_
  rotate_left -- leaf: pc 18
  refine r_iconst 8 dX3_worst_7 rfl rfl ?_
  refine r_iret dX3_worst_8 rfl ?_
  rotate_left -- leaf: return at pc 8
  · rw [if_neg (fun q => q (z01_y.mp c_4))]
    exact l_worst (l := l) ly w x (Φ := fun r h'' => r = some (vI (if x = 0 then (woF (rdgF h' 1) 48).1 else (woF (rdgF h' 1) 48).2)) ∧ h'' = h') ⟨rfl, rfl⟩ 48 0 none rfl
  · rw [if_pos (z01_n.mp c_4)]
    exact ⟨rfl, rfl⟩
def tmF (q due : Int) : Int := if q = -4 then 3 else if q = due then 1 else if q < due then 0 else 2
theorem c_timeliness (ly : LX G) (w : wX h) (i : Nat) (hi : i < 5) : Ca l G 4 mX3_timelinessOf [vR 0, vI i] h (fun r h' => r = some (vI (tmF (dnA h 1 i) (h (1 + 4) i))) ∧ h' = h) := by
  obtain ⟨hN, ⟨ly1, ly8, ly16, ly23⟩, ltp, ⟨ls34, ls36, ls38, ls40⟩, ⟨xs0, xs15, xs30, xs33, xs42, xs43, xs44⟩, ⟨xl15, xl30, xl33, xl42, xl43, xl44⟩, ⟨xr0, xr1, xr2, xr3, xr4, xr5, xr6, xr7, xr8⟩, ⟨yr0, yr1⟩, ⟨zr0, zr1, zr2, zr3⟩⟩ := ly
  have xs1 : gs G 1 = 7 := ly1.2.1.1
  have xs8 : gs G 8 = 7 := ly8.2.1.1
  have xs16 : gs G 16 = 7 := ly16.2.1.1
  have xs23 : gs G 23 = 7 := ly23.2.1.1
  have xs31 : gs G 31 = 6 := ltp.2.1.1
  have xs34 : gs G 34 = 5 := ls34.2.1.1
  have xs36 : gs G 36 = 5 := ls36.2.1.1
  have xs38 : gs G 38 = 5 := ls38.2.1.1
  have xs40 : gs G 40 = 5 := ls40.2.1.1
  obtain ⟨⟨w1, w8, w16, w23⟩, wp, wsn, ws42, ws43, wk, ⟨wh34, wh36, wh38, wh40⟩, wt⟩ := w
  have ly1' := ly1
  obtain ⟨⟨tn0, tn1, tn2, tn3, tn4, tn5, tn6⟩, ⟨ts0, ts1, ts2, ts3, ts4, ts5, ts6⟩, ⟨tr0, tr1, tr2, tr3, tr4, tr5⟩, ⟨tl1, tl2, tl3, tl4, tl5, tl6⟩⟩ := ly1'
  refine Ca.of (by decide) (Nat.le_of_ble_eq_true rfl) (fun hI hv hH => ?_)
  refine r_aload_n 1 dX3_timelinessOf_0 rfl rfl ?_
  refine r_getR 4 dX3_timelinessOf_1 rfl kf_3_10 rfl (by first | assumption | omega) (by assumption) (by assumption) ?_
  refine r_iload_n 5 dX3_timelinessOf_4 rfl rfl ?_
  rotate_left -- leaf: call at pc 5
  refine r_cv1 8 dX3_timelinessOf_5 rfl kv_3_126 (by first | assumption | omega) (by assumption) rfl rfl (c_doneAt ly1 w1 i hi) ?_
  rintro r h' ⟨rfl, rfl⟩
  unfold tmF
  refine r_istore_n 9 dX3_timelinessOf_8 rfl rfl rfl ?_
  refine r_iload_n 10 dX3_timelinessOf_9 rfl rfl ?_
  refine r_bipush 12 dX3_timelinessOf_10 rfl rfl (by decide) ?_
  refine r_icmp_ne 17 15 dX3_timelinessOf_12 (by decide) rfl (fun c_12 => ?_) (fun c_12 => ?_)
  refine r_iload_n 18 dX3_timelinessOf_17 rfl rfl ?_
  refine r_aload_n 19 dX3_timelinessOf_18 rfl rfl ?_
  refine r_getR 22 dX3_timelinessOf_19 rfl kf_3_10 rfl (by first | assumption | omega) (by assumption) (by assumption) ?_
  refine r_getR 25 dX3_timelinessOf_22 rfl kf_3_120 rfl (by first | assumption | omega) (by assumption) (by assumption) ?_
  refine r_iload_n 26 dX3_timelinessOf_25 rfl rfl ?_
  refine r_iald 27 dX3_timelinessOf_26 rfl (by first | assumption | omega) (by assumption) (by first | omega | (simp only [Int.toNat_natCast]; omega)) (by first | omega | (simp only [Int.toNat_natCast]; omega)) ?_
  refine r_icmp_ne 32 30 dX3_timelinessOf_27 (by decide) rfl (fun c_27 => ?_) (fun c_27 => ?_)
  refine r_iload_n 33 dX3_timelinessOf_32 rfl rfl ?_
  refine r_aload_n 34 dX3_timelinessOf_33 rfl rfl ?_
  refine r_getR 37 dX3_timelinessOf_34 rfl kf_3_10 rfl (by first | assumption | omega) (by assumption) (by assumption) ?_
  refine r_getR 40 dX3_timelinessOf_37 rfl kf_3_120 rfl (by first | assumption | omega) (by assumption) (by assumption) ?_
  refine r_iload_n 41 dX3_timelinessOf_40 rfl rfl ?_
  refine r_iald 42 dX3_timelinessOf_41 rfl (by first | assumption | omega) (by assumption) (by first | omega | (simp only [Int.toNat_natCast]; omega)) (by first | omega | (simp only [Int.toNat_natCast]; omega)) ?_
  refine r_icmp_ge 49 45 dX3_timelinessOf_42 (by decide) rfl (fun c_42 => ?_) (fun c_42 => ?_)
  refine r_iconst 50 dX3_timelinessOf_49 rfl rfl ?_
  refine r_iret dX3_timelinessOf_50 rfl ?_
  rotate_left -- leaf: return at pc 50
  refine r_iconst 46 dX3_timelinessOf_45 rfl rfl ?_
  refine r_goto 50 dX3_timelinessOf_46 (by decide) ?_
  refine r_iret dX3_timelinessOf_50 rfl ?_
  rotate_left -- leaf: return at pc 50
  refine r_iconst 31 dX3_timelinessOf_30 rfl rfl ?_
  refine r_iret dX3_timelinessOf_31 rfl ?_
  rotate_left -- leaf: return at pc 31
  refine r_iconst 16 dX3_timelinessOf_15 rfl rfl ?_
  refine r_iret dX3_timelinessOf_16 rfl ?_
  rotate_left -- leaf: return at pc 16
  · rw [Int.toNat_natCast] at c_27 c_42
    rw [if_neg c_12, if_neg c_27, if_neg (by omega)]
    exact ⟨rfl, rfl⟩
  · rw [Int.toNat_natCast] at c_27 c_42
    rw [if_neg c_12, if_neg c_27, if_pos c_42]
    exact ⟨rfl, rfl⟩
  · rw [Int.toNat_natCast] at c_27
    rw [if_neg c_12, if_pos c_27]
    exact ⟨rfl, rfl⟩
  · rw [if_pos c_12]
    exact ⟨rfl, rfl⟩
def qDone (x : Int) (h : zH) : Int := if x < 0 ∨ 3 < x then -1 else orN (fun i => decide (tmF (dnA h 1 i) (h (1 + 4) i) = x)) (h 1 7).toNat
theorem l_done (ly : LX G) (w : wX h) (x : Int) {Φ : Option zV → zH → Prop} (hΦ : Φ (some (vI (orN (fun i => decide (tmF (dnA h 1 i) (h (1 + 4) i) = x)) (h 1 7).toNat))) h) : ∀ (n j : Nat), j + n = (h 1 7).toNat → Rr l G 5 mX3_done Φ 15 [some (vR 0), some (vI x), some (vI (orN (fun i => decide (tmF (dnA h 1 i) (h (1 + 4) i) = x)) j)), some (vI j)] [] h := by
  have lX0 := ly
  have wX0 := w
  obtain ⟨hN, ⟨ly1, ly8, ly16, ly23⟩, ltp, ⟨ls34, ls36, ls38, ls40⟩, ⟨xs0, xs15, xs30, xs33, xs42, xs43, xs44⟩, ⟨xl15, xl30, xl33, xl42, xl43, xl44⟩, ⟨xr0, xr1, xr2, xr3, xr4, xr5, xr6, xr7, xr8⟩, ⟨yr0, yr1⟩, ⟨zr0, zr1, zr2, zr3⟩⟩ := ly
  have xs1 : gs G 1 = 7 := ly1.2.1.1
  have xs8 : gs G 8 = 7 := ly8.2.1.1
  have xs16 : gs G 16 = 7 := ly16.2.1.1
  have xs23 : gs G 23 = 7 := ly23.2.1.1
  have xs31 : gs G 31 = 6 := ltp.2.1.1
  have xs34 : gs G 34 = 5 := ls34.2.1.1
  have xs36 : gs G 36 = 5 := ls36.2.1.1
  have xs38 : gs G 38 = 5 := ls38.2.1.1
  have xs40 : gs G 40 = 5 := ls40.2.1.1
  obtain ⟨⟨w1, w8, w16, w23⟩, wp, wsn, ws42, ws43, wk, ⟨wh34, wh36, wh38, wh40⟩, wt⟩ := w
  have ly1' := ly1
  obtain ⟨⟨tn0, tn1, tn2, tn3, tn4, tn5, tn6⟩, ⟨ts0, ts1, ts2, ts3, ts4, ts5, ts6⟩, ⟨tr0, tr1, tr2, tr3, tr4, tr5⟩, ⟨tl1, tl2, tl3, tl4, tl5, tl6⟩⟩ := ly1'
  have w1' := w1
  obtain ⟨tw1, tw2, tw3, tw4, tw5, tw6, tw7, tw8, tw9, tw10⟩ := w1'
  intro n
  induction n with
  | zero =>
    intro j hj
    refine r_iload_n 16 dX3_done_15 rfl rfl ?_
    refine r_aload_n 17 dX3_done_16 rfl rfl ?_
    refine r_getR 20 dX3_done_17 rfl kf_3_10 rfl (by first | assumption | omega) (by assumption) (by assumption) ?_
    refine r_getI 23 dX3_done_20 rfl kf_3_79 rfl (by first | assumption | omega) (by assumption) ?_
    refine r_icmp_ge 47 26 dX3_done_23 (by decide) rfl (fun c_23 => ?_) (fun c_23 => ?_)
    refine r_iload_n 48 dX3_done_47 rfl rfl ?_
    refine r_iret dX3_done_48 rfl ?_
    rotate_left -- leaf: return at pc 48
    rotate_left -- leaf: pc 26
    · rw [show j = (h 1 7).toNat by omega]
      exact hΦ
    · omega
  | succ n ih =>
    intro j hj
    have ih := ih (j + 1) (by omega)
    simp only [orN] at ih
    refine r_iload_n 16 dX3_done_15 rfl rfl ?_
    refine r_aload_n 17 dX3_done_16 rfl rfl ?_
    refine r_getR 20 dX3_done_17 rfl kf_3_10 rfl (by first | assumption | omega) (by assumption) (by assumption) ?_
    refine r_getI 23 dX3_done_20 rfl kf_3_79 rfl (by first | assumption | omega) (by assumption) ?_
    refine r_icmp_ge 47 26 dX3_done_23 (by decide) rfl (fun c_23 => ?_) (fun c_23 => ?_)
    rotate_left -- leaf: pc 47
    refine r_aload_n 27 dX3_done_26 rfl rfl ?_
    refine r_iload_n 28 dX3_done_27 rfl rfl ?_
    rotate_left -- leaf: call at pc 28
    · omega
    refine r_cv1 31 dX3_done_28 rfl kv_3_178 (by first | assumption | omega) (by assumption) rfl rfl (c_timeliness lX0 wX0 j (by omega)) ?_
    rintro r h' ⟨rfl, rfl⟩
    refine r_iload_n 32 dX3_done_31 rfl rfl ?_
    refine r_icmp_ne 41 35 dX3_done_32 (by decide) rfl (fun c_32 => ?_) (fun c_32 => ?_)
    refine r_iinc 44 _ dX3_done_41 rfl rfl rfl rfl (by first | exact w32_id (by omega) (by omega) | rfl) ?_
    refine r_goto 15 dX3_done_44 (by decide) ?_
    rotate_left -- leaf: pc 15
    refine r_iload_n 36 dX3_done_35 rfl rfl ?_
    refine r_iconst 37 dX3_done_36 rfl rfl ?_
    refine r_iload_n 38 dX3_done_37 rfl rfl ?_
    refine r_ishl 39 dX3_done_38 rfl rfl ?_
    refine r_ior 40 dX3_done_39 rfl rfl ?_
    refine r_istore_n 41 dX3_done_40 rfl rfl rfl ?_
    refine r_iinc 44 _ dX3_done_41 rfl rfl rfl rfl (by first | exact w32_id (by omega) (by omega) | rfl) ?_
    refine r_goto 15 dX3_done_44 (by decide) ?_
    rotate_left -- leaf: pc 15
    · rw [if_neg (by simp [c_32])] at ih
      exact ih
    · rw [if_pos (by simp [c_32])] at ih
      rw [z_or_bit (by omega) (orN_lt _ j)]
      exact ih
theorem c_done (ly : LX G) (w : wX h) (x : Int) : Ca l G 5 mX3_done [vR 0, vI x] h (fun r h' => r = some (vI (qDone x h)) ∧ h' = h) := by
  refine Ca.of (by decide) (Nat.le_of_ble_eq_true rfl) (fun hI hv hH => ?_)
  unfold qDone
  refine r_iload_n 1 dX3_done_0 rfl rfl ?_
  refine r_if_lt 9 4 dX3_done_1 (by decide) rfl (fun c_1 => ?_) (fun c_1 => ?_)
  refine r_iconst 10 dX3_done_9 rfl rfl ?_
  refine r_iret dX3_done_10 rfl ?_
  rotate_left -- leaf: return at pc 10
  refine r_iload_n 5 dX3_done_4 rfl rfl ?_
  refine r_iconst 6 dX3_done_5 rfl rfl ?_
  refine r_icmp_le 11 9 dX3_done_6 (by decide) rfl (fun c_6 => ?_) (fun c_6 => ?_)
  refine r_iconst 12 dX3_done_11 rfl rfl ?_
  refine r_istore_n 13 dX3_done_12 rfl rfl rfl ?_
  refine r_iconst 14 dX3_done_13 rfl rfl ?_
  refine r_istore_n 15 dX3_done_14 rfl rfl rfl ?_
  rotate_left -- leaf: pc 15
  refine r_iconst 10 dX3_done_9 rfl rfl ?_
  refine r_iret dX3_done_10 rfl ?_
  rotate_left -- leaf: return at pc 10
  · rw [if_pos (Or.inl c_1)]
    exact ⟨rfl, rfl⟩
  · rw [if_neg (by omega)]
    exact l_done (l := l) ly w x (Φ := fun r h' => r = some (vI (orN (fun i => decide (tmF (dnA h 1 i) (h (1 + 4) i) = x)) (h 1 7).toNat)) ∧ h' = h) ⟨rfl, rfl⟩ (h 1 7).toNat 0 (by omega)
  · rw [if_pos (Or.inr c_6)]
    exact ⟨rfl, rfl⟩
end SX
