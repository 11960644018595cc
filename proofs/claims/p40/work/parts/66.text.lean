/-! lines of a text, and the text, by the class -/
def roW : Nat → Nat → zH → zH
  | 0, _, h => h
  | n + 1, j, h => if nxW h 31 2 = 0 ∧ ¬ nxW h 31 4 = 3 then (if j = 12 then (if nxW h 31 4 = 0 then flW 2 (nxW h) else flW 5 (nxW h)) else if jgW 0 4 (nxW h) 31 2 = 0 then roW n (j + 1) (reb 8 (up (jgW 0 4 (nxW h)) (8 + 3) j (if jgW 0 4 (nxW h) 31 7 = 4 then -4 else jgW 0 4 (nxW h) 31 7))) else jgW 0 4 (nxW h)) else nxW h
def rotW (h : zH) : zH := if h 31 8 = 0 then roW 13 0 (up h 31 8 1) else flW 4 h
def cldW (h : zH) : zH := if tnW 0 11 h 31 2 = 0 then (if bitI (tnW 0 11 h 8 8) (tnV 0 11 h).toNat = 0 then tsW (up (tnW 0 11 h) 8 8 (cldF (tnW 0 11 h 8 8) (tnV 0 11 h).toNat 1)) else flW 4 (tnW 0 11 h)) else tnW 0 11 h
def pntW (h : zH) : zH := if h 31 9 = 0 then (if tnW 0 6 (up h 31 9 1) 31 2 = 0 then tsW (reb 8 (up (tnW 0 6 (up h 31 9 1)) 8 9 (tnV 0 6 (up h 31 9 1)))) else tnW 0 6 (up h 31 9 1)) else flW 4 h
def adD (g : zH) (a b : Int) : zH := up (up (up g (8 + 4) (g 8 7).toNat a) (8 + 5) (g 8 7).toNat b) 8 7 (g 8 7 + 1)
def dedW (h : zH) : zH := if h 8 7 < 5 then (if tnW 0 47 h 31 2 = 0 then (if tnW 1 9 (tnW 0 47 h) 31 2 = 0 then tsW (adD (tnW 1 9 (tnW 0 47 h)) (tnV 0 47 h) (tnV 1 9 (tnW 0 47 h))) else tnW 1 9 (tnW 0 47 h)) else tnW 0 47 h) else flW 5 h
def linN (h : zH) : Nat := if h 31 4 = 1 then lnF (spB h) 8 0 else 8
def linW (h : zH) : zH := if linN h = 8 then flW 2 h else if linN h = 4 then rotW h else if linN h = 5 then cldW h else if linN h = 6 then pntW h else if linN h = 7 then dedW h else manW (linN h) h
def tlW : Nat → Nat → zH → Nat × zH
  | 0, k, h => (k, h)
  | n + 1, k, h => if h 31 2 = 0 ∧ ¬ h 31 4 = 0 then tlW n (k + 1) (if linW h 31 2 = 0 then nxW (linW h) else linW h) else (k, h)
def awB (h : zH) : Bool := allN (fun j => decide (h (8 + 3) j = -4 ∨ (0 ≤ h (8 + 3) j ∧ h (8 + 3) j < h 8 6))) 12
def st0 (h : zH) : zH := up (up (up (up (up (clT0 8 h) 31 2 0) 31 3 0) 31 6 0) 31 8 0) 31 9 0
def teN (h : zH) : Nat × zH := tlW 160 0 (nxW (st0 h))
def teW (h : zH) : zH := if (teN h).2 31 2 = 0 then (if awB (teN h).2 = true then (teN h).2 else up (up (teN h).2 31 2 6) 31 3 ((teN h).2 31 1)) else (teN h).2
def sText (h : zH) : Int × zH := if up (teW h) 31 1 0 31 2 = 0 then (((teN h).1 : Int), up (up (up (cpT (up (teW h) 31 1 0) 8 1) 0 9 0) 30 0 0) 30 1 0) else (-10 - up (teW h) 31 1 0 31 3, up (teW h) 31 1 0)
section TK
variable {l : Launch} {G : zG} {h : zH}
theorem tk_st {j : Nat} {v : Int} (w : wK h) (hv : v = -4 ∨ (0 ≤ v ∧ v ≤ 3)) : tkR h (reb 8 (up h (8 + 3) j v)) :=
  tk_town w (fun a b q => by rw [reb_in (by omega), up_k (by omega)]) (wT_reb (wT_up3 w.2.1 hv))
theorem tk_ro : ∀ (n j : Nat) (h : zH), wK h → tkR h (roW n j h)
  | 0, _, h, w => tkR_rf w
  | n + 1, j, h, w => by
    have t1 := tk_nx w
    unfold roW
    split
    · split
      · split
        · exact tkR_tr t1 (tk_flW t1.2.1)
        · exact tkR_tr t1 (tk_flW t1.2.1)
      · have t2 := tk_jg (lo := 0) (hi := 4) t1.2.1
        split
        · have b := jg_in (lo := 0) (hi := 4) (h := nxW h) (by assumption)
          have t3 := tk_st (j := j) (v := if jgW 0 4 (nxW h) 31 7 = 4 then -4 else jgW 0 4 (nxW h) 31 7) t2.2.1 (by split <;> omega)
          exact tkR_tr t1 (tkR_tr t2 (tkR_tr t3 (tk_ro n (j + 1) _ t3.2.1)))
        · exact tkR_tr t1 t2
    · exact t1
theorem l_rota (ly : LX G) {Φ : Option zV → zH → Prop} : ∀ (n j : Nat) (h : zH), j + n = 13 → 1 ≤ n → wK h → Φ none (roW n j h) → Rr l G 4 mX1_takeRota Φ 24 [some (vR 31), some (vR 8), some (vI j)] [] h := by
  have lX0 := ly
  obtain ⟨hN, ⟨ly1, ly8, ly16, ly23⟩, ltp, ⟨ls34, ls36, ls38, ls40⟩, ⟨xs0, xs15, xs30, xs33, xs42, xs43, xs44⟩, ⟨xl15, xl30, xl33, xl42, xl43, xl44⟩, ⟨xr0, xr1, xr2, xr3, xr4, xr5, xr6, xr7, xr8⟩, ⟨yr0, yr1⟩, ⟨zr0, zr1, zr2, zr3⟩⟩ := ly
  have xs1 : gs G 1 = 7 := ly1.2.1.1
  have xs8 : gs G 8 = 7 := ly8.2.1.1
  have xs16 : gs G 16 = 7 := ly16.2.1.1
  have xs23 : gs G 23 = 7 := ly23.2.1.1
  have xs31 : gs G 31 = 6 := ltp.2.1.1
  have xs34 : gs G 34 = 5 := ls34.2.1.1
  have xs36 : gs G 36 = 5 := ls36.2.1.1
  have xs38 : gs G 38 = 5 := ls38.2.1.1
  have xs40 : gs G 40 = 5 := ls40.2.1.1
  have ltp' := ltp
  obtain ⟨⟨pn0, pn1⟩, ⟨ps0, ps1⟩, pr0, pl1⟩ := ltp'
  intro n
  induction n with
  | zero => intro j h hj hn; omega
  | succ n ih =>
    intro j h hj hn w hΦ
    have t1 := tk_nx w
    rw [roW] at hΦ
    refine r_iload_n 25 dX1_takeRota_24 rfl rfl ?_
    refine r_bipush 27 dX1_takeRota_25 rfl rfl (by decide) ?_
    refine r_icmp_gt 119 30 dX1_takeRota_27 (by decide) rfl (fun c_27 => ?_) (fun c_27 => ?_)
    rotate_left -- leaf: pc 119
    refine r_aload_n 31 dX1_takeRota_30 rfl rfl ?_
    rotate_left -- leaf: call at pc 31
    · omega
    refine r_cv0 34 dX1_takeRota_31 rfl kv_1_40 (by first | assumption | omega) (by assumption) rfl rfl (c_nextW lX0 w) ?_
    rintro r h' ⟨rfl, rfl⟩
    refine r_aload_n 35 dX1_takeRota_34 rfl rfl ?_
    rotate_left -- leaf: call at pc 35
    refine r_cv0 38 dX1_takeRota_35 rfl kv_1_43 (by first | assumption | omega) (by assumption) rfl rfl (c_isGood ltp) ?_
    rintro r h' ⟨rfl, rfl⟩
    refine r_if_eq 49 41 dX1_takeRota_38 (by decide) rfl (fun c_38 => ?_) (fun c_38 => ?_)
    refine r_ret dX1_takeRota_49 rfl ?_
    rotate_left -- leaf: return at pc 49
    refine r_aload_n 42 dX1_takeRota_41 rfl rfl ?_
    refine r_getI 45 dX1_takeRota_42 rfl kf_1_47 rfl (by first | assumption | omega) (by assumption) ?_
    refine r_iconst 46 dX1_takeRota_45 rfl rfl ?_
    refine r_icmp_ne 50 49 dX1_takeRota_46 (by decide) rfl (fun c_46 => ?_) (fun c_46 => ?_)
    refine r_iload_n 51 dX1_takeRota_50 rfl rfl ?_
    refine r_bipush 53 dX1_takeRota_51 rfl rfl (by decide) ?_
    refine r_icmp_ne 77 56 dX1_takeRota_53 (by decide) rfl (fun c_53 => ?_) (fun c_53 => ?_)
    rotate_left -- leaf: pc 77
    rotate_left -- leaf: pc 56
    refine r_ret dX1_takeRota_49 rfl ?_
    rotate_left -- leaf: return at pc 49
    · rw [if_neg (fun z => z01_n.mp c_38 z.1)] at hΦ
      exact hΦ
    · have eg := z01_y.mp c_38
      rw [if_pos ⟨eg, c_46⟩, if_neg (by omega)] at hΦ
      have t2 := tk_jg (lo := 0) (hi := 4) t1.2.1
      refine r_aload_n 78 dX1_takeRota_77 rfl rfl ?_
      refine r_iconst 79 dX1_takeRota_78 rfl rfl ?_
      refine r_iconst 80 dX1_takeRota_79 rfl rfl ?_
      rotate_left -- leaf: call at pc 80
      refine r_cv2 83 dX1_takeRota_80 rfl kv_1_98 (by first | assumption | omega) (by assumption) rfl rfl (c_judge lX0 0 4) ?_
      rintro r h' ⟨rfl, rfl⟩
      refine r_aload_n 84 dX1_takeRota_83 rfl rfl ?_
      rotate_left -- leaf: call at pc 84
      refine r_cv0 87 dX1_takeRota_84 rfl kv_1_43 (by first | assumption | omega) (by assumption) rfl rfl (c_isGood ltp) ?_
      rintro r h' ⟨rfl, rfl⟩
      refine r_if_ne 91 90 dX1_takeRota_87 (by decide) rfl (fun c_87 => ?_) (fun c_87 => ?_)
      refine r_aload_n 92 dX1_takeRota_91 rfl rfl ?_
      refine r_iload_n 93 dX1_takeRota_92 rfl rfl ?_
      refine r_aload_n 94 dX1_takeRota_93 rfl rfl ?_
      refine r_getI 97 dX1_takeRota_94 rfl kf_1_101 rfl (by first | assumption | omega) (by assumption) ?_
      refine r_iconst 98 dX1_takeRota_97 rfl rfl ?_
      refine r_icmp_ne 106 101 dX1_takeRota_98 (by decide) rfl (fun c_98 => ?_) (fun c_98 => ?_)
      refine r_aload_n 107 dX1_takeRota_106 rfl rfl ?_
      refine r_getI 110 dX1_takeRota_107 rfl kf_1_101 rfl (by first | assumption | omega) (by assumption) ?_
      rotate_left -- leaf: call at pc 110
      refine r_bipush 103 dX1_takeRota_101 rfl rfl (by decide) ?_
      refine r_goto 110 dX1_takeRota_103 (by decide) ?_
      rotate_left -- leaf: call at pc 110
      refine r_ret dX1_takeRota_90 rfl ?_
      rotate_left -- leaf: return at pc 90
      · have e2 := z01_y.mp c_87
        have b := jg_in e2
        rw [if_pos e2] at hΦ
        rw [if_neg c_98] at hΦ
        have t3 := tk_st (j := j) (v := jgW 0 4 (nxW h) 31 7) t2.2.1 (by omega)
        refine r_cv2 113 dX1_takeRota_110 rfl kv_1_104 (by first | assumption | omega) (by assumption) rfl rfl (c_setStands ly8 j (by omega) (jgW 0 4 (nxW h) 31 7) (wT_up3 t2.2.1.2.1 (by omega))) ?_
        rintro r h' ⟨rfl, rfl⟩
        refine r_iinc 116 _ dX1_takeRota_113 rfl rfl rfl rfl (by first | exact w32_id (by omega) (by omega) | rfl) ?_
        refine r_goto 24 dX1_takeRota_116 (by decide) ?_
        rotate_left -- leaf: pc 24
        exact ih (j + 1) _ (by omega) (by omega) t3.2.1 hΦ
      · have e2 := z01_y.mp c_87
        rw [if_pos e2] at hΦ
        rw [if_pos c_98] at hΦ
        have t3 := tk_st (j := j) (v := -4) t2.2.1 (by omega)
        refine r_cv2 113 dX1_takeRota_110 rfl kv_1_104 (by first | assumption | omega) (by assumption) rfl rfl (c_setStands ly8 j (by omega) (-4) (wT_up3 t2.2.1.2.1 (by omega))) ?_
        rintro r h' ⟨rfl, rfl⟩
        refine r_iinc 116 _ dX1_takeRota_113 rfl rfl rfl rfl (by first | exact w32_id (by omega) (by omega) | rfl) ?_
        refine r_goto 24 dX1_takeRota_116 (by decide) ?_
        rotate_left -- leaf: pc 24
        exact ih (j + 1) _ (by omega) (by omega) t3.2.1 hΦ
      · rw [if_neg (z01_n.mp c_87)] at hΦ
        exact hΦ
    · have eg := z01_y.mp c_38
      rw [if_pos ⟨eg, c_46⟩, if_pos (by omega)] at hΦ
      refine r_aload_n 57 dX1_takeRota_56 rfl rfl ?_
      refine r_aload_n 58 dX1_takeRota_57 rfl rfl ?_
      refine r_getI 61 dX1_takeRota_58 rfl kf_1_47 rfl (by first | assumption | omega) (by assumption) ?_
      refine r_if_ne 68 64 dX1_takeRota_61 (by decide) rfl (fun c_61 => ?_) (fun c_61 => ?_)
      refine r_iconst 69 dX1_takeRota_68 rfl rfl ?_
      refine r_aload_n 70 dX1_takeRota_69 rfl rfl ?_
      refine r_getI 73 dX1_takeRota_70 rfl kf_1_65 rfl (by first | assumption | omega) (by assumption) ?_
      rotate_left -- leaf: call at pc 73
      refine r_iconst 65 dX1_takeRota_64 rfl rfl ?_
      refine r_goto 69 dX1_takeRota_65 (by decide) ?_
      refine r_aload_n 70 dX1_takeRota_69 rfl rfl ?_
      refine r_getI 73 dX1_takeRota_70 rfl kf_1_65 rfl (by first | assumption | omega) (by assumption) ?_
      rotate_left -- leaf: call at pc 73
      · rw [if_neg c_61] at hΦ
        refine r_cv2 76 dX1_takeRota_73 rfl kv_1_57 (by first | assumption | omega) (by assumption) rfl rfl (c_fail ltp 5 (nxW h 31 5)) ?_
        rintro r h' ⟨rfl, rfl⟩
        refine r_ret dX1_takeRota_76 rfl ?_
        rotate_left -- leaf: return at pc 76
        exact hΦ
      · rw [if_pos c_61] at hΦ
        refine r_cv2 76 dX1_takeRota_73 rfl kv_1_57 (by first | assumption | omega) (by assumption) rfl rfl (c_fail ltp 2 (nxW h 31 5)) ?_
        rintro r h' ⟨rfl, rfl⟩
        refine r_ret dX1_takeRota_76 rfl ?_
        rotate_left -- leaf: return at pc 76
        exact hΦ
    · rw [if_neg (fun z => z.2 c_46)] at hΦ
      exact hΦ
theorem tk_rot (w : wK h) : tkR h (rotW h) := by
  unfold rotW
  split
  · have t := tk_up (j := 8) (v := 1) w (by omega)
    exact tkR_tr t (tk_ro _ _ _ t.2.1)
  · exact tk_flW w
theorem c_takeRota (ly : LX G) (w : wK h) : Ca l G 4 mX1_takeRota [vR 31, vR 8] h (fun r h' => r = none ∧ h' = rotW h) := by
  have lX0 := ly
  obtain ⟨hN, ⟨ly1, ly8, ly16, ly23⟩, ltp, ⟨ls34, ls36, ls38, ls40⟩, ⟨xs0, xs15, xs30, xs33, xs42, xs43, xs44⟩, ⟨xl15, xl30, xl33, xl42, xl43, xl44⟩, ⟨xr0, xr1, xr2, xr3, xr4, xr5, xr6, xr7, xr8⟩, ⟨yr0, yr1⟩, ⟨zr0, zr1, zr2, zr3⟩⟩ := ly
  have xs1 : gs G 1 = 7 := ly1.2.1.1
  have xs8 : gs G 8 = 7 := ly8.2.1.1
  have xs16 : gs G 16 = 7 := ly16.2.1.1
  have xs23 : gs G 23 = 7 := ly23.2.1.1
  have xs31 : gs G 31 = 6 := ltp.2.1.1
  have xs34 : gs G 34 = 5 := ls34.2.1.1
  have xs36 : gs G 36 = 5 := ls36.2.1.1
  have xs38 : gs G 38 = 5 := ls38.2.1.1
  have xs40 : gs G 40 = 5 := ls40.2.1.1
  have ltp' := ltp
  obtain ⟨⟨pn0, pn1⟩, ⟨ps0, ps1⟩, pr0, pl1⟩ := ltp'
  refine Ca.of (by decide) (Nat.le_of_ble_eq_true rfl) (fun hI hv hH => ?_)
  unfold rotW
  refine r_aload_n 1 dX1_takeRota_0 rfl rfl ?_
  refine r_getI 4 dX1_takeRota_1 rfl kf_1_33 rfl (by first | assumption | omega) (by assumption) ?_
  refine r_if_eq 17 7 dX1_takeRota_4 (by decide) rfl (fun c_4 => ?_) (fun c_4 => ?_)
  refine r_aload_n 18 dX1_takeRota_17 rfl rfl ?_
  refine r_iconst 19 dX1_takeRota_18 rfl rfl ?_
  refine r_putI 22 dX1_takeRota_19 rfl kf_1_33 rfl rfl (Or.inr ⟨rfl, by first | exact Or.inl rfl | exact Or.inr rfl | assumption | omega⟩) (by first | assumption | omega) (by assumption) ?_
  refine r_iconst 23 dX1_takeRota_22 rfl rfl ?_
  refine r_istore_n 24 dX1_takeRota_23 rfl rfl rfl ?_
  rotate_left -- leaf: pc 24
  refine r_aload_n 8 dX1_takeRota_7 rfl rfl ?_
  refine r_iconst 9 dX1_takeRota_8 rfl rfl ?_
  refine r_aload_n 10 dX1_takeRota_9 rfl rfl ?_
  refine r_getI 13 dX1_takeRota_10 rfl kf_1_65 rfl (by first | assumption | omega) (by assumption) ?_
  rotate_left -- leaf: call at pc 13
  · rw [if_pos c_4]
    exact l_rota (l := l) lX0 (Φ := fun r h' => r = none ∧ h' = roW 13 0 (up h 31 8 1)) 13 0 _ rfl (by omega) (tk_up w (by omega)).2.1 ⟨rfl, rfl⟩
  · rw [if_neg c_4]
    refine r_cv2 16 dX1_takeRota_13 rfl kv_1_57 (by first | assumption | omega) (by assumption) rfl rfl (c_fail ltp 4 (h 31 5)) ?_
    rintro r h' ⟨rfl, rfl⟩
    refine r_ret dX1_takeRota_16 rfl ?_
    rotate_left -- leaf: return at pc 16
    exact ⟨rfl, rfl⟩
theorem cldF_in {c : Int} {j : Nat} (hc : 0 ≤ c ∧ c < 4096) (hj : j < 12) : 0 ≤ cldF c j 1 ∧ cldF c j 1 < 4096 := by
  obtain ⟨c, rfl⟩ := Int.eq_ofNat_of_zero_le hc.1
  unfold cldF
  rw [if_neg (by decide)]
  have hp : (2 : Nat) ^ j < 2 ^ 12 := Nat.pow_lt_pow_right (by decide) hj
  rw [show (2 : Int) ^ j = ((2 ^ j : Nat) : Int) by simp, z_or_nat 12 (by decide) (show c < 2 ^ 12 by omega) hp]
  have := Nat.or_lt_two_pow (x := c) (y := 2 ^ j) (n := 12) (by omega) hp
  omega
theorem tk_cl {j : Nat} (w : wK h) (hj : j < 12) : tkR h (up h 8 8 (cldF (h 8 8) j 1)) :=
  tk_town w (fun a b q => by rw [up_k (by omega)]) (wT_up0 w.2.1 (by omega) (by omega) (fun _ => cldF_in w.2.1.2.2.1 hj) (by omega))
theorem tk_cld (w : wK h) : tkR h (cldW h) := by
  have t1 := tk_tn (lo := 0) (hi := 11) w
  unfold cldW
  split
  · have b := tn_in (lo := 0) (hi := 11) (h := h) (by assumption)
    split
    · have t2 := tk_cl (j := (tnV 0 11 h).toNat) t1.2.1 (by omega)
      exact tkR_tr t1 (tkR_tr t2 (tk_ts t2.2.1))
    · exact tkR_tr t1 (tk_flW t1.2.1)
  · exact t1
theorem c_takeCloud (ly : LX G) (w : wK h) : Ca l G 4 mX1_takeCloud [vR 31, vR 8] h (fun r h' => r = none ∧ h' = cldW h) := by
  have lX0 := ly
  have t1 := tk_tn (lo := 0) (hi := 11) w
  obtain ⟨hN, ⟨ly1, ly8, ly16, ly23⟩, ltp, ⟨ls34, ls36, ls38, ls40⟩, ⟨xs0, xs15, xs30, xs33, xs42, xs43, xs44⟩, ⟨xl15, xl30, xl33, xl42, xl43, xl44⟩, ⟨xr0, xr1, xr2, xr3, xr4, xr5, xr6, xr7, xr8⟩, ⟨yr0, yr1⟩, ⟨zr0, zr1, zr2, zr3⟩⟩ := ly
  have xs1 : gs G 1 = 7 := ly1.2.1.1
  have xs8 : gs G 8 = 7 := ly8.2.1.1
  have xs16 : gs G 16 = 7 := ly16.2.1.1
  have xs23 : gs G 23 = 7 := ly23.2.1.1
  have xs31 : gs G 31 = 6 := ltp.2.1.1
  have xs34 : gs G 34 = 5 := ls34.2.1.1
  have xs36 : gs G 36 = 5 := ls36.2.1.1
  have xs38 : gs G 38 = 5 := ls38.2.1.1
  have xs40 : gs G 40 = 5 := ls40.2.1.1
  have ltp' := ltp
  obtain ⟨⟨pn0, pn1⟩, ⟨ps0, ps1⟩, pr0, pl1⟩ := ltp'
  refine Ca.of (by decide) (Nat.le_of_ble_eq_true rfl) (fun hI hv hH => ?_)
  unfold cldW
  refine r_aload_n 1 dX1_takeCloud_0 rfl rfl ?_
  refine r_iconst 2 dX1_takeCloud_1 rfl rfl ?_
  refine r_bipush 4 dX1_takeCloud_2 rfl rfl (by decide) ?_
  rotate_left -- leaf: call at pc 4
  refine r_cv2 7 dX1_takeCloud_4 rfl kv_1_87 (by first | assumption | omega) (by assumption) rfl rfl (c_takeNumber lX0 w 0 11) ?_
  rintro r h' ⟨rfl, rfl⟩
  refine r_istore_n 8 dX1_takeCloud_7 rfl rfl rfl ?_
  refine r_aload_n 9 dX1_takeCloud_8 rfl rfl ?_
  rotate_left -- leaf: call at pc 9
  refine r_cv0 12 dX1_takeCloud_9 rfl kv_1_43 (by first | assumption | omega) (by assumption) rfl rfl (c_isGood ltp) ?_
  rintro r h' ⟨rfl, rfl⟩
  refine r_if_ne 16 15 dX1_takeCloud_12 (by decide) rfl (fun c_12 => ?_) (fun c_12 => ?_)
  refine r_aload_n 17 dX1_takeCloud_16 rfl rfl ?_
  refine r_iload_n 18 dX1_takeCloud_17 rfl rfl ?_
  rotate_left -- leaf: call at pc 18
  refine r_ret dX1_takeCloud_15 rfl ?_
  rotate_left -- leaf: return at pc 15
  · have eg := z01_y.mp c_12
    have b := tn_in eg
    rw [if_pos eg]
    obtain ⟨j, hj⟩ := Int.eq_ofNat_of_zero_le b.1
    rw [hj, Int.toNat_natCast]
    refine r_cv1 21 dX1_takeCloud_18 rfl kv_1_107 (by first | assumption | omega) (by assumption) rfl rfl (c_isCloudy ly8 j (by omega)) ?_
    rintro r h' ⟨rfl, rfl⟩
    refine r_if_eq 34 24 dX1_takeCloud_21 (by decide) rfl (fun c_21 => ?_) (fun c_21 => ?_)
    refine r_aload_n 35 dX1_takeCloud_34 rfl rfl ?_
    refine r_iload_n 36 dX1_takeCloud_35 rfl rfl ?_
    refine r_iconst 37 dX1_takeCloud_36 rfl rfl ?_
    rotate_left -- leaf: call at pc 37
    refine r_aload_n 25 dX1_takeCloud_24 rfl rfl ?_
    refine r_iconst 26 dX1_takeCloud_25 rfl rfl ?_
    refine r_aload_n 27 dX1_takeCloud_26 rfl rfl ?_
    refine r_getI 30 dX1_takeCloud_27 rfl kf_1_65 rfl (by first | assumption | omega) (by assumption) ?_
    rotate_left -- leaf: call at pc 30
    · rw [if_pos c_21]
      refine r_cv2 40 dX1_takeCloud_37 rfl kv_1_111 (by first | assumption | omega) (by assumption) rfl rfl (c_setCloudy ly8 j (by omega) 1) ?_
      rintro r h' ⟨rfl, rfl⟩
      refine r_aload_n 41 dX1_takeCloud_40 rfl rfl ?_
      rotate_left -- leaf: call at pc 41
      refine r_cv0 44 dX1_takeCloud_41 rfl kv_1_95 (by first | assumption | omega) (by assumption) rfl rfl (c_takeStop lX0 (tk_cl t1.2.1 (by omega)).2.1) ?_
      rintro r h' ⟨rfl, rfl⟩
      refine r_ret dX1_takeCloud_44 rfl ?_
      rotate_left -- leaf: return at pc 44
      exact ⟨rfl, rfl⟩
    · rw [if_neg c_21]
      refine r_cv2 33 dX1_takeCloud_30 rfl kv_1_57 (by first | assumption | omega) (by assumption) rfl rfl (c_fail ltp 4 (tnW 0 11 h 31 5)) ?_
      rintro r h' ⟨rfl, rfl⟩
      refine r_ret dX1_takeCloud_33 rfl ?_
      rotate_left -- leaf: return at pc 33
      exact ⟨rfl, rfl⟩
  · rw [if_neg (z01_n.mp c_12)]
    exact ⟨rfl, rfl⟩
theorem tk_pa {v : Int} (w : wK h) (hv : 0 ≤ v ∧ v ≤ 6) : tkR h (reb 8 (up h 8 9 v)) :=
  tk_town w (fun a b q => by rw [reb_in (by omega), up_k (by omega)]) (wT_reb (wT_up0 w.2.1 (by omega) (by omega) (by omega) (by omega)))
theorem tk_pnt (w : wK h) : tkR h (pntW h) := by
  have t0 := tk_up (j := 9) (v := 1) w (by omega)
  have t1 := tk_tn (lo := 0) (hi := 6) t0.2.1
  unfold pntW
  split
  · split
    · have b := tn_in (lo := 0) (hi := 6) (h := up h 31 9 1) (by assumption)
      have t2 := tk_pa (v := tnV 0 6 (up h 31 9 1)) t1.2.1 (by omega)
      exact tkR_tr t0 (tkR_tr t1 (tkR_tr t2 (tk_ts t2.2.1)))
    · exact tkR_tr t0 t1
  · exact tk_flW w
theorem c_takePaint (ly : LX G) (w : wK h) : Ca l G 4 mX1_takePaint [vR 31, vR 8] h (fun r h' => r = none ∧ h' = pntW h) := by
  have lX0 := ly
  have t0 := tk_up (j := 9) (v := 1) w (by omega)
  have t1 := tk_tn (lo := 0) (hi := 6) t0.2.1
  obtain ⟨hN, ⟨ly1, ly8, ly16, ly23⟩, ltp, ⟨ls34, ls36, ls38, ls40⟩, ⟨xs0, xs15, xs30, xs33, xs42, xs43, xs44⟩, ⟨xl15, xl30, xl33, xl42, xl43, xl44⟩, ⟨xr0, xr1, xr2, xr3, xr4, xr5, xr6, xr7, xr8⟩, ⟨yr0, yr1⟩, ⟨zr0, zr1, zr2, zr3⟩⟩ := ly
  have xs1 : gs G 1 = 7 := ly1.2.1.1
  have xs8 : gs G 8 = 7 := ly8.2.1.1
  have xs16 : gs G 16 = 7 := ly16.2.1.1
  have xs23 : gs G 23 = 7 := ly23.2.1.1
  have xs31 : gs G 31 = 6 := ltp.2.1.1
  have xs34 : gs G 34 = 5 := ls34.2.1.1
  have xs36 : gs G 36 = 5 := ls36.2.1.1
  have xs38 : gs G 38 = 5 := ls38.2.1.1
  have xs40 : gs G 40 = 5 := ls40.2.1.1
  have ltp' := ltp
  obtain ⟨⟨pn0, pn1⟩, ⟨ps0, ps1⟩, pr0, pl1⟩ := ltp'
  refine Ca.of (by decide) (Nat.le_of_ble_eq_true rfl) (fun hI hv hH => ?_)
  unfold pntW
  refine r_aload_n 1 dX1_takePaint_0 rfl rfl ?_
  refine r_getI 4 dX1_takePaint_1 rfl kf_1_37 rfl (by first | assumption | omega) (by assumption) ?_
  refine r_if_eq 17 7 dX1_takePaint_4 (by decide) rfl (fun c_4 => ?_) (fun c_4 => ?_)
  refine r_aload_n 18 dX1_takePaint_17 rfl rfl ?_
  refine r_iconst 19 dX1_takePaint_18 rfl rfl ?_
  refine r_putI 22 dX1_takePaint_19 rfl kf_1_37 rfl rfl (Or.inr ⟨rfl, by first | exact Or.inl rfl | exact Or.inr rfl | assumption | omega⟩) (by first | assumption | omega) (by assumption) ?_
  refine r_aload_n 23 dX1_takePaint_22 rfl rfl ?_
  refine r_iconst 24 dX1_takePaint_23 rfl rfl ?_
  refine r_bipush 26 dX1_takePaint_24 rfl rfl (by decide) ?_
  rotate_left -- leaf: call at pc 26
  refine r_aload_n 8 dX1_takePaint_7 rfl rfl ?_
  refine r_iconst 9 dX1_takePaint_8 rfl rfl ?_
  refine r_aload_n 10 dX1_takePaint_9 rfl rfl ?_
  refine r_getI 13 dX1_takePaint_10 rfl kf_1_65 rfl (by first | assumption | omega) (by assumption) ?_
  rotate_left -- leaf: call at pc 13
  · rw [if_pos c_4]
    refine r_cv2 29 dX1_takePaint_26 rfl kv_1_87 (by first | assumption | omega) (by assumption) rfl rfl (c_takeNumber lX0 t0.2.1 0 6) ?_
    rintro r h' ⟨rfl, rfl⟩
    refine r_istore_n 30 dX1_takePaint_29 rfl rfl rfl ?_
    refine r_aload_n 31 dX1_takePaint_30 rfl rfl ?_
    rotate_left -- leaf: call at pc 31
    refine r_cv0 34 dX1_takePaint_31 rfl kv_1_43 (by first | assumption | omega) (by assumption) rfl rfl (c_isGood ltp) ?_
    rintro r h' ⟨rfl, rfl⟩
    refine r_if_eq 46 37 dX1_takePaint_34 (by decide) rfl (fun c_34 => ?_) (fun c_34 => ?_)
    refine r_ret dX1_takePaint_46 rfl ?_
    rotate_left -- leaf: return at pc 46
    refine r_aload_n 38 dX1_takePaint_37 rfl rfl ?_
    refine r_iload_n 39 dX1_takePaint_38 rfl rfl ?_
    rotate_left -- leaf: call at pc 39
    · rw [if_neg (z01_n.mp c_34)]
      exact ⟨rfl, rfl⟩
    · have eg := z01_y.mp c_34
      have b := tn_in eg
      rw [if_pos eg]
      have t2 := tk_pa (v := tnV 0 6 (up h 31 9 1)) t1.2.1 (by omega)
      refine r_cv1 42 dX1_takePaint_39 rfl kv_1_115 (by first | assumption | omega) (by assumption) rfl rfl (c_setPainted ly8 (tnV 0 6 (up h 31 9 1)) (wT_up0 t1.2.1.2.1 (by omega) (by omega) (by omega) (by omega))) ?_
      rintro r h' ⟨rfl, rfl⟩
      refine r_aload_n 43 dX1_takePaint_42 rfl rfl ?_
      rotate_left -- leaf: call at pc 43
      refine r_cv0 46 dX1_takePaint_43 rfl kv_1_95 (by first | assumption | omega) (by assumption) rfl rfl (c_takeStop lX0 t2.2.1) ?_
      rintro r h' ⟨rfl, rfl⟩
      refine r_ret dX1_takePaint_46 rfl ?_
      rotate_left -- leaf: return at pc 46
      exact ⟨rfl, rfl⟩
  · rw [if_neg c_4]
    refine r_cv2 16 dX1_takePaint_13 rfl kv_1_57 (by first | assumption | omega) (by assumption) rfl rfl (c_fail ltp 4 (h 31 5)) ?_
    rintro r h' ⟨rfl, rfl⟩
    refine r_ret dX1_takePaint_16 rfl ?_
    rotate_left -- leaf: return at pc 16
    exact ⟨rfl, rfl⟩
theorem tk_adD {a b : Int} (w : wK h) (h5 : h 8 7 < 5) (ha : 0 ≤ a ∧ a ≤ 47) (hb : 0 ≤ b ∧ b ≤ 9) : tkR h (adD h a b) := by
  have w7 := w.2.1.2.1
  exact tk_town w (fun a b q => by unfold adD; rw [up_k (by omega), up_k (by omega), up_k (by omega)]) (wT_up0 (wT_up5 (wT_up4 w.2.1 ha) hb) (by omega) (by omega) (by omega) (by omega))
theorem tk_ded (w : wK h) : tkR h (dedW h) := by
  have t1 := tk_tn (lo := 0) (hi := 47) w
  have t2 := tk_tn (lo := 1) (hi := 9) t1.2.1
  unfold dedW
  split
  · split
    · split
      · have b1 := tn_in (lo := 0) (hi := 47) (h := h) (by assumption)
        have b2 := tn_in (lo := 1) (hi := 9) (h := tnW 0 47 h) (by assumption)
        have t3 := tk_adD (a := tnV 0 47 h) (b := tnV 1 9 (tnW 0 47 h)) t2.2.1 (by rw [tn_o (by omega), tn_o (by omega)]; assumption) (by omega) (by omega)
        exact tkR_tr t1 (tkR_tr t2 (tkR_tr t3 (tk_ts t3.2.1)))
      · exact tkR_tr t1 t2
    · exact t1
  · exact tk_flW w
theorem c_takeDeed (ly : LX G) (w : wK h) : Ca l G 4 mX1_takeDeed [vR 31, vR 8] h (fun r h' => r = none ∧ h' = dedW h) := by
  have lX0 := ly
  have t1 := tk_tn (lo := 0) (hi := 47) w
  have t2 := tk_tn (lo := 1) (hi := 9) t1.2.1
  obtain ⟨hN, ⟨ly1, ly8, ly16, ly23⟩, ltp, ⟨ls34, ls36, ls38, ls40⟩, ⟨xs0, xs15, xs30, xs33, xs42, xs43, xs44⟩, ⟨xl15, xl30, xl33, xl42, xl43, xl44⟩, ⟨xr0, xr1, xr2, xr3, xr4, xr5, xr6, xr7, xr8⟩, ⟨yr0, yr1⟩, ⟨zr0, zr1, zr2, zr3⟩⟩ := ly
  have xs1 : gs G 1 = 7 := ly1.2.1.1
  have xs8 : gs G 8 = 7 := ly8.2.1.1
  have xs16 : gs G 16 = 7 := ly16.2.1.1
  have xs23 : gs G 23 = 7 := ly23.2.1.1
  have xs31 : gs G 31 = 6 := ltp.2.1.1
  have xs34 : gs G 34 = 5 := ls34.2.1.1
  have xs36 : gs G 36 = 5 := ls36.2.1.1
  have xs38 : gs G 38 = 5 := ls38.2.1.1
  have xs40 : gs G 40 = 5 := ls40.2.1.1
  have ltp' := ltp
  obtain ⟨⟨pn0, pn1⟩, ⟨ps0, ps1⟩, pr0, pl1⟩ := ltp'
  refine Ca.of (by decide) (Nat.le_of_ble_eq_true rfl) (fun hI hv hH => ?_)
  unfold dedW
  refine r_aload_n 1 dX1_takeDeed_0 rfl rfl ?_
  refine r_getI 4 dX1_takeDeed_1 rfl kf_1_119 rfl (by first | assumption | omega) (by assumption) ?_
  refine r_iconst 5 dX1_takeDeed_4 rfl rfl ?_
  refine r_icmp_lt 18 8 dX1_takeDeed_5 (by decide) rfl (fun c_5 => ?_) (fun c_5 => ?_)
  refine r_aload_n 19 dX1_takeDeed_18 rfl rfl ?_
  refine r_iconst 20 dX1_takeDeed_19 rfl rfl ?_
  refine r_bipush 22 dX1_takeDeed_20 rfl rfl (by decide) ?_
  rotate_left -- leaf: call at pc 22
  refine r_aload_n 9 dX1_takeDeed_8 rfl rfl ?_
  refine r_iconst 10 dX1_takeDeed_9 rfl rfl ?_
  refine r_aload_n 11 dX1_takeDeed_10 rfl rfl ?_
  refine r_getI 14 dX1_takeDeed_11 rfl kf_1_65 rfl (by first | assumption | omega) (by assumption) ?_
  rotate_left -- leaf: call at pc 14
  · rw [if_pos c_5]
    refine r_cv2 25 dX1_takeDeed_22 rfl kv_1_87 (by first | assumption | omega) (by assumption) rfl rfl (c_takeNumber lX0 w 0 47) ?_
    rintro r h' ⟨rfl, rfl⟩
    refine r_istore_n 26 dX1_takeDeed_25 rfl rfl rfl ?_
    refine r_aload_n 27 dX1_takeDeed_26 rfl rfl ?_
    rotate_left -- leaf: call at pc 27
    refine r_cv0 30 dX1_takeDeed_27 rfl kv_1_43 (by first | assumption | omega) (by assumption) rfl rfl (c_isGood ltp) ?_
    rintro r h' ⟨rfl, rfl⟩
    refine r_if_ne 34 33 dX1_takeDeed_30 (by decide) rfl (fun c_30 => ?_) (fun c_30 => ?_)
    refine r_aload_n 35 dX1_takeDeed_34 rfl rfl ?_
    refine r_iconst 36 dX1_takeDeed_35 rfl rfl ?_
    refine r_bipush 38 dX1_takeDeed_36 rfl rfl (by decide) ?_
    rotate_left -- leaf: call at pc 38
    refine r_ret dX1_takeDeed_33 rfl ?_
    rotate_left -- leaf: return at pc 33
    · have e1 := z01_y.mp c_30
      have b1 := tn_in e1
      rw [if_pos e1]
      refine r_cv2 41 dX1_takeDeed_38 rfl kv_1_87 (by first | assumption | omega) (by assumption) rfl rfl (c_takeNumber lX0 t1.2.1 1 9) ?_
      rintro r h' ⟨rfl, rfl⟩
      refine r_istore_n 42 dX1_takeDeed_41 rfl rfl rfl ?_
      refine r_aload_n 43 dX1_takeDeed_42 rfl rfl ?_
      rotate_left -- leaf: call at pc 43
      refine r_cv0 46 dX1_takeDeed_43 rfl kv_1_43 (by first | assumption | omega) (by assumption) rfl rfl (c_isGood ltp) ?_
      rintro r h' ⟨rfl, rfl⟩
      refine r_if_eq 60 49 dX1_takeDeed_46 (by decide) rfl (fun c_46 => ?_) (fun c_46 => ?_)
      refine r_ret dX1_takeDeed_60 rfl ?_
      rotate_left -- leaf: return at pc 60
      refine r_aload_n 50 dX1_takeDeed_49 rfl rfl ?_
      refine r_iload_n 51 dX1_takeDeed_50 rfl rfl ?_
      refine r_iload_n 52 dX1_takeDeed_51 rfl rfl ?_
      rotate_left -- leaf: call at pc 52
      · rw [if_neg (z01_n.mp c_46)]
        exact ⟨rfl, rfl⟩
      · have e2 := z01_y.mp c_46
        have b2 := tn_in e2
        rw [if_pos e2]
        have h5 : tnW 1 9 (tnW 0 47 h) 8 7 < 5 := by rw [tn_o (by omega), tn_o (by omega)]; exact c_5
        have t3 := tk_adD (a := tnV 0 47 h) (b := tnV 1 9 (tnW 0 47 h)) t2.2.1 h5 (by omega) (by omega)
        refine r_cv2 55 dX1_takeDeed_52 rfl kv_1_122 (by first | assumption | omega) (by assumption) rfl rfl (c_addDeed ly8 (tnV 0 47 h) (tnV 1 9 (tnW 0 47 h)) t2.2.1.2.1) ?_
        rintro r h' (⟨q, rfl, rfl⟩ | ⟨q, rfl, rfl⟩)
        · omega
        · refine r_pop 56 dX1_takeDeed_55 rfl rfl ?_
          refine r_aload_n 57 dX1_takeDeed_56 rfl rfl ?_
          rotate_left -- leaf: call at pc 57
          refine r_cv0 60 dX1_takeDeed_57 rfl kv_1_95 (by first | assumption | omega) (by assumption) rfl rfl (c_takeStop lX0 t3.2.1) ?_
          rintro r h' ⟨rfl, rfl⟩
          refine r_ret dX1_takeDeed_60 rfl ?_
          rotate_left -- leaf: return at pc 60
          exact ⟨rfl, rfl⟩
    · rw [if_neg (z01_n.mp c_30)]
      exact ⟨rfl, rfl⟩
  · rw [if_neg (by omega)]
    refine r_cv2 17 dX1_takeDeed_14 rfl kv_1_57 (by first | assumption | omega) (by assumption) rfl rfl (c_fail ltp 5 (h 31 5)) ?_
    rintro r h' ⟨rfl, rfl⟩
    refine r_ret dX1_takeDeed_17 rfl ?_
    rotate_left -- leaf: return at pc 17
    exact ⟨rfl, rfl⟩
theorem linN_in : linN h ≤ 8 := by
  unfold linN
  split
  · exact lnF_in _ 8 0 rfl
  · omega
theorem tk_lin (w : wK h) : tkR h (linW h) := by
  have hl := linN_in (h := h)
  unfold linW
  split
  · exact tk_flW w
  · split
    · exact tk_rot w
    · split
      · exact tk_cld w
      · split
        · exact tk_pnt w
        · split
          · exact tk_ded w
          · exact tk_man w (by omega)
theorem l_line (ly : LX G) (w : wK h) (L : Nat) (hL : L = linN h) : Rr l G 6 mX1_takeLine (fun r h' => r = none ∧ h' = linW h) 17 [some (vR 31), some (vR 8), none] [vI (L : Int)] h := by
  have lX0 := ly
  obtain ⟨hN, ⟨ly1, ly8, ly16, ly23⟩, ltp, ⟨ls34, ls36, ls38, ls40⟩, ⟨xs0, xs15, xs30, xs33, xs42, xs43, xs44⟩, ⟨xl15, xl30, xl33, xl42, xl43, xl44⟩, ⟨xr0, xr1, xr2, xr3, xr4, xr5, xr6, xr7, xr8⟩, ⟨yr0, yr1⟩, ⟨zr0, zr1, zr2, zr3⟩⟩ := ly
  have xs1 : gs G 1 = 7 := ly1.2.1.1
  have xs8 : gs G 8 = 7 := ly8.2.1.1
  have xs16 : gs G 16 = 7 := ly16.2.1.1
  have xs23 : gs G 23 = 7 := ly23.2.1.1
  have xs31 : gs G 31 = 6 := ltp.2.1.1
  have xs34 : gs G 34 = 5 := ls34.2.1.1
  have xs36 : gs G 36 = 5 := ls36.2.1.1
  have xs38 : gs G 38 = 5 := ls38.2.1.1
  have xs40 : gs G 40 = 5 := ls40.2.1.1
  have ltp' := ltp
  obtain ⟨⟨pn0, pn1⟩, ⟨ps0, ps1⟩, pr0, pl1⟩ := ltp'
  have hl := linN_in (h := h)
  rw [← hL] at hl
  unfold linW
  rw [← hL]
  refine r_istore_n 18 dX1_takeLine_17 rfl rfl rfl ?_
  refine r_iload_n 19 dX1_takeLine_18 rfl rfl ?_
  by_cases q8 : L = 8
  · subst q8
    rw [if_pos rfl]
    refine r_tabIn 52 dX1_takeLine_19 (by decide) (by decide) rfl (by decide) ?_
    refine r_aload_n 53 dX1_takeLine_52 rfl rfl ?_
    refine r_iconst 54 dX1_takeLine_53 rfl rfl ?_
    refine r_aload_n 55 dX1_takeLine_54 rfl rfl ?_
    refine r_getI 58 dX1_takeLine_55 rfl kf_1_65 rfl (by first | assumption | omega) (by assumption) ?_
    rotate_left -- leaf: call at pc 58
    refine r_cv2 61 dX1_takeLine_58 rfl kv_1_57 (by first | assumption | omega) (by assumption) rfl rfl (c_fail ltp 2 (h 31 5)) ?_
    rintro r h' ⟨rfl, rfl⟩
    refine r_goto 102 dX1_takeLine_61 (by decide) ?_
    refine r_ret dX1_takeLine_102 rfl ?_
    rotate_left -- leaf: return at pc 102
    exact ⟨rfl, rfl⟩
  rw [if_neg q8]
  by_cases q4 : L = 4
  · subst q4
    rw [if_pos rfl]
    refine r_tabIn 64 dX1_takeLine_19 (by decide) (by decide) rfl (by decide) ?_
    refine r_aload_n 65 dX1_takeLine_64 rfl rfl ?_
    refine r_aload_n 66 dX1_takeLine_65 rfl rfl ?_
    rotate_left -- leaf: call at pc 66
    refine r_cv1 69 dX1_takeLine_66 rfl kv_1_68 (by first | assumption | omega) (by assumption) rfl rfl (c_takeRota lX0 w) ?_
    rintro r h' ⟨rfl, rfl⟩
    refine r_goto 102 dX1_takeLine_69 (by decide) ?_
    refine r_ret dX1_takeLine_102 rfl ?_
    rotate_left -- leaf: return at pc 102
    exact ⟨rfl, rfl⟩
  rw [if_neg q4]
  by_cases q5 : L = 5
  · subst q5
    rw [if_pos rfl]
    refine r_tabIn 72 dX1_takeLine_19 (by decide) (by decide) rfl (by decide) ?_
    refine r_aload_n 73 dX1_takeLine_72 rfl rfl ?_
    refine r_aload_n 74 dX1_takeLine_73 rfl rfl ?_
    rotate_left -- leaf: call at pc 74
    refine r_cv1 77 dX1_takeLine_74 rfl kv_1_71 (by first | assumption | omega) (by assumption) rfl rfl (c_takeCloud lX0 w) ?_
    rintro r h' ⟨rfl, rfl⟩
    refine r_goto 102 dX1_takeLine_77 (by decide) ?_
    refine r_ret dX1_takeLine_102 rfl ?_
    rotate_left -- leaf: return at pc 102
    exact ⟨rfl, rfl⟩
  rw [if_neg q5]
  by_cases q6 : L = 6
  · subst q6
    rw [if_pos rfl]
    refine r_tabIn 80 dX1_takeLine_19 (by decide) (by decide) rfl (by decide) ?_
    refine r_aload_n 81 dX1_takeLine_80 rfl rfl ?_
    refine r_aload_n 82 dX1_takeLine_81 rfl rfl ?_
    rotate_left -- leaf: call at pc 82
    refine r_cv1 85 dX1_takeLine_82 rfl kv_1_74 (by first | assumption | omega) (by assumption) rfl rfl (c_takePaint lX0 w) ?_
    rintro r h' ⟨rfl, rfl⟩
    refine r_goto 102 dX1_takeLine_85 (by decide) ?_
    refine r_ret dX1_takeLine_102 rfl ?_
    rotate_left -- leaf: return at pc 102
    exact ⟨rfl, rfl⟩
  rw [if_neg q6]
  by_cases q7 : L = 7
  · subst q7
    rw [if_pos rfl]
    refine r_tabIn 88 dX1_takeLine_19 (by decide) (by decide) rfl (by decide) ?_
    refine r_aload_n 89 dX1_takeLine_88 rfl rfl ?_
    refine r_aload_n 90 dX1_takeLine_89 rfl rfl ?_
    rotate_left -- leaf: call at pc 90
    refine r_cv1 93 dX1_takeLine_90 rfl kv_1_77 (by first | assumption | omega) (by assumption) rfl rfl (c_takeDeed lX0 w) ?_
    rintro r h' ⟨rfl, rfl⟩
    refine r_goto 102 dX1_takeLine_93 (by decide) ?_
    refine r_ret dX1_takeLine_102 rfl ?_
    rotate_left -- leaf: return at pc 102
    exact ⟨rfl, rfl⟩
  rw [if_neg q7]
  refine r_tabOut 96 dX1_takeLine_19 (by omega) (by decide) ?_
  refine r_aload_n 97 dX1_takeLine_96 rfl rfl ?_
  refine r_aload_n 98 dX1_takeLine_97 rfl rfl ?_
  refine r_iload_n 99 dX1_takeLine_98 rfl rfl ?_
  rotate_left -- leaf: call at pc 99
  refine r_cv2 102 dX1_takeLine_99 rfl kv_1_80 (by first | assumption | omega) (by assumption) rfl rfl (c_takeMan lX0 w (L : Int) (by omega)) ?_
  rintro r h' ⟨rfl, rfl⟩
  refine r_ret dX1_takeLine_102 rfl ?_
  rotate_left -- leaf: return at pc 102
  exact ⟨rfl, rfl⟩
theorem c_takeLine (ly : LX G) (w : wK h) : Ca l G 6 mX1_takeLine [vR 31, vR 8] h (fun r h' => r = none ∧ h' = linW h) := by
  have lX0 := ly
  obtain ⟨hN, ⟨ly1, ly8, ly16, ly23⟩, ltp, ⟨ls34, ls36, ls38, ls40⟩, ⟨xs0, xs15, xs30, xs33, xs42, xs43, xs44⟩, ⟨xl15, xl30, xl33, xl42, xl43, xl44⟩, ⟨xr0, xr1, xr2, xr3, xr4, xr5, xr6, xr7, xr8⟩, ⟨yr0, yr1⟩, ⟨zr0, zr1, zr2, zr3⟩⟩ := ly
  have xs1 : gs G 1 = 7 := ly1.2.1.1
  have xs8 : gs G 8 = 7 := ly8.2.1.1
  have xs16 : gs G 16 = 7 := ly16.2.1.1
  have xs23 : gs G 23 = 7 := ly23.2.1.1
  have xs31 : gs G 31 = 6 := ltp.2.1.1
  have xs34 : gs G 34 = 5 := ls34.2.1.1
  have xs36 : gs G 36 = 5 := ls36.2.1.1
  have xs38 : gs G 38 = 5 := ls38.2.1.1
  have xs40 : gs G 40 = 5 := ls40.2.1.1
  have ltp' := ltp
  obtain ⟨⟨pn0, pn1⟩, ⟨ps0, ps1⟩, pr0, pl1⟩ := ltp'
  refine Ca.of (by decide) (Nat.le_of_ble_eq_true rfl) (fun hI hv hH => ?_)
  refine r_aload_n 1 dX1_takeLine_0 rfl rfl ?_
  refine r_getI 4 dX1_takeLine_1 rfl kf_1_47 rfl (by first | assumption | omega) (by assumption) ?_
  refine r_iconst 5 dX1_takeLine_4 rfl rfl ?_
  refine r_icmp_ne 15 8 dX1_takeLine_5 (by decide) rfl (fun c_5 => ?_) (fun c_5 => ?_)
  refine r_bipush 17 dX1_takeLine_15 rfl rfl (by decide) ?_
  rotate_left -- leaf: pc 17
  refine r_aload_n 9 dX1_takeLine_8 rfl rfl ?_
  rotate_left -- leaf: call at pc 9
  · exact l_line (l := l) lX0 w 8 (by unfold linN; rw [if_neg c_5])
  · refine r_cv0 12 dX1_takeLine_9 rfl kv_1_61 (by first | assumption | omega) (by assumption) rfl rfl (c_lineOf lX0 w.1) ?_
    rintro r h' ⟨rfl, rfl⟩
    refine r_goto 17 dX1_takeLine_12 (by decide) ?_
    rotate_left -- leaf: pc 17
    exact l_line (l := l) lX0 w _ (by unfold linN; rw [if_pos c_5])
theorem tk_tl : ∀ (n k : Nat) (h : zH), wK h → tkR h (tlW n k h).2
  | 0, _, h, w => tkR_rf w
  | n + 1, k, h, w => by
    have t1 := tk_lin w
    unfold tlW
    split
    · have t2 : tkR h (if linW h 31 2 = 0 then nxW (linW h) else linW h) := by
        split
        · exact tkR_tr t1 (tk_nx t1.2.1)
        · exact t1
      exact tkR_tr t2 (tk_tl n (k + 1) _ t2.2.1)
    · exact tkR_rf w
theorem tl_k : ∀ (n k : Nat) (h : zH), (tlW n k h).1 ≤ k + n
  | 0, k, h => by simp [tlW]
  | n + 1, k, h => by
    unfold tlW
    split
    · have := tl_k n (k + 1) (if linW h 31 2 = 0 then nxW (linW h) else linW h)
      omega
    · show k ≤ _; omega
theorem l_tell (ly : LX G) {N : Nat} {T : zH} {Φ : Option zV → zH → Prop} (hΦ : ∀ (t k : Nat), (k, T) = (N, T) → Rr l G 7 mX1_tell Φ 83 [some (vR 31), some (vR 8), some (vI k), some (vI t)] [] T) : ∀ (n t : Nat) (k : Nat) (h : zH), t + n = 160 → k ≤ t → wK h → tlW n k h = (N, T) → Rr l G 7 mX1_tell Φ 37 [some (vR 31), some (vR 8), some (vI k), some (vI t)] [] h := by
  have lX0 := ly
  obtain ⟨hN, ⟨ly1, ly8, ly16, ly23⟩, ltp, ⟨ls34, ls36, ls38, ls40⟩, ⟨xs0, xs15, xs30, xs33, xs42, xs43, xs44⟩, ⟨xl15, xl30, xl33, xl42, xl43, xl44⟩, ⟨xr0, xr1, xr2, xr3, xr4, xr5, xr6, xr7, xr8⟩, ⟨yr0, yr1⟩, ⟨zr0, zr1, zr2, zr3⟩⟩ := ly
  have xs1 : gs G 1 = 7 := ly1.2.1.1
  have xs8 : gs G 8 = 7 := ly8.2.1.1
  have xs16 : gs G 16 = 7 := ly16.2.1.1
  have xs23 : gs G 23 = 7 := ly23.2.1.1
  have xs31 : gs G 31 = 6 := ltp.2.1.1
  have xs34 : gs G 34 = 5 := ls34.2.1.1
  have xs36 : gs G 36 = 5 := ls36.2.1.1
  have xs38 : gs G 38 = 5 := ls38.2.1.1
  have xs40 : gs G 40 = 5 := ls40.2.1.1
  have ltp' := ltp
  obtain ⟨⟨pn0, pn1⟩, ⟨ps0, ps1⟩, pr0, pl1⟩ := ltp'
  intro n
  induction n with
  | zero =>
    intro t k h ht hk w he
    have e1 : (k, h) = (N, T) := he
    obtain ⟨rfl, rfl⟩ := Prod.mk.inj e1
    refine r_iload_n 38 dX1_tell_37 rfl rfl ?_
    refine r_sipush 41 dX1_tell_38 rfl rfl (by decide) ?_
    refine r_icmp_ge 83 44 dX1_tell_41 (by decide) rfl (fun c_41 => ?_) (fun c_41 => ?_)
    rotate_left -- leaf: pc 83
    rotate_left -- leaf: pc 44
    · exact hΦ t k rfl
    · omega
  | succ n ih =>
    intro t k h ht hk w he
    have t1 := tk_lin w
    rw [tlW] at he
    refine r_iload_n 38 dX1_tell_37 rfl rfl ?_
    refine r_sipush 41 dX1_tell_38 rfl rfl (by decide) ?_
    refine r_icmp_ge 83 44 dX1_tell_41 (by decide) rfl (fun c_41 => ?_) (fun c_41 => ?_)
    rotate_left -- leaf: pc 83
    rotate_left -- leaf: pc 44
    · omega
    refine r_aload_n 45 dX1_tell_44 rfl rfl ?_
    rotate_left -- leaf: call at pc 45
    refine r_cv0 48 dX1_tell_45 rfl kv_1_43 (by first | assumption | omega) (by assumption) rfl rfl (c_isGood ltp) ?_
    rintro r h' ⟨rfl, rfl⟩
    refine r_if_eq 83 51 dX1_tell_48 (by decide) rfl (fun c_48 => ?_) (fun c_48 => ?_)
    rotate_left -- leaf: pc 83
    refine r_aload_n 52 dX1_tell_51 rfl rfl ?_
    refine r_getI 55 dX1_tell_52 rfl kf_1_47 rfl (by first | assumption | omega) (by assumption) ?_
    refine r_if_eq 83 58 dX1_tell_55 (by decide) rfl (fun c_55 => ?_) (fun c_55 => ?_)
    rotate_left -- leaf: pc 83
    refine r_aload_n 59 dX1_tell_58 rfl rfl ?_
    refine r_aload_n 60 dX1_tell_59 rfl rfl ?_
    rotate_left -- leaf: call at pc 60
    · rw [if_neg (fun z => z01_n.mp c_48 z.1)] at he
      obtain ⟨rfl, rfl⟩ := Prod.mk.inj he
      exact hΦ t k rfl
    · rw [if_neg (fun z => z.2 c_55)] at he
      obtain ⟨rfl, rfl⟩ := Prod.mk.inj he
      exact hΦ t k rfl
    · rw [if_pos ⟨z01_y.mp c_48, c_55⟩] at he
      refine r_cv1 63 dX1_tell_60 rfl kv_1_50 (by first | assumption | omega) (by assumption) rfl rfl (c_takeLine lX0 w) ?_
      rintro r h'' ⟨rfl, rfl⟩
      refine r_iinc 66 _ dX1_tell_63 rfl rfl rfl rfl (by first | exact w32_id (by omega) (by omega) | rfl) ?_
      refine r_aload_n 67 dX1_tell_66 rfl rfl ?_
      rotate_left -- leaf: call at pc 67
      refine r_cv0 70 dX1_tell_67 rfl kv_1_43 (by first | assumption | omega) (by assumption) rfl rfl (c_isGood ltp) ?_
      rintro r h'' ⟨rfl, rfl⟩
      refine r_if_eq 77 73 dX1_tell_70 (by decide) rfl (fun c_70 => ?_) (fun c_70 => ?_)
      refine r_iinc 80 _ dX1_tell_77 rfl rfl rfl rfl (by first | exact w32_id (by omega) (by omega) | rfl) ?_
      refine r_goto 37 dX1_tell_80 (by decide) ?_
      rotate_left -- leaf: pc 37
      refine r_aload_n 74 dX1_tell_73 rfl rfl ?_
      rotate_left -- leaf: call at pc 74
      · rw [if_neg (z01_n.mp c_70)] at he
        exact ih (t + 1) (k + 1) _ (by omega) (by omega) t1.2.1 he
      · rw [if_pos (z01_y.mp c_70)] at he
        refine r_cv0 77 dX1_tell_74 rfl kv_1_40 (by first | assumption | omega) (by assumption) rfl rfl (c_nextW lX0 t1.2.1) ?_
        rintro r h'' ⟨rfl, rfl⟩
        refine r_iinc 80 _ dX1_tell_77 rfl rfl rfl rfl (by first | exact w32_id (by omega) (by omega) | rfl) ?_
        refine r_goto 37 dX1_tell_80 (by decide) ?_
        rotate_left -- leaf: pc 37
        exact ih (t + 1) (k + 1) _ (by omega) (by omega) (tk_nx t1.2.1).2.1 he
theorem allN_t {c : Nat → Bool} : ∀ n, allN c n = true ↔ ∀ j, j < n → c j = true
  | 0 => by simp [allN]
  | n + 1 => by
    rw [allN, Bool.and_eq_true, allN_t n]
    constructor
    · rintro ⟨h1, h2⟩ j hj
      by_cases e : j = n
      · subst e; exact h2
      · exact h1 j (by omega)
    · intro h1
      exact ⟨fun j hj => h1 j (by omega), h1 n (by omega)⟩
theorem awB_P : awB h = true ↔ awP h 8 := by
  unfold awB awP
  rw [allN_t]
  simp only [decide_eq_true_iff]
theorem wK_st0 (w1 : wP h 31) (w2 : wT h 8) : wK (st0 h) := by
  have e : ∀ b, clT0 8 h 31 b = h 31 b := fun b => clT0_o (by omega)
  have e1 : ∀ b, clT0 8 h 32 b = h 32 b := fun b => clT0_o (by omega)
  obtain ⟨q1, q2, q3, q4⟩ := w1
  unfold st0
  refine ⟨⟨?_, ?_, ?_, fun j => ?_⟩, wT_cong (fun a b _ _ => ?_) (wT_reb (wT_clr w2)), ?_⟩
  · rw [up_j (by omega), up_j (by omega), up_j (by omega), up_j (by omega), up_j (by omega), e]; exact q1
  · rw [up_j (by omega), up_j (by omega), up_j (by omega), up_j (by omega), up_j (by omega), e]; exact q2
  · rw [up_j (by omega), up_j (by omega), up_s]; omega
  · rw [up_k (by omega), up_k (by omega), up_k (by omega), up_k (by omega), up_k (by omega), e1]; exact q4 j
  · rw [up_k (by omega), up_k (by omega), up_k (by omega), up_k (by omega), up_k (by omega)]; rfl
  · rw [up_j (by omega), up_j (by omega), up_j (by omega), up_s]; omega
theorem tk_te (w1 : wP h 31) (w2 : wT h 8) : tkR (st0 h) (teN h).2 := by
  have t := tk_nx (wK_st0 w1 w2)
  exact tkR_tr t (tk_tl _ _ _ t.2.1)
theorem tk_teW (w1 : wP h 31) (w2 : wT h 8) : tkR (st0 h) (teW h) := by
  have t := tk_te w1 w2
  unfold teW
  split
  · split
    · exact t
    · exact tkR_tr t (tk_fl t.2.1 t.2.1.1.1)
  · exact t
theorem c_tell (ly : LX G) (w1 : wP h 31) (w2 : wT h 8) : Ca l G 7 mX1_tell [vR 31, vR 8] h (fun r h' => r = some (vI ((teN h).1 : Nat)) ∧ h' = teW h) := by
  have lX0 := ly
  obtain ⟨hN, ⟨ly1, ly8, ly16, ly23⟩, ltp, ⟨ls34, ls36, ls38, ls40⟩, ⟨xs0, xs15, xs30, xs33, xs42, xs43, xs44⟩, ⟨xl15, xl30, xl33, xl42, xl43, xl44⟩, ⟨xr0, xr1, xr2, xr3, xr4, xr5, xr6, xr7, xr8⟩, ⟨yr0, yr1⟩, ⟨zr0, zr1, zr2, zr3⟩⟩ := ly
  have xs1 : gs G 1 = 7 := ly1.2.1.1
  have xs8 : gs G 8 = 7 := ly8.2.1.1
  have xs16 : gs G 16 = 7 := ly16.2.1.1
  have xs23 : gs G 23 = 7 := ly23.2.1.1
  have xs31 : gs G 31 = 6 := ltp.2.1.1
  have xs34 : gs G 34 = 5 := ls34.2.1.1
  have xs36 : gs G 36 = 5 := ls36.2.1.1
  have xs38 : gs G 38 = 5 := ls38.2.1.1
  have xs40 : gs G 40 = 5 := ls40.2.1.1
  have ltp' := ltp
  obtain ⟨⟨pn0, pn1⟩, ⟨ps0, ps1⟩, pr0, pl1⟩ := ltp'
  refine Ca.of (by decide) (Nat.le_of_ble_eq_true rfl) (fun hI hv hH => ?_)
  have wk := wK_st0 w1 w2
  have te := tk_te w1 w2
  refine r_aload_n 1 dX1_tell_0 rfl rfl ?_
  rotate_left -- leaf: call at pc 1
  refine r_cv0 4 dX1_tell_1 rfl kv_1_19 (by first | assumption | omega) (by assumption) rfl rfl (c_clear ly8 (wT_clr w2)) ?_
  rintro r h' ⟨rfl, rfl⟩
  refine r_aload_n 5 dX1_tell_4 rfl rfl ?_
  refine r_iconst 6 dX1_tell_5 rfl rfl ?_
  refine r_putI 9 dX1_tell_6 rfl kf_1_24 rfl rfl (Or.inl rfl) (by first | assumption | omega) (by assumption) ?_
  refine r_aload_n 10 dX1_tell_9 rfl rfl ?_
  refine r_iconst 11 dX1_tell_10 rfl rfl ?_
  refine r_putI 14 dX1_tell_11 rfl kf_1_27 rfl rfl (Or.inl rfl) (by first | assumption | omega) (by assumption) ?_
  refine r_aload_n 15 dX1_tell_14 rfl rfl ?_
  refine r_iconst 16 dX1_tell_15 rfl rfl ?_
  refine r_putI 19 dX1_tell_16 rfl kf_1_30 rfl rfl (Or.inl rfl) (by first | assumption | omega) (by assumption) ?_
  refine r_aload_n 20 dX1_tell_19 rfl rfl ?_
  refine r_iconst 21 dX1_tell_20 rfl rfl ?_
  refine r_putI 24 dX1_tell_21 rfl kf_1_33 rfl rfl (Or.inr ⟨rfl, by first | exact Or.inl rfl | exact Or.inr rfl | assumption | omega⟩) (by first | assumption | omega) (by assumption) ?_
  refine r_aload_n 25 dX1_tell_24 rfl rfl ?_
  refine r_iconst 26 dX1_tell_25 rfl rfl ?_
  refine r_putI 29 dX1_tell_26 rfl kf_1_37 rfl rfl (Or.inr ⟨rfl, by first | exact Or.inl rfl | exact Or.inr rfl | assumption | omega⟩) (by first | assumption | omega) (by assumption) ?_
  refine r_iconst 30 dX1_tell_29 rfl rfl ?_
  refine r_istore_n 31 dX1_tell_30 rfl rfl rfl ?_
  refine r_aload_n 32 dX1_tell_31 rfl rfl ?_
  rotate_left -- leaf: call at pc 32
  refine r_cv0 35 dX1_tell_32 rfl kv_1_40 (by first | assumption | omega) (by assumption) rfl rfl (c_nextW lX0 wk) ?_
  rintro r h' ⟨rfl, rfl⟩
  refine r_iconst 36 dX1_tell_35 rfl rfl ?_
  refine r_istore_n 37 dX1_tell_36 rfl rfl rfl ?_
  rotate_left -- leaf: pc 37
  refine l_tell (l := l) lX0 (N := (teN h).1) (T := (teN h).2) (fun t k hk => ?_) 160 0 0 _ rfl (by omega) (tk_nx wk).2.1 rfl
  obtain ⟨rfl, -⟩ := Prod.mk.inj hk
  unfold teW
  refine r_aload_n 84 dX1_tell_83 rfl rfl ?_
  rotate_left -- leaf: call at pc 84
  refine r_cv0 87 dX1_tell_84 rfl kv_1_43 (by first | assumption | omega) (by assumption) rfl rfl (c_isGood ltp) ?_
  rintro r h' ⟨rfl, rfl⟩
  refine r_if_eq 107 90 dX1_tell_87 (by decide) rfl (fun c_87 => ?_) (fun c_87 => ?_)
  refine r_iload_n 108 dX1_tell_107 rfl rfl ?_
  refine r_iret dX1_tell_108 rfl ?_
  rotate_left -- leaf: return at pc 108
  refine r_aload_n 91 dX1_tell_90 rfl rfl ?_
  rotate_left -- leaf: call at pc 91
  · rw [if_neg (z01_n.mp c_87)]
    exact ⟨rfl, rfl⟩
  · rw [if_pos (z01_y.mp c_87)]
    refine r_cv0 94 dX1_tell_91 rfl kv_1_54 (by first | assumption | omega) (by assumption) rfl rfl (c_allWho ly8) ?_
    rintro r h' ⟨⟨z1, rfl⟩ | ⟨z1, rfl⟩, rfl⟩
    · rw [if_pos (awB_P.mpr z1)]
      refine r_if_ne 107 97 dX1_tell_94 (by decide) rfl (fun c_94 => ?_) (fun c_94 => ?_)
      refine r_iload_n 108 dX1_tell_107 rfl rfl ?_
      refine r_iret dX1_tell_108 rfl ?_
      rotate_left -- leaf: return at pc 108
      refine r_aload_n 98 dX1_tell_97 rfl rfl ?_
      refine r_bipush 100 dX1_tell_98 rfl rfl (by decide) ?_
      refine r_aload_n 101 dX1_tell_100 rfl rfl ?_
      refine r_getI 104 dX1_tell_101 rfl kf_1_15 rfl (by first | assumption | omega) (by assumption) ?_
      rotate_left -- leaf: call at pc 104
      · exact ⟨rfl, rfl⟩
      · omega
    · rw [if_neg (fun z => z1 (awB_P.mp z))]
      refine r_if_ne 107 97 dX1_tell_94 (by decide) rfl (fun c_94 => ?_) (fun c_94 => ?_)
      refine r_iload_n 108 dX1_tell_107 rfl rfl ?_
      refine r_iret dX1_tell_108 rfl ?_
      rotate_left -- leaf: return at pc 108
      refine r_aload_n 98 dX1_tell_97 rfl rfl ?_
      refine r_bipush 100 dX1_tell_98 rfl rfl (by decide) ?_
      refine r_aload_n 101 dX1_tell_100 rfl rfl ?_
      refine r_getI 104 dX1_tell_101 rfl kf_1_15 rfl (by first | assumption | omega) (by assumption) ?_
      rotate_left -- leaf: call at pc 104
      · omega
      · refine r_cv2 107 dX1_tell_104 rfl kv_1_57 (by first | assumption | omega) (by assumption) rfl rfl (c_fail ltp 6 ((teN h).2 31 1)) ?_
        rintro r h' ⟨rfl, rfl⟩
        refine r_iload_n 108 dX1_tell_107 rfl rfl ?_
        refine r_iret dX1_tell_108 rfl ?_
        rotate_left -- leaf: return at pc 108
        exact ⟨rfl, rfl⟩
theorem l_text (ly : LX G) (N : Nat) {Φ : Option zV → zH → Prop} (H : zH) (hΦ : Φ (some (vI (N : Int))) (up (up H 30 0 0) 30 1 0)) : Rr l G 8 mX3_text Φ 59 [some (vR 0), some (vI N), some (vI 0)] [] H := by
  obtain ⟨hN, ⟨ly1, ly8, ly16, ly23⟩, ltp, ⟨ls34, ls36, ls38, ls40⟩, ⟨xs0, xs15, xs30, xs33, xs42, xs43, xs44⟩, ⟨xl15, xl30, xl33, xl42, xl43, xl44⟩, ⟨xr0, xr1, xr2, xr3, xr4, xr5, xr6, xr7, xr8⟩, ⟨yr0, yr1⟩, ⟨zr0, zr1, zr2, zr3⟩⟩ := ly
  have xs1 : gs G 1 = 7 := ly1.2.1.1
  have xs8 : gs G 8 = 7 := ly8.2.1.1
  have xs16 : gs G 16 = 7 := ly16.2.1.1
  have xs23 : gs G 23 = 7 := ly23.2.1.1
  have xs31 : gs G 31 = 6 := ltp.2.1.1
  have xs34 : gs G 34 = 5 := ls34.2.1.1
  have xs36 : gs G 36 = 5 := ls36.2.1.1
  have xs38 : gs G 38 = 5 := ls38.2.1.1
  have xs40 : gs G 40 = 5 := ls40.2.1.1
  refine r_iload_n 60 dX3_text_59 rfl rfl ?_
  refine r_iconst 61 dX3_text_60 rfl rfl ?_
  refine r_icmp_ge 77 64 dX3_text_61 (by decide) rfl (fun c_61 => ?_) (fun c_61 => ?_)
  rotate_left -- leaf: pc 77
  refine r_aload_n 65 dX3_text_64 rfl rfl ?_
  refine r_getR 68 dX3_text_65 rfl kf_3_23 rfl (by first | assumption | omega) (by assumption) (by assumption) ?_
  refine r_iload_n 69 dX3_text_68 rfl rfl ?_
  refine r_iconst 70 dX3_text_69 rfl rfl ?_
  first | refine r_bast 71 dX3_text_70 rfl (by first | assumption | omega) (by assumption) (by first | omega | (simp only [Int.toNat_natCast]; omega)) (by first | omega | (simp only [Int.toNat_natCast]; omega)) (by first | omega | (simp only [Int.toNat_natCast]; omega)) (by first | omega | (simp only [Int.toNat_natCast]; omega)) ?_ | refine r_zast 71 dX3_text_70 rfl (by first | assumption | omega) (by assumption) (by first | omega | (simp only [Int.toNat_natCast]; omega)) (by first | omega | (simp only [Int.toNat_natCast]; omega)) (by first | exact Or.inl rfl | exact Or.inr rfl | omega) ?_
  refine r_iinc 74 _ dX3_text_71 rfl rfl rfl rfl (by first | exact w32_id (by omega) (by omega) | rfl) ?_
  refine r_goto 59 dX3_text_74 (by decide) ?_
  rotate_left -- leaf: pc 59
  · omega
  · refine r_iload_n 60 dX3_text_59 rfl rfl ?_
    refine r_iconst 61 dX3_text_60 rfl rfl ?_
    refine r_icmp_ge 77 64 dX3_text_61 (by decide) rfl (fun c_61 => ?_) (fun c_61 => ?_)
    rotate_left -- leaf: pc 77
    refine r_aload_n 65 dX3_text_64 rfl rfl ?_
    refine r_getR 68 dX3_text_65 rfl kf_3_23 rfl (by first | assumption | omega) (by assumption) (by assumption) ?_
    refine r_iload_n 69 dX3_text_68 rfl rfl ?_
    refine r_iconst 70 dX3_text_69 rfl rfl ?_
    first | refine r_bast 71 dX3_text_70 rfl (by first | assumption | omega) (by assumption) (by first | omega | (simp only [Int.toNat_natCast]; omega)) (by first | omega | (simp only [Int.toNat_natCast]; omega)) (by first | omega | (simp only [Int.toNat_natCast]; omega)) (by first | omega | (simp only [Int.toNat_natCast]; omega)) ?_ | refine r_zast 71 dX3_text_70 rfl (by first | assumption | omega) (by assumption) (by first | omega | (simp only [Int.toNat_natCast]; omega)) (by first | omega | (simp only [Int.toNat_natCast]; omega)) (by first | exact Or.inl rfl | exact Or.inr rfl | omega) ?_
    refine r_iinc 74 _ dX3_text_71 rfl rfl rfl rfl (by first | exact w32_id (by omega) (by omega) | rfl) ?_
    refine r_goto 59 dX3_text_74 (by decide) ?_
    rotate_left -- leaf: pc 59
    · omega
    · refine r_iload_n 60 dX3_text_59 rfl rfl ?_
      refine r_iconst 61 dX3_text_60 rfl rfl ?_
      refine r_icmp_ge 77 64 dX3_text_61 (by decide) rfl (fun c_61 => ?_) (fun c_61 => ?_)
      refine r_iload_n 78 dX3_text_77 rfl rfl ?_
      refine r_iret dX3_text_78 rfl ?_
      rotate_left -- leaf: return at pc 78
      rotate_left -- leaf: pc 64
      · exact hΦ
      · omega
theorem c_text (ly : LX G) (w : wX h) : Ca l G 8 mX3_text [vR 0] h (fun r h' => r = some (vI (sText h).1) ∧ h' = (sText h).2) := by
  have lX0 := ly
  obtain ⟨hN, ⟨ly1, ly8, ly16, ly23⟩, ltp, ⟨ls34, ls36, ls38, ls40⟩, ⟨xs0, xs15, xs30, xs33, xs42, xs43, xs44⟩, ⟨xl15, xl30, xl33, xl42, xl43, xl44⟩, ⟨xr0, xr1, xr2, xr3, xr4, xr5, xr6, xr7, xr8⟩, ⟨yr0, yr1⟩, ⟨zr0, zr1, zr2, zr3⟩⟩ := ly
  have xs1 : gs G 1 = 7 := ly1.2.1.1
  have xs8 : gs G 8 = 7 := ly8.2.1.1
  have xs16 : gs G 16 = 7 := ly16.2.1.1
  have xs23 : gs G 23 = 7 := ly23.2.1.1
  have xs31 : gs G 31 = 6 := ltp.2.1.1
  have xs34 : gs G 34 = 5 := ls34.2.1.1
  have xs36 : gs G 36 = 5 := ls36.2.1.1
  have xs38 : gs G 38 = 5 := ls38.2.1.1
  have xs40 : gs G 40 = 5 := ls40.2.1.1
  obtain ⟨⟨w1, w8, w16, w23⟩, wp, wsn, ws42, ws43, wk, ⟨wh34, wh36, wh38, wh40⟩, wt⟩ := w
  have ltp' := ltp
  obtain ⟨⟨pn0, pn1⟩, ⟨ps0, ps1⟩, pr0, pl1⟩ := ltp'
  refine Ca.of (by decide) (Nat.le_of_ble_eq_true rfl) (fun hI hv hH => ?_)
  have te := tk_teW wp w8
  refine r_aload_n 1 dX3_text_0 rfl rfl ?_
  refine r_getR 4 dX3_text_1 rfl kf_3_30 rfl (by first | assumption | omega) (by assumption) (by assumption) ?_
  refine r_aload_n 5 dX3_text_4 rfl rfl ?_
  refine r_getR 8 dX3_text_5 rfl kf_3_16 rfl (by first | assumption | omega) (by assumption) (by assumption) ?_
  rotate_left -- leaf: call at pc 8
  refine r_cv1 11 dX3_text_8 rfl kv_3_59 (by first | assumption | omega) (by assumption) rfl rfl (c_tell lX0 wp w8) ?_
  rintro r h' ⟨rfl, rfl⟩
  have e3 : up (teW h) 31 1 0 31 3 = teW h 31 3 := up_j (by omega)
  have b3 := te.2.1.2.2
  unfold sText
  refine r_istore_n 12 dX3_text_11 rfl rfl rfl ?_
  refine r_aload_n 13 dX3_text_12 rfl rfl ?_
  refine r_getR 16 dX3_text_13 rfl kf_3_30 rfl (by first | assumption | omega) (by assumption) (by assumption) ?_
  refine r_iconst 17 dX3_text_16 rfl rfl ?_
  refine r_putI 20 dX3_text_17 rfl kf_3_55 rfl rfl (Or.inl rfl) (by first | assumption | omega) (by assumption) ?_
  refine r_aload_n 21 dX3_text_20 rfl rfl ?_
  refine r_getR 24 dX3_text_21 rfl kf_3_30 rfl (by first | assumption | omega) (by assumption) (by assumption) ?_
  refine r_getI 27 dX3_text_24 rfl kf_3_63 rfl (by first | assumption | omega) (by assumption) ?_
  refine r_if_eq 41 30 dX3_text_27 (by decide) rfl (fun c_27 => ?_) (fun c_27 => ?_)
  refine r_aload_n 42 dX3_text_41 rfl rfl ?_
  refine r_getR 45 dX3_text_42 rfl kf_3_10 rfl (by first | assumption | omega) (by assumption) (by assumption) ?_
  refine r_aload_n 46 dX3_text_45 rfl rfl ?_
  refine r_getR 49 dX3_text_46 rfl kf_3_16 rfl (by first | assumption | omega) (by assumption) (by assumption) ?_
  rotate_left -- leaf: call at pc 49
  rotate_left -- leaf: pc 30
  · rw [if_pos c_27]
    refine r_cv1 52 dX3_text_49 rfl kv_3_69 (by first | assumption | omega) (by assumption) rfl rfl (c_copyOf ly1 ly8 (by omega)) ?_
    rintro r h' ⟨rfl, rfl⟩
    refine r_aload_n 53 dX3_text_52 rfl rfl ?_
    refine r_iconst 54 dX3_text_53 rfl rfl ?_
    refine r_putI 57 dX3_text_54 rfl kf_3_73 rfl rfl (Or.inl rfl) (by first | assumption | omega) (by assumption) ?_
    refine r_iconst 58 dX3_text_57 rfl rfl ?_
    refine r_istore_n 59 dX3_text_58 rfl rfl rfl ?_
    rotate_left -- leaf: pc 59
    exact l_text (l := l) lX0 (teN h).1 _ ⟨rfl, rfl⟩
  · rw [if_neg c_27]
    refine r_bipush 32 dX3_text_30 rfl rfl (by decide) ?_
    refine r_aload_n 33 dX3_text_32 rfl rfl ?_
    refine r_getR 36 dX3_text_33 rfl kf_3_30 rfl (by first | assumption | omega) (by assumption) (by assumption) ?_
    refine r_getI 39 dX3_text_36 rfl kf_3_66 rfl (by first | assumption | omega) (by assumption) ?_
    refine r_isub 40 dX3_text_39 rfl (by first | exact w32_id (by omega) (by omega) | rfl) ?_
    refine r_iret dX3_text_40 rfl ?_
    rotate_left -- leaf: return at pc 40
    exact ⟨rfl, rfl⟩
end TK
