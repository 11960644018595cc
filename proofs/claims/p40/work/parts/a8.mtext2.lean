/-! SunPointerModel: a line, the text -/
def lA (n : Int) (r p : Nat → Int) : Nat → Int := if (n ≤ 3 ∧ r 3 = 4) ∨ (n = 5 ∧ p 32 = 5) then flR 5 r else r
def lB (n : Int) (r : Nat → Int) : Nat → Int := if 6 ≤ n ∧ bitI (r 5) n.toNat = 1 then flR 4 r else r
def lC (n : Int) (r : Nat → Int) : Nat → Int := up1 r 5 (((r 5).toNat ||| 2 ^ n.toNat : Nat) : Int)
def l2 (tp : Nat → Int) (n : Int) (r p : Nat → Int) : Nat → Int := stR (lC n (lB n (lA n r p))) tp
def lE (r : Nat → Int) : Nat → Int := if r 10 = 0 ∧ ¬ r 14 = 3 then flR 2 r else r
def l3 (tp : Nat → Int) (n : Int) (r p : Nat → Int) : (Nat → Int) × (Nat → Int) := if 0 < l2 tp n r p 10 then (l2 tp n r p, p) else (stR (lE (moM tp n (l2 tp n r p) p).1) tp, (moM tp n (l2 tp n r p) p).2)
def liM (tp r p : Nat → Int) : (Nat → Int) × (Nat → Int) := if nhM r tp = -4 then (flR 2 r, p) else l3 tp (nhM r tp) r p
theorem flR_n {c : Int} {r : Nat → Int} (h : ¬ r 10 = 0) : flR c r = r := if_neg h
theorem lA_Z {n : Int} {r p : Nat → Int} (w : wZ r) : wZ (lA n r p) := by
  unfold lA
  split
  · exact fl_Z (by omega) w
  · exact w
theorem lB_Z {n : Int} {r : Nat → Int} (w : wZ r) : wZ (lB n r) := by
  unfold lB
  split
  · exact fl_Z (by omega) w
  · exact w
theorem r5_or {c n : Int} (hc : 0 ≤ c ∧ c < 256) (hn : 0 ≤ n ∧ n ≤ 7) : 0 ≤ ((c.toNat ||| 2 ^ n.toNat : Nat) : Int) ∧ ((c.toNat ||| 2 ^ n.toNat : Nat) : Int) < 256 := by
  have h1 : (2 : Nat) ^ n.toNat < 2 ^ 8 := Nat.pow_lt_pow_right (by decide) (by omega)
  have := Nat.or_lt_two_pow (x := c.toNat) (y := 2 ^ n.toNat) (n := 8) (by omega) h1
  omega
theorem lC_Z {n : Int} {r : Nat → Int} (hn : 0 ≤ n ∧ n ≤ 7) (w : wZ r) : wZ (lC n r) := by
  obtain ⟨w1, w2, w3, w4, w5⟩ := w
  exact ⟨wQ_up (by omega) w1, w2, w3, r5_or w4 hn, w5⟩
theorem l2_Z {tp : Nat → Int} (wb : wB tp) {n : Int} {r p : Nat → Int} (hn : 0 ≤ n ∧ n ≤ 7) (w : wZ r) : wZ (l2 tp n r p) := st_Z wb (lC_Z hn (lB_Z (lA_Z w)))
theorem lE_Z {r : Nat → Int} (w : wZ r) : wZ (lE r) := by
  unfold lE
  split
  · exact fl_Z (by omega) w
  · exact w
theorem lB_10 {n : Int} {r : Nat → Int} (h : ¬ r 10 = 0) : lB n r = r := by
  unfold lB
  split
  · exact flR_n h
  · rfl
/-- where nothing is met before the line's own: the line may stand -/
theorem l2_0 {tp : Nat → Int} {n : Int} {r p : Nat → Int} (h : r 10 = 0) (hq : ¬ 0 < l2 tp n r p 10) : ¬ ((n ≤ 3 ∧ r 3 = 4) ∨ (n = 5 ∧ p 32 = 5)) ∧ ¬ (6 ≤ n ∧ bitI (r 5) n.toNat = 1) ∧ l2 tp n r p = stR (lC n r) tp := by
  by_cases c1 : (n ≤ 3 ∧ r 3 = 4) ∨ (n = 5 ∧ p 32 = 5)
  · exfalso
    have e1 : lA n r p = flR 5 r := if_pos c1
    have e2 : lB n (flR 5 r) = flR 5 r := lB_10 (by rw [flR_10 h]; omega)
    apply hq
    unfold l2
    rw [e1, e2]
    have e3 : lC n (flR 5 r) 10 = 5 := by unfold lC; rw [up1_n (by omega), flR_10 h]
    rw [stR_B (by rw [e3]; omega), e3]
    omega
  · have e1 : lA n r p = r := if_neg c1
    by_cases c2 : 6 ≤ n ∧ bitI (r 5) n.toNat = 1
    · exfalso
      have e2 : lB n r = flR 4 r := if_pos c2
      apply hq
      unfold l2
      rw [e1, e2]
      have e3 : lC n (flR 4 r) 10 = 4 := by unfold lC; rw [up1_n (by omega), flR_10 h]
      rw [stR_B (by rw [e3]; omega), e3]
      omega
    · refine ⟨c1, c2, ?_⟩
      have e2 : lB n r = r := if_neg c2
      unfold l2
      rw [e1, e2]
theorem rr_x {tp : Nat → Int} {r p : Nat → Int} (ht : ¬ r 14 = 2) : ∀ n, rrM tp n r p = (r, p)
  | 0 => rfl
  | n + 1 => by unfold rrM; rw [if_neg (fun z => ht z.2)]
/-- a line that is read whole takes a byte at least -/
theorem li_Q {tp : Nat → Int} (wb : wB tp) {r p : Nat → Int} (w : wZ r) (wp : wPg p) (h : r 10 = 0) : wZ (liM tp r p).1 ∧ wPg (liM tp r p).2 ∧ ((liM tp r p).1 10 = 0 → r 12 < (liM tp r p).1 12) := by
  unfold liM
  by_cases c0 : nhM r tp = -4
  · rw [if_pos c0]
    exact ⟨fl_Z (by omega) w, wp, fun z => absurd ((flR_10 (c := 2) h).symm.trans z) (by omega)⟩
  rw [if_neg c0]
  have hn : 0 ≤ nhM r tp ∧ nhM r tp ≤ 7 := by have := nhM_in r tp; omega
  generalize nhM r tp = n at hn
  have w2 := l2_Z (tp := tp) (p := p) wb hn w
  unfold l3
  by_cases c1 : 0 < l2 tp n r p 10
  · rw [if_pos c1]
    exact ⟨w2, wp, fun z => absurd c1 (by dsimp only at z; omega)⟩
  rw [if_neg c1]
  obtain ⟨q1, q2, q3⟩ := l2_0 h c1
  have e3 : l2 tp n r p 3 = r 3 := by rw [q3, stR_o (by omega)]; unfold lC; rw [up1_n (by omega)]
  obtain ⟨m1, m2, m3⟩ := mo_Q wb w2 wp hn (fun z => by rw [e3]; have := w.2.1; omega) (fun z => by have := wp.2.2.2.2.2.2.2; omega)
  have h10 : l2 tp n r p 10 = 0 := by have := w2.1.2.2.2.1; omega
  refine ⟨st_Z wb (lE_Z m1), m2, fun z => ?_⟩
  have z : stR (lE (moM tp n (l2 tp n r p) p).1) tp 10 = 0 := z
  have hle := st_le (tp := tp) wb (lE_Z m1).1
  have eE : lE (moM tp n (l2 tp n r p) p).1 12 = (moM tp n (l2 tp n r p) p).1 12 := by
    unfold lE
    split
    · rw [flR_o (by omega)]
    · rfl
  have hne : lE (moM tp n (l2 tp n r p) p).1 10 = 0 := by
    by_cases y : lE (moM tp n (l2 tp n r p) p).1 10 = 0
    · exact y
    · rw [stR_B (by have := (lE_Z m1).1.2.2.2.1; omega)] at z
      exact z
  have h0 : (moM tp n (l2 tp n r p) p).1 10 = 0 ∧ (moM tp n (l2 tp n r p) p).1 14 = 3 := by
    unfold lE at hne
    by_cases y : (moM tp n (l2 tp n r p) p).1 10 = 0 ∧ ¬ (moM tp n (l2 tp n r p) p).1 14 = 3
    · rw [if_pos y, flR_10 y.1] at hne
      omega
    · rw [if_neg y] at hne
      exact ⟨hne, by
        by_cases y2 : (moM tp n (l2 tp n r p) p).1 14 = 3
        · exact y2
        · exact absurd ⟨hne, y2⟩ y⟩
  have ht : l2 tp n r p 14 ≠ 0 := by
    intro y
    have y2 : ¬ l2 tp n r p 14 = 2 := by omega
    unfold moM at h0
    by_cases d1 : n ≤ 3
    · rw [if_pos d1] at h0
      exact so_x w2 h10 y2 h0.1
    rw [if_neg d1] at h0
    by_cases d2 : n = 4
    · rw [if_pos d2] at h0
      exact so_x w2 h10 y2 h0.1
    rw [if_neg d2] at h0
    by_cases d3 : n = 5
    · rw [if_pos d3] at h0
      have b1 : ¬ so_R 0 47 0 (l2 tp n r p) tp 10 = 0 := so_x w2 h10 y2
      have b2 : so_R 1 9 0 (so_R 0 47 0 (l2 tp n r p) tp) tp = so_R 0 47 0 (l2 tp n r p) tp := by
        have e : otR 1 9 0 (so_R 0 47 0 (l2 tp n r p) tp) = so_R 0 47 0 (l2 tp n r p) tp := by unfold otR; rw [if_pos b1]
        show stR (otR 1 9 0 (so_R 0 47 0 (l2 tp n r p) tp)) tp = _
        rw [e, stR_B (by have := (so_Z (lo := 0) (hi := 47) (so := 0) wb w2).1.2.2.2.1; omega)]
      rw [b2] at h0
      exact b1 h0.1
    rw [if_neg d3] at h0
    by_cases d4 : n = 6
    · rw [if_pos d4, rr_x y2] at h0
      have := h0.2
      dsimp only at this
      omega
    · rw [if_neg d4] at h0
      exact so_x w2 h10 y2 h0.1
  have hlt : r 12 < l2 tp n r p 12 := by
    rw [q3] at ht ⊢
    have wC := lC_Z hn w
    have := st_lt (tp := tp) wb wC.1 (show lC n r 10 = 0 by unfold lC; rw [up1_n (by omega)]; exact h) ht
    have e : lC n r 12 = r 12 := by unfold lC; rw [up1_n (by omega)]
    omega
  show r 12 < stR (lE (moM tp n (l2 tp n r p) p).1) tp 12
  omega
section MT
variable {l : Launch} {G : zG} {h : zH} {r p : Nat → Int}
theorem m_readLine (lm : LM G) (wb : wB (h 48)) (wn : wN h) (w : wZ r) (wp : wPg p) (h10 : r 10 = 0) : Ca l G 5 mX4_readLine [vR 45] (mW h r p) (fun v h' => v = none ∧ h' = mW h (liM (h 48) r p).1 (liM (h 48) r p).2) := by
  have lm0 := lm
  have w0 := w
  have wp0 := wp
  obtain ⟨hN, ⟨ms45, ms46, ms47, ms48, ms49, ms50, ms51, ms52, ms53, ms54, ms55, ms56, ms57⟩, ⟨ml46, ml47, ml48, ml49, ml50, ml51, ml52, ml53, ml54, ml55, ml56, ml57⟩, ⟨mr0, mr2, mr7, mr16, mr17, mr18, mr20, mr22, mr24, mr25, mr26, mr27⟩⟩ := lm
  obtain ⟨w1, w2, w3, w4, w5⟩ := w
  have p8 := wp.2.2.2.2.2.2.2
  refine Ca.of (by decide) (Nat.le_of_ble_eq_true rfl) (fun hI hv hH => ?_)
  unfold liM
  have hnh := nhM_in r (h 48)
  refine r_aload_n 1 dX4_readLine_0 rfl rfl ?_
  rotate_left -- leaf: call at pc 1
  refine r_cv0 4 dX4_readLine_1 rfl kv_4_110 (by first | assumption | omega) (by assumption) rfl rfl (m_nameHere lm0 wn w1) ?_
  rintro v h' ⟨rfl, rfl⟩
  generalize nhM r (h 48) = n at hnh ⊢
  refine r_istore_n 5 dX4_readLine_4 rfl rfl rfl ?_
  refine r_iload_n 6 dX4_readLine_5 rfl rfl ?_
  refine r_i2l 7 dX4_readLine_6 rfl ?_
  refine r_lconst 8 dX4_readLine_7 rfl 0 rfl (by decide) ?_
  refine r_ldc2 11 (7) dX4_readLine_8 rfl kq_4_114 rfl ?_
  rotate_left -- leaf: call at pc 11
  refine r_cs3 14 dX4_readLine_11 rfl ks_4_49 rfl rfl (c_in n 0 7) ?_
  rintro v h' ⟨rfl, rfl⟩
  refine r_if_ne 23 17 dX4_readLine_14 (by decide) rfl (fun c_14 => ?_) (fun c_14 => ?_)
  rotate_left -- leaf: pc 23
  refine r_aload_n 18 dX4_readLine_17 rfl rfl ?_
  refine r_iconst 19 dX4_readLine_18 rfl rfl ?_
  rotate_left -- leaf: call at pc 19
  · have hn := z01_y.mp c_14
    rw [if_neg (by omega)]
    unfold l3
    obtain ⟨N, rfl⟩ := Int.eq_ofNat_of_zero_le hn.1
    have wA := lA_Z (n := (N : Int)) (p := p) w0
    have wB' := lB_Z (n := (N : Int)) wA
    have wC := lC_Z hn wB'
    have w2' := l2_Z (p := p) wb hn w0
    have J80 : Rr l G 5 mX4_readLine (fun v h' => v = none ∧ h' = mW h (if 0 < l2 (h 48) N r p 10 then (l2 (h 48) N r p, p) else (stR (lE (moM (h 48) N (l2 (h 48) N r p) p).1) (h 48), (moM (h 48) N (l2 (h 48) N r p) p).2)).1 (if 0 < l2 (h 48) N r p 10 then (l2 (h 48) N r p, p) else (stR (lE (moM (h 48) N (l2 (h 48) N r p) p).1) (h 48), (moM (h 48) N (l2 (h 48) N r p) p).2)).2) 80 [some (vR 45), some (vI N)] [] (mW h (lB N (lA N r p)) p) := by
      have e5 : z_ior (lB N (lA N r p) 5) (z_ishl 1 (N : Int)) = (((lB N (lA N r p) 5).toNat ||| 2 ^ (N : Int).toNat : Nat) : Int) := by
        have b5 := wB'.2.2.2.1
        rw [Int.toNat_natCast, z_shl1 N (by omega)]
        have h1 : (2 : Nat) ^ N < 2 ^ 8 := Nat.pow_lt_pow_right (by decide) (by omega)
        have := z_or_nat (a := (lB N (lA N r p) 5).toNat) (b := 2 ^ N) 8 (by decide) (by omega) h1
        rw [show (((lB N (lA N r p) 5).toNat : Nat) : Int) = lB N (lA N r p) 5 by omega] at this
        rw [← this]
        congr 1
      refine r_aload_n 81 dX4_readLine_80 rfl rfl ?_
      refine r_dup 82 dX4_readLine_81 rfl rfl ?_
      refine r_getI 85 dX4_readLine_82 rfl kf_4_116 rfl (by first | assumption | omega) (by assumption) ?_
      try simp only [mW_45, mW_47, mW_48, mW_46, mW_49, mW_50, mW_54, mW_up45, mW_up47, mW_up54, up1_at, ↓reduceIte, Nat.reduceEqDiff, reduceCtorEq]
      refine r_iconst 86 dX4_readLine_85 rfl rfl ?_
      refine r_iload_n 87 dX4_readLine_86 rfl rfl ?_
      refine r_ishl 88 dX4_readLine_87 rfl rfl ?_
      refine r_ior 89 dX4_readLine_88 rfl rfl ?_
      rotate_left -- leaf: pc 89
      rw [e5]
      refine r_putI 92 dX4_readLine_89 rfl kf_4_116 rfl rfl (Or.inl rfl) (by first | assumption | omega) (by assumption) ?_
      try simp only [mW_45, mW_47, mW_48, mW_46, mW_49, mW_50, mW_54, mW_up45, mW_up47, mW_up54, up1_at, ↓reduceIte, Nat.reduceEqDiff, reduceCtorEq]
      refine r_aload_n 93 dX4_readLine_92 rfl rfl ?_
      rotate_left -- leaf: call at pc 93
      have eC : up1 (lB N (lA N r p)) 5 (((lB N (lA N r p) 5).toNat ||| 2 ^ (N : Int).toNat : Nat) : Int) = lC N (lB N (lA N r p)) := rfl
      rw [eC]
      refine r_cv0 96 dX4_readLine_93 rfl kv_4_91 (by first | assumption | omega) (by assumption) rfl rfl (m_step lm0 wb (wQ_S wC.1) wC.1.2.2.2.1.1) ?_
      rintro v h' ⟨rfl, rfl⟩
      have e2 : stR (lC N (lB N (lA N r p))) (h 48) = l2 (h 48) N r p := rfl
      rw [e2]
      refine r_aload_n 97 dX4_readLine_96 rfl rfl ?_
      refine r_getI 100 dX4_readLine_97 rfl kf_4_57 rfl (by first | assumption | omega) (by assumption) ?_
      try simp only [mW_45, mW_47, mW_48, mW_46, mW_49, mW_50, mW_54, mW_up45, mW_up47, mW_up54, up1_at, ↓reduceIte, Nat.reduceEqDiff, reduceCtorEq]
      refine r_if_le 104 103 dX4_readLine_100 (by decide) rfl (fun c_100 => ?_) (fun c_100 => ?_)
      rotate_left -- leaf: pc 104
      refine r_ret dX4_readLine_103 rfl ?_
      rotate_left -- leaf: return at pc 103
      · rw [if_neg (by omega)]
        obtain ⟨q1, q2, q3⟩ := l2_0 (tp := h 48) (n := (N : Int)) (r := r) (p := p) h10 (by omega)
        have e3 : l2 (h 48) N r p 3 = r 3 := by rw [q3, stR_o (by omega)]; unfold lC; rw [up1_n (by omega)]
        have hm3 : (N : Int) ≤ 3 → l2 (h 48) N r p 3 < 4 := fun z => by rw [e3]; omega
        have hm5 : (N : Int) = 5 → p 32 < 5 := fun z => by omega
        obtain ⟨m1, m2, m3⟩ := mo_Q wb w2' wp0 hn hm3 hm5
        refine r_aload_n 105 dX4_readLine_104 rfl rfl ?_
        refine r_iload_n 106 dX4_readLine_105 rfl rfl ?_
        rotate_left -- leaf: call at pc 106
        refine r_cv1 109 dX4_readLine_106 rfl kv_4_119 (by first | assumption | omega) (by assumption) rfl rfl (m_readMore lm0 wb w2' wp0 N hn hm3 hm5) ?_
        rintro v h' ⟨rfl, rfl⟩
        have J129 : Rr l G 5 mX4_readLine (fun v h' => v = none ∧ h' = mW h (stR (lE (moM (h 48) N (l2 (h 48) N r p) p).1) (h 48)) (moM (h 48) N (l2 (h 48) N r p) p).2) 129 [some (vR 45), some (vI N)] [] (mW h (lE (moM (h 48) N (l2 (h 48) N r p) p).1) (moM (h 48) N (l2 (h 48) N r p) p).2) := by
          have wE := lE_Z m1
          refine r_aload_n 130 dX4_readLine_129 rfl rfl ?_
          rotate_left -- leaf: call at pc 130
          refine r_cv0 133 dX4_readLine_130 rfl kv_4_91 (by first | assumption | omega) (by assumption) rfl rfl (m_step lm0 wb (wQ_S wE.1) wE.1.2.2.2.1.1) ?_
          rintro v h' ⟨rfl, rfl⟩
          refine r_ret dX4_readLine_133 rfl ?_
          rotate_left -- leaf: return at pc 133
          exact ⟨rfl, rfl⟩
        generalize moM (h 48) N (l2 (h 48) N r p) p = Q at m1 m2 m3 J129 ⊢
        refine r_aload_n 110 dX4_readLine_109 rfl rfl ?_
        refine r_getI 113 dX4_readLine_110 rfl kf_4_57 rfl (by first | assumption | omega) (by assumption) ?_
        try simp only [mW_45, mW_47, mW_48, mW_46, mW_49, mW_50, mW_54, mW_up45, mW_up47, mW_up54, up1_at, ↓reduceIte, Nat.reduceEqDiff, reduceCtorEq]
        refine r_if_ne 129 116 dX4_readLine_113 (by decide) rfl (fun c_113 => ?_) (fun c_113 => ?_)
        rotate_left -- leaf: pc 129
        refine r_aload_n 117 dX4_readLine_116 rfl rfl ?_
        refine r_getI 120 dX4_readLine_117 rfl kf_4_66 rfl (by first | assumption | omega) (by assumption) ?_
        try simp only [mW_45, mW_47, mW_48, mW_46, mW_49, mW_50, mW_54, mW_up45, mW_up47, mW_up54, up1_at, ↓reduceIte, Nat.reduceEqDiff, reduceCtorEq]
        refine r_iconst 121 dX4_readLine_120 rfl rfl ?_
        refine r_icmp_eq 129 124 dX4_readLine_121 (by decide) rfl (fun c_121 => ?_) (fun c_121 => ?_)
        rotate_left -- leaf: pc 129
        refine r_aload_n 125 dX4_readLine_124 rfl rfl ?_
        refine r_iconst 126 dX4_readLine_125 rfl rfl ?_
        rotate_left -- leaf: call at pc 126
        · have eE : lE Q.1 = Q.1 := if_neg (fun z => c_113 z.1)
          refine Rr.eq rfl rfl (congrArg (fun z => mW h z Q.2) eE.symm) ?_
          exact J129
        · have eE : lE Q.1 = Q.1 := if_neg (fun z => z.2 c_121)
          refine Rr.eq rfl rfl (congrArg (fun z => mW h z Q.2) eE.symm) ?_
          exact J129
        · have eE : lE Q.1 = flR 2 Q.1 := if_pos ⟨c_113, c_121⟩
          refine r_cv1 129 dX4_readLine_126 rfl kv_4_87 (by first | assumption | omega) (by assumption) rfl rfl (m_fails lm0 2) ?_
          rintro v h' ⟨rfl, rfl⟩
          refine Rr.eq rfl rfl (congrArg (fun z => mW h z Q.2) eE.symm) ?_
          exact J129
      · rw [if_pos (by omega)]
        exact ⟨rfl, rfl⟩
    have J57 : Rr l G 5 mX4_readLine (fun v h' => v = none ∧ h' = mW h (if 0 < l2 (h 48) N r p 10 then (l2 (h 48) N r p, p) else (stR (lE (moM (h 48) N (l2 (h 48) N r p) p).1) (h 48), (moM (h 48) N (l2 (h 48) N r p) p).2)).1 (if 0 < l2 (h 48) N r p 10 then (l2 (h 48) N r p, p) else (stR (lE (moM (h 48) N (l2 (h 48) N r p) p).1) (h 48), (moM (h 48) N (l2 (h 48) N r p) p).2)).2) 57 [some (vR 45), some (vI N)] [] (mW h (lA N r p) p) := by
      have a5 := wA.2.2.2.1
      generalize hA : lA N r p = A at wA J80 a5 ⊢
      refine r_iload_n 58 dX4_readLine_57 rfl rfl ?_
      refine r_bipush 60 dX4_readLine_58 rfl rfl (by decide) ?_
      refine r_icmp_lt 80 63 dX4_readLine_60 (by decide) rfl (fun c_60 => ?_) (fun c_60 => ?_)
      rotate_left -- leaf: pc 80
      refine r_aload_n 64 dX4_readLine_63 rfl rfl ?_
      refine r_getI 67 dX4_readLine_64 rfl kf_4_116 rfl (by first | assumption | omega) (by assumption) ?_
      try simp only [mW_45, mW_47, mW_48, mW_46, mW_49, mW_50, mW_54, mW_up45, mW_up47, mW_up54, up1_at, ↓reduceIte, Nat.reduceEqDiff, reduceCtorEq]
      refine r_iload_n 68 dX4_readLine_67 rfl rfl ?_
      refine r_ishr 69 dX4_readLine_68 rfl rfl ?_
      refine r_iconst 70 dX4_readLine_69 rfl rfl ?_
      refine r_iand 71 dX4_readLine_70 rfl rfl ?_
      rotate_left -- leaf: pc 71
      · have eB : lB N A = A := if_neg (fun z => by omega)
        rw [eB] at J80
        exact J80
      · rw [z_bit ⟨by omega, by omega⟩ (by omega)]
        refine r_iconst 72 dX4_readLine_71 rfl rfl ?_
        refine r_icmp_ne 80 75 dX4_readLine_72 (by decide) rfl (fun c_72 => ?_) (fun c_72 => ?_)
        rotate_left -- leaf: pc 80
        refine r_aload_n 76 dX4_readLine_75 rfl rfl ?_
        refine r_iconst 77 dX4_readLine_76 rfl rfl ?_
        rotate_left -- leaf: call at pc 77
        · have eB : lB N A = A := if_neg (fun z => c_72 (by have := z.2; rw [Int.toNat_natCast] at this; exact this))
          rw [eB] at J80
          exact J80
        · have eB : lB N A = flR 4 A := if_pos ⟨by omega, by rw [Int.toNat_natCast]; exact c_72⟩
          refine r_cv1 80 dX4_readLine_77 rfl kv_4_87 (by first | assumption | omega) (by assumption) rfl rfl (m_fails lm0 4) ?_
          rintro v h' ⟨rfl, rfl⟩
          rw [← eB]
          exact J80
    have J52 : (((N : Int) ≤ 3 ∧ r 3 = 4) ∨ ((N : Int) = 5 ∧ p 32 = 5)) → Rr l G 5 mX4_readLine (fun v h' => v = none ∧ h' = mW h (if 0 < l2 (h 48) N r p 10 then (l2 (h 48) N r p, p) else (stR (lE (moM (h 48) N (l2 (h 48) N r p) p).1) (h 48), (moM (h 48) N (l2 (h 48) N r p) p).2)).1 (if 0 < l2 (h 48) N r p 10 then (l2 (h 48) N r p, p) else (stR (lE (moM (h 48) N (l2 (h 48) N r p) p).1) (h 48), (moM (h 48) N (l2 (h 48) N r p) p).2)).2) 52 [some (vR 45), some (vI N)] [] (mW h r p) := by
      intro hc
      have eA : lA N r p = flR 5 r := if_pos hc
      refine r_aload_n 53 dX4_readLine_52 rfl rfl ?_
      refine r_iconst 54 dX4_readLine_53 rfl rfl ?_
      rotate_left -- leaf: call at pc 54
      refine r_cv1 57 dX4_readLine_54 rfl kv_4_87 (by first | assumption | omega) (by assumption) rfl rfl (m_fails lm0 5) ?_
      rintro v h' ⟨rfl, rfl⟩
      rw [← eA]
      exact J57
    have J57n : ¬ (((N : Int) ≤ 3 ∧ r 3 = 4) ∨ ((N : Int) = 5 ∧ p 32 = 5)) → Rr l G 5 mX4_readLine (fun v h' => v = none ∧ h' = mW h (if 0 < l2 (h 48) N r p 10 then (l2 (h 48) N r p, p) else (stR (lE (moM (h 48) N (l2 (h 48) N r p) p).1) (h 48), (moM (h 48) N (l2 (h 48) N r p) p).2)).1 (if 0 < l2 (h 48) N r p 10 then (l2 (h 48) N r p, p) else (stR (lE (moM (h 48) N (l2 (h 48) N r p) p).1) (h 48), (moM (h 48) N (l2 (h 48) N r p) p).2)).2) 57 [some (vR 45), some (vI N)] [] (mW h r p) := by
      intro hc
      have eA : lA N r p = r := if_neg hc
      refine Rr.eq rfl rfl (congrArg (fun z => mW h z p) eA.symm) ?_
      exact J57
    refine r_iload_n 24 dX4_readLine_23 rfl rfl ?_
    refine r_iconst 25 dX4_readLine_24 rfl rfl ?_
    refine r_icmp_gt 36 28 dX4_readLine_25 (by decide) rfl (fun c_25 => ?_) (fun c_25 => ?_)
    refine r_iload_n 37 dX4_readLine_36 rfl rfl ?_
    refine r_iconst 38 dX4_readLine_37 rfl rfl ?_
    refine r_icmp_ne 57 41 dX4_readLine_38 (by decide) rfl (fun c_38 => ?_) (fun c_38 => ?_)
    rotate_left -- leaf: pc 57
    refine r_aload_n 42 dX4_readLine_41 rfl rfl ?_
    refine r_getR 45 dX4_readLine_42 rfl kf_4_13 rfl (by first | assumption | omega) (by assumption) (by assumption) ?_
    try simp only [mW_45, mW_47, mW_48, mW_46, mW_49, mW_50, mW_54, mW_up45, mW_up47, mW_up54, up1_at, ↓reduceIte, Nat.reduceEqDiff, reduceCtorEq]
    refine r_bipush 47 dX4_readLine_45 rfl rfl (by decide) ?_
    refine r_iald 48 dX4_readLine_47 rfl (by first | assumption | omega) (by assumption) (by first | omega | (simp only [Int.toNat_natCast]; omega)) (by first | omega | (simp only [Int.toNat_natCast]; omega)) ?_
    try simp only [Int.toNat_natCast, tq_4, tq_8, tq_22, tq_27, tq_99, tq_a, tl_0, tl_1, tl_20, tl_21, tl_22, tl_32]
    try simp only [mW_45, mW_47, mW_48, mW_46, mW_49, mW_50, mW_54, mW_up45, mW_up47, mW_up54, up1_at, ↓reduceIte, Nat.reduceEqDiff, reduceCtorEq]
    refine r_iconst 49 dX4_readLine_48 rfl rfl ?_
    refine r_icmp_ne 57 52 dX4_readLine_49 (by decide) rfl (fun c_49 => ?_) (fun c_49 => ?_)
    rotate_left -- leaf: pc 57
    rotate_left -- leaf: pc 52
    refine r_aload_n 29 dX4_readLine_28 rfl rfl ?_
    refine r_getI 32 dX4_readLine_29 rfl kf_4_104 rfl (by first | assumption | omega) (by assumption) ?_
    try simp only [mW_45, mW_47, mW_48, mW_46, mW_49, mW_50, mW_54, mW_up45, mW_up47, mW_up54, up1_at, ↓reduceIte, Nat.reduceEqDiff, reduceCtorEq]
    refine r_iconst 33 dX4_readLine_32 rfl rfl ?_
    refine r_icmp_eq 52 36 dX4_readLine_33 (by decide) rfl (fun c_33 => ?_) (fun c_33 => ?_)
    rotate_left -- leaf: pc 52
    refine r_iload_n 37 dX4_readLine_36 rfl rfl ?_
    refine r_iconst 38 dX4_readLine_37 rfl rfl ?_
    refine r_icmp_ne 57 41 dX4_readLine_38 (by decide) rfl (fun c_38 => ?_) (fun c_38 => ?_)
    rotate_left -- leaf: pc 57
    refine r_aload_n 42 dX4_readLine_41 rfl rfl ?_
    refine r_getR 45 dX4_readLine_42 rfl kf_4_13 rfl (by first | assumption | omega) (by assumption) (by assumption) ?_
    try simp only [mW_45, mW_47, mW_48, mW_46, mW_49, mW_50, mW_54, mW_up45, mW_up47, mW_up54, up1_at, ↓reduceIte, Nat.reduceEqDiff, reduceCtorEq]
    refine r_bipush 47 dX4_readLine_45 rfl rfl (by decide) ?_
    refine r_iald 48 dX4_readLine_47 rfl (by first | assumption | omega) (by assumption) (by first | omega | (simp only [Int.toNat_natCast]; omega)) (by first | omega | (simp only [Int.toNat_natCast]; omega)) ?_
    try simp only [Int.toNat_natCast, tq_4, tq_8, tq_22, tq_27, tq_99, tq_a, tl_0, tl_1, tl_20, tl_21, tl_22, tl_32]
    try simp only [mW_45, mW_47, mW_48, mW_46, mW_49, mW_50, mW_54, mW_up45, mW_up47, mW_up54, up1_at, ↓reduceIte, Nat.reduceEqDiff, reduceCtorEq]
    refine r_iconst 49 dX4_readLine_48 rfl rfl ?_
    refine r_icmp_ne 57 52 dX4_readLine_49 (by decide) rfl (fun c_49 => ?_) (fun c_49 => ?_)
    rotate_left -- leaf: pc 57
    rotate_left -- leaf: pc 52
    · exact J57n (by omega)
    · exact J57n (by omega)
    · exact J52 (by omega)
    · exact J52 (by omega)
    · exact J57n (by omega)
    · exact J57n (by omega)
    · exact J52 (by omega)
  · have hn := z01_n.mp c_14
    rw [if_pos (by omega)]
    refine r_cv1 22 dX4_readLine_19 rfl kv_4_87 (by first | assumption | omega) (by assumption) rfl rfl (m_fails lm0 2) ?_
    rintro v h' ⟨rfl, rfl⟩
    refine r_ret dX4_readLine_22 rfl ?_
    rotate_left -- leaf: return at pc 22
    exact ⟨rfl, rfl⟩
def tlM (tp : Nat → Int) : Nat → Nat → (Nat → Int) → (Nat → Int) → Nat × (Nat → Int) × (Nat → Int)
  | 0, k, r, p => (k, r, p)
  | n + 1, k, r, p => if r 10 = 0 ∧ ¬ r 14 = 0 then tlM tp n (k + 1) (liM tp r p).1 (liM tp r p).2 else (k, r, p)
theorem tl_Q {tp : Nat → Int} (wb : wB tp) : ∀ (n k : Nat) (r p : Nat → Int), wZ r → wPg p → wZ (tlM tp n k r p).2.1 ∧ wPg (tlM tp n k r p).2.2 ∧ (tlM tp n k r p).1 ≤ k + n
  | 0, k, r, p, w, wp => ⟨w, wp, Nat.le_refl _⟩
  | n + 1, k, r, p, w, wp => by
    unfold tlM
    split
    · rename_i c
      obtain ⟨q1, q2, q3⟩ := li_Q wb w wp c.1
      obtain ⟨z1, z2, z3⟩ := tl_Q wb n (k + 1) _ _ q1 q2
      exact ⟨z1, z2, by omega⟩
    · exact ⟨w, wp, Nat.le_add_right _ _⟩
theorem l_txL (lm : LM G) (wb : wB (h 48)) (wn : wN h) (x2 : Option zV) {Φ : Option zV → zH → Prop} : ∀ (n k : Nat) (r p : Nat → Int), wZ r → wPg p → (r 10 = 0 → 161 ≤ r 12 + n) → k + n ≤ 400 → Rr l G 6 mX4_text Φ 81 [some (vR 45), some (vI ((tlM (h 48) n k r p).1 : Nat)), x2] [] (mW h (tlM (h 48) n k r p).2.1 (tlM (h 48) n k r p).2.2) → Rr l G 6 mX4_text Φ 57 [some (vR 45), some (vI k), x2] [] (mW h r p) := by
  have lm0 := lm
  obtain ⟨hN, ⟨ms45, ms46, ms47, ms48, ms49, ms50, ms51, ms52, ms53, ms54, ms55, ms56, ms57⟩, ⟨ml46, ml47, ml48, ml49, ml50, ml51, ml52, ml53, ml54, ml55, ml56, ml57⟩, ⟨mr0, mr2, mr7, mr16, mr17, mr18, mr20, mr22, mr24, mr25, mr26, mr27⟩⟩ := lm
  intro n
  induction n with
  | zero =>
    intro k r p w wp hm hk hΦ
    refine r_aload_n 58 dX4_text_57 rfl rfl ?_
    refine r_getI 61 dX4_text_58 rfl kf_4_57 rfl (by first | assumption | omega) (by assumption) ?_
    try simp only [mW_45, mW_47, mW_48, mW_46, mW_49, mW_50, mW_54, mW_up45, mW_up47, mW_up54, up1_at, ↓reduceIte, Nat.reduceEqDiff, reduceCtorEq]
    refine r_if_ne 81 64 dX4_text_61 (by decide) rfl (fun c_61 => ?_) (fun c_61 => ?_)
    rotate_left -- leaf: pc 81
    refine r_aload_n 65 dX4_text_64 rfl rfl ?_
    refine r_getI 68 dX4_text_65 rfl kf_4_66 rfl (by first | assumption | omega) (by assumption) ?_
    try simp only [mW_45, mW_47, mW_48, mW_46, mW_49, mW_50, mW_54, mW_up45, mW_up47, mW_up54, up1_at, ↓reduceIte, Nat.reduceEqDiff, reduceCtorEq]
    refine r_if_eq 81 71 dX4_text_68 (by decide) rfl (fun c_68 => ?_) (fun c_68 => ?_)
    rotate_left -- leaf: pc 81
    rotate_left -- leaf: pc 71
    · exact hΦ
    · exact hΦ
    · have := hm c_61
      have := w.1.2.1
      have := w.1.1
      omega
  | succ n ih =>
    intro k r p w wp hm hk hΦ
    rw [tlM] at hΦ
    refine r_aload_n 58 dX4_text_57 rfl rfl ?_
    refine r_getI 61 dX4_text_58 rfl kf_4_57 rfl (by first | assumption | omega) (by assumption) ?_
    try simp only [mW_45, mW_47, mW_48, mW_46, mW_49, mW_50, mW_54, mW_up45, mW_up47, mW_up54, up1_at, ↓reduceIte, Nat.reduceEqDiff, reduceCtorEq]
    refine r_if_ne 81 64 dX4_text_61 (by decide) rfl (fun c_61 => ?_) (fun c_61 => ?_)
    rotate_left -- leaf: pc 81
    refine r_aload_n 65 dX4_text_64 rfl rfl ?_
    refine r_getI 68 dX4_text_65 rfl kf_4_66 rfl (by first | assumption | omega) (by assumption) ?_
    try simp only [mW_45, mW_47, mW_48, mW_46, mW_49, mW_50, mW_54, mW_up45, mW_up47, mW_up54, up1_at, ↓reduceIte, Nat.reduceEqDiff, reduceCtorEq]
    refine r_if_eq 81 71 dX4_text_68 (by decide) rfl (fun c_68 => ?_) (fun c_68 => ?_)
    rotate_left -- leaf: pc 81
    rotate_left -- leaf: pc 71
    · rw [if_neg (fun z => c_61 z.1)] at hΦ
      exact hΦ
    · rw [if_neg (fun z => z.2 c_68)] at hΦ
      exact hΦ
    · rw [if_pos ⟨c_61, c_68⟩] at hΦ
      obtain ⟨q1, q2, q3⟩ := li_Q wb w wp c_61
      refine r_aload_n 72 dX4_text_71 rfl rfl ?_
      rotate_left -- leaf: call at pc 72
      refine r_cv0 75 dX4_text_72 rfl kv_4_122 (by first | assumption | omega) (by assumption) rfl rfl (m_readLine lm0 wb wn w wp c_61) ?_
      rintro v h' ⟨rfl, rfl⟩
      refine r_iinc 78 _ dX4_text_75 rfl rfl rfl rfl (by first | exact w32_id (by omega) (by omega) | rfl) ?_
      refine r_goto 57 dX4_text_78 (by decide) ?_
      rotate_left -- leaf: pc 57
      exact ih (k + 1) _ _ q1 q2 (fun z => by have := q3 z; have := hm c_61; omega) (by omega) hΦ
def pI (p : Nat → Int) (n : Nat) : Nat → Int := fun b => if b < n then 0 else p b
theorem pI_s (p : Nat → Int) (n : Nat) : up1 (pI p n) n 0 = pI p (n + 1) := by
  funext b
  unfold up1 pI
  by_cases e : b = n
  · rw [if_pos e, if_pos (by omega)]
  · rw [if_neg e]
    by_cases e2 : b < n
    · rw [if_pos e2, if_pos (by omega)]
    · rw [if_neg e2, if_neg (by omega)]
theorem wPg_pI (p : Nat → Int) : wPg (pI p 33) := by
  have e : ∀ b, b < 33 → pI p 33 b = 0 := fun b hb => if_pos hb
  exact ⟨fun j hj => by rw [e _ (by omega)]; omega, fun j hj => by rw [e _ (by omega)]; omega, fun j hj => by rw [e _ (by omega)]; omega, by rw [e _ (by omega)]; omega, by rw [e _ (by omega)]; omega, fun j hj => by rw [e _ (by omega)]; omega, fun j hj => by rw [e _ (by omega)]; omega, by rw [e _ (by omega)]; omega⟩
theorem l_tx0 (lm : LM G) {Φ : Option zV → zH → Prop} (hΦ : Rr l G 6 mX4_text Φ 53 [some (vR 45), some (vI 0), some (vI 33)] [] (mW h r (pI p 33))) : ∀ (n k : Nat), k + n = 33 → Rr l G 6 mX4_text Φ 34 [some (vR 45), some (vI 0), some (vI k)] [] (mW h r (pI p k)) := by
  obtain ⟨hN, ⟨ms45, ms46, ms47, ms48, ms49, ms50, ms51, ms52, ms53, ms54, ms55, ms56, ms57⟩, ⟨ml46, ml47, ml48, ml49, ml50, ml51, ml52, ml53, ml54, ml55, ml56, ml57⟩, ⟨mr0, mr2, mr7, mr16, mr17, mr18, mr20, mr22, mr24, mr25, mr26, mr27⟩⟩ := lm
  intro n
  induction n with
  | zero =>
    intro k hk
    obtain rfl : k = 33 := by omega
    refine r_iload_n 35 dX4_text_34 rfl rfl ?_
    refine r_bipush 37 dX4_text_35 rfl rfl (by decide) ?_
    refine r_icmp_ge 53 40 dX4_text_37 (by decide) rfl (fun c_37 => ?_) (fun c_37 => ?_)
    rotate_left -- leaf: pc 53
    rotate_left -- leaf: pc 40
    · exact hΦ
    · omega
  | succ n ih =>
    intro k hk
    refine r_iload_n 35 dX4_text_34 rfl rfl ?_
    refine r_bipush 37 dX4_text_35 rfl rfl (by decide) ?_
    refine r_icmp_ge 53 40 dX4_text_37 (by decide) rfl (fun c_37 => ?_) (fun c_37 => ?_)
    rotate_left -- leaf: pc 53
    refine r_aload_n 41 dX4_text_40 rfl rfl ?_
    refine r_getR 44 dX4_text_41 rfl kf_4_13 rfl (by first | assumption | omega) (by assumption) (by assumption) ?_
    try simp only [mW_45, mW_47, mW_48, mW_46, mW_49, mW_50, mW_54, mW_up45, mW_up47, mW_up54, up1_at, ↓reduceIte, Nat.reduceEqDiff, reduceCtorEq]
    refine r_iload_n 45 dX4_text_44 rfl rfl ?_
    refine r_iconst 46 dX4_text_45 rfl rfl ?_
    refine r_iast 47 dX4_text_46 rfl (by first | assumption | omega) (by assumption) (by first | omega | (simp only [Int.toNat_natCast]; omega)) (by first | omega | (simp only [Int.toNat_natCast]; omega)) ?_
    try simp only [Int.toNat_natCast, tq_4, tq_8, tq_22, tq_27, tq_99, tq_a, tl_0, tl_1, tl_20, tl_21, tl_22, tl_32]
    try simp only [mW_45, mW_47, mW_48, mW_46, mW_49, mW_50, mW_54, mW_up45, mW_up47, mW_up54, up1_at, ↓reduceIte, Nat.reduceEqDiff, reduceCtorEq]
    refine r_iinc 50 _ dX4_text_47 rfl rfl rfl rfl (by first | exact w32_id (by omega) (by omega) | rfl) ?_
    refine r_goto 34 dX4_text_50 (by decide) ?_
    rotate_left -- leaf: pc 34
    · omega
    · rw [pI_s]
      exact ih (k + 1) (by omega)
theorem l_tx3 (lm : LM G) (x1 : Int) {Φ : Option zV → zH → Prop} (hΦ : Rr l G 6 mX4_text Φ 159 [some (vR 45), some (vI x1), some (vI 33)] [] (mW (setB h 46 33 p) r p)) : ∀ (n k : Nat), k + n = 33 → Rr l G 6 mX4_text Φ 135 [some (vR 45), some (vI x1), some (vI k)] [] (mW (setB h 46 k p) r p) := by
  obtain ⟨hN, ⟨ms45, ms46, ms47, ms48, ms49, ms50, ms51, ms52, ms53, ms54, ms55, ms56, ms57⟩, ⟨ml46, ml47, ml48, ml49, ml50, ml51, ml52, ml53, ml54, ml55, ml56, ml57⟩, ⟨mr0, mr2, mr7, mr16, mr17, mr18, mr20, mr22, mr24, mr25, mr26, mr27⟩⟩ := lm
  intro n
  induction n with
  | zero =>
    intro k hk
    obtain rfl : k = 33 := by omega
    refine r_iload_n 136 dX4_text_135 rfl rfl ?_
    refine r_bipush 138 dX4_text_136 rfl rfl (by decide) ?_
    refine r_icmp_ge 159 141 dX4_text_138 (by decide) rfl (fun c_138 => ?_) (fun c_138 => ?_)
    rotate_left -- leaf: pc 159
    rotate_left -- leaf: pc 141
    · exact hΦ
    · omega
  | succ n ih =>
    intro k hk
    refine r_iload_n 136 dX4_text_135 rfl rfl ?_
    refine r_bipush 138 dX4_text_136 rfl rfl (by decide) ?_
    refine r_icmp_ge 159 141 dX4_text_138 (by decide) rfl (fun c_138 => ?_) (fun c_138 => ?_)
    rotate_left -- leaf: pc 159
    refine r_aload_n 142 dX4_text_141 rfl rfl ?_
    refine r_getR 145 dX4_text_142 rfl kf_4_7 rfl (by first | assumption | omega) (by assumption) (by assumption) ?_
    try simp only [mW_45, mW_47, mW_48, mW_46, mW_49, mW_50, mW_54, mW_up45, mW_up47, mW_up54, up1_at, ↓reduceIte, Nat.reduceEqDiff, reduceCtorEq]
    refine r_iload_n 146 dX4_text_145 rfl rfl ?_
    refine r_aload_n 147 dX4_text_146 rfl rfl ?_
    refine r_getR 150 dX4_text_147 rfl kf_4_13 rfl (by first | assumption | omega) (by assumption) (by assumption) ?_
    try simp only [mW_45, mW_47, mW_48, mW_46, mW_49, mW_50, mW_54, mW_up45, mW_up47, mW_up54, up1_at, ↓reduceIte, Nat.reduceEqDiff, reduceCtorEq]
    refine r_iload_n 151 dX4_text_150 rfl rfl ?_
    refine r_iald 152 dX4_text_151 rfl (by first | assumption | omega) (by assumption) (by first | omega | (simp only [Int.toNat_natCast]; omega)) (by first | omega | (simp only [Int.toNat_natCast]; omega)) ?_
    try simp only [Int.toNat_natCast, tq_4, tq_8, tq_22, tq_27, tq_99, tq_a, tl_0, tl_1, tl_20, tl_21, tl_22, tl_32]
    try simp only [mW_45, mW_47, mW_48, mW_46, mW_49, mW_50, mW_54, mW_up45, mW_up47, mW_up54, up1_at, ↓reduceIte, Nat.reduceEqDiff, reduceCtorEq]
    refine r_iast 153 dX4_text_152 rfl (by first | assumption | omega) (by assumption) (by first | omega | (simp only [Int.toNat_natCast]; omega)) (by first | omega | (simp only [Int.toNat_natCast]; omega)) ?_
    try simp only [Int.toNat_natCast, tq_4, tq_8, tq_22, tq_27, tq_99, tq_a, tl_0, tl_1, tl_20, tl_21, tl_22, tl_32]
    try simp only [mW_45, mW_47, mW_48, mW_46, mW_49, mW_50, mW_54, mW_up45, mW_up47, mW_up54, up1_at, ↓reduceIte, Nat.reduceEqDiff, reduceCtorEq]
    refine r_iinc 156 _ dX4_text_153 rfl rfl rfl rfl (by first | exact w32_id (by omega) (by omega) | rfl) ?_
    refine r_goto 135 dX4_text_156 (by decide) ?_
    rotate_left -- leaf: pc 135
    · omega
    · rw [mW_up46, setB_s]
      exact ih (k + 1) (by omega)
def rI (h : zH) : Nat → Int := up1 (up1 (up1 (up1 (up1 (up1 (h 45) 10 0) 12 0) 3 0) 4 0) 5 0) 6 (-1)
def tF (r : Nat → Int) : Nat → Int := if r 10 = 0 ∧ r 3 ≤ r 6 then flR 6 r else r
def tE (h : zH) : Nat × (Nat → Int) × (Nat → Int) := tlM (h 48) 161 0 (stR (rI h) (h 48)) (pI (h 47) 33)
def tRd (h : zH) : Nat → Int := tF (tE h).2.1
def tText (h : zH) : Int × zH := if 0 < tRd h 10 then (-10 - tRd h 11, mW h (up1 (up1 (tRd h) 8 0) 9 (tRd h 10)) (tE h).2.2) else (((tE h).1 : Int), mW (up (up (setB h 46 33 (tE h).2.2) 54 0 0) 54 1 0) (up1 (up1 (up1 (up1 (tRd h) 8 0) 9 (tRd h 10)) 1 (tRd h 3)) 21 0) (tE h).2.2)
theorem wZ_rI {h : zH} (wb : wB (h 48)) (h8 : 0 ≤ h 45 8 ∧ h 45 8 ≤ 160) : wZ (stR (rI h) (h 48)) := by
  refine ⟨st_Q0 wb ⟨h8, ⟨(by decide : (0 : Int) ≤ 0), h8.1⟩⟩ rfl, ?_⟩
  rw [stR_o (by omega), stR_o (by omega), stR_o (by omega), stR_o (by omega)]
  exact ⟨⟨(by decide : (0 : Int) ≤ 0), (by decide : (0 : Int) ≤ 4)⟩, ⟨(by decide : (0 : Int) ≤ 0), (by decide : (0 : Int) ≤ 12)⟩, ⟨(by decide : (0 : Int) ≤ 0), (by decide : (0 : Int) < 256)⟩, ⟨(by decide : (-1 : Int) ≤ -1), (by decide : (-1 : Int) ≤ 3)⟩⟩
theorem te_Q {h : zH} (wb : wB (h 48)) (h8 : 0 ≤ h 45 8 ∧ h 45 8 ≤ 160) : wZ (tE h).2.1 ∧ wPg (tE h).2.2 ∧ (tE h).1 ≤ 161 := by
  have := tl_Q wb 161 0 _ _ (wZ_rI wb h8) (wPg_pI (h 47))
  rw [Nat.zero_add] at this
  exact this
theorem tF_Z {r : Nat → Int} (w : wZ r) : wZ (tF r) := by
  unfold tF
  split
  · exact fl_Z (by omega) w
  · exact w
theorem m_text (lm : LM G) (wb : wB (h 48)) (wn : wN h) (h8 : 0 ≤ h 45 8 ∧ h 45 8 ≤ 160) : Ca l G 6 mX4_text [vR 45] h (fun v h' => v = some (vI (tText h).1) ∧ h' = (tText h).2) := by
  have lm0 := lm
  obtain ⟨hN, ⟨ms45, ms46, ms47, ms48, ms49, ms50, ms51, ms52, ms53, ms54, ms55, ms56, ms57⟩, ⟨ml46, ml47, ml48, ml49, ml50, ml51, ml52, ml53, ml54, ml55, ml56, ml57⟩, ⟨mr0, mr2, mr7, mr16, mr17, mr18, mr20, mr22, mr24, mr25, mr26, mr27⟩⟩ := lm
  obtain ⟨T, hT⟩ : ∃ T, T = tE h := ⟨_, rfl⟩
  have hQ := te_Q wb h8
  have hc : (Nat × (Nat → Int) × (Nat → Int)) → Int × zH := fun T => if 0 < tF T.2.1 10 then (-10 - tF T.2.1 11, mW h (up1 (up1 (tF T.2.1) 8 0) 9 (tF T.2.1 10)) T.2.2) else ((T.1 : Int), mW (up (up (setB h 46 33 T.2.2) 54 0 0) 54 1 0) (up1 (up1 (up1 (up1 (tF T.2.1) 8 0) 9 (tF T.2.1 10)) 1 (tF T.2.1 3)) 21 0) T.2.2)
  unfold tText tRd
  rw [← hT] at hQ ⊢
  refine Ca.of (by decide) (Nat.le_of_ble_eq_true rfl) (fun hI hv hH => ?_)
  have e0 : h = mW h (h 45) (h 47) := mW_self.symm
  refine Rr.eq rfl rfl e0 ?_
  refine r_aload_n 1 dX4_text_0 rfl rfl ?_
  refine r_iconst 2 dX4_text_1 rfl rfl ?_
  refine r_putI 5 dX4_text_2 rfl kf_4_57 rfl rfl (Or.inl rfl) (by first | assumption | omega) (by assumption) ?_
  try simp only [mW_45, mW_47, mW_48, mW_46, mW_49, mW_50, mW_54, mW_up45, mW_up47, mW_up54, up1_at, ↓reduceIte, Nat.reduceEqDiff, reduceCtorEq]
  refine r_aload_n 6 dX4_text_5 rfl rfl ?_
  refine r_iconst 7 dX4_text_6 rfl rfl ?_
  refine r_putI 10 dX4_text_7 rfl kf_4_69 rfl rfl (Or.inl rfl) (by first | assumption | omega) (by assumption) ?_
  try simp only [mW_45, mW_47, mW_48, mW_46, mW_49, mW_50, mW_54, mW_up45, mW_up47, mW_up54, up1_at, ↓reduceIte, Nat.reduceEqDiff, reduceCtorEq]
  refine r_aload_n 11 dX4_text_10 rfl rfl ?_
  refine r_iconst 12 dX4_text_11 rfl rfl ?_
  refine r_putI 15 dX4_text_12 rfl kf_4_104 rfl rfl (Or.inl rfl) (by first | assumption | omega) (by assumption) ?_
  try simp only [mW_45, mW_47, mW_48, mW_46, mW_49, mW_50, mW_54, mW_up45, mW_up47, mW_up54, up1_at, ↓reduceIte, Nat.reduceEqDiff, reduceCtorEq]
  refine r_aload_n 16 dX4_text_15 rfl rfl ?_
  refine r_iconst 17 dX4_text_16 rfl rfl ?_
  refine r_putI 20 dX4_text_17 rfl kf_4_94 rfl rfl (Or.inl rfl) (by first | assumption | omega) (by assumption) ?_
  try simp only [mW_45, mW_47, mW_48, mW_46, mW_49, mW_50, mW_54, mW_up45, mW_up47, mW_up54, up1_at, ↓reduceIte, Nat.reduceEqDiff, reduceCtorEq]
  refine r_aload_n 21 dX4_text_20 rfl rfl ?_
  refine r_iconst 22 dX4_text_21 rfl rfl ?_
  refine r_putI 25 dX4_text_22 rfl kf_4_116 rfl rfl (Or.inl rfl) (by first | assumption | omega) (by assumption) ?_
  try simp only [mW_45, mW_47, mW_48, mW_46, mW_49, mW_50, mW_54, mW_up45, mW_up47, mW_up54, up1_at, ↓reduceIte, Nat.reduceEqDiff, reduceCtorEq]
  refine r_aload_n 26 dX4_text_25 rfl rfl ?_
  refine r_iconst 27 dX4_text_26 rfl rfl ?_
  refine r_putI 30 dX4_text_27 rfl kf_4_101 rfl rfl (Or.inl rfl) (by first | assumption | omega) (by assumption) ?_
  try simp only [mW_45, mW_47, mW_48, mW_46, mW_49, mW_50, mW_54, mW_up45, mW_up47, mW_up54, up1_at, ↓reduceIte, Nat.reduceEqDiff, reduceCtorEq]
  refine r_iconst 31 dX4_text_30 rfl rfl ?_
  refine r_istore_n 32 dX4_text_31 rfl rfl rfl ?_
  refine r_iconst 33 dX4_text_32 rfl rfl ?_
  refine r_istore_n 34 dX4_text_33 rfl rfl rfl ?_
  rotate_left -- leaf: pc 34
  have eI : up1 (up1 (up1 (up1 (up1 (up1 (h 45) 10 0) 12 0) 3 0) 4 0) 5 0) 6 (-1) = rI h := rfl
  rw [eI]
  have ep : h 47 = pI (h 47) 0 := by funext b; unfold pI; rw [if_neg (by omega)]
  refine Rr.eq rfl rfl (congrArg (fun z => mW h (rI h) z) ep) ?_
  refine l_tx0 (l := l) lm0 ?_ 33 0 rfl
  refine r_aload_n 54 dX4_text_53 rfl rfl ?_
  rotate_left -- leaf: call at pc 54
  refine r_cv0 57 dX4_text_54 rfl kv_4_91 (by first | assumption | omega) (by assumption) rfl rfl (m_step lm0 wb (show wS (rI h) from ⟨h8, ⟨(by decide : (0 : Int) ≤ 0), h8.1⟩⟩) (by decide : (0 : Int) ≤ 0)) ?_
  rintro v h' ⟨rfl, rfl⟩
  refine l_txL (l := l) lm0 wb wn _ 161 0 _ _ (wZ_rI wb h8) (wPg_pI _) (fun _ => by have := (wZ_rI wb h8).1.2.1.1; omega) (by omega) ?_
  have hT' : tlM (h 48) 161 0 (stR (rI h) (h 48)) (pI (h 47) 33) = T := hT.symm
  rw [hT']
  clear hT hT' hc
  obtain ⟨w, wp, hk⟩ := hQ
  obtain ⟨k, R, P⟩ := T
  dsimp only at w wp hk ⊢
  have wF := tF_Z w
  obtain ⟨⟨f1, f2, f3, f4, f5, f6⟩, f7, f8, f9, f10⟩ := wF
  have J105 : Rr l G 6 mX4_text (fun v h' => v = some (vI (if 0 < tF R 10 then (-10 - tF R 11, mW h (up1 (up1 (tF R) 8 0) 9 (tF R 10)) P) else ((k : Int), mW (up (up (setB h 46 33 P) 54 0 0) 54 1 0) (up1 (up1 (up1 (up1 (tF R) 8 0) 9 (tF R 10)) 1 (tF R 3)) 21 0) P)).1) ∧ h' = (if 0 < tF R 10 then (-10 - tF R 11, mW h (up1 (up1 (tF R) 8 0) 9 (tF R 10)) P) else ((k : Int), mW (up (up (setB h 46 33 P) 54 0 0) 54 1 0) (up1 (up1 (up1 (up1 (tF R) 8 0) 9 (tF R 10)) 1 (tF R 3)) 21 0) P)).2) 105 [some (vR 45), some (vI k), some (vI 33)] [] (mW h (tF R) P) := by
    generalize tF R = F at f1 f2 f3 f4 f5 f6 f7 f8 f9 f10 ⊢
    refine r_aload_n 106 dX4_text_105 rfl rfl ?_
    refine r_iconst 107 dX4_text_106 rfl rfl ?_
    refine r_putI 110 dX4_text_107 rfl kf_4_53 rfl rfl (Or.inl rfl) (by first | assumption | omega) (by assumption) ?_
    try simp only [mW_45, mW_47, mW_48, mW_46, mW_49, mW_50, mW_54, mW_up45, mW_up47, mW_up54, up1_at, ↓reduceIte, Nat.reduceEqDiff, reduceCtorEq]
    refine r_aload_n 111 dX4_text_110 rfl rfl ?_
    refine r_aload_n 112 dX4_text_111 rfl rfl ?_
    refine r_getI 115 dX4_text_112 rfl kf_4_57 rfl (by first | assumption | omega) (by assumption) ?_
    try simp only [mW_45, mW_47, mW_48, mW_46, mW_49, mW_50, mW_54, mW_up45, mW_up47, mW_up54, up1_at, ↓reduceIte, Nat.reduceEqDiff, reduceCtorEq]
    refine r_putI 118 dX4_text_115 rfl kf_4_125 rfl rfl (Or.inl rfl) (by first | assumption | omega) (by assumption) ?_
    try simp only [mW_45, mW_47, mW_48, mW_46, mW_49, mW_50, mW_54, mW_up45, mW_up47, mW_up54, up1_at, ↓reduceIte, Nat.reduceEqDiff, reduceCtorEq]
    refine r_aload_n 119 dX4_text_118 rfl rfl ?_
    refine r_getI 122 dX4_text_119 rfl kf_4_57 rfl (by first | assumption | omega) (by assumption) ?_
    try simp only [mW_45, mW_47, mW_48, mW_46, mW_49, mW_50, mW_54, mW_up45, mW_up47, mW_up54, up1_at, ↓reduceIte, Nat.reduceEqDiff, reduceCtorEq]
    refine r_if_le 133 125 dX4_text_122 (by decide) rfl (fun c_122 => ?_) (fun c_122 => ?_)
    rotate_left -- leaf: pc 133
    refine r_bipush 127 dX4_text_125 rfl rfl (by decide) ?_
    refine r_aload_n 128 dX4_text_127 rfl rfl ?_
    refine r_getI 131 dX4_text_128 rfl kf_4_63 rfl (by first | assumption | omega) (by assumption) ?_
    try simp only [mW_45, mW_47, mW_48, mW_46, mW_49, mW_50, mW_54, mW_up45, mW_up47, mW_up54, up1_at, ↓reduceIte, Nat.reduceEqDiff, reduceCtorEq]
    rotate_left -- leaf: pc 131
    · rw [if_neg (by omega)]
      refine r_iconst 134 dX4_text_133 rfl rfl ?_
      refine r_istore_n 135 dX4_text_134 rfl rfl rfl ?_
      rotate_left -- leaf: pc 135
      have es : h = setB h 46 0 P := setB_0.symm
      refine Rr.eq rfl rfl (congrArg (fun z => mW z (up1 (up1 F 8 0) 9 (F 10)) P) es) ?_
      refine l_tx3 (l := l) lm0 _ ?_ 33 0 rfl
      refine r_aload_n 160 dX4_text_159 rfl rfl ?_
      refine r_aload_n 161 dX4_text_160 rfl rfl ?_
      refine r_getI 164 dX4_text_161 rfl kf_4_104 rfl (by first | assumption | omega) (by assumption) ?_
      try simp only [mW_45, mW_47, mW_48, mW_46, mW_49, mW_50, mW_54, mW_up45, mW_up47, mW_up54, up1_at, ↓reduceIte, Nat.reduceEqDiff, reduceCtorEq]
      refine r_putI 167 dX4_text_164 rfl kf_4_128 rfl rfl (Or.inl rfl) (by first | assumption | omega) (by assumption) ?_
      try simp only [mW_45, mW_47, mW_48, mW_46, mW_49, mW_50, mW_54, mW_up45, mW_up47, mW_up54, up1_at, ↓reduceIte, Nat.reduceEqDiff, reduceCtorEq]
      refine r_aload_n 168 dX4_text_167 rfl rfl ?_
      refine r_iconst 169 dX4_text_168 rfl rfl ?_
      refine r_putI 172 dX4_text_169 rfl kf_4_131 rfl rfl (Or.inl rfl) (by first | assumption | omega) (by assumption) ?_
      try simp only [mW_45, mW_47, mW_48, mW_46, mW_49, mW_50, mW_54, mW_up45, mW_up47, mW_up54, up1_at, ↓reduceIte, Nat.reduceEqDiff, reduceCtorEq]
      refine r_aload_n 173 dX4_text_172 rfl rfl ?_
      refine r_getR 176 dX4_text_173 rfl kf_4_34 rfl (by first | assumption | omega) (by assumption) (by assumption) ?_
      try simp only [mW_45, mW_47, mW_48, mW_46, mW_49, mW_50, mW_54, mW_up45, mW_up47, mW_up54, up1_at, ↓reduceIte, Nat.reduceEqDiff, reduceCtorEq]
      refine r_iconst 177 dX4_text_176 rfl rfl ?_
      refine r_iconst 178 dX4_text_177 rfl rfl ?_
      first | refine r_bast 179 dX4_text_178 rfl (by first | assumption | omega) (by assumption) (by first | omega | (simp only [Int.toNat_natCast]; omega)) (by first | omega | (simp only [Int.toNat_natCast]; omega)) (by first | omega | (simp only [Int.toNat_natCast]; omega)) (by first | omega | (simp only [Int.toNat_natCast]; omega)) ?_ | refine r_zast 179 dX4_text_178 rfl (by first | assumption | omega) (by assumption) (by first | omega | (simp only [Int.toNat_natCast]; omega)) (by first | omega | (simp only [Int.toNat_natCast]; omega)) (by first | exact Or.inl rfl | exact Or.inr rfl | omega) ?_
      try simp only [Int.toNat_natCast, tq_4, tq_8, tq_22, tq_27, tq_99, tq_a, tl_0, tl_1, tl_20, tl_21, tl_22, tl_32]
      try simp only [mW_45, mW_47, mW_48, mW_46, mW_49, mW_50, mW_54, mW_up45, mW_up47, mW_up54, up1_at, ↓reduceIte, Nat.reduceEqDiff, reduceCtorEq]
      refine r_aload_n 180 dX4_text_179 rfl rfl ?_
      refine r_getR 183 dX4_text_180 rfl kf_4_34 rfl (by first | assumption | omega) (by assumption) (by assumption) ?_
      try simp only [mW_45, mW_47, mW_48, mW_46, mW_49, mW_50, mW_54, mW_up45, mW_up47, mW_up54, up1_at, ↓reduceIte, Nat.reduceEqDiff, reduceCtorEq]
      refine r_iconst 184 dX4_text_183 rfl rfl ?_
      refine r_iconst 185 dX4_text_184 rfl rfl ?_
      first | refine r_bast 186 dX4_text_185 rfl (by first | assumption | omega) (by assumption) (by first | omega | (simp only [Int.toNat_natCast]; omega)) (by first | omega | (simp only [Int.toNat_natCast]; omega)) (by first | omega | (simp only [Int.toNat_natCast]; omega)) (by first | omega | (simp only [Int.toNat_natCast]; omega)) ?_ | refine r_zast 186 dX4_text_185 rfl (by first | assumption | omega) (by assumption) (by first | omega | (simp only [Int.toNat_natCast]; omega)) (by first | omega | (simp only [Int.toNat_natCast]; omega)) (by first | exact Or.inl rfl | exact Or.inr rfl | omega) ?_
      try simp only [Int.toNat_natCast, tq_4, tq_8, tq_22, tq_27, tq_99, tq_a, tl_0, tl_1, tl_20, tl_21, tl_22, tl_32]
      try simp only [mW_45, mW_47, mW_48, mW_46, mW_49, mW_50, mW_54, mW_up45, mW_up47, mW_up54, up1_at, ↓reduceIte, Nat.reduceEqDiff, reduceCtorEq]
      refine r_iload_n 187 dX4_text_186 rfl rfl ?_
      refine r_iret dX4_text_187 rfl ?_
      rotate_left -- leaf: return at pc 187
      exact ⟨rfl, rfl⟩
    · have := f5 (by omega)
      rw [if_pos (by omega)]
      refine r_isub 132 dX4_text_131 rfl (by first | exact w32_id (by omega) (by omega) | rfl) ?_
      refine r_iret dX4_text_132 rfl ?_
      rotate_left -- leaf: return at pc 132
      exact ⟨rfl, rfl⟩
  refine r_aload_n 82 dX4_text_81 rfl rfl ?_
  refine r_getI 85 dX4_text_82 rfl kf_4_57 rfl (by first | assumption | omega) (by assumption) ?_
  try simp only [mW_45, mW_47, mW_48, mW_46, mW_49, mW_50, mW_54, mW_up45, mW_up47, mW_up54, up1_at, ↓reduceIte, Nat.reduceEqDiff, reduceCtorEq]
  refine r_if_ne 105 88 dX4_text_85 (by decide) rfl (fun c_85 => ?_) (fun c_85 => ?_)
  rotate_left -- leaf: pc 105
  refine r_aload_n 89 dX4_text_88 rfl rfl ?_
  refine r_getI 92 dX4_text_89 rfl kf_4_101 rfl (by first | assumption | omega) (by assumption) ?_
  try simp only [mW_45, mW_47, mW_48, mW_46, mW_49, mW_50, mW_54, mW_up45, mW_up47, mW_up54, up1_at, ↓reduceIte, Nat.reduceEqDiff, reduceCtorEq]
  refine r_aload_n 93 dX4_text_92 rfl rfl ?_
  refine r_getI 96 dX4_text_93 rfl kf_4_104 rfl (by first | assumption | omega) (by assumption) ?_
  try simp only [mW_45, mW_47, mW_48, mW_46, mW_49, mW_50, mW_54, mW_up45, mW_up47, mW_up54, up1_at, ↓reduceIte, Nat.reduceEqDiff, reduceCtorEq]
  refine r_icmp_lt 105 99 dX4_text_96 (by decide) rfl (fun c_96 => ?_) (fun c_96 => ?_)
  rotate_left -- leaf: pc 105
  refine r_aload_n 100 dX4_text_99 rfl rfl ?_
  refine r_bipush 102 dX4_text_100 rfl rfl (by decide) ?_
  rotate_left -- leaf: call at pc 102
  · have eF : tF R = R := if_neg (fun z => c_85 z.1)
    refine Rr.eq rfl rfl (congrArg (fun z => mW h z P) eF.symm) ?_
    exact J105
  · have eF : tF R = R := if_neg (fun z => by omega)
    refine Rr.eq rfl rfl (congrArg (fun z => mW h z P) eF.symm) ?_
    exact J105
  · have eF : tF R = flR 6 R := if_pos ⟨c_85, by omega⟩
    refine r_cv1 105 dX4_text_102 rfl kv_4_87 (by first | assumption | omega) (by assumption) rfl rfl (m_fails lm0 6) ?_
    rintro v h' ⟨rfl, rfl⟩
    refine Rr.eq rfl rfl (congrArg (fun z => mW h z P) eF.symm) ?_
    exact J105
end MT
