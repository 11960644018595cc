/-! SunPointerModel: what a step leaves; names; other; rota -/
def wQ (r : Nat → Int) : Prop := (0 ≤ r 8 ∧ r 8 ≤ 160) ∧ (0 ≤ r 12 ∧ r 12 ≤ r 8) ∧ (0 ≤ r 13 ∧ r 13 ≤ r 12) ∧ (0 ≤ r 10 ∧ r 10 ≤ 6) ∧ (0 < r 10 → 0 ≤ r 11 ∧ r 11 ≤ 160) ∧ (-600 ≤ r 15 ∧ r 15 ≤ 1000)
theorem wQ_S {r : Nat → Int} (w : wQ r) : wS r := ⟨w.1, w.2.1⟩
theorem stR_B {r tp : Nat → Int} (h : 0 < r 10) : stR r tp = r := if_pos h
theorem stR_o {r tp : Nat → Int} {b : Nat} (hb : b < 10 ∨ 15 < b) : stR r tp b = r b := by
  have e0 : st0R r tp b = r b := by unfold st0R; rw [up1_n (by omega), up1_n (by omega), up1_n (by omega)]
  unfold stR
  split
  · rfl
  split
  · rw [up1_n (by omega)]; exact e0
  split
  · rw [up1_n (by omega), up1_n (by omega)]; exact e0
  split
  · split
    · rw [up1_n (by omega), up1_n (by omega), up1_n (by omega), up1_n (by omega), up1_n (by omega)]; exact e0
    · rw [up1_n (by omega), up1_n (by omega), up1_n (by omega)]; exact e0
  split
  · rw [up1_n (by omega), up1_n (by omega)]; exact e0
  · rw [up1_n (by omega), up1_n (by omega), up1_n (by omega), up1_n (by omega)]; exact e0
/-- a step where nothing was met before: what its token is, where it stands -/
theorem stR_c {r tp : Nat → Int} (wb : wB tp) (w : wS r) (h : r 10 = 0) :
    stR r tp 13 = (stQ r tp : Int) ∧ (-600 ≤ stR r tp 15 ∧ stR r tp 15 ≤ 1000) ∧
    ((stR r tp 14 = 0 ∧ stR r tp 12 = (stQ r tp : Int) ∧ stR r tp 10 = 0) ∨ (stR r tp 14 ≠ 0 ∧ (stQ r tp : Int) < stR r tp 12 ∧ stR r tp 12 ≤ r 8 ∧ (stR r tp 10 = 0 ∨ (stR r tp 10 = 1 ∧ stR r tp 11 = (stQ r tp : Int))))) := by
  have hQ := stQ_in (tp := tp) w
  have hvl := fun n => vlF_in wb (stQ r tp) n
  have h0 : ∀ f, f (tp (stQ r tp)) = true → ¬ (r 8).toNat ≤ stQ r tp → stQ r tp < stE f r tp ∧ (stE f r tp : Int) ≤ r 8 := by
    intro f hf hn
    unfold stE
    obtain ⟨n, hn'⟩ : ∃ n, (r 8).toNat - stQ r tp = n + 1 := ⟨(r 8).toNat - stQ r tp - 1, by omega⟩
    rw [hn']
    unfold bhd
    rw [if_pos hf]
    have := bhd_in f tp n (stQ r tp + 1)
    omega
  unfold stR
  rw [if_neg (by omega)]
  by_cases c1 : (r 8).toNat ≤ stQ r tp
  · rw [if_pos c1]
    exact ⟨rfl, ⟨(by decide : (-600 : Int) ≤ 0), (by decide : (0 : Int) ≤ 1000)⟩, Or.inl ⟨rfl, rfl, h⟩⟩
  rw [if_neg c1]
  by_cases c2 : leB (tp (stQ r tp)) = true
  · rw [if_pos c2]
    have := h0 leB c2 c1
    exact ⟨rfl, ⟨(by decide : (-600 : Int) ≤ 0), (by decide : (0 : Int) ≤ 1000)⟩, Or.inr ⟨(by decide : (1 : Int) ≠ 0), (show (stQ r tp : Int) < (stE leB r tp : Int) by omega), this.2, Or.inl h⟩⟩
  rw [if_neg c2]
  by_cases c3 : fiB (tp (stQ r tp)) = true
  · rw [if_pos c3]
    have h1 := h0 fiB c3 c1
    have h2 := hvl (stE fiB r tp - stQ r tp)
    split
    · exact ⟨rfl, ⟨h2.1, h2.2.1⟩, Or.inr ⟨(by decide : (2 : Int) ≠ 0), (show (stQ r tp : Int) < (stE fiB r tp : Int) by omega), h1.2, Or.inr ⟨rfl, rfl⟩⟩⟩
    · exact ⟨rfl, ⟨h2.1, h2.2.1⟩, Or.inr ⟨(by decide : (2 : Int) ≠ 0), (show (stQ r tp : Int) < (stE fiB r tp : Int) by omega), h1.2, Or.inl h⟩⟩
  rw [if_neg c3]
  split
  · exact ⟨rfl, ⟨(by decide : (-600 : Int) ≤ 0), (by decide : (0 : Int) ≤ 1000)⟩, Or.inr ⟨(by decide : (3 : Int) ≠ 0), (show (stQ r tp : Int) < (stQ r tp : Int) + 1 by omega), (show (stQ r tp : Int) + 1 ≤ r 8 by omega), Or.inl h⟩⟩
  · exact ⟨rfl, ⟨(by decide : (-600 : Int) ≤ 0), (by decide : (0 : Int) ≤ 1000)⟩, Or.inr ⟨(by decide : (3 : Int) ≠ 0), (show (stQ r tp : Int) < (stQ r tp : Int) + 1 by omega), (show (stQ r tp : Int) + 1 ≤ r 8 by omega), Or.inr ⟨rfl, rfl⟩⟩⟩
theorem st_Q0 {r tp : Nat → Int} (wb : wB tp) (w : wS r) (h : r 10 = 0) : wQ (stR r tp) := by
  have hQ := stQ_in (tp := tp) w
  obtain ⟨q1, q2, q3⟩ := stR_c wb w h
  have e8 : stR r tp 8 = r 8 := stR_o (by omega)
  obtain ⟨w1, w2⟩ := w
  unfold wQ
  rw [e8, q1]
  rcases q3 with ⟨a1, a2, a3⟩ | ⟨a1, a2, a3, a4 | ⟨a4, a5⟩⟩
  · rw [a2, a3]
    exact ⟨w1, ⟨by omega, by omega⟩, ⟨by omega, by omega⟩, ⟨by omega, by omega⟩, fun z => absurd z (by omega), q2⟩
  · rw [a4]
    exact ⟨w1, ⟨by omega, by omega⟩, ⟨by omega, by omega⟩, ⟨by omega, by omega⟩, fun z => absurd z (by omega), q2⟩
  · rw [a4, a5]
    exact ⟨w1, ⟨by omega, by omega⟩, ⟨by omega, by omega⟩, ⟨by omega, by omega⟩, fun z => ⟨by omega, by omega⟩, q2⟩
theorem st_Q {r tp : Nat → Int} (wb : wB tp) (w : wQ r) : wQ (stR r tp) := by
  by_cases h : r 10 = 0
  · exact st_Q0 wb (wQ_S w) h
  · rw [stR_B (by have := w.2.2.2.1; omega)]
    exact w
theorem st_le {r tp : Nat → Int} (wb : wB tp) (w : wQ r) : r 12 ≤ stR r tp 12 := by
  by_cases h : r 10 = 0
  · have hQ := stQ_in (tp := tp) (wQ_S w)
    obtain ⟨q1, q2, q3⟩ := stR_c wb (wQ_S w) h
    have := w.2.1
    rcases q3 with ⟨a1, a2, a3⟩ | ⟨a1, a2, a3, a4⟩ <;> omega
  · rw [stR_B (by have := w.2.2.2.1; omega)]
    exact Int.le_refl _
theorem st_lt {r tp : Nat → Int} (wb : wB tp) (w : wQ r) (h : r 10 = 0) (ht : stR r tp 14 ≠ 0) : r 12 < stR r tp 12 := by
  have hQ := stQ_in (tp := tp) (wQ_S w)
  obtain ⟨q1, q2, q3⟩ := stR_c wb (wQ_S w) h
  have := w.2.1
  rcases q3 with ⟨a1, a2, a3⟩ | ⟨a1, a2, a3, a4⟩
  · exact absurd a1 ht
  · omega
theorem flR_10 {c : Int} {r : Nat → Int} (h : r 10 = 0) : flR c r 10 = c := by unfold flR; rw [if_pos h]; rfl
theorem flR_o {c : Int} {r : Nat → Int} {b : Nat} (hb : b ≠ 10 ∧ b ≠ 11) : flR c r b = r b := by
  unfold flR
  split
  · rw [up1_n hb.2, up1_n hb.1]
  · rfl
theorem fl_Q {c : Int} {r : Nat → Int} (hc : 1 ≤ c ∧ c ≤ 6) (w : wQ r) : wQ (flR c r) := by
  unfold flR
  split
  · obtain ⟨w1, w2, w3, w4, w5, w6⟩ := w
    exact ⟨w1, w2, w3, ⟨(show 0 ≤ c by omega), hc.2⟩, fun _ => (show 0 ≤ r 13 ∧ r 13 ≤ 160 by omega), w6⟩
  · exact w
def otR (lo hi so : Int) (r : Nat → Int) : Nat → Int := if ¬ r 10 = 0 then r else if ¬ r 14 = 2 then flR 2 r else if ¬ (lo ≤ r 15 ∧ r 15 ≤ hi) then flR 3 r else if ¬ so = 0 ∧ bitI so (r 15).toNat = 1 then flR 4 r else r
def otV (lo hi so : Int) (r : Nat → Int) : Int := if otR lo hi so r 10 = 0 then otR lo hi so r 15 else lo
theorem ot_Q {lo hi so : Int} {r : Nat → Int} (w : wQ r) : wQ (otR lo hi so r) := by
  unfold otR
  split
  · exact w
  split
  · exact fl_Q (by omega) w
  split
  · exact fl_Q (by omega) w
  split
  · exact fl_Q (by omega) w
  · exact w
theorem ot_o {lo hi so : Int} {r : Nat → Int} {b : Nat} (hb : b ≠ 10 ∧ b ≠ 11) : otR lo hi so r b = r b := by
  unfold otR
  split
  · rfl
  split
  · exact flR_o hb
  split
  · exact flR_o hb
  split
  · exact flR_o hb
  · rfl
/-- where nothing is met: it was a NUMBER within its bounds -/
theorem ot_0 {lo hi so : Int} {r : Nat → Int} (h : otR lo hi so r 10 = 0) : r 10 = 0 ∧ r 14 = 2 ∧ (lo ≤ r 15 ∧ r 15 ≤ hi) ∧ ¬ (¬ so = 0 ∧ bitI so (r 15).toNat = 1) ∧ otR lo hi so r = r := by
  unfold otR at h ⊢
  by_cases c1 : r 10 = 0
  · rw [if_neg (fun z => z c1)] at h ⊢
    by_cases c2 : r 14 = 2
    · rw [if_neg (fun z => z c2)] at h ⊢
      by_cases c3 : lo ≤ r 15 ∧ r 15 ≤ hi
      · rw [if_neg (fun z => z c3)] at h ⊢
        by_cases c4 : ¬ so = 0 ∧ bitI so (r 15).toNat = 1
        · rw [if_pos c4, flR_10 c1] at h
          omega
        · rw [if_neg c4]
          exact ⟨c1, c2, c3, c4, rfl⟩
      · rw [if_pos c3, flR_10 c1] at h
        omega
    · rw [if_pos c2, flR_10 c1] at h
      omega
  · rw [if_pos c1] at h
    exact absurd h c1
theorem otV_in {lo hi so : Int} {r : Nat → Int} (hl : lo ≤ hi) : lo ≤ otV lo hi so r ∧ otV lo hi so r ≤ hi := by
  unfold otV
  split
  · rename_i h
    have := ot_0 h
    rw [this.2.2.2.2]
    exact this.2.2.1
  · omega
section MT
variable {l : Launch} {G : zG} {h : zH} {r p : Nat → Int}
theorem m_other (lm : LM G) (wb : wB (h 48)) (w : wQ r) (lo hi so : Int) (hso : 0 ≤ so ∧ so < 4096) (hlo : 0 ≤ lo ∧ hi ≤ 50) (h31 : so = 0 ∨ hi < 32) : Ca l G 2 mX4_other [vR 45, vI lo, vI hi, vI so] (mW h r p) (fun v h' => v = some (vI (otV lo hi so r)) ∧ h' = mW h (stR (otR lo hi so r) (h 48)) p) := by
  have lm0 := lm
  obtain ⟨hN, ⟨ms45, ms46, ms47, ms48, ms49, ms50, ms51, ms52, ms53, ms54, ms55, ms56, ms57⟩, ⟨ml46, ml47, ml48, ml49, ml50, ml51, ml52, ml53, ml54, ml55, ml56, ml57⟩, ⟨mr0, mr2, mr7, mr16, mr17, mr18, mr20, mr22, mr24, mr25, mr26, mr27⟩⟩ := lm
  refine Ca.of (by decide) (Nat.le_of_ble_eq_true rfl) (fun hI hv hH => ?_)
  have hQo := ot_Q (lo := lo) (hi := hi) (so := so) w
  have J75 : ∀ x4 : Option zV, Rr l G 2 mX4_other (fun v h' => v = some (vI (otV lo hi so r)) ∧ h' = mW h (stR (otR lo hi so r) (h 48)) p) 75 [some (vR 45), some (vI lo), some (vI hi), some (vI so), x4] [] (mW h (otR lo hi so r) p) := by
    intro x4
    unfold otV
    refine r_aload_n 76 dX4_other_75 rfl rfl ?_
    refine r_getI 79 dX4_other_76 rfl kf_4_57 rfl (by first | assumption | omega) (by assumption) ?_
    try simp only [mW_45, mW_47, mW_48, mW_46, mW_49, mW_50, mW_54, mW_up45, mW_up47, mW_up54, up1_at, ↓reduceIte, Nat.reduceEqDiff, reduceCtorEq]
    refine r_if_ne 89 82 dX4_other_79 (by decide) rfl (fun c_79 => ?_) (fun c_79 => ?_)
    refine r_iload_n 90 dX4_other_89 rfl rfl ?_
    refine r_istore 92 dX4_other_90 rfl rfl rfl ?_
    refine r_aload_n 93 dX4_other_92 rfl rfl ?_
    rotate_left -- leaf: call at pc 93
    refine r_aload_n 83 dX4_other_82 rfl rfl ?_
    refine r_getI 86 dX4_other_83 rfl kf_4_76 rfl (by first | assumption | omega) (by assumption) ?_
    try simp only [mW_45, mW_47, mW_48, mW_46, mW_49, mW_50, mW_54, mW_up45, mW_up47, mW_up54, up1_at, ↓reduceIte, Nat.reduceEqDiff, reduceCtorEq]
    refine r_goto 90 dX4_other_86 (by decide) ?_
    refine r_istore 92 dX4_other_90 rfl rfl rfl ?_
    refine r_aload_n 93 dX4_other_92 rfl rfl ?_
    rotate_left -- leaf: call at pc 93
    · rw [if_neg c_79]
      refine r_cv0 96 dX4_other_93 rfl kv_4_91 (by first | assumption | omega) (by assumption) rfl rfl (m_step lm0 wb (wQ_S hQo) hQo.2.2.2.1.1) ?_
      rintro v h' ⟨rfl, rfl⟩
      refine r_iload 98 dX4_other_96 rfl rfl ?_
      refine r_iret dX4_other_98 rfl ?_
      rotate_left -- leaf: return at pc 98
      exact ⟨rfl, rfl⟩
    · rw [if_pos c_79]
      refine r_cv0 96 dX4_other_93 rfl kv_4_91 (by first | assumption | omega) (by assumption) rfl rfl (m_step lm0 wb (wQ_S hQo) hQo.2.2.2.1.1) ?_
      rintro v h' ⟨rfl, rfl⟩
      refine r_iload 98 dX4_other_96 rfl rfl ?_
      refine r_iret dX4_other_98 rfl ?_
      rotate_left -- leaf: return at pc 98
      exact ⟨rfl, rfl⟩
  have J47 : ∀ x4 : Option zV, ¬ otR lo hi so r 10 = 0 → Rr l G 2 mX4_other (fun v h' => v = some (vI (otV lo hi so r)) ∧ h' = mW h (stR (otR lo hi so r) (h 48)) p) 47 [some (vR 45), some (vI lo), some (vI hi), some (vI so), x4] [] (mW h (otR lo hi so r) p) := by
    intro x4 hn
    refine r_aload_n 48 dX4_other_47 rfl rfl ?_
    refine r_getI 51 dX4_other_48 rfl kf_4_57 rfl (by first | assumption | omega) (by assumption) ?_
    try simp only [mW_45, mW_47, mW_48, mW_46, mW_49, mW_50, mW_54, mW_up45, mW_up47, mW_up54, up1_at, ↓reduceIte, Nat.reduceEqDiff, reduceCtorEq]
    refine r_if_ne 75 54 dX4_other_51 (by decide) rfl (fun c_51 => ?_) (fun c_51 => ?_)
    rotate_left -- leaf: pc 75
    rotate_left -- leaf: pc 54
    · exact J75 x4
    · exact absurd c_51 hn
  have J20 : ∀ x4 : Option zV, ¬ otR lo hi so r 10 = 0 → Rr l G 2 mX4_other (fun v h' => v = some (vI (otV lo hi so r)) ∧ h' = mW h (stR (otR lo hi so r) (h 48)) p) 20 [some (vR 45), some (vI lo), some (vI hi), some (vI so), x4] [] (mW h (otR lo hi so r) p) := by
    intro x4 hn
    refine r_aload_n 21 dX4_other_20 rfl rfl ?_
    refine r_getI 24 dX4_other_21 rfl kf_4_57 rfl (by first | assumption | omega) (by assumption) ?_
    try simp only [mW_45, mW_47, mW_48, mW_46, mW_49, mW_50, mW_54, mW_up45, mW_up47, mW_up54, up1_at, ↓reduceIte, Nat.reduceEqDiff, reduceCtorEq]
    refine r_if_ne 47 27 dX4_other_24 (by decide) rfl (fun c_24 => ?_) (fun c_24 => ?_)
    rotate_left -- leaf: pc 47
    rotate_left -- leaf: pc 27
    · exact J47 x4 hn
    · exact absurd c_24 hn
  by_cases c1 : r 10 = 0
  · by_cases c2 : r 14 = 2
    · by_cases c3 : lo ≤ r 15 ∧ r 15 ≤ hi
      · have J : otR lo hi so r = (if ¬ so = 0 ∧ bitI so (r 15).toNat = 1 then flR 4 r else r) := by
          unfold otR
          rw [if_neg (fun z => z c1), if_neg (fun z => z c2), if_neg (fun z => z c3)]
        refine r_aload_n 1 dX4_other_0 rfl rfl ?_
        refine r_getI 4 dX4_other_1 rfl kf_4_57 rfl (by first | assumption | omega) (by assumption) ?_
        try simp only [mW_45, mW_47, mW_48, mW_46, mW_49, mW_50, mW_54, mW_up45, mW_up47, mW_up54, up1_at, ↓reduceIte, Nat.reduceEqDiff, reduceCtorEq]
        refine r_if_ne 20 7 dX4_other_4 (by decide) rfl (fun c_4 => ?_) (fun c_4 => ?_)
        rotate_left -- leaf: pc 20
        refine r_aload_n 8 dX4_other_7 rfl rfl ?_
        refine r_getI 11 dX4_other_8 rfl kf_4_66 rfl (by first | assumption | omega) (by assumption) ?_
        try simp only [mW_45, mW_47, mW_48, mW_46, mW_49, mW_50, mW_54, mW_up45, mW_up47, mW_up54, up1_at, ↓reduceIte, Nat.reduceEqDiff, reduceCtorEq]
        refine r_iconst 12 dX4_other_11 rfl rfl ?_
        refine r_icmp_eq 20 15 dX4_other_12 (by decide) rfl (fun c_12 => ?_) (fun c_12 => ?_)
        rotate_left -- leaf: pc 20
        rotate_left -- leaf: pc 15
        · exact absurd c1 c_4
        · refine r_aload_n 21 dX4_other_20 rfl rfl ?_
          refine r_getI 24 dX4_other_21 rfl kf_4_57 rfl (by first | assumption | omega) (by assumption) ?_
          try simp only [mW_45, mW_47, mW_48, mW_46, mW_49, mW_50, mW_54, mW_up45, mW_up47, mW_up54, up1_at, ↓reduceIte, Nat.reduceEqDiff, reduceCtorEq]
          refine r_if_ne 47 27 dX4_other_24 (by decide) rfl (fun c_24 => ?_) (fun c_24 => ?_)
          rotate_left -- leaf: pc 47
          refine r_aload_n 28 dX4_other_27 rfl rfl ?_
          refine r_getI 31 dX4_other_28 rfl kf_4_76 rfl (by first | assumption | omega) (by assumption) ?_
          try simp only [mW_45, mW_47, mW_48, mW_46, mW_49, mW_50, mW_54, mW_up45, mW_up47, mW_up54, up1_at, ↓reduceIte, Nat.reduceEqDiff, reduceCtorEq]
          refine r_i2l 32 dX4_other_31 rfl ?_
          refine r_iload_n 33 dX4_other_32 rfl rfl ?_
          refine r_i2l 34 dX4_other_33 rfl ?_
          refine r_iload_n 35 dX4_other_34 rfl rfl ?_
          refine r_i2l 36 dX4_other_35 rfl ?_
          rotate_left -- leaf: call at pc 36
          · exact absurd c1 c_24
          · refine r_cs3 39 dX4_other_36 rfl ks_4_49 rfl rfl (c_in (r 15) lo hi) ?_
            rintro v h' ⟨rfl, rfl⟩
            refine r_if_ne 47 42 dX4_other_39 (by decide) rfl (fun c_39 => ?_) (fun c_39 => ?_)
            rotate_left -- leaf: pc 47
            rotate_left -- leaf: pc 42
            · refine r_aload_n 48 dX4_other_47 rfl rfl ?_
              refine r_getI 51 dX4_other_48 rfl kf_4_57 rfl (by first | assumption | omega) (by assumption) ?_
              try simp only [mW_45, mW_47, mW_48, mW_46, mW_49, mW_50, mW_54, mW_up45, mW_up47, mW_up54, up1_at, ↓reduceIte, Nat.reduceEqDiff, reduceCtorEq]
              refine r_if_ne 75 54 dX4_other_51 (by decide) rfl (fun c_51 => ?_) (fun c_51 => ?_)
              rotate_left -- leaf: pc 75
              refine r_iload_n 55 dX4_other_54 rfl rfl ?_
              refine r_if_eq 75 58 dX4_other_55 (by decide) rfl (fun c_55 => ?_) (fun c_55 => ?_)
              rotate_left -- leaf: pc 75
              refine r_iload_n 59 dX4_other_58 rfl rfl ?_
              refine r_aload_n 60 dX4_other_59 rfl rfl ?_
              refine r_getI 63 dX4_other_60 rfl kf_4_76 rfl (by first | assumption | omega) (by assumption) ?_
              try simp only [mW_45, mW_47, mW_48, mW_46, mW_49, mW_50, mW_54, mW_up45, mW_up47, mW_up54, up1_at, ↓reduceIte, Nat.reduceEqDiff, reduceCtorEq]
              refine r_ishr 64 dX4_other_63 rfl rfl ?_
              rotate_left -- leaf: pc 64
              · exact absurd c1 c_51
              · rw [if_neg (fun z => z.1 c_55)] at J
                refine Rr.eq rfl rfl (congrArg (fun z => mW h z p) J.symm) ?_
                exact J75 none
              · obtain ⟨v, hv'⟩ := Int.eq_ofNat_of_zero_le (show 0 ≤ r 15 by omega)
                rw [hv', Int.toNat_natCast] at J
                rw [hv', z_shr ⟨by omega, by omega⟩ (by omega)]
                refine r_iconst 65 dX4_other_64 rfl rfl ?_
                refine r_iand 66 dX4_other_65 rfl rfl ?_
                rotate_left -- leaf: pc 66
                rw [z_and1 ⟨by have := Int.ediv_nonneg hso.1 (show (0 : Int) ≤ 2 ^ v from Int.le_of_lt (Int.pow_pos (by decide))); omega, by have := Int.ediv_le_self (2 ^ v) hso.1; omega⟩]
                have eb : so / 2 ^ v % 2 = bitI so v := rfl
                rw [eb]
                refine r_iconst 67 dX4_other_66 rfl rfl ?_
                refine r_icmp_ne 75 70 dX4_other_67 (by decide) rfl (fun c_67 => ?_) (fun c_67 => ?_)
                rotate_left -- leaf: pc 75
                refine r_aload_n 71 dX4_other_70 rfl rfl ?_
                refine r_iconst 72 dX4_other_71 rfl rfl ?_
                rotate_left -- leaf: call at pc 72
                · rw [if_neg (fun z => c_67 z.2)] at J
                  refine Rr.eq rfl rfl (congrArg (fun z => mW h z p) J.symm) ?_
                  exact J75 none
                · rw [if_pos ⟨c_55, c_67⟩] at J
                  refine r_cv1 75 dX4_other_72 rfl kv_4_87 (by first | assumption | omega) (by assumption) rfl rfl (m_fails lm0 4) ?_
                  rintro v h' ⟨rfl, rfl⟩
                  rw [← J]
                  exact J75 none
            · exact absurd c3 (z01_n.mp c_39)
        · exact absurd c2 c_12
      · have J : otR lo hi so r = flR 3 r := by
          unfold otR
          rw [if_neg (fun z => z c1), if_neg (fun z => z c2), if_pos c3]
        have hne : ¬ otR lo hi so r 10 = 0 := by rw [J, flR_10 c1]; omega
        refine r_aload_n 1 dX4_other_0 rfl rfl ?_
        refine r_getI 4 dX4_other_1 rfl kf_4_57 rfl (by first | assumption | omega) (by assumption) ?_
        try simp only [mW_45, mW_47, mW_48, mW_46, mW_49, mW_50, mW_54, mW_up45, mW_up47, mW_up54, up1_at, ↓reduceIte, Nat.reduceEqDiff, reduceCtorEq]
        refine r_if_ne 20 7 dX4_other_4 (by decide) rfl (fun c_4 => ?_) (fun c_4 => ?_)
        rotate_left -- leaf: pc 20
        refine r_aload_n 8 dX4_other_7 rfl rfl ?_
        refine r_getI 11 dX4_other_8 rfl kf_4_66 rfl (by first | assumption | omega) (by assumption) ?_
        try simp only [mW_45, mW_47, mW_48, mW_46, mW_49, mW_50, mW_54, mW_up45, mW_up47, mW_up54, up1_at, ↓reduceIte, Nat.reduceEqDiff, reduceCtorEq]
        refine r_iconst 12 dX4_other_11 rfl rfl ?_
        refine r_icmp_eq 20 15 dX4_other_12 (by decide) rfl (fun c_12 => ?_) (fun c_12 => ?_)
        rotate_left -- leaf: pc 20
        rotate_left -- leaf: pc 15
        · exact absurd c1 c_4
        · refine r_aload_n 21 dX4_other_20 rfl rfl ?_
          refine r_getI 24 dX4_other_21 rfl kf_4_57 rfl (by first | assumption | omega) (by assumption) ?_
          try simp only [mW_45, mW_47, mW_48, mW_46, mW_49, mW_50, mW_54, mW_up45, mW_up47, mW_up54, up1_at, ↓reduceIte, Nat.reduceEqDiff, reduceCtorEq]
          refine r_if_ne 47 27 dX4_other_24 (by decide) rfl (fun c_24 => ?_) (fun c_24 => ?_)
          rotate_left -- leaf: pc 47
          refine r_aload_n 28 dX4_other_27 rfl rfl ?_
          refine r_getI 31 dX4_other_28 rfl kf_4_76 rfl (by first | assumption | omega) (by assumption) ?_
          try simp only [mW_45, mW_47, mW_48, mW_46, mW_49, mW_50, mW_54, mW_up45, mW_up47, mW_up54, up1_at, ↓reduceIte, Nat.reduceEqDiff, reduceCtorEq]
          refine r_i2l 32 dX4_other_31 rfl ?_
          refine r_iload_n 33 dX4_other_32 rfl rfl ?_
          refine r_i2l 34 dX4_other_33 rfl ?_
          refine r_iload_n 35 dX4_other_34 rfl rfl ?_
          refine r_i2l 36 dX4_other_35 rfl ?_
          rotate_left -- leaf: call at pc 36
          · exact absurd c1 c_24
          · refine r_cs3 39 dX4_other_36 rfl ks_4_49 rfl rfl (c_in (r 15) lo hi) ?_
            rintro v h' ⟨rfl, rfl⟩
            refine r_if_ne 47 42 dX4_other_39 (by decide) rfl (fun c_39 => ?_) (fun c_39 => ?_)
            rotate_left -- leaf: pc 47
            refine r_aload_n 43 dX4_other_42 rfl rfl ?_
            refine r_iconst 44 dX4_other_43 rfl rfl ?_
            rotate_left -- leaf: call at pc 44
            · exact absurd (z01_y.mp c_39) c3
            · refine r_cv1 47 dX4_other_44 rfl kv_4_87 (by first | assumption | omega) (by assumption) rfl rfl (m_fails lm0 3) ?_
              rintro v h' ⟨rfl, rfl⟩
              rw [← J]
              exact J47 none hne
        · exact absurd c2 c_12
    · have J : otR lo hi so r = flR 2 r := by
        unfold otR
        rw [if_neg (fun z => z c1), if_pos c2]
      have hne : ¬ otR lo hi so r 10 = 0 := by rw [J, flR_10 c1]; omega
      refine r_aload_n 1 dX4_other_0 rfl rfl ?_
      refine r_getI 4 dX4_other_1 rfl kf_4_57 rfl (by first | assumption | omega) (by assumption) ?_
      try simp only [mW_45, mW_47, mW_48, mW_46, mW_49, mW_50, mW_54, mW_up45, mW_up47, mW_up54, up1_at, ↓reduceIte, Nat.reduceEqDiff, reduceCtorEq]
      refine r_if_ne 20 7 dX4_other_4 (by decide) rfl (fun c_4 => ?_) (fun c_4 => ?_)
      rotate_left -- leaf: pc 20
      refine r_aload_n 8 dX4_other_7 rfl rfl ?_
      refine r_getI 11 dX4_other_8 rfl kf_4_66 rfl (by first | assumption | omega) (by assumption) ?_
      try simp only [mW_45, mW_47, mW_48, mW_46, mW_49, mW_50, mW_54, mW_up45, mW_up47, mW_up54, up1_at, ↓reduceIte, Nat.reduceEqDiff, reduceCtorEq]
      refine r_iconst 12 dX4_other_11 rfl rfl ?_
      refine r_icmp_eq 20 15 dX4_other_12 (by decide) rfl (fun c_12 => ?_) (fun c_12 => ?_)
      rotate_left -- leaf: pc 20
      refine r_aload_n 16 dX4_other_15 rfl rfl ?_
      refine r_iconst 17 dX4_other_16 rfl rfl ?_
      rotate_left -- leaf: call at pc 17
      · exact absurd c1 c_4
      · exact absurd c_12 c2
      · refine r_cv1 20 dX4_other_17 rfl kv_4_87 (by first | assumption | omega) (by assumption) rfl rfl (m_fails lm0 2) ?_
        rintro v h' ⟨rfl, rfl⟩
        rw [← J]
        exact J20 none hne
  · have J : otR lo hi so r = r := by
      unfold otR
      rw [if_pos c1]
    have hne : ¬ otR lo hi so r 10 = 0 := by rw [J]; exact c1
    refine r_aload_n 1 dX4_other_0 rfl rfl ?_
    refine r_getI 4 dX4_other_1 rfl kf_4_57 rfl (by first | assumption | omega) (by assumption) ?_
    try simp only [mW_45, mW_47, mW_48, mW_46, mW_49, mW_50, mW_54, mW_up45, mW_up47, mW_up54, up1_at, ↓reduceIte, Nat.reduceEqDiff, reduceCtorEq]
    refine r_if_ne 20 7 dX4_other_4 (by decide) rfl (fun c_4 => ?_) (fun c_4 => ?_)
    rotate_left -- leaf: pc 20
    rotate_left -- leaf: pc 7
    · refine Rr.eq rfl rfl (congrArg (fun z => mW h z p) J.symm) ?_
      exact J20 none hne
    · exact absurd c_4 c1
/-- rota: the NUMBERS that follow -/
def rrM (tp : Nat → Int) : Nat → (Nat → Int) → (Nat → Int) → (Nat → Int) × (Nat → Int)
  | 0, r, p => (r, p)
  | n + 1, r, p => if r 10 = 0 ∧ r 14 = 2 then (if r 4 = 12 then (flR 5 r, p) else rrM tp n (up1 (up1 (stR (otR 0 4 0 r) tp) 6 (if otV 0 4 0 r < 4 ∧ r 6 < otV 0 4 0 r then otV 0 4 0 r else r 6)) 4 (r 4 + 1)) (up1 p (8 + (r 4).toNat) (if otV 0 4 0 r < 4 then otV 0 4 0 r + 1 else 0))) else (r, p)
theorem wQ_up {r : Nat → Int} {j : Nat} {v : Int} (hj : j < 8 ∨ j = 9 ∨ j = 14 ∨ 15 < j) (w : wQ r) : wQ (up1 r j v) := by
  obtain ⟨w1, w2, w3, w4, w5, w6⟩ := w
  unfold wQ
  rw [up1_n (by omega), up1_n (by omega), up1_n (by omega), up1_n (by omega), up1_n (by omega), up1_n (by omega)]
  exact ⟨w1, w2, w3, w4, w5, w6⟩
theorem rr_Q {tp : Nat → Int} (wb : wB tp) : ∀ (n : Nat) (r p : Nat → Int), wQ r → wPg p → 0 ≤ r 4 ∧ r 4 ≤ 12 → (-1 ≤ r 6 ∧ r 6 ≤ 3) → wQ (rrM tp n r p).1 ∧ wPg (rrM tp n r p).2 ∧ r 12 ≤ (rrM tp n r p).1 12 ∧ (-1 ≤ (rrM tp n r p).1 6 ∧ (rrM tp n r p).1 6 ≤ 3) ∧ (0 ≤ (rrM tp n r p).1 4 ∧ (rrM tp n r p).1 4 ≤ 12) ∧ (∀ b, b < 4 ∨ b = 5 ∨ b = 7 ∨ b = 8 ∨ b = 9 ∨ 15 < b → (rrM tp n r p).1 b = r b)
  | 0, r, p, w, wp, h4, h6 => ⟨w, wp, Int.le_refl _, h6, h4, fun _ _ => rfl⟩
  | n + 1, r, p, w, wp, h4, h6 => by
    unfold rrM
    split
    · split
      · exact ⟨fl_Q (by omega) w, wp, (show r 12 ≤ flR 5 r 12 by rw [flR_o (by omega)]; exact Int.le_refl _), (show -1 ≤ flR 5 r 6 ∧ flR 5 r 6 ≤ 3 by rw [flR_o (by omega)]; exact h6), (show 0 ≤ flR 5 r 4 ∧ flR 5 r 4 ≤ 12 by rw [flR_o (by omega)]; exact h4), fun b hb => flR_o (by omega)⟩
      · have hv := otV_in (lo := 0) (hi := 4) (so := 0) (r := r) (by omega)
        have wq := wQ_up (j := 4) (v := r 4 + 1) (by omega) (wQ_up (j := 6) (v := if otV 0 4 0 r < 4 ∧ r 6 < otV 0 4 0 r then otV 0 4 0 r else r 6) (by omega) (st_Q (tp := tp) wb (ot_Q (lo := 0) (hi := 4) (so := 0) w)))
        have hle := st_le (tp := tp) wb (ot_Q (lo := 0) (hi := 4) (so := 0) w)
        rw [ot_o (by omega)] at hle
        obtain ⟨q1, q2, q3, q4, q4b, q5⟩ := rr_Q wb n _ (up1 p (8 + (r 4).toNat) (if otV 0 4 0 r < 4 then otV 0 4 0 r + 1 else 0)) wq (wPg_up8 (by omega) wp (by split <;> omega)) (show 0 ≤ r 4 + 1 ∧ r 4 + 1 ≤ 12 by omega) (show -1 ≤ (if otV 0 4 0 r < 4 ∧ r 6 < otV 0 4 0 r then otV 0 4 0 r else r 6) ∧ (if otV 0 4 0 r < 4 ∧ r 6 < otV 0 4 0 r then otV 0 4 0 r else r 6) ≤ 3 by split <;> omega)
        refine ⟨q1, q2, Int.le_trans hle q3, q4, q4b, fun b hb => ?_⟩
        rw [q5 b hb, up1_n (by omega), up1_n (by omega), stR_o (by omega), ot_o (by omega)]
    · exact ⟨w, wp, Int.le_refl _, h6, h4, fun _ _ => rfl⟩
theorem l_mrota (lm : LM G) (wb : wB (h 48)) {Φ : Option zV → zH → Prop} : ∀ (n : Nat) (r p : Nat → Int) (x1 : Option zV), wQ r → 0 ≤ r 4 ∧ r 4 ≤ 12 → (-1 ≤ r 6 ∧ r 6 ≤ 3) → 13 ≤ r 4 + n → Φ none (mW h (rrM (h 48) n r p).1 (rrM (h 48) n r p).2) → Rr l G 3 mX4_readRota Φ 0 [some (vR 45), x1] [] (mW h r p) := by
  have lm0 := lm
  obtain ⟨hN, ⟨ms45, ms46, ms47, ms48, ms49, ms50, ms51, ms52, ms53, ms54, ms55, ms56, ms57⟩, ⟨ml46, ml47, ml48, ml49, ml50, ml51, ml52, ml53, ml54, ml55, ml56, ml57⟩, ⟨mr0, mr2, mr7, mr16, mr17, mr18, mr20, mr22, mr24, mr25, mr26, mr27⟩⟩ := lm
  intro n
  induction n with
  | zero => intro r p x1 w h4 h6 hn; omega
  | succ n ih =>
    intro r p x1 w h4 h6 hn hΦ
    rw [rrM] at hΦ
    refine r_aload_n 1 dX4_readRota_0 rfl rfl ?_
    refine r_getI 4 dX4_readRota_1 rfl kf_4_57 rfl (by first | assumption | omega) (by assumption) ?_
    try simp only [mW_45, mW_47, mW_48, mW_46, mW_49, mW_50, mW_54, mW_up45, mW_up47, mW_up54, up1_at, ↓reduceIte, Nat.reduceEqDiff, reduceCtorEq]
    refine r_if_ne 102 7 dX4_readRota_4 (by decide) rfl (fun c_4 => ?_) (fun c_4 => ?_)
    refine r_ret dX4_readRota_102 rfl ?_
    rotate_left -- leaf: return at pc 102
    refine r_aload_n 8 dX4_readRota_7 rfl rfl ?_
    refine r_getI 11 dX4_readRota_8 rfl kf_4_66 rfl (by first | assumption | omega) (by assumption) ?_
    try simp only [mW_45, mW_47, mW_48, mW_46, mW_49, mW_50, mW_54, mW_up45, mW_up47, mW_up54, up1_at, ↓reduceIte, Nat.reduceEqDiff, reduceCtorEq]
    refine r_iconst 12 dX4_readRota_11 rfl rfl ?_
    refine r_icmp_ne 102 15 dX4_readRota_12 (by decide) rfl (fun c_12 => ?_) (fun c_12 => ?_)
    refine r_ret dX4_readRota_102 rfl ?_
    rotate_left -- leaf: return at pc 102
    rotate_left -- leaf: pc 15
    · rw [if_neg (fun z => c_4 z.1)] at hΦ
      exact hΦ
    · rw [if_neg (fun z => c_12 z.2)] at hΦ
      exact hΦ
    · rw [if_pos ⟨c_4, c_12⟩] at hΦ
      refine r_aload_n 16 dX4_readRota_15 rfl rfl ?_
      refine r_getI 19 dX4_readRota_16 rfl kf_4_94 rfl (by first | assumption | omega) (by assumption) ?_
      try simp only [mW_45, mW_47, mW_48, mW_46, mW_49, mW_50, mW_54, mW_up45, mW_up47, mW_up54, up1_at, ↓reduceIte, Nat.reduceEqDiff, reduceCtorEq]
      refine r_bipush 21 dX4_readRota_19 rfl rfl (by decide) ?_
      refine r_icmp_ne 32 24 dX4_readRota_21 (by decide) rfl (fun c_21 => ?_) (fun c_21 => ?_)
      refine r_aload_n 33 dX4_readRota_32 rfl rfl ?_
      refine r_iconst 34 dX4_readRota_33 rfl rfl ?_
      refine r_iconst 35 dX4_readRota_34 rfl rfl ?_
      refine r_iconst 36 dX4_readRota_35 rfl rfl ?_
      rotate_left -- leaf: call at pc 36
      refine r_aload_n 25 dX4_readRota_24 rfl rfl ?_
      refine r_iconst 26 dX4_readRota_25 rfl rfl ?_
      rotate_left -- leaf: call at pc 26
      · rw [if_neg c_21] at hΦ
        have hv := otV_in (lo := 0) (hi := 4) (so := 0) (r := r) (by omega)
        have wq := st_Q (tp := h 48) wb (ot_Q (lo := 0) (hi := 4) (so := 0) w)
        have e4 : stR (otR 0 4 0 r) (h 48) 4 = r 4 := by rw [stR_o (by omega), ot_o (by omega)]
        have e6 : stR (otR 0 4 0 r) (h 48) 6 = r 6 := by rw [stR_o (by omega), ot_o (by omega)]
        refine r_cv3 39 dX4_readRota_36 rfl kv_4_97 (by first | assumption | omega) (by assumption) rfl rfl (m_other lm0 wb w 0 4 0 (by omega) (by omega) (Or.inl rfl)) ?_
        rintro v h' ⟨rfl, rfl⟩
        generalize otV 0 4 0 r = V at hv hΦ ⊢
        generalize stR (otR 0 4 0 r) (h 48) = R at wq e4 e6 hΦ ⊢
        have J62 : ∀ v : Int, v = (if V < 4 ∧ r 6 < V then V else r 6) → Rr l G 3 mX4_readRota Φ 62 [some (vR 45), some (vI V)] [vI v, vR 45] (mW h R p) := by
          intro v hv'
          subst hv'
          have ih := ih (up1 (up1 R 6 (if V < 4 ∧ r 6 < V then V else r 6)) 4 (r 4 + 1)) (up1 p (8 + (r 4).toNat) (if V < 4 then V + 1 else 0)) (some (vI V)) (wQ_up (by omega) (wQ_up (by omega) wq)) (show 0 ≤ r 4 + 1 ∧ r 4 + 1 ≤ 12 by omega) (show -1 ≤ (if V < 4 ∧ r 6 < V then V else r 6) ∧ (if V < 4 ∧ r 6 < V then V else r 6) ≤ 3 by split <;> omega) (show 13 ≤ r 4 + 1 + n by omega) hΦ
          have J88 : ∀ v : Int, v = (if V < 4 then V + 1 else 0) → Rr l G 3 mX4_readRota Φ 88 [some (vR 45), some (vI V)] [vI v, vI (8 + r 4), vR 47] (mW h (up1 R 6 (if V < 4 ∧ r 6 < V then V else r 6)) p) := by
            intro v hv2
            subst hv2
            refine r_iast 89 dX4_readRota_88 rfl (by first | assumption | omega) (by assumption) (by first | omega | (simp only [Int.toNat_natCast]; omega)) (by first | omega | (simp only [Int.toNat_natCast]; omega)) ?_
            try simp only [Int.toNat_natCast, tq_4, tq_8, tq_22, tq_27, tq_99, tq_a, tl_0, tl_1, tl_20, tl_21, tl_22, tl_32]
            try simp only [mW_45, mW_47, mW_48, mW_46, mW_49, mW_50, mW_54, mW_up45, mW_up47, mW_up54, up1_at, ↓reduceIte, Nat.reduceEqDiff, reduceCtorEq]
            refine r_aload_n 90 dX4_readRota_89 rfl rfl ?_
            refine r_dup 91 dX4_readRota_90 rfl rfl ?_
            refine r_getI 94 dX4_readRota_91 rfl kf_4_94 rfl (by first | assumption | omega) (by assumption) ?_
            try simp only [mW_45, mW_47, mW_48, mW_46, mW_49, mW_50, mW_54, mW_up45, mW_up47, mW_up54, up1_at, ↓reduceIte, Nat.reduceEqDiff, reduceCtorEq]
            rotate_left -- leaf: pc 94
            rw [e4]
            refine r_iconst 95 dX4_readRota_94 rfl rfl ?_
            refine r_iadd 96 dX4_readRota_95 rfl (by first | exact w32_id (by omega) (by omega) | rfl) ?_
            refine r_putI 99 dX4_readRota_96 rfl kf_4_94 rfl rfl (Or.inl rfl) (by first | assumption | omega) (by assumption) ?_
            try simp only [mW_45, mW_47, mW_48, mW_46, mW_49, mW_50, mW_54, mW_up45, mW_up47, mW_up54, up1_at, ↓reduceIte, Nat.reduceEqDiff, reduceCtorEq]
            refine r_goto 0 dX4_readRota_99 (by decide) ?_
            rotate_left -- leaf: pc 0
            rw [show (8 + r 4).toNat = 8 + (r 4).toNat by omega]
            exact ih
          refine r_putI 65 dX4_readRota_62 rfl kf_4_101 rfl rfl (Or.inl rfl) (by first | assumption | omega) (by assumption) ?_
          try simp only [mW_45, mW_47, mW_48, mW_46, mW_49, mW_50, mW_54, mW_up45, mW_up47, mW_up54, up1_at, ↓reduceIte, Nat.reduceEqDiff, reduceCtorEq]
          refine r_aload_n 66 dX4_readRota_65 rfl rfl ?_
          refine r_getR 69 dX4_readRota_66 rfl kf_4_13 rfl (by first | assumption | omega) (by assumption) (by assumption) ?_
          try simp only [mW_45, mW_47, mW_48, mW_46, mW_49, mW_50, mW_54, mW_up45, mW_up47, mW_up54, up1_at, ↓reduceIte, Nat.reduceEqDiff, reduceCtorEq]
          refine r_bipush 71 dX4_readRota_69 rfl rfl (by decide) ?_
          refine r_aload_n 72 dX4_readRota_71 rfl rfl ?_
          refine r_getI 75 dX4_readRota_72 rfl kf_4_94 rfl (by first | assumption | omega) (by assumption) ?_
          try simp only [mW_45, mW_47, mW_48, mW_46, mW_49, mW_50, mW_54, mW_up45, mW_up47, mW_up54, up1_at, ↓reduceIte, Nat.reduceEqDiff, reduceCtorEq]
          rotate_left -- leaf: pc 75
          rw [e4]
          refine r_iadd 76 dX4_readRota_75 rfl (by first | exact w32_id (by omega) (by omega) | rfl) ?_
          refine r_iload_n 77 dX4_readRota_76 rfl rfl ?_
          refine r_iconst 78 dX4_readRota_77 rfl rfl ?_
          refine r_icmp_ge 87 81 dX4_readRota_78 (by decide) rfl (fun c_78 => ?_) (fun c_78 => ?_)
          refine r_iconst 88 dX4_readRota_87 rfl rfl ?_
          rotate_left -- leaf: pc 88
          refine r_iload_n 82 dX4_readRota_81 rfl rfl ?_
          refine r_iconst 83 dX4_readRota_82 rfl rfl ?_
          refine r_iadd 84 dX4_readRota_83 rfl (by first | exact w32_id (by omega) (by omega) | rfl) ?_
          refine r_goto 88 dX4_readRota_84 (by decide) ?_
          rotate_left -- leaf: pc 88
          · exact J88 _ (by rw [if_neg (by omega)])
          · exact J88 _ (by rw [if_pos (by omega)])
        refine r_istore_n 40 dX4_readRota_39 rfl rfl rfl ?_
        refine r_aload_n 41 dX4_readRota_40 rfl rfl ?_
        refine r_iload_n 42 dX4_readRota_41 rfl rfl ?_
        refine r_iconst 43 dX4_readRota_42 rfl rfl ?_
        refine r_icmp_ge 58 46 dX4_readRota_43 (by decide) rfl (fun c_43 => ?_) (fun c_43 => ?_)
        refine r_aload_n 59 dX4_readRota_58 rfl rfl ?_
        refine r_getI 62 dX4_readRota_59 rfl kf_4_101 rfl (by first | assumption | omega) (by assumption) ?_
        try simp only [mW_45, mW_47, mW_48, mW_46, mW_49, mW_50, mW_54, mW_up45, mW_up47, mW_up54, up1_at, ↓reduceIte, Nat.reduceEqDiff, reduceCtorEq]
        rotate_left -- leaf: pc 62
        refine r_iload_n 47 dX4_readRota_46 rfl rfl ?_
        refine r_aload_n 48 dX4_readRota_47 rfl rfl ?_
        refine r_getI 51 dX4_readRota_48 rfl kf_4_101 rfl (by first | assumption | omega) (by assumption) ?_
        try simp only [mW_45, mW_47, mW_48, mW_46, mW_49, mW_50, mW_54, mW_up45, mW_up47, mW_up54, up1_at, ↓reduceIte, Nat.reduceEqDiff, reduceCtorEq]
        rotate_left -- leaf: pc 51
        · rw [e6]
          exact J62 _ (by rw [if_neg (by omega)])
        · rw [e6]
          refine r_icmp_le 58 54 dX4_readRota_51 (by decide) rfl (fun c_51 => ?_) (fun c_51 => ?_)
          refine r_aload_n 59 dX4_readRota_58 rfl rfl ?_
          refine r_getI 62 dX4_readRota_59 rfl kf_4_101 rfl (by first | assumption | omega) (by assumption) ?_
          try simp only [mW_45, mW_47, mW_48, mW_46, mW_49, mW_50, mW_54, mW_up45, mW_up47, mW_up54, up1_at, ↓reduceIte, Nat.reduceEqDiff, reduceCtorEq]
          rotate_left -- leaf: pc 62
          refine r_iload_n 55 dX4_readRota_54 rfl rfl ?_
          refine r_goto 62 dX4_readRota_55 (by decide) ?_
          rotate_left -- leaf: pc 62
          · rw [e6]
            exact J62 _ (by rw [if_neg (by omega)])
          · exact J62 _ (by rw [if_pos (by omega)])
      · rw [if_pos c_21] at hΦ
        refine r_cv1 29 dX4_readRota_26 rfl kv_4_87 (by first | assumption | omega) (by assumption) rfl rfl (m_fails lm0 5) ?_
        rintro v h' ⟨rfl, rfl⟩
        have hne : ¬ flR 5 r 10 = 0 := by rw [flR_10 c_4]; omega
        refine r_goto 0 dX4_readRota_29 (by decide) ?_
        refine r_aload_n 1 dX4_readRota_0 rfl rfl ?_
        refine r_getI 4 dX4_readRota_1 rfl kf_4_57 rfl (by first | assumption | omega) (by assumption) ?_
        try simp only [mW_45, mW_47, mW_48, mW_46, mW_49, mW_50, mW_54, mW_up45, mW_up47, mW_up54, up1_at, ↓reduceIte, Nat.reduceEqDiff, reduceCtorEq]
        refine r_if_ne 102 7 dX4_readRota_4 (by decide) rfl (fun c_4 => ?_) (fun c_4 => ?_)
        refine r_ret dX4_readRota_102 rfl ?_
        rotate_left -- leaf: return at pc 102
        rotate_left -- leaf: pc 7
        · exact hΦ
        · exact absurd c_4 hne
theorem m_readRota (lm : LM G) (wb : wB (h 48)) (w : wQ r) (h4 : 0 ≤ r 4 ∧ r 4 ≤ 12) (h6 : -1 ≤ r 6 ∧ r 6 ≤ 3) : Ca l G 3 mX4_readRota [vR 45] (mW h r p) (fun v h' => v = none ∧ h' = mW h (rrM (h 48) 13 r p).1 (rrM (h 48) 13 r p).2) := by
  refine Ca.of (by decide) (Nat.le_of_ble_eq_true rfl) (fun hI hv hH => ?_)
  exact l_mrota (l := l) lm wb (Φ := fun v h' => v = none ∧ h' = mW h (rrM (h 48) 13 r p).1 (rrM (h 48) 13 r p).2) 13 r p none w h4 h6 (by omega) ⟨rfl, rfl⟩
end MT
