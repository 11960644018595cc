/-! lines of a text, side by side -/
section R0
variable {h : zH} {p : Nat} {pg : Nat → Int}
theorem RC0_man (r : RC0 h p pg) {M : Nat} (hM : h p 6 = (M : Int)) (h4 : M < 4) (k v : Int) : RC0 (up (up (up h (p + 1) M k) (p + 2) M v) p 6 ((M : Int) + 1)) p (up1 (up1 pg M k) (4 + M) v) := by
  obtain ⟨⟨r1, r2, r3⟩, r4, r5, r6⟩ := r
  have e0 : ∀ b, b ≠ 6 → up (up (up h (p + 1) M k) (p + 2) M v) p 6 ((M : Int) + 1) p b = h p b := fun b q => by rw [up_j q, up_k (by omega), up_k (by omega)]
  have e2 : ∀ i b, 2 < i → up (up (up h (p + 1) M k) (p + 2) M v) p 6 ((M : Int) + 1) (p + i) b = h (p + i) b := fun i b q => by rw [up_k (by omega), up_k (by omega), up_k (by omega)]
  have g : ∀ b, b ≠ M → b ≠ 4 + M → up1 (up1 pg M k) (4 + M) v b = pg b := fun b q1 q2 => by rw [up1_n q2, up1_n q1]
  refine ⟨⟨by rw [e0 7 (by omega), g _ (by omega) (by omega)]; exact r1, by rw [e0 8 (by omega), g _ (by omega) (by omega)]; exact r2, by rw [e0 9 (by omega), g _ (by omega) (by omega)]; exact r3⟩, fun i hi => ?_, fun i hi => ?_, fun i hi => ?_⟩
  · rw [up_s] at hi
    by_cases e : i = M
    · subst e
      rw [up_k (by omega), up_k (by omega), up_s, up_k (by omega), up_s, up1_n (by omega), up1_s, up1_s]
      exact ⟨rfl, rfl⟩
    · rw [up_k (by omega), up_k (by omega), up_j e, up_k (by omega), up_j e, up_k (by omega), g i e (by omega), g (4 + i) (by omega) (by omega)]
      exact r4 i (by omega)
  · rw [e2 3 _ (by omega)]; unfold stM; rw [g (8 + i) (by omega) (by omega)]; exact r5 i hi
  · rw [e0 7 (by omega)] at hi; rw [e2 4 _ (by omega), e2 5 _ (by omega), g (22 + i) (by omega) (by omega), g (27 + i) (by omega) (by omega)]; exact r6 i hi
theorem RC0_stand (r : RC0 h p pg) (h6 : h p 6 ≤ 4) {j : Nat} (hj : j < 12) {v : Int} (hv : v = -4 ∨ 0 ≤ v) : RC0 (up h (p + 3) j v) p (up1 pg (8 + j) (if v = -4 then 0 else v + 1)) := by
  obtain ⟨⟨r1, r2, r3⟩, r4, r5, r6⟩ := r
  have e0 : ∀ b, up h (p + 3) j v p b = h p b := fun b => up_k (by omega)
  have e2 : ∀ i b, i ≠ 3 → up h (p + 3) j v (p + i) b = h (p + i) b := fun i b q => up_k (by omega)
  generalize hu : (if v = -4 then (0 : Int) else v + 1) = u
  have g : ∀ b, b ≠ 8 + j → up1 pg (8 + j) u b = pg b := fun b q => up1_n q
  refine ⟨⟨by rw [e0, g _ (by omega)]; exact r1, by rw [e0, g _ (by omega)]; exact r2, by rw [e0, g _ (by omega)]; exact r3⟩, fun i hi => ?_, fun i hi => ?_, fun i hi => ?_⟩
  · rw [e0] at hi
    rw [e2 1 _ (by omega), e2 2 _ (by omega), g i (by omega), g (4 + i) (by omega)]
    exact r4 i hi
  · by_cases e : i = j
    · subst e
      rw [up_s]
      unfold stM
      rw [up1_s, ← hu]
      unfold noF
      rcases hv with rfl | hv
      · decide
      · rw [if_neg (by omega), if_neg (by omega)]; omega
    · rw [up_j e]
      unfold stM
      rw [g (8 + i) (by omega)]
      exact r5 i hi
  · rw [e0] at hi; rw [e2 4 _ (by omega), e2 5 _ (by omega), g (22 + i) (by omega), g (27 + i) (by omega)]; exact r6 i hi
theorem RC0_paint (r : RC0 h p pg) (h6 : h p 6 ≤ 4) (v : Int) : RC0 (up h p 9 v) p (up1 pg 21 (v - 3)) := by
  obtain ⟨⟨r1, r2, r3⟩, r4, r5, r6⟩ := r
  have e0 : ∀ b, b ≠ 9 → up h p 9 v p b = h p b := fun b q => up_j q
  have e2 : ∀ i b, i ≠ 0 → up h p 9 v (p + i) b = h (p + i) b := fun i b q => up_k (by omega)
  have g : ∀ b, b ≠ 21 → up1 pg 21 (v - 3) b = pg b := fun b q => up1_n q
  refine ⟨⟨by rw [e0 7 (by omega), g _ (by omega)]; exact r1, by rw [e0 8 (by omega), g _ (by omega)]; exact r2, by rw [up_s, up1_s]; omega⟩, fun i hi => ?_, fun i hi => ?_, fun i hi => ?_⟩
  · rw [e0 6 (by omega)] at hi
    rw [e2 1 _ (by omega), e2 2 _ (by omega), g i (by omega), g (4 + i) (by omega)]
    exact r4 i hi
  · rw [e2 3 _ (by omega)]; unfold stM; rw [g (8 + i) (by omega)]; exact r5 i hi
  · rw [e0 7 (by omega)] at hi; rw [e2 4 _ (by omega), e2 5 _ (by omega), g (22 + i) (by omega), g (27 + i) (by omega)]; exact r6 i hi
theorem RC0_cloud (r : RC0 h p pg) (h6 : h p 6 ≤ 4) (v : Int) : RC0 (up h p 8 v) p (up1 pg 20 v) := by
  obtain ⟨⟨r1, r2, r3⟩, r4, r5, r6⟩ := r
  have e0 : ∀ b, b ≠ 8 → up h p 8 v p b = h p b := fun b q => up_j q
  have e2 : ∀ i b, i ≠ 0 → up h p 8 v (p + i) b = h (p + i) b := fun i b q => up_k (by omega)
  have g : ∀ b, b ≠ 20 → up1 pg 20 v b = pg b := fun b q => up1_n q
  refine ⟨⟨by rw [e0 7 (by omega), g _ (by omega)]; exact r1, by rw [up_s, up1_s], by rw [e0 9 (by omega), g _ (by omega)]; exact r3⟩, fun i hi => ?_, fun i hi => ?_, fun i hi => ?_⟩
  · rw [e0 6 (by omega)] at hi
    rw [e2 1 _ (by omega), e2 2 _ (by omega), g i (by omega), g (4 + i) (by omega)]
    exact r4 i hi
  · rw [e2 3 _ (by omega)]; unfold stM; rw [g (8 + i) (by omega)]; exact r5 i hi
  · rw [e0 7 (by omega)] at hi; rw [e2 4 _ (by omega), e2 5 _ (by omega), g (22 + i) (by omega), g (27 + i) (by omega)]; exact r6 i hi
theorem RC0_deed (r : RC0 h p pg) (h6 : h p 6 ≤ 4) {D : Nat} (hD : h p 7 = (D : Int)) (h5 : D < 5) (a b : Int) : RC0 (up (up (up h (p + 4) D a) (p + 5) D b) p 7 ((D : Int) + 1)) p (up1 (up1 (up1 pg (22 + D) a) (27 + D) b) 32 ((D : Int) + 1)) := by
  obtain ⟨⟨r1, r2, r3⟩, r4, r5, r6⟩ := r
  have e0 : ∀ c, c ≠ 7 → up (up (up h (p + 4) D a) (p + 5) D b) p 7 ((D : Int) + 1) p c = h p c := fun c q => by rw [up_j q, up_k (by omega), up_k (by omega)]
  have e2 : ∀ i c, 1 ≤ i → i ≤ 3 → up (up (up h (p + 4) D a) (p + 5) D b) p 7 ((D : Int) + 1) (p + i) c = h (p + i) c := fun i c q1 q2 => by rw [up_k (by omega), up_k (by omega), up_k (by omega)]
  have g : ∀ c, c ≠ 22 + D → c ≠ 27 + D → c ≠ 32 → up1 (up1 (up1 pg (22 + D) a) (27 + D) b) 32 ((D : Int) + 1) c = pg c := fun c q1 q2 q3 => by rw [up1_n q3, up1_n q2, up1_n q1]
  refine ⟨⟨by rw [up_s, up1_s], by rw [e0 8 (by omega), g _ (by omega) (by omega) (by omega)]; exact r2, by rw [e0 9 (by omega), g _ (by omega) (by omega) (by omega)]; exact r3⟩, fun i hi => ?_, fun i hi => ?_, fun i hi => ?_⟩
  · rw [e0 6 (by omega)] at hi
    rw [e2 1 _ (by omega) (by omega), e2 2 _ (by omega) (by omega), g i (by omega) (by omega) (by omega), g (4 + i) (by omega) (by omega) (by omega)]
    exact r4 i hi
  · rw [e2 3 _ (by omega) (by omega)]; unfold stM; rw [g (8 + i) (by omega) (by omega) (by omega)]; exact r5 i hi
  · rw [up_s] at hi
    by_cases e : i = D
    · subst e
      rw [up_k (by omega), up_k (by omega), up_s, up_k (by omega), up_s, up1_n (by omega), up1_n (by omega), up1_s, up1_n (by omega), up1_s]
      exact ⟨rfl, rfl⟩
    · rw [up_k (by omega), up_k (by omega), up_j e, up_k (by omega), up_j e, up_k (by omega), g (22 + i) (by omega) (by omega) (by omega), g (27 + i) (by omega) (by omega) (by omega)]
      exact r6 i (by omega)
end R0
theorem stR_up {r tp : Nat → Int} {j : Nat} {v : Int} (hj : j < 8 ∨ j = 9 ∨ 15 < j) : stR (up1 r j v) tp = up1 (stR r tp) j v := by
  have e8 : up1 r j v 8 = r 8 := up1_n (by omega)
  have e10 : up1 r j v 10 = r 10 := up1_n (by omega)
  have e12 : up1 r j v 12 = r 12 := up1_n (by omega)
  have eQ : stQ (up1 r j v) tp = stQ r tp := by unfold stQ; rw [e8, e12]
  have eE : ∀ f, stE f (up1 r j v) tp = stE f r tp := fun f => by unfold stE; rw [eQ, e8]
  have e0 : st0R (up1 r j v) tp = up1 (st0R r tp) j v := by
    unfold st0R
    rw [eQ, up1_cm (j := j) (k := 12) (by omega), up1_cm (j := j) (k := 13) (by omega), up1_cm (j := j) (k := 15) (by omega)]
  unfold stR
  rw [e10, e8, eQ, eE, eE, e0]
  split
  · rfl
  split
  · rw [up1_cm (j := j) (k := 14) (by omega)]
  split
  · rw [up1_cm (j := j) (k := 12) (by omega), up1_cm (j := j) (k := 14) (by omega)]
  split
  · split
    · rw [up1_cm (j := j) (k := 15) (by omega), up1_cm (j := j) (k := 12) (by omega), up1_cm (j := j) (k := 14) (by omega), up1_cm (j := j) (k := 10) (by omega), up1_cm (j := j) (k := 11) (by omega)]
    · rw [up1_cm (j := j) (k := 15) (by omega), up1_cm (j := j) (k := 12) (by omega), up1_cm (j := j) (k := 14) (by omega)]
  split
  · rw [up1_cm (j := j) (k := 14) (by omega), up1_cm (j := j) (k := 12) (by omega)]
  · rw [up1_cm (j := j) (k := 14) (by omega), up1_cm (j := j) (k := 12) (by omega), up1_cm (j := j) (k := 10) (by omega), up1_cm (j := j) (k := 11) (by omega)]
def fin (X : zH) : zH := if X 31 2 = 0 then nxW X else X
theorem fin_n {X : zH} (h : ¬ X 31 2 = 0) : fin X = X := if_neg h
theorem fin_y {X : zH} (h : X 31 2 = 0) : fin X = nxW X := if_pos h
theorem TB_st {c : zH} {r tp : Nat → Int} (q : TB c r) : TB c (stR r tp) := by rw [stR_B q.2.1]; exact q
theorem TB_lE {c : zH} {r : Nat → Int} (q : TB c r) : TB c (lE r) := by
  have : lE r = r := if_neg (fun z => by have := q.2.1; omega)
  rw [this]; exact q
theorem TB_up {c : zH} {r : Nat → Int} {j : Nat} {v : Int} (hj : j ≠ 10 ∧ j ≠ 11) (q : TB c r) : TB c (up1 r j v) := ⟨q.1, by rw [up1_n (by omega)]; exact q.2.1, by rw [up1_n (by omega)]; exact q.2.2⟩
/-- a number is taken -/
theorem L_tn {c : zH} {r p tp : Nat → Int} (lo hi : Int) (wk : wK c) (wb : wB tp) (w : wS r) (q : TG c r p tp) :
    (0 < stR r tp 10 ∧ TB (tnW lo hi c) (stR r tp)) ∨ (TQ (nxW c) (stR r tp) p tp ∧ ((stR r tp 14 = 2 ∧ (lo ≤ stR r tp 15 ∧ stR r tp 15 ≤ hi) ∧ tnW lo hi c = nxW c ∧ tnV lo hi c = stR r tp 15) ∨ (∀ so, TB (tnW lo hi c) (otR lo hi so (stR r tp))))) := by
  rcases L_nx wk wb w q with g | b
  · refine Or.inr ⟨g, ?_⟩
    have g2 := g.1.1.1
    have g10 := g.1.1.2
    have g4 := g.2.1
    have eT : tnW lo hi c = jgW lo hi (nxW c) := if_pos g2
    by_cases c1 : stR r tp 14 = 2
    · have g7 := g.2.2.2.1 c1
      by_cases c2 : lo ≤ stR r tp 15 ∧ stR r tp 15 ≤ hi
      · have e : tnW lo hi c = nxW c := by
          rw [eT]
          unfold jgW
          rw [g4, if_pos c1, g7, if_neg (by omega)]
        refine Or.inl ⟨c1, c2, e, ?_⟩
        unfold tnV
        rw [e, if_pos g2, g7]
      · refine Or.inr (fun so => ?_)
        have e : tnW lo hi c = flW 3 (nxW c) := by
          rw [eT]
          unfold jgW
          rw [g4, if_pos c1, g7, if_pos (by omega)]
        have e2 : otR lo hi so (stR r tp) = flR 3 (stR r tp) := by
          unfold otR
          rw [if_neg (fun z => z g10), if_neg (fun z => z c1), if_pos c2]
        rw [e, e2]
        exact L_fl (by decide) (by decide) g
    · refine Or.inr (fun so => ?_)
      have e : tnW lo hi c = flW 2 (nxW c) := by
        rw [eT]
        unfold jgW
        rw [g4, if_neg c1]
      have e2 : otR lo hi so (stR r tp) = flR 2 (stR r tp) := by
        unfold otR
        rw [if_neg (fun z => z g10), if_pos c1]
      rw [e, e2]
      exact L_fl (by decide) (by decide) g
  · refine Or.inl ⟨b.2.1, ?_⟩
    have eT : tnW lo hi c = nxW c := if_neg b.1
    rw [eT]
    exact b
/-- where a line ends -/
theorem L_tail {c : zH} {r p tp : Nat → Int} (wk : wK c) (wb : wB tp) (w : wS r) (q : TG c r p tp) : TO (fin (tsW c)) (stR (lE (stR r tp)) tp) p tp := by
  have w1 := st_Q0 wb w q.1.2
  rcases L_nx wk wb w q with g | b
  · have g2 := g.1.1.1
    have g10 := g.1.1.2
    have g4 := g.2.1
    by_cases c1 : stR r tp 14 = 3
    · have e1 : tsW c = nxW c := by unfold tsW; rw [if_pos g2, g4, if_pos c1]
      have e2 : lE (stR r tp) = stR r tp := if_neg (fun z => z.2 c1)
      rw [e1, e2, fin_y g2]
      exact L_nx (tk_nx wk).2.1 wb (wQ_S w1) g.1
    · have e1 : tsW c = flW 2 (nxW c) := by unfold tsW; rw [if_pos g2, g4, if_neg c1]
      have e2 : lE (stR r tp) = flR 2 (stR r tp) := if_pos ⟨g10, c1⟩
      have t := L_fl (a := 2) (b := 2) (by decide) (by decide) g
      rw [e1, e2, fin_n t.1]
      exact Or.inr (TB_st t)
  · have e1 : tsW c = nxW c := by unfold tsW; rw [if_neg b.1]
    rw [e1, fin_n b.1]
    exact Or.inr (TB_st (TB_lE b))
theorem bit_or {c : Int} (hc : 0 ≤ c) (n j : Nat) : bitI ((c.toNat ||| 2 ^ n : Nat) : Int) j = if j = n then 1 else bitI c j := by
  obtain ⟨c, rfl⟩ := Int.eq_ofNat_of_zero_le hc
  rw [Int.toNat_natCast, bitI_nat, bitI_nat, Nat.testBit_or, Nat.testBit_two_pow]
  by_cases e : j = n
  · subst e; simp
  · have e2 : ¬ n = j := fun z => e z.symm
    simp [e, e2]
theorem lC_5 {n : Nat} {r : Nat → Int} (h5 : 0 ≤ r 5) (j : Nat) : bitI (lC n r 5) j = if j = n then 1 else bitI (r 5) j := by
  unfold lC
  rw [up1_s, Int.toNat_natCast]
  exact bit_or h5 n j
theorem lC_o {n : Int} {r : Nat → Int} {b : Nat} (hb : b ≠ 5) : lC n r b = r b := up1_n hb
theorem TG_lC {c : zH} {r p tp : Nat → Int} (q : TG c r p tp) (h5 : 0 ≤ r 5) {n : Nat} (hn : n < 6) : TG c (lC n r) p tp := by
  obtain ⟨⟨q1, q2⟩, ⟨q3, q4⟩, q5, ⟨q6, q7⟩, q8⟩ := q
  have b6 : bitI (lC n r 5) 6 = bitI (r 5) 6 := by rw [lC_5 h5, if_neg (by omega)]
  have b7 : bitI (lC n r 5) 7 = bitI (r 5) 7 := by rw [lC_5 h5, if_neg (by omega)]
  exact ⟨⟨q1, q2⟩, ⟨q3, q4⟩, q5, ⟨q6.trans b6.symm, q7.trans b7.symm⟩, TH_cg (c := c) (r := r) (fun _ _ _ _ => rfl) rfl rfl b6 rfl q8⟩
/-- a line that may not stand -/
theorem l3_no {tp r p : Nat → Int} {n a : Int} (h10 : r 10 = 0) (ha : 0 < a) (hA : lB n (lA n r p) = flR a r) : l3 tp n r p = (lC n (flR a r), p) := by
  have e10 : lC n (flR a r) 10 = a := by rw [lC_o (by omega), flR_10 h10]
  have e : l2 tp n r p = lC n (flR a r) := by
    unfold l2
    rw [hA, stR_B (by rw [e10]; exact ha)]
  unfold l3
  rw [e, if_pos (by rw [e10]; exact ha)]
theorem TO_no {c : zH} {r p tp : Nat → Int} {n a b : Int} (q : TQ c r p tp) (ha : ¬ a = 0) (hb : 0 < b) (hA : lB n (lA n r p) = flR b r) : TO (fin (flW a c)) (l3 tp n r p).1 (l3 tp n r p).2 tp := by
  have t := L_fl ha hb q
  rw [l3_no q.1.1.2 hb hA, fin_n t.1]
  exact Or.inr (TB_up (by omega) t)
/-- a line that may stand: its first token -/
theorem l3_y {tp r p : Nat → Int} {n : Int} (hA : lB n (lA n r p) = r) : l3 tp n r p = if 0 < stR (lC n r) tp 10 then (stR (lC n r) tp, p) else (stR (lE (moM tp n (stR (lC n r) tp) p).1) tp, (moM tp n (stR (lC n r) tp) p).2) := by
  unfold l3 l2
  rw [hA]
theorem lAB {n : Int} {r p : Nat → Int} (h1 : ¬ ((n ≤ 3 ∧ r 3 = 4) ∨ (n = 5 ∧ p 32 = 5))) (h2 : ¬ (6 ≤ n ∧ bitI (r 5) n.toNat = 1)) : lB n (lA n r p) = r := by
  have e : lA n r p = r := if_neg h1
  rw [e]
  exact if_neg h2
theorem wS_lC {n : Int} {r : Nat → Int} (w : wZ r) : wS (lC n r) := ⟨w.1.1, w.1.2.1⟩
theorem so_B {c : zH} {lo hi so : Int} {r tp : Nat → Int} (q : TB c (otR lo hi so r)) : TB c (so_R lo hi so r tp) := TB_st q
theorem ot_g {lo hi : Int} {r : Nat → Int} (h10 : r 10 = 0) (ht : r 14 = 2) (hv : lo ≤ r 15 ∧ r 15 ≤ hi) : otR lo hi 0 r = r ∧ otV lo hi 0 r = r 15 := by
  have e : otR lo hi 0 r = r := by
    unfold otR
    rw [if_neg (fun z => z h10), if_neg (fun z => z ht), if_neg (fun z => z hv), if_neg (fun z => z.1 rfl)]
  refine ⟨e, ?_⟩
  unfold otV
  rw [e, if_pos h10]
theorem reb_c {c : zH} {a b : Nat} (q : a ≠ 14) : reb 8 c a b = c a b := reb_n (by omega)
theorem T_man {c : zH} {r p tp : Nat → Int} (wk : wK c) (wb : wB tp) (w : wZ r) (q : TQ c r p tp) {k : Nat} (hk : k < 4) : TO (fin (manW k c)) (l3 tp k r p).1 (l3 tp k r p).2 tp := by
  have hmen : c 8 6 = r 3 := q.1.2.2.2.2.2.2.1
  have h10 := q.1.1.2
  have w3 := w.2.1
  have w5 := w.2.2.2.1
  by_cases h4 : r 3 = 4
  · have e1 : manW k c = flW 5 c := by unfold manW; rw [if_neg (by omega)]
    have eA : lA k r p = flR 5 r := if_pos (Or.inl ⟨by omega, h4⟩)
    have eB : lB k (flR 5 r) = flR 5 r := if_neg (fun z => by omega)
    rw [e1]
    exact TO_no q (by decide) (by decide : (0 : Int) < 5) (by rw [eA]; exact eB)
  · have hA : lB k (lA k r p) = r := lAB (by omega) (by omega)
    have gl := TG_lC q.1 w5.1 (n := k) (by omega)
    rw [l3_y hA]
    have wS1 := wS_lC (n := (k : Int)) w
    have wQ1 := st_Q0 wb wS1 h10
    have hmm : moM tp k (stR (lC k r) tp) p = (up1 (so_R 0 6 0 (stR (lC k r) tp) tp) 3 (stR (lC k r) tp 3 + 1), up1 (up1 p (stR (lC k r) tp 3).toNat (k : Int)) (4 + (stR (lC k r) tp 3).toNat) (otV 0 6 0 (stR (lC k r) tp))) := by
      unfold moM
      rw [if_pos (by omega)]
    have eM : manW k c = (if tnW 0 6 c 31 2 = 0 then tsW (reb 8 (adM (tnW 0 6 c) k (tnV 0 6 c))) else tnW 0 6 c) := by unfold manW; rw [if_pos (by omega)]
    rcases L_tn 0 6 wk wb wS1 gl with ⟨b1, b2⟩ | ⟨g, g1 | b⟩
    · rw [if_pos b1, eM, if_neg b2.1, fin_n b2.1]
      exact Or.inr b2
    · obtain ⟨g1, g2, g3, g4⟩ := g1
      have g10 := g.1.1.2
      have gc2 := g.1.1.1
      rw [if_neg (by omega), eM, g3, if_pos gc2, hmm, g4]
      obtain ⟨o1, o2⟩ := ot_g g10 g1 g2
      have e3 : stR (lC k r) tp 3 = r 3 := by rw [stR_o (by omega), lC_o (by omega)]
      rw [o2, e3]
      generalize hr1 : stR (lC k r) tp = r1 at *
      have eso : so_R 0 6 0 r1 tp = stR r1 tp := by unfold so_R; rw [o1]
      rw [eso, ← stR_up (by omega)]
      have gm : nxW c 8 6 = r1 3 := g.1.2.2.2.2.2.2.1
      obtain ⟨M, hM⟩ := Int.eq_ofNat_of_zero_le w3.1
      rw [hM, Int.toNat_natCast]
      have hM2 : nxW c 8 6 = (M : Int) := by rw [gm, e3, hM]
      have eaD : adM (nxW c) k (r1 15) = up (up (up (nxW c) (8 + 1) M k) (8 + 2) M (r1 15)) 8 6 ((M : Int) + 1) := by unfold adM; rw [hM2, Int.toNat_natCast]
      have wk1 := (tk_nx wk).2.1
      have wk2 : wK (reb 8 (adM (nxW c) k (r1 15))) := (tk_adM wk1 (by omega) (by omega) g2).2.1
      refine L_tail wk2 wb ⟨wQ1.1, wQ1.2.1⟩ ?_
      rw [eaD]
      obtain ⟨⟨t1, t2⟩, ⟨t3, t4⟩, t5, ⟨t6, t7⟩, ⟨u1, u2, u3, u4, u5, u6, u7⟩⟩ := g.1
      have f : ∀ a b, ¬ (8 ≤ a ∧ a ≤ 14) → reb 8 (up (up (up (nxW c) (8 + 1) M k) (8 + 2) M (r1 15)) 8 6 ((M : Int) + 1)) a b = nxW c a b := fun a b z => by rw [reb_c (by omega), up_k (by omega), up_k (by omega), up_k (by omega)]
      have f11 : ∀ b, reb 8 (up (up (up (nxW c) (8 + 1) M k) (8 + 2) M (r1 15)) 8 6 ((M : Int) + 1)) 11 b = nxW c 11 b := fun b => by rw [reb_c (by omega), up_k (by omega), up_k (by omega), up_k (by omega)]
      have hrc := RC0_man u1 hM2 (by omega) (k : Int) (r1 15)
      refine ⟨⟨by rw [f _ _ (by omega)]; exact t1, t2⟩, ⟨by rw [f _ _ (by omega)]; exact t3, by rw [f _ _ (by omega)]; exact t4⟩, fun j hj => by rw [f _ _ (by omega)]; exact t5 j hj, ⟨by rw [f _ _ (by omega)]; exact t6, by rw [f _ _ (by omega)]; exact t7⟩, ?_, RB_reb, ?_, u4, fun j hj => by rw [f11]; exact u5 j hj, ?_, fun j h1 h2 => by rw [f11]; exact u7 j h1 h2⟩
      · obtain ⟨x1, x2, x3, x4⟩ := hrc
        have fr : ∀ a, a ≠ 14 → reb 8 (up (up (up (nxW c) (8 + 1) M k) (8 + 2) M (r1 15)) 8 6 ((M : Int) + 1)) a = up (up (up (nxW c) (8 + 1) M k) (8 + 2) M (r1 15)) 8 6 ((M : Int) + 1) a := fun a z => funext fun b => reb_c z
        unfold RC0
        rw [fr 8 (by omega), fr (8 + 1) (by omega), fr (8 + 2) (by omega), fr (8 + 3) (by omega), fr (8 + 4) (by omega), fr (8 + 5) (by omega)]
        exact ⟨x1, x2, x3, x4⟩
      · rw [reb_c (by omega), up_s, up1_s]
      · rcases u6 with z | ⟨j, z1, z2⟩
        · exact Or.inl z
        · exact Or.inr ⟨j, z1, by rw [f11]; exact z2⟩
    · rw [if_neg (by have := g.1.1.2; omega), hmm, eM, if_neg (b 0).1, fin_n (b 0).1]
      exact Or.inr (TB_st (TB_lE (TB_up (by omega) (so_B (b 0)))))
