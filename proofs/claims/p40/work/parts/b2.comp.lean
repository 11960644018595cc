/-! the invariant piece by piece -/
def P1 (k : zH) : Prop := wT k 1 ∧ wPg (k 46) ∧ (0 ≤ k 45 1 ∧ k 45 1 ≤ 4) ∧ RA k k
def P3 (k : zH) : Prop := wT k 16 ∧ wT k 23 ∧ (∀ j, k 30 j = 0 ∨ k 30 j = 1) ∧ (∀ j, k 54 j = 0 ∨ k 54 j = 1) ∧ wI k ∧ RI k k
def P4 (k : zH) : Prop := wP k 31 ∧ (0 ≤ k 45 8 ∧ k 45 8 ≤ 160) ∧ wB (k 48) ∧ Rp k k
def P5 (k : zH) : Prop := (0 ≤ k 0 9 ∧ k 0 9 ≤ 6) ∧ (∀ j, 0 ≤ k 42 j ∧ k 42 j ≤ 4) ∧ (∀ j, k 43 j = -4 ∨ (0 ≤ k 43 j ∧ k 43 j ≤ 47)) ∧ (0 ≤ k 45 21 ∧ k 45 21 ≤ 6) ∧ Rs k k
def P6 (k : zH) : Prop := (wSh k 34 ∧ wSh k 36 ∧ wSh k 38 ∧ wSh k 40) ∧ wL k ∧ Rh k k
def P7 (k : zH) : Prop := (0 ≤ k 0 10 ∧ k 0 10 ≤ 3) ∧ k 0 10 = k 45 28
theorem INV_P {k : zH} : INV k ↔ P1 k ∧ wT k 8 ∧ P3 k ∧ P4 k ∧ P5 k ∧ P6 k ∧ P7 k ∧ wN k := by
  constructor
  · rintro ⟨⟨⟨w1, w8, w16, w23⟩, wp, wsn, ws42, ws43, wk, wsh, wt⟩, ⟨⟨g, m1, m8, m21⟩, wl, wk54, wn, wb, wi⟩, r1, r2, r3, r4, r5, r6⟩
    exact ⟨⟨w1, g, m1, r1⟩, w8, ⟨w16, w23, wk, wk54, wi, r2⟩, ⟨wp, m8, wb, r3⟩, ⟨wsn, ws42, ws43, m21, r4⟩, ⟨wsh, wl, r5⟩, ⟨wt, r6⟩, wn⟩
  · rintro ⟨⟨w1, g, m1, r1⟩, w8, ⟨w16, w23, wk, wk54, wi, r2⟩, ⟨wp, m8, wb, r3⟩, ⟨wsn, ws42, ws43, m21, r4⟩, ⟨wsh, wl, r5⟩, ⟨wt, r6⟩, wn⟩
    exact ⟨⟨⟨w1, w8, w16, w23⟩, wp, wsn, ws42, ws43, wk, wsh, wt⟩, ⟨⟨g, m1, m8, m21⟩, wl, wk54, wn, wb, wi⟩, r1, r2, r3, r4, r5, r6⟩
section PC
variable {h k : zH}
theorem P1_cg (e : ∀ a b, (1 ≤ a ∧ a ≤ 7) ∨ (a = 46 ∧ b < 33) ∨ (a = 45 ∧ b = 1) → k a b = h a b) (q : P1 h) : P1 k := by
  obtain ⟨q1, q2, q3, q4, q5⟩ := q
  refine ⟨wT_cong (fun a b _ _ => e a b (by omega)) q1, wPg_cong (fun b hb => e 46 b (by omega)) q2, by rw [e 45 1 (by omega)]; exact q3, RT_cg q1 (fun a b _ _ => e a b (by omega)) (fun b hb => e 46 b (by omega)) q4, ?_⟩
  rw [e 1 6 (by omega), e 45 1 (by omega)]
  exact q5
theorem P3_cg (e : ∀ a b, (16 ≤ a ∧ a ≤ 30) ∨ a = 54 ∨ (a = 46 ∧ 33 ≤ b ∧ b < 99) ∨ (a = 45 ∧ b = 1) → k a b = h a b) (q : P3 h) : P3 k := by
  obtain ⟨q1, q2, q3, q4, q5, q6⟩ := q
  refine ⟨wT_cong (fun a b _ _ => e a b (by omega)) q1, wT_cong (fun a b _ _ => e a b (by omega)) q2, fun j => by rw [e 30 j (by omega)]; exact q3 j, fun j => by rw [e 54 j (by omega)]; exact q4 j, fun j hj hn => ?_, fun j hj => ?_⟩
  · rw [e 54 j (by omega)] at hn
    exact wPg_cong (fun b hb => e 46 _ (by omega)) (q5 j hj hn)
  · have hw : wT h (16 + 7 * j) := by
      rcases (show j = 0 ∨ j = 1 by omega) with rfl | rfl
      · exact q1
      · exact q2
    rw [e 30 j (by omega), e 54 j (by omega)]
    refine ⟨(q6 j hj).1, fun hn => ?_⟩
    obtain ⟨z1, z2⟩ := (q6 j hj).2 hn
    refine ⟨RT_cg hw (fun a b _ _ => e a b (by omega)) (fun b hb => e 46 _ (by omega)) z1, ?_⟩
    rw [e _ 6 (by omega), e 45 1 (by omega)]
    exact z2
theorem P4_cg (e : ∀ a b, a = 31 ∨ a = 32 ∨ (a = 45 ∧ b = 8) ∨ a = 48 → k a b = h a b) (q : P4 h) : P4 k := by
  obtain ⟨⟨p1, p2, p3, p4⟩, q2, q3, q4, q5⟩ := q
  refine ⟨⟨by rw [e _ _ (by omega)]; exact p1, by rw [e _ _ (by omega)]; exact p2, by rw [e _ _ (by omega)]; exact p3, fun j => by rw [e _ _ (by omega)]; exact p4 j⟩, by rw [e _ _ (by omega)]; exact q2, fun j => by rw [e _ _ (by omega)]; exact q3 j, by rw [e 31 1 (by omega), e 45 8 (by omega)]; exact q4, fun j hj => ?_⟩
  rw [e 45 8 (by omega)] at hj
  rw [e 32 j (by omega), e 48 j (by omega)]
  exact q5 j hj
theorem P5_cg (e : ∀ a b, (a = 0 ∧ b = 9) ∨ a = 42 ∨ a = 43 ∨ (a = 45 ∧ b = 21) ∨ a = 52 → k a b = h a b) (q : P5 h) : P5 k := by
  obtain ⟨p1, p2, p3, q2, q4, q5⟩ := q
  refine ⟨by rw [e _ _ (by omega)]; exact p1, fun j => by rw [e _ _ (by omega)]; exact p2 j, fun j => by rw [e _ _ (by omega)]; exact p3 j, by rw [e _ _ (by omega)]; exact q2, by rw [e 0 9 (by omega), e 45 21 (by omega)]; exact q4, fun j hj => ?_⟩
  rw [e 45 21 (by omega)] at hj
  rw [e 42 j (by omega), e 43 j (by omega), e 52 _ (by omega), e 52 _ (by omega)]
  exact q5 j hj
theorem P6_cg (e : ∀ a b, (34 ≤ a ∧ a ≤ 41) ∨ a = 55 ∨ a = 56 ∨ a = 57 → k a b = h a b) (q : P6 h) : P6 k := by
  obtain ⟨⟨⟨a1, a2⟩, ⟨b1, b2⟩, ⟨c1, c2⟩, ⟨d1, d2⟩⟩, q2, q3⟩ := q
  refine ⟨⟨⟨by rw [e _ _ (by omega)]; exact a1, by rw [e _ _ (by omega)]; exact a2⟩, ⟨by rw [e _ _ (by omega)]; exact b1, by rw [e _ _ (by omega)]; exact b2⟩, ⟨by rw [e _ _ (by omega)]; exact c1, by rw [e _ _ (by omega)]; exact c2⟩, ⟨by rw [e _ _ (by omega)]; exact d1, by rw [e _ _ (by omega)]; exact d2⟩⟩, fun j hj => by rw [e _ _ (by omega), e _ _ (by omega)]; exact q2 j hj, fun j hj => ?_⟩
  obtain ⟨r1, r2, r3⟩ := q3 j hj
  rw [e (34 + 2 * j) 1 (by omega), e (34 + 2 * j) 2 (by omega), e 55 j (by omega), e 56 j (by omega)]
  exact ⟨r1, r2, fun i hi => by rw [e _ _ (by omega), e _ _ (by omega)]; exact r3 i hi⟩
theorem P7_cg (e : ∀ a b, (a = 0 ∧ b = 10) ∨ (a = 45 ∧ b = 28) → k a b = h a b) (q : P7 h) : P7 k := by
  obtain ⟨q1, q2⟩ := q
  exact ⟨by rw [e 0 10 (by omega)]; exact q1, by rw [e 0 10 (by omega), e 45 28 (by omega)]; exact q2⟩
theorem wN_cg (e : ∀ a b, a = 49 ∨ a = 50 → k a b = h a b) (q : wN h) : wN k := ⟨fun j hj => by rw [e 49 j (by omega)]; exact q.1 j hj, fun j hj => by rw [e 50 j (by omega)]; exact q.2 j hj⟩
theorem IM_e (e : ∀ a b, 45 ≤ a → k a b = h a b) (q : IM h) : IM k := IM_cg (fun a b z _ _ _ _ => e a b z) q
end PC
section DS
variable {l : Launch} {G : zG} {h : zH} {cmp : Bool}
theorem du_feed (lx : LX G) (lm : LM G) (I : INV h) (c : Int) : DuI l G mX3_feed mX4_feed [vI c] h cmp INV := by
  obtain ⟨hX, hM, hR⟩ := id I
  have hl : h 31 1 = h 45 8 := hR.2.2.1.1
  have h8 := hM.1.2.2.1
  have cc := c_feed (l := l) lx hX c
  by_cases q : 0 ≤ c ∧ c ≤ 127
  · by_cases q2 : h 45 8 < 160
    · have es : sFeed c h = (h 31 1 + 1, up (up h (31 + 1) (h 31 1).toNat c) 31 1 (h 31 1 + 1)) := by
        unfold sFeed
        rw [if_neg (by omega), if_neg (by omega)]
      rw [es] at cc
      obtain ⟨L, hL⟩ := Int.eq_ofNat_of_zero_le h8.1
      rw [hl, hL, Int.toNat_natCast] at cc
      have e1 : ∀ a b, 45 ≤ a → up (up h (31 + 1) L c) 31 1 ((L : Int) + 1) a b = h a b := fun a b z => by rw [up_k (by omega), up_k (by omega)]
      have mm := m_feed (l := l) lm (IM_e e1 hM).1 c
      rw [e1 45 8 (by omega), hL, Int.toNat_natCast] at mm
      refine du_s (by omega) cc (by omega) (mm.mono (fun r h2 z => ?_)) rfl (k2 := up (up (up (up h (31 + 1) L c) 31 1 ((L : Int) + 1)) 48 L c) 45 8 ((L : Int) + 1)) ?_
      · rcases z with ⟨z1, z2, z3⟩ | ⟨z1, z2, z3, z4⟩ | ⟨z1, z2, z3, z4⟩
        · exact absurd q z1
        · omega
        · exact ⟨z3, eq_5 z4⟩
      · obtain ⟨p1, p2, p3, ⟨⟨t1, t2, t3, t4⟩, t5, t6, t7, t8⟩, p5, p6, p7, p8⟩ := INV_P.mp I
        have f : ∀ a b, ¬ (a = 31 ∧ b = 1) → a ≠ 32 → a ≠ 48 → ¬ (a = 45 ∧ b = 8) → up (up (up (up h (31 + 1) L c) 31 1 ((L : Int) + 1)) 48 L c) 45 8 ((L : Int) + 1) a b = h a b := fun a b z1 z2 z3 z4 => by rw [up_n z4, up_k z3, up_n z1, up_k z2]
        have f32 : ∀ b, up (up (up (up h (31 + 1) L c) 31 1 ((L : Int) + 1)) 48 L c) 45 8 ((L : Int) + 1) 32 b = up1 (h 32) L c b := fun b => by
          rw [up_k (by omega), up_k (by omega), up_k (by omega)]; unfold up up1; simp
        have f48 : ∀ b, up (up (up (up h (31 + 1) L c) 31 1 ((L : Int) + 1)) 48 L c) 45 8 ((L : Int) + 1) 48 b = up1 (h 48) L c b := fun b => by
          rw [up_k (by omega)]; unfold up up1; simp
        have f31 : up (up (up (up h (31 + 1) L c) 31 1 ((L : Int) + 1)) 48 L c) 45 8 ((L : Int) + 1) 31 1 = (L : Int) + 1 := by rw [up_k (by omega), up_k (by omega), up_s]
        have f45 : up (up (up (up h (31 + 1) L c) 31 1 ((L : Int) + 1)) 48 L c) 45 8 ((L : Int) + 1) 45 8 = (L : Int) + 1 := up_s
        have ub : ∀ g : Nat → Int, (∀ j, 0 ≤ g j ∧ g j ≤ 127) → ∀ j, 0 ≤ up1 g L c j ∧ up1 g L c j ≤ 127 := fun g hg j => by
          unfold up1; split
          · exact q
          · exact hg j
        refine INV_P.mpr ⟨P1_cg (fun a b z => f a b (by omega) (by omega) (by omega) (by omega)) p1, wT_cong (fun a b _ _ => f a b (by omega) (by omega) (by omega) (by omega)) p2, P3_cg (fun a b z => f a b (by omega) (by omega) (by omega) (by omega)) p3, ⟨⟨by rw [f31]; omega, by rw [f _ _ (by omega) (by omega) (by omega) (by omega)]; exact t2, by rw [f _ _ (by omega) (by omega) (by omega) (by omega)]; exact t3, fun j => by rw [f32]; exact ub _ t4 j⟩, by rw [f45]; omega, fun j => by rw [f48]; exact ub _ t6 j, by rw [f31, f45], fun j hj => ?_⟩, P5_cg (fun a b z => f a b (by omega) (by omega) (by omega) (by omega)) p5, P6_cg (fun a b z => f a b (by omega) (by omega) (by omega) (by omega)) p6, P7_cg (fun a b z => f a b (by omega) (by omega) (by omega) (by omega)) p7, wN_cg (fun a b z => f a b (by omega) (by omega) (by omega) (by omega)) p8⟩
        rw [f45] at hj
        rw [f32, f48]
        unfold up1
        by_cases e : j = L
        · rw [if_pos e, if_pos e]
        · rw [if_neg e, if_neg e]
          exact t8 j (by omega)
    · have es : sFeed c h = (-3, h) := by
        unfold sFeed
        rw [if_neg (by omega), if_pos (by omega)]
      rw [es] at cc
      refine du_s (by omega) cc (by omega) ((m_feed (l := l) lm hM.1 c).mono (fun r h2 z => ?_)) rfl (k2 := h) I
      rcases z with ⟨z1, z2, z3⟩ | ⟨z1, z2, z3, z4⟩ | ⟨z1, z2, z3, z4⟩
      · exact absurd q z1
      · exact ⟨z3, eq_5 z4⟩
      · exact absurd z2 q2
  · have es : sFeed c h = (-1, h) := by
      unfold sFeed
      rw [if_pos (by omega)]
    rw [es] at cc
    refine du_s (by omega) cc (by omega) ((m_feed (l := l) lm hM.1 c).mono (fun r h2 z => ?_)) rfl (k2 := h) I
    rcases z with ⟨z1, z2, z3⟩ | ⟨z1, z2, z3, z4⟩ | ⟨z1, z2, z3, z4⟩
    · exact ⟨z2, eq_5 z3⟩
    · exact absurd z1 q
    · exact absurd z1 q
theorem du_end (lx : LX G) (lm : LM G) (I : INV h) (n : Int) : DuI l G mX3_end mX4_end [vI n] h cmp INV := by
  obtain ⟨hX, hM, hR⟩ := id I
  have hl : h 31 1 = h 45 8 := hR.2.2.1.1
  have h8 := hM.1.2.2.1
  have cc := c_end (l := l) (h := h) lx n
  by_cases q : 0 ≤ n ∧ n ≤ h 45 8
  · have es : sEnd n h = (h 31 1, up h 31 1 n) := by
      unfold sEnd
      rw [if_neg (by omega)]
    rw [es, hl] at cc
    have e1 : ∀ a b, 45 ≤ a → up h 31 1 n a b = h a b := fun a b z => up_k (by omega)
    have mm := m_end (l := l) (h := up h 31 1 n) lm n
    rw [e1 45 8 (by omega)] at mm
    refine du_s (by omega) cc (by omega) (mm.mono (fun r h2 z => ?_)) rfl (k2 := up (up h 31 1 n) 45 8 n) ?_
    · rcases z with ⟨z1, z2, z3⟩ | ⟨z1, z2, z3⟩
      · exact absurd q z1
      · exact ⟨z2, eq_5 z3⟩
    · obtain ⟨p1, p2, p3, ⟨⟨t1, t2, t3, t4⟩, t5, t6, t7, t8⟩, p5, p6, p7, p8⟩ := INV_P.mp I
      have f : ∀ a b, ¬ (a = 31 ∧ b = 1) → ¬ (a = 45 ∧ b = 8) → up (up h 31 1 n) 45 8 n a b = h a b := fun a b z1 z4 => by rw [up_n z4, up_n z1]
      have f31 : up (up h 31 1 n) 45 8 n 31 1 = n := by rw [up_k (by omega), up_s]
      have f45 : up (up h 31 1 n) 45 8 n 45 8 = n := up_s
      refine INV_P.mpr ⟨P1_cg (fun a b z => f a b (by omega) (by omega)) p1, wT_cong (fun a b _ _ => f a b (by omega) (by omega)) p2, P3_cg (fun a b z => f a b (by omega) (by omega)) p3, ⟨⟨by rw [f31]; omega, by rw [f _ _ (by omega) (by omega)]; exact t2, by rw [f _ _ (by omega) (by omega)]; exact t3, fun j => by rw [f _ _ (by omega) (by omega)]; exact t4 j⟩, by rw [f45]; omega, fun j => by rw [f _ _ (by omega) (by omega)]; exact t6 j, by rw [f31, f45], fun j hj => ?_⟩, P5_cg (fun a b z => f a b (by omega) (by omega)) p5, P6_cg (fun a b z => f a b (by omega) (by omega)) p6, P7_cg (fun a b z => f a b (by omega) (by omega)) p7, wN_cg (fun a b z => f a b (by omega) (by omega)) p8⟩
      rw [f45] at hj
      rw [f _ _ (by omega) (by omega), f _ _ (by omega) (by omega)]
      exact t8 j (by omega)
  · have es : sEnd n h = (-1, h) := by
      unfold sEnd
      rw [if_pos (by omega)]
    rw [es] at cc
    refine du_s (by omega) cc (by omega) ((m_end (l := l) (h := h) lm n).mono (fun r h2 z => ?_)) rfl (k2 := h) I
    rcases z with ⟨z1, z2, z3⟩ | ⟨z1, z2, z3⟩
    · exact ⟨z2, eq_5 z3⟩
    · exact absurd z1 q
theorem du_see (lx : LX G) (lm : LM G) (I : INV h) (i q : Int) : DuI l G mX3_see mX4_see [vI i, vI q] h cmp INV := by
  obtain ⟨hX, hM, hR⟩ := id I
  have hn : h 0 9 = h 45 21 := hR.2.2.2.1.1
  have h21 := hM.1.2.2.2
  have hd : h 1 7 = h 46 32 := hR.1.1.1.1.1
  have hd5 := hX.1.1.2.1
  have cc := c_see (l := l) lx hX i q
  by_cases z : (0 ≤ i ∧ i < h 1 7) ∧ ((0 ≤ q ∧ q < 48) ∨ q = -4)
  · by_cases z2 : h 45 21 < 6
    · have es : sSee i q h = (h 0 9 + 1, up (up (up h 42 (h 0 9).toNat i) 43 (h 0 9).toNat q) 0 9 (h 0 9 + 1)) := by
        unfold sSee
        rw [if_neg (fun y => y z), if_neg (by omega)]
      rw [es] at cc
      obtain ⟨L, hL⟩ := Int.eq_ofNat_of_zero_le h21.1
      rw [hn, hL, Int.toNat_natCast] at cc
      obtain ⟨K, hK⟩ : ∃ K, K = up (up (up h 42 L i) 43 L q) 0 9 ((L : Int) + 1) := ⟨_, rfl⟩
      rw [← hK] at cc
      have e1 : ∀ a b, 45 ≤ a → K a b = h a b := fun a b y => by rw [hK, up_k (by omega), up_k (by omega), up_k (by omega)]
      have mm := m_see (l := l) lm (IM_e e1 hM).1 i q
      have et : tSee i q K = ((L : Int) + 1, up (up (up K 52 (2 * L) i) 52 (2 * L + 1) q) 45 21 ((L : Int) + 1)) := by
        unfold tSee
        rw [e1 46 32 (by omega), e1 45 21 (by omega), hL, if_neg (fun y => y (by omega)), if_neg (by omega), show (2 * (L : Int)).toNat = 2 * L by omega, show (2 * (L : Int) + 1).toNat = 2 * L + 1 by omega]
      rw [et] at mm
      dsimp only at mm
      refine du_s (by omega) cc (by omega) (mm.mono (fun r h2 y => ⟨y.1, eq_5 y.2⟩)) rfl ?_
      obtain ⟨p1, p2, p3, p4, ⟨t1, t2, t3, t4, t5, t6⟩, p6, p7, p8⟩ := INV_P.mp I
      have f : ∀ a b, ¬ (a = 0 ∧ b = 9) → a ≠ 42 → a ≠ 43 → a ≠ 52 → ¬ (a = 45 ∧ b = 21) → up (up (up K 52 (2 * L) i) 52 (2 * L + 1) q) 45 21 ((L : Int) + 1) a b = h a b := fun a b y1 y2 y3 y4 y5 => by rw [up_n y5, up_k y4, up_k y4, hK, up_n y1, up_k y3, up_k y2]
      have f42 : ∀ b, up (up (up K 52 (2 * L) i) 52 (2 * L + 1) q) 45 21 ((L : Int) + 1) 42 b = up1 (h 42) L i b := fun b => by
        rw [up_k (by omega), up_k (by omega), up_k (by omega), hK, up_k (by omega), up_k (by omega)]; unfold up up1; simp
      have f43 : ∀ b, up (up (up K 52 (2 * L) i) 52 (2 * L + 1) q) 45 21 ((L : Int) + 1) 43 b = up1 (h 43) L q b := fun b => by
        rw [up_k (by omega), up_k (by omega), up_k (by omega), hK, up_k (by omega)]; unfold up up1; simp
      have f52 : ∀ b, up (up (up K 52 (2 * L) i) 52 (2 * L + 1) q) 45 21 ((L : Int) + 1) 52 b = up1 (up1 (h 52) (2 * L) i) (2 * L + 1) q b := fun b => by
        rw [up_k (by omega)]; unfold up up1; simp [e1 52 b (by omega)]
      have f0 : up (up (up K 52 (2 * L) i) 52 (2 * L + 1) q) 45 21 ((L : Int) + 1) 0 9 = (L : Int) + 1 := by rw [up_k (by omega), up_k (by omega), up_k (by omega), hK, up_s]
      have f45 : up (up (up K 52 (2 * L) i) 52 (2 * L + 1) q) 45 21 ((L : Int) + 1) 45 21 = (L : Int) + 1 := up_s
      generalize up (up (up K 52 (2 * L) i) 52 (2 * L + 1) q) 45 21 ((L : Int) + 1) = W at f f42 f43 f52 f0 f45
      refine INV_P.mpr ⟨P1_cg (fun a b y => f a b (by omega) (by omega) (by omega) (by omega) (by omega)) p1, wT_cong (fun a b _ _ => f a b (by omega) (by omega) (by omega) (by omega) (by omega)) p2, P3_cg (fun a b y => f a b (by omega) (by omega) (by omega) (by omega) (by omega)) p3, P4_cg (fun a b y => f a b (by omega) (by omega) (by omega) (by omega) (by omega)) p4, ⟨by rw [f0]; omega, fun j => ?_, fun j => ?_, by rw [f45]; omega, by rw [f0, f45], fun s hs => ?_⟩, P6_cg (fun a b y => f a b (by omega) (by omega) (by omega) (by omega) (by omega)) p6, P7_cg (fun a b y => f a b (by omega) (by omega) (by omega) (by omega) (by omega)) p7, wN_cg (fun a b y => f a b (by omega) (by omega) (by omega) (by omega) (by omega)) p8⟩
      · rw [f42]; unfold up1; split
        · omega
        · exact t2 j
      · rw [f43]; unfold up1; split
        · omega
        · exact t3 j
      · rw [f45] at hs
        rw [f42, f43, f52, f52]
        unfold up1
        by_cases e : s = L
        · subst e
          rw [if_pos rfl, if_pos rfl, if_neg (by omega), if_pos rfl, if_pos rfl]
          exact ⟨rfl, rfl⟩
        · rw [if_neg e, if_neg e, if_neg (by omega), if_neg (by omega), if_neg (by omega), if_neg (by omega)]
          exact t6 s (by omega)
    · have es : sSee i q h = (-3, h) := by
        unfold sSee
        rw [if_neg (fun y => y z), if_pos (by omega)]
      have et : tSee i q h = (-3, h) := by
        unfold tSee
        rw [if_neg (fun y => y (by omega)), if_pos (by omega)]
      rw [es] at cc
      have mm := m_see (l := l) lm hM.1 i q
      rw [et] at mm
      dsimp only at mm
      exact du_s (by omega) cc (by omega) (mm.mono (fun r h2 y => ⟨y.1, eq_5 y.2⟩)) rfl I
  · have es : sSee i q h = (-1, h) := by
      unfold sSee
      rw [if_pos z]
    have et : tSee i q h = (-1, h) := by
      unfold tSee
      rw [if_pos (fun y => z (by omega))]
    rw [es] at cc
    have mm := m_see (l := l) lm hM.1 i q
    rw [et] at mm
    dsimp only at mm
    exact du_s (by omega) cc (by omega) (mm.mono (fun r h2 y => ⟨y.1, eq_5 y.2⟩)) rfl I
theorem du_forget (lx : LX G) (lm : LM G) (I : INV h) (n : Int) : DuI l G mX3_forget mX4_forget [vI n] h cmp INV := by
  obtain ⟨hX, hM, hR⟩ := id I
  have hn : h 0 9 = h 45 21 := hR.2.2.2.1.1
  have h21 := hM.1.2.2.2
  have cc := c_forget (l := l) (h := h) lx n
  by_cases q : 0 ≤ n ∧ n ≤ h 45 21
  · have es : sForget n h = (h 0 9, up h 0 9 n) := by
      unfold sForget
      rw [if_neg (by omega)]
    rw [es, hn] at cc
    have e1 : ∀ a b, 45 ≤ a → up h 0 9 n a b = h a b := fun a b z => up_k (by omega)
    have mm := m_forget (l := l) (h := up h 0 9 n) lm n
    have et : tForget n (up h 0 9 n) = (h 45 21, up (up h 0 9 n) 45 21 n) := by
      unfold tForget
      rw [e1 45 21 (by omega), if_pos q]
    rw [et] at mm
    dsimp only at mm
    refine du_s (by omega) cc (by omega) (mm.mono (fun r h2 y => ⟨y.1, eq_5 y.2⟩)) rfl ?_
    obtain ⟨p1, p2, p3, p4, ⟨t1, t2, t3, t4, t5, t6⟩, p6, p7, p8⟩ := INV_P.mp I
    have f : ∀ a b, ¬ (a = 0 ∧ b = 9) → ¬ (a = 45 ∧ b = 21) → up (up h 0 9 n) 45 21 n a b = h a b := fun a b z1 z4 => by rw [up_n z4, up_n z1]
    have f0 : up (up h 0 9 n) 45 21 n 0 9 = n := by rw [up_k (by omega), up_s]
    have f45 : up (up h 0 9 n) 45 21 n 45 21 = n := up_s
    refine INV_P.mpr ⟨P1_cg (fun a b z => f a b (by omega) (by omega)) p1, wT_cong (fun a b _ _ => f a b (by omega) (by omega)) p2, P3_cg (fun a b z => f a b (by omega) (by omega)) p3, P4_cg (fun a b z => f a b (by omega) (by omega)) p4, ⟨by rw [f0]; omega, fun j => by rw [f _ _ (by omega) (by omega)]; exact t2 j, fun j => by rw [f _ _ (by omega) (by omega)]; exact t3 j, by rw [f45]; omega, by rw [f0, f45], fun s hs => ?_⟩, P6_cg (fun a b z => f a b (by omega) (by omega)) p6, P7_cg (fun a b z => f a b (by omega) (by omega)) p7, wN_cg (fun a b z => f a b (by omega) (by omega)) p8⟩
    rw [f45] at hs
    rw [f 42 s (by omega) (by omega), f 43 s (by omega) (by omega), f 52 _ (by omega) (by omega), f 52 _ (by omega) (by omega)]
    exact t6 s (by omega)
  · have es : sForget n h = (-1, h) := by
      unfold sForget
      rw [if_pos (by omega)]
    rw [es] at cc
    have mm := m_forget (l := l) (h := h) lm n
    have et : tForget n h = (-1, h) := by
      unfold tForget
      rw [if_neg q]
    rw [et] at mm
    dsimp only at mm
    exact du_s (by omega) cc (by omega) (mm.mono (fun r h2 y => ⟨y.1, eq_5 y.2⟩)) rfl I
end DS
