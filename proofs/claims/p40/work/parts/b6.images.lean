/-! pairs: keep, back, read -/
theorem bendF_cg {men pa : Int} {kd kd' ln ln' st st' : Nat → Int} {j : Nat} (hj : j < 12) (hm : men ≤ 4) (e1 : ∀ i, i < 4 → kd' i = kd i) (e2 : ∀ i, i < 4 → ln' i = ln i) (e3 : ∀ i, i < 12 → st' i = st i) : bendF men pa kd' ln' st' j = bendF men pa kd ln st j := by
  unfold bendF
  rw [e3 j hj]
  by_cases c : 0 ≤ st j ∧ st j < men
  · rw [if_pos c, if_pos c, e1 _ (by omega), e2 _ (by omega), stoodF_cong j (fun k hk => e3 k (by omega))]
  · rw [if_neg c, if_neg c]
theorem RT_cp {x x' : zH} {p q : Nat} {pg pg' : Nat → Int} (w : wT x p) (e0 : ∀ b, 6 ≤ b → b ≤ 9 → x' q b = x p b) (e1 : ∀ i b, 1 ≤ i → i ≤ 6 → b < tlen i → x' (q + i) b = x (p + i) b) (e2 : ∀ b, b < 33 → pg' b = pg b) (r : RT x p pg) : RT x' q pg' := by
  have h6 := w.1
  have h7 := w.2.1
  obtain ⟨⟨⟨r1, r2, r3⟩, r4, r5, r6, r7⟩, rb⟩ := r
  have a6 := e0 6 (by omega) (by omega)
  have a7 := e0 7 (by omega) (by omega)
  have a8 := e0 8 (by omega) (by omega)
  have a9 := e0 9 (by omega) (by omega)
  refine ⟨⟨⟨by rw [a7, e2 32 (by omega)]; exact r1, by rw [a8, e2 20 (by omega)]; exact r2, by rw [a9, e2 21 (by omega)]; exact r3⟩, fun j hj => ?_, fun j hj => ?_, fun j hj => ?_, fun j hj => ?_⟩, fun j hj => ?_⟩
  · rw [a6] at hj
    rw [e1 1 j (by omega) (by omega) (show j < 4 by omega), e1 2 j (by omega) (by omega) (show j < 4 by omega), e2 j (by omega), e2 (4 + j) (by omega)]
    exact r4 j hj
  · rw [e1 3 j (by omega) (by omega) hj]
    unfold stM
    rw [e2 (8 + j) (by omega)]
    exact r5 j hj
  · rw [a7] at hj
    rw [e1 4 j (by omega) (by omega) (show j < 5 by omega), e1 5 j (by omega) (by omega) (show j < 5 by omega), e2 (22 + j) (by omega), e2 (27 + j) (by omega)]
    exact r6 j hj
  · rw [e1 3 j (by omega) (by omega) hj, a6]
    exact r7 j hj
  · rw [e1 6 j (by omega) (by omega) hj, a6, a9, rb j hj]
    exact (bendF_cg hj h6.2 (fun i hi => e1 1 i (by omega) (by omega) hi) (fun i hi => e1 2 i (by omega) (by omega) hi) (fun i hi => e1 3 i (by omega) (by omega) hi)).symm
theorem imP_n (k : Nat) (hk : k ≤ 1) : imP (k : Int) = 16 + 7 * k := by
  unfold imP
  rcases (show k = 0 ∨ k = 1 by omega) with rfl | rfl <;> rfl
section DS
variable {l : Launch} {G : zG} {h : zH} {cmp : Bool}
theorem du_keep (lx : LX G) (lm : LM G) (I : INV h) (k : Int) : DuI l G mX3_keep mX4_keep [vI k] h cmp INV := by
  obtain ⟨hX, hM, hR⟩ := id I
  have cc := c_keep (l := l) lx hX k
  by_cases q : 0 ≤ k ∧ k ≤ 1
  · obtain ⟨k, rfl⟩ := Int.eq_ofNat_of_zero_le q.1
    have es : sKeep k h = (h 30 k, up (cpT h 1 (16 + 7 * k)) 30 k 1) := by
      unfold sKeep
      rw [if_neg (by omega), Int.toNat_natCast, imP_n k (by omega)]
    rw [es] at cc
    dsimp only at cc
    obtain ⟨K, hK⟩ : ∃ K, K = up (cpT h 1 (16 + 7 * k)) 30 k 1 := ⟨_, rfl⟩
    rw [← hK] at cc
    have e1 : ∀ a b, ¬ (16 + 7 * k ≤ a ∧ a ≤ 16 + 7 * k + 6) → a ≠ 30 → K a b = h a b := fun a b z1 z2 => by rw [hK, up_k z2, cpT_o z1]
    have hM1 := IM_e (fun a b z => e1 a b (by omega) (by omega)) hM
    have mm := m_keep (l := l) lm hM1.2.2.1 k
    have hke := (hR.2.1 k (by omega)).1
    have et : tKeep k K = (h 30 k, up (cpP K 0 (33 * (k + 1)) 33) 54 k 1) := by
      unfold tKeep
      rw [if_pos q, Int.toNat_natCast, e1 54 k (by omega) (by omega), hke]
    rw [et] at mm
    dsimp only at mm
    refine du_s (by omega) cc (by omega) (mm.mono (fun r h2 y => ⟨y.1, eq_5 y.2⟩)) rfl ?_
    obtain ⟨p1, p2, ⟨s1, s2, s3, s4, s5, s6⟩, p4, p5, p6, p7, p8⟩ := INV_P.mp I
    have f : ∀ a b, ¬ (16 + 7 * k ≤ a ∧ a ≤ 16 + 7 * k + 6) → a ≠ 30 → a ≠ 54 → ¬ (a = 46 ∧ 33 * (k + 1) ≤ b ∧ b < 33 * (k + 1) + 33) → up (cpP K 0 (33 * (k + 1)) 33) 54 k 1 a b = h a b := fun a b z1 z2 z3 z4 => by
      rw [up_k z3]
      by_cases ea : a = 46
      · subst ea
        rw [cpP_x 33 b (by omega), e1 46 b (by omega) (by omega)]
      · rw [cpP_o ea 33, e1 a b z1 z2]
    have f30 : ∀ b, up (cpP K 0 (33 * (k + 1)) 33) 54 k 1 30 b = if b = k then 1 else h 30 b := fun b => by
      rw [up_k (by omega), cpP_o (by omega) 33, hK]
      by_cases e : b = k
      · subst e; rw [if_pos rfl, up_s]
      · rw [if_neg e, up_j e, cpT_o (by omega)]
    have f54 : ∀ b, up (cpP K 0 (33 * (k + 1)) 33) 54 k 1 54 b = if b = k then 1 else h 54 b := fun b => by
      by_cases e : b = k
      · subst e; rw [if_pos rfl, up_s]
      · rw [if_neg e, up_j e, cpP_o (by omega) 33, e1 54 b (by omega) (by omega)]
    have ft : ∀ a b, 16 + 7 * k ≤ a → a ≤ 16 + 7 * k + 6 → up (cpP K 0 (33 * (k + 1)) 33) 54 k 1 a b = cpT h 1 (16 + 7 * k) a b := fun a b z1 z2 => by
      rw [up_k (by omega), cpP_o (by omega) 33, hK, up_k (by omega)]
    have fp : ∀ b, b < 33 → up (cpP K 0 (33 * (k + 1)) 33) 54 k 1 46 (33 * (k + 1) + b) = h 46 b := fun b hb => by
      rw [up_k (by omega), cpP_i (by omega) 33 b (by omega) hb, e1 46 _ (by omega) (by omega), Nat.zero_add]
    generalize up (cpP K 0 (33 * (k + 1)) 33) 54 k 1 = W at f f30 f54 ft fp
    have wk : wT W (16 + 7 * k) := wT_cong (fun a b z1 z2 => ft a b z1 z2) (wT_cpT hX.1.1 (wT_im hX k (by omega)))
    have wo : ∀ j, j ≤ 1 → wT W (16 + 7 * j) := fun j hj => by
      by_cases e : j = k
      · subst e; exact wk
      · exact wT_cong (fun a b z1 z2 => f a b (by omega) (by omega) (by omega) (by omega)) (wT_im hX j hj)
    refine INV_P.mpr ⟨P1_cg (fun a b z => f a b (by omega) (by omega) (by omega) (by omega)) p1, wT_cong (fun a b _ _ => f a b (by omega) (by omega) (by omega) (by omega)) p2, ⟨wo 0 (by omega), wo 1 (by omega), fun j => ?_, fun j => ?_, fun j hj hn => ?_, fun j hj => ?_⟩, P4_cg (fun a b z => f a b (by omega) (by omega) (by omega) (by omega)) p4, P5_cg (fun a b z => f a b (by omega) (by omega) (by omega) (by omega)) p5, P6_cg (fun a b z => f a b (by omega) (by omega) (by omega) (by omega)) p6, P7_cg (fun a b z => f a b (by omega) (by omega) (by omega) (by omega)) p7, wN_cg (fun a b z => f a b (by omega) (by omega) (by omega) (by omega)) p8⟩
    · rw [f30]; split
      · exact Or.inr rfl
      · exact s3 j
    · rw [f54]; split
      · exact Or.inr rfl
      · exact s4 j
    · by_cases e : j = k
      · subst e
        exact wPg_cong (fun b hb => fp b hb) hM.1.1
      · rw [f54, if_neg e] at hn
        exact wPg_cong (fun b hb => f 46 _ (by omega) (by omega) (by omega) (by omega)) (s5 j hj hn)
    · rw [f30, f54]
      by_cases e : j = k
      · subst e
        rw [if_pos rfl, if_pos rfl]
        refine ⟨rfl, fun _ => ⟨RT_cp (p := 1) (pg := h 46) hX.1.1 (fun b z1 z2 => ?_) (fun i b z1 z2 z3 => ?_) (fun b hb => fp b hb) hR.1.1, ?_⟩⟩
        · rw [ft _ _ (by omega) (by omega), cpT_f ⟨z1, z2⟩]
        · rw [ft _ _ (by omega) (by omega), cpT_r i ⟨z1, z2⟩ z3]
        · rw [ft _ _ (by omega) (by omega), cpT_f ⟨by omega, by omega⟩, f 45 1 (by omega) (by omega) (by omega) (by omega)]
          exact hR.1.2
      · rw [if_neg e, if_neg e]
        refine ⟨(s6 j hj).1, fun hn => ?_⟩
        obtain ⟨z1, z2⟩ := (s6 j hj).2 hn
        refine ⟨RT_cg (wT_im hX j hj) (fun a b y1 y2 => f a b (by omega) (by omega) (by omega) (by omega)) (fun b hb => f 46 _ (by omega) (by omega) (by omega) (by omega)) z1, ?_⟩
        rw [f _ 6 (by omega) (by omega) (by omega) (by omega), f 45 1 (by omega) (by omega) (by omega) (by omega)]
        exact z2
  · have es : sKeep k h = (-1, h) := by
      unfold sKeep
      rw [if_pos (by omega)]
    have et : tKeep k h = (-1, h) := by
      unfold tKeep
      rw [if_neg q]
    rw [es] at cc
    have mm := m_keep (l := l) lm hM.2.2.1 k
    rw [et] at mm
    exact du_s (by omega) cc (by omega) (mm.mono (fun r h2 y => ⟨y.1, eq_5 y.2⟩)) rfl I
theorem cpP_0 {K : zH} {k b : Nat} (hb : b < 33) : cpP K (33 * (k + 1)) 0 33 46 b = K 46 (33 * (k + 1) + b) := by
  have := cpP_i (h := K) (a := 33 * (k + 1)) (b := 0) (by omega) 33 b (by omega) hb
  rw [Nat.zero_add] at this
  exact this
theorem wg_back {K : zH} (hM : IM K) : ∀ k : Nat, k ≤ 1 → ¬ K 54 k = 0 → wPg (cpP K (33 * (k + 1)) 0 33 46) := fun k hk hn => wPg_cong (fun b hb => cpP_0 hb) (hM.2.2.2.2.2 k hk hn)
theorem du_back (lx : LX G) (lm : LM G) (I : INV h) (k : Int) : DuI l G mX3_back mX4_back [vI k] h cmp INV := by
  obtain ⟨hX, hM, hR⟩ := id I
  have cc := c_back (l := l) lx hX k
  by_cases q : 0 ≤ k ∧ k ≤ 1
  · obtain ⟨k, rfl⟩ := Int.eq_ofNat_of_zero_le q.1
    have hke := (hR.2.1 k (by omega)).1
    by_cases q2 : h 54 k = 0
    · have es : sBack k h = (-2, h) := by
        unfold sBack
        rw [if_neg (by omega), Int.toNat_natCast, hke, if_pos q2]
      have et : tBack k h = (-2, h) := by
        unfold tBack
        rw [if_neg (fun z => z q), Int.toNat_natCast, if_pos q2]
      rw [es] at cc
      have mm := m_back (l := l) lm k (wg_back hM)
      rw [et] at mm
      exact du_s (by omega) cc (by omega) (mm.mono (fun r h2 y => ⟨y.1, eq_5 y.2⟩)) rfl I
    · have es : sBack k h = (hmA (cpT h (16 + 7 * k) 1) 1, cpT h (16 + 7 * k) 1) := by
        unfold sBack
        rw [if_neg (by omega), Int.toNat_natCast, hke, if_neg q2, imP_n k (by omega)]
      rw [es] at cc
      dsimp only at cc
      have e1 : ∀ a b, ¬ (1 ≤ a ∧ a ≤ 7) → cpT h (16 + 7 * k) 1 a b = h a b := fun a b z => cpT_o (by omega)
      have hM1 := IM_town hM e1
      have mm := m_back (l := l) lm k (wg_back hM1)
      have et : tBack k (cpT h (16 + 7 * k) 1) = (hmM (cpP (cpT h (16 + 7 * k) 1) (33 * (k + 1)) 0 33 46), setB (cpP (cpT h (16 + 7 * k) 1) (33 * (k + 1)) 0 33) 51 48 (rdM (cpP (cpT h (16 + 7 * k) 1) (33 * (k + 1)) 0 33 46))) := by
        unfold tBack
        rw [if_neg (fun z => z q), Int.toNat_natCast, e1 54 k (by omega), if_neg q2]
      rw [et] at mm
      dsimp only at mm
      have wg := wg_back hM1 k (by omega) (by rw [e1 54 k (by omega)]; exact q2)
      obtain ⟨r1, r2⟩ := (hR.2.1 k (by omega)).2 q2
      have wim := wT_im hX k (by omega)
      have wt : wT (cpT h (16 + 7 * k) 1) 1 := wT_cpT wim hX.1.1
      have rt : RT (cpT h (16 + 7 * k) 1) 1 (cpP (cpT h (16 + 7 * k) 1) (33 * (k + 1)) 0 33 46) := RT_cp wim (fun b z1 z2 => cpT_f ⟨z1, z2⟩) (fun i b z1 z2 z3 => cpT_r i ⟨z1, z2⟩ z3) (fun b hb => by rw [cpP_0 hb, e1 46 _ (by omega)]) r1
      refine du_s (by omega) cc (by omega) (mm.mono (fun r h2 y => ⟨y.1, fun a b z _ _ _ => by rw [y.2, setB_n z]⟩)) (hm_eq rt wt wg) ?_
      refine INV_town I e1 (fun a b z => ?_) wt wg rt ?_
      · by_cases ea : a = 46
        · subst ea
          exact cpP_x 33 b (by omega)
        · exact cpP_o ea 33
      · rw [cpT_f ⟨by omega, by omega⟩, r2, hR.1.2]
  · have es : sBack k h = (-1, h) := by
      unfold sBack
      rw [if_pos (by omega)]
    have et : tBack k h = (-1, h) := by
      unfold tBack
      rw [if_pos q]
    rw [es] at cc
    have mm := m_back (l := l) lm k (wg_back hM)
    rw [et] at mm
    exact du_s (by omega) cc (by omega) (mm.mono (fun r h2 y => ⟨y.1, eq_5 y.2⟩)) rfl I
theorem rdR_eq {x m : zH} (wx : wX x) (hM : IM m) (hR : Rel x m) {k : Nat} (hk : k < 4) {a f : Int} (ha : 0 ≤ a) (hf : in32 f) : ∀ (n t : Nat), n + t ≤ 20 → (t = 0 ∨ (0 ≤ f + 2 * (t : Int) ∧ f + 2 * (t : Int) ≤ 40)) → rdR (prF x (34 + 2 * k) a f) (okB x (34 + 2 * k) f) n t = rdR (prM m k a f) (okM m k f) n t
  | 0, _, _, _ => rfl
  | n + 1, t, hn, ht => by
    have hw : atF f t = f + 2 * (t : Int) := by
      unfold atF
      obtain ⟨f1, f2⟩ := hf
      exact w32_id (by omega) (by omega)
    have hl := hM.2.1 k hk
    have b0 := rfu_eq hM.2.1 hR.2.2.2.2.1 hk a (f + 2 * (t : Int)) ha
    have e0 : bzM m k a f (2 * t) = byM (m 55 k) (m 56 k) a (f + 2 * (t : Int)) := by unfold bzM; rw [show (((2 * t : Nat) : Int)) = 2 * (t : Int) by omega]
    have e1 : bzM m k a f (2 * t + 1) = byM (m 55 k) (m 56 k) a (f + 2 * (t : Int) + 1) := by unfold bzM; rw [show f + (((2 * t + 1 : Nat) : Int)) = f + 2 * (t : Int) + 1 by omega]
    have hp : prF x (34 + 2 * k) a f t = prM m k a f t := by
      unfold prF prM
      rw [hw, b0, e0]
      by_cases c : byM (m 55 k) (m 56 k) a (f + 2 * (t : Int)) = 0
      · rw [if_neg (fun z => z c), if_neg (fun z => z c), e1]
        have := byM_0 c
        rw [w32_id (by omega) (by omega)]
        exact rfu_eq hM.2.1 hR.2.2.2.2.1 hk a _ ha
      · rw [if_pos c, if_pos c]
    unfold rdR
    rw [hp]
    by_cases c : prM m k a f t = 0
    · rw [if_neg (show ¬ ¬ prM m k a f t = 0 from fun z => z c), if_neg (show ¬ ¬ prM m k a f t = 0 from fun z => z c)]
      have c0 : byM (m 55 k) (m 56 k) a (f + 2 * (t : Int)) = 0 := by
        unfold prM at c
        rw [e0] at c
        by_cases y : byM (m 55 k) (m 56 k) a (f + 2 * (t : Int)) = 0
        · exact y
        · rw [if_pos y] at c
          exact absurd c y
      have c1 : byM (m 55 k) (m 56 k) a (f + 2 * (t : Int) + 1) = 0 := by
        unfold prM at c
        rw [e0, if_neg (fun z => z c0), e1] at c
        exact c
      have d0 := byM_0 c0
      have d1 := byM_0 c1
      have cells := (hR.2.2.2.2.1 k hk).2.2
      have x0 : x (34 + 2 * k + 1) (f + 2 * (t : Int)).toNat = ceM m k f (2 * t) := by
        rw [cells _ (by omega)]
        unfold ceM
        rw [show (((2 * t : Nat) : Int)) = 2 * (t : Int) by omega]
      have x1 : x (34 + 2 * k + 1) (f + 2 * (t : Int) + 1).toNat = ceM m k f (2 * t + 1) := by
        rw [cells _ (by omega)]
        unfold ceM
        rw [show f + (((2 * t + 1 : Nat) : Int)) = f + 2 * (t : Int) + 1 by omega]
      have ho : okB x (34 + 2 * k) f t = okM m k f t := by
        unfold okB okM mayB
        rw [hw, x0, x1, hR.1.2]
      rw [ho, rdR_eq wx hM hR hk ha hf n (t + 1) (by omega) (by omega)]
    · rw [if_pos c, if_pos c]
theorem RT_read {x m : zH} (wx : wX x) (hM : IM m) (hR : Rel x m) {k : Nat} (hk : k < 4) {a f : Int} (ha : 0 ≤ a) (hf : in32 f) : ∀ (T : Nat), T ≤ 20 → (∀ i, i < T → prM m k a f i = 0 ∧ okM m k f i = true) → RT (stH x (34 + 2 * k) f T) 1 (sgM (ceM m k f) (m 46) T) ∧ wT (stH x (34 + 2 * k) f T) 1 ∧ stH x (34 + 2 * k) f T 1 6 = x 1 6
  | 0, _, _ => ⟨hR.1.1, wx.1.1, rfl⟩
  | T + 1, hT, hp => by
    obtain ⟨i1, i2, i3⟩ := RT_read wx hM hR hk ha hf T (by omega) (fun i hi => hp i (by omega))
    obtain ⟨c, o⟩ := hp T (by omega)
    have hl := hM.2.1 k hk
    have e0 : bzM m k a f (2 * T) = byM (m 55 k) (m 56 k) a (f + 2 * (T : Int)) := by unfold bzM; rw [show (((2 * T : Nat) : Int)) = 2 * (T : Int) by omega]
    have e1 : bzM m k a f (2 * T + 1) = byM (m 55 k) (m 56 k) a (f + 2 * (T : Int) + 1) := by unfold bzM; rw [show f + (((2 * T + 1 : Nat) : Int)) = f + 2 * (T : Int) + 1 by omega]
    have c0 : byM (m 55 k) (m 56 k) a (f + 2 * (T : Int)) = 0 := by
      unfold prM at c
      rw [e0] at c
      by_cases y : byM (m 55 k) (m 56 k) a (f + 2 * (T : Int)) = 0
      · exact y
      · rw [if_pos y] at c
        exact absurd c y
    have c1 : byM (m 55 k) (m 56 k) a (f + 2 * (T : Int) + 1) = 0 := by
      unfold prM at c
      rw [e0, if_neg (fun z => z c0), e1] at c
      exact c
    have d0 := byM_0 c0
    have d1 := byM_0 c1
    have cells := (hR.2.2.2.2.1 k hk).2.2
    have hw : atF f T = f + 2 * (T : Int) := by
      unfold atF
      exact w32_id (by omega) (by omega)
    have x0 : x (34 + 2 * k + 1) (f + 2 * (T : Int)).toNat = ceM m k f (2 * T) := by
      rw [cells _ (by omega)]
      unfold ceM
      rw [show (((2 * T : Nat) : Int)) = 2 * (T : Int) by omega]
    have x1 : x (34 + 2 * k + 1) (f + 2 * (T : Int) + 1).toNat = ceM m k f (2 * T + 1) := by
      rw [cells _ (by omega)]
      unfold ceM
      rw [show f + (((2 * T + 1 : Nat) : Int)) = f + 2 * (T : Int) + 1 by omega]
    have ok : (0 ≤ ceM m k f (2 * T) ∧ ceM m k f (2 * T) < 12) ∧ (ceM m k f (2 * T + 1) = -4 ∨ (0 ≤ ceM m k f (2 * T + 1) ∧ ceM m k f (2 * T + 1) < m 45 1)) := of_decide_eq_true o
    have hmen := hR.1.2
    have w6 := wx.1.1.1
    unfold stH sgM
    rw [hw, x0, x1]
    refine ⟨RT_reb (RC_stand i1.1 (by rw [i3]; exact w6.2) (by omega) (by rw [i3, hmen]; exact ok.2)), wT_reb (wT_up3 i2 (by omega)), ?_⟩
    rw [reb_n (by omega), up_k (by omega)]
    exact i3
theorem du_read (lx : LX G) (lm : LM G) (I : INV h) (k a f n : Int) (hf : in32 f) : DuI l G mX3_read mX4_read [vI k, vI a, vI f, vI n] h cmp INV := by
  obtain ⟨hX, hM, hR⟩ := id I
  have cc := c_read (l := l) lx hX k a f n
  by_cases q : (0 ≤ k ∧ k ≤ 3) ∧ (0 ≤ a ∧ a ≤ 2) ∧ (0 ≤ n ∧ n ≤ 20)
  · obtain ⟨q1, q2, q3⟩ := q
    obtain ⟨k, rfl⟩ := Int.eq_ofNat_of_zero_le q1.1
    obtain ⟨N, rfl⟩ := Int.eq_ofNat_of_zero_le q3.1
    have hshp : shP (k : Int) = 34 + 2 * k := by unfold shP; rw [Int.toNat_natCast]
    have er := rdR_eq hX hM hR (k := k) (by omega) q2.1 hf N 0 (by omega) (Or.inl rfl)
    have hok := rdR_ok (prM h k a f) (okM h k f) N 0
    have hrt := RT_read hX hM hR (k := k) (by omega) q2.1 hf (rdR (prM h k a f) (okM h k f) N 0).2.2 (by omega) (fun i hi => hok.2.2 i (by omega) hi)
    have hby : 0 ≤ (rdR (prM h k a f) (okM h k f) N 0).2.1 ∧ (rdR (prM h k a f) (okM h k f) N 0).2.1 ≤ 3 := by
      have hb : ∀ z, 0 ≤ bzM h k a f z ∧ bzM h k a f z ≤ 3 := fun z => by
        unfold bzM byM
        split
        · omega
        · split
          · omega
          · split <;> omega
      have hp : ∀ t, 0 ≤ prM h k a f t ∧ prM h k a f t ≤ 3 := fun t => by
        unfold prM
        split
        · exact hb _
        · exact hb _
      have : ∀ n t, 0 ≤ (rdR (prM h k a f) (okM h k f) n t).2.1 ∧ (rdR (prM h k a f) (okM h k f) n t).2.1 ≤ 3 := by
        intro n
        induction n with
        | zero => intro t; simp [rdR]
        | succ n ih =>
          intro t
          unfold rdR
          split
          · exact hp t
          · split
            · exact ih _
            · exact ⟨Int.le_refl 0, (show (0 : Int) ≤ 3 by decide)⟩
      exact this N 0
    have hc1 : ∀ h1 : zH, (∀ x y, 45 ≤ x → h1 x y = h x y) → rdR (prM h1 k a f) (okM h1 k f) N 0 = rdR (prM h k a f) (okM h k f) N 0 ∧ ceM h1 k f = ceM h k f := by
      intro h1 e
      have ec : ceM h1 k f = ceM h k f := funext fun i => by unfold ceM; rw [e 57 _ (by omega)]
      have ep : prM h1 k a f = prM h k a f := funext fun t => by unfold prM bzM; rw [e 55 k (by omega), e 56 k (by omega)]
      have eo : okM h1 k f = okM h k f := funext fun t => by unfold okM; rw [ec, e 45 1 (by omega)]
      rw [ep, eo]
      exact ⟨rfl, ec⟩
    by_cases q4 : (rdR (prM h k a f) (okM h k f) N 0).1 = 1
    · have es : sRead k a f N h = (-20 - ((rdR (prM h k a f) (okM h k f) N 0).2.2 : Int), h) := by
        unfold sRead
        rw [if_neg (fun z => z (by omega)), Int.toNat_natCast, hshp, er, if_pos q4]
      have et : tRead k a f N h = (-20 - ((rdR (prM h k a f) (okM h k f) N 0).2.2 : Int), h) := by
        unfold tRead
        rw [if_neg (fun z => z (by omega)), Int.toNat_natCast, Int.toNat_natCast, if_pos q4]
      rw [es] at cc
      have mm := m_read (l := l) lm hM.1 hM.2.1 k a f N
      rw [et] at mm
      exact du_s (by omega) cc (by omega) mm rfl I
    · have es : sRead k a f N h = (((rdR (prM h k a f) (okM h k f) N 0).2.2 : Int), up (stH h (34 + 2 * k) f (rdR (prM h k a f) (okM h k f) N 0).2.2) 0 10 (rdR (prM h k a f) (okM h k f) N 0).2.1) := by
        unfold sRead
        rw [if_neg (fun z => z (by omega)), Int.toNat_natCast, hshp, er, if_neg q4]
      rw [es] at cc
      dsimp only at cc
      generalize hRR : rdR (prM h k a f) (okM h k f) N 0 = R at *
      obtain ⟨K, hK⟩ : ∃ K, K = up (stH h (34 + 2 * k) f R.2.2) 0 10 R.2.1 := ⟨_, rfl⟩
      rw [← hK] at cc
      have e1 : ∀ x y, ¬ (1 ≤ x ∧ x ≤ 7) → ¬ (x = 0 ∧ y = 10) → K x y = h x y := fun x y z1 z2 => by rw [hK, up_n z2, stH_o _ _ _ _ _ _ (by omega) (by omega)]
      have hM1 := IM_e (fun x y z => e1 x y (by omega) (by omega)) hM
      obtain ⟨k1, k2⟩ := hc1 K (fun x y z => e1 x y (by omega) (by omega))
      have e46 : K 46 = h 46 := funext fun b => e1 46 b (by omega) (by omega)
      have mm := m_read (l := l) lm hM1.1 hM1.2.1 k a f N
      have et : tRead k a f N K = ((R.2.2 : Int), fun x y => if x = 46 then sgM (ceM h k f) (h 46) R.2.2 y else if x = 45 ∧ y = 28 then R.2.1 else K x y) := by
        unfold tRead
        rw [if_neg (fun z => z (by omega)), Int.toNat_natCast, Int.toNat_natCast, k1, k2, if_neg q4, e46]
      rw [et] at mm
      dsimp only at mm
      refine du_s (by omega) cc (by omega) mm rfl ?_
      obtain ⟨rt, wt, r6⟩ := hrt
      have hg := sg_in (men := h 45 1) hM.1.2.1.2 hM.1.1 R.2.2 (ce := ceM h k f) (fun j hj => of_decide_eq_true (hok.2.2 j (by omega) hj).2)
      obtain ⟨p1, p2, p3, p4, p5, p6, p7, p8⟩ := INV_P.mp I
      have f46 : ∀ y, (fun x y => if x = 46 then sgM (ceM h k f) (h 46) R.2.2 y else if x = 45 ∧ y = 28 then R.2.1 else K x y : zH) 46 y = sgM (ceM h k f) (h 46) R.2.2 y := fun y => rfl
      have f28 : (fun x y => if x = 46 then sgM (ceM h k f) (h 46) R.2.2 y else if x = 45 ∧ y = 28 then R.2.1 else K x y : zH) 45 28 = R.2.1 := rfl
      have f0 : (fun x y => if x = 46 then sgM (ceM h k f) (h 46) R.2.2 y else if x = 45 ∧ y = 28 then R.2.1 else K x y : zH) 0 10 = R.2.1 := by
        show K 0 10 = _
        rw [hK, up_s]
      have f1 : ∀ x y, 1 ≤ x → x ≤ 7 → (fun x y => if x = 46 then sgM (ceM h k f) (h 46) R.2.2 y else if x = 45 ∧ y = 28 then R.2.1 else K x y : zH) x y = stH h (34 + 2 * k) f R.2.2 x y := fun x y z1 z2 => by
        dsimp only
        rw [if_neg (by omega), if_neg (by omega), hK, up_k (by omega)]
      have ff : ∀ x y, ¬ (1 ≤ x ∧ x ≤ 7) → ¬ (x = 0 ∧ y = 10) → x ≠ 46 → ¬ (x = 45 ∧ y = 28) → (fun x y => if x = 46 then sgM (ceM h k f) (h 46) R.2.2 y else if x = 45 ∧ y = 28 then R.2.1 else K x y : zH) x y = h x y := fun x y z1 z2 z3 z4 => by
        dsimp only
        rw [if_neg z3, if_neg z4, e1 x y z1 z2]
      generalize (fun x y => if x = 46 then sgM (ceM h k f) (h 46) R.2.2 y else if x = 45 ∧ y = 28 then R.2.1 else K x y : zH) = W at f46 f28 f0 f1 ff
      refine INV_P.mpr ⟨⟨wT_cong (fun a b z1 z2 => f1 a b (by omega) (by omega)) wt, wPg_cong (fun b hb => f46 b) hg.1, by rw [ff 45 1 (by omega) (by omega) (by omega) (by omega)]; exact p1.2.2.1, RT_cg wt (fun a b z1 z2 => f1 a b (by omega) (by omega)) (fun b hb => f46 b) rt, ?_⟩, wT_cong (fun a b _ _ => ff a b (by omega) (by omega) (by omega) (by omega)) p2, P3_cg (h := h) (fun a b z => ?_) p3, P4_cg (fun a b z => ff a b (by omega) (by omega) (by omega) (by omega)) p4, P5_cg (fun a b z => ff a b (by omega) (by omega) (by omega) (by omega)) p5, P6_cg (fun a b z => ff a b (by omega) (by omega) (by omega) (by omega)) p6, ⟨by rw [f0]; exact hby, by rw [f0, f28]⟩, wN_cg (fun a b z => ff a b (by omega) (by omega) (by omega) (by omega)) p8⟩
      · rw [f1 1 6 (by omega) (by omega), r6, ff 45 1 (by omega) (by omega) (by omega) (by omega)]
        exact hR.1.2
      · by_cases e : a = 46
        · subst e
          rw [f46, hg.2 b (by omega)]
        · exact ff a b (by omega) (by omega) e (by omega)
  · have es : sRead k a f n h = (-1, h) := by
      unfold sRead
      rw [if_pos (fun z => q (by omega))]
    have et : tRead k a f n h = (-1, h) := by
      unfold tRead
      rw [if_pos q]
    rw [es] at cc
    have mm := m_read (l := l) lm hM.1 hM.2.1 k a f n
    rw [et] at mm
    exact du_s (by omega) cc (by omega) mm rfl I
end DS
