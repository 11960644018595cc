/-! pairs: alter, move, shift, cloud, paint, want, drop -/
section DS
variable {l : Launch} {G : zG} {h : zH} {cmp : Bool}
theorem IM_town {k : zH} (hM : IM h) (e1 : ∀ a b, ¬ (1 ≤ a ∧ a ≤ 7) → k a b = h a b) : IM k := IM_e (fun a b z => e1 a b (by omega)) hM
theorem RB_o {p k j : Nat} {v : Int} (hk : k < p ∨ p + 6 < k ∨ k = p + 4 ∨ k = p + 5 ∨ (k = p ∧ (j = 7 ∨ j = 8))) (r : RB h p) : RB (up h k j v) p :=
  RB_c (up_n (by omega)) (up_n (by omega)) (fun i b q => up_k (by omega)) r
theorem du_alter (lx : LX G) (lm : LM G) (I : INV h) (m x v : Int) : DuI l G mX3_alter mX4_alter [vI m, vI x, vI v] h cmp INV := by
  obtain ⟨hX, hM, hR⟩ := id I
  have hmen : h 1 6 = h 45 1 := hR.1.2
  have w6 := hX.1.1.1
  have cc := c_alter (l := l) lx hX m x v
  by_cases q : (0 ≤ m ∧ m < h 1 6) ∧ ((x = 0 ∧ (0 ≤ v ∧ v ≤ 3)) ∨ (x = 1 ∧ (0 ≤ v ∧ v ≤ 6)))
  · obtain ⟨q1, q2⟩ := q
    obtain ⟨m, rfl⟩ := Int.eq_ofNat_of_zero_le q1.1
    rcases q2 with ⟨rfl, q2⟩ | ⟨rfl, q2⟩
    · have es : sAlter m 0 v h = (h (1 + 1) m, reb 1 (up h (1 + 1) m v)) := by
        unfold sAlter
        rw [if_neg (fun z => z ⟨q1, Or.inl rfl⟩), if_neg (by rw [if_pos rfl]; omega), if_pos rfl, Int.toNat_natCast]
      rw [es] at cc
      dsimp only at cc
      have e1 : ∀ a b, ¬ (1 ≤ a ∧ a ≤ 7) → reb 1 (up h (1 + 1) m v) a b = h a b := fun a b z => by rw [reb_n (by omega), up_k (by omega)]
      have e46 : reb 1 (up h (1 + 1) m v) 46 = h 46 := funext fun b => e1 46 b (by omega)
      have mm := m_alter (l := l) lm (IM_town hM e1).1 m 0 v
      have et : tAlter m 0 v (reb 1 (up h (1 + 1) m v)) = (h (1 + 1) m, up (reb 1 (up h (1 + 1) m v)) 46 m v) := by
        unfold tAlter
        rw [e1 45 1 (by omega), if_pos ⟨by omega, Or.inl ⟨rfl, q2⟩⟩, show (4 * 0 + (m : Int)).toNat = m by omega, e46, (hR.1.1.1.2.1 m q1.2).1]
      rw [et] at mm
      dsimp only at mm
      refine du_s (by omega) cc (by omega) (mm.mono (fun r h2 z => ⟨z.1, eq_5 z.2⟩)) rfl ?_
      refine INV_town I e1 (fun a b z => up_n (by omega)) (wT_reb (wT_up1 hX.1.1 q2)) ?_ ?_ (by rw [reb_n (by omega), up_k (by omega)])
      · rw [up_pg, e46]; exact wPg_up0 (by omega) hM.1.1 q2
      · rw [up_pg, e46]; exact RT_reb (RC_kind hR.1.1.1 (by omega) v)
    · have es : sAlter m 1 v h = (h (1 + 2) m, reb 1 (up h (1 + 2) m v)) := by
        unfold sAlter
        rw [if_neg (fun z => z ⟨q1, Or.inr rfl⟩), if_neg (by rw [if_neg (by omega)]; omega), if_neg (by omega), Int.toNat_natCast]
      rw [es] at cc
      dsimp only at cc
      have e1 : ∀ a b, ¬ (1 ≤ a ∧ a ≤ 7) → reb 1 (up h (1 + 2) m v) a b = h a b := fun a b z => by rw [reb_n (by omega), up_k (by omega)]
      have e46 : reb 1 (up h (1 + 2) m v) 46 = h 46 := funext fun b => e1 46 b (by omega)
      have mm := m_alter (l := l) lm (IM_town hM e1).1 m 1 v
      have et : tAlter m 1 v (reb 1 (up h (1 + 2) m v)) = (h (1 + 2) m, up (reb 1 (up h (1 + 2) m v)) 46 (4 + m) v) := by
        unfold tAlter
        rw [e1 45 1 (by omega), if_pos ⟨by omega, Or.inr ⟨rfl, q2⟩⟩, show (4 * 1 + (m : Int)).toNat = 4 + m by omega, e46, (hR.1.1.1.2.1 m q1.2).2]
      rw [et] at mm
      dsimp only at mm
      refine du_s (by omega) cc (by omega) (mm.mono (fun r h2 z => ⟨z.1, eq_5 z.2⟩)) rfl ?_
      refine INV_town I e1 (fun a b z => up_n (by omega)) (wT_reb (wT_up2 hX.1.1 q2)) ?_ ?_ (by rw [reb_n (by omega), up_k (by omega)])
      · rw [up_pg, e46]; exact wPg_up4 (by omega) hM.1.1 q2
      · rw [up_pg, e46]; exact RT_reb (RC_lean hR.1.1.1 w6.2 (by omega) v)
  · have es : sAlter m x v h = (-1, h) := by
      unfold sAlter
      by_cases z1 : (0 ≤ m ∧ m < h 1 6) ∧ (x = 0 ∨ x = 1)
      · rw [if_neg (fun y => y z1)]
        have : v < 0 ∨ (if x = 0 then (4 : Int) else 7) ≤ v := by
          rcases z1.2 with rfl | rfl
          · rw [if_pos rfl]; omega
          · rw [if_neg (by omega)]; omega
        rw [if_pos this]
      · rw [if_pos z1]
    have et : tAlter m x v h = (-1, h) := by
      unfold tAlter
      rw [← hmen, if_neg q]
    rw [es] at cc
    dsimp only at cc
    have mm := m_alter (l := l) lm hM.1 m x v
    rw [et] at mm
    dsimp only at mm
    exact du_s (by omega) cc (by omega) (mm.mono (fun r h2 y => ⟨y.1, eq_5 y.2⟩)) rfl I
theorem du_move (lx : LX G) (lm : LM G) (I : INV h) (i x v : Int) : DuI l G mX3_move mX4_move [vI i, vI x, vI v] h cmp INV := by
  obtain ⟨hX, hM, hR⟩ := id I
  have hd : h 1 7 = h 46 32 := hR.1.1.1.1.1
  have w6 := hX.1.1.1
  have w7 := hX.1.1.2.1
  have cc := c_move (l := l) lx hX i x v
  by_cases q : (0 ≤ i ∧ i < h 1 7) ∧ ((x = 0 ∧ (0 ≤ v ∧ v ≤ 47)) ∨ (x = 1 ∧ (1 ≤ v ∧ v ≤ 9)))
  · obtain ⟨q1, q2⟩ := q
    obtain ⟨i, rfl⟩ := Int.eq_ofNat_of_zero_le q1.1
    rcases q2 with ⟨rfl, q2⟩ | ⟨rfl, q2⟩
    · have es : sMove i 0 v h = (h (1 + 4) i, up h (1 + 4) i v) := by
        unfold sMove
        rw [if_neg (fun z => z ⟨q1, Or.inl rfl⟩), if_pos rfl, if_pos (by omega), Int.toNat_natCast]
      rw [es] at cc
      dsimp only at cc
      have e1 : ∀ a b, ¬ (1 ≤ a ∧ a ≤ 7) → up h (1 + 4) i v a b = h a b := fun a b z => up_k (by omega)
      have e46 : up h (1 + 4) i v 46 = h 46 := funext fun b => e1 46 b (by omega)
      have mm := m_move (l := l) lm (IM_town hM e1).1 i 0 v
      have et : tMove i 0 v (up h (1 + 4) i v) = (h (1 + 4) i, up (up h (1 + 4) i v) 46 (22 + i) v) := by
        unfold tMove
        rw [e46, if_pos ⟨by omega, Or.inl ⟨rfl, q2⟩⟩, show (22 + 5 * 0 + (i : Int)).toNat = 22 + i by omega, (hR.1.1.1.2.2.2.1 i q1.2).1]
      rw [et] at mm
      dsimp only at mm
      refine du_s (by omega) cc (by omega) (mm.mono (fun r h2 z => ⟨z.1, eq_5 z.2⟩)) rfl ?_
      refine INV_town I e1 (fun a b z => up_n (by omega)) (wT_up4 hX.1.1 q2) ?_ ?_ (up_k (by omega))
      · rw [up_pg, e46]; exact wPg_up22 (by omega) hM.1.1 q2
      · rw [up_pg, e46]; exact ⟨RC_due hR.1.1.1 w6.2 w7.2 (by omega) v, RB_o (by omega) hR.1.1.2⟩
    · have es : sMove i 1 v h = (h (1 + 5) i, up h (1 + 5) i v) := by
        unfold sMove
        rw [if_neg (fun z => z ⟨q1, Or.inr rfl⟩), if_neg (by omega), if_pos (by omega), Int.toNat_natCast]
      rw [es] at cc
      dsimp only at cc
      have e1 : ∀ a b, ¬ (1 ≤ a ∧ a ≤ 7) → up h (1 + 5) i v a b = h a b := fun a b z => up_k (by omega)
      have e46 : up h (1 + 5) i v 46 = h 46 := funext fun b => e1 46 b (by omega)
      have mm := m_move (l := l) lm (IM_town hM e1).1 i 1 v
      have et : tMove i 1 v (up h (1 + 5) i v) = (h (1 + 5) i, up (up h (1 + 5) i v) 46 (27 + i) v) := by
        unfold tMove
        rw [e46, if_pos ⟨by omega, Or.inr ⟨rfl, q2⟩⟩, show (22 + 5 * 1 + (i : Int)).toNat = 27 + i by omega, (hR.1.1.1.2.2.2.1 i q1.2).2]
      rw [et] at mm
      dsimp only at mm
      refine du_s (by omega) cc (by omega) (mm.mono (fun r h2 z => ⟨z.1, eq_5 z.2⟩)) rfl ?_
      refine INV_town I e1 (fun a b z => up_n (by omega)) (wT_up5 hX.1.1 (by omega)) ?_ ?_ (up_k (by omega))
      · rw [up_pg, e46]; exact wPg_up27 (by omega) hM.1.1 (by omega)
      · rw [up_pg, e46]; exact ⟨RC_worth hR.1.1.1 w6.2 w7.2 (by omega) v, RB_o (by omega) hR.1.1.2⟩
  · have es : sMove i x v h = (-1, h) := by
      unfold sMove
      by_cases z1 : (0 ≤ i ∧ i < h 1 7) ∧ (x = 0 ∨ x = 1)
      · rw [if_neg (fun y => y z1)]
        rcases z1.2 with rfl | rfl
        · rw [if_pos rfl, if_neg (by omega)]
        · rw [if_neg (by omega), if_neg (by omega)]
      · rw [if_pos z1]
    have et : tMove i x v h = (-1, h) := by
      unfold tMove
      rw [← hd, if_neg q]
    rw [es] at cc
    dsimp only at cc
    have mm := m_move (l := l) lm hM.1 i x v
    rw [et] at mm
    dsimp only at mm
    exact du_s (by omega) cc (by omega) (mm.mono (fun r h2 y => ⟨y.1, eq_5 y.2⟩)) rfl I
theorem du_shift (lx : LX G) (lm : LM G) (I : INV h) (x m : Int) : DuI l G mX3_shift mX4_shift [vI x, vI m] h cmp INV := by
  obtain ⟨hX, hM, hR⟩ := id I
  have hmen : h 1 6 = h 45 1 := hR.1.2
  have w6 := hX.1.1.1
  have cc := c_shift (l := l) lx hX x m
  by_cases q : (0 ≤ x ∧ x < 12) ∧ (m = -4 ∨ (0 ≤ m ∧ m < h 1 6))
  · obtain ⟨q1, q2⟩ := q
    obtain ⟨x, rfl⟩ := Int.eq_ofNat_of_zero_le q1.1
    have es : sShift x m h = (h (1 + 3) x, reb 1 (up h (1 + 3) x m)) := by
      unfold sShift
      rw [if_pos (mayB_t.mpr ⟨q1, q2⟩), Int.toNat_natCast]
    rw [es] at cc
    dsimp only at cc
    have e1 : ∀ a b, ¬ (1 ≤ a ∧ a ≤ 7) → reb 1 (up h (1 + 3) x m) a b = h a b := fun a b z => by rw [reb_n (by omega), up_k (by omega)]
    have e46 : reb 1 (up h (1 + 3) x m) 46 = h 46 := funext fun b => e1 46 b (by omega)
    have mm := m_shift (l := l) lm (IM_town hM e1).1 x m
    have et : tShift x m (reb 1 (up h (1 + 3) x m)) = (h (1 + 3) x, up (reb 1 (up h (1 + 3) x m)) 46 (8 + x) (if m = -4 then 0 else m + 1)) := by
      unfold tShift
      rw [e1 45 1 (by omega), ← hmen, if_pos ⟨q1, q2⟩, Int.toNat_natCast, e46, hR.1.1.1.2.2.1 x (by omega)]
    rw [et] at mm
    dsimp only at mm
    refine du_s (by omega) cc (by omega) (mm.mono (fun r h2 z => ⟨z.1, eq_5 z.2⟩)) rfl ?_
    refine INV_town I e1 (fun a b z => up_n (by omega)) (wT_reb (wT_up3 hX.1.1 (by omega))) ?_ ?_ (by rw [reb_n (by omega), up_k (by omega)])
    · rw [up_pg, e46]; exact wPg_up8 (by omega) hM.1.1 (by split <;> omega)
    · rw [up_pg, e46]; exact RT_reb (RC_stand hR.1.1.1 w6.2 (by omega) q2)
  · have es : sShift x m h = (-1, h) := by
      unfold sShift
      rw [if_neg (fun z => q (mayB_t.mp z))]
    have et : tShift x m h = (-1, h) := by
      unfold tShift
      rw [← hmen, if_neg q]
    rw [es] at cc
    dsimp only at cc
    have mm := m_shift (l := l) lm hM.1 x m
    rw [et] at mm
    dsimp only at mm
    exact du_s (by omega) cc (by omega) (mm.mono (fun r h2 y => ⟨y.1, eq_5 y.2⟩)) rfl I
theorem du_cloud (lx : LX G) (lm : LM G) (I : INV h) (x b : Int) : DuI l G mX3_cloud mX4_cloud [vI x, vI b] h cmp INV := by
  obtain ⟨hX, hM, hR⟩ := id I
  have h8 : h 1 8 = h 46 20 := hR.1.1.1.1.2.1
  have w6 := hX.1.1.1
  have w8 := hX.1.1.2.2.1
  have cc := c_cloud (l := l) lx hX x b
  by_cases q : 0 ≤ x ∧ x < 12
  · obtain ⟨x, rfl⟩ := Int.eq_ofNat_of_zero_le q.1
    obtain ⟨ce, c0, c1⟩ := cld_eq (j := x) w8 (by omega) b
    have es : sCloud x b h = (bitI (h 1 8) x, up h 1 8 (cldM (h 1 8) x b)) := by
      unfold sCloud
      rw [if_pos q, Int.toNat_natCast, ce]
    rw [es] at cc
    dsimp only at cc
    have e1 : ∀ a c, ¬ (1 ≤ a ∧ a ≤ 7) → up h 1 8 (cldM (h 1 8) x b) a c = h a c := fun a c z => up_k (by omega)
    have e46 : up h 1 8 (cldM (h 1 8) x b) 46 = h 46 := funext fun c => e1 46 c (by omega)
    have mm := m_cloud (l := l) lm (IM_town hM e1).1 x b
    have et : tCloud x b (up h 1 8 (cldM (h 1 8) x b)) = (bitI (h 1 8) x, up (up h 1 8 (cldM (h 1 8) x b)) 46 20 (cldM (h 1 8) x b)) := by
      unfold tCloud
      rw [if_pos q, Int.toNat_natCast, e46, ← h8]
    rw [et] at mm
    dsimp only at mm
    refine du_s (by omega) cc (by omega) (mm.mono (fun r h2 z => ⟨z.1, eq_5 z.2⟩)) rfl ?_
    refine INV_town I e1 (fun a c z => up_n (by omega)) (wT_up0 hX.1.1 (by omega) (by omega) (fun _ => ⟨c0, c1⟩) (by omega)) ?_ ?_ (up_j (by omega))
    · rw [up_pg, e46]; exact wPg_up20 hM.1.1 ⟨c0, c1⟩
    · rw [up_pg, e46]; exact ⟨RC_cloud hR.1.1.1 w6.2 _, RB_o (by omega) hR.1.1.2⟩
  · have es : sCloud x b h = (-1, h) := by
      unfold sCloud
      rw [if_neg q]
    have et : tCloud x b h = (-1, h) := by
      unfold tCloud
      rw [if_neg q]
    rw [es] at cc
    dsimp only at cc
    have mm := m_cloud (l := l) lm hM.1 x b
    rw [et] at mm
    dsimp only at mm
    exact du_s (by omega) cc (by omega) (mm.mono (fun r h2 y => ⟨y.1, eq_5 y.2⟩)) rfl I
theorem du_paint (lx : LX G) (lm : LM G) (I : INV h) (v : Int) : DuI l G mX3_paint mX4_paint [vI v] h cmp INV := by
  obtain ⟨hX, hM, hR⟩ := id I
  have h9 : h 1 9 = h 46 21 + 3 := hR.1.1.1.1.2.2
  have w6 := hX.1.1.1
  have cc := c_paint (l := l) lx hX v
  by_cases q : 0 ≤ v ∧ v ≤ 6
  · have es : sPaint v h = (h 1 9, reb 1 (up h 1 9 v)) := by
      unfold sPaint
      rw [if_neg (by omega)]
    rw [es] at cc
    dsimp only at cc
    have e1 : ∀ a c, ¬ (1 ≤ a ∧ a ≤ 7) → reb 1 (up h 1 9 v) a c = h a c := fun a c z => by rw [reb_n (by omega), up_k (by omega)]
    have e46 : reb 1 (up h 1 9 v) 46 = h 46 := funext fun c => e1 46 c (by omega)
    have mm := m_paint (l := l) lm (IM_town hM e1).1 v
    have et : tPaint v (reb 1 (up h 1 9 v)) = (h 1 9, up (reb 1 (up h 1 9 v)) 46 21 (v - 3)) := by
      unfold tPaint
      rw [if_pos q, e46, ← h9]
    rw [et] at mm
    dsimp only at mm
    refine du_s (by omega) cc (by omega) (mm.mono (fun r h2 z => ⟨z.1, eq_5 z.2⟩)) rfl ?_
    refine INV_town I e1 (fun a c z => up_n (by omega)) (wT_reb (wT_up0 hX.1.1 (by omega) (by omega) (by omega) (fun _ => q))) ?_ ?_ (by rw [reb_n (by omega), up_j (by omega)])
    · rw [up_pg, e46]; exact wPg_up21 hM.1.1 (by omega)
    · rw [up_pg, e46]; exact RT_reb (RC_paint hR.1.1.1 w6.2 v)
  · have es : sPaint v h = (-1, h) := by
      unfold sPaint
      rw [if_pos (by omega)]
    have et : tPaint v h = (-1, h) := by
      unfold tPaint
      rw [if_neg q]
    rw [es] at cc
    dsimp only at cc
    have mm := m_paint (l := l) lm hM.1 v
    rw [et] at mm
    dsimp only at mm
    exact du_s (by omega) cc (by omega) (mm.mono (fun r h2 y => ⟨y.1, eq_5 y.2⟩)) rfl I
theorem du_want (lx : LX G) (lm : LM G) (I : INV h) (a b : Int) : DuI l G mX3_want mX4_want [vI a, vI b] h cmp INV := by
  obtain ⟨hX, hM, hR⟩ := id I
  have hd : h 1 7 = h 46 32 := hR.1.1.1.1.1
  have w6 := hX.1.1.1
  have w7 := hX.1.1.2.1
  have cc := c_want (l := l) lx hX a b
  by_cases q : (0 ≤ a ∧ a ≤ 47) ∧ (1 ≤ b ∧ b ≤ 9)
  · by_cases q2 : h 1 7 < 5
    · obtain ⟨D, hD⟩ := Int.eq_ofNat_of_zero_le w7.1
      have es : sWant a b h = ((D : Int) + 1, up (up (up h (1 + 4) D a) (1 + 5) D b) 1 7 ((D : Int) + 1)) := by
        unfold sWant
        rw [if_neg (fun z => z (by omega)), if_neg (by omega), hD, Int.toNat_natCast]
      rw [es] at cc
      dsimp only at cc
      have e1 : ∀ c e, ¬ (1 ≤ c ∧ c ≤ 7) → up (up (up h (1 + 4) D a) (1 + 5) D b) 1 7 ((D : Int) + 1) c e = h c e := fun c e z => by rw [up_k (by omega), up_k (by omega), up_k (by omega)]
      have e46 : up (up (up h (1 + 4) D a) (1 + 5) D b) 1 7 ((D : Int) + 1) 46 = h 46 := funext fun c => e1 46 c (by omega)
      have mm := m_want (l := l) lm (IM_town hM e1).1 a b
      have et : tWant a b (up (up (up h (1 + 4) D a) (1 + 5) D b) 1 7 ((D : Int) + 1)) = ((D : Int) + 1, up (up (up (up (up (up h (1 + 4) D a) (1 + 5) D b) 1 7 ((D : Int) + 1)) 46 (22 + D) a) 46 (27 + D) b) 46 32 ((D : Int) + 1)) := by
        unfold tWant
        rw [e46, ← hd, hD, if_neg (fun z => z q), if_neg (by omega), Int.toNat_natCast]
      rw [et] at mm
      dsimp only at mm
      refine du_s (by omega) cc (by omega) (mm.mono (fun r h2 z => ⟨z.1, eq_5 z.2⟩)) rfl ?_
      have epg : up (up (up (up (up (up h (1 + 4) D a) (1 + 5) D b) 1 7 ((D : Int) + 1)) 46 (22 + D) a) 46 (27 + D) b) 46 32 ((D : Int) + 1) 46 = up1 (up1 (up1 (h 46) (22 + D) a) (27 + D) b) 32 ((D : Int) + 1) := by
        rw [up_pg, up_pg, up_pg, e46]
      have r2 : RC (up (up h (1 + 4) D a) (1 + 5) D b) 1 (up1 (up1 (h 46) (22 + D) a) (27 + D) b) := RC_worth (RC_due hR.1.1.1 w6.2 w7.2 (by omega) a) (by rw [up_k (by omega)]; exact w6.2) (by rw [up_k (by omega)]; exact w7.2) (by omega) b
      refine INV_town I e1 (fun c e z => by rw [up_n (by omega), up_n (by omega), up_n (by omega)]) (wT_up0 (wT_up5 (wT_up4 hX.1.1 q.1) (by omega)) (by omega) (fun _ => by omega) (by omega) (by omega)) ?_ ?_ (by rw [up_j (by omega), up_k (by omega), up_k (by omega)])
      · rw [epg]; exact wPg_up32 (wPg_up27 (by omega) (wPg_up22 (by omega) hM.1.1 q.1) (by omega)) (by omega)
      · rw [epg]
        refine ⟨RC_n r2 (by rw [up_k (by omega), up_k (by omega)]; exact w6.2) (by omega) (fun j hj => ?_), RB_o (by omega) (RB_o (by omega) (RB_o (by omega) hR.1.1.2))⟩
        by_cases e : j = D
        · subst e
          rw [up_k (by omega), up_s, up_s, up1_n (by omega), up1_s, up1_s]
          exact ⟨rfl, rfl⟩
        · exact r2.2.2.2.1 j (by rw [up_k (by omega), up_k (by omega), hD]; omega)
    · have es : sWant a b h = (-3, h) := by
        unfold sWant
        rw [if_neg (fun z => z (by omega)), if_pos (by omega)]
      have et : tWant a b h = (-3, h) := by
        unfold tWant
        rw [if_neg (fun z => z q), if_pos (by omega)]
      rw [es] at cc
      dsimp only at cc
      have mm := m_want (l := l) lm hM.1 a b
      rw [et] at mm
      dsimp only at mm
      exact du_s (by omega) cc (by omega) (mm.mono (fun r h2 y => ⟨y.1, eq_5 y.2⟩)) rfl I
  · have es : sWant a b h = (-1, h) := by
      unfold sWant
      rw [if_pos (fun z => q (by omega))]
    have et : tWant a b h = (-1, h) := by
      unfold tWant
      rw [if_pos q]
    rw [es] at cc
    dsimp only at cc
    have mm := m_want (l := l) lm hM.1 a b
    rw [et] at mm
    dsimp only at mm
    exact du_s (by omega) cc (by omega) (mm.mono (fun r h2 y => ⟨y.1, eq_5 y.2⟩)) rfl I
theorem du_drop (lx : LX G) (lm : LM G) (I : INV h) (n : Int) : DuI l G mX3_drop mX4_drop [vI n] h cmp INV := by
  obtain ⟨hX, hM, hR⟩ := id I
  have hd : h 1 7 = h 46 32 := hR.1.1.1.1.1
  have w6 := hX.1.1.1
  have w7 := hX.1.1.2.1
  have cc := c_drop (l := l) (h := h) lx n
  by_cases q : 0 ≤ n ∧ n ≤ h 1 7
  · have es : sDrop n h = (h 1 7, up h 1 7 n) := by
      unfold sDrop
      rw [if_neg (by omega)]
    rw [es] at cc
    dsimp only at cc
    have e1 : ∀ a c, ¬ (1 ≤ a ∧ a ≤ 7) → up h 1 7 n a c = h a c := fun a c z => up_k (by omega)
    have e46 : up h 1 7 n 46 = h 46 := funext fun c => e1 46 c (by omega)
    have mm := m_drop (l := l) lm (IM_town hM e1).1 n
    have et : tDrop n (up h 1 7 n) = (h 1 7, up (up h 1 7 n) 46 32 n) := by
      unfold tDrop
      rw [e46, ← hd, if_pos q]
    rw [et] at mm
    dsimp only at mm
    refine du_s (by omega) cc (by omega) (mm.mono (fun r h2 z => ⟨z.1, eq_5 z.2⟩)) rfl ?_
    refine INV_town I e1 (fun a c z => up_n (by omega)) (wT_up0 hX.1.1 (by omega) (fun _ => by omega) (by omega) (by omega)) ?_ ?_ (up_j (by omega))
    · rw [up_pg, e46]; exact wPg_up32 hM.1.1 (by omega)
    · rw [up_pg, e46]; exact ⟨RC_n hR.1.1.1 w6.2 (by omega) (fun j hj => hR.1.1.1.2.2.2.1 j (by omega)), RB_o (by omega) hR.1.1.2⟩
  · have es : sDrop n h = (-1, h) := by
      unfold sDrop
      rw [if_pos (by omega)]
    have et : tDrop n h = (-1, h) := by
      unfold tDrop
      rw [if_neg (by omega)]
    rw [es] at cc
    dsimp only at cc
    have mm := m_drop (l := l) lm hM.1 n
    rw [et] at mm
    dsimp only at mm
    exact du_s (by omega) cc (by omega) (mm.mono (fun r h2 y => ⟨y.1, eq_5 y.2⟩)) rfl I
end DS
