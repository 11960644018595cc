/-! pairs: sheet, lay, keep, back -/
theorem ly8 (v : Int) : z_ishr (z_ishl v 24) 24 = (Int32.ofInt v).toInt8.toInt := by
  have e1 := pk_shl (Int32.ofInt v) (Int32.ofInt ((24 : Nat) : Int) &&& 31) 24 (zs_l 24 (by decide))
  have e2 := bv_int (Int32.ofInt v <<< (Int32.ofInt ((24 : Nat) : Int) &&& 31))
  have e3 := bv_int (Int32.ofInt v)
  have hN := (Int32.ofInt v).toBitVec.isLt
  have h1 := Int32.le_toInt (Int32.ofInt v <<< (Int32.ofInt ((24 : Nat) : Int) &&& 31))
  have h2 := Int32.toInt_lt (Int32.ofInt v <<< (Int32.ofInt ((24 : Nat) : Int) &&& 31))
  show z_ishr (Int32.ofInt v <<< (Int32.ofInt ((24 : Nat) : Int) &&& 31)).toInt ((24 : Nat) : Int) = _
  rw [z_shr ⟨by omega, by omega⟩ (by omega), Int32.toInt_toInt8]
  rw [e1] at e2
  generalize (Int32.ofInt v <<< (Int32.ofInt ((24 : Nat) : Int) &&& 31)).toInt = y at *
  generalize (Int32.ofInt v).toInt = x at *
  generalize (Int32.ofInt v).toBitVec.toNat = N at *
  rw [Int.bmod_def]
  split <;> omega
theorem ly16 (v : Int) : z_ishr (z_ishl v 16) 16 = (Int32.ofInt v).toInt16.toInt := by
  have e1 := pk_shl (Int32.ofInt v) (Int32.ofInt ((16 : Nat) : Int) &&& 31) 16 (zs_l 16 (by decide))
  have e2 := bv_int (Int32.ofInt v <<< (Int32.ofInt ((16 : Nat) : Int) &&& 31))
  have e3 := bv_int (Int32.ofInt v)
  have hN := (Int32.ofInt v).toBitVec.isLt
  have h1 := Int32.le_toInt (Int32.ofInt v <<< (Int32.ofInt ((16 : Nat) : Int) &&& 31))
  have h2 := Int32.toInt_lt (Int32.ofInt v <<< (Int32.ofInt ((16 : Nat) : Int) &&& 31))
  show z_ishr (Int32.ofInt v <<< (Int32.ofInt ((16 : Nat) : Int) &&& 31)).toInt ((16 : Nat) : Int) = _
  rw [z_shr ⟨by omega, by omega⟩ (by omega), Int32.toInt_toInt16]
  rw [e1] at e2
  generalize (Int32.ofInt v <<< (Int32.ofInt ((16 : Nat) : Int) &&& 31)).toInt = y at *
  generalize (Int32.ofInt v).toInt = x at *
  generalize (Int32.ofInt v).toBitVec.toNat = N at *
  rw [Int.bmod_def]
  split <;> omega
theorem nar_eq (a v : Int) : narF a v = lyM a v := by
  unfold narF lyM
  rw [ly8, ly16]
theorem zeR_at {h : zH} {k a : Nat} : ∀ (n x y : Nat), zeR h k a n x y = if x = k ∧ a ≤ y ∧ y < a + n then 0 else h x y
  | 0, x, y => by unfold zeR; rw [if_neg (by omega)]
  | n + 1, x, y => by
    unfold zeR
    by_cases e : x = k ∧ y = a + n
    · rw [if_pos (by omega), e.1, e.2, up_s]
    · rw [up_n e, zeR_at n x y]
      by_cases e2 : x = k ∧ a ≤ y ∧ y < a + n
      · rw [if_pos e2, if_pos (by omega)]
      · rw [if_neg e2, if_neg (by omega)]
section DS
variable {l : Launch} {G : zG} {h : zH} {cmp : Bool}
theorem du_sheet (lx : LX G) (lm : LM G) (I : INV h) (k a n : Int) : DuI l G mX3_sheet mX4_sheet [vI k, vI a, vI n] h cmp INV := by
  obtain ⟨hX, hM, hR⟩ := id I
  have cc := c_sheet (l := l) (h := h) lx k a n
  by_cases q : (0 ≤ k ∧ k ≤ 3) ∧ (0 ≤ a ∧ a ≤ 2) ∧ n ≤ 40
  · obtain ⟨q1, q2, q3⟩ := q
    obtain ⟨k, rfl⟩ := Int.eq_ofNat_of_zero_le q1.1
    by_cases q4 : n < 0
    · have es : sSheet k a n h = (-14, h) := by
        unfold sSheet
        rw [if_neg (by omega), if_pos q4]
      have et : tSheet k a n h = (-14, h) := by
        unfold tSheet
        rw [if_neg (by omega), if_pos q4]
      rw [es] at cc
      have mm := m_sheet (l := l) (h := h) lm k a n
      rw [et] at mm
      exact du_s (by omega) cc (by omega) (mm.mono (fun r h2 y => ⟨y.1, eq_5 y.2⟩)) rfl I
    · have es : sSheet k a n h = (1, setB (up (up h (34 + 2 * k) 1 a) (34 + 2 * k) 2 n) (34 + 2 * k + 1) 40 (fun _ => 0)) := by
        unfold sSheet shP
        rw [if_neg (by omega), if_neg q4, Int.toNat_natCast]
      rw [es] at cc
      dsimp only at cc
      obtain ⟨K, hK⟩ : ∃ K, K = setB (up (up h (34 + 2 * k) 1 a) (34 + 2 * k) 2 n) (34 + 2 * k + 1) 40 (fun _ => 0) := ⟨_, rfl⟩
      rw [← hK] at cc
      have mm := m_sheet (l := l) (h := K) lm k a n
      have et : tSheet k a n K = (1, zeR (up (up K 55 k a) 56 k n) 57 (40 * k) 40) := by
        unfold tSheet
        rw [if_neg (by omega), if_neg q4, Int.toNat_natCast]
      rw [et] at mm
      dsimp only at mm
      refine du_s (by omega) cc (by omega) (mm.mono (fun r h2 y => ⟨y.1, eq_5 y.2⟩)) rfl ?_
      obtain ⟨p1, p2, p3, p4, p5, ⟨⟨s1, s2, s3, s4⟩, t2, t3⟩, p7, p8⟩ := INV_P.mp I
      have f : ∀ x y, ¬ (34 ≤ x ∧ x ≤ 41) → x ≠ 55 → x ≠ 56 → x ≠ 57 → zeR (up (up K 55 k a) 56 k n) 57 (40 * k) 40 x y = h x y := fun x y y1 y2 y3 y4 => by
        rw [zeR_at, if_neg (by omega), up_k y3, up_k y2, hK, setB_n (by omega), up_k (by omega), up_k (by omega)]
      have fl : ∀ j, j < 4 → zeR (up (up K 55 k a) 56 k n) 57 (40 * k) 40 (34 + 2 * j) 1 = if j = k then a else h (34 + 2 * j) 1 := fun j hj => by
        rw [zeR_at, if_neg (by omega), up_k (by omega), up_k (by omega), hK, setB_n (by omega), up_j (by omega)]
        by_cases e : j = k
        · subst e; rw [if_pos rfl, up_s]
        · rw [if_neg e, up_k (by omega)]
      have fs : ∀ j, j < 4 → zeR (up (up K 55 k a) 56 k n) 57 (40 * k) 40 (34 + 2 * j) 2 = if j = k then n else h (34 + 2 * j) 2 := fun j hj => by
        rw [zeR_at, if_neg (by omega), up_k (by omega), up_k (by omega), hK, setB_n (by omega)]
        by_cases e : j = k
        · subst e; rw [if_pos rfl, up_s]
        · rw [if_neg e, up_k (by omega), up_k (by omega)]
      have fc : ∀ j i, j < 4 → i < 40 → zeR (up (up K 55 k a) 56 k n) 57 (40 * k) 40 (34 + 2 * j + 1) i = if j = k then 0 else h (34 + 2 * j + 1) i := fun j i hj hi => by
        rw [zeR_at, if_neg (by omega), up_k (by omega), up_k (by omega), hK]
        by_cases e : j = k
        · subst e; rw [if_pos rfl, setB_i hi]
        · rw [if_neg e, setB_n (by omega), up_k (by omega), up_k (by omega)]
      have f55 : ∀ j, zeR (up (up K 55 k a) 56 k n) 57 (40 * k) 40 55 j = if j = k then a else h 55 j := fun j => by
        rw [zeR_at, if_neg (by omega), up_k (by omega)]
        by_cases e : j = k
        · subst e; rw [if_pos rfl, up_s]
        · rw [if_neg e, up_j e, hK, setB_n (by omega), up_k (by omega), up_k (by omega)]
      have f56 : ∀ j, zeR (up (up K 55 k a) 56 k n) 57 (40 * k) 40 56 j = if j = k then n else h 56 j := fun j => by
        rw [zeR_at, if_neg (by omega)]
        by_cases e : j = k
        · subst e; rw [if_pos rfl, up_s]
        · rw [if_neg e, up_j e, up_k (by omega), hK, setB_n (by omega), up_k (by omega), up_k (by omega)]
      have f57 : ∀ j i, i < 40 → zeR (up (up K 55 k a) 56 k n) 57 (40 * k) 40 57 (40 * j + i) = if j = k then 0 else h 57 (40 * j + i) := fun j i hi => by
        rw [zeR_at]
        by_cases e : j = k
        · subst e; rw [if_pos rfl, if_pos (by omega)]
        · rw [if_neg e, if_neg (by omega), up_k (by omega), up_k (by omega), hK, setB_n (by omega), up_k (by omega), up_k (by omega)]
      generalize zeR (up (up K 55 k a) 56 k n) 57 (40 * k) 40 = W at f fl fs fc f55 f56 f57
      have hs : ∀ j, j < 4 → wSh h (34 + 2 * j) := fun j hj => by
        rcases (show j = 0 ∨ j = 1 ∨ j = 2 ∨ j = 3 by omega) with rfl | rfl | rfl | rfl
        · exact s1
        · exact s2
        · exact s3
        · exact s4
      have hw : ∀ j, j < 4 → wSh W (34 + 2 * j) := fun j hj => by
        obtain ⟨y1, y2⟩ := hs j hj
        unfold wSh
        rw [fl j hj, fs j hj]
        constructor
        · split
          · omega
          · exact y1
        · split
          · omega
          · exact y2
      refine INV_P.mpr ⟨P1_cg (fun x y z => f x y (by omega) (by omega) (by omega) (by omega)) p1, wT_cong (fun x y _ _ => f x y (by omega) (by omega) (by omega) (by omega)) p2, P3_cg (fun x y z => f x y (by omega) (by omega) (by omega) (by omega)) p3, P4_cg (fun x y z => f x y (by omega) (by omega) (by omega) (by omega)) p4, P5_cg (fun x y z => f x y (by omega) (by omega) (by omega) (by omega)) p5, ⟨⟨hw 0 (by omega), hw 1 (by omega), hw 2 (by omega), hw 3 (by omega)⟩, fun j hj => ?_, fun j hj => ?_⟩, P7_cg (fun x y z => f x y (by omega) (by omega) (by omega) (by omega)) p7, wN_cg (fun x y z => f x y (by omega) (by omega) (by omega) (by omega)) p8⟩
      · have := t2 j hj
        rw [f55, f56]
        constructor
        · split
          · omega
          · exact this.1
        · split
          · omega
          · exact this.2
      · obtain ⟨y1, y2, y3⟩ := t3 j hj
        rw [fl j hj, fs j hj, f55, f56]
        by_cases e : j = k
        · rw [if_pos e, if_pos e, if_pos e, if_pos e, if_neg (by omega)]
          exact ⟨rfl, rfl, fun i hi => by rw [fc j i hj hi, f57 j i hi, if_pos e, if_pos e]⟩
        · rw [if_neg e, if_neg e, if_neg e, if_neg e]
          exact ⟨y1, y2, fun i hi => by rw [fc j i hj hi, f57 j i hi, if_neg e, if_neg e]; exact y3 i hi⟩
  · have es : sSheet k a n h = (-1, h) := by
      unfold sSheet
      rw [if_pos (by omega)]
    have et : tSheet k a n h = (-1, h) := by
      unfold tSheet
      rw [if_pos (by omega)]
    rw [es] at cc
    have mm := m_sheet (l := l) (h := h) lm k a n
    rw [et] at mm
    exact du_s (by omega) cc (by omega) (mm.mono (fun r h2 y => ⟨y.1, eq_5 y.2⟩)) rfl I
theorem rfu_eq {x m : zH} (wl : wL m) (r : Rh x m) {k : Nat} (hk : k < 4) (a z : Int) (ha : 0 ≤ a) : rfuF (x (34 + 2 * k) 1) (x (34 + 2 * k) 2) a z = byM (m 55 k) (m 56 k) a z := by
  obtain ⟨y1, y2, -⟩ := r k hk
  have := wl k hk
  rw [y1, y2]
  unfold rfuF byM
  by_cases e : m 55 k = -4
  · rw [if_pos e, if_pos rfl, if_pos e]
  · rw [if_neg e, if_neg e, if_neg (by omega)]
    by_cases e2 : m 55 k = a
    · rw [if_neg (show ¬ ¬ m 55 k = a from fun z => z e2), if_neg (show ¬ ¬ m 55 k = a from fun z => z e2)]
      by_cases e3 : 0 ≤ z ∧ z ≤ m 56 k - 1
      · rw [if_neg (show ¬ (z < 0 ∨ m 56 k ≤ z) by omega), if_neg (fun y => y e3)]
      · rw [if_pos (show z < 0 ∨ m 56 k ≤ z by omega), if_pos e3]
    · rw [if_pos e2, if_pos e2]
theorem du_lay (lx : LX G) (lm : LM G) (I : INV h) (k i v : Int) : DuI l G mX3_lay mX4_lay [vI k, vI i, vI v] h cmp INV := by
  obtain ⟨hX, hM, hR⟩ := id I
  have cc := c_lay (l := l) lx hX k i v
  by_cases q1 : 0 ≤ k ∧ k ≤ 3
  · obtain ⟨k, rfl⟩ := Int.eq_ofNat_of_zero_le q1.1
    obtain ⟨y1, y2, y3⟩ := hR.2.2.2.2.1 k (by omega)
    have hl := hM.2.1 k (by omega)
    have hshp : shP (k : Int) = 34 + 2 * k := by unfold shP; rw [Int.toNat_natCast]
    by_cases e : h 55 k = -4
    · rw [if_pos e] at y1
      have es : sLay k i v h = (-11, h) := by
        unfold sLay
        rw [if_neg (by omega), hshp, y1]
        unfold rfuF
        rw [if_pos rfl, if_pos (by omega)]
        rfl
      have et : tLay k i v h = (-11, h) := by
        unfold tLay
        rw [if_neg (by omega), Int.toNat_natCast, if_pos e]
      rw [es] at cc
      have mm := m_lay (l := l) (h := h) lm hM.2.1 k i v
      rw [et] at mm
      exact du_s (by omega) cc (by omega) (mm.mono (fun r h2 y => ⟨y.1, eq_5 y.2⟩)) rfl I
    · rw [if_neg e] at y1
      by_cases q2 : 0 ≤ i ∧ i ≤ h 56 k - 1
      · obtain ⟨i, rfl⟩ := Int.eq_ofNat_of_zero_le q2.1
        have es : sLay k i v h = (1, up h (34 + 2 * k + 1) i (narF (h 55 k) v)) := by
          unfold sLay
          have er : rfuF (h 55 k) (h 56 k) (h 55 k) (i : Int) = 0 := by
            unfold rfuF
            rw [if_neg (show ¬ h 55 k = -1 by omega), if_neg (fun z => z rfl), if_neg (show ¬ ((i : Int) < 0 ∨ h 56 k ≤ i) by omega)]
          rw [if_neg (by omega), hshp, y1, y2, er, if_neg (fun z => z rfl), Int.toNat_natCast]
        rw [es, nar_eq] at cc
        dsimp only at cc
        have e1 : ∀ x y, 45 ≤ x → up h (34 + 2 * k + 1) i (lyM (h 55 k) v) x y = h x y := fun x y z => up_k (by omega)
        have mm := m_lay (l := l) lm (IM_e e1 hM).2.1 k i v
        have et : tLay k i v (up h (34 + 2 * k + 1) i (lyM (h 55 k) v)) = (1, up (up h (34 + 2 * k + 1) i (lyM (h 55 k) v)) 57 (40 * k + i) (lyM (h 55 k) v)) := by
          unfold tLay
          rw [if_neg (by omega), Int.toNat_natCast, Int.toNat_natCast, e1 55 k (by omega), e1 56 k (by omega), if_neg e, if_neg (by omega)]
        rw [et] at mm
        dsimp only at mm
        refine du_s (by omega) cc (by omega) (mm.mono (fun r h2 y => ⟨y.1, eq_5 y.2⟩)) rfl ?_
        obtain ⟨p1, p2, p3, p4, p5, ⟨⟨s1, s2, s3, s4⟩, t2, t3⟩, p7, p8⟩ := INV_P.mp I
        generalize lyM (h 55 k) v = u
        have f : ∀ x y, ¬ (x = 34 + 2 * k + 1 ∧ y = i) → ¬ (x = 57 ∧ y = 40 * k + i) → up (up h (34 + 2 * k + 1) i u) 57 (40 * k + i) u x y = h x y := fun x y z1 z2 => by rw [up_n z2, up_n z1]
        have fc : up (up h (34 + 2 * k + 1) i u) 57 (40 * k + i) u (34 + 2 * k + 1) i = u := by rw [up_k (by omega), up_s]
        have f57 : up (up h (34 + 2 * k + 1) i u) 57 (40 * k + i) u 57 (40 * k + i) = u := up_s
        generalize up (up h (34 + 2 * k + 1) i u) 57 (40 * k + i) u = W at f fc f57
        have g : ∀ x y, x ≠ 34 + 2 * k + 1 → x ≠ 57 → W x y = h x y := fun x y z1 z2 => f x y (fun z => z1 z.1) (fun z => z2 z.1)
        have hw : ∀ j, (j = 34 ∨ j = 36 ∨ j = 38 ∨ j = 40) → wSh h j → wSh W j := fun j hj w => by
          unfold wSh
          rw [g j 1 (by omega) (by omega), g j 2 (by omega) (by omega)]
          exact w
        refine INV_P.mpr ⟨P1_cg (fun x y z => g x y (by omega) (by omega)) p1, wT_cong (fun x y _ _ => g x y (by omega) (by omega)) p2, P3_cg (fun x y z => g x y (by omega) (by omega)) p3, P4_cg (fun x y z => g x y (by omega) (by omega)) p4, P5_cg (fun x y z => g x y (by omega) (by omega)) p5, ⟨⟨hw 34 (by omega) s1, hw 36 (by omega) s2, hw 38 (by omega) s3, hw 40 (by omega) s4⟩, fun j hj => by rw [g 55 j (by omega) (by omega), g 56 j (by omega) (by omega)]; exact t2 j hj, fun j hj => ?_⟩, P7_cg (fun x y z => g x y (by omega) (by omega)) p7, wN_cg (fun x y z => g x y (by omega) (by omega)) p8⟩
        obtain ⟨z1, z2, z3⟩ := t3 j hj
        rw [g _ 1 (by omega) (by omega), g _ 2 (by omega) (by omega), g 55 j (by omega) (by omega), g 56 j (by omega) (by omega)]
        refine ⟨z1, z2, fun c hc => ?_⟩
        by_cases e3 : j = k ∧ c = i
        · obtain ⟨rfl, rfl⟩ := e3
          rw [fc, f57]
        · rw [f _ _ (by omega) (by omega), f _ _ (by omega) (by omega)]
          exact z3 c hc
      · have es : sLay k i v h = (-12, h) := by
          unfold sLay
          have er : rfuF (h 55 k) (h 56 k) (h 55 k) i = 2 := by
            unfold rfuF
            rw [if_neg (show ¬ h 55 k = -1 by omega), if_neg (fun z => z rfl), if_pos (show i < 0 ∨ h 56 k ≤ i by omega)]
          rw [if_neg (by omega), hshp, y1, y2, er, if_pos (by omega)]
          rfl
        have et : tLay k i v h = (-12, h) := by
          unfold tLay
          rw [if_neg (by omega), Int.toNat_natCast, if_neg e, if_pos q2]
        rw [es] at cc
        have mm := m_lay (l := l) (h := h) lm hM.2.1 k i v
        rw [et] at mm
        exact du_s (by omega) cc (by omega) (mm.mono (fun r h2 y => ⟨y.1, eq_5 y.2⟩)) rfl I
  · have es : sLay k i v h = (-1, h) := by
      unfold sLay
      rw [if_pos (by omega)]
    have et : tLay k i v h = (-1, h) := by
      unfold tLay
      rw [if_pos q1]
    rw [es] at cc
    have mm := m_lay (l := l) (h := h) lm hM.2.1 k i v
    rw [et] at mm
    exact du_s (by omega) cc (by omega) (mm.mono (fun r h2 y => ⟨y.1, eq_5 y.2⟩)) rfl I
end DS
