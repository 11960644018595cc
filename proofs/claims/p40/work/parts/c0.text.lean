/-! the text, side by side -/
theorem mo_o {tp r p : Nat → Int} {n : Int} (wb : wB tp) (w : wZ r) (wp : wPg p) {b : Nat} (hb : b < 3 ∨ b = 7 ∨ b = 8 ∨ b = 9 ∨ 15 < b) : (moM tp n r p).1 b = r b := by
  unfold moM
  split
  · dsimp only
    rw [up1_n (by omega), so_o (by omega)]
  split
  · exact so_o (by omega)
  split
  · dsimp only
    rw [so_o (by omega), so_o (by omega)]
  split
  · exact (rr_Q wb 13 r p w.1 wp w.2.2.1 w.2.2.2.2).2.2.2.2.2 b (by omega)
  · exact so_o (by omega)
theorem li_o {tp r p : Nat → Int} (wb : wB tp) (w : wZ r) (wp : wPg p) {b : Nat} (hb : b < 3 ∨ b = 7 ∨ b = 8 ∨ b = 9 ∨ 15 < b) : (liM tp r p).1 b = r b := by
  unfold liM
  split
  · exact flR_o (by omega)
  · rename_i c0
    have hn : 0 ≤ nhM r tp ∧ nhM r tp ≤ 7 := by have := nhM_in r tp; omega
    generalize nhM r tp = n at hn
    have w2 := l2_Z (tp := tp) (p := p) wb hn w
    have e2 : l2 tp n r p b = r b := by
      unfold l2
      rw [stR_o (by omega), lC_o (by omega)]
      unfold lB lA
      split <;> split
      · rw [flR_o (by omega), flR_o (by omega)]
      · rw [flR_o (by omega)]
      · rw [flR_o (by omega)]
      · rfl
    unfold l3
    split
    · exact e2
    · dsimp only
      rw [stR_o (by omega)]
      unfold lE
      split
      · rw [flR_o (by omega), mo_o wb w2 wp hb, e2]
      · rw [mo_o wb w2 wp hb, e2]
theorem tl_o {tp : Nat → Int} (wb : wB tp) {b : Nat} (hb : b < 3 ∨ b = 7 ∨ b = 8 ∨ b = 9 ∨ 15 < b) : ∀ (n k : Nat) (r p : Nat → Int), wZ r → wPg p → (tlM tp n k r p).2.1 b = r b
  | 0, _, _, _, _, _ => rfl
  | n + 1, k, r, p, w, wp => by
    unfold tlM
    split
    · rename_i c
      obtain ⟨q1, q2, q3⟩ := li_Q wb w wp c.1
      rw [tl_o wb hb n (k + 1) _ _ q1 q2, li_o wb w wp hb]
    · rfl
theorem wK_fin {c : zH} (w : wK c) : wK (fin (linW c)) := by
  have := (tk_lin w).2.1
  unfold fin
  split
  · exact (tk_nx this).2.1
  · exact this
theorem T_loop {tp : Nat → Int} (wb : wB tp) : ∀ (n m k : Nat) (c : zH) (r p : Nat → Int), wK c → wZ r → wPg p → TO c r p tp → (r 10 = 0 → ¬ r 14 = 0 → 161 ≤ r 12 + n) → (r 10 = 0 → 161 ≤ r 12 + m) → (tlW n k c).1 = (tlM tp m k r p).1 ∧ TO (tlW n k c).2 (tlM tp m k r p).2.1 (tlM tp m k r p).2.2 tp ∧ ((tlM tp m k r p).2.1 10 = 0 → (tlM tp m k r p).2.1 14 = 0) := by
  have stop : ∀ (n m k : Nat) (c : zH) (r p : Nat → Int), TO c r p tp → (r 10 = 0 → r 14 = 0) → (tlW n k c).1 = (tlM tp m k r p).1 ∧ TO (tlW n k c).2 (tlM tp m k r p).2.1 (tlM tp m k r p).2.2 tp ∧ ((tlM tp m k r p).2.1 10 = 0 → (tlM tp m k r p).2.1 14 = 0) := by
    intro n m k c r p q hs
    have e1 : tlW n k c = (k, c) := by
      cases n with
      | zero => rfl
      | succ n =>
        unfold tlW
        rw [if_neg (fun z => ?_)]
        rcases q with g | b
        · exact z.2 (by rw [g.2.1]; exact hs g.1.1.2)
        · exact b.1 z.1
    have e2 : tlM tp m k r p = (k, r, p) := by
      cases m with
      | zero => rfl
      | succ m =>
        unfold tlM
        rw [if_neg (fun z => z.2 (hs z.1))]
    rw [e1, e2]
    exact ⟨rfl, q, hs⟩
  intro n
  induction n with
  | zero =>
    intro m k c r p wk w wp q hn hm
    refine stop 0 m k c r p q (fun z => ?_)
    by_cases y : r 14 = 0
    · exact y
    · have := hn z y
      have := w.1.2.1
      have := w.1.1
      omega
  | succ n ih =>
    intro m k c r p wk w wp q hn hm
    by_cases y : r 10 = 0 ∧ ¬ r 14 = 0
    · rcases q with g | b
      · have := hm y.1
        have w12 := w.1.2.1
        have w8 := w.1.1
        obtain ⟨m, rfl⟩ : ∃ m', m = m' + 1 := ⟨m - 1, by omega⟩
        have e1 : tlW (n + 1) k c = tlW n (k + 1) (fin (linW c)) := by
          show (if c 31 2 = 0 ∧ ¬ c 31 4 = 0 then _ else _) = _
          rw [if_pos ⟨g.1.1.1, by rw [g.2.1]; exact y.2⟩]
          rfl
        have e2 : tlM tp (m + 1) k r p = tlM tp m (k + 1) (liM tp r p).1 (liM tp r p).2 := by
          show (if r 10 = 0 ∧ ¬ r 14 = 0 then _ else _) = _
          rw [if_pos y]
        obtain ⟨z1, z2, z3⟩ := li_Q wb w wp y.1
        have h1 := hn y.1 y.2
        rw [e1, e2]
        exact ih m (k + 1) _ _ _ (wK_fin wk) z1 z2 (T_line wk wb w wp g) (fun a1 _ => by have := z3 a1; omega) (fun a1 => by have := z3 a1; omega)
      · exact absurd y.1 (by have := b.2.1; omega)
    · refine stop (n + 1) m k c r p q (fun z => ?_)
      by_cases y2 : r 14 = 0
      · exact y2
      · exact absurd ⟨z, y2⟩ y
theorem T_init {h : zH} (hX : wX h) (hM : IM h) (hR : Rel h h) : TG (st0 h) (rI h) (pI (h 47) 33) (h 48) := by
  have f : ∀ a b, a ≠ 31 → st0 h a b = clT0 8 h a b := fun a b q => by unfold st0; rw [up_k q, up_k q, up_k q, up_k q, up_k q]
  have g : ∀ a b, ¬ (8 ≤ a ∧ a ≤ 14) → clT0 8 h a b = h a b := fun a b q => by unfold clT0; rw [reb_c (by omega), setB_n (by omega), up_k (by omega), up_k (by omega), up_k (by omega), up_k (by omega)]
  have p0 : ∀ b, b < 33 → pI (h 47) 33 b = 0 := fun b hb => if_pos hb
  have s11 : ∀ j, j < 12 → st0 h 11 j = -4 := fun j hj => by rw [f _ _ (by omega)]; exact clT0_s (p := 8) hj
  have t8 : ∀ b, st0 h 8 b = if b = 9 then 3 else if b = 8 then 0 else if b = 7 then 0 else if b = 6 then 0 else h 8 b := fun b => by
    rw [f _ _ (by omega)]
    unfold clT0
    rw [reb_c (by omega), setB_n (by omega)]
    by_cases z9 : b = 9
    · rw [if_pos z9, z9, up_s]
    · rw [if_neg z9, up_j z9]
      by_cases z8 : b = 8
      · rw [if_pos z8, z8, up_s]
      · rw [if_neg z8, up_j z8]
        by_cases z7 : b = 7
        · rw [if_pos z7, z7, up_s]
        · rw [if_neg z7, up_j z7]
          by_cases z6 : b = 6
          · rw [if_pos z6, z6, up_s]
          · rw [if_neg z6, up_j z6]
  have x6 : st0 h 8 6 = 0 := t8 6
  have x7 : st0 h 8 7 = 0 := t8 7
  refine ⟨⟨?_, rfl⟩, ⟨?_, ?_⟩, fun j hj => ?_, ⟨?_, ?_⟩, ⟨⟨?_, ?_, ?_⟩, fun j hj => ?_, fun j hj => ?_, fun j hj => ?_⟩, RB_cg (fun a b h1 h2 => f a b (by omega)) RB_reb, x6, fun _ => rfl, fun j hj => ?_, Or.inl rfl, fun j _ hj => s11 j hj⟩
  · unfold st0; rw [up_j (by omega), up_j (by omega), up_j (by omega), up_j (by omega), up_s]
  · show st0 h 31 1 = h 45 8
    unfold st0
    rw [up_j (by omega), up_j (by omega), up_j (by omega), up_j (by omega), up_j (by omega), g 31 1 (by omega)]
    exact hR.2.2.1.1
  · show st0 h 31 6 = 0
    unfold st0
    rw [up_j (by omega), up_j (by omega), up_s]
  · have hj : (j : Int) < h 45 8 := hj
    rw [f 32 j (by omega), g 32 j (by omega)]
    exact hR.2.2.1.2 j hj
  · show st0 h 31 8 = bitI 0 6
    unfold st0
    rw [up_j (by omega), up_s, bitI_0]
  · show st0 h 31 9 = bitI 0 7
    unfold st0
    rw [up_s, bitI_0]
  · rw [x7, p0 32 (by omega)]
  · rw [p0 20 (by omega)]; exact t8 8
  · rw [p0 21 (by omega)]; exact t8 9
  · rw [x6] at hj; omega
  · rw [show st0 h (8 + 3) j = -4 from s11 j hj]
    unfold stM
    rw [p0 (8 + j) (by omega)]
    rfl
  · rw [x7] at hj; omega
  · rw [s11 j hj]
    exact (by decide : (-4 : Int) ≤ -1)
/-- a text that isn't taken -/
theorem INV_no {h X : zH} {r' P : Nat → Int} (I : INV h) (e : ∀ a b, a ≠ 31 → ¬ (8 ≤ a ∧ a ≤ 14) → X a b = h a b) (w8 : wT X 8) (x1 : X 31 1 = 0) (x5 : 0 ≤ X 31 5 ∧ X 31 5 ≤ 160) (x6 : 0 ≤ X 31 6 ∧ X 31 6 ≤ 160) (r1 : r' 1 = h 45 1) (r8 : r' 8 = 0) (r21 : r' 21 = h 45 21) (r28 : r' 28 = h 45 28) : INV (mW X r' P) := by
  obtain ⟨p1, p2, p3, ⟨⟨t1, t2, t3, t4⟩, t5, t6, t7, t8⟩, p5, p6, p7, p8⟩ := INV_P.mp I
  have f : ∀ a b, a ≠ 31 → ¬ (8 ≤ a ∧ a ≤ 14) → a ≠ 45 → a ≠ 47 → mW X r' P a b = h a b := fun a b z1 z2 z3 z4 => by rw [mW_o z3 z4]; exact e a b z1 z2
  have g : ∀ a b, a < 45 → mW X r' P a b = X a b := fun a b z => mW_o (by omega) (by omega)
  refine INV_P.mpr ⟨P1_cg (h := h) (fun a b z => ?_) p1, wT_cong (fun a b _ _ => g a b (by omega)) w8, P3_cg (h := h) (fun a b z => ?_) p3, ⟨⟨by rw [g _ _ (by omega), x1]; decide, by rw [g _ _ (by omega)]; exact x5, by rw [g _ _ (by omega)]; exact x6, fun j => by rw [f _ _ (by omega) (by omega) (by omega) (by omega)]; exact t4 j⟩, by rw [mW_45, r8]; decide, fun j => by rw [f _ _ (by omega) (by omega) (by omega) (by omega)]; exact t6 j, by rw [g _ _ (by omega), x1, mW_45, r8], fun j hj => ?_⟩, P5_cg (h := h) (fun a b z => ?_) p5, P6_cg (fun a b z => f a b (by omega) (by omega) (by omega) (by omega)) p6, P7_cg (h := h) (fun a b z => ?_) p7, wN_cg (fun a b z => f a b (by omega) (by omega) (by omega) (by omega)) p8⟩
  · by_cases z2 : a = 45
    · obtain rfl : b = 1 := by omega
      subst z2
      rw [mW_45, r1]
    · exact f a b (by omega) (by omega) z2 (by omega)
  · by_cases z2 : a = 45
    · obtain rfl : b = 1 := by omega
      subst z2
      rw [mW_45, r1]
    · exact f a b (by omega) (by omega) z2 (by omega)
  · rw [mW_45, r8] at hj; omega
  · by_cases z2 : a = 45
    · obtain rfl : b = 21 := by omega
      subst z2
      rw [mW_45, r21]
    · exact f a b (by omega) (by omega) z2 (by omega)
  · by_cases z2 : a = 45
    · obtain rfl : b = 28 := by omega
      subst z2
      rw [mW_45, r28]
    · exact f a b (by omega) (by omega) z2 (by omega)
/-- a text that is taken -/
theorem INV_yes {h C : zH} {R P r' : Nat → Int} (I : INV h) (e : ∀ a b, a ≠ 31 → ¬ (8 ≤ a ∧ a ≤ 14) → C a b = h a b) (wk : wK C) (wp : wPg P) (rt : RT C 8 P) (hm : C 8 6 = r' 1) (r8 : r' 8 = 0) (r21 : r' 21 = 0) (r28 : r' 28 = h 45 28) : INV (mW (up (up (setB (up (up (up (cpT (up C 31 1 0) 8 1) 0 9 0) 30 0 0) 30 1 0) 46 33 P) 54 0 0) 54 1 0) r' P) := by
  obtain ⟨p1, p2, ⟨s1, s2, s3, s4, s5, s6⟩, ⟨⟨t1, t2, t3, t4⟩, t5, t6, t7, t8⟩, ⟨a1, a2, a3, a4, a5, a6⟩, p6, p7, p8⟩ := INV_P.mp I
  obtain ⟨X, hX⟩ : ∃ X, X = up (up (setB (up (up (up (cpT (up C 31 1 0) 8 1) 0 9 0) 30 0 0) 30 1 0) 46 33 P) 54 0 0) 54 1 0 := ⟨_, rfl⟩
  rw [← hX]
  have x : ∀ a b, ¬ (1 ≤ a ∧ a ≤ 14) → a ≠ 31 → ¬ (a = 0 ∧ b = 9) → ¬ (a = 30 ∧ b ≤ 1) → ¬ (a = 54 ∧ b ≤ 1) → ¬ (a = 46 ∧ b < 33) → X a b = h a b := fun a b z1 z2 z3 z4 z5 z6 => by
    rw [hX, up_n (by omega), up_n (by omega)]
    unfold setB
    rw [if_neg z6, up_n (by omega), up_n (by omega), up_n z3, cpT_o (by omega), up_k z2]
    exact e a b z2 (by omega)
  have x54 : ∀ b, X 54 b = if b ≤ 1 then 0 else h 54 b := fun b => by
    by_cases z1 : b = 1
    · rw [z1, if_pos (by omega), hX, up_s]
    · by_cases z0 : b = 0
      · rw [z0, if_pos (by omega), hX, up_j (by omega), up_s]
      · rw [if_neg (by omega)]
        exact x 54 b (by omega) (by omega) (by omega) (by omega) (by omega) (by omega)
  have x30 : ∀ b, X 30 b = if b ≤ 1 then 0 else h 30 b := fun b => by
    by_cases z1 : b = 1
    · rw [z1, if_pos (by omega), hX, up_k (by omega), up_k (by omega), setB_n (by omega), up_s]
    · by_cases z0 : b = 0
      · rw [z0, if_pos (by omega), hX, up_k (by omega), up_k (by omega), setB_n (by omega), up_j (by omega), up_s]
      · rw [if_neg (by omega)]
        exact x 30 b (by omega) (by omega) (by omega) (by omega) (by omega) (by omega)
  have x46 : ∀ b, b < 33 → X 46 b = P b := fun b hb => by rw [hX, up_k (by omega), up_k (by omega), setB_i hb]
  have xt : ∀ a b, 1 ≤ a → a ≤ 14 → X a b = cpT (up C 31 1 0) 8 1 a b := fun a b z1 z2 => by rw [hX, up_k (by omega), up_k (by omega), setB_n (by omega), up_k (by omega), up_k (by omega), up_k (by omega)]
  have x31 : ∀ b, X 31 b = if b = 1 then 0 else C 31 b := fun b => by
    rw [hX, up_k (by omega), up_k (by omega), setB_n (by omega), up_k (by omega), up_k (by omega), up_k (by omega), cpT_o (by omega)]
    by_cases z : b = 1
    · rw [z, if_pos rfl, up_s]
    · rw [if_neg z, up_j z]
  have x09 : X 0 9 = 0 := by rw [hX, up_k (by omega), up_k (by omega), setB_n (by omega), up_k (by omega), up_k (by omega), up_s]
  generalize X = X at *
  have g : ∀ a b, a ≠ 45 → a ≠ 47 → mW X r' P a b = X a b := fun a b z1 z2 => mW_o z1 z2
  have wt8 : wT (up C 31 1 0) 8 := wT_cong (fun a b _ _ => up_k (by omega)) wk.2.1
  have wt1 : wT (up C 31 1 0) 1 := wT_cong (fun a b z1 z2 => by rw [up_k (by omega)]; exact e a b (by omega) (by omega)) p1.1
  have w1 : wT (cpT (up C 31 1 0) 8 1) 1 := wT_cpT wt8 wt1
  have rt8 : RT (up C 31 1 0) 8 P := RT_cg wk.2.1 (fun a b _ _ => up_k (by omega)) (fun _ _ => rfl) rt
  have rt1 : RT (mW X r' P) 1 ((mW X r' P) 46) := RT_cp wt8 (fun b z1 z2 => by rw [g _ _ (by omega) (by omega), xt _ _ (by omega) (by omega), cpT_f ⟨z1, z2⟩]) (fun i b z1 z2 z3 => by rw [g _ _ (by omega) (by omega), xt _ _ (by omega) (by omega), cpT_r i ⟨z1, z2⟩ z3]) (fun b hb => by rw [g _ _ (by omega) (by omega), x46 b hb]) rt8
  have e6 : mW X r' P 1 6 = C 8 6 := by rw [g _ _ (by omega) (by omega), xt _ _ (by omega) (by omega), cpT_f ⟨by omega, by omega⟩, up_k (by omega)]
  have wmen := wk.2.1.1
  have wc := wk.1
  refine INV_P.mpr ⟨⟨wT_cong (fun a b z1 z2 => by rw [g _ _ (by omega) (by omega), xt _ _ (by omega) (by omega)]) w1, wPg_cong (fun b hb => by rw [g _ _ (by omega) (by omega), x46 b hb]) wp, by rw [mW_45, ← hm]; exact wmen, rt1, by rw [e6, mW_45, hm]⟩, wT_cong (fun a b z1 z2 => by rw [g _ _ (by omega) (by omega), xt _ _ (by omega) (by omega), cpT_o (by omega)]) wt8, ⟨wT_cong (fun a b z1 z2 => by rw [g _ _ (by omega) (by omega)]; exact x a b (by omega) (by omega) (by omega) (by omega) (by omega) (by omega)) s1, wT_cong (fun a b z1 z2 => by rw [g _ _ (by omega) (by omega)]; exact x a b (by omega) (by omega) (by omega) (by omega) (by omega) (by omega)) s2, fun j => ?_, fun j => ?_, fun j hj hn => ?_, fun j hj => ⟨?_, fun hn => ?_⟩⟩, ⟨⟨by rw [g _ _ (by omega) (by omega), x31, if_pos rfl]; decide, by rw [g _ _ (by omega) (by omega), x31, if_neg (by omega)]; exact wc.2.1, by rw [g _ _ (by omega) (by omega), x31, if_neg (by omega)]; exact wc.2.2.1, fun j => by rw [g _ _ (by omega) (by omega), x _ _ (by omega) (by omega) (by omega) (by omega) (by omega) (by omega)]; exact t4 j⟩, by rw [mW_45, r8]; decide, fun j => by rw [g _ _ (by omega) (by omega), x _ _ (by omega) (by omega) (by omega) (by omega) (by omega) (by omega)]; exact t6 j, by rw [g _ _ (by omega) (by omega), x31, if_pos rfl, mW_45, r8], fun j hj => ?_⟩, ⟨by rw [g _ _ (by omega) (by omega), x09]; decide, fun j => by rw [g _ _ (by omega) (by omega), x _ _ (by omega) (by omega) (by omega) (by omega) (by omega) (by omega)]; exact a2 j, fun j => by rw [g _ _ (by omega) (by omega), x _ _ (by omega) (by omega) (by omega) (by omega) (by omega) (by omega)]; exact a3 j, by rw [mW_45, r21]; decide, by rw [g _ _ (by omega) (by omega), x09, mW_45, r21], fun j hj => ?_⟩, P6_cg (h := h) (fun a b z => by rw [g _ _ (by omega) (by omega)]; exact x a b (by omega) (by omega) (by omega) (by omega) (by omega) (by omega)) p6, P7_cg (h := h) (fun a b z => ?_) p7, wN_cg (h := h) (fun a b z => by rw [g _ _ (by omega) (by omega)]; exact x a b (by omega) (by omega) (by omega) (by omega) (by omega) (by omega)) p8⟩
  · rw [g _ _ (by omega) (by omega), x30]
    split
    · exact Or.inl rfl
    · exact s3 j
  · rw [g _ _ (by omega) (by omega), x54]
    split
    · exact Or.inl rfl
    · exact s4 j
  · rw [g _ _ (by omega) (by omega), x54, if_pos hj] at hn
    exact absurd rfl hn
  · rw [g _ _ (by omega) (by omega), g _ _ (by omega) (by omega), x30, x54, if_pos hj, if_pos hj]
  · rw [g _ _ (by omega) (by omega), x54, if_pos hj] at hn
    exact absurd rfl hn
  · rw [mW_45, r8] at hj; omega
  · rw [mW_45, r21] at hj; omega
  · by_cases z2 : a = 45
    · obtain rfl : b = 28 := by omega
      subst z2
      rw [mW_45, r28]
    · rw [g _ _ (by omega) (by omega)]
      exact x a b (by omega) (by omega) (by omega) (by omega) (by omega) (by omega)
section DS
variable {l : Launch} {G : zG} {h : zH} {cmp : Bool}
theorem du_text (lx : LX G) (lm : LM G) (I : INV h) : DuI l G mX3_text mX4_text [] h cmp INV := by
  obtain ⟨hX, hM, hR⟩ := id I
  have wb := hM.2.2.2.2.1
  have h8 := hM.1.2.2.1
  have cc := c_text (l := l) lx hX
  have wk0 := wK_st0 hX.2.1 hX.1.2.1
  have ti := T_init hX hM hR
  have wS0 : wS (rI h) := ⟨h8, ⟨(by decide : (0 : Int) ≤ 0), h8.1⟩⟩
  have wZ0 := wZ_rI wb h8
  have tn := L_nx wk0 wb wS0 ti
  obtain ⟨y1, y2, y3⟩ := stR_c wb wS0 (show rI h 10 = 0 from rfl)
  have tl := T_loop wb 160 161 0 (nxW (st0 h)) (stR (rI h) (h 48)) (pI (h 47) 33) (tk_nx wk0).2.1 wZ0 (wPg_pI _) tn (fun _ z => by
    rcases y3 with ⟨b1, -⟩ | ⟨-, b2, -⟩
    · exact absurd b1 z
    · omega) (fun _ => by have := wZ0.1.2.1.1; omega)
  have hq := te_Q wb h8
  have tk := tk_te hX.2.1 hX.1.2.1
  have hro : ∀ b, (b < 3 ∨ b = 7 ∨ b = 8 ∨ b = 9 ∨ 15 < b) → (tE h).2.1 b = rI h b := fun b hb => (tl_o wb hb 161 0 _ _ wZ0 (wPg_pI _)).trans (stR_o (by omega))
  have tl : (teN h).1 = (tE h).1 ∧ TO (teN h).2 (tE h).2.1 (tE h).2.2 (h 48) ∧ ((tE h).2.1 10 = 0 → (tE h).2.1 14 = 0) := tl
  -- the world outside what a text touches
  have hst : ∀ a b, a ≠ 31 → ¬ (8 ≤ a ∧ a ≤ 14) → st0 h a b = h a b := fun a b q1 q2 => by
    unfold st0
    rw [up_k q1, up_k q1, up_k q1, up_k q1, up_k q1]
    unfold clT0
    rw [reb_c (by omega), setB_n (by omega), up_k (by omega), up_k (by omega), up_k (by omega), up_k (by omega)]
  have hC : ∀ a b, a ≠ 31 → ¬ (8 ≤ a ∧ a ≤ 14) → (teN h).2 a b = h a b := fun a b q1 q2 => (tk.1 a b q1 q2).trans (hst a b q1 q2)
  -- the reference reads the same in any world alike
  have hE : ∀ k : zH, (∀ a b, 45 ≤ a → a ≠ 46 → a ≠ 54 → k a b = h a b) → tE k = tE h := fun k e => by
    have e45 : k 45 = h 45 := funext fun b => e 45 b (by omega) (by omega) (by omega)
    have e47 : k 47 = h 47 := funext fun b => e 47 b (by omega) (by omega) (by omega)
    have e48 : k 48 = h 48 := funext fun b => e 48 b (by omega) (by omega) (by omega)
    unfold tE rI
    rw [e45, e47, e48]
  generalize hTN : teN h = TN at *
  generalize hTE : tE h = TE at *
  obtain ⟨kn, C⟩ := TN
  obtain ⟨km, R, P⟩ := TE
  dsimp only at *
  obtain ⟨t1, t2, t3⟩ := tl
  obtain ⟨wR, wP', -⟩ := hq
  have wkC : wK C := tk.2.1
  have m1 : ∀ k1 : zH, (∀ a b, 45 ≤ a → k1 a b = h a b) → Ca l G 6 mX4_text [vR 45] k1 (fun v h' => v = some (vI (tText k1).1) ∧ h' = (tText k1).2) := fun k1 e => by
    have hM1 := IM_e e hM
    exact m_text (l := l) lm hM1.2.2.2.2.1 hM1.2.2.2.1 hM1.1.2.2.1
  have bad : ∀ (X : zH) (R' : Nat → Int), (∀ a b, a ≠ 31 → X a b = C a b) → X 31 5 = C 31 5 → X 31 6 = C 31 6 → sText h = (-10 - R' 11, up X 31 1 0) → tF R = R' → 0 < R' 10 → (∀ b, b ≠ 10 → b ≠ 11 → R' b = R b) → DuI l G mX3_text mX4_text [] h cmp INV := by
    intro X R' hX1 hX5 hX6 hs hF h0 hR'
    rw [hs] at cc
    dsimp only at cc
    have e1 : ∀ a b, a ≠ 31 → ¬ (8 ≤ a ∧ a ≤ 14) → up X 31 1 0 a b = h a b := fun a b q1 q2 => by rw [up_k q1, hX1 a b q1]; exact hC a b q1 q2
    have mm := m1 (up X 31 1 0) (fun a b z => e1 a b (by omega) (by omega))
    have eE := hE (up X 31 1 0) (fun a b z _ _ => e1 a b (by omega) (by omega))
    have et : tText (up X 31 1 0) = (-10 - R' 11, mW (up X 31 1 0) (up1 (up1 R' 8 0) 9 (R' 10)) P) := by
      unfold tText tRd
      rw [eE]
      dsimp only
      rw [hF, if_pos h0]
    rw [et] at mm
    dsimp only at mm
    refine du_s (by omega) cc (by omega) (mm.mono (fun r h2 y => ⟨y.1, eq_5 y.2⟩)) rfl ?_
    have hb : ∀ b, (b < 3 ∨ b = 7 ∨ 15 < b) → up1 (up1 R' 8 0) 9 (R' 10) b = h 45 b := fun b hb => by
      rw [up1_n (by omega), up1_n (by omega), hR' b (by omega) (by omega), hro b (by omega)]
      unfold rI
      rw [up1_n (by omega), up1_n (by omega), up1_n (by omega), up1_n (by omega), up1_n (by omega), up1_n (by omega)]
    exact INV_no I e1 (wT_cong (fun a b _ _ => by rw [up_k (by omega)]; exact hX1 a b (by omega)) wkC.2.1) up_s (by rw [up_j (by omega), hX5]; exact wkC.1.2.1) (by rw [up_j (by omega), hX6]; exact wkC.1.2.2.1) (hb 1 (by omega)) (by rw [up1_n (by omega), up1_s]) (hb 21 (by omega)) (hb 28 (by omega))
  have hsT : sText h = if up (teW h) 31 1 0 31 2 = 0 then (((teN h).1 : Int), up (up (up (cpT (up (teW h) 31 1 0) 8 1) 0 9 0) 30 0 0) 30 1 0) else (-10 - up (teW h) 31 1 0 31 3, up (teW h) 31 1 0) := rfl
  have hteW : teW h = if (teN h).2 31 2 = 0 then (if awB (teN h).2 = true then (teN h).2 else up (up (teN h).2 31 2 6) 31 3 ((teN h).2 31 1)) else (teN h).2 := rfl
  rw [hTN] at hsT hteW
  dsimp only at hsT hteW
  rcases t2 with g | b
  · have g2 := g.1.1.1
    have g10 := g.1.1.2
    have h14 := t3 g10
    have h13 := g.2.2.2.2 h14
    have gL := g.1.2.1.1
    obtain ⟨u1, u2, u3, u4, u5, u6, u7⟩ := g.1.2.2.2.2
    rw [if_pos g2] at hteW
    by_cases aw : awB C = true
    · have awp := awB_P.mp aw
      have hlt : R 6 < R 3 := by
        rcases u6 with z | ⟨j, z1, z2⟩
        · have := wR.2.1; omega
        · have a1 : C 11 j = -4 ∨ (0 ≤ C 11 j ∧ C 11 j < C 8 6) := awp j z1
          have := wR.2.2.2.2
          omega
      have hF : tF R = R := if_neg (by omega)
      rw [if_pos aw] at hteW
      rw [hteW, up_j (by omega), if_pos g2] at hsT
      rw [hsT] at cc
      dsimp only at cc
      obtain ⟨K, hK⟩ : ∃ K, K = up (up (up (cpT (up C 31 1 0) 8 1) 0 9 0) 30 0 0) 30 1 0 := ⟨_, rfl⟩
      rw [← hK] at cc
      have e1 : ∀ a b, 45 ≤ a → K a b = h a b := fun a b z => by rw [hK, up_k (by omega), up_k (by omega), up_k (by omega), cpT_o (by omega), up_k (by omega)]; exact hC a b (by omega) (by omega)
      have mm := m1 K e1
      have eE := hE K (fun a b z _ _ => e1 a b z)
      have et : tText K = ((km : Int), mW (up (up (setB K 46 33 P) 54 0 0) 54 1 0) (up1 (up1 (up1 (up1 R 8 0) 9 (R 10)) 1 (R 3)) 21 0) P) := by
        unfold tText tRd
        rw [eE]
        dsimp only
        rw [hF, if_neg (by omega)]
      rw [et] at mm
      dsimp only at mm
      refine du_s (by omega) cc (by omega) (mm.mono (fun r h2 y => ⟨y.1, eq_5 y.2⟩)) (by rw [t1]) ?_
      rw [hK]
      exact INV_yes (R := R) I hC wkC wP' ⟨⟨u1.1, u1.2.1, u1.2.2.1, u1.2.2.2, awp⟩, u2⟩ (show C 8 6 = R 3 from u3) rfl rfl (by
        rw [up1_n (by omega), up1_n (by omega), up1_n (by omega), up1_n (by omega), hro 28 (by omega)]
        unfold rI
        rw [up1_n (by omega), up1_n (by omega), up1_n (by omega), up1_n (by omega), up1_n (by omega), up1_n (by omega)])
    · have hge : R 3 ≤ R 6 := by
        rcases Int.lt_or_le (R 6) (R 3) with z | z
        · exfalso
          apply aw
          rw [awB_P]
          intro j hj
          have a5 := u5 j hj
          have a1 := wkC.2.1.2.2.2.2.2.2.1 j
          have a2 : C (8 + 3) j = C 11 j := rfl
          rw [a2] at a1 ⊢
          omega
        · exact z
      have hF : tF R = flR 6 R := if_pos ⟨g10, hge⟩
      rw [if_neg aw] at hteW
      have hs : sText h = (-10 - flR 6 R 11, up (up (up C 31 2 6) 31 3 (C 31 1)) 31 1 0) := by
        rw [hsT, hteW, up_j (by omega), up_j (by omega), up_s, if_neg (by decide), up_j (by omega), up_s]
        unfold flR
        rw [if_pos g10, up1_s, h13, gL]
      exact bad (up (up C 31 2 6) 31 3 (C 31 1)) (flR 6 R) (fun a b z => by rw [up_k z, up_k z]) (by rw [up_j (by omega), up_j (by omega)]) (by rw [up_j (by omega), up_j (by omega)]) hs hF (by rw [flR_10 g10]; decide) (fun b z1 z2 => flR_o ⟨z1, z2⟩)
  · obtain ⟨b1, b2, b3⟩ := b
    rw [if_neg b1] at hteW
    have hF : tF R = R := if_neg (by omega)
    have hs : sText h = (-10 - R 11, up C 31 1 0) := by
      rw [hsT, hteW, up_j (by omega), if_neg b1, up_j (by omega), b3]
    exact bad C R (fun _ _ _ => rfl) rfl rfl hs hF b2 (fun _ _ _ => rfl)
end DS
