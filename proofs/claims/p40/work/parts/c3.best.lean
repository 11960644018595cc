/-! answers alike: mark, sole, give, swap, lean, leans, kinds -/
theorem miF_cong {f g : Nat → Int} {b0 l0 : Int} : ∀ n, (∀ j, j < n → f j = g j) → miF f b0 l0 n = miF g b0 l0 n
  | 0, _ => rfl
  | n + 1, h => by unfold miF; rw [miF_cong n (fun j hj => h j (by omega)), h n (by omega)]
theorem miF_init {f : Nat → Int} {b0 l0 b1 l1 : Int} (h0 : f 0 < l0) (h1 : f 0 < l1) : ∀ n, miF f b0 l0 (n + 1) = miF f b1 l1 (n + 1)
  | 0 => by
    show (if f 0 < l0 then _ else _) = (if f 0 < l1 then _ else _)
    rw [if_pos h0, if_pos h1]
  | n + 1 => by
    have ih := miF_init (b0 := b0) (b1 := b1) h0 h1 n
    show (if f (n + 1) < (miF f b0 l0 (n + 1)).2 then _ else miF f b0 l0 (n + 1)) = (if f (n + 1) < (miF f b1 l1 (n + 1)).2 then _ else miF f b1 l1 (n + 1))
    rw [ih]
theorem mrF_cong {f g : Nat → Int} {c : Nat → Int} {s : Int × Int} : ∀ n, (∀ j, j < n → f j = g j) → mrF f c s n = mrF g c s n
  | 0, _ => rfl
  | n + 1, h => by unfold mrF; rw [mrF_cong n (fun j hj => h j (by omega)), h n (by omega)]
theorem soAB (q : Int) (s : Int × Int) : soA q s = soB q s := by
  unfold soA soB
  by_cases c : q = 0 ∨ s.1 = -4
  · rw [if_pos c, if_pos c.symm]
  · rw [if_neg c, if_neg (fun z => c z.symm)]
theorem enc_noF {pg : Nat → Int} (wg : wPg pg) {j : Nat} (hj : j < 12) : (if noF (stM pg j) = -4 then (0 : Int) else noF (stM pg j) + 1) = pg (8 + j) := by
  have := wg.2.2.1 j hj
  unfold noF stM
  split
  · rw [if_pos rfl]; omega
  · rw [if_neg (by omega)]; omega
theorem RC_all {h : zH} {p : Nat} {pg : Nat → Int} (r : RC h p pg) (h6 : h p 6 ≤ 4) {v : Int} (hv : 0 ≤ v ∧ v < h p 6) : RC (setB h (p + 3) 12 (fun _ => v)) p (stA pg (v + 1)) := by
  obtain ⟨⟨r1, r2, r3⟩, r4, r5, r6, r7⟩ := r
  have e0 : ∀ b, setB h (p + 3) 12 (fun _ => v) p b = h p b := fun b => setB_n (by omega)
  have e2 : ∀ i b, i ≠ 3 → setB h (p + 3) 12 (fun _ => v) (p + i) b = h (p + i) b := fun i b q => setB_n (by omega)
  have g : ∀ b, ¬ (8 ≤ b ∧ b < 20) → stA pg (v + 1) b = pg b := fun b q => stA_n q
  refine ⟨⟨by rw [e0, g _ (by omega)]; exact r1, by rw [e0, g _ (by omega)]; exact r2, by rw [e0, g _ (by omega)]; exact r3⟩, fun i hi => ?_, fun i hi => ?_, fun i hi => ?_, fun i hi => ?_⟩
  · rw [e0] at hi
    rw [e2 1 _ (by omega), e2 2 _ (by omega), g i (by omega), g (4 + i) (by omega)]
    exact r4 i hi
  · rw [setB_i hi]
    unfold stM
    rw [stA_i (by omega)]
    unfold noF
    rw [if_neg (by omega)]
    omega
  · rw [e0] at hi; rw [e2 4 _ (by omega), e2 5 _ (by omega), g (22 + i) (by omega), g (27 + i) (by omega)]; exact r6 i hi
  · rw [setB_i hi, e0]
    exact Or.inr hv
section EQ
variable {x m : zH}
theorem rt8 (hX : wX x) (hR : Rel x m) : RT (cpT x 1 8) 8 (m 46) ∧ wT (cpT x 1 8) 8 ∧ cpT x 1 8 8 6 = x 1 6 ∧ cpT x 1 8 8 7 = x 1 7 :=
  ⟨RT_cp hX.1.1 (fun b z1 z2 => cpT_f ⟨z1, z2⟩) (fun i b z1 z2 z3 => cpT_r i ⟨z1, z2⟩ z3) (fun _ _ => rfl) hR.1.1, wT_cpT hX.1.1 hX.1.2.1, cpT_f ⟨by omega, by omega⟩, cpT_f ⟨by omega, by omega⟩⟩
theorem hm_lt {pg : Nat → Int} (wg : wPg pg) : hmM pg < 1000000 ∧ hmM pg < 2147483647 := by have := hmM_in wg; omega
theorem q_mark (hX : wX x) (hM : IM m) (hR : Rel x m) (q : Int) : qMark q x = nMark q m := by
  obtain ⟨r8, w8, e6, e7⟩ := rt8 hX hR
  have w6 := hX.1.1.1
  have ev : ∀ v, v < 7 → mkV x v = mkM m v := fun v hv => by
    unfold mkV mkM
    exact hm_eq (RT_reb (RC_paint r8.1 (by rw [e6]; exact w6.2) _)) (wT_reb (wT_up0 w8 (by omega) (by omega) (by omega) (fun _ => by omega))) (wPg_up21 hM.1.1 (by omega))
  have h0 := hm_lt (wPg_up21 (v := ((0 : Nat) : Int) - 3) hM.1.1 (by omega))
  have ei : miF (mkV x) (-4) 2147483647 7 = miF (mkM m) 0 1000000 7 := by
    rw [miF_cong 7 (fun j hj => ev j hj)]
    exact miF_init h0.2 h0.1 6
  unfold qMark nMark
  rw [ei]
  by_cases c : q = 0 ∨ q = 1
  · rw [if_neg (fun z => z c), if_neg (show ¬ ¬ (0 ≤ q ∧ q ≤ 1) by omega)]
  · rw [if_pos c, if_pos (show ¬ (0 ≤ q ∧ q ≤ 1) by omega)]
theorem q_sole (hX : wX x) (hM : IM m) (hR : Rel x m) (q : Int) : qSole q x = nSole q m := by
  obtain ⟨r8, w8, e6, e7⟩ := rt8 hX hR
  have w6 := hX.1.1.1
  have hmen := hR.1.2
  have wC : wPg (cpP m 0 99 33 46) := wPg_cong (fun j hj => cpP_x 33 j (by omega)) hM.1.1
  have rC : RC (cpT x 1 8) 8 (cpP m 0 99 33 46) := RC_cg w8.1.2 w8.2.1.2 (fun _ _ _ _ => rfl) (fun b hb => cpP_x 33 b (by omega)) r8.1
  have ev : ∀ v : Nat, (v : Int) < x 1 6 → soV x v = soM m v := fun v hv => by
    unfold soV soM
    exact hm_eq (RT_reb (RC_all rC (by rw [e6]; exact w6.2) (by rw [e6]; omega))) (wT_reb (wT_st w8 (fun j => by omega))) (wPg_stA wC (by omega))
  unfold qSole nSole
  have ei : soA q (miF (soV x) (-4) 2147483647 (x 1 6).toNat) = soB q (miF (soM m) (-4) 1000000 (m 45 1).toNat) := by
    rw [← hmen, miF_cong (x 1 6).toNat (fun j hj => ev j (by omega)), soAB]
    obtain ⟨M, hM2⟩ := Int.eq_ofNat_of_zero_le w6.1
    rw [hM2, Int.toNat_natCast]
    cases M with
    | zero =>
      unfold soB
      show (if (-4 : Int) = -4 ∨ q = 0 then (-4 : Int) else _) = (if (-4 : Int) = -4 ∨ q = 0 then (-4 : Int) else _)
      rw [if_pos (Or.inl rfl), if_pos (Or.inl rfl)]
    | succ M =>
      have h0 := hm_lt (wPg_stA (v := ((0 : Nat) : Int) + 1) wC (by omega))
      rw [miF_init (b0 := -4) (b1 := -4) (f := soM m) h0.2 h0.1 M]
  rw [ei]
  by_cases c : q = 0 ∨ q = 1
  · rw [if_neg (fun z => z c), if_neg (show ¬ ¬ (0 ≤ q ∧ q ≤ 1) by omega)]
  · rw [if_pos c, if_pos (show ¬ (0 ≤ q ∧ q ≤ 1) by omega)]
theorem q_give (hX : wX x) (hM : IM m) (hR : Rel x m) (q : Int) : qGive q x = nGive q m := by
  obtain ⟨r8, w8, e6, e7⟩ := rt8 hX hR
  have w6 := hX.1.1.1
  have hmen := hR.1.2
  have ev : ∀ j v : Nat, j < 12 → (v : Int) < x 1 6 → gvV x j v = gvM m j v := fun j v hj hv => by
    unfold gvV gvM
    have rc := RC_stand r8.1 (by rw [e6]; exact w6.2) hj (v := (v : Int)) (Or.inr (by rw [e6]; omega))
    rw [if_neg (show ¬ (v : Int) = -4 by omega)] at rc
    exact hm_eq (RT_reb rc) (wT_reb (wT_up3 w8 (by omega))) (wPg_up8 hj hM.1.1 (by omega))
  have eg : ∀ j, j ≤ 12 → gvF x j = gwM m j := by
    intro j
    induction j with
    | zero => intro _; show (-4, hmA x 1) = (-4, hmM (m 46)); rw [hm_eq hR.1.1 hX.1.1 hM.1.1]
    | succ j ih =>
      intro hj
      show mrF (gvV x j) _ (gvF x j) (x 1 6).toNat = mrF (gvM m j) _ (gwM m j) (m 45 1).toNat
      rw [ih (by omega), ← hmen]
      exact mrF_cong _ (fun v hv => ev j v (by omega) (by omega))
  unfold qGive nGive
  rw [eg 12 (by omega), soAB]
  by_cases c : q = 0 ∨ q = 1
  · rw [if_neg (fun z => z c), if_neg (show ¬ ¬ (0 ≤ q ∧ q ≤ 1) by omega)]
  · rw [if_pos c, if_pos (show ¬ (0 ≤ q ∧ q ≤ 1) by omega)]
theorem q_swap (hX : wX x) (hM : IM m) (hR : Rel x m) (q : Int) : qSwap q x = nSwap q m := by
  obtain ⟨r8, w8, e6, e7⟩ := rt8 hX hR
  have w6 := hX.1.1.1
  have h3 := fun j (hj : j < 12) => r8.1.2.2.1 j hj
  have h5 := fun j (hj : j < 12) => r8.1.2.2.2.2 j hj
  have wg3 := hM.1.1.2.2.1
  have ev : ∀ a b : Nat, a < 12 → b < 12 → a ≠ b → swV x a b = swM m a b := fun a b ha hb hab => by
    unfold swV swM
    have c1 := RC_stand r8.1 (by rw [e6]; exact w6.2) ha (v := cpT x 1 8 (8 + 3) b) (h5 b hb)
    rw [h3 b hb, enc_noF hM.1.1 hb, ← h3 b hb] at c1
    have c2 := RC_stand c1 (by rw [up_k (by omega), e6]; exact w6.2) hb (v := cpT x 1 8 (8 + 3) a) (by rw [up_k (by omega)]; exact h5 a ha)
    rw [h3 a ha, enc_noF hM.1.1 ha, ← h3 a ha] at c2
    exact hm_eq (RT_reb c2) (wT_reb (wT_xch w8)) (wPg_up8 hb (wPg_up8 ha hM.1.1 (wg3 b hb)) (wg3 a ha))
  have eg : ∀ j, j ≤ 12 → swF x j = sxM m j := by
    intro j
    induction j with
    | zero => intro _; show (-4, hmA x 1) = (-4, hmM (m 46)); rw [hm_eq hR.1.1 hX.1.1 hM.1.1]
    | succ j ih =>
      intro hj
      show mrF (fun k => swV x j (j + 1 + k)) _ (swF x j) (11 - j) = mrF (fun k => swM m j (j + 1 + k)) _ (sxM m j) (11 - j)
      rw [ih (by omega)]
      exact mrF_cong _ (fun v hv => ev j (j + 1 + v) (by omega) (by omega) (by omega))
  unfold qSwap nSwap
  rw [eg 12 (by omega), soAB]
  by_cases c : q = 0 ∨ q = 1
  · rw [if_neg (fun z => z c), if_neg (show ¬ ¬ (0 ≤ q ∧ q ≤ 1) by omega)]
  · rw [if_pos c, if_pos (show ¬ (0 ≤ q ∧ q ≤ 1) by omega)]
theorem sx_lean (hX : wX x) (hM : IM m) (hR : Rel x m) {k i v : Nat} (hk : (k : Int) < x 1 6) (hi : (i : Int) < x 1 7) (hv : v < 7) : sxV x (8 + 2) k i (v : Int) = dlM m k i v := by
  obtain ⟨r8, w8, e6, e7⟩ := rt8 hX hR
  have w6 := hX.1.1.1
  unfold sxV dlM
  exact dn_eq (RT_reb (RC_lean r8.1 (by rw [e6]; exact w6.2) (by omega) _)) (wT_reb (wT_up2 w8 (by omega))) (wPg_up4 (by omega) hM.1.1 (by omega)) (by rw [reb_n (by omega), up_k (by omega), e7]; exact hi)
theorem sx_kind (hX : wX x) (hM : IM m) (hR : Rel x m) {k i v : Nat} (hk : (k : Int) < x 1 6) (hi : (i : Int) < x 1 7) (hv : v < 4) : sxV x (8 + 1) k i (v : Int) = dnM (up1 (m 46) k (v : Int)) i := by
  obtain ⟨r8, w8, e6, e7⟩ := rt8 hX hR
  have w6 := hX.1.1.1
  unfold sxV
  exact dn_eq (RT_reb (RC_kind r8.1 (by omega) _)) (wT_reb (wT_up1 w8 (by omega))) (wPg_up0 (by omega) hM.1.1 (by omega)) (by rw [reb_n (by omega), up_k (by omega), e7]; exact hi)
def leO (ok : Nat → Bool) : Nat → Int
  | 0 => -4
  | v + 1 => if (ok v = true) ∧ frF (v : Int) < (if leO ok v = -4 then 48 else frF (leO ok v)) then (v : Int) else leO ok v
theorem leM_O (d : Nat → Int) (q : Int) : ∀ n, leM d q n = leO (fun v => decide (¬ d v = -4 ∧ d v ≤ q)) n
  | 0 => rfl
  | n + 1 => by
    have ih := leM_O d q n
    unfold leM leO
    rw [ih]
    by_cases c : ¬ d n = -4 ∧ d n ≤ q
    · by_cases c2 : frF (n : Int) < (if leO (fun v => decide (¬ d v = -4 ∧ d v ≤ q)) n = -4 then 48 else frF (leO (fun v => decide (¬ d v = -4 ∧ d v ≤ q)) n))
      · rw [if_pos ⟨c, c2⟩, if_pos ⟨decide_eq_true c, c2⟩]
      · rw [if_neg (fun z => c2 z.2), if_neg (fun z => c2 z.2)]
    · rw [if_neg (fun z => c z.1), if_neg (fun z => c (of_decide_eq_true z.1))]
theorem leO_cong {a b : Nat → Bool} : ∀ n, (∀ j, j < n → a j = b j) → leO a n = leO b n
  | 0, _ => rfl
  | n + 1, h => by unfold leO; rw [leO_cong n (fun j hj => h j (by omega)), h n (by omega)]
theorem fst7_cong {a b : Nat → Bool} : ∀ n j, (∀ i, j ≤ i → i < j + n → a i = b i) → fst7 a n j = fst7 b n j
  | 0, _, _ => rfl
  | n + 1, j, h => by unfold fst7; rw [fst7_cong n (j + 1) (fun i h1 h2 => h i (by omega) (by omega)), h j (by omega) (by omega)]
def b7 (b0 b1 b2 b3 b4 b5 b6 : Bool) (n : Nat) : Bool := match n with
  | 0 => b0
  | 1 => b1
  | 2 => b2
  | 3 => b3
  | 4 => b4
  | 5 => b5
  | _ => b6
theorem near_b : ∀ b0 b1 b2 b3 b4 b5 b6 : Bool, fst7 (fun j => b7 b0 b1 b2 b3 b4 b5 b6 (zNear j).toNat) 7 0 = leO (b7 b0 b1 b2 b3 b4 b5 b6) 7 := by decide +kernel
theorem b7_at (ok : Nat → Bool) : ∀ j, j < 7 → b7 (ok 0) (ok 1) (ok 2) (ok 3) (ok 4) (ok 5) (ok 6) j = ok j := by
  intro j hj
  rcases (show j = 0 ∨ j = 1 ∨ j = 2 ∨ j = 3 ∨ j = 4 ∨ j = 5 ∨ j = 6 by omega) with rfl | rfl | rfl | rfl | rfl | rfl | rfl <;> rfl
theorem near_eq (d : Nat → Int) (q : Int) : fst7 (fun j => decide (¬ d (zNear j).toNat = -4 ∧ d (zNear j).toNat ≤ q)) 7 0 = leM d q 7 := by
  rw [leM_O]
  obtain ⟨ok, hok⟩ : ∃ ok : Nat → Bool, ok = fun v => decide (¬ d v = -4 ∧ d v ≤ q) := ⟨_, rfl⟩
  rw [← hok]
  have e1 : fst7 (fun j => decide (¬ d (zNear j).toNat = -4 ∧ d (zNear j).toNat ≤ q)) 7 0 = fst7 (fun j => b7 (ok 0) (ok 1) (ok 2) (ok 3) (ok 4) (ok 5) (ok 6) (zNear j).toNat) 7 0 := fst7_cong 7 0 (fun i _ h2 => by
    have := zNear_in i (by omega)
    rw [b7_at ok _ (by omega), hok])
  rw [e1, near_b]
  exact leO_cong 7 (fun j hj => b7_at ok j hj)
theorem q_lean (hX : wX x) (hM : IM m) (hR : Rel x m) (k i q : Int) : qLean k i q x = nLean k i q m := by
  have hmen := hR.1.2
  have r1 := hR.1.1.1.1.1
  unfold qLean nLean
  by_cases c : (0 ≤ k ∧ k < x 1 6) ∧ (0 ≤ i ∧ i < x 1 7) ∧ (0 ≤ q ∧ q < 48)
  · have g : ¬ ¬ ((0 ≤ k ∧ k < m 45 1) ∧ (0 ≤ i ∧ i < m 46 32) ∧ (0 ≤ q ∧ q ≤ 47)) := by omega
    rw [if_neg (fun z => z c), if_neg g]
    obtain ⟨c1, c2, -⟩ := c
    obtain ⟨k, rfl⟩ := Int.eq_ofNat_of_zero_le c1.1
    obtain ⟨i, rfl⟩ := Int.eq_ofNat_of_zero_le c2.1
    rw [Int.toNat_natCast, Int.toNat_natCast, ← near_eq]
    refine fst7_cong 7 0 (fun j _ hj => ?_)
    have hz := zNear_in j (by omega)
    obtain ⟨v, hv⟩ := Int.eq_ofNat_of_zero_le hz.1
    unfold lnB
    rw [hv, Int.toNat_natCast, sx_lean hX hM hR c1.2 c2.2 (by omega)]
  · have g : ¬ ((0 ≤ k ∧ k < m 45 1) ∧ (0 ≤ i ∧ i < m 46 32) ∧ (0 ≤ q ∧ q ≤ 47)) := by omega
    rw [if_pos c, if_pos g]
theorem as_eq (hX : wX x) (hM : IM m) (hR : Rel x m) {k v a : Nat} {pg' : Nat → Int} (hp : pg' 32 = m 46 32) (hs : ∀ i : Nat, (i : Int) < x 1 7 → sxV x a k i (v : Int) = dnM pg' i) : asS x a k v = asM m pg' := by
  have r1 := hR.1.1.1.1.1
  have w9 := hX.2.2.1
  unfold asS asM
  rw [hR.2.2.2.1.1]
  refine allN_cong _ (fun s hs2 => ?_)
  obtain ⟨e1, e2⟩ := hR.2.2.2.1.2 s (by have := hR.2.2.2.1.1; omega)
  rw [← e1, ← e2, hp, ← r1]
  apply decide_eq_decide.mpr
  constructor
  · rintro ⟨z1, z2⟩
    refine ⟨z1, ?_⟩
    rw [← hs _ (by omega)]
    exact z2
  · rintro ⟨z1, z2⟩
    refine ⟨z1, ?_⟩
    rw [hs _ (by omega)]
    exact z2
theorem la_eq (hX : wX x) (hM : IM m) (hR : Rel x m) {k v : Nat} (hk : (k : Int) < x 1 6) (hv : v < 7) : asS x (8 + 2) k v = laM m k v := by
  have w6 := hX.1.1.1
  exact as_eq hX hM hR (up1_n (by omega)) (fun i hi => sx_lean hX hM hR hk hi hv)
theorem ka_eq (hX : wX x) (hM : IM m) (hR : Rel x m) {k v : Nat} (hk : (k : Int) < x 1 6) (hv : v < 4) : asS x (8 + 1) k v = kaM m k v := by
  have w6 := hX.1.1.1
  exact as_eq hX hM hR (up1_n (by omega)) (fun i hi => sx_kind hX hM hR hk hi hv)
theorem q_leans (hX : wX x) (hM : IM m) (hR : Rel x m) (k : Int) : qLeans k x = nLeans k m := by
  have hmen := hR.1.2
  unfold qLeans nLeans
  rw [← hmen]
  by_cases c : 0 ≤ k ∧ k < x 1 6
  · rw [if_neg (fun z => z c), if_neg (fun z => z c)]
    obtain ⟨k, rfl⟩ := Int.eq_ofNat_of_zero_le c.1
    rw [Int.toNat_natCast, orN_cong 7 (fun v hv => la_eq hX hM hR c.2 hv)]
  · rw [if_pos c, if_pos c]
theorem q_kinds (hX : wX x) (hM : IM m) (hR : Rel x m) (k : Int) : qKinds k x = nKinds k m := by
  have hmen := hR.1.2
  unfold qKinds nKinds
  rw [← hmen]
  by_cases c : 0 ≤ k ∧ k < x 1 6
  · rw [if_neg (fun z => z c), if_neg (fun z => z c)]
    obtain ⟨k, rfl⟩ := Int.eq_ofNat_of_zero_le c.1
    rw [Int.toNat_natCast, orN_cong 4 (fun v hv => ka_eq hX hM hR c.2 hv)]
  · rw [if_pos c, if_pos c]
end EQ
section DQ
variable {l : Launch} {G : zG} {h : zH} {cmp : Bool}
theorem du_mark (lx : LX G) (lm : LM G) (I : INV h) (q : Int) : DuI l G mX3_mark mX4_mark [vI q] h cmp INV := dq_mark lx lm I q (fun _ hM hR _ => q_mark I.1 hM hR q)
theorem du_sole (lx : LX G) (lm : LM G) (I : INV h) (q : Int) : DuI l G mX3_sole mX4_sole [vI q] h cmp INV := dq_sole lx lm I q (fun _ hM hR _ => q_sole I.1 hM hR q)
theorem du_give (lx : LX G) (lm : LM G) (I : INV h) (q : Int) : DuI l G mX3_give mX4_give [vI q] h cmp INV := dq_give lx lm I q (fun _ hM hR _ => q_give I.1 hM hR q)
theorem du_swap (lx : LX G) (lm : LM G) (I : INV h) (q : Int) : DuI l G mX3_swap mX4_swap [vI q] h cmp INV := dq_swap lx lm I q (fun _ hM hR _ => q_swap I.1 hM hR q)
theorem du_lean (lx : LX G) (lm : LM G) (I : INV h) (k i q : Int) : DuI l G mX3_lean mX4_lean [vI k, vI i, vI q] h cmp INV := dq_lean lx lm I k i q (fun _ hM hR _ => q_lean I.1 hM hR k i q)
theorem du_leans (lx : LX G) (lm : LM G) (I : INV h) (k : Int) : DuI l G mX3_leans mX4_leans [vI k] h cmp INV := dq_leans lx lm I k (fun _ hM hR _ => q_leans I.1 hM hR k)
theorem du_kinds (lx : LX G) (lm : LM G) (I : INV h) (k : Int) : DuI l G mX3_kinds mX4_kinds [vI k] h cmp INV := dq_kinds lx lm I k (fun _ hM hR _ => q_kinds I.1 hM hR k)
end DQ
