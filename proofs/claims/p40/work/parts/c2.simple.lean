/-! answers alike: rota, torn, rule, man, deed, shows, lost, worst, done, count -/
theorem orN_cong {c d : Nat → Bool} : ∀ n, (∀ j, j < n → c j = d j) → orN c n = orN d n
  | 0, _ => rfl
  | n + 1, h => by unfold orN; rw [orN_cong n (fun j hj => h j (by omega)), h n (by omega)]
section EQ
variable {x m : zH}
theorem hours_eq (hM : IM m) (hR : Rel x m) : orN (fun j => decide (¬ x (1 + 3) j = -4)) 12 = orN (hoB (m 46) (-4)) 12 := by
  refine orN_cong 12 (fun j hj => ?_)
  have e := hR.1.1.1.2.2.1 j hj
  have s := st_noF (j := j) hM.1.1 hj
  unfold hoB
  rw [e]
  apply decide_eq_decide.mpr
  rw [s.1]
  constructor
  · intro z; exact ⟨by omega, Or.inl rfl⟩
  · intro z; omega
theorem q_rota (hX : wX x) (hM : IM m) (hR : Rel x m) (q : Int) : qRota q x = nRota q m := by
  unfold qRota nRota
  by_cases c : 0 ≤ q ∧ q < 12
  · rw [if_pos c, if_pos c, hR.1.1.1.2.2.1 _ (by omega)]
  · rw [if_neg c, if_neg c]
theorem q_rule (hX : wX x) (hM : IM m) (hR : Rel x m) (q : Int) : qRule q x = nRule q m := by
  obtain ⟨r1, r2, r3⟩ := hR.1.1.1.1
  have e5 := hm_eq hR.1.1 hX.1.1 hM.1.1
  unfold qRule nRule
  rw [r1, r2, r3, hR.1.2, hours_eq hM hR, e5]
theorem q_deed (hX : wX x) (hM : IM m) (hR : Rel x m) (i q : Int) : qDeed i q x = nDeed i q m := by
  have r1 := hR.1.1.1.1.1
  have w7 := hX.1.1.2.1
  unfold qDeed nDeed
  by_cases c : 0 ≤ i ∧ i < x 1 7
  · obtain ⟨i, rfl⟩ := Int.eq_ofNat_of_zero_le c.1
    obtain ⟨e1, e2⟩ := hR.1.1.1.2.2.2.1 i c.2
    have e3 := dn_eq hR.1.1 hX.1.1 hM.1.1 c.2
    have e4 := ha_eq hR.1.1 hX.1.1 hM.1.1 c.2
    rw [if_neg (fun z => z c), Int.toNat_natCast, e1, e2, e3, e4]
    by_cases c2 : 0 ≤ q ∧ q ≤ 3
    · have g : ¬ ¬ ((0 ≤ (i : Int) ∧ (i : Int) < m 46 32) ∧ 0 ≤ q ∧ q ≤ 3) := fun z => z ⟨by omega, c2⟩
      rw [if_neg g]
      rcases (show q = 0 ∨ q = 1 ∨ q = 2 ∨ q = 3 by omega) with rfl | rfl | rfl | rfl
      · rw [if_pos (show (0 : Int) = 0 from rfl), if_pos (show (0 : Int) < 2 by decide), show (22 + 5 * 0 + (i : Int)).toNat = 22 + i by omega]
      · rw [if_neg (show ¬ (1 : Int) = 0 by decide), if_pos (show (1 : Int) = 1 from rfl), if_pos (show (1 : Int) < 2 by decide), show (22 + 5 * 1 + (i : Int)).toNat = 27 + i by omega]
      · rw [if_neg (show ¬ (2 : Int) = 0 by decide), if_neg (show ¬ (2 : Int) = 1 by decide), if_pos (show (2 : Int) = 2 from rfl), if_neg (show ¬ (2 : Int) < 2 by decide), if_pos (show (2 : Int) = 2 from rfl)]
      · rw [if_neg (show ¬ (3 : Int) = 0 by decide), if_neg (show ¬ (3 : Int) = 1 by decide), if_neg (show ¬ (3 : Int) = 2 by decide), if_pos (show (3 : Int) = 3 from rfl), if_neg (show ¬ (3 : Int) < 2 by decide), if_neg (show ¬ (3 : Int) = 2 by decide)]
    · have g : ¬ ((0 ≤ (i : Int) ∧ (i : Int) < m 46 32) ∧ 0 ≤ q ∧ q ≤ 3) := fun z => c2 z.2
      rw [if_pos g, if_neg (show ¬ q = 0 by omega), if_neg (show ¬ q = 1 by omega), if_neg (show ¬ q = 2 by omega), if_neg (show ¬ q = 3 by omega)]
  · rw [if_pos c, if_pos (fun z => c (by omega))]
theorem q_shows (hX : wX x) (hM : IM m) (hR : Rel x m) (q : Int) : qShows q x = nShows q m := by
  unfold qShows nShows
  by_cases c : 0 ≤ q ∧ q < 48
  · rw [if_pos c, if_pos (by omega), rd_eq hR.1.1 hM.1.1 hX.1.1.1.2 (by omega)]
  · rw [if_neg c, if_neg (by omega)]
theorem lo_eq {rd rd' : Nat → Int} : ∀ n : Nat, (∀ q, q < n → rd q = rd' q) → loF rd n = loM rd' n ∧ ((loM rd' n).1 = 0 ↔ (loM rd' n).2.1 = -4)
  | 0, _ => ⟨rfl, by simp [loM]⟩
  | n + 1, h => by
    obtain ⟨e, k⟩ := lo_eq n (fun q hq => h q (by omega))
    have hi := loM_in rd' n
    unfold loF loM
    rw [e, h n (by omega)]
    generalize loM rd' n = S at *
    by_cases c1 : rd' n = -4
    · rw [if_pos c1, if_neg (fun z => z.1 c1)]
      dsimp only
      rw [if_pos c1]
      exact ⟨rfl, k⟩
    · rw [if_neg c1]
      by_cases c2 : rd' n < S.2.2
      · have g : ¬ rd' n = -4 ∧ rd' n < S.2.2 := ⟨c1, c2⟩
        rw [if_pos c2, if_pos g]
        by_cases c3 : S.1 = 0
        · rw [if_pos c3, if_pos (k.mp c3)]
          exact ⟨rfl, by dsimp only; omega⟩
        · rw [if_neg c3, if_neg (fun z => c3 (k.mpr z))]
          exact ⟨rfl, by dsimp only; constructor
                         · omega
                         · intro z; exact absurd (k.mpr z) c3⟩
      · rw [if_neg c2, if_neg (fun z => c2 z.2)]
        dsimp only
        rw [if_neg c1]
        exact ⟨rfl, k⟩
theorem q_lost (hX : wX x) (hM : IM m) (hR : Rel x m) (q : Int) : qLost q x = nLost q m := by
  have e := (lo_eq (rd := rdgF x 1) (rd' := rdM (m 46)) 48 (fun q hq => rd_eq hR.1.1 hM.1.1 hX.1.1.1.2 hq)).1
  unfold qLost nLost
  rw [e]
  by_cases c : q = 0 ∨ q = 1
  · rw [if_neg (fun z => z c), if_neg (show ¬ ¬ (0 ≤ q ∧ q ≤ 1) by omega)]
  · rw [if_pos c, if_pos (show ¬ (0 ≤ q ∧ q ≤ 1) by omega)]
theorem wo_eq {rd rd' : Nat → Int} : ∀ n : Nat, (∀ q, q < n → rd q = rd' q) → woF rd n = woM rd' n ∧ -4 ≤ (woM rd' n).1
  | 0, _ => ⟨rfl, by simp [woM]⟩
  | n + 1, h => by
    obtain ⟨e, k⟩ := wo_eq n (fun q hq => h q (by omega))
    unfold woF woM
    rw [e, h n (by omega)]
    generalize woM rd' n = S at *
    unfold ofM
    by_cases c1 : rd' n = -4
    · rw [if_pos c1, if_neg (fun z => z.1 c1), if_neg (by omega)]
      exact ⟨rfl, k⟩
    · rw [if_neg c1]
      have ea : absF (rd' n - n) = (if (n : Int) < rd' n then rd' n - n else n - rd' n) := by unfold absF; split <;> split <;> omega
      rw [ea]
      by_cases c2 : S.1 < (if (n : Int) < rd' n then rd' n - n else n - rd' n)
      · rw [if_pos ⟨c1, c2⟩, if_pos c2]
        exact ⟨rfl, by dsimp only; split <;> omega⟩
      · rw [if_neg (fun z => c2 z.2), if_neg c2]
        exact ⟨rfl, k⟩
theorem q_worst (hX : wX x) (hM : IM m) (hR : Rel x m) (q : Int) : qWorst q x = nWorst q m := by
  have e := (wo_eq (rd := rdgF x 1) (rd' := rdM (m 46)) 48 (fun q hq => rd_eq hR.1.1 hM.1.1 hX.1.1.1.2 hq)).1
  unfold qWorst nWorst
  rw [e]
  by_cases c : q = 0 ∨ q = 1
  · rw [if_neg (fun z => z c), if_neg (show ¬ ¬ (0 ≤ q ∧ q ≤ 1) by omega)]
  · rw [if_pos c, if_pos (show ¬ (0 ≤ q ∧ q ≤ 1) by omega)]
theorem q_done (hX : wX x) (hM : IM m) (hR : Rel x m) (q : Int) : qDone q x = nDone q m := by
  have r1 := hR.1.1.1.1.1
  have w7 := hX.1.1.2.1
  unfold qDone nDone
  by_cases c : 0 ≤ q ∧ q ≤ 3
  · rw [if_neg (by omega), if_neg (fun z => z c), ← r1]
    congr 1
    refine orN_cong _ (fun i hi => ?_)
    have hi2 : (i : Int) < x 1 7 := by omega
    rw [dn_eq hR.1.1 hX.1.1 hM.1.1 hi2, (hR.1.1.1.2.2.2.1 i hi2).1]
    have e : tmF (dnM (m 46) i) (m 46 (22 + i)) = wyM (dnM (m 46) i) (m 46 (22 + i)) := by
      unfold tmF wyM
      split
      · rfl
      · split <;> split <;> omega
    rw [e]
  · rw [if_pos (by omega), if_pos c]
theorem quart_eq (hX : wX x) (hM : IM m) (hR : Rel x m) : ∀ n : Nat, n ≤ 12 → sumF (fun j => if rdsB x 1 j = true then 4 else 0) n = sumF (fun q => if rdM (m 46) q = -4 then 0 else 1) (4 * n)
  | 0, _ => rfl
  | n + 1, hn => by
    have ih := quart_eq hX hM hR n (by omega)
    have he := rds_eq hR.1.1.1 hM.1.1 (j := n) (by omega)
    have hq : ∀ t, t < 4 → (rdM (m 46) (4 * n + t) = -4 ↔ ¬ rdsB x 1 n = true) := fun t ht => by
      unfold rdM
      rw [show (4 * n + t) / 4 = n by omega]
      by_cases c : stM (m 46) n < 0 ∨ bitI (m 46 20) n = 1
      · rw [if_pos c]
        exact ⟨fun _ z => he.mp z c, fun _ => rfl⟩
      · rw [if_neg c]
        have := clM_in (((4 * n + t : Nat) : Int) + slM (m 46) (stM (m 46) n).toNat (4 * n + t) + m 46 (4 + (stM (m 46) n).toNat) + m 46 21 + 3 - 6)
        exact ⟨fun z => by omega, fun z => absurd (he.mpr c) z⟩
    rw [show 4 * (n + 1) = 4 * n + 1 + 1 + 1 + 1 by omega]
    simp only [sumF]
    rw [← ih, show 4 * n + 1 + 1 = 4 * n + 2 by omega, show 4 * n + 2 + 1 = 4 * n + 3 by omega]
    have h0 := hq 0 (by omega)
    have h1 := hq 1 (by omega)
    have h2 := hq 2 (by omega)
    have h3 := hq 3 (by omega)
    rw [show 4 * n + 0 = 4 * n from rfl] at h0
    by_cases c : rdsB x 1 n = true
    · rw [if_pos c, if_neg (fun z => h0.mp z c), if_neg (fun z => h1.mp z c), if_neg (fun z => h2.mp z c), if_neg (fun z => h3.mp z c)]
      omega
    · rw [if_neg c, if_pos (h0.mpr c), if_pos (h1.mpr c), if_pos (h2.mpr c), if_pos (h3.mpr c)]
      omega
theorem q_count (hX : wX x) (hM : IM m) (hR : Rel x m) (q : Int) : qCount q x = nCount q m := by
  have r1 := hR.1.1.1.1.1
  have w7 := hX.1.1.2.1
  have e5 := quart_eq hX hM hR 12 (by omega)
  have e4 : sumF (x (1 + 5)) (x 1 7).toNat = sumF (fun i => m 46 (27 + i)) (m 46 32).toNat := by
    rw [r1]
    exact sumF_cong _ (fun i hi => (hR.1.1.1.2.2.2.1 i (by rw [r1]; omega)).2)
  have e3 : (if x 34 1 = -1 then (-4 : Int) else x 34 2) = (if m 55 0 = -4 then -4 else m 56 0) := by
    obtain ⟨y1, y2, -⟩ := hR.2.2.2.2.1 0 (by omega)
    have y1 : x 34 1 = if m 55 0 = -4 then -1 else m 55 0 := y1
    have y2 : x 34 2 = m 56 0 := y2
    have hl := hM.2.1 0 (by omega)
    rw [y1, y2]
    by_cases e : m 55 0 = -4
    · rw [if_pos e, if_pos rfl, if_pos e]
    · rw [if_neg e, if_neg (by omega), if_neg e]
  unfold qCount nCount
  rw [hR.2.2.2.1.1, (hR.2.1 0 (by omega)).1, (hR.2.1 1 (by omega)).1, hR.2.2.1.1, e3, e4, e5]
theorem man_ls (hX : wX x) (hM : IM m) (hR : Rel x m) {k : Int} (hk : 0 ≤ k) : ∀ n : Nat, n ≤ 12 → mnF (m 46) k (4 * n) = (if (lsF (x (1 + 3)) k n).2 = 0 then -4 else (lsF (x (1 + 3)) k n).2 * 4 - 1) ∧ (lsF (x (1 + 3)) k n).1 = (if n = 0 then 0 else if x (1 + 3) (n - 1) = k then (n : Int) - bgF (m 46) (n - 1) else 0)
  | 0, _ => ⟨rfl, rfl⟩
  | n + 1, hn => by
    obtain ⟨i1, i2⟩ := man_ls hX hM hR hk n (by omega)
    have hin := lsF_in (x (1 + 3)) k n
    have hs := fun j (hj : j < 12) => hR.1.1.1.2.2.1 j hj
    have sn := st_noF (j := n) hM.1.1 (by omega)
    have hb := bgF_le (m 46) n
    have est : x (1 + 3) n = k ↔ stM (m 46) n = k := by
      rw [hs n (by omega)]
      constructor
      · intro z
        rw [← z]
        exact (sn.2.1 (by by_cases y : stM (m 46) n < 0
                          · rw [sn.1.mpr y] at z; omega
                          · omega)).symm
      · intro z
        rw [sn.2.1 (by omega), z]
    have e4 : mnF (m 46) k (4 * (n + 1)) = (if stM (m 46) n = k ∧ mnF (m 46) k (4 * n) < 4 * (n : Int) - 4 * (bgF (m 46) n : Int) + 3 then 4 * (n : Int) - 4 * (bgF (m 46) n : Int) + 3 else mnF (m 46) k (4 * n)) := by
      have d : ∀ t, t < 4 → mnF (m 46) k (4 * n + t + 1) = if stM (m 46) n = k ∧ mnF (m 46) k (4 * n + t) < 4 * (n : Int) - 4 * (bgF (m 46) n : Int) + (t : Int) then 4 * (n : Int) - 4 * (bgF (m 46) n : Int) + (t : Int) else mnF (m 46) k (4 * n + t) := fun t ht => by
        have e : sdM (m 46) (4 * n + t) = 4 * (n : Int) - 4 * (bgF (m 46) n : Int) + (t : Int) := by unfold sdM; rw [show (4 * n + t) / 4 = n by omega]; omega
        show (if stM (m 46) ((4 * n + t) / 4) = k ∧ mnF (m 46) k (4 * n + t) < sdM (m 46) (4 * n + t) then sdM (m 46) (4 * n + t) else mnF (m 46) k (4 * n + t)) = _
        rw [show (4 * n + t) / 4 = n by omega, e]
      have d0 := d 0 (by omega)
      have d1 := d 1 (by omega)
      have d2 := d 2 (by omega)
      have d3 := d 3 (by omega)
      rw [show 4 * n + 0 = 4 * n from rfl] at d0
      rw [show 4 * n + 1 + 1 = 4 * n + 2 by omega] at d1
      rw [show 4 * n + 2 + 1 = 4 * n + 3 by omega] at d2
      rw [show 4 * (n + 1) = 4 * n + 3 + 1 by omega]
      generalize mnF (m 46) k (4 * n + 3 + 1) = v4 at *
      generalize mnF (m 46) k (4 * n + 3) = v3 at *
      generalize mnF (m 46) k (4 * n + 2) = v2 at *
      generalize mnF (m 46) k (4 * n + 1) = v1 at *
      generalize mnF (m 46) k (4 * n) = v0 at *
      generalize 4 * (n : Int) - 4 * (bgF (m 46) n : Int) = a at *
      by_cases c0 : stM (m 46) n = k
      · simp only [c0, true_and] at d0 d1 d2 d3 ⊢
        have f : ∀ {u w b : Int}, u = (if w < b then b else w) → (w < b → u = b) ∧ (¬ w < b → u = w) := fun {u w b} e => ⟨fun z => by rw [e, if_pos z], fun z => by rw [e, if_neg z]⟩
        have g0 := f d0
        have g1 := f d1
        have g2 := f d2
        have g3 := f d3
        by_cases c : v0 < a + 3
        · rw [if_pos c]; omega
        · rw [if_neg c]; omega
      · simp only [c0, false_and, if_false] at d0 d1 d2 d3 ⊢
        omega
    have i2' : (lsF (x (1 + 3)) k (n + 1)).1 = (if x (1 + 3) n = k then (lsF (x (1 + 3)) k n).1 + 1 else 0) := rfl
    have i3' : (lsF (x (1 + 3)) k (n + 1)).2 = (if (lsF (x (1 + 3)) k n).2 < (if x (1 + 3) n = k then (lsF (x (1 + 3)) k n).1 + 1 else 0) then (if x (1 + 3) n = k then (lsF (x (1 + 3)) k n).1 + 1 else 0) else (lsF (x (1 + 3)) k n).2) := rfl
    have irun : x (1 + 3) n = k → (lsF (x (1 + 3)) k n).1 + 1 = ((n + 1 : Nat) : Int) - bgF (m 46) n := by
      intro z
      rw [i2]
      cases n with
      | zero => simp [bgF]
      | succ n =>
        rw [if_neg (by omega), show n + 1 - 1 = n by omega]
        have hs1 := hs n (by omega)
        have hs2 := hs (n + 1) (by omega)
        have sn1 := st_noF (j := n) hM.1.1 (by omega)
        by_cases y : x (1 + 3) n = k
        · have e : stM (m 46) n = stM (m 46) (n + 1) := by
            rw [hs1] at y
            rw [est.mp z]
            have : 0 ≤ stM (m 46) n := by
              by_cases u : stM (m 46) n < 0
              · rw [sn1.1.mpr u] at y; omega
              · omega
            rw [sn1.2.1 this] at y
            exact y
          rw [if_pos y]
          show (((n + 1 : Nat) : Int)) - _ + 1 = _
          have : bgF (m 46) (n + 1) = bgF (m 46) n := by
            show (if stM (m 46) n = stM (m 46) (n + 1) then bgF (m 46) n else n + 1) = _
            rw [if_pos e]
          rw [this]
          omega
        · have e : ¬ stM (m 46) n = stM (m 46) (n + 1) := by
            intro u
            apply y
            rw [hs1, u, ← hs2]
            exact z
          rw [if_neg y]
          have : bgF (m 46) (n + 1) = n + 1 := by
            show (if stM (m 46) n = stM (m 46) (n + 1) then bgF (m 46) n else n + 1) = _
            rw [if_neg e]
          rw [this]
          omega
    refine ⟨?_, ?_⟩
    · rw [e4, i3', i1]
      by_cases c : x (1 + 3) n = k
      · have ir := irun c
        rw [if_pos c, ir]
        have c' := est.mp c
        simp only [c', true_and]
        generalize (lsF (x (1 + 3)) k n).2 = L at *
        generalize bgF (m 46) n = B at *
        by_cases z : L = 0
        · rw [if_pos z, if_pos (show (-4 : Int) < 4 * (n : Int) - 4 * (B : Int) + 3 by omega), if_pos (show L < ((n + 1 : Nat) : Int) - B by omega), if_neg (show ¬ ((n + 1 : Nat) : Int) - B = 0 by omega)]
          omega
        · rw [if_neg z]
          by_cases z2 : L < ((n + 1 : Nat) : Int) - B
          · rw [if_pos (show L * 4 - 1 < 4 * (n : Int) - 4 * (B : Int) + 3 by omega), if_pos z2, if_neg (show ¬ ((n + 1 : Nat) : Int) - B = 0 by omega)]; omega
          · rw [if_neg (show ¬ L * 4 - 1 < 4 * (n : Int) - 4 * (B : Int) + 3 by omega), if_neg z2, if_neg z]
      · rw [if_neg c, if_neg (show ¬ (lsF (x (1 + 3)) k n).2 < 0 by omega), if_neg (fun z => c (est.mpr z.1))]
    · rw [i2', if_neg (show ¬ n + 1 = 0 by omega), show n + 1 - 1 = n by omega]
      by_cases c : x (1 + 3) n = k
      · rw [if_pos c, if_pos c, irun c]
      · rw [if_neg c, if_neg c]
theorem q_man (hX : wX x) (hM : IM m) (hR : Rel x m) (k q : Int) : qMan k q x = nMan k q m := by
  have hmen := hR.1.2
  have w6 := hX.1.1.1
  unfold qMan nMan
  by_cases c : 0 ≤ k ∧ k < x 1 6
  · have els := (man_ls hX hM hR c.1 12 (by omega)).1
    have eho : orN (fun j => decide (x (1 + 3) j = k)) 12 = orN (hoB (m 46) k) 12 := by
      refine orN_cong 12 (fun j hj => ?_)
      have e := hR.1.1.1.2.2.1 j hj
      have s := st_noF (j := j) hM.1.1 hj
      unfold hoB
      rw [e]
      apply decide_eq_decide.mpr
      by_cases y : stM (m 46) j < 0
      · rw [s.1.mpr y]
        omega
      · rw [s.2.1 (by omega)]
        omega
    obtain ⟨k, rfl⟩ := Int.eq_ofNat_of_zero_le c.1
    obtain ⟨e1, e2⟩ := hR.1.1.1.2.1 k c.2
    rw [if_neg (fun z => z c), Int.toNat_natCast, e1, e2, eho]
    unfold lsA
    rw [← els]
    by_cases c2 : 0 ≤ q ∧ q ≤ 3
    · have g : ¬ ¬ ((0 ≤ (k : Int) ∧ (k : Int) < m 45 1) ∧ 0 ≤ q ∧ q ≤ 3) := fun z => z ⟨by omega, c2⟩
      rw [if_neg g]
      rcases (show q = 0 ∨ q = 1 ∨ q = 2 ∨ q = 3 by omega) with rfl | rfl | rfl | rfl
      · rw [if_pos (show (0 : Int) = 0 from rfl), if_pos (show (0 : Int) < 2 by decide), show (4 * 0 + (k : Int)).toNat = k by omega]
      · rw [if_neg (show ¬ (1 : Int) = 0 by decide), if_pos (show (1 : Int) = 1 from rfl), if_pos (show (1 : Int) < 2 by decide), show (4 * 1 + (k : Int)).toNat = 4 + k by omega]
      · rw [if_neg (show ¬ (2 : Int) = 0 by decide), if_neg (show ¬ (2 : Int) = 1 by decide), if_pos (show (2 : Int) = 2 from rfl), if_neg (show ¬ (2 : Int) < 2 by decide), if_pos (show (2 : Int) = 2 from rfl)]
      · rw [if_neg (show ¬ (3 : Int) = 0 by decide), if_neg (show ¬ (3 : Int) = 1 by decide), if_neg (show ¬ (3 : Int) = 2 by decide), if_pos (show (3 : Int) = 3 from rfl), if_neg (show ¬ (3 : Int) < 2 by decide), if_neg (show ¬ (3 : Int) = 2 by decide)]
    · have g : ¬ ((0 ≤ (k : Int) ∧ (k : Int) < m 45 1) ∧ 0 ≤ q ∧ q ≤ 3) := fun z => c2 z.2
      rw [if_pos g, if_neg (show ¬ q = 0 by omega), if_neg (show ¬ q = 1 by omega), if_neg (show ¬ q = 2 by omega), if_neg (show ¬ q = 3 by omega)]
  · rw [if_pos c, if_pos (fun z => c (by omega))]
end EQ
section DQ
variable {l : Launch} {G : zG} {h : zH} {cmp : Bool}
theorem du_rota (lx : LX G) (lm : LM G) (I : INV h) (q : Int) : DuI l G mX3_rota mX4_rota [vI q] h cmp INV := dq_rota lx lm I q (fun _ hM hR _ => q_rota I.1 hM hR q)
theorem du_rule (lx : LX G) (lm : LM G) (I : INV h) (q : Int) : DuI l G mX3_rule mX4_rule [vI q] h cmp INV := dq_rule lx lm I q (fun _ hM hR _ => q_rule I.1 hM hR q)
theorem du_man (lx : LX G) (lm : LM G) (I : INV h) (k q : Int) : DuI l G mX3_man mX4_man [vI k, vI q] h cmp INV := dq_man lx lm I k q (fun _ hM hR _ => q_man I.1 hM hR k q)
theorem du_deed (lx : LX G) (lm : LM G) (I : INV h) (k q : Int) : DuI l G mX3_deed mX4_deed [vI k, vI q] h cmp INV := dq_deed lx lm I k q (fun _ hM hR _ => q_deed I.1 hM hR k q)
theorem du_shows (lx : LX G) (lm : LM G) (I : INV h) (q : Int) : DuI l G mX3_shows mX4_shows [vI q] h cmp INV := dq_shows lx lm I q (fun _ hM hR _ => q_shows I.1 hM hR q)
theorem du_lost (lx : LX G) (lm : LM G) (I : INV h) (q : Int) : DuI l G mX3_lost mX4_lost [vI q] h cmp INV := dq_lost lx lm I q (fun _ hM hR _ => q_lost I.1 hM hR q)
theorem du_worst (lx : LX G) (lm : LM G) (I : INV h) (q : Int) : DuI l G mX3_worst mX4_worst [vI q] h cmp INV := dq_worst lx lm I q (fun _ hM hR _ => q_worst I.1 hM hR q)
theorem du_done (lx : LX G) (lm : LM G) (I : INV h) (q : Int) : DuI l G mX3_done mX4_done [vI q] h cmp INV := dq_done lx lm I q (fun _ hM hR _ => q_done I.1 hM hR q)
theorem du_torn (lx : LX G) (lm : LM G) (I : INV h) : DuI l G mX3_torn mX4_torn [] h cmp INV := dq_torn lx lm I (fun _ _ hR _ => hR.2.2.2.2.2)
theorem du_count (lx : LX G) (lm : LM G) (I : INV h) (q : Int) : DuI l G mX3_count mX4_count [vI q] h cmp INV := dq_count lx lm I q (fun _ hM hR _ => q_count I.1 hM hR q)
end DQ
