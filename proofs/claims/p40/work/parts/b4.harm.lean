/-! what the square reads, deeds, harm: class and reference alike -/
section HE
variable {h : zH} {p : Nat} {pg : Nat → Int}
theorem st_noF {j : Nat} (wg : wPg pg) (hj : j < 12) : (noF (stM pg j) = -4 ↔ stM pg j < 0) ∧ (0 ≤ stM pg j → noF (stM pg j) = stM pg j) ∧ -1 ≤ stM pg j ∧ stM pg j ≤ 3 := by
  have := wg.2.2.1 j hj
  unfold noF stM
  refine ⟨?_, ?_, by omega, by omega⟩
  · split <;> omega
  · intro z; rw [if_neg (by omega)]
theorem stood_eq (r : RC h p pg) (wg : wPg pg) : ∀ j : Nat, j < 12 → stoodF (h (p + 3)) j = 4 * ((j : Int) - (bgF pg j : Int))
  | 0, _ => by simp [stoodF, bgF]
  | n + 1, hn => by
    have ih := stood_eq r wg n (by omega)
    have e1 := r.2.2.1 n (by omega)
    have e2 := r.2.2.1 (n + 1) hn
    have s1 := st_noF (j := n) wg (by omega)
    have s2 := st_noF (j := n + 1) wg hn
    unfold stoodF bgF
    rw [e1, e2]
    by_cases c : stM pg n = stM pg (n + 1)
    · rw [if_pos (by rw [c]), if_pos c, ih]; omega
    · rw [if_neg c, if_neg (by
        intro z
        apply c
        unfold noF at z
        split at z <;> split at z <;> omega)]
      omega
theorem slip_eq (r : RC h p pg) (wg : wPg pg) {q : Nat} (hq : q < 48) {m : Nat} (hm : m < 4) : slipF (pg m) ((q / 4 : Nat) : Int) (stoodF (h (p + 3)) (q / 4)) = slM pg m q := by
  have hk := wg.1 m hm
  have hs := stood_eq r wg (q / 4) (by omega)
  have hb := bgF_le pg (q / 4)
  unfold slipF slM sdM
  rw [hs]
  by_cases c0 : pg m = 0
  · rw [if_neg (by omega), if_neg (by omega), if_neg (by omega), if_pos c0]
  · rw [if_neg c0]
    by_cases c1 : pg m = 1
    · rw [if_pos c1, if_pos c1]
    · rw [if_neg c1, if_neg c1]
      by_cases c2 : pg m = 2
      · rw [if_pos c2, if_pos c2]
        omega
      · rw [if_neg c2, if_neg c2, if_pos (by omega)]
        rfl
theorem bend_eq (r : RT h p pg) (wg : wPg pg) (w6 : h p 6 ≤ 4) {q : Nat} (hq : q < 48) (hs : 0 ≤ stM pg (q / 4)) : h (p + 6) (q / 4) = slM pg (stM pg (q / 4)).toNat q + pg (4 + (stM pg (q / 4)).toNat) + pg 21 + 3 - 6 := by
  obtain ⟨rc, rb⟩ := r
  have s1 := st_noF (j := q / 4) wg (by omega)
  have e := rc.2.2.1 (q / 4) (by omega)
  rw [s1.2.1 hs] at e
  have ha := rc.2.2.2.2 (q / 4) (by omega)
  rw [rb (q / 4) (by omega)]
  unfold bendF
  rw [e] at ha ⊢
  rw [if_pos (by omega)]
  obtain ⟨m, hm⟩ := Int.eq_ofNat_of_zero_le hs
  rw [hm] at ha ⊢
  rw [Int.toNat_natCast]
  obtain ⟨k1, k2⟩ := rc.2.1 m (by omega)
  rw [k1, k2, slip_eq rc wg hq (by omega), rc.1.2.2]
  omega
theorem clamp_eq (v : Int) : clampF v = clM v := by
  unfold clampF clM
  by_cases c1 : v < 47
  · rw [if_pos c1]
    by_cases c2 : 0 < v
    · rw [if_pos c2, if_neg (by omega), if_neg (by omega)]
    · rw [if_neg c2]
      by_cases c3 : v < 0
      · rw [if_pos c3]
      · rw [if_neg c3, if_neg (by omega)]; omega
  · rw [if_neg c1, if_pos (by omega), if_neg (by omega)]
    by_cases c2 : 47 < v
    · rw [if_pos c2]
    · rw [if_neg c2]; omega
theorem rds_eq (r : RC h p pg) (wg : wPg pg) {j : Nat} (hj : j < 12) : rdsB h p j = true ↔ ¬ (stM pg j < 0 ∨ bitI (pg 20) j = 1) := by
  rw [rdsB_t, r.2.2.1 j hj, r.1.2.1]
  have s1 := st_noF (j := j) wg hj
  have hb := bitI_c (pg 20) j
  rw [s1.1]
  omega
theorem rd_eq (r : RT h p pg) (wg : wPg pg) (w6 : h p 6 ≤ 4) {q : Nat} (hq : q < 48) : rdgF h p q = rdM pg q := by
  have he := rds_eq r.1 wg (j := q / 4) (by omega)
  unfold rdgF rdM
  by_cases c : stM pg (q / 4) < 0 ∨ bitI (pg 20) (q / 4) = 1
  · rw [if_neg (fun z => he.mp z c), if_pos c]
  · rw [if_pos (he.mpr c), if_neg c, bend_eq r wg w6 hq (by omega), clamp_eq]
    congr 1
    omega
theorem clamp_due {d v : Int} (hd : 1 ≤ d ∧ d ≤ 47) : d ≤ clampF v ↔ d ≤ v := by
  rw [clamp_eq]
  unfold clM
  split
  · omega
  · split <;> omega
theorem hour_eq {rd : Nat → Int} {j : Nat} {due B : Int} {rs : Bool} (hd : 0 ≤ due ∧ due ≤ 47) (hr : ∀ t : Nat, t < 4 → rd (4 * j + t) = if rs = true then clampF (((4 * j + t : Nat) : Int) + B) else -4) (m : Nat) : dsM rd due (4 + m) (4 * j) = (if (if rs = true then (if (if due = 0 then 4 * (j : Int) else if 4 * (j : Int) < due - B then due - B else 4 * (j : Int)) < 4 * (j : Int) + 4 then (if due = 0 then 4 * (j : Int) else if 4 * (j : Int) < due - B then due - B else 4 * (j : Int)) else -4) else -4) = -4 then dsM rd due m (4 * (j + 1)) else (if rs = true then (if (if due = 0 then 4 * (j : Int) else if 4 * (j : Int) < due - B then due - B else 4 * (j : Int)) < 4 * (j : Int) + 4 then (if due = 0 then 4 * (j : Int) else if 4 * (j : Int) < due - B then due - B else 4 * (j : Int)) else -4) else -4)) := by
  have h0 := hr 0 (by omega)
  have h1 := hr 1 (by omega)
  have h2 := hr 2 (by omega)
  have h3 := hr 3 (by omega)
  rw [show 4 + m = m + 1 + 1 + 1 + 1 by omega]
  simp only [dsM]
  rw [show 4 * j + 1 + 1 = 4 * j + 2 by omega, show 4 * j + 2 + 1 = 4 * j + 3 by omega, show 4 * j + 3 + 1 = 4 * (j + 1) by omega, show rd (4 * j) = rd (4 * j + 0) from rfl, h0, h1, h2, h3]
  generalize hE : (if rs = true then (if (if due = 0 then 4 * (j : Int) else if 4 * (j : Int) < due - B then due - B else 4 * (j : Int)) < 4 * (j : Int) + 4 then (if due = 0 then 4 * (j : Int) else if 4 * (j : Int) < due - B then due - B else 4 * (j : Int)) else -4) else -4) = E
  cases rs with
  | false =>
    simp only [Bool.false_eq_true, if_false] at hE
    subst hE
    simp
  | true =>
    simp only [if_true] at hE ⊢
    have n4 : ∀ v, ¬ clampF v = -4 := fun v => by have := clampF_in v; omega
    by_cases c0 : due = 0
    · have hc := clampF_in (((4 * j + 0 : Nat) : Int) + B)
      rw [if_pos c0, if_pos (by omega)] at hE
      subst hE
      rw [if_pos ⟨n4 _, by omega⟩, if_neg (by omega)]
      omega
    · have k := fun v => clamp_due (d := due) (v := v) (by omega)
      rw [if_neg c0] at hE
      simp only [k, n4, not_false_eq_true, true_and]
      by_cases g : 4 * (j : Int) < due - B
      · rw [if_pos g] at hE
        rw [if_neg (show ¬ due ≤ ((4 * j + 0 : Nat) : Int) + B by omega)]
        by_cases g2 : due - B < 4 * (j : Int) + 4
        · rw [if_pos g2] at hE
          subst hE
          rw [if_neg (show ¬ due - B = -4 by omega)]
          by_cases q1 : due ≤ ((4 * j + 1 : Nat) : Int) + B
          · rw [if_pos q1]; omega
          · rw [if_neg q1]
            by_cases q2 : due ≤ ((4 * j + 2 : Nat) : Int) + B
            · rw [if_pos q2]; omega
            · rw [if_neg q2, if_pos (show due ≤ ((4 * j + 3 : Nat) : Int) + B by omega)]; omega
        · rw [if_neg g2] at hE
          subst hE
          rw [if_pos rfl, if_neg (show ¬ due ≤ ((4 * j + 1 : Nat) : Int) + B by omega), if_neg (show ¬ due ≤ ((4 * j + 2 : Nat) : Int) + B by omega), if_neg (show ¬ due ≤ ((4 * j + 3 : Nat) : Int) + B by omega)]
      · rw [if_neg g, if_pos (by omega)] at hE
        subst hE
        rw [if_pos (show due ≤ ((4 * j + 0 : Nat) : Int) + B by omega), if_neg (by omega)]
        omega
theorem srch_ds {rd : Nat → Int} {due : Int} {F : Nat → Int} (e : ∀ j m : Nat, j < 12 → dsM rd due (4 + m) (4 * j) = if F j = -4 then dsM rd due m (4 * (j + 1)) else F j) : ∀ n j : Nat, j + n ≤ 12 → dsM rd due (4 * n) (4 * j) = srch F n j
  | 0, _, _ => rfl
  | n + 1, j, hn => by
    rw [show 4 * (n + 1) = 4 + 4 * n by omega, e j (4 * n) (by omega), srch_ds e n (j + 1) (by omega)]
    rfl
theorem dn_eq' (r : RT h p pg) (wg : wPg pg) (w6 : h p 6 ≤ 4) {due : Int} (hd : 0 ≤ due ∧ due ≤ 47) : srch (fun j => fiF h p j due) 12 0 = dsM (rdM pg) due 48 0 := by
  refine (srch_ds (rd := rdM pg) (due := due) (F := fun j => fiF h p j due) (fun j m hj => ?_) 12 0 (by omega)).symm
  have hr : ∀ t : Nat, t < 4 → rdM pg (4 * j + t) = if rdsB h p j = true then clampF (((4 * j + t : Nat) : Int) + h (p + 6) j) else -4 := by
    intro t ht
    rw [← rd_eq r wg w6 (q := 4 * j + t) (by omega)]
    unfold rdgF
    rw [show (4 * j + t) / 4 = j by omega]
  exact hour_eq hd hr m
theorem dn_eq (r : RT h p pg) (w : wT h p) (wg : wPg pg) {i : Nat} (hi : (i : Int) < h p 7) : dnA h p i = dnM pg i := by
  have e := (r.1.2.2.2.1 i hi).1
  have hd := w.2.2.2.2.2.2.2.1 i
  unfold dnA dnM
  rw [dn_eq' r wg w.1.2 hd, e]
theorem haF_eq (wo du q : Int) : haF wo du q = hfM wo du q := by
  unfold haF hfM absF
  split
  · rfl
  · congr 1
    split <;> split <;> omega
theorem ha_eq (r : RT h p pg) (w : wT h p) (wg : wPg pg) {i : Nat} (hi : (i : Int) < h p 7) : haA h p i = haM pg i := by
  obtain ⟨e1, e2⟩ := r.1.2.2.2.1 i hi
  unfold haA haM
  rw [dn_eq r w wg hi, e1, e2, haF_eq]
theorem hm_eq (r : RT h p pg) (w : wT h p) (wg : wPg pg) : hmA h p = hmM pg := by
  have w7 := w.2.1
  unfold hmA hmM
  rw [r.1.1.1]
  exact sumF_cong _ (fun i hi => ha_eq r w wg (by rw [r.1.1.1]; omega))
end HE
