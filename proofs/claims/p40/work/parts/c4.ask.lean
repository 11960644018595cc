/-! answers alike: ask, drift -/
theorem cnt_al (d : Nat → Int) (P a : Nat) : ∀ n, cntB (fun b => decide (bitI (P : Int) b = 1 ∧ d b = d a)) n = alM d P a n
  | 0 => rfl
  | n + 1 => by
    have ih := cnt_al d P a n
    unfold cntB alM
    rw [ih]
    congr 1
    by_cases c : bitI (P : Int) n = 1 ∧ d n = d a
    · rw [if_pos (decide_eq_true c), if_pos ⟨c.1, c.2.symm⟩]
    · rw [if_neg (fun z => c (of_decide_eq_true z)), if_neg (fun z => c ⟨z.1, z.2.symm⟩)]
theorem al_cong (d : Nat → Int) (P : Nat) {a b : Nat} (h : d a = d b) : ∀ n, alM d P a n = alM d P b n
  | 0 => rfl
  | n + 1 => by unfold alM; rw [al_cong d P h n, h]
theorem ml_max (d : Nat → Int) (P : Nat) : ∀ N : Nat, (∀ a, a < N → bitI (P : Int) a = 1 → alM d P a N ≤ mlF d P N) ∧ (mlF d P N = 0 ∨ ∃ a, a < N ∧ bitI (P : Int) a = 1 ∧ mlF d P N = alM d P a N)
  | 0 => ⟨fun a h => by omega, Or.inl rfl⟩
  | N + 1 => by
    obtain ⟨u, t⟩ := ml_max d P N
    have hs : ∀ a, alM d P a (N + 1) = alM d P a N + (if bitI (P : Int) N = 1 ∧ d a = d N then 1 else 0) := fun a => rfl
    have hm : mlF d P (N + 1) = if bitI (P : Int) N = 0 then mlF d P N else (if mlF d P N < 1 + alM d P N N then 1 + alM d P N N else mlF d P N) := by
      show (if bitI (P : Int) N = 0 then mlF d P N else _) = _
      rw [cnt_al]
    rcases bitI_c (P : Int) N with b | b
    · rw [if_pos b] at hm
      have h0 : ∀ a, alM d P a (N + 1) = alM d P a N := fun a => by rw [hs, if_neg (fun z => by omega), Int.add_zero]
      rw [hm]
      refine ⟨fun a ha hb => ?_, ?_⟩
      · rw [h0]
        by_cases e : a = N
        · rw [e] at hb; omega
        · exact u a (by omega) hb
      · rcases t with z | ⟨a, z1, z2, z3⟩
        · exact Or.inl z
        · exact Or.inr ⟨a, by omega, z2, by rw [h0]; exact z3⟩
    · rw [if_neg (by omega)] at hm
      have hN : alM d P N (N + 1) = 1 + alM d P N N := by rw [hs, if_pos ⟨b, rfl⟩]; omega
      have hy : ∀ a, d a = d N → alM d P a (N + 1) = 1 + alM d P N N := fun a e => by rw [hs, if_pos ⟨b, e⟩, al_cong d P e]; omega
      have hn : ∀ a, ¬ d a = d N → alM d P a (N + 1) = alM d P a N := fun a e => by rw [hs, if_neg (fun z => e z.2), Int.add_zero]
      have hal := alM_in d P N N
      have hge : 1 + alM d P N N ≤ mlF d P (N + 1) ∧ mlF d P N ≤ mlF d P (N + 1) := by
        rw [hm]
        split <;> omega
      refine ⟨fun a ha hb => ?_, ?_⟩
      · by_cases e : d a = d N
        · rw [hy a e]; exact hge.1
        · rw [hn a e]
          have hne : a ≠ N := fun z => e (by rw [z])
          have := u a (by omega) hb
          omega
      · by_cases c : mlF d P N < 1 + alM d P N N
        · rw [if_pos c] at hm
          exact Or.inr ⟨N, by omega, b, by rw [hm, hN]⟩
        · rw [if_neg c] at hm
          rcases t with z | ⟨a, z1, z2, z3⟩
          · omega
          · have hne : ¬ d a = d N := fun e => by rw [al_cong d P e] at z3; omega
            exact Or.inr ⟨a, by omega, z2, by rw [hm, hn a hne]; exact z3⟩
theorem wo_max (d : Nat → Int) (P : Nat) : ∀ L : Nat, 0 ≤ woA d P L ∧ (∀ a, a < L → bitI (P : Int) a = 1 → alM d P a 7 ≤ woA d P L) ∧ (woA d P L = 0 ∨ ∃ a, a < L ∧ bitI (P : Int) a = 1 ∧ woA d P L = alM d P a 7)
  | 0 => ⟨Int.le_refl 0, fun a h => by omega, Or.inl rfl⟩
  | L + 1 => by
    obtain ⟨p, u, t⟩ := wo_max d P L
    have hm : woA d P (L + 1) = if woA d P L < aaM d P L then aaM d P L else woA d P L := rfl
    have ha : ∀ a, bitI (P : Int) a = 1 → aaM d P a = alM d P a 7 := fun a h => if_pos h
    have hz : ¬ bitI (P : Int) L = 1 → aaM d P L = 0 := fun h => if_neg h
    have hge : aaM d P L ≤ woA d P (L + 1) ∧ woA d P L ≤ woA d P (L + 1) := by
      rw [hm]; split <;> omega
    refine ⟨by omega, fun a hl hb => ?_, ?_⟩
    · by_cases e : a = L
      · subst e
        rw [← ha a hb]
        exact hge.1
      · have := u a (by omega) hb
        omega
    · by_cases c : woA d P L < aaM d P L
      · rw [if_pos c] at hm
        by_cases b : bitI (P : Int) L = 1
        · exact Or.inr ⟨L, by omega, b, by rw [hm, ha L b]⟩
        · rw [hz b] at c; omega
      · rw [if_neg c] at hm
        rcases t with z | ⟨a, z1, z2, z3⟩
        · exact Or.inl (by rw [hm]; exact z)
        · exact Or.inr ⟨a, by omega, z2, by rw [hm]; exact z3⟩
theorem ml_wo (d : Nat → Int) (P : Nat) : mlF d P 7 = woA d P 7 := by
  obtain ⟨u1, t1⟩ := ml_max d P 7
  obtain ⟨p2, u2, t2⟩ := wo_max d P 7
  have p1 := (mlF_in d P 7).1
  have h1 : mlF d P 7 ≤ woA d P 7 := by
    rcases t1 with z | ⟨a, z1, z2, z3⟩
    · omega
    · have := u2 a z1 z2; omega
  have h2 : woA d P 7 ≤ mlF d P 7 := by
    rcases t2 with z | ⟨a, z1, z2, z3⟩
    · omega
    · have := u1 a z1 z2; omega
  omega
theorem mlF_cong {d e : Nat → Int} {P : Nat} : ∀ n, (∀ j, j < n → d j = e j) → mlF d P n = mlF e P n
  | 0, _ => rfl
  | n + 1, h => by
    unfold mlF
    rw [mlF_cong n (fun j hj => h j (by omega))]
    have : cntB (fun b => decide (bitI (P : Int) b = 1 ∧ d b = d n)) n = cntB (fun b => decide (bitI (P : Int) b = 1 ∧ e b = e n)) n := cntB_cong n (fun j hj => by rw [h j (by omega), h n (by omega)])
    rw [this]
theorem ak_b : ∀ P : Nat, P < 128 → cntB (fun b => decide (bitI (P : Int) b = 1)) 7 = sumF (fun k => bitI (P : Int) k) 12 := by decide +kernel
section EQ
variable {x m : zH}
theorem q_ask (hX : wX x) (hM : IM m) (hR : Rel x m) (k q : Int) : qAsk k q x = nAsk k q m := by
  have hmen := hR.1.2
  have r1 := hR.1.1.1.1.1
  have w7 := hX.1.1.2.1
  unfold qAsk nAsk
  by_cases c : (0 ≤ k ∧ k < x 1 6) ∧ (q = 0 ∨ q = 1)
  · have g : ¬ ¬ ((0 ≤ k ∧ k < m 45 1) ∧ (0 ≤ q ∧ q ≤ 1)) := by omega
    rw [if_neg (fun z => z c), if_neg g]
    obtain ⟨c1, -⟩ := c
    obtain ⟨k, rfl⟩ := Int.eq_ofNat_of_zero_le c1.1
    rw [Int.toNat_natCast]
    have eP : akP x k = orN (laM m k) 7 := orN_cong 7 (fun v hv => la_eq hX hM hR c1.2 hv)
    have hP : orN (laM m k) 7 < 128 := orN_lt _ 7
    rw [eP]
    generalize orN (laM m k) 7 = P at hP
    unfold akB
    rw [ak_b P hP, soAB, ← r1]
    congr 1
    refine miF_cong _ (fun i hi => ?_)
    unfold akV akM
    rw [mlF_cong 7 (fun v hv => sx_lean hX hM hR c1.2 (show (i : Int) < x 1 7 by omega) hv)]
    exact ml_wo _ P
  · have g : ¬ ((0 ≤ k ∧ k < m 45 1) ∧ (0 ≤ q ∧ q ≤ 1)) := by omega
    rw [if_pos c, if_pos g]
theorem hours_RC {H : zH} {pg : Nat → Int} (r : RC H 8 pg) (wg : wPg pg) : orN (fun j => decide (¬ H (8 + 3) j = -4)) 12 = orN (hoB pg (-4)) 12 := by
  refine orN_cong 12 (fun j hj => ?_)
  have e := r.2.2.1 j hj
  have s := st_noF (j := j) wg hj
  unfold hoB
  rw [e]
  apply decide_eq_decide.mpr
  rw [s.1]
  constructor
  · intro z; exact ⟨by omega, Or.inl rfl⟩
  · intro z; omega
theorem drift_eq (hX : wX x) (hM : IM m) (hR : Rel x m) (h1 : 1 ≤ x 1 6) (sd : Int) : ∀ t : Nat, (dfN (x 1 6) (sd, 0, cpT x 1 8) t).1 = (dgN (m 45 1) (sd, 0, cpP m 0 99 33 46) t).1 ∧ (dfN (x 1 6) (sd, 0, cpT x 1 8) t).2.1 = (dgN (m 45 1) (sd, 0, cpP m 0 99 33 46) t).2.1 ∧ RT (dfN (x 1 6) (sd, 0, cpT x 1 8) t).2.2 8 (dgN (m 45 1) (sd, 0, cpP m 0 99 33 46) t).2.2 ∧ wT (dfN (x 1 6) (sd, 0, cpT x 1 8) t).2.2 8 ∧ wPg (dgN (m 45 1) (sd, 0, cpP m 0 99 33 46) t).2.2 ∧ (dfN (x 1 6) (sd, 0, cpT x 1 8) t).2.2 8 6 = x 1 6
  | 0 => by
    obtain ⟨r8, w8, e6, e7⟩ := rt8 hX hR
    exact ⟨rfl, rfl, RT_cg w8 (fun _ _ _ _ => rfl) (fun b hb => cpP_x 33 b (by omega)) r8, w8, wPg_cong (fun j hj => cpP_x 33 j (by omega)) hM.1.1, e6⟩
  | t + 1 => by
    obtain ⟨i1, i2, i3, i4, i5, i6⟩ := drift_eq hX hM hR h1 sd t
    have hmen := hR.1.2
    have w6 := hX.1.1.1
    have s1 : dfN (x 1 6) (sd, 0, cpT x 1 8) (t + 1) = dfS (x 1 6) (dfN (x 1 6) (sd, 0, cpT x 1 8) t) := rfl
    have s2 : dgN (m 45 1) (sd, 0, cpP m 0 99 33 46) (t + 1) = dgS (m 45 1) (dgN (m 45 1) (sd, 0, cpP m 0 99 33 46) t) := rfl
    rw [s1, s2]
    generalize dfN (x 1 6) (sd, 0, cpT x 1 8) t = S at *
    generalize dgN (m 45 1) (sd, 0, cpP m 0 99 33 46) t = T at *
    have hd := drw_in (s := nxS (nxS S.1)) (b := x 1 6 + 1) (by omega)
    have hr := drw_in (s := nxS S.1) (b := 12) (by omega)
    have rt : RT (dfH (x 1 6) S) 8 (dgP (m 45 1) T) ∧ wT (dfH (x 1 6) S) 8 ∧ wPg (dgP (m 45 1) T) ∧ dfH (x 1 6) S 8 6 = x 1 6 := by
      unfold dfH dgP
      rw [← i1, ← hmen]
      generalize drw (nxS (nxS S.1)) (x 1 6 + 1) = k at *
      generalize drw (nxS S.1) 12 = j at *
      have hv : (if k = x 1 6 then (-4 : Int) else k) = -4 ∨ (0 ≤ (if k = x 1 6 then (-4 : Int) else k) ∧ (if k = x 1 6 then (-4 : Int) else k) < S.2.2 8 6) := by
        rw [i6]
        split
        · exact Or.inl rfl
        · exact Or.inr (by omega)
      have hu : (if (if k = x 1 6 then (-4 : Int) else k) = -4 then (0 : Int) else (if k = x 1 6 then (-4 : Int) else k) + 1) = if k = x 1 6 then 0 else k + 1 := by
        by_cases c : k = x 1 6
        · rw [if_pos c, if_pos c, if_pos rfl]
        · rw [if_neg c, if_neg c, if_neg (show ¬ k = -4 by omega)]
      have rc := RC_stand i3.1 (by rw [i6]; exact w6.2) (j := j.toNat) (by omega) hv
      rw [hu] at rc
      refine ⟨RT_reb rc, wT_reb (wT_up3 i4 (by split <;> omega)), wPg_up8 (by omega) i5 (by split <;> omega), ?_⟩
      rw [reb_n (by omega), up_k (by omega)]
      exact i6
    obtain ⟨t1, t2, t3, t4⟩ := rt
    refine ⟨?_, ?_, t1, t2, t3, t4⟩
    · show nxS (nxS S.1) = nxS (nxS T.1)
      rw [i1]
    · show S.2.1 + hmA (dfH (x 1 6) S) 8 = T.2.1 + hmM (dgP (m 45 1) T)
      rw [i2, hm_eq t1 t2 t3]
theorem q_drift (hX : wX x) (hM : IM m) (hR : Rel x m) (sd n q : Int) : qDrift sd n q x = nDrift sd n q m := by
  have hmen := hR.1.2
  have w6 := hX.1.1.1
  unfold qDrift nDrift
  rw [← hmen]
  by_cases c : n < 1 ∨ 40 < n ∨ ¬ (q = 0 ∨ q = 1)
  · have g : ¬ ((1 ≤ n ∧ n ≤ 40) ∧ (0 ≤ q ∧ q ≤ 1)) := by omega
    rw [if_pos c, if_pos g]
  · have g : ¬ ¬ ((1 ≤ n ∧ n ≤ 40) ∧ (0 ≤ q ∧ q ≤ 1)) := by omega
    rw [if_neg c, if_neg g]
    by_cases c0 : x 1 6 = 0
    · rw [if_pos c0, if_pos c0]
    · rw [if_neg c0, if_neg c0]
      obtain ⟨e1, e2, e3, e4, e5, e6⟩ := drift_eq hX hM hR (by omega) sd n.toNat
      unfold dfA dgA
      rw [e2, hours_RC e3.1 e5]
end EQ
section DQ
variable {l : Launch} {G : zG} {h : zH} {cmp : Bool}
theorem du_ask (lx : LX G) (lm : LM G) (I : INV h) (k q : Int) : DuI l G mX3_ask mX4_ask [vI k, vI q] h cmp INV := dq_ask lx lm I k q (fun _ hM hR _ => q_ask I.1 hM hR k q)
theorem du_drift (lx : LX G) (lm : LM G) (I : INV h) (sd n q : Int) : DuI l G mX3_drift mX4_drift [vI sd, vI n, vI q] h cmp INV := dq_drift lx lm I sd n q (fun _ hM hR _ => q_drift I.1 hM hR sd n q)
end DQ
