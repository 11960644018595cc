/-! answers alike: mean, luck -/
theorem orN_bit (c : Nat → Bool) : ∀ n j, (orN c n).testBit j = (decide (j < n) && c j)
  | 0, j => by simp [orN]
  | n + 1, j => by
    have ih := orN_bit c n j
    unfold orN
    by_cases h : c n = true
    · rw [if_pos h, Nat.testBit_or, ih, Nat.testBit_two_pow]
      by_cases e : j = n
      · subst e; simp [h]
      · have e2 : ¬ n = j := fun z => e z.symm
        have e3 : (j < n + 1) = (j < n) := by apply propext; omega
        simp [e2, e3]
    · rw [if_neg h, ih]
      by_cases e : j = n
      · subst e; simp [h]
      · have e3 : (j < n + 1) = (j < n) := by apply propext; omega
        simp [e3]
theorem may_bit (pg : Nat → Int) {j : Nat} (hj : j < 12) : (mayN pg).testBit j = (hoB pg (-4) j && !((pg 20).toNat.testBit j)) := by
  unfold mayN
  have h2 : Nat.testBit 4095 j = true := by
    rw [show 4095 = 2 ^ 12 - 1 from rfl, Nat.testBit_two_pow_sub_one]; simp; omega
  rw [Nat.testBit_and, Nat.testBit_xor, orN_bit, h2]
  simp [hj]
theorem sub_eq {M S : Nat} (hS : S < 4096) : S &&& (4095 ^^^ M) = 0 ↔ subB M S 12 = true := by
  have h2 : ∀ i, i < 12 → Nat.testBit 4095 i = true := fun i hi => by
    rw [show 4095 = 2 ^ 12 - 1 from rfl, Nat.testBit_two_pow_sub_one]; simp; omega
  unfold subB
  rw [allN_t]
  constructor
  · intro e j hj
    have := congrArg (fun n => n.testBit j) e
    simp only [Nat.testBit_and, Nat.testBit_xor, h2 j hj, Nat.zero_testBit] at this
    cases hs : S.testBit j
    · rfl
    · cases hm : M.testBit j
      · rw [hs, hm] at this; exact absurd this (by decide)
      · rfl
  · intro e
    apply Nat.eq_of_testBit_eq
    intro i
    rw [Nat.zero_testBit, Nat.testBit_and, Nat.testBit_xor]
    by_cases hi : i < 12
    · have := e i hi
      rw [h2 i hi]
      cases hs : S.testBit i
      · rfl
      · cases hm : M.testBit i
        · rw [hs, hm] at this; exact absurd this (by decide)
        · rfl
    · have h3 : S.testBit i = false := Nat.testBit_lt_two_pow (Nat.lt_of_lt_of_le (show S < 2 ^ 12 from hS) (Nat.pow_le_pow_right (by decide) (by omega)))
      rw [h3]; rfl
theorem cl_sum (pg : Nat → Int) (v i : Int) : ∀ n, clS pg v i n = sumF (fun S => if S &&& (4095 ^^^ mayN pg) = 0 then odF (mayN pg) S v 12 * vaM pg i S else 0) n
  | 0 => rfl
  | n + 1 => by unfold clS sumF; rw [cl_sum pg v i n]
theorem cl_TT (pg : Nat → Int) (v i : Int) : clS pg v i 4096 = TT (mayN pg) v 12 (vaM pg i) := by
  rw [cl_sum]
  unfold TT
  have e : (2 ^ 12 : Nat) = 4096 := by decide
  rw [e]
  refine sumF_cong 4096 (fun S hS => ?_)
  by_cases c : S &&& (4095 ^^^ mayN pg) = 0
  · rw [if_pos c, if_pos ((sub_eq hS).mp c)]
  · rw [if_neg c, if_neg (fun z => c ((sub_eq hS).mpr z))]
section OE
variable {x m : zH}
theorem may_rds (hX : wX x) (hM : IM m) (hR : Rel x m) {j : Nat} (hj : j < 12) : (mayN (m 46)).testBit j = true ↔ rdsB x 1 j = true := by
  have w20 := hM.1.1.2.2.2.1
  rw [may_bit (m 46) hj, rds_eq hR.1.1.1 hM.1.1 hj]
  obtain ⟨c, hc⟩ := Int.eq_ofNat_of_zero_le w20.1
  rw [hc, Int.toNat_natCast, bitI_nat]
  unfold hoB
  rw [Bool.and_eq_true, decide_eq_true_iff]
  cases c.testBit j
  · simp
  · simp
theorem F_may (hX : wX x) (hM : IM m) (hR : Rel x m) (due : Int) : ∀ j, j < 12 → ¬ fiF x 1 j due = -4 → (mayN (m 46)).testBit j = true := fun j hj h => by
  rw [may_rds hX hM hR hj]
  by_cases c : rdsB x 1 j = true
  · exact c
  · exact absurd (by unfold fiF; rw [if_neg c]) h
theorem dn_S (hX : wX x) (hM : IM m) (hR : Rel x m) {S i : Nat} (hS : S < 4096) (hi : (i : Int) < x 1 7) : dnM (pgS (m 46) S) i = srch (sh (fun j => fiF x 1 j (x (1 + 4) i)) S) 12 0 := by
  have w20 := hM.1.1.2.2.2.1
  have w6 := hX.1.1.1
  have e8 : x 1 8 = m 46 20 := hR.1.1.1.1.2.1
  have hlt := Nat.or_lt_two_pow (x := (m 46 20).toNat) (y := S) (n := 12) (by omega) hS
  have rc := RC_cloud hR.1.1.1 w6.2 (((m 46 20).toNat ||| S : Nat) : Int)
  have rt : RT (up x 1 8 (((m 46 20).toNat ||| S : Nat) : Int)) 1 (pgS (m 46) S) := ⟨rc, RB_o (by omega) hR.1.1.2⟩
  have wt : wT (up x 1 8 (((m 46 20).toNat ||| S : Nat) : Int)) 1 := wT_up0 hX.1.1 (by omega) (by omega) (fun _ => by omega) (by omega)
  rw [← dn_eq rt wt (wPg_pgS hM.1.1 hS) (i := i) (by rw [up_j (by omega)]; exact hi)]
  unfold dnA
  refine srch_cong 12 0 (fun j hj => ?_)
  have hj : j < 12 := by omega
  have hb : bitI (((m 46 20).toNat ||| S : Nat) : Int) j = 0 ↔ (bitI (x 1 8) j = 0 ∧ S.testBit j = false) := by
    rw [e8]
    obtain ⟨c, hc⟩ := Int.eq_ofNat_of_zero_le w20.1
    rw [hc, Int.toNat_natCast, bitI_nat, bitI_nat, Nat.testBit_or]
    cases c.testBit j <;> cases S.testBit j <;> simp
  have hr : rdsB (up x 1 8 (((m 46 20).toNat ||| S : Nat) : Int)) 1 j = true ↔ (rdsB x 1 j = true ∧ S.testBit j = false) := by
    rw [rdsB_t, rdsB_t, up_s, up_k (by omega), hb]
    constructor
    · rintro ⟨a, b, c⟩; exact ⟨⟨a, b⟩, c⟩
    · rintro ⟨⟨a, b⟩, c⟩; exact ⟨a, b, c⟩
  unfold sh
  by_cases cs : S.testBit j = true
  · rw [if_pos cs]
    unfold fiF
    rw [if_neg (fun z => by have := (hr.mp z).2; rw [cs] at this; exact absurd this (by decide))]
  · rw [if_neg cs]
    have cs' : S.testBit j = false := by cases h : S.testBit j
                                         · rfl
                                         · exact absurd h cs
    have he : rdsB (up x 1 8 (((m 46 20).toNat ||| S : Nat) : Int)) 1 j = rdsB x 1 j := by
      cases h : rdsB x 1 j
      · cases h2 : rdsB (up x 1 8 (((m 46 20).toNat ||| S : Nat) : Int)) 1 j
        · rfl
        · exact absurd (hr.mp h2).1 (by rw [h]; decide)
      · exact hr.mpr ⟨h, cs'⟩
    unfold fiF
    rw [he, up_k (by omega), up_k (by omega)]
/-! lowest terms -/
theorem eu_gcd : ∀ (k n a b : Nat), b < 2 ^ k → 2 * k ≤ n → euN n (a : Int) (b : Int) = ((Nat.gcd a b : Nat) : Int)
  | 0, n, a, b, hb, hn => by
    obtain rfl : b = 0 := by simpa using hb
    rw [Nat.gcd_zero_right]
    cases n with
    | zero => rfl
    | succ n => show (if (0 : Int) < ((0 : Nat) : Int) then _ else (a : Int)) = _; rw [if_neg (by omega)]
  | k + 1, n, a, b, hb, hn => by
    obtain ⟨n, rfl⟩ : ∃ n', n = n' + 1 + 1 := ⟨n - 2, by omega⟩
    by_cases b0 : b = 0
    · subst b0
      rw [Nat.gcd_zero_right]
      show (if (0 : Int) < ((0 : Nat) : Int) then _ else (a : Int)) = _
      rw [if_neg (by omega)]
    · show (if (0 : Int) < (b : Int) then euN (n + 1) (b : Int) ((a : Int) % (b : Int)) else _) = _
      rw [if_pos (by omega), ← Int.natCast_emod]
      have hc := Nat.mod_lt a (show 0 < b by omega)
      have hg : Nat.gcd a b = Nat.gcd b (a % b) := by rw [Nat.gcd_comm, Nat.gcd_rec, Nat.gcd_comm]
      rw [hg]
      generalize a % b = c at hc
      by_cases c0 : c = 0
      · subst c0
        rw [Nat.gcd_zero_right]
        show (if (0 : Int) < ((0 : Nat) : Int) then _ else (b : Int)) = _
        rw [if_neg (by omega)]
      · show (if (0 : Int) < (c : Int) then euN n (c : Int) ((b : Int) % (c : Int)) else _) = _
        rw [if_pos (by omega), ← Int.natCast_emod]
        have hg2 : Nat.gcd b c = Nat.gcd c (b % c) := by rw [Nat.gcd_comm, Nat.gcd_rec, Nat.gcd_comm]
        rw [hg2]
        refine eu_gcd k n c (b % c) ?_ (by omega)
        have h1 := Nat.mod_lt b (show 0 < c by omega)
        have h2 := Nat.div_add_mod b c
        have h3 : 1 ≤ b / c := Nat.div_pos (by omega) (by omega)
        have h4 : c * 1 ≤ c * (b / c) := Nat.mul_le_mul_left c h3
        have h5 : 2 ^ (k + 1) = 2 ^ k * 2 := Nat.pow_succ _ _
        omega
theorem pf_gcd (p : Nat) (q : Int) : pfF (p : Int) q = (if q = 0 then (p : Int) else 1000000000000) / ((Nat.gcd 1000000000000 p : Nat) : Int) := by
  have hg : euN 100 1000000000000 (p : Int) = ((Nat.gcd 1000000000000 p : Nat) : Int) := by
    by_cases p0 : p = 0
    · subst p0
      rfl
    · show (if (0 : Int) < (p : Int) then euN 99 (p : Int) ((1000000000000 : Int) % (p : Int)) else _) = _
      rw [if_pos (by omega), show ((1000000000000 : Int) % (p : Int)) = ((1000000000000 % p : Nat) : Int) from rfl, eu_gcd 40 99 p (1000000000000 % p) ?_ (by decide)]
      · rw [Nat.gcd_comm 1000000000000 p, Nat.gcd_comm p (1000000000000 % p), ← Nat.gcd_rec]
      · have := Nat.mod_le 1000000000000 p
        have : (1000000000000 : Nat) < 2 ^ 40 := by decide
        omega
  have h0 : 0 < Nat.gcd 1000000000000 p := Nat.gcd_pos_of_pos_left p (by decide)
  unfold pfF
  rw [hg, if_pos (by omega)]
theorem frac_eq {U D W p : Nat} (hD : 0 < D) (hW : 0 < W) (h : U * W = D * p) : U / Nat.gcd U D = p / Nat.gcd W p ∧ D / Nat.gcd U D = W / Nat.gcd W p := by
  have g1 : 0 < Nat.gcd U D := Nat.gcd_pos_of_pos_right U hD
  have g2 : 0 < Nat.gcd W p := Nat.gcd_pos_of_pos_left p hW
  have c1 := Nat.coprime_div_gcd_div_gcd g1
  have c2 := Nat.coprime_div_gcd_div_gcd g2
  have eU := Nat.div_mul_cancel (Nat.gcd_dvd_left U D)
  have eD := Nat.div_mul_cancel (Nat.gcd_dvd_right U D)
  have eW := Nat.div_mul_cancel (Nat.gcd_dvd_left W p)
  have ep := Nat.div_mul_cancel (Nat.gcd_dvd_right W p)
  generalize hu : U / Nat.gcd U D = u at *
  generalize hd : D / Nat.gcd U D = d at *
  generalize hw : W / Nat.gcd W p = w at *
  generalize hq : p / Nat.gcd W p = q at *
  generalize Nat.gcd U D = a at *
  generalize Nat.gcd W p = b at *
  have key : u * w = d * q := by
    rw [← eU, ← eD, ← eW, ← ep] at h
    have h2 : (u * w) * (a * b) = (d * q) * (a * b) := by
      rw [show u * w * (a * b) = u * a * (w * b) by simp only [Nat.mul_assoc, Nat.mul_comm, Nat.mul_left_comm], h]
      simp only [Nat.mul_assoc, Nat.mul_comm, Nat.mul_left_comm]
    exact Nat.eq_of_mul_eq_mul_right (Nat.mul_pos g1 g2) h2
  constructor
  · apply Nat.dvd_antisymm
    · exact c1.dvd_of_dvd_mul_left (show u ∣ d * q from ⟨w, key.symm⟩)
    · exact c2.symm.dvd_of_dvd_mul_right (show q ∣ u * w from ⟨d, by rw [key, Nat.mul_comm]⟩)
  · apply Nat.dvd_antisymm
    · exact c1.symm.dvd_of_dvd_mul_left (show d ∣ u * w from ⟨q, key⟩)
    · exact c2.dvd_of_dvd_mul_right (show w ∣ d * q from ⟨u, by rw [← key, Nat.mul_comm]⟩)
theorem by_eq {pg : Nat → Int} (wg : wPg pg) {v i : Int} (hv : 0 ≤ v ∧ v ≤ 10) {p : Int} (hp : 0 ≤ p) (h : dwF (mayN pg) 12 * p = 1000000000000 * clS pg v i 4096) (q : Int) : pfF p q = nBy pg v i q := by
  have hc := (clS_in wg hv i 4096 (Nat.le_refl _)).1
  have hd := (dwF_in (mayN pg) 12).1
  unfold nBy
  generalize clS pg v i 4096 = U at *
  generalize dwF (mayN pg) 12 = D at *
  obtain ⟨U, rfl⟩ := Int.eq_ofNat_of_zero_le hc
  obtain ⟨D, rfl⟩ := Int.eq_ofNat_of_zero_le (show 0 ≤ D by omega)
  obtain ⟨p, rfl⟩ := Int.eq_ofNat_of_zero_le hp
  have hn : U * 1000000000000 = D * p := by
    have : ((D * p : Nat) : Int) = ((1000000000000 * U : Nat) : Int) := by rw [Int.natCast_mul, Int.natCast_mul]; exact h
    omega
  obtain ⟨f1, f2⟩ := frac_eq (show 0 < D by omega) (show 0 < 1000000000000 by decide) hn
  rw [pf_gcd, Int.toNat_natCast, Int.toNat_natCast]
  by_cases c : q = 0
  · rw [if_pos c, if_pos c, ← Int.natCast_ediv, ← Int.natCast_ediv, f1]
  · rw [if_neg c, if_neg c, show (1000000000000 : Int) = ((1000000000000 : Nat) : Int) from rfl, ← Int.natCast_ediv, ← Int.natCast_ediv, f2]
theorem wh_G (F : Nat → Int) (v wo du : Int) : ∀ n, whN F v wo du n = whG F v (haF wo du) n
  | 0 => rfl
  | n + 1 => by unfold whN whG whS; rw [wh_G F v wo du n]
theorem q_mean (hX : wX x) (hM : IM m) (hR : Rel x m) (v q : Int) : qMean v q x = nMean v q m := by
  have r1 := hR.1.1.1.1.1
  have w7 := hX.1.1.2.1
  unfold qMean nMean
  by_cases c : v < 0 ∨ 10 < v ∨ ¬ (q = 0 ∨ q = 1)
  · rw [if_pos c, if_neg (show ¬ ((0 ≤ v ∧ v ≤ 10) ∧ (0 ≤ q ∧ q ≤ 1)) by omega)]
  · have hv : 0 ≤ v ∧ v ≤ 10 := by omega
    rw [if_neg c, if_pos (show (0 ≤ v ∧ v ≤ 10) ∧ (0 ≤ q ∧ q ≤ 1) by omega)]
    have hin := fun i => whR_in hX i v hv
    refine by_eq hM.1.1 hv (sumF_in (fun i => hin i) (x 1 7).toNat).1 ?_ q
    rw [cl_TT]
    have ev : TT (mayN (m 46)) v 12 (vaM (m 46) (-4)) = sumF (fun i => TT (mayN (m 46)) v 12 (fun S => haF (x (1 + 5) i) (x (1 + 4) i) (srch (sh (fun j => fiF x 1 j (x (1 + 4) i)) S) 12 0))) (x 1 7).toNat := by
      rw [← TT_sum]
      refine TT_cong (fun S hS => ?_)
      have hS : S < 4096 := hS
      unfold vaM
      rw [if_pos rfl]
      unfold hmM
      have e32 : pgS (m 46) S 32 = x 1 7 := by unfold pgS; rw [up1_n (by omega), r1]
      rw [e32]
      refine sumF_cong _ (fun i hi => ?_)
      have hi2 : (i : Int) < x 1 7 := by omega
      obtain ⟨e1, e2⟩ := hR.1.1.1.2.2.2.1 i hi2
      unfold haM
      rw [dn_S hX hM hR hS hi2, haF_eq, e1, e2]
      unfold pgS
      rw [up1_n (by omega), up1_n (by omega)]
    rw [ev, ← sumF_mul, ← sumF_mul]
    refine sumF_cong _ (fun i hi => ?_)
    rw [← wh_T (F_may hX hM hR (x (1 + 4) i))]
    unfold whR
    rw [wh_G]
def gL (q : Int) : Int := if q = -4 then 0 else 1
theorem od_G (F : Nat → Int) (v : Int) : ∀ n, odN F v n = (whG F v gL n).2
  | 0 => rfl
  | n + 1 => by
    have ih := od_G F v n
    unfold odN whG
    split
    · exact ih
    · rw [ih]
theorem lk_1 {F : Nat → Int} {v : Int} {M : Nat} (hF : ∀ j, j < 12 → ¬ F j = -4 → M.testBit j = true) : ∀ n, n ≤ 12 → (whG F v gL n).1 = 1000000000000 - (whG F v gL n).2
  | 0, _ => rfl
  | n + 1, hn => by
    have ih := lk_1 (v := v) hF n (by omega)
    obtain ⟨z, hz⟩ := (wh_R (v := v) (g := gL) hF n (by omega)).2
    have hp : ((10 ^ (12 - n) : Nat) : Int) = 10 * ((10 ^ (11 - n) : Nat) : Int) := by
      rw [show 12 - n = (11 - n) + 1 by omega, Nat.pow_succ]
      push_cast
      rw [Int.mul_comm]
    unfold whG
    by_cases c : F n = -4
    · rw [if_pos c]; exact ih
    · rw [if_neg c]
      have hg : gL (F n) = 1 := if_neg c
      dsimp only
      rw [hg, Int.mul_one, ih]
      rw [hp, Int.mul_assoc] at hz
      generalize (whG F v gL n).2 = L at *
      generalize ((10 ^ (11 - n) : Nat) : Int) * z = T at hz
      subst hz
      rw [Int.mul_ediv_cancel_left T (by decide), Int.mul_sub]
      omega
theorem q_luck (hX : wX x) (hM : IM m) (hR : Rel x m) (v i q : Int) : qLuck v i q x = nLuck v i q m := by
  have r1 := hR.1.1.1.1.1
  have w7 := hX.1.1.2.1
  unfold qLuck nLuck
  by_cases c : v < 0 ∨ 10 < v ∨ ¬ (0 ≤ i ∧ i < x 1 7) ∨ ¬ (q = 0 ∨ q = 1)
  · rw [if_pos c, if_neg (show ¬ ((0 ≤ v ∧ v ≤ 10) ∧ (0 ≤ i ∧ i < m 46 32) ∧ (0 ≤ q ∧ q ≤ 1)) by omega)]
  · have hv : 0 ≤ v ∧ v ≤ 10 := by omega
    rw [if_neg c, if_pos (show (0 ≤ v ∧ v ≤ 10) ∧ (0 ≤ i ∧ i < m 46 32) ∧ (0 ≤ q ∧ q ≤ 1) by omega)]
    obtain ⟨i, rfl⟩ := Int.eq_ofNat_of_zero_le (show 0 ≤ i by omega)
    have hi2 : (i : Int) < x 1 7 := by omega
    rw [Int.toNat_natCast]
    have hod := od_in (F := fun j => fiF x 1 j (x (1 + 4) i)) hv 12
    refine by_eq hM.1.1 hv (by omega) ?_ q
    have hF := F_may hX hM hR (x (1 + 4) i)
    have hT := wh_T (v := v) (g := gL) hF
    rw [show gL (-4) = 0 from rfl, Int.mul_zero, Int.add_zero, lk_1 hF 12 (by omega), ← od_G] at hT
    have eT : TT (mayN (m 46)) v 12 (fun S => gL (srch (sh (fun j => fiF x 1 j (x (1 + 4) i)) S) 12 0)) = TT (mayN (m 46)) v 12 (vaM (m 46) (i : Int)) := TT_cong (fun S hS => by
      have hS : S < 4096 := hS
      unfold vaM gL
      rw [if_neg (show ¬ (i : Int) = -4 by omega), Int.toNat_natCast, dn_S hX hM hR hS hi2])
    rw [hT, cl_TT, eT]
end OE
section DQ
variable {l : Launch} {G : zG} {h : zH} {cmp : Bool}
theorem du_mean (lx : LX G) (lm : LM G) (I : INV h) (v q : Int) : DuL l G mX3_mean mX4_mean [vI v, vI q] h cmp INV := dq_mean lx lm I v q (fun _ hM hR _ => q_mean I.1 hM hR v q)
theorem du_luck (lx : LX G) (lm : LM G) (I : INV h) (v i q : Int) : DuL l G mX3_luck mX4_luck [vI v, vI i, vI q] h cmp INV := dq_luck lx lm I v i q (fun _ hM hR _ => q_luck I.1 hM hR v i q)
end DQ
