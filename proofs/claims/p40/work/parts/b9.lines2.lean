/-! lines of a text, side by side: cloud, paint, deed, rota -/
theorem bitI_0 (j : Nat) : bitI 0 j = 0 := by unfold bitI; simp
theorem TH_w {c : zH} {r p : Nat → Int} {f : zH} (q : TH c r p) {p' : Nat → Int} (h1 : RC0 f 8 p') (h2 : RB f 8) (h6 : f 8 6 = c 8 6) (h11 : ∀ b, f 11 b = c 11 b) : TH f r p' := by
  obtain ⟨u1, u2, u3, u4, u5, u6, u7⟩ := q
  refine ⟨h1, h2, h6.trans u3, u4, fun j hj => by rw [h11]; exact u5 j hj, ?_, fun j z1 z2 => by rw [h11]; exact u7 j z1 z2⟩
  rcases u6 with z | ⟨j, z1, z2⟩
  · exact Or.inl z
  · exact Or.inr ⟨j, z1, by rw [h11]; exact z2⟩
theorem RC0_reb {c : zH} {pg : Nat → Int} (q : RC0 c 8 pg) : RC0 (reb 8 c) 8 pg := by
  obtain ⟨x1, x2, x3, x4⟩ := q
  have fr : ∀ a, a ≠ 14 → reb 8 c a = c a := fun a z => funext fun b => reb_c z
  unfold RC0
  rw [fr 8 (by omega), fr (8 + 1) (by omega), fr (8 + 2) (by omega), fr (8 + 3) (by omega), fr (8 + 4) (by omega), fr (8 + 5) (by omega)]
  exact ⟨x1, x2, x3, x4⟩
theorem TG_w {c f : zH} {r p tp p' : Nat → Int} (q : TG c r p tp) (e : ∀ a b, ¬ (8 ≤ a ∧ a ≤ 14) → f a b = c a b) (th : TH f r p') : TG f r p' tp := by
  obtain ⟨⟨t1, t2⟩, ⟨t3, t4⟩, t5, ⟨t6, t7⟩, -⟩ := q
  exact ⟨⟨by rw [e _ _ (by omega)]; exact t1, t2⟩, ⟨by rw [e _ _ (by omega)]; exact t3, by rw [e _ _ (by omega)]; exact t4⟩, fun j hj => by rw [e _ _ (by omega)]; exact t5 j hj, ⟨by rw [e _ _ (by omega)]; exact t6, by rw [e _ _ (by omega)]; exact t7⟩, th⟩
theorem T_cloud {c : zH} {r p tp : Nat → Int} (wk : wK c) (wb : wB tp) (w : wZ r) (wp : wPg p) (q : TQ c r p tp) : TO (fin (cldW c)) (l3 tp 4 r p).1 (l3 tp 4 r p).2 tp := by
  have h10 := q.1.1.2
  have w5 := w.2.2.2.1
  have p20 := wp.2.2.2.1
  have hA : lB 4 (lA 4 r p) = r := lAB (by omega) (by omega)
  have gl := TG_lC q.1 w5.1 (n := 4) (by omega)
  rw [l3_y hA]
  have wS1 := wS_lC (n := 4) w
  have wQ1 := st_Q0 wb wS1 h10
  have hmm : moM tp 4 (stR (lC 4 r) tp) p = (so_R 0 11 (p 20) (stR (lC 4 r) tp) tp, up1 p 20 (((p 20).toNat ||| 2 ^ (otV 0 11 (p 20) (stR (lC 4 r) tp)).toNat : Nat) : Int)) := by
    unfold moM
    rw [if_neg (by omega), if_pos rfl]
  rcases L_tn 0 11 wk wb wS1 gl with ⟨b1, b2⟩ | ⟨g, g1 | b⟩
  · have eM : cldW c = tnW 0 11 c := by unfold cldW; rw [if_neg b2.1]
    rw [eM, fin_n b2.1]
    have b1' : 0 < stR (lC 4 r) tp 10 := b1
    rw [if_pos b1']
    exact Or.inr b2
  · obtain ⟨g1, g2, g3, g4⟩ := g1
    have g10 := g.1.1.2
    have gc2 := g.1.1.1
    have g1 : stR (lC 4 r) tp 14 = 2 := g1
    have g2 : 0 ≤ stR (lC 4 r) tp 15 ∧ stR (lC 4 r) tp 15 ≤ 11 := g2
    have g4 : tnV 0 11 c = stR (lC 4 r) tp 15 := g4
    have g : TQ (nxW c) (stR (lC 4 r) tp) p tp := g
    have g10 : stR (lC 4 r) tp 10 = 0 := g10
    have eM : cldW c = if bitI (nxW c 8 8) (stR (lC 4 r) tp 15).toNat = 0 then tsW (up (nxW c) 8 8 (cldF (nxW c 8 8) (stR (lC 4 r) tp 15).toNat 1)) else flW 4 (nxW c) := by
      unfold cldW
      rw [g3, g4, if_pos gc2]
    have wQ1 : wQ (stR (lC 4 r) tp) := wQ1
    rw [if_neg (by omega), eM, hmm]
    generalize hr1 : stR (lC 4 r) tp = r1 at g g1 g2 g10 wQ1 ⊢
    have u := g.1.2.2.2.2
    have e8 : nxW c 8 8 = p 20 := u.1.1.2.1
    rw [e8]
    have wk1 := (tk_nx wk).2.1
    obtain ⟨V, hV⟩ := Int.eq_ofNat_of_zero_le g2.1
    by_cases cb : bitI (p 20) V = 0
    · have o1 : otR 0 11 (p 20) r1 = r1 := by
        unfold otR
        rw [if_neg (fun z => z g10), if_neg (fun z => z g1), if_neg (fun z => z g2), if_neg (fun z => by have := z.2; rw [hV, Int.toNat_natCast] at this; omega)]
      have o2 : otV 0 11 (p 20) r1 = r1 15 := by
        unfold otV
        rw [o1, if_pos g10]
      have eso : so_R 0 11 (p 20) r1 tp = stR r1 tp := by unfold so_R; rw [o1]
      rw [eso, o2, hV, Int.toNat_natCast, if_pos cb]
      have ecl : cldF (p 20) V 1 = (((p 20).toNat ||| 2 ^ V : Nat) : Int) := by
        unfold cldF
        rw [if_neg (by decide)]
        have h1 : (2 : Nat) ^ V < 2 ^ 12 := Nat.pow_lt_pow_right (by decide) (by omega)
        have := z_or_nat (a := (p 20).toNat) (b := 2 ^ V) 12 (by decide) (by omega) h1
        rw [show (((p 20).toNat : Nat) : Int) = p 20 by omega] at this
        rw [← this]
        congr 1
      have wk2 : wK (up (nxW c) 8 8 (cldF (nxW c 8 8) V 1)) := (tk_cl wk1 (by omega)).2.1
      rw [e8, ecl] at wk2
      rw [ecl]
      have w6 := wk1.2.1.1.2
      refine L_tail wk2 wb ⟨wQ1.1, wQ1.2.1⟩ (TG_w g.1 (fun a b z => up_k (by omega)) (TH_w u (RC0_cloud u.1 w6 _) (RB_o (by omega) u.2.1) (up_j (by omega)) (fun b => up_k (by omega))))
    · have hc := bitI_c (p 20) V
      have o1 : otR 0 11 (p 20) r1 = flR 4 r1 := by
        unfold otR
        rw [if_neg (fun z => z g10), if_neg (fun z => z g1), if_neg (fun z => z g2), if_pos ⟨fun z => by rw [z, bitI_0] at cb; exact cb rfl, by rw [hV, Int.toNat_natCast]; omega⟩]
      have t := L_fl (a := 4) (b := 4) (by decide) (by decide) g
      rw [hV, Int.toNat_natCast, if_neg cb, fin_n t.1]
      have : so_R 0 11 (p 20) r1 tp = flR 4 r1 := by
        unfold so_R
        rw [o1, stR_B t.2.1]
      rw [this]
      exact Or.inr (TB_st (TB_lE t))
  · have bt := b (p 20)
    have eM : cldW c = tnW 0 11 c := by unfold cldW; rw [if_neg bt.1]
    have g10 : stR (lC 4 r) tp 10 = 0 := g.1.1.2
    rw [if_neg (by omega), hmm, eM, fin_n bt.1]
    exact Or.inr (TB_st (TB_lE (so_B bt)))
theorem T_paint {c : zH} {r p tp : Nat → Int} (wk : wK c) (wb : wB tp) (w : wZ r) (q : TQ c r p tp) : TO (fin (pntW c)) (l3 tp 7 r p).1 (l3 tp 7 r p).2 tp := by
  have h10 := q.1.1.2
  have w5 := w.2.2.2.1
  have h9 : c 31 9 = bitI (r 5) 7 := q.1.2.2.2.1.2
  have hbc := bitI_c (r 5) 7
  by_cases cb : bitI (r 5) 7 = 0
  · have hA : lB 7 (lA 7 r p) = r := lAB (by omega) (fun z => by have := z.2; rw [show (7 : Int).toNat = 7 from rfl] at this; omega)
    have gl : TG (up c 31 9 1) (lC 7 r) p tp := by
      obtain ⟨⟨q1, q2⟩, ⟨q3, q4⟩, q5, ⟨q6, q7⟩, q8⟩ := q.1
      have b6 : bitI (lC 7 r 5) 6 = bitI (r 5) 6 := (lC_5 (n := 7) w5.1 6).trans (if_neg (by omega))
      have b7 : bitI (lC 7 r 5) 7 = 1 := (lC_5 (n := 7) w5.1 7).trans (if_pos rfl)
      exact ⟨⟨by rw [up_j (by omega)]; exact q1, q2⟩, ⟨by rw [up_j (by omega)]; exact q3, by rw [up_j (by omega)]; exact q4⟩, fun j hj => by rw [up_k (by omega)]; exact q5 j hj, ⟨by rw [up_j (by omega), b6]; exact q6, by rw [up_s, b7]⟩, TH_cg (c := c) (r := r) (fun a b _ _ => up_k (by omega)) rfl rfl b6 rfl q8⟩
    have wk0 : wK (up c 31 9 1) := (tk_up wk (by omega)).2.1
    rw [l3_y hA]
    have wS1 := wS_lC (n := 7) w
    have wQ1 := st_Q0 wb wS1 h10
    have hmm : moM tp 7 (stR (lC 7 r) tp) p = (so_R 0 6 0 (stR (lC 7 r) tp) tp, up1 p 21 (otV 0 6 0 (stR (lC 7 r) tp) - 3)) := by
      unfold moM
      rw [if_neg (by omega), if_neg (by omega), if_neg (by omega), if_neg (by omega)]
    have eM : pntW c = (if tnW 0 6 (up c 31 9 1) 31 2 = 0 then tsW (reb 8 (up (tnW 0 6 (up c 31 9 1)) 8 9 (tnV 0 6 (up c 31 9 1)))) else tnW 0 6 (up c 31 9 1)) := by unfold pntW; rw [if_pos (by rw [h9]; exact cb)]
    rcases L_tn 0 6 wk0 wb wS1 gl with ⟨b1, b2⟩ | ⟨g, g1 | b⟩
    · rw [if_pos b1, eM, if_neg b2.1, fin_n b2.1]
      exact Or.inr b2
    · obtain ⟨g1, g2, g3, g4⟩ := g1
      have g10 := g.1.1.2
      have gc2 := g.1.1.1
      rw [if_neg (by omega), eM, g3, if_pos gc2, hmm, g4]
      obtain ⟨o1, o2⟩ := ot_g g10 g1 g2
      rw [o2]
      generalize hr1 : stR (lC 7 r) tp = r1 at *
      have eso : so_R 0 6 0 r1 tp = stR r1 tp := by unfold so_R; rw [o1]
      rw [eso]
      have u := g.1.2.2.2.2
      have wk1 := (tk_nx wk0).2.1
      have wk2 : wK (reb 8 (up (nxW (up c 31 9 1)) 8 9 (r1 15))) := (tk_pa wk1 g2).2.1
      have w6 := wk1.2.1.1.2
      refine L_tail wk2 wb ⟨wQ1.1, wQ1.2.1⟩ (TG_w g.1 (fun a b z => by rw [reb_c (by omega), up_k (by omega)]) (TH_w u (RC0_reb (RC0_paint u.1 w6 _)) RB_reb (by rw [reb_c (by omega), up_j (by omega)]) (fun b => by rw [reb_c (by omega), up_k (by omega)])))
    · rw [if_neg (by have := g.1.1.2; omega), hmm, eM, if_neg (b 0).1, fin_n (b 0).1]
      exact Or.inr (TB_st (TB_lE (so_B (b 0))))
  · have e1 : pntW c = flW 4 c := by unfold pntW; rw [if_neg (by omega)]
    have eA : lA 7 r p = r := if_neg (by omega)
    have eB : lB 7 r = flR 4 r := if_pos ⟨by omega, by rw [show (7 : Int).toNat = 7 from rfl]; omega⟩
    rw [e1]
    exact TO_no q (by decide) (by decide : (0 : Int) < 4) (by rw [eA]; exact eB)
theorem T_deed {c : zH} {r p tp : Nat → Int} (wk : wK c) (wb : wB tp) (w : wZ r) (wp : wPg p) (q : TQ c r p tp) : TO (fin (dedW c)) (l3 tp 5 r p).1 (l3 tp 5 r p).2 tp := by
  have h10 := q.1.1.2
  have w5 := w.2.2.2.1
  have h7 : c 8 7 = p 32 := q.1.2.2.2.2.1.1.1
  have p32 := wp.2.2.2.2.2.2.2
  by_cases h5 : p 32 = 5
  · have e1 : dedW c = flW 5 c := by unfold dedW; rw [if_neg (by omega)]
    have eA : lA 5 r p = flR 5 r := if_pos (Or.inr ⟨rfl, h5⟩)
    have eB : lB 5 (flR 5 r) = flR 5 r := if_neg (fun z => by omega)
    rw [e1]
    exact TO_no q (by decide) (by decide : (0 : Int) < 5) (by rw [eA]; exact eB)
  · have hA : lB 5 (lA 5 r p) = r := lAB (by omega) (by omega)
    have gl : TG c (lC 5 r) p tp := TG_lC q.1 w5.1 (n := 5) (by omega)
    rw [l3_y hA]
    have wS1 := wS_lC (n := 5) w
    have wQ1 := st_Q0 wb wS1 h10
    have hmm : moM tp 5 (stR (lC 5 r) tp) p = (so_R 1 9 0 (so_R 0 47 0 (stR (lC 5 r) tp) tp) tp, up1 (up1 (up1 p (22 + (p 32).toNat) (otV 0 47 0 (stR (lC 5 r) tp))) (27 + (p 32).toNat) (otV 1 9 0 (so_R 0 47 0 (stR (lC 5 r) tp) tp))) 32 (p 32 + 1)) := by
      unfold moM
      rw [if_neg (by omega), if_neg (by omega), if_pos rfl]
    have eM : dedW c = (if tnW 0 47 c 31 2 = 0 then (if tnW 1 9 (tnW 0 47 c) 31 2 = 0 then tsW (adD (tnW 1 9 (tnW 0 47 c)) (tnV 0 47 c) (tnV 1 9 (tnW 0 47 c))) else tnW 1 9 (tnW 0 47 c)) else tnW 0 47 c) := by unfold dedW; rw [if_pos (by omega)]
    rcases L_tn 0 47 wk wb wS1 gl with ⟨b1, b2⟩ | ⟨g, g1 | b⟩
    · rw [if_pos b1, eM, if_neg b2.1, fin_n b2.1]
      exact Or.inr b2
    · obtain ⟨g1, g2, g3, g4⟩ := g1
      have g10 := g.1.1.2
      have gc2 := g.1.1.1
      obtain ⟨o1, o2⟩ := ot_g g10 g1 g2
      rw [if_neg (by omega), eM, g3, if_pos gc2, hmm, g4, o2]
      generalize hr1 : stR (lC 5 r) tp = r1 at *
      have eso : so_R 0 47 0 r1 tp = stR r1 tp := by unfold so_R; rw [o1]
      rw [eso]
      have wk1 := (tk_nx wk).2.1
      have wQ2 := st_Q wb wQ1 (tp := tp)
      rcases L_tn 1 9 wk1 wb ⟨wQ1.1, wQ1.2.1⟩ g.1 with ⟨b1, b2⟩ | ⟨f, f1 | b⟩
      · rw [if_neg b2.1, fin_n b2.1]
        have e : so_R 1 9 0 (stR r1 tp) tp = stR r1 tp := by
          have e0 : otR 1 9 0 (stR r1 tp) = stR r1 tp := by unfold otR; rw [if_pos (by omega)]
          unfold so_R
          rw [e0, stR_B b1]
        rw [e]
        exact Or.inr (TB_st (TB_lE b2))
      · obtain ⟨f1, f2, f3, f4⟩ := f1
        have f10 := f.1.1.2
        have fc2 := f.1.1.1
        obtain ⟨o3, o4⟩ := ot_g f10 f1 f2
        rw [f3, if_pos fc2, f4, o4]
        generalize hr2 : stR r1 tp = r2 at *
        have eso2 : so_R 1 9 0 r2 tp = stR r2 tp := by unfold so_R; rw [o3]
        rw [eso2]
        have u := f.1.2.2.2.2
        have wk2 := (tk_nx wk1).2.1
        have e7 : nxW (nxW c) 8 7 = p 32 := u.1.1.1
        obtain ⟨D, hD⟩ := Int.eq_ofNat_of_zero_le p32.1
        have hD2 : nxW (nxW c) 8 7 = (D : Int) := by rw [e7, hD]
        have eaD : adD (nxW (nxW c)) (r1 15) (r2 15) = up (up (up (nxW (nxW c)) (8 + 4) D (r1 15)) (8 + 5) D (r2 15)) 8 7 ((D : Int) + 1) := by unfold adD; rw [hD2, Int.toNat_natCast]
        have wk3 : wK (adD (nxW (nxW c)) (r1 15) (r2 15)) := (tk_adD wk2 (by omega) g2 (by omega)).2.1
        have w6 := wk2.2.1.1.2
        rw [hD, Int.toNat_natCast]
        rw [eaD] at wk3 ⊢
        refine L_tail wk3 wb ⟨wQ2.1, wQ2.2.1⟩ (TG_w f.1 (fun a b z => by rw [up_k (by omega), up_k (by omega), up_k (by omega)]) (TH_w u (RC0_deed u.1 w6 hD2 (by omega) _ _) (RB_o (by omega) (RB_o (by omega) (RB_o (by omega) u.2.1))) (by rw [up_j (by omega), up_k (by omega), up_k (by omega)]) (fun b => by rw [up_k (by omega), up_k (by omega), up_k (by omega)])))
      · rw [if_neg (b 0).1, fin_n (b 0).1]
        exact Or.inr (TB_st (TB_lE (so_B (b 0))))
    · rw [if_neg (by have := g.1.1.2; omega), hmm, eM, if_neg (b 0).1, fin_n (b 0).1]
      have b1 := so_B (tp := tp) (b 0)
      have e : so_R 1 9 0 (so_R 0 47 0 (stR (lC 5 r) tp) tp) tp = so_R 0 47 0 (stR (lC 5 r) tp) tp := by
        have e0 : otR 1 9 0 (so_R 0 47 0 (stR (lC 5 r) tp) tp) = so_R 0 47 0 (stR (lC 5 r) tp) tp := by unfold otR; rw [if_pos (by have := b1.2.1; omega)]
        show stR (otR 1 9 0 (so_R 0 47 0 (stR (lC 5 r) tp) tp)) tp = _
        rw [e0, stR_B b1.2.1]
      rw [e]
      exact Or.inr (TB_st (TB_lE b1))
theorem T_ro {tp : Nat → Int} (wb : wB tp) : ∀ (n j : Nat) (h : zH) (r p : Nat → Int) (m : Nat), wK h → wS r → TG h r p tp → r 4 = (j : Int) → bitI (r 5) 6 = 1 → -1 ≤ r 6 → j + n = 13 → j ≤ 12 → 13 ≤ j + m → TO (fin (roW n j h)) (stR (lE (rrM tp m (stR r tp) p).1) tp) (rrM tp m (stR r tp) p).2 tp
  | 0, j, h, r, p, m, wk, w, q, h4, h5, h6, hn, hj, hm => by omega
  | n + 1, j, h, r, p, m, wk, w, q, h4, h5, h6, hn, hj, hm => by
    obtain ⟨m, rfl⟩ : ∃ m', m = m' + 1 := ⟨m - 1, by omega⟩
    have wQ1 := st_Q0 wb w q.1.2
    have e4 : stR r tp 4 = (j : Int) := by rw [stR_o (by omega)]; exact h4
    have e5 : bitI (stR r tp 5) 6 = 1 := by rw [stR_o (by omega)]; exact h5
    have e6 : -1 ≤ stR r tp 6 := by rw [stR_o (by omega)]; exact h6
    have wk1 := (tk_nx wk).2.1
    rcases L_nx wk wb w q with g | b
    · have g2 := g.1.1.1
      have g10 := g.1.1.2
      have g4 := g.2.1
      generalize hR : stR r tp = R at *
      have x : rrM tp (m + 1) R p = if R 10 = 0 ∧ R 14 = 2 then (if R 4 = 12 then (flR 5 R, p) else rrM tp m (up1 (up1 (stR (otR 0 4 0 R) tp) 6 (if otV 0 4 0 R < 4 ∧ R 6 < otV 0 4 0 R then otV 0 4 0 R else R 6)) 4 (R 4 + 1)) (up1 p (8 + (R 4).toNat) (if otV 0 4 0 R < 4 then otV 0 4 0 R + 1 else 0))) else (R, p) := rfl
      by_cases c3 : R 14 = 3
      · have e1 : roW (n + 1) j h = nxW h := by unfold roW; rw [if_neg (fun z => z.2 (by rw [g4]; exact c3))]
        have e2 : rrM tp (m + 1) R p = (R, p) := by rw [x, if_neg (fun z => by omega)]
        have e3 : lE R = R := if_neg (fun z => z.2 c3)
        rw [e1, e2, fin_y g2]
        dsimp only
        rw [e3]
        exact L_nx wk1 wb (wQ_S wQ1) g.1
      · have y : roW (n + 1) j h = (if j = 12 then (if nxW h 31 4 = 0 then flW 2 (nxW h) else flW 5 (nxW h)) else if jgW 0 4 (nxW h) 31 2 = 0 then roW n (j + 1) (reb 8 (up (jgW 0 4 (nxW h)) (8 + 3) j (if jgW 0 4 (nxW h) 31 7 = 4 then -4 else jgW 0 4 (nxW h) 31 7))) else jgW 0 4 (nxW h)) := by
          show (if nxW h 31 2 = 0 ∧ ¬ nxW h 31 4 = 3 then _ else _) = _
          rw [if_pos ⟨g2, by rw [g4]; exact c3⟩]
        by_cases c12 : j = 12
        · rw [if_pos c12] at y
          have hfl : ∀ a b : Int, ¬ a = 0 → 0 < b → TB (flW a (nxW h)) (flR b R) := fun a b h1 h2 => L_fl h1 h2 g
          have hX : ∃ a : Int, ¬ a = 0 ∧ roW (n + 1) j h = flW a (nxW h) := by
            by_cases c0 : nxW h 31 4 = 0
            · exact ⟨2, by decide, by rw [y, if_pos c0]⟩
            · exact ⟨5, by decide, by rw [y, if_neg c0]⟩
          obtain ⟨a, ha, hX⟩ := hX
          rw [hX, fin_n (hfl a 1 ha (by decide)).1]
          by_cases c2 : R 14 = 2
          · have e2 : rrM tp (m + 1) R p = (flR 5 R, p) := by rw [x, if_pos ⟨g10, c2⟩, if_pos (by rw [e4, c12]; rfl)]
            rw [e2]
            exact Or.inr (TB_st (TB_lE (hfl a 5 ha (by decide))))
          · have e2 : rrM tp (m + 1) R p = (R, p) := by rw [x, if_neg (fun z => c2 z.2)]
            have e3 : lE R = flR 2 R := if_pos ⟨g10, c3⟩
            rw [e2]
            dsimp only
            rw [e3]
            exact Or.inr (TB_st (hfl a 2 ha (by decide)))
        · rw [if_neg c12] at y
          by_cases c2 : R 14 = 2
          · have g7 := g.2.2.2.1 c2
            have x2 : rrM tp (m + 1) R p = rrM tp m (up1 (up1 (stR (otR 0 4 0 R) tp) 6 (if otV 0 4 0 R < 4 ∧ R 6 < otV 0 4 0 R then otV 0 4 0 R else R 6)) 4 (R 4 + 1)) (up1 p (8 + (R 4).toNat) (if otV 0 4 0 R < 4 then otV 0 4 0 R + 1 else 0)) := by
              rw [x, if_pos ⟨g10, c2⟩, if_neg (by rw [e4]; omega)]
            by_cases cv : 0 ≤ R 15 ∧ R 15 ≤ 4
            · obtain ⟨o1, o2⟩ := ot_g g10 c2 cv
              have ej : jgW 0 4 (nxW h) = nxW h := by unfold jgW; rw [g4, if_pos c2, g7, if_neg (by omega)]
              rw [ej, if_pos g2, g7] at y
              rw [o1, o2, e4, Int.toNat_natCast] at x2
              generalize hV : R 15 = V at *
              rw [← stR_up (by omega), ← stR_up (by omega)] at x2
              rw [y, x2]
              obtain ⟨v, hv⟩ : ∃ v, v = (if V = 4 then (-4 : Int) else V) := ⟨_, rfl⟩
              have hv1 : v = -4 ∨ (0 ≤ v ∧ v ≤ 3) := by rw [hv]; split <;> omega
              have hvp : (if V < 4 then V + 1 else (0 : Int)) = if v = -4 then 0 else v + 1 := by
                rw [hv]
                by_cases z : V = 4
                · rw [if_pos z, if_neg (by omega), if_pos rfl]
                · rw [if_neg z, if_pos (by omega), if_neg (by omega)]
              rw [← hv, hvp]
              have w6 := wk1.2.1.1.2
              have hj12 : j < 12 := by omega
              have hv0 : v = -4 ∨ 0 ≤ v := hv1.imp id (fun z => z.1)
              have u := g.1.2.2.2.2
              obtain ⟨u1, u2, u3, u4, u5, u6, u7⟩ := u
              have f : ∀ a b, ¬ (8 ≤ a ∧ a ≤ 14) → reb 8 (up (nxW h) (8 + 3) j v) a b = nxW h a b := fun a b z => by rw [reb_c (by omega), up_k (by omega)]
              have f11 : ∀ b, reb 8 (up (nxW h) (8 + 3) j v) 11 b = if b = j then v else nxW h 11 b := fun b => by
                rw [reb_c (by omega)]
                by_cases z : b = j
                · subst z; rw [if_pos rfl]; exact up_s
                · rw [if_neg z, up_j z]
              refine T_ro wb n (j + 1) (reb 8 (up (nxW h) (8 + 3) j v)) _ _ m (tk_st wk1 hv1).2.1 ⟨wQ1.1, wQ1.2.1⟩ ?_ (by rw [up1_s]; omega) e5 ?_ (by omega) (by omega) (by omega)
              · obtain ⟨⟨t1, t2⟩, ⟨t3, t4⟩, t5, ⟨t6, t7⟩, -⟩ := g.1
                refine ⟨⟨by rw [f _ _ (by omega)]; exact t1, t2⟩, ⟨by rw [f _ _ (by omega)]; exact t3, by rw [f _ _ (by omega)]; exact t4⟩, fun i hi => by rw [f _ _ (by omega)]; exact t5 i hi, ⟨by rw [f _ _ (by omega)]; exact t6, by rw [f _ _ (by omega)]; exact t7⟩, RC0_reb (RC0_stand u1 w6 hj12 hv0), RB_reb, ?_, fun z => ?_, fun i hi => ?_, ?_, fun i z1 z2 => ?_⟩
                · rw [reb_c (by omega), up_k (by omega)]
                  exact u3
                · have z : bitI (R 5) 6 = 0 := z
                  omega
                · show reb 8 (up (nxW h) (8 + 3) j v) 11 i ≤ (if V < 4 ∧ R 6 < V then V else R 6)
                  rw [f11]
                  have a5 := u5 i hi
                  by_cases z : i = j
                  · rw [if_pos z, hv]
                    split <;> split <;> omega
                  · rw [if_neg z]
                    split <;> omega
                · show (if V < 4 ∧ R 6 < V then V else R 6) = -1 ∨ ∃ i, i < 12 ∧ reb 8 (up (nxW h) (8 + 3) j v) 11 i = (if V < 4 ∧ R 6 < V then V else R 6)
                  by_cases z : V < 4 ∧ R 6 < V
                  · rw [if_pos z]
                    exact Or.inr ⟨j, by omega, by rw [f11, if_pos rfl, hv, if_neg (by omega)]⟩
                  · rw [if_neg z]
                    rcases u6 with y1 | ⟨i, y1, y2⟩
                    · exact Or.inl y1
                    · have hne : i ≠ j := fun y3 => by
                        subst y3
                        have := u7 i (by omega) (by omega)
                        omega
                      exact Or.inr ⟨i, y1, by rw [f11, if_neg hne]; exact y2⟩
                · have z1 : (j : Int) + 1 ≤ (i : Int) := z1
                  rw [f11, if_neg (by omega)]
                  exact u7 i (by omega) z2
              · show -1 ≤ (if V < 4 ∧ R 6 < V then V else R 6)
                split <;> omega
            · have ej : jgW 0 4 (nxW h) = flW 3 (nxW h) := by unfold jgW; rw [g4, if_pos c2, g7, if_pos (by omega)]
              have t := L_fl (a := 3) (b := 3) (by decide) (by decide) g
              have eo : otR 0 4 0 R = flR 3 R := by
                unfold otR
                rw [if_neg (fun z => z g10), if_neg (fun z => z c2), if_pos cv]
              rw [ej, if_neg t.1] at y
              have hne : ∀ (s : Nat → Int) (s' : Nat → Int), 0 < s 10 → rrM tp m s s' = (s, s') := fun s s' hs => by
                cases m with
                | zero => rfl
                | succ m => unfold rrM; rw [if_neg (fun z => by omega)]
              have t2 := TB_st (tp := tp) t
              rw [eo, hne _ _ (by show 0 < up1 (up1 (stR (flR 3 R) tp) 6 _) 4 _ 10; rw [up1_n (by omega), up1_n (by omega)]; exact t2.2.1)] at x2
              rw [y, x2, fin_n t.1]
              exact Or.inr (TB_st (TB_lE (TB_up (by omega) (TB_up (by omega) t2))))
          · have ej : jgW 0 4 (nxW h) = flW 2 (nxW h) := by unfold jgW; rw [g4, if_neg c2]
            have t := L_fl (a := 2) (b := 2) (by decide) (by decide) g
            rw [ej, if_neg t.1] at y
            have e2 : rrM tp (m + 1) R p = (R, p) := by rw [x, if_neg (fun z => c2 z.2)]
            have e3 : lE R = flR 2 R := if_pos ⟨g10, c3⟩
            rw [y, e2, fin_n t.1]
            dsimp only
            rw [e3]
            exact Or.inr (TB_st t)
    · have e1 : roW (n + 1) j h = nxW h := by unfold roW; rw [if_neg (fun z => b.1 z.1)]
      have e2 : rrM tp (m + 1) (stR r tp) p = (stR r tp, p) := by unfold rrM; rw [if_neg (fun z => by have := b.2.1; omega)]
      rw [e1, e2, fin_n b.1]
      exact Or.inr (TB_st (TB_lE b))
theorem T_rota {c : zH} {r p tp : Nat → Int} (wk : wK c) (wb : wB tp) (w : wZ r) (q : TQ c r p tp) : TO (fin (rotW c)) (l3 tp 6 r p).1 (l3 tp 6 r p).2 tp := by
  have h10 := q.1.1.2
  have w5 := w.2.2.2.1
  have h8 : c 31 8 = bitI (r 5) 6 := q.1.2.2.2.1.1
  have hbc := bitI_c (r 5) 6
  by_cases cb : bitI (r 5) 6 = 0
  · have hA : lB 6 (lA 6 r p) = r := lAB (by omega) (fun z => by have := z.2; rw [show (6 : Int).toNat = 6 from rfl] at this; omega)
    have b6 : bitI (lC 6 r 5) 6 = 1 := (lC_5 (n := 6) w5.1 6).trans (if_pos rfl)
    have b7 : bitI (lC 6 r 5) 7 = bitI (r 5) 7 := (lC_5 (n := 6) w5.1 7).trans (if_neg (by omega))
    have h4 : r 4 = 0 := q.1.2.2.2.2.2.2.2.1 cb
    have gl : TG (up c 31 8 1) (lC 6 r) p tp := by
      obtain ⟨⟨q1, q2⟩, ⟨q3, q4⟩, q5, ⟨q6, q7⟩, ⟨u1, u2, u3, u4, u5, u6, u7⟩⟩ := q.1
      have f : ∀ a b, a ≠ 31 → up c 31 8 1 a b = c a b := fun a b z => up_k z
      have hth : TH (up c 31 8 1) r p := TH_cg (c := c) (r := r) (fun a b _ _ => f a b (by omega)) rfl rfl rfl rfl ⟨u1, u2, u3, u4, u5, u6, u7⟩
      obtain ⟨v1, v2, v3, v4, v5, v6, v7⟩ := hth
      exact ⟨⟨by rw [up_j (by omega)]; exact q1, q2⟩, ⟨by rw [up_j (by omega)]; exact q3, by rw [up_j (by omega)]; exact q4⟩, fun j hj => by rw [up_k (by omega)]; exact q5 j hj, ⟨by rw [up_s, b6], by rw [up_j (by omega), b7]; exact q7⟩, v1, v2, v3, fun z => absurd (b6.symm.trans z) (by decide), v5, v6, v7⟩
    have wk0 : wK (up c 31 8 1) := (tk_up wk (by omega)).2.1
    have wS1 := wS_lC (n := 6) w
    have t := T_ro wb 13 0 (up c 31 8 1) (lC 6 r) p 13 wk0 wS1 gl h4 b6 w.2.2.2.2.1 (by omega) (by omega) (by omega)
    have eM : rotW c = roW 13 0 (up c 31 8 1) := by unfold rotW; rw [if_pos (by omega)]
    have hmm : moM tp 6 (stR (lC 6 r) tp) p = rrM tp 13 (stR (lC 6 r) tp) p := by
      unfold moM
      rw [if_neg (by omega), if_neg (by omega), if_neg (by omega), if_pos rfl]
    rw [l3_y hA, eM, hmm]
    by_cases c0 : 0 < stR (lC 6 r) tp 10
    · rw [if_pos c0]
      have e2 : rrM tp 13 (stR (lC 6 r) tp) p = (stR (lC 6 r) tp, p) := by unfold rrM; rw [if_neg (fun z => by omega)]
      have e3 : lE (stR (lC 6 r) tp) = stR (lC 6 r) tp := if_neg (fun z => by omega)
      rw [e2] at t
      dsimp only at t
      rw [e3, stR_B c0] at t
      exact t
    · rw [if_neg c0]
      exact t
  · have e1 : rotW c = flW 4 c := by unfold rotW; rw [if_neg (by omega)]
    have eA : lA 6 r p = r := if_neg (by omega)
    have eB : lB 6 r = flR 4 r := if_pos ⟨by omega, by rw [show (6 : Int).toNat = 6 from rfl]; omega⟩
    rw [e1]
    exact TO_no q (by decide) (by decide : (0 : Int) < 4) (by rw [eA]; exact eB)
theorem T_line {c : zH} {r p tp : Nat → Int} (wk : wK c) (wb : wB tp) (w : wZ r) (wp : wPg p) (q : TQ c r p tp) : TO (fin (linW c)) (liM tp r p).1 (liM tp r p).2 tp := by
  rcases L_name q w.1 with ⟨n1, n2⟩ | ⟨n1, n2⟩
  · have t := L_fl (a := 2) (b := 2) (by decide) (by decide) q
    have e1 : linW c = flW 2 c := by unfold linW; rw [if_pos n1]
    have e2 : liM tp r p = (flR 2 r, p) := by unfold liM; rw [if_pos n2]
    rw [e1, e2, fin_n t.1]
    exact Or.inr t
  · have e2 : liM tp r p = l3 tp (lnP (linN c) : Int) r p := by unfold liM; rw [if_neg (by omega), n2]
    rw [e2]
    unfold linW
    generalize linN c = i at *
    rcases (show i = 0 ∨ i = 1 ∨ i = 2 ∨ i = 3 ∨ i = 4 ∨ i = 5 ∨ i = 6 ∨ i = 7 by omega) with rfl | rfl | rfl | rfl | rfl | rfl | rfl | rfl
    · exact T_man wk wb w q (k := 0) (by omega)
    · exact T_man wk wb w q (k := 1) (by omega)
    · exact T_man wk wb w q (k := 2) (by omega)
    · exact T_man wk wb w q (k := 3) (by omega)
    · exact T_rota wk wb w q
    · exact T_cloud wk wb w wp q
    · exact T_paint wk wb w q
    · exact T_deed wk wb w wp q
