/-! what class and reference have in common: the relation, and what keeps it -/
def RC (h : zH) (p : Nat) (pg : Nat → Int) : Prop :=
  (h p 7 = pg 32 ∧ h p 8 = pg 20 ∧ h p 9 = pg 21 + 3) ∧ (∀ j : Nat, (j : Int) < h p 6 → h (p + 1) j = pg j ∧ h (p + 2) j = pg (4 + j)) ∧
  (∀ j, j < 12 → h (p + 3) j = noF (stM pg j)) ∧ (∀ j : Nat, (j : Int) < h p 7 → h (p + 4) j = pg (22 + j) ∧ h (p + 5) j = pg (27 + j)) ∧ awP h p
def RB (h : zH) (p : Nat) : Prop := ∀ j, j < 12 → h (p + 6) j = bendF (h p 6) (h p 9) (h (p + 1)) (h (p + 2)) (h (p + 3)) j
def RT (h : zH) (p : Nat) (pg : Nat → Int) : Prop := RC h p pg ∧ RB h p
def RA (x m : zH) : Prop := RT x 1 (m 46) ∧ x 1 6 = m 45 1
def RI (x m : zH) : Prop := ∀ k, k ≤ 1 → x 30 k = m 54 k ∧ (¬ m 54 k = 0 → RT x (16 + 7 * k) (fun b => m 46 (33 * (k + 1) + b)) ∧ x (16 + 7 * k) 6 = m 45 1)
def Rp (x m : zH) : Prop := x 31 1 = m 45 8 ∧ ∀ j : Nat, (j : Int) < m 45 8 → x 32 j = m 48 j
def Rs (x m : zH) : Prop := x 0 9 = m 45 21 ∧ ∀ s : Nat, (s : Int) < m 45 21 → x 42 s = m 52 (2 * s) ∧ x 43 s = m 52 (2 * s + 1)
def Rh (x m : zH) : Prop := ∀ k, k < 4 → (x (34 + 2 * k) 1 = if m 55 k = -4 then -1 else m 55 k) ∧ x (34 + 2 * k) 2 = m 56 k ∧ ∀ i, i < 40 → x (34 + 2 * k + 1) i = m 57 (40 * k + i)
def Rel (x m : zH) : Prop := RA x m ∧ RI x m ∧ Rp x m ∧ Rs x m ∧ Rh x m ∧ x 0 10 = m 45 28
def wI (h : zH) : Prop := ∀ k, k ≤ 1 → ¬ h 54 k = 0 → wPg (fun b => h 46 (33 * (k + 1) + b))
def IM (h : zH) : Prop := wM h ∧ wL h ∧ (∀ j, h 54 j = 0 ∨ h 54 j = 1) ∧ wN h ∧ wB (h 48) ∧ wI h
def INV (h : zH) : Prop := wX h ∧ IM h ∧ Rel h h
theorem RC_cg {x x' : zH} {p : Nat} {pg pg' : Nat → Int} (h6 : x p 6 ≤ 4) (h7 : x p 7 ≤ 5) (e1 : ∀ a b, p ≤ a → a ≤ p + 6 → x' a b = x a b) (e2 : ∀ b, b < 33 → pg' b = pg b) (r : RC x p pg) : RC x' p pg' := by
  obtain ⟨⟨r1, r2, r3⟩, r4, r5, r6, r7⟩ := r
  have e0 := fun b => e1 p b (by omega) (by omega)
  refine ⟨⟨by rw [e0, e2 32 (by omega)]; exact r1, by rw [e0, e2 20 (by omega)]; exact r2, by rw [e0, e2 21 (by omega)]; exact r3⟩, fun j hj => ?_, fun j hj => ?_, fun j hj => ?_, fun j hj => ?_⟩
  · rw [e0] at hj
    rw [e1 _ _ (by omega) (by omega), e1 _ _ (by omega) (by omega), e2 j (by omega), e2 (4 + j) (by omega)]
    exact r4 j hj
  · rw [e1 _ _ (by omega) (by omega)]
    unfold stM
    rw [e2 (8 + j) (by omega)]
    exact r5 j hj
  · rw [e0] at hj
    rw [e1 _ _ (by omega) (by omega), e1 _ _ (by omega) (by omega), e2 (22 + j) (by omega), e2 (27 + j) (by omega)]
    exact r6 j hj
  · rw [e1 _ _ (by omega) (by omega), e0]
    exact r7 j hj
theorem RB_cg {x x' : zH} {p : Nat} (e1 : ∀ a b, p ≤ a → a ≤ p + 6 → x' a b = x a b) (r : RB x p) : RB x' p := by
  intro j hj
  have f : ∀ i, i ≤ 6 → x' (p + i) = x (p + i) := fun i hi => funext fun b => e1 _ b (by omega) (by omega)
  rw [f 6 (by omega), f 1 (by omega), f 2 (by omega), f 3 (by omega), show x' p = x p from f 0 (by omega)]
  exact r j hj
theorem RT_cg {x x' : zH} {p : Nat} {pg pg' : Nat → Int} (w : wT x p) (e1 : ∀ a b, p ≤ a → a ≤ p + 6 → x' a b = x a b) (e2 : ∀ b, b < 33 → pg' b = pg b) (r : RT x p pg) : RT x' p pg' := ⟨RC_cg w.1.2 w.2.1.2 e1 e2 r.1, RB_cg e1 r.2⟩
theorem RT_reb {x : zH} {p : Nat} {pg : Nat → Int} (r : RC x p pg) : RT (reb p x) p pg := by
  have f : ∀ a, a ≠ p + 6 → reb p x a = x a := fun a ha => funext fun b => reb_n ha
  constructor
  · obtain ⟨r1, r4, r5, r6, r7⟩ := r
    refine ⟨by rw [f p (by omega)]; exact r1, ?_, ?_, ?_, ?_⟩
    · rw [f p (by omega), f (p + 1) (by omega), f (p + 2) (by omega)]; exact r4
    · rw [f (p + 3) (by omega)]; exact r5
    · rw [f p (by omega), f (p + 4) (by omega), f (p + 5) (by omega)]; exact r6
    · intro j hj
      rw [f p (by omega), f (p + 3) (by omega)]; exact r7 j hj
  · intro j hj
    rw [f p (by omega), f (p + 1) (by omega), f (p + 2) (by omega), f (p + 3) (by omega)]
    unfold reb
    rw [setB_i hj]
/-- another world, alike in what the class has but its Town of trials -/
def sX (x x' : zH) : Prop := ∀ a b, a < 45 → ¬ (8 ≤ a ∧ a ≤ 14) → a ≠ 44 → x' a b = x a b
/-- alike in what the reference has but what it writes over freely -/
def sY (m m' : zH) : Prop := ∀ a b, 45 ≤ a → a ≠ 51 → a ≠ 53 → ¬ (a = 45 ∧ (b = 19 ∨ b = 23)) → ¬ (a = 46 ∧ 99 ≤ b ∧ b < 132) → m' a b = m a b
theorem sc5_Y {m m' : zH} (s : sc5 m m') : sY m m' := fun a b _ q1 q2 q3 q4 => s a b q1 q2 q3 q4
theorem sc5_X {m m' : zH} (s : sc5 m m') : sX m m' := fun a b q _ _ => s a b (by omega) (by omega) (by omega) (by omega)
theorem sX_rf {m : zH} : sX m m := fun _ _ _ _ _ => rfl
theorem sY_rf {m : zH} : sY m m := fun _ _ _ _ _ _ _ => rfl
theorem scr_X {m m' : zH} (s : scr m m') : sX m m' := fun a b _ q1 q2 => s.1 a b q1 q2
theorem scr_Y {m m' : zH} (s : scr m m') : sY m m' := fun a b q _ _ _ _ => s.1 a b (by omega) (by omega)
theorem scr_rf {h : zH} (w : wX h) : scr h h := ⟨fun _ _ _ _ => rfl, w.1.2.1⟩
theorem scm_5 {h h' : zH} (s : scm h h') : sc5 h h' := fun a b q _ _ _ => s a b q
theorem scq_5 {h h' : zH} (s : scq h h') : sc5 h h' := fun a b q1 _ q3 q4 => s a b q1 (by omega) q4
theorem eq_5 {h h' : zH} (s : h' = h) : sc5 h h' := fun _ _ _ _ _ _ => by rw [s]
theorem RA_cg {x x' m m' : zH} (w : wX x) (ex : sX x x') (em : sY m m') (r : RA x m) : RA x' m' := by
  refine ⟨RT_cg w.1.1 (fun a b h1 h2 => ex a b (by omega) (by omega) (by omega)) (fun b hb => em 46 b (by omega) (by omega) (by omega) (by omega) (by omega)) r.1, ?_⟩
  rw [ex 1 6 (by omega) (by omega) (by omega), em 45 1 (by omega) (by omega) (by omega) (by omega) (by omega)]
  exact r.2
theorem wT_im {x : zH} (w : wX x) (k : Nat) (hk : k ≤ 1) : wT x (16 + 7 * k) := by
  rcases (show k = 0 ∨ k = 1 by omega) with rfl | rfl
  · exact w.1.2.2.1
  · exact w.1.2.2.2
theorem RI_cg {x x' m m' : zH} (w : wX x) (ex : sX x x') (em : sY m m') (r : RI x m) : RI x' m' := by
  intro k hk
  have e54 := em 54 k (by omega) (by omega) (by omega) (by omega) (by omega)
  rw [ex 30 k (by omega) (by omega) (by omega), e54]
  refine ⟨(r k hk).1, fun hn => ?_⟩
  obtain ⟨r1, r2⟩ := (r k hk).2 hn
  refine ⟨RT_cg (wT_im w k hk) (fun a b h1 h2 => ex a b (by omega) (by omega) (by omega)) (fun b hb => em 46 _ (by omega) (by omega) (by omega) (by omega) (by omega)) r1, ?_⟩
  rw [ex _ 6 (by omega) (by omega) (by omega), em 45 1 (by omega) (by omega) (by omega) (by omega) (by omega)]
  exact r2
theorem Rp_cg {x x' m m' : zH} (ex : sX x x') (em : sY m m') (r : Rp x m) : Rp x' m' := by
  unfold Rp
  rw [ex 31 1 (by omega) (by omega) (by omega), em 45 8 (by omega) (by omega) (by omega) (by omega) (by omega)]
  exact ⟨r.1, fun j hj => by rw [ex 32 j (by omega) (by omega) (by omega), em 48 j (by omega) (by omega) (by omega) (by omega) (by omega)]; exact r.2 j hj⟩
theorem Rs_cg {x x' m m' : zH} (ex : sX x x') (em : sY m m') (r : Rs x m) : Rs x' m' := by
  unfold Rs
  rw [ex 0 9 (by omega) (by omega) (by omega), em 45 21 (by omega) (by omega) (by omega) (by omega) (by omega)]
  exact ⟨r.1, fun j hj => by rw [ex 42 j (by omega) (by omega) (by omega), ex 43 j (by omega) (by omega) (by omega), em 52 _ (by omega) (by omega) (by omega) (by omega) (by omega), em 52 _ (by omega) (by omega) (by omega) (by omega) (by omega)]; exact r.2 j hj⟩
theorem Rh_cg {x x' m m' : zH} (ex : sX x x') (em : sY m m') (r : Rh x m) : Rh x' m' := by
  intro k hk
  obtain ⟨r1, r2, r3⟩ := r k hk
  rw [ex _ 1 (by omega) (by omega) (by omega), ex _ 2 (by omega) (by omega) (by omega), em 55 k (by omega) (by omega) (by omega) (by omega) (by omega), em 56 k (by omega) (by omega) (by omega) (by omega) (by omega)]
  exact ⟨r1, r2, fun i hi => by rw [ex _ i (by omega) (by omega) (by omega), em 57 _ (by omega) (by omega) (by omega) (by omega) (by omega)]; exact r3 i hi⟩
theorem Rel_cg {x x' m m' : zH} (w : wX x) (ex : sX x x') (em : sY m m') (r : Rel x m) : Rel x' m' := by
  obtain ⟨r1, r2, r3, r4, r5, r6⟩ := r
  exact ⟨RA_cg w ex em r1, RI_cg w ex em r2, Rp_cg ex em r3, Rs_cg ex em r4, Rh_cg ex em r5, by rw [ex 0 10 (by omega) (by omega) (by omega), em 45 28 (by omega) (by omega) (by omega) (by omega) (by omega)]; exact r6⟩
theorem wX_cg {x x' : zH} (e : ∀ a b, a < 45 → x' a b = x a b) (w : wX x) : wX x' := by
  obtain ⟨⟨w1, w8, w16, w23⟩, ⟨p1, p2, p3, p4⟩, wsn, ws42, ws43, wk, ⟨⟨a1, a2⟩, ⟨b1, b2⟩, ⟨c1, c2⟩, ⟨d1, d2⟩⟩, wt⟩ := w
  refine ⟨⟨wT_cong (fun a b _ _ => e a b (by omega)) w1, wT_cong (fun a b _ _ => e a b (by omega)) w8, wT_cong (fun a b _ _ => e a b (by omega)) w16, wT_cong (fun a b _ _ => e a b (by omega)) w23⟩, ⟨by rw [e _ _ (by omega)]; exact p1, by rw [e _ _ (by omega)]; exact p2, by rw [e _ _ (by omega)]; exact p3, fun j => by rw [e _ _ (by omega)]; exact p4 j⟩, by rw [e _ _ (by omega)]; exact wsn, fun j => by rw [e _ _ (by omega)]; exact ws42 j, fun j => by rw [e _ _ (by omega)]; exact ws43 j, fun j => by rw [e _ _ (by omega)]; exact wk j, ⟨⟨by rw [e _ _ (by omega)]; exact a1, by rw [e _ _ (by omega)]; exact a2⟩, ⟨by rw [e _ _ (by omega)]; exact b1, by rw [e _ _ (by omega)]; exact b2⟩, ⟨by rw [e _ _ (by omega)]; exact c1, by rw [e _ _ (by omega)]; exact c2⟩, ⟨by rw [e _ _ (by omega)]; exact d1, by rw [e _ _ (by omega)]; exact d2⟩⟩, by rw [e _ _ (by omega)]; exact wt⟩
theorem IM_cg {m m' : zH} (e : sY m m') (w : IM m) : IM m' := by
  obtain ⟨⟨g, m1, m8, m21⟩, wl, wk, wn, wb, wi⟩ := w
  have f : ∀ a b, 45 ≤ a → a ≠ 51 → a ≠ 53 → a ≠ 45 → a ≠ 46 → m' a b = m a b := fun a b h1 h2 h3 h4 h5 => e a b h1 h2 h3 (by omega) (by omega)
  refine ⟨⟨wPg_cong (fun b hb => e 46 b (by omega) (by omega) (by omega) (by omega) (by omega)) g, ?_, ?_, ?_⟩, fun j hj => ?_, fun j => ?_, ⟨fun j hj => ?_, fun j hj => ?_⟩, fun j => ?_, fun k hk hn => ?_⟩
  · rw [e 45 1 (by omega) (by omega) (by omega) (by omega) (by omega)]; exact m1
  · rw [e 45 8 (by omega) (by omega) (by omega) (by omega) (by omega)]; exact m8
  · rw [e 45 21 (by omega) (by omega) (by omega) (by omega) (by omega)]; exact m21
  · rw [f 55 j (by omega) (by omega) (by omega) (by omega) (by omega), f 56 j (by omega) (by omega) (by omega) (by omega) (by omega)]; exact wl j hj
  · rw [f 54 j (by omega) (by omega) (by omega) (by omega) (by omega)]; exact wk j
  · rw [f 49 j (by omega) (by omega) (by omega) (by omega) (by omega)]; exact wn.1 j hj
  · rw [f 50 j (by omega) (by omega) (by omega) (by omega) (by omega)]; exact wn.2 j hj
  · rw [f 48 j (by omega) (by omega) (by omega) (by omega) (by omega)]; exact wb j
  · rw [f 54 k (by omega) (by omega) (by omega) (by omega) (by omega)] at hn
    exact wPg_cong (fun b hb => e 46 _ (by omega) (by omega) (by omega) (by omega) (by omega)) (wi k hk hn)
theorem INV_5 {k h : zH} (I : INV k) (s : sc5 k h) : INV h := ⟨wX_cg (fun a b q => s a b (by omega) (by omega) (by omega) (by omega)) I.1, IM_cg (sc5_Y s) I.2.1, Rel_cg I.1 (sc5_X s) (sc5_Y s) I.2.2⟩
theorem INV_q {h h1 h2 : zH} (I : INV h) (s : scr h h1) (t : sc5 h1 h2) : INV h2 := INV_5 ⟨scr_wX I.1 s, IM_cg (scr_Y s) I.2.1, Rel_cg I.1 (scr_X s) (scr_Y s) I.2.2⟩ t
section DU
variable {l : Launch} {G : zG} {M M' : zM} {as : List zV} {h : zH} {cmp : Bool}
/-- a call that only asks -/
theorem du_q {v : Int} {d d' : Nat} (I : INV h) (hd : d ≤ 11) (c : Ca l G d M (vR 0 :: as) h (fun r h1 => r = some (vI v) ∧ scr h h1)) (hd' : d' ≤ 11) (m : ∀ h1, IM h1 → Rel h h1 → ∃ v', Ca l G d' M' (vR 45 :: as) h1 (fun r h2 => r = some (vI v') ∧ sc5 h1 h2) ∧ (cmp = true → v = v')) : DuI l G M M' as h cmp INV := by
  refine ⟨d, hd, c.mono (fun r h1 z => ⟨v, z.1, d', hd', ?_⟩)⟩
  obtain ⟨v', c', e⟩ := m h1 (IM_cg (scr_Y z.2) I.2.1) (Rel_cg I.1 sX_rf (scr_Y z.2) I.2.2)
  exact c'.mono (fun r' h2 y => ⟨v', y.1, e, INV_q I z.2 y.2⟩)
theorem du_ql {v : Int} {d d' : Nat} (I : INV h) (hd : d ≤ 11) (c : Ca l G d M (vR 0 :: as) h (fun r h1 => r = some (vL v) ∧ scr h h1)) (hd' : d' ≤ 11) (m : ∀ h1, IM h1 → Rel h h1 → ∃ v', Ca l G d' M' (vR 45 :: as) h1 (fun r h2 => r = some (vL v') ∧ sc5 h1 h2) ∧ (cmp = true → v = v')) : DuL l G M M' as h cmp INV := by
  refine ⟨d, hd, c.mono (fun r h1 z => ⟨v, z.1, d', hd', ?_⟩)⟩
  obtain ⟨v', c', e⟩ := m h1 (IM_cg (scr_Y z.2) I.2.1) (Rel_cg I.1 sX_rf (scr_Y z.2) I.2.2)
  exact c'.mono (fun r' h2 y => ⟨v', y.1, e, INV_q I z.2 y.2⟩)
/-- a call that changes -/
theorem du_s {v v' : Int} {d d' : Nat} {k1 k2 : zH} (hd : d ≤ 11) (c : Ca l G d M (vR 0 :: as) h (fun r h1 => r = some (vI v) ∧ h1 = k1)) (hd' : d' ≤ 11) (m : Ca l G d' M' (vR 45 :: as) k1 (fun r h2 => r = some (vI v') ∧ sc5 k2 h2)) (e : v = v') (I : INV k2) : DuI l G M M' as h cmp INV :=
  ⟨d, hd, c.mono (fun r h1 z => ⟨v, z.1, d', hd', by
    rw [z.2]
    exact m.mono (fun r' h2 y => ⟨v', y.1, fun _ => e, INV_5 I y.2⟩)⟩)⟩
end DU
/-- the Town and the page that are now change, all else stays -/
theorem INV_town {h k1 k2 : zH} (I : INV h) (e1 : ∀ a b, ¬ (1 ≤ a ∧ a ≤ 7) → k1 a b = h a b) (e2 : ∀ a b, ¬ (a = 46 ∧ b < 33) → k2 a b = k1 a b) (wt : wT k1 1) (wg : wPg (k2 46)) (rt : RT k1 1 (k2 46)) (h6 : k1 1 6 = h 1 6) : INV k2 := by
  obtain ⟨⟨⟨w1, w8, w16, w23⟩, ⟨p1, p2, p3, p4⟩, wsn, ws42, ws43, wk, ⟨⟨a1, a2⟩, ⟨b1, b2⟩, ⟨c1, c2⟩, ⟨d1, d2⟩⟩, wt'⟩, ⟨⟨g, m1, m8, m21⟩, wl, wk54, wn, wb, wi⟩, r1, r2, r3, r4, r5, r6⟩ := I
  have f : ∀ a b, ¬ (1 ≤ a ∧ a ≤ 7) → ¬ (a = 46 ∧ b < 33) → k2 a b = h a b := fun a b q1 q2 => (e2 a b q2).trans (e1 a b q1)
  have f1 : ∀ a b, 1 ≤ a → a ≤ 7 → k2 a b = k1 a b := fun a b q1 q2 => e2 a b (by omega)
  refine ⟨⟨⟨wT_cong (fun a b _ _ => f1 a b (by omega) (by omega)) wt, wT_cong (fun a b _ _ => f a b (by omega) (by omega)) w8, wT_cong (fun a b _ _ => f a b (by omega) (by omega)) w16, wT_cong (fun a b _ _ => f a b (by omega) (by omega)) w23⟩, ⟨by rw [f _ _ (by omega) (by omega)]; exact p1, by rw [f _ _ (by omega) (by omega)]; exact p2, by rw [f _ _ (by omega) (by omega)]; exact p3, fun j => by rw [f _ _ (by omega) (by omega)]; exact p4 j⟩, by rw [f _ _ (by omega) (by omega)]; exact wsn, fun j => by rw [f _ _ (by omega) (by omega)]; exact ws42 j, fun j => by rw [f _ _ (by omega) (by omega)]; exact ws43 j, fun j => by rw [f _ _ (by omega) (by omega)]; exact wk j, ⟨⟨by rw [f _ _ (by omega) (by omega)]; exact a1, by rw [f _ _ (by omega) (by omega)]; exact a2⟩, ⟨by rw [f _ _ (by omega) (by omega)]; exact b1, by rw [f _ _ (by omega) (by omega)]; exact b2⟩, ⟨by rw [f _ _ (by omega) (by omega)]; exact c1, by rw [f _ _ (by omega) (by omega)]; exact c2⟩, ⟨by rw [f _ _ (by omega) (by omega)]; exact d1, by rw [f _ _ (by omega) (by omega)]; exact d2⟩⟩, by rw [f _ _ (by omega) (by omega)]; exact wt'⟩, ⟨⟨wg, by rw [f _ _ (by omega) (by omega)]; exact m1, by rw [f _ _ (by omega) (by omega)]; exact m8, by rw [f _ _ (by omega) (by omega)]; exact m21⟩, fun j hj => by rw [f _ _ (by omega) (by omega), f _ _ (by omega) (by omega)]; exact wl j hj, fun j => by rw [f _ _ (by omega) (by omega)]; exact wk54 j, ⟨fun j hj => by rw [f _ _ (by omega) (by omega)]; exact wn.1 j hj, fun j hj => by rw [f _ _ (by omega) (by omega)]; exact wn.2 j hj⟩, fun j => by rw [f _ _ (by omega) (by omega)]; exact wb j, fun k hk hn => ?_⟩, ⟨RT_cg wt (fun a b _ _ => f1 a b (by omega) (by omega)) (fun _ _ => rfl) rt, ?_⟩, fun k hk => ?_, ?_, ?_, fun k hk => ?_, ?_⟩
  · rw [f 54 k (by omega) (by omega)] at hn
    exact wPg_cong (fun b hb => f 46 _ (by omega) (by omega)) (wi k hk hn)
  · rw [f1 1 6 (by omega) (by omega), h6, f 45 1 (by omega) (by omega)]
    exact r1.2
  · have hw : wT h (16 + 7 * k) := by
      rcases (show k = 0 ∨ k = 1 by omega) with rfl | rfl
      · exact w16
      · exact w23
    rw [f 30 k (by omega) (by omega), f 54 k (by omega) (by omega)]
    refine ⟨(r2 k hk).1, fun hn => ?_⟩
    obtain ⟨q1, q2⟩ := (r2 k hk).2 hn
    refine ⟨RT_cg hw (fun a b _ _ => f a b (by omega) (by omega)) (fun b hb => f 46 _ (by omega) (by omega)) q1, ?_⟩
    rw [f _ 6 (by omega) (by omega), f 45 1 (by omega) (by omega)]
    exact q2
  · unfold Rp
    rw [f 31 1 (by omega) (by omega), f 45 8 (by omega) (by omega)]
    exact ⟨r3.1, fun j hj => by rw [f 32 j (by omega) (by omega), f 48 j (by omega) (by omega)]; exact r3.2 j hj⟩
  · unfold Rs
    rw [f 0 9 (by omega) (by omega), f 45 21 (by omega) (by omega)]
    exact ⟨r4.1, fun j hj => by rw [f 42 j (by omega) (by omega), f 43 j (by omega) (by omega), f 52 _ (by omega) (by omega), f 52 _ (by omega) (by omega)]; exact r4.2 j hj⟩
  · obtain ⟨q1, q2, q3⟩ := r5 k hk
    rw [f _ 1 (by omega) (by omega), f _ 2 (by omega) (by omega), f 55 k (by omega) (by omega), f 56 k (by omega) (by omega)]
    exact ⟨q1, q2, fun i hi => by rw [f _ i (by omega) (by omega), f 57 _ (by omega) (by omega)]; exact q3 i hi⟩
  · rw [f 0 10 (by omega) (by omega), f 45 28 (by omega) (by omega)]
    exact r6
