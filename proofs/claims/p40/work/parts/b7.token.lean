/-! the reading of a text, class and reference side by side: tokens, names -/
def RC0 (h : zH) (p : Nat) (pg : Nat → Int) : Prop :=
  (h p 7 = pg 32 ∧ h p 8 = pg 20 ∧ h p 9 = pg 21 + 3) ∧ (∀ j : Nat, (j : Int) < h p 6 → h (p + 1) j = pg j ∧ h (p + 2) j = pg (4 + j)) ∧
  (∀ j, j < 12 → h (p + 3) j = noF (stM pg j)) ∧ (∀ j : Nat, (j : Int) < h p 7 → h (p + 4) j = pg (22 + j) ∧ h (p + 5) j = pg (27 + j))
def TH (c : zH) (r p : Nat → Int) : Prop := RC0 c 8 p ∧ RB c 8 ∧ c 8 6 = r 3 ∧ (bitI (r 5) 6 = 0 → r 4 = 0) ∧ (∀ j, j < 12 → c 11 j ≤ r 6) ∧ (r 6 = -1 ∨ ∃ j, j < 12 ∧ c 11 j = r 6) ∧ (∀ j : Nat, r 4 ≤ (j : Int) → j < 12 → c 11 j = -4)
/-- nothing is met yet; the next token begins at the same place -/
def TG (c : zH) (r p tp : Nat → Int) : Prop := (c 31 2 = 0 ∧ r 10 = 0) ∧ (c 31 1 = r 8 ∧ c 31 6 = r 12) ∧ (∀ j : Nat, (j : Int) < r 8 → c 32 j = tp j) ∧ (c 31 8 = bitI (r 5) 6 ∧ c 31 9 = bitI (r 5) 7) ∧ TH c r p
/-- and the same token has been read -/
def TQ (c : zH) (r p tp : Nat → Int) : Prop := TG c r p tp ∧ c 31 4 = r 14 ∧ c 31 5 = r 13 ∧ (r 14 = 2 → c 31 7 = r 15) ∧ (r 14 = 0 → r 13 = r 8)
/-- a fault at the same place -/
def TB (c : zH) (r : Nat → Int) : Prop := ¬ c 31 2 = 0 ∧ 0 < r 10 ∧ c 31 3 = r 11
def TO (c : zH) (r p tp : Nat → Int) : Prop := TQ c r p tp ∨ TB c r
theorem TH_cg {c c' : zH} {r r' p : Nat → Int} (e : ∀ a b, 8 ≤ a → a ≤ 14 → c' a b = c a b) (e3 : r' 3 = r 3) (e4 : r' 4 = r 4) (e5 : bitI (r' 5) 6 = bitI (r 5) 6) (e6 : r' 6 = r 6) (q : TH c r p) : TH c' r' p := by
  obtain ⟨⟨⟨r1, r2, r3⟩, r4, r5, r6⟩, rb, q3, q4, q5, q6, q7⟩ := q
  have a0 := fun b => e 8 b (by omega) (by omega)
  refine ⟨⟨⟨by rw [a0]; exact r1, by rw [a0]; exact r2, by rw [a0]; exact r3⟩, fun j hj => ?_, fun j hj => ?_, fun j hj => ?_⟩, RB_cg (fun a b h1 h2 => e a b h1 h2) rb, by rw [a0, e3]; exact q3, by rw [e5, e4]; exact q4, fun j hj => by rw [e 11 j (by omega) (by omega), e6]; exact q5 j hj, ?_, fun j h1 h2 => ?_⟩
  · rw [a0] at hj; rw [e _ _ (by omega) (by omega), e _ _ (by omega) (by omega)]; exact r4 j hj
  · rw [e _ _ (by omega) (by omega)]; exact r5 j hj
  · rw [a0] at hj; rw [e _ _ (by omega) (by omega), e _ _ (by omega) (by omega)]; exact r6 j hj
  · rw [e6]
    rcases q6 with z | ⟨j, z1, z2⟩
    · exact Or.inl z
    · exact Or.inr ⟨j, z1, by rw [e 11 j (by omega) (by omega)]; exact z2⟩
  · rw [e4] at h1
    rw [e 11 j (by omega) (by omega)]; exact q7 j h1 h2
theorem bhd_cong {f : Int → Bool} {b b' : Nat → Int} {L : Nat} (e : ∀ j, j < L → b j = b' j) : ∀ n p : Nat, p + n ≤ L → bhd f b n p = bhd f b' n p
  | 0, _, _ => rfl
  | n + 1, p, h => by
    unfold bhd
    rw [e p (by omega), bhd_cong e n (p + 1) (by omega)]
theorem bhd_y {f : Int → Bool} {b : Nat → Int} {n p : Nat} (hn : 0 < n) (h : f (b p) = true) : p < bhd f b n p := by
  obtain ⟨m, rfl⟩ : ∃ m, n = m + 1 := ⟨n - 1, by omega⟩
  unfold bhd
  rw [if_pos h]
  have := bhd_in f b m (p + 1)
  omega
theorem nm_vl {b tp : Nat → Int} {a : Nat} (wb : wB tp) : ∀ n : Nat, n ≤ 2 → (∀ j, a ≤ j → j < a + n → b j = tp j) → nmF b a n = vlF tp a n
  | 0, _, _ => rfl
  | n + 1, h, e => by
    have ih := nm_vl (b := b) wb n (by omega) (fun j h1 h2 => e j h1 (by omega))
    have h1 := vlF_in wb a n
    have h2 := wb (a + n)
    unfold nmF vlF
    rw [if_pos (by omega), ih, e (a + n) (by omega) (by omega), w32_id (x := 10 * vlF tp a n) (by omega) (by omega), w32_id (x := 10 * vlF tp a n + tp (a + n)) (by omega) (by omega), w32_id (by omega) (by omega)]
/-- the next token -/
theorem L_nx {c : zH} {r p tp : Nat → Int} (wk : wK c) (wb : wB tp) (w : wS r) (q : TG c r p tp) : TO (nxW c) (stR r tp) p tp := by
  obtain ⟨⟨q1, q2⟩, ⟨q3, q4⟩, q5, ⟨q6, q7⟩, q8⟩ := q
  have hQ := stQ_in (tp := tp) w
  obtain ⟨w1, w2⟩ := w
  have eb : ∀ j, j < (r 8).toNat → c 32 j = tp j := fun j hj => q5 j (by omega)
  have ePl : nPl (c 31) (c 32) = stQ r tp := by
    unfold nPl stQ
    rw [q3, q4]
    exact bhd_cong (L := (r 8).toNat) eb _ _ (by omega)
  have hth : TH (nxW c) (stR r tp) p := TH_cg (fun a b h1 h2 => reT_n (by omega)) (stR_o (by omega)) (stR_o (by omega)) (by rw [stR_o (by omega)]) (stR_o (by omega)) q8
  have f31 : ∀ b, nxW c 31 b = nxR (c 31) (c 32) b := fun b => reT_s
  have f1 : nxW c 31 1 = stR r tp 8 := by rw [f31, nxR_b (by omega), q3, stR_o (by omega)]
  have f8 : nxW c 31 8 = bitI (stR r tp 5) 6 := by rw [f31, nxR_b (by omega), q6, stR_o (by omega)]
  have f9 : nxW c 31 9 = bitI (stR r tp 5) 7 := by rw [f31, nxR_b (by omega), q7, stR_o (by omega)]
  have f32 : ∀ j : Nat, (j : Int) < stR r tp 8 → nxW c 32 j = tp j := fun j hj => by
    rw [stR_o (by omega)] at hj
    rw [show nxW c 32 j = c 32 j from reT_n (by omega)]
    exact q5 j hj
  by_cases c1 : (r 8).toNat ≤ stQ r tp
  · -- the end
    have e1 : stR r tp = up1 (st0R r tp) 14 0 := by
      unfold stR
      rw [if_neg (by omega), if_pos c1]
    have e2 : nxR (c 31) (c 32) = up1 (up1 (up1 (c 31) 5 (stQ r tp : Int)) 6 (stQ r tp : Int)) 4 0 := by
      unfold nxR
      rw [ePl, q3, if_pos c1]
    refine Or.inl ⟨⟨⟨?_, ?_⟩, ⟨f1, ?_⟩, f32, ⟨f8, f9⟩, hth⟩, ?_, ?_, fun z => ?_, fun z => ?_⟩
    · rw [f31, e2]; exact q1
    · rw [e1]; exact q2
    · rw [f31, e2, e1]; rfl
    · rw [f31, e2, e1]; rfl
    · rw [f31, e2, e1]; rfl
    · rw [e1] at z; exact absurd z (by decide : ¬ (0 : Int) = 2)
    · rw [e1]
      show (stQ r tp : Int) = r 8
      omega
  · have hb : c 32 (stQ r tp) = tp (stQ r tp) := eb _ (by omega)
    have hR : ∀ b, nxR (c 31) (c 32) b = if b = 2 then (if nBd (c 31) (c 32) = true then 1 else c 31 2) else if b = 3 then (if nBd (c 31) (c 32) = true then (stQ r tp : Int) else c 31 3) else if b = 4 then nTk (c 31) (c 32) else if b = 5 then (stQ r tp : Int) else if b = 6 then (nEn (c 31) (c 32) : Int) else if b = 7 then nNu (c 31) (c 32) else c 31 b := fun b => by
      unfold nxR
      rw [ePl, q3, if_neg c1]
    have g2 : nxW c 31 2 = if nBd (c 31) (c 32) = true then 1 else c 31 2 := by rw [f31, hR]; rfl
    have g3 : nxW c 31 3 = if nBd (c 31) (c 32) = true then (stQ r tp : Int) else c 31 3 := by rw [f31, hR]; rfl
    have g4 : nxW c 31 4 = nTk (c 31) (c 32) := by rw [f31, hR]; rfl
    have g5 : nxW c 31 5 = (stQ r tp : Int) := by rw [f31, hR]; rfl
    have g6 : nxW c 31 6 = (nEn (c 31) (c 32) : Int) := by rw [f31, hR]; rfl
    have g7 : nxW c 31 7 = nNu (c 31) (c 32) := by rw [f31, hR]; rfl
    have hE : ∀ f, bhd f (c 32) ((c 31 1).toNat - stQ r tp) (stQ r tp) = stE f r tp := fun f => by
      unfold stE
      rw [q3]
      exact bhd_cong (L := (r 8).toNat) eb _ _ (by omega)
    have hst : stR r tp = (if leB (tp (stQ r tp)) = true then up1 (up1 (st0R r tp) 12 (stE leB r tp : Int)) 14 1
      else if fiB (tp (stQ r tp)) = true then
        (if stQ r tp + 2 < stE fiB r tp then up1 (up1 (up1 (up1 (up1 (st0R r tp) 15 (vlF tp (stQ r tp) (stE fiB r tp - stQ r tp))) 12 (stE fiB r tp : Int)) 14 2) 10 1) 11 (stQ r tp : Int)
         else up1 (up1 (up1 (st0R r tp) 15 (vlF tp (stQ r tp) (stE fiB r tp - stQ r tp))) 12 (stE fiB r tp : Int)) 14 2)
      else if tp (stQ r tp) = 59 then up1 (up1 (st0R r tp) 14 3) 12 ((stQ r tp : Int) + 1)
      else up1 (up1 (up1 (up1 (st0R r tp) 14 3) 12 ((stQ r tp : Int) + 1)) 10 1) 11 (stQ r tp : Int)) := by
      unfold stR
      rw [if_neg (by omega), if_neg c1]
    by_cases c2 : tp (stQ r tp) = 59
    · have t4 : nTk (c 31) (c 32) = 3 := by unfold nTk; rw [ePl, hb, if_pos c2]
      have t6 : nEn (c 31) (c 32) = stQ r tp + 1 := by unfold nEn; rw [ePl, hb, if_pos c2]
      have tb : ¬ nBd (c 31) (c 32) = true := by unfold nBd; rw [t4, t6, ePl, decide_eq_true_iff]; omega
      rw [if_neg (by rw [c2]; decide), if_neg (by rw [c2]; decide), if_pos c2] at hst
      refine Or.inl ⟨⟨⟨?_, ?_⟩, ⟨f1, ?_⟩, f32, ⟨f8, f9⟩, hth⟩, ?_, ?_, fun z => ?_, fun z => ?_⟩
      · rw [g2, if_neg tb]; exact q1
      · rw [hst]; exact q2
      · rw [g6, t6, hst]; rfl
      · rw [g4, t4, hst]; rfl
      · rw [g5, hst]; rfl
      · rw [hst] at z; exact absurd z (by decide : ¬ (3 : Int) = 2)
      · rw [hst] at z; exact absurd z (by decide : ¬ (3 : Int) = 0)
    by_cases c3 : leB (tp (stQ r tp)) = true
    · have t4 : nTk (c 31) (c 32) = 1 := by unfold nTk; rw [ePl, hb, if_neg c2, if_pos c3]
      have t6 : nEn (c 31) (c 32) = stE leB r tp := by unfold nEn; rw [ePl, hb, if_neg c2, if_pos c3, hE]
      have hlt : stQ r tp < stE leB r tp := bhd_y (by omega) c3
      have tb : ¬ nBd (c 31) (c 32) = true := by unfold nBd; rw [t4, t6, ePl, decide_eq_true_iff]; omega
      rw [if_pos c3] at hst
      refine Or.inl ⟨⟨⟨?_, ?_⟩, ⟨f1, ?_⟩, f32, ⟨f8, f9⟩, hth⟩, ?_, ?_, fun z => ?_, fun z => ?_⟩
      · rw [g2, if_neg tb]; exact q1
      · rw [hst]; exact q2
      · rw [g6, t6, hst]; rfl
      · rw [g4, t4, hst]; rfl
      · rw [g5, hst]; rfl
      · rw [hst] at z; exact absurd z (by decide : ¬ (1 : Int) = 2)
      · rw [hst] at z; exact absurd z (by decide : ¬ (1 : Int) = 0)
    by_cases c4 : fiB (tp (stQ r tp)) = true
    · have t4 : nTk (c 31) (c 32) = 2 := by unfold nTk; rw [ePl, hb, if_neg c2, if_neg c3, if_pos c4]
      have t6 : nEn (c 31) (c 32) = stE fiB r tp := by unfold nEn; rw [ePl, hb, if_neg c2, if_neg c3, if_pos c4, hE]
      have hlt : stQ r tp < stE fiB r tp := bhd_y (by omega) c4
      have hle : stE fiB r tp ≤ (r 8).toNat := by
        have := bhd_in fiB tp ((r 8).toNat - stQ r tp) (stQ r tp)
        unfold stE
        omega
      rw [if_neg c3, if_pos c4] at hst
      by_cases c5 : stQ r tp + 2 < stE fiB r tp
      · have tb : nBd (c 31) (c 32) = true := by unfold nBd; rw [t4, t6, ePl, decide_eq_true_iff]; exact Or.inr ⟨rfl, c5⟩
        rw [if_pos c5] at hst
        refine Or.inr ⟨?_, ?_, ?_⟩
        · rw [g2, if_pos tb]; decide
        · rw [hst]; exact (by decide : (0 : Int) < 1)
        · rw [g3, if_pos tb, hst]; rfl
      · have tb : ¬ nBd (c 31) (c 32) = true := by unfold nBd; rw [t4, t6, ePl, decide_eq_true_iff]; omega
        have t7 : nNu (c 31) (c 32) = vlF tp (stQ r tp) (stE fiB r tp - stQ r tp) := by
          unfold nNu
          rw [ePl, hb, if_neg c2, if_neg c3, if_pos c4, t6]
          exact nm_vl wb _ (by omega) (fun j h1 h2 => eb j (by omega))
        rw [if_neg c5] at hst
        refine Or.inl ⟨⟨⟨?_, ?_⟩, ⟨f1, ?_⟩, f32, ⟨f8, f9⟩, hth⟩, ?_, ?_, fun z => ?_, fun z => ?_⟩
        · rw [g2, if_neg tb]; exact q1
        · rw [hst]; exact q2
        · rw [g6, t6, hst]; rfl
        · rw [g4, t4, hst]; rfl
        · rw [g5, hst]; rfl
        · rw [g7, t7, hst]; rfl
        · rw [hst] at z; exact absurd z (by decide : ¬ (2 : Int) = 0)
    · have t6 : nEn (c 31) (c 32) = stQ r tp := by unfold nEn; rw [ePl, hb, if_neg c2, if_neg c3, if_neg c4]
      have tb : nBd (c 31) (c 32) = true := by unfold nBd; rw [t6, ePl, decide_eq_true_iff]; exact Or.inl rfl
      rw [if_neg c3, if_neg c4, if_neg c2] at hst
      refine Or.inr ⟨?_, ?_, ?_⟩
      · rw [g2, if_pos tb]; decide
      · rw [hst]; exact (by decide : (0 : Int) < 1)
      · rw [g3, if_pos tb, hst]; rfl
/-- a fault is met where a token stands -/
theorem L_fl {c : zH} {r p tp : Nat → Int} {a b : Int} (ha : ¬ a = 0) (hb : 0 < b) (q : TQ c r p tp) : TB (flW a c) (flR b r) := by
  have h10 := q.1.1.2
  refine ⟨by rw [flW_2]; exact ha, by rw [flR_10 h10]; exact hb, ?_⟩
  unfold flW flR
  rw [up_s, if_pos h10, up1_s]
  exact q.2.2.1
/-! names: which line of the class is which of the reference -/
def lnP (i : Nat) : Nat := [0, 1, 2, 3, 6, 4, 7, 5].getD i 0
theorem ln_1 : ∀ i, i < 8 → lnP i < 8 ∧ cutM (lnP i + 1) - cutM (lnP i) = ((sLen.getD i 0 : Nat) : Int) ∧ 0 < sLen.getD i 0 := by decide
theorem ln_2 : ∀ i, i < 8 → ∀ k, k < sLen.getD i 0 → sCh i k = letM ((cutM (lnP i)).toNat + k) := by decide +kernel
theorem ln_3 : ∀ i, i < 8 → ∀ j, j < 8 → sCh i 0 = sCh j 0 → i = j := by decide +kernel
theorem ln_4 : ∀ n, n < 8 → ∃ i, i < 8 ∧ lnP i = n := by decide
theorem ln_5 : ∀ i, i < 8 → ∀ j, j < 8 → lnP i = lnP j → i = j := by decide
theorem allN_i {c : Nat → Bool} {n : Nat} : allN c n = true ↔ ∀ j, j < n → c j = true := allN_t n
theorem sp_nm {c : zH} {r p tp : Nat → Int} (q : TQ c r p tp) (w : wQ r) {i : Nat} (hi : i < 8) : spB c i = nmB r tp (lnP i) := by
  obtain ⟨⟨-, ⟨q3, q4⟩, q5, -, -⟩, -, q9, -, -⟩ := q
  obtain ⟨l1, l2, l3⟩ := ln_1 i hi
  obtain ⟨w1, w2, w3, -, -, -⟩ := w
  unfold spB nmB
  rw [q4, q9, l2]
  by_cases e : r 12 - r 13 = ((sLen.getD i 0 : Nat) : Int)
  · congr 1
    rw [show (r 12 - r 13).toNat = sLen.getD i 0 by omega]
    refine allN_cong _ (fun j hj => ?_)
    unfold nkB
    have hlt : (((r 13).toNat + j : Nat) : Int) < r 8 := by omega
    rw [byA_y hlt, q5 _ hlt, ln_2 i hi j hj]
  · rw [decide_eq_false e, Bool.false_and, Bool.false_and]
theorem sp_u {c : zH} {i j : Nat} (hi : i < 8) (hj : j < 8) (h1 : spB c i = true) (h2 : spB c j = true) : i = j := by
  unfold spB at h1 h2
  rw [Bool.and_eq_true] at h1 h2
  have a1 := allN_i.mp h1.2 0 (ln_1 i hi).2.2
  have a2 := allN_i.mp h2.2 0 (ln_1 j hj).2.2
  exact ln_3 i hi j hj ((of_decide_eq_true a1).symm.trans (of_decide_eq_true a2))
theorem lnF_y {c : Nat → Bool} {i : Nat} (h : c i = true) : ∀ n j : Nat, j ≤ i → i < j + n → (∀ k, j ≤ k → k < i → ¬ c k = true) → lnF c n j = i
  | 0, j, h1, h2, _ => by omega
  | n + 1, j, h1, h2, h3 => by
    unfold lnF
    by_cases e : c j = true
    · rw [if_pos e]
      rcases Nat.lt_or_ge j i with z | z
      · exact absurd e (h3 j (Nat.le_refl _) z)
      · omega
    · rw [if_neg e]
      have hne : j ≠ i := fun z => e (by rw [z]; exact h)
      exact lnF_y h n (j + 1) (by omega) (by omega) (fun k h4 h5 => h3 k (by omega) h5)
theorem lnF_no {c : Nat → Bool} : ∀ n j : Nat, (∀ k, j ≤ k → k < j + n → ¬ c k = true) → lnF c n j = 8
  | 0, _, _ => rfl
  | n + 1, j, h => by
    unfold lnF
    rw [if_neg (h j (by omega) (by omega))]
    exact lnF_no n (j + 1) (fun k h1 h2 => h k (by omega) (by omega))
theorem nhF_y {c : Nat → Bool} {i : Nat} (h : c i = true) : ∀ n j : Nat, j ≤ i → i < j + n → (∀ k, j ≤ k → k < i → ¬ c k = true) → nhF c n j = (i : Int)
  | 0, j, h1, h2, _ => by omega
  | n + 1, j, h1, h2, h3 => by
    unfold nhF
    by_cases e : c j = true
    · rw [if_pos e]
      rcases Nat.lt_or_ge j i with z | z
      · exact absurd e (h3 j (Nat.le_refl _) z)
      · rw [show j = i by omega]
    · rw [if_neg e]
      have hne : j ≠ i := fun z => e (by rw [z]; exact h)
      exact nhF_y h n (j + 1) (by omega) (by omega) (fun k h4 h5 => h3 k (by omega) h5)
theorem nhF_no {c : Nat → Bool} : ∀ n j : Nat, (∀ k, j ≤ k → k < j + n → ¬ c k = true) → nhF c n j = -4
  | 0, _, _ => rfl
  | n + 1, j, h => by
    unfold nhF
    rw [if_neg (h j (by omega) (by omega))]
    exact nhF_no n (j + 1) (fun k h1 h2 => h k (by omega) (by omega))
/-- the same line, or none -/
theorem L_name {c : zH} {r p tp : Nat → Int} (q : TQ c r p tp) (w : wQ r) : (linN c = 8 ∧ nhM r tp = -4) ∨ (linN c < 8 ∧ nhM r tp = (lnP (linN c) : Int)) := by
  have q4 := q.2.1
  unfold linN nhM
  rw [q4]
  by_cases ht : r 14 = 1
  · rw [if_pos ht, if_pos ht]
    by_cases hx : ∃ i, i < 8 ∧ spB c i = true
    · obtain ⟨i, hi, hs⟩ := hx
      refine Or.inr ?_
      have e1 : lnF (spB c) 8 0 = i := lnF_y hs 8 0 (by omega) (by omega) (fun k _ h2 z => by have := sp_u (by omega) hi z hs; omega)
      have hn : nmB r tp (lnP i) = true := by rw [← sp_nm q w hi]; exact hs
      have hl := (ln_1 i hi).1
      have e2 : nhF (nmB r tp) 8 0 = (lnP i : Int) := nhF_y hn 8 0 (by omega) (by omega) (fun k _ h2 z => by
        obtain ⟨j, hj, ej⟩ := ln_4 k (by omega)
        rw [← ej, ← sp_nm q w hj] at z
        have := sp_u hj hi z hs
        subst this
        omega)
      rw [e1, e2]
      exact ⟨hi, rfl⟩
    · refine Or.inl ⟨lnF_no 8 0 (fun k _ h2 z => hx ⟨k, by omega, z⟩), nhF_no 8 0 (fun k _ h2 z => ?_)⟩
      obtain ⟨j, hj, ej⟩ := ln_4 k (by omega)
      rw [← ej, ← sp_nm q w hj] at z
      exact hx ⟨j, hj, z⟩
  · rw [if_neg ht, if_neg ht]
    exact Or.inl ⟨rfl, rfl⟩
