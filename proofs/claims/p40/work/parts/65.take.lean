/-! the reading of a text by the class: what each step leaves -/
def nxW (h : zH) : zH := reT h 31 (nxR (h 31) (h 32))
def flW (a : Int) (h : zH) : zH := up (up h 31 2 a) 31 3 (h 31 5)
def jgW (lo hi : Int) (h : zH) : zH := if h 31 4 = 2 then (if h 31 7 < lo ∨ hi < h 31 7 then flW 3 h else h) else flW 2 h
def tnW (lo hi : Int) (h : zH) : zH := if nxW h 31 2 = 0 then jgW lo hi (nxW h) else nxW h
def tnV (lo hi : Int) (h : zH) : Int := if tnW lo hi h 31 2 = 0 then tnW lo hi h 31 7 else 0
def tsW (h : zH) : zH := if nxW h 31 2 = 0 then (if nxW h 31 4 = 3 then nxW h else flW 2 (nxW h)) else nxW h
/-- what holds while a text is read -/
def wK (h : zH) : Prop := wP h 31 ∧ wT h 8 ∧ (0 ≤ h 31 3 ∧ h 31 3 ≤ 160)
/-- from h to h': the Tape's own fields and the Town of trials alone; the length stays -/
def tkR (h h' : zH) : Prop := (∀ a b, a ≠ 31 → ¬ (8 ≤ a ∧ a ≤ 14) → h' a b = h a b) ∧ wK h' ∧ h' 31 1 = h 31 1
theorem tkR_tr {a b c : zH} (s : tkR a b) (t : tkR b c) : tkR a c := ⟨fun x y q1 q2 => (t.1 x y q1 q2).trans (s.1 x y q1 q2), t.2.1, t.2.2.trans s.2.2⟩
theorem tkR_rf {h : zH} (w : wK h) : tkR h h := ⟨fun _ _ _ _ => rfl, w, rfl⟩
section TK
variable {l : Launch} {G : zG} {h : zH}
theorem nxR_b {r by_ : Nat → Int} {b : Nat} (hb : b = 1 ∨ b = 8 ∨ b = 9) : nxR r by_ b = r b := by
  unfold nxR
  split
  · rw [up1_n (by omega), up1_n (by omega), up1_n (by omega)]
  · rcases hb with rfl | rfl | rfl <;> rfl
theorem nEn_in {r by_ : Nat → Int} (h1 : 0 ≤ r 1 ∧ r 1 ≤ 160) (hq : ¬ (r 1).toNat ≤ nPl r by_) : nPl r by_ ≤ nEn r by_ ∧ nEn r by_ ≤ (r 1).toNat := by
  unfold nEn
  split
  · omega
  · split
    · have := bhd_in leB by_ ((r 1).toNat - nPl r by_) (nPl r by_)
      omega
    · split
      · have := bhd_in fiB by_ ((r 1).toNat - nPl r by_) (nPl r by_)
        omega
      · omega
theorem nxR_3 {r by_ : Nat → Int} (w : wR r by_) (h3 : 0 ≤ r 3 ∧ r 3 ≤ 160) : (0 ≤ nxR r by_ 3 ∧ nxR r by_ 3 ≤ 160) ∧ (0 ≤ nxR r by_ 5 ∧ nxR r by_ 5 ≤ 160) ∧ (0 ≤ nxR r by_ 6 ∧ nxR r by_ 6 ≤ 160) := by
  obtain ⟨w1, w2, w3, w4⟩ := w
  have hp := nPl_in (by_ := by_) w1 w3
  unfold nxR
  split
  · rw [up1_n (by omega), up1_n (by omega), up1_n (by omega), up1_n (by omega), up1_n (by omega), up1_s, up1_n (by omega), up1_s]
    omega
  · rename_i c
    have he := nEn_in (by_ := by_) w1 c
    refine ⟨?_, ?_, ?_⟩
    · show (0 ≤ (if nBd r by_ = true then (nPl r by_ : Int) else r 3)) ∧ (if nBd r by_ = true then (nPl r by_ : Int) else r 3) ≤ 160
      split <;> omega
    · show 0 ≤ (nPl r by_ : Int) ∧ (nPl r by_ : Int) ≤ 160
      omega
    · show 0 ≤ (nEn r by_ : Int) ∧ (nEn r by_ : Int) ≤ 160
      omega
theorem tk_nx (w : wK h) : tkR h (nxW h) := by
  obtain ⟨⟨q1, q2, q3, q4⟩, wt, w3⟩ := w
  have hn := nxR_3 (r := h 31) (by_ := h 32) ⟨q1, q2, q3, q4⟩ w3
  have e1 : nxR (h 31) (h 32) 1 = h 31 1 := nxR_b (by omega)
  refine ⟨fun a b q _ => reT_n q, ⟨⟨?_, ?_, ?_, fun j => ?_⟩, wT_cong (fun a b _ _ => reT_n (by omega)) wt, ?_⟩, ?_⟩
  · unfold nxW; rw [reT_s, e1]; exact q1
  · unfold nxW; rw [reT_s]; exact hn.2.1
  · unfold nxW; rw [reT_s]; exact hn.2.2
  · unfold nxW; rw [reT_n (by omega)]; exact q4 j
  · unfold nxW; rw [reT_s]; exact hn.1
  · unfold nxW; rw [reT_s]; exact e1
/-- a field of the Tape other than its length and places is set -/
theorem tk_up {j : Nat} {v : Int} (w : wK h) (hj : j = 2 ∨ j = 8 ∨ j = 9) : tkR h (up h 31 j v) := by
  obtain ⟨⟨q1, q2, q3, q4⟩, wt, w3⟩ := w
  refine ⟨fun a b q _ => up_k q, ⟨⟨?_, ?_, ?_, fun j => ?_⟩, wT_cong (fun a b _ _ => up_k (by omega)) wt, ?_⟩, up_j (by omega)⟩
  · rw [up_j (by omega)]; exact q1
  · rw [up_j (by omega)]; exact q2
  · rw [up_j (by omega)]; exact q3
  · rw [up_k (by omega)]; exact q4 _
  · rw [up_j (by omega)]; exact w3
theorem tk_fl {a v : Int} (w : wK h) (hv : 0 ≤ v ∧ v ≤ 160) : tkR h (up (up h 31 2 a) 31 3 v) := by
  obtain ⟨⟨q1, q2, q3, q4⟩, wt, w3⟩ := w
  refine ⟨fun a b q _ => (up_k q).trans (up_k q), ⟨⟨?_, ?_, ?_, fun j => ?_⟩, wT_cong (fun a b _ _ => (up_k (by omega)).trans (up_k (by omega))) wt, ?_⟩, (up_j (by omega)).trans (up_j (by omega))⟩
  · rw [up_j (by omega), up_j (by omega)]; exact q1
  · rw [up_j (by omega), up_j (by omega)]; exact q2
  · rw [up_j (by omega), up_j (by omega)]; exact q3
  · rw [up_k (by omega), up_k (by omega)]; exact q4 _
  · rw [up_s]; exact hv
theorem tk_flW {a : Int} (w : wK h) : tkR h (flW a h) := tk_fl w w.1.2.1
theorem flW_2 {a : Int} : flW a h 31 2 = a := by unfold flW; rw [up_j (by omega), up_s]
/-- the Town is changed -/
theorem tk_town {H : zH} (w : wK h) (e : ∀ a b, ¬ (8 ≤ a ∧ a ≤ 14) → H a b = h a b) (wt : wT H 8) : tkR h H := by
  obtain ⟨⟨q1, q2, q3, q4⟩, -, w3⟩ := w
  refine ⟨fun a b _ q => e a b q, ⟨⟨?_, ?_, ?_, fun j => ?_⟩, wt, ?_⟩, e _ _ (by omega)⟩
  · rw [e _ _ (by omega)]; exact q1
  · rw [e _ _ (by omega)]; exact q2
  · rw [e _ _ (by omega)]; exact q3
  · rw [e _ _ (by omega)]; exact q4 _
  · rw [e _ _ (by omega)]; exact w3
theorem tk_jg {lo hi : Int} (w : wK h) : tkR h (jgW lo hi h) := by
  unfold jgW
  split
  · split
    · exact tk_flW w
    · exact tkR_rf w
  · exact tk_flW w
theorem jg_in {lo hi : Int} (e : jgW lo hi h 31 2 = 0) : lo ≤ jgW lo hi h 31 7 ∧ jgW lo hi h 31 7 ≤ hi ∧ jgW lo hi h = h := by
  unfold jgW at e ⊢
  split at e
  · split at e
    · rw [flW_2] at e; omega
    · rw [if_pos (by assumption), if_neg (by assumption)]
      exact ⟨by omega, by omega, rfl⟩
  · rw [flW_2] at e; omega
theorem tk_tn {lo hi : Int} (w : wK h) : tkR h (tnW lo hi h) := by
  unfold tnW
  split
  · exact tkR_tr (tk_nx w) (tk_jg (tk_nx w).2.1)
  · exact tk_nx w
theorem tn_in {lo hi : Int} (e : tnW lo hi h 31 2 = 0) : lo ≤ tnV lo hi h ∧ tnV lo hi h ≤ hi ∧ tnW lo hi h = nxW h := by
  unfold tnV
  rw [if_pos e]
  unfold tnW at e ⊢
  split at e
  · rw [if_pos (by assumption)]
    exact jg_in e
  · exact absurd e (by assumption)
theorem tk_ts (w : wK h) : tkR h (tsW h) := by
  unfold tsW
  split
  · split
    · exact tk_nx w
    · exact tkR_tr (tk_nx w) (tk_flW (tk_nx w).2.1)
  · exact tk_nx w
theorem c_nextW (ly : LX G) (w : wK h) : Ca l G 2 mX1_next [vR 31] h (fun r h' => r = none ∧ h' = nxW h) := by
  have := c_next (l := l) (G := G) (h := h) (t := 31) (r := h 31) ly.2.2.1 ⟨w.1.1, w.1.2.1, w.1.2.2.1, w.1.2.2.2⟩
  rw [reT_self] at this
  exact this
theorem c_judge (ly : LX G) (lo hi : Int) : Ca l G 1 mX1_judgeNumber [vR 31, vI lo, vI hi] h (fun r h' => r = none ∧ h' = jgW lo hi h) := by
  obtain ⟨hN, ⟨ly1, ly8, ly16, ly23⟩, ltp, ⟨ls34, ls36, ls38, ls40⟩, ⟨xs0, xs15, xs30, xs33, xs42, xs43, xs44⟩, ⟨xl15, xl30, xl33, xl42, xl43, xl44⟩, ⟨xr0, xr1, xr2, xr3, xr4, xr5, xr6, xr7, xr8⟩, ⟨yr0, yr1⟩, ⟨zr0, zr1, zr2, zr3⟩⟩ := ly
  have xs1 : gs G 1 = 7 := ly1.2.1.1
  have xs8 : gs G 8 = 7 := ly8.2.1.1
  have xs16 : gs G 16 = 7 := ly16.2.1.1
  have xs23 : gs G 23 = 7 := ly23.2.1.1
  have xs31 : gs G 31 = 6 := ltp.2.1.1
  have xs34 : gs G 34 = 5 := ls34.2.1.1
  have xs36 : gs G 36 = 5 := ls36.2.1.1
  have xs38 : gs G 38 = 5 := ls38.2.1.1
  have xs40 : gs G 40 = 5 := ls40.2.1.1
  have ltp' := ltp
  obtain ⟨⟨pn0, pn1⟩, ⟨ps0, ps1⟩, pr0, pl1⟩ := ltp'
  refine Ca.of (by decide) (Nat.le_of_ble_eq_true rfl) (fun hI hv hH => ?_)
  unfold jgW
  refine r_aload_n 1 dX1_judgeNumber_0 rfl rfl ?_
  refine r_getI 4 dX1_judgeNumber_1 rfl kf_1_47 rfl (by first | assumption | omega) (by assumption) ?_
  refine r_iconst 5 dX1_judgeNumber_4 rfl rfl ?_
  refine r_icmp_eq 20 8 dX1_judgeNumber_5 (by decide) rfl (fun c_5 => ?_) (fun c_5 => ?_)
  refine r_aload_n 21 dX1_judgeNumber_20 rfl rfl ?_
  refine r_getI 24 dX1_judgeNumber_21 rfl kf_1_101 rfl (by first | assumption | omega) (by assumption) ?_
  refine r_iload_n 25 dX1_judgeNumber_24 rfl rfl ?_
  refine r_icmp_lt 36 28 dX1_judgeNumber_25 (by decide) rfl (fun c_25 => ?_) (fun c_25 => ?_)
  refine r_aload_n 37 dX1_judgeNumber_36 rfl rfl ?_
  refine r_iconst 38 dX1_judgeNumber_37 rfl rfl ?_
  refine r_aload_n 39 dX1_judgeNumber_38 rfl rfl ?_
  refine r_getI 42 dX1_judgeNumber_39 rfl kf_1_65 rfl (by first | assumption | omega) (by assumption) ?_
  rotate_left -- leaf: call at pc 42
  refine r_aload_n 29 dX1_judgeNumber_28 rfl rfl ?_
  refine r_getI 32 dX1_judgeNumber_29 rfl kf_1_101 rfl (by first | assumption | omega) (by assumption) ?_
  refine r_iload_n 33 dX1_judgeNumber_32 rfl rfl ?_
  refine r_icmp_le 45 36 dX1_judgeNumber_33 (by decide) rfl (fun c_33 => ?_) (fun c_33 => ?_)
  refine r_ret dX1_judgeNumber_45 rfl ?_
  rotate_left -- leaf: return at pc 45
  refine r_aload_n 37 dX1_judgeNumber_36 rfl rfl ?_
  refine r_iconst 38 dX1_judgeNumber_37 rfl rfl ?_
  refine r_aload_n 39 dX1_judgeNumber_38 rfl rfl ?_
  refine r_getI 42 dX1_judgeNumber_39 rfl kf_1_65 rfl (by first | assumption | omega) (by assumption) ?_
  rotate_left -- leaf: call at pc 42
  refine r_aload_n 9 dX1_judgeNumber_8 rfl rfl ?_
  refine r_iconst 10 dX1_judgeNumber_9 rfl rfl ?_
  refine r_aload_n 11 dX1_judgeNumber_10 rfl rfl ?_
  refine r_getI 14 dX1_judgeNumber_11 rfl kf_1_65 rfl (by first | assumption | omega) (by assumption) ?_
  rotate_left -- leaf: call at pc 14
  · rw [if_pos c_5, if_pos (Or.inl c_25)]
    refine r_cv2 45 dX1_judgeNumber_42 rfl kv_1_57 (by first | assumption | omega) (by assumption) rfl rfl (c_fail ltp 3 (h 31 5)) ?_
    rintro r h' ⟨rfl, rfl⟩
    refine r_ret dX1_judgeNumber_45 rfl ?_
    rotate_left -- leaf: return at pc 45
    exact ⟨rfl, rfl⟩
  · rw [if_pos c_5, if_neg (by omega)]
    exact ⟨rfl, rfl⟩
  · rw [if_pos c_5, if_pos (by omega)]
    refine r_cv2 45 dX1_judgeNumber_42 rfl kv_1_57 (by first | assumption | omega) (by assumption) rfl rfl (c_fail ltp 3 (h 31 5)) ?_
    rintro r h' ⟨rfl, rfl⟩
    refine r_ret dX1_judgeNumber_45 rfl ?_
    rotate_left -- leaf: return at pc 45
    exact ⟨rfl, rfl⟩
  · rw [if_neg c_5]
    refine r_cv2 17 dX1_judgeNumber_14 rfl kv_1_57 (by first | assumption | omega) (by assumption) rfl rfl (c_fail ltp 2 (h 31 5)) ?_
    rintro r h' ⟨rfl, rfl⟩
    refine r_goto 45 dX1_judgeNumber_17 (by decide) ?_
    refine r_ret dX1_judgeNumber_45 rfl ?_
    rotate_left -- leaf: return at pc 45
    exact ⟨rfl, rfl⟩
theorem c_takeNumber (ly : LX G) (w : wK h) (lo hi : Int) : Ca l G 3 mX1_takeNumber [vR 31, vI lo, vI hi] h (fun r h' => r = some (vI (tnV lo hi h)) ∧ h' = tnW lo hi h) := by
  have lX0 := ly
  obtain ⟨hN, ⟨ly1, ly8, ly16, ly23⟩, ltp, ⟨ls34, ls36, ls38, ls40⟩, ⟨xs0, xs15, xs30, xs33, xs42, xs43, xs44⟩, ⟨xl15, xl30, xl33, xl42, xl43, xl44⟩, ⟨xr0, xr1, xr2, xr3, xr4, xr5, xr6, xr7, xr8⟩, ⟨yr0, yr1⟩, ⟨zr0, zr1, zr2, zr3⟩⟩ := ly
  have xs1 : gs G 1 = 7 := ly1.2.1.1
  have xs8 : gs G 8 = 7 := ly8.2.1.1
  have xs16 : gs G 16 = 7 := ly16.2.1.1
  have xs23 : gs G 23 = 7 := ly23.2.1.1
  have xs31 : gs G 31 = 6 := ltp.2.1.1
  have xs34 : gs G 34 = 5 := ls34.2.1.1
  have xs36 : gs G 36 = 5 := ls36.2.1.1
  have xs38 : gs G 38 = 5 := ls38.2.1.1
  have xs40 : gs G 40 = 5 := ls40.2.1.1
  have ltp' := ltp
  obtain ⟨⟨pn0, pn1⟩, ⟨ps0, ps1⟩, pr0, pl1⟩ := ltp'
  refine Ca.of (by decide) (Nat.le_of_ble_eq_true rfl) (fun hI hv hH => ?_)
  unfold tnV
  refine r_aload_n 1 dX1_takeNumber_0 rfl rfl ?_
  rotate_left -- leaf: call at pc 1
  refine r_cv0 4 dX1_takeNumber_1 rfl kv_1_40 (by first | assumption | omega) (by assumption) rfl rfl (c_nextW lX0 w) ?_
  rintro r h' ⟨rfl, rfl⟩
  refine r_aload_n 5 dX1_takeNumber_4 rfl rfl ?_
  rotate_left -- leaf: call at pc 5
  refine r_cv0 8 dX1_takeNumber_5 rfl kv_1_43 (by first | assumption | omega) (by assumption) rfl rfl (c_isGood ltp) ?_
  rintro r h' ⟨rfl, rfl⟩
  refine r_if_eq 17 11 dX1_takeNumber_8 (by decide) rfl (fun c_8 => ?_) (fun c_8 => ?_)
  rotate_left -- leaf: pc 17
  refine r_aload_n 12 dX1_takeNumber_11 rfl rfl ?_
  refine r_iload_n 13 dX1_takeNumber_12 rfl rfl ?_
  refine r_iload_n 14 dX1_takeNumber_13 rfl rfl ?_
  rotate_left -- leaf: call at pc 14
  · have e : tnW lo hi h = nxW h := by unfold tnW; rw [if_neg (z01_n.mp c_8)]
    rw [e, if_neg (z01_n.mp c_8)]
    refine r_aload_n 18 dX1_takeNumber_17 rfl rfl ?_
    rotate_left -- leaf: call at pc 18
    refine r_cv0 21 dX1_takeNumber_18 rfl kv_1_43 (by first | assumption | omega) (by assumption) rfl rfl (c_isGood ltp) ?_
    rintro r h' ⟨rfl, rfl⟩
    refine r_if_eq 31 24 dX1_takeNumber_21 (by decide) rfl (fun c_21 => ?_) (fun c_21 => ?_)
    refine r_iconst 32 dX1_takeNumber_31 rfl rfl ?_
    refine r_iret dX1_takeNumber_32 rfl ?_
    rotate_left -- leaf: return at pc 32
    refine r_aload_n 25 dX1_takeNumber_24 rfl rfl ?_
    refine r_getI 28 dX1_takeNumber_25 rfl kf_1_101 rfl (by first | assumption | omega) (by assumption) ?_
    refine r_goto 32 dX1_takeNumber_28 (by decide) ?_
    refine r_iret dX1_takeNumber_32 rfl ?_
    rotate_left -- leaf: return at pc 32
    · exact ⟨rfl, rfl⟩
    · exact absurd (z01_y.mp c_21) (z01_n.mp c_8)
  · have e : tnW lo hi h = jgW lo hi (nxW h) := by unfold tnW; rw [if_pos (z01_y.mp c_8)]
    rw [e]
    refine r_cv2 17 dX1_takeNumber_14 rfl kv_1_98 (by first | assumption | omega) (by assumption) rfl rfl (c_judge lX0 lo hi) ?_
    rintro r h' ⟨rfl, rfl⟩
    refine r_aload_n 18 dX1_takeNumber_17 rfl rfl ?_
    rotate_left -- leaf: call at pc 18
    refine r_cv0 21 dX1_takeNumber_18 rfl kv_1_43 (by first | assumption | omega) (by assumption) rfl rfl (c_isGood ltp) ?_
    rintro r h' ⟨rfl, rfl⟩
    refine r_if_eq 31 24 dX1_takeNumber_21 (by decide) rfl (fun c_21 => ?_) (fun c_21 => ?_)
    refine r_iconst 32 dX1_takeNumber_31 rfl rfl ?_
    refine r_iret dX1_takeNumber_32 rfl ?_
    rotate_left -- leaf: return at pc 32
    refine r_aload_n 25 dX1_takeNumber_24 rfl rfl ?_
    refine r_getI 28 dX1_takeNumber_25 rfl kf_1_101 rfl (by first | assumption | omega) (by assumption) ?_
    refine r_goto 32 dX1_takeNumber_28 (by decide) ?_
    refine r_iret dX1_takeNumber_32 rfl ?_
    rotate_left -- leaf: return at pc 32
    · rw [if_neg (z01_n.mp c_21)]
      exact ⟨rfl, rfl⟩
    · rw [if_pos (z01_y.mp c_21)]
      exact ⟨rfl, rfl⟩
theorem c_takeStop (ly : LX G) (w : wK h) : Ca l G 3 mX1_takeStop [vR 31] h (fun r h' => r = none ∧ h' = tsW h) := by
  have lX0 := ly
  obtain ⟨hN, ⟨ly1, ly8, ly16, ly23⟩, ltp, ⟨ls34, ls36, ls38, ls40⟩, ⟨xs0, xs15, xs30, xs33, xs42, xs43, xs44⟩, ⟨xl15, xl30, xl33, xl42, xl43, xl44⟩, ⟨xr0, xr1, xr2, xr3, xr4, xr5, xr6, xr7, xr8⟩, ⟨yr0, yr1⟩, ⟨zr0, zr1, zr2, zr3⟩⟩ := ly
  have xs1 : gs G 1 = 7 := ly1.2.1.1
  have xs8 : gs G 8 = 7 := ly8.2.1.1
  have xs16 : gs G 16 = 7 := ly16.2.1.1
  have xs23 : gs G 23 = 7 := ly23.2.1.1
  have xs31 : gs G 31 = 6 := ltp.2.1.1
  have xs34 : gs G 34 = 5 := ls34.2.1.1
  have xs36 : gs G 36 = 5 := ls36.2.1.1
  have xs38 : gs G 38 = 5 := ls38.2.1.1
  have xs40 : gs G 40 = 5 := ls40.2.1.1
  have ltp' := ltp
  obtain ⟨⟨pn0, pn1⟩, ⟨ps0, ps1⟩, pr0, pl1⟩ := ltp'
  refine Ca.of (by decide) (Nat.le_of_ble_eq_true rfl) (fun hI hv hH => ?_)
  unfold tsW
  refine r_aload_n 1 dX1_takeStop_0 rfl rfl ?_
  rotate_left -- leaf: call at pc 1
  refine r_cv0 4 dX1_takeStop_1 rfl kv_1_40 (by first | assumption | omega) (by assumption) rfl rfl (c_nextW lX0 w) ?_
  rintro r h' ⟨rfl, rfl⟩
  refine r_aload_n 5 dX1_takeStop_4 rfl rfl ?_
  rotate_left -- leaf: call at pc 5
  refine r_cv0 8 dX1_takeStop_5 rfl kv_1_43 (by first | assumption | omega) (by assumption) rfl rfl (c_isGood ltp) ?_
  rintro r h' ⟨rfl, rfl⟩
  refine r_if_eq 28 11 dX1_takeStop_8 (by decide) rfl (fun c_8 => ?_) (fun c_8 => ?_)
  refine r_ret dX1_takeStop_28 rfl ?_
  rotate_left -- leaf: return at pc 28
  refine r_aload_n 12 dX1_takeStop_11 rfl rfl ?_
  refine r_getI 15 dX1_takeStop_12 rfl kf_1_47 rfl (by first | assumption | omega) (by assumption) ?_
  refine r_iconst 16 dX1_takeStop_15 rfl rfl ?_
  refine r_icmp_eq 28 19 dX1_takeStop_16 (by decide) rfl (fun c_16 => ?_) (fun c_16 => ?_)
  refine r_ret dX1_takeStop_28 rfl ?_
  rotate_left -- leaf: return at pc 28
  refine r_aload_n 20 dX1_takeStop_19 rfl rfl ?_
  refine r_iconst 21 dX1_takeStop_20 rfl rfl ?_
  refine r_aload_n 22 dX1_takeStop_21 rfl rfl ?_
  refine r_getI 25 dX1_takeStop_22 rfl kf_1_65 rfl (by first | assumption | omega) (by assumption) ?_
  rotate_left -- leaf: call at pc 25
  · rw [if_neg (z01_n.mp c_8)]
    exact ⟨rfl, rfl⟩
  · rw [if_pos (z01_y.mp c_8), if_pos c_16]
    exact ⟨rfl, rfl⟩
  · rw [if_pos (z01_y.mp c_8), if_neg c_16]
    refine r_cv2 28 dX1_takeStop_25 rfl kv_1_57 (by first | assumption | omega) (by assumption) rfl rfl (c_fail ltp 2 (nxW h 31 5)) ?_
    rintro r h' ⟨rfl, rfl⟩
    refine r_ret dX1_takeStop_28 rfl ?_
    rotate_left -- leaf: return at pc 28
    exact ⟨rfl, rfl⟩
def adM (g : zH) (k v : Int) : zH := up (up (up g (8 + 1) (g 8 6).toNat k) (8 + 2) (g 8 6).toNat v) 8 6 (g 8 6 + 1)
def manW (k : Int) (h : zH) : zH := if h 8 6 < 4 then (if tnW 0 6 h 31 2 = 0 then tsW (reb 8 (adM (tnW 0 6 h) k (tnV 0 6 h))) else tnW 0 6 h) else flW 5 h
theorem wT_adM {k v : Int} (w : wT h 8) (h4 : h 8 6 < 4) (hk : 0 ≤ k ∧ k ≤ 3) (hv : 0 ≤ v ∧ v ≤ 6) : wT (adM h k v) 8 := by
  have w6 := w.1
  exact wT_up0 (wT_up2 (wT_up1 w hk) hv) (by omega) (by omega) (by omega) (by omega)
theorem tk_adM {k v : Int} (w : wK h) (h4 : h 8 6 < 4) (hk : 0 ≤ k ∧ k ≤ 3) (hv : 0 ≤ v ∧ v ≤ 6) : tkR h (reb 8 (adM h k v)) :=
  tk_town w (fun a b q => by unfold adM; rw [reb_in (by omega), up_k (by omega), up_k (by omega), up_k (by omega)]) (wT_reb (wT_adM w.2.1 h4 hk hv))
theorem tn_o {lo hi : Int} {a b : Nat} (q : a ≠ 31) : tnW lo hi h a b = h a b := by
  have hn : ∀ a b, a ≠ 31 → nxW h a b = h a b := fun a b q => reT_n q
  have hf : ∀ (v : Int) (g : zH) a b, a ≠ 31 → flW v g a b = g a b := fun v g a b q => (up_k q).trans (up_k q)
  unfold tnW jgW
  split
  · split
    · split
      · rw [hf _ _ _ _ q]; exact hn _ _ q
      · exact hn _ _ q
    · rw [hf _ _ _ _ q]; exact hn _ _ q
  · exact hn _ _ q
theorem tk_man {k : Int} (w : wK h) (hk : 0 ≤ k ∧ k ≤ 3) : tkR h (manW k h) := by
  unfold manW
  split
  · split
    · have t1 := tk_tn (lo := 0) (hi := 6) w
      have b := tn_in (lo := 0) (hi := 6) (h := h) (by assumption)
      have t2 := tk_adM (k := k) (v := tnV 0 6 h) t1.2.1 (by rw [tn_o (by omega)]; assumption) hk (by omega)
      exact tkR_tr t1 (tkR_tr t2 (tk_ts t2.2.1))
    · exact tk_tn w
  · exact tk_flW w
theorem c_takeMan (ly : LX G) (w : wK h) (k : Int) (hk : 0 ≤ k ∧ k ≤ 3) : Ca l G 4 mX1_takeMan [vR 31, vR 8, vI k] h (fun r h' => r = none ∧ h' = manW k h) := by
  have lX0 := ly
  obtain ⟨hN, ⟨ly1, ly8, ly16, ly23⟩, ltp, ⟨ls34, ls36, ls38, ls40⟩, ⟨xs0, xs15, xs30, xs33, xs42, xs43, xs44⟩, ⟨xl15, xl30, xl33, xl42, xl43, xl44⟩, ⟨xr0, xr1, xr2, xr3, xr4, xr5, xr6, xr7, xr8⟩, ⟨yr0, yr1⟩, ⟨zr0, zr1, zr2, zr3⟩⟩ := ly
  have xs1 : gs G 1 = 7 := ly1.2.1.1
  have xs8 : gs G 8 = 7 := ly8.2.1.1
  have xs16 : gs G 16 = 7 := ly16.2.1.1
  have xs23 : gs G 23 = 7 := ly23.2.1.1
  have xs31 : gs G 31 = 6 := ltp.2.1.1
  have xs34 : gs G 34 = 5 := ls34.2.1.1
  have xs36 : gs G 36 = 5 := ls36.2.1.1
  have xs38 : gs G 38 = 5 := ls38.2.1.1
  have xs40 : gs G 40 = 5 := ls40.2.1.1
  have ltp' := ltp
  obtain ⟨⟨pn0, pn1⟩, ⟨ps0, ps1⟩, pr0, pl1⟩ := ltp'
  refine Ca.of (by decide) (Nat.le_of_ble_eq_true rfl) (fun hI hv hH => ?_)
  unfold manW
  refine r_aload_n 1 dX1_takeMan_0 rfl rfl ?_
  refine r_getI 4 dX1_takeMan_1 rfl kf_1_84 rfl (by first | assumption | omega) (by assumption) ?_
  refine r_iconst 5 dX1_takeMan_4 rfl rfl ?_
  refine r_icmp_lt 18 8 dX1_takeMan_5 (by decide) rfl (fun c_5 => ?_) (fun c_5 => ?_)
  refine r_aload_n 19 dX1_takeMan_18 rfl rfl ?_
  refine r_iconst 20 dX1_takeMan_19 rfl rfl ?_
  refine r_bipush 22 dX1_takeMan_20 rfl rfl (by decide) ?_
  rotate_left -- leaf: call at pc 22
  refine r_aload_n 9 dX1_takeMan_8 rfl rfl ?_
  refine r_iconst 10 dX1_takeMan_9 rfl rfl ?_
  refine r_aload_n 11 dX1_takeMan_10 rfl rfl ?_
  refine r_getI 14 dX1_takeMan_11 rfl kf_1_65 rfl (by first | assumption | omega) (by assumption) ?_
  rotate_left -- leaf: call at pc 14
  · rw [if_pos c_5]
    have t1 := tk_tn (lo := 0) (hi := 6) w
    refine r_cv2 25 dX1_takeMan_22 rfl kv_1_87 (by first | assumption | omega) (by assumption) rfl rfl (c_takeNumber lX0 w 0 6) ?_
    rintro r h' ⟨rfl, rfl⟩
    refine r_istore_n 26 dX1_takeMan_25 rfl rfl rfl ?_
    refine r_aload_n 27 dX1_takeMan_26 rfl rfl ?_
    rotate_left -- leaf: call at pc 27
    refine r_cv0 30 dX1_takeMan_27 rfl kv_1_43 (by first | assumption | omega) (by assumption) rfl rfl (c_isGood ltp) ?_
    rintro r h' ⟨rfl, rfl⟩
    refine r_if_eq 44 33 dX1_takeMan_30 (by decide) rfl (fun c_30 => ?_) (fun c_30 => ?_)
    refine r_ret dX1_takeMan_44 rfl ?_
    rotate_left -- leaf: return at pc 44
    refine r_aload_n 34 dX1_takeMan_33 rfl rfl ?_
    refine r_iload_n 35 dX1_takeMan_34 rfl rfl ?_
    refine r_iload_n 36 dX1_takeMan_35 rfl rfl ?_
    rotate_left -- leaf: call at pc 36
    · rw [if_neg (z01_n.mp c_30)]
      exact ⟨rfl, rfl⟩
    · have eg := z01_y.mp c_30
      have b := tn_in eg
      have h4 : tnW 0 6 h 8 6 < 4 := by rw [tn_o (by omega)]; exact c_5
      have t2 := tk_adM (k := k) (v := tnV 0 6 h) t1.2.1 h4 hk (by omega)
      rw [if_pos eg]
      refine r_cv2 39 dX1_takeMan_36 rfl kv_1_91 (by first | assumption | omega) (by assumption) rfl rfl (c_addMan ly8 k (tnV 0 6 h) t1.2.1.2.1 (fun h4 => wT_adM t1.2.1.2.1 h4 hk (by omega))) ?_
      rintro r h' (⟨q, rfl, rfl⟩ | ⟨q, rfl, rfl⟩)
      · omega
      · refine r_pop 40 dX1_takeMan_39 rfl rfl ?_
        refine r_aload_n 41 dX1_takeMan_40 rfl rfl ?_
        rotate_left -- leaf: call at pc 41
        refine r_cv0 44 dX1_takeMan_41 rfl kv_1_95 (by first | assumption | omega) (by assumption) rfl rfl (c_takeStop lX0 t2.2.1) ?_
        rintro r h' ⟨rfl, rfl⟩
        refine r_ret dX1_takeMan_44 rfl ?_
        rotate_left -- leaf: return at pc 44
        exact ⟨rfl, rfl⟩
  · rw [if_neg (by omega)]
    refine r_cv2 17 dX1_takeMan_14 rfl kv_1_57 (by first | assumption | omega) (by assumption) rfl rfl (c_fail ltp 5 (h 31 5)) ?_
    rintro r h' ⟨rfl, rfl⟩
    refine r_ret dX1_takeMan_17 rfl ?_
    rotate_left -- leaf: return at pc 17
    exact ⟨rfl, rfl⟩
end TK
