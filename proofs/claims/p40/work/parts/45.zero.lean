/-! an empty Town (what p1 wants of a fresh object lies in wip/p1only) -/
section SX
variable {l : Launch} {G : zG} {h : zH}
theorem wT_clr {p : Nat} (w : wT h p) : wT (setB (up (up (up (up h p 6 0) p 7 0) p 8 0) p 9 3) (p + 3) 12 (fun _ => -4)) p :=
  wT_st (wT_up0 (wT_up0 (wT_up0 (wT_up0 w (by omega) (by omega) (by omega) (by omega)) (by omega) (by omega) (by omega) (by omega)) (by omega) (by omega) (by omega) (by omega)) (by omega) (by omega) (by omega) (by omega)) (fun _ => Or.inl rfl)
theorem clT0_o {p a b : Nat} (q : ¬ (p ≤ a ∧ a ≤ p + 6)) : clT0 p h a b = h a b := by
  unfold clT0
  rw [reb_in q, setB_n (by omega), up_k (by omega), up_k (by omega), up_k (by omega), up_k (by omega)]
theorem clT0_s {p j : Nat} (hj : j < 12) : clT0 p h (p + 3) j = -4 := by
  unfold clT0
  rw [reb_n (by omega), setB_i hj]
end SX
