/-! a fresh object: class and reference answer alike (2) -/
section PQ
variable {l : Launch} {G : zG}
theorem stZ {h : zH} {j : Nat} (f : fM h) : stM (h 46) j = -1 := by
  unfold stM; rw [fM_0 f (by omega) (by omega)]; rfl
theorem p_rota (lx : LX G) (lm : LM G) (x : Int) : Pq l G mX3_rota mX4_rota [vI x] (vI (if 0 ≤ x ∧ x < 12 then -4 else -1)) := by
  refine ⟨⟨1, by omega, (c_rota lx x).mono (fun r h' q => ?_)⟩, fun h f => ⟨2, by omega, (m_rota lm (fM_wM f) x).mono (fun r h' q => ?_)⟩⟩
  · obtain ⟨rfl, rfl⟩ := q
    refine ⟨?_, fM_Z⟩
    unfold qRota
    by_cases hc : 0 ≤ x ∧ x < 12
    · rw [if_pos hc, if_pos hc, hZ_sta (by omega)]
    · rw [if_neg hc, if_neg hc]
  · obtain ⟨rfl, -⟩ := q
    unfold nRota
    rw [stZ f]
    rfl
theorem p_shift (lx : LX G) (lm : LM G) (x m : Int) : Pq l G mX3_shift mX4_shift [vI x, vI m] (vI (if (0 ≤ x ∧ x < 12) ∧ m = -4 then -4 else -1)) := by
  refine ⟨⟨3, by omega, (c_shift lx wX_hZ x m).mono (fun r h' q => ?_)⟩, fun h f => ⟨3, by omega, (m_shift lm (fM_wM f) x m).mono (fun r h' q => ?_)⟩⟩
  · obtain ⟨rfl, rfl⟩ := q
    unfold sShift mayB
    rw [hZ_man]
    by_cases hc : (0 ≤ x ∧ x < 12) ∧ m = -4
    · rw [if_pos (decide_eq_true (by omega)), if_pos hc]
      exact ⟨by rw [hZ_sta (by omega)], fun a b ha => (reb_n (by omega)).trans (up_k (by omega))⟩
    · rw [if_neg (by rw [decide_eq_true_eq]; omega), if_neg hc]
      exact ⟨rfl, fM_Z⟩
  · obtain ⟨rfl, -⟩ := q
    unfold tShift
    rw [fM_0 (k := 45) (j := 1) f (by omega) (by omega), stZ f]
    by_cases hc : (0 ≤ x ∧ x < 12) ∧ m = -4
    · rw [if_pos (by omega), if_pos hc]; rfl
    · rw [if_neg (by omega), if_neg hc]
theorem bit0 (j : Nat) : bitI 0 j = 0 := by simp [bitI]
theorem p_cloud (lx : LX G) (lm : LM G) (x b : Int) : Pq l G mX3_cloud mX4_cloud [vI x, vI b] (vI (if 0 ≤ x ∧ x < 12 then 0 else -1)) := by
  refine ⟨⟨1, by omega, (c_cloud lx wX_hZ x b).mono (fun r h' q => ?_)⟩, fun h f => ⟨2, by omega, (m_cloud lm (fM_wM f) x b).mono (fun r h' q => ?_)⟩⟩
  · obtain ⟨rfl, rfl⟩ := q
    unfold sCloud
    rw [hZ_cld]
    by_cases hc : 0 ≤ x ∧ x < 12
    · rw [if_pos hc, if_pos hc, bit0]
      exact ⟨rfl, fun a b ha => up_k (by omega)⟩
    · rw [if_neg hc, if_neg hc]
      exact ⟨rfl, fM_Z⟩
  · obtain ⟨rfl, -⟩ := q
    unfold tCloud
    rw [fM_0 (k := 46) (j := 20) f (by omega) (by omega)]
    by_cases hc : 0 ≤ x ∧ x < 12
    · rw [if_pos hc, if_pos hc, bit0]
    · rw [if_neg hc, if_neg hc]
theorem p_paint (lx : LX G) (lm : LM G) (v : Int) : Pq l G mX3_paint mX4_paint [vI v] (vI (if 0 ≤ v ∧ v ≤ 6 then 3 else -1)) := by
  refine ⟨⟨3, by omega, (c_paint lx wX_hZ v).mono (fun r h' q => ?_)⟩, fun h f => ⟨1, by omega, (m_paint lm (fM_wM f) v).mono (fun r h' q => ?_)⟩⟩
  · obtain ⟨rfl, rfl⟩ := q
    unfold sPaint
    rw [hZ_pnt]
    by_cases hc : 0 ≤ v ∧ v ≤ 6
    · rw [if_neg (by omega), if_pos hc]
      exact ⟨rfl, fun a b ha => (reb_n (by omega)).trans (up_k (by omega))⟩
    · rw [if_pos (by omega), if_neg hc]
      exact ⟨rfl, fM_Z⟩
  · obtain ⟨rfl, -⟩ := q
    unfold tPaint
    rw [fM_0 (k := 46) (j := 21) f (by omega) (by omega)]
    by_cases hc : 0 ≤ v ∧ v ≤ 6
    · rw [if_pos hc, if_pos hc]; rfl
    · rw [if_neg hc, if_neg hc]
theorem p_want (lx : LX G) (lm : LM G) (a b : Int) : Pq l G mX3_want mX4_want [vI a, vI b] (vI (if (0 ≤ a ∧ a < 48) ∧ (1 ≤ b ∧ b ≤ 9) then 1 else -1)) := by
  refine ⟨⟨1, by omega, (c_want lx wX_hZ a b).mono (fun r h' q => ?_)⟩, fun h f => ⟨1, by omega, (m_want lm (fM_wM f) a b).mono (fun r h' q => ?_)⟩⟩
  · obtain ⟨rfl, rfl⟩ := q
    unfold sWant
    rw [hZ_dds]
    by_cases hc : (0 ≤ a ∧ a < 48) ∧ (1 ≤ b ∧ b ≤ 9)
    · rw [if_neg (fun z => z hc), if_pos hc, if_neg (by omega)]
      exact ⟨rfl, fun a b ha => (up_k (by omega)).trans ((up_k (by omega)).trans (up_k (by omega)))⟩
    · rw [if_pos hc, if_neg hc]
      exact ⟨rfl, fM_Z⟩
  · obtain ⟨rfl, -⟩ := q
    unfold tWant
    rw [fM_0 (k := 46) (j := 32) f (by omega) (by omega)]
    by_cases hc : (0 ≤ a ∧ a < 48) ∧ (1 ≤ b ∧ b ≤ 9)
    · rw [if_neg (by omega), if_pos hc, if_neg (by omega)]; rfl
    · rw [if_pos (by omega), if_neg hc]
theorem p_drop (lx : LX G) (lm : LM G) (n : Int) : Pq l G mX3_drop mX4_drop [vI n] (vI (if n = 0 then 0 else -1)) := by
  refine ⟨⟨0, by omega, (c_drop lx n).mono (fun r h' q => ?_)⟩, fun h f => ⟨1, by omega, (m_drop lm (fM_wM f) n).mono (fun r h' q => ?_)⟩⟩
  · obtain ⟨rfl, rfl⟩ := q
    unfold sDrop
    rw [hZ_dds]
    by_cases hc : n = 0
    · rw [if_neg (by omega), if_pos hc]; exact ⟨rfl, fun a b ha => up_k (by omega)⟩
    · rw [if_pos (by omega), if_neg hc]; exact ⟨rfl, fM_Z⟩
  · obtain ⟨rfl, -⟩ := q
    unfold tDrop
    rw [fM_0 (k := 46) (j := 32) f (by omega) (by omega)]
    by_cases hc : n = 0
    · rw [if_pos (by omega), if_pos hc]
    · rw [if_neg (by omega), if_neg hc]
theorem p_forget (lx : LX G) (lm : LM G) (n : Int) : Pq l G mX3_forget mX4_forget [vI n] (vI (if n = 0 then 0 else -1)) := by
  have e : hZ 0 9 = 0 := hZ_0 (by omega) (by omega)
  refine ⟨⟨0, by omega, (c_forget lx n).mono (fun r h' q => ?_)⟩, fun h f => ⟨1, by omega, (m_forget lm n).mono (fun r h' q => ?_)⟩⟩
  · obtain ⟨rfl, rfl⟩ := q
    unfold sForget
    rw [e]
    by_cases hc : n = 0
    · rw [if_neg (by omega), if_pos hc]; exact ⟨rfl, fun a b ha => up_k (by omega)⟩
    · rw [if_pos (by omega), if_neg hc]; exact ⟨rfl, fM_Z⟩
  · obtain ⟨rfl, -⟩ := q
    unfold tForget
    rw [fM_0 (k := 45) (j := 21) f (by omega) (by omega)]
    by_cases hc : n = 0
    · rw [if_pos (by omega), if_pos hc]
    · rw [if_neg (by omega), if_neg hc]
end PQ
