/-! a fresh object: class and reference answer alike (3) -/
section PQ
variable {l : Launch} {G : zG}
theorem imP_in (k : Int) : imP k = 16 ∨ imP k = 23 := by unfold imP; split <;> omega
theorem p_keep (lx : LX G) (lm : LM G) (k : Int) : Pq l G mX3_keep mX4_keep [vI k] (vI (if 0 ≤ k ∧ k ≤ 1 then 0 else -1)) := by
  refine ⟨⟨2, by omega, (c_keep lx wX_hZ k).mono (fun r h' q => ?_)⟩, fun h f => ⟨1, by omega, (m_keep lm (fun j => Or.inl (fM_0 f (by omega) (by omega))) k).mono (fun r h' q => ?_)⟩⟩
  · obtain ⟨rfl, rfl⟩ := q
    unfold sKeep
    have := imP_in k
    by_cases hc : 0 ≤ k ∧ k ≤ 1
    · rw [if_neg (by omega), if_pos hc, hZ_0 (by omega) (by omega)]
      exact ⟨rfl, fun a b ha => (up_k (by omega)).trans (cpT_o (by omega))⟩
    · rw [if_pos (by omega), if_neg hc]
      exact ⟨rfl, fM_Z⟩
  · obtain ⟨rfl, -⟩ := q
    unfold tKeep
    rw [fM_0 (k := 54) f (by omega) (by omega)]
    by_cases hc : 0 ≤ k ∧ k ≤ 1
    · rw [if_pos hc, if_pos hc]
    · rw [if_neg hc, if_neg hc]
theorem p_back (lx : LX G) (lm : LM G) (k : Int) : Pq l G mX3_back mX4_back [vI k] (vI (if 0 ≤ k ∧ k ≤ 1 then -2 else -1)) := by
  refine ⟨⟨5, by omega, (c_back lx wX_hZ k).mono (fun r h' q => ?_)⟩, fun h f => ⟨5, by omega, (m_back lm k (fun j _ z => absurd (fM_0 f (by omega) (by omega)) z)).mono (fun r h' q => ?_)⟩⟩
  · obtain ⟨rfl, rfl⟩ := q
    unfold sBack
    by_cases hc : 0 ≤ k ∧ k ≤ 1
    · rw [if_neg (by omega), if_pos hc, if_pos (hZ_0 (by omega) (by omega))]
      exact ⟨rfl, fM_Z⟩
    · rw [if_pos (by omega), if_neg hc]
      exact ⟨rfl, fM_Z⟩
  · obtain ⟨rfl, -⟩ := q
    unfold tBack
    by_cases hc : 0 ≤ k ∧ k ≤ 1
    · rw [if_neg (by omega), if_pos hc, if_pos (fM_0 (k := 54) f (by omega) (by omega))]
    · rw [if_pos hc, if_neg hc]
theorem p_sheet (lx : LX G) (lm : LM G) (k a n : Int) : Pq l G mX3_sheet mX4_sheet [vI k, vI a, vI n] (vI (if ¬ (0 ≤ k ∧ k < 4) ∨ ¬ (0 ≤ a ∧ a < 3) ∨ 40 < n then -1 else if n < 0 then -14 else 1)) := by
  refine ⟨⟨1, by omega, (c_sheet lx k a n).mono (fun r h' q => ?_)⟩, fun h f => ⟨1, by omega, (m_sheet lm k a n).mono (fun r h' q => ?_)⟩⟩
  · obtain ⟨rfl, rfl⟩ := q
    unfold sSheet
    by_cases hc : ¬ (0 ≤ k ∧ k < 4) ∨ ¬ (0 ≤ a ∧ a < 3) ∨ 40 < n
    · rw [if_pos hc, if_pos hc]; exact ⟨rfl, fM_Z⟩
    · rw [if_neg hc, if_neg hc]
      by_cases hn : n < 0
      · rw [if_pos hn, if_pos hn]; exact ⟨rfl, fM_Z⟩
      · rw [if_neg hn, if_neg hn]
        have hs : shP k ≤ 40 := by unfold shP; omega
        exact ⟨rfl, fun a' b' ha => by dsimp only; rw [setB_n (by omega), up_k (by omega), up_k (by omega)]⟩
  · obtain ⟨rfl, -⟩ := q
    unfold tSheet
    by_cases hc : ¬ (0 ≤ k ∧ k < 4) ∨ ¬ (0 ≤ a ∧ a < 3) ∨ 40 < n
    · rw [if_pos (by omega), if_pos hc]
    · rw [if_neg (by omega), if_neg hc]
      by_cases hn : n < 0
      · rw [if_pos hn, if_pos hn]
      · rw [if_neg hn, if_neg hn]
theorem hZ_ln {k : Int} (h : 0 ≤ k ∧ k < 4) : hZ (shP k) 1 = -1 := by
  unfold shP
  rw [hZ_o (by omega), if_pos (by omega)]
theorem fM_wL {h : zH} (f : fM h) : wL h := fun j hj => ⟨Or.inl (by rw [f 55 j (by omega)]; exact hZ_55 hj), by rw [fM_0 f (by omega) (by omega)]; omega⟩
theorem p_lay (lx : LX G) (lm : LM G) (k i v : Int) : Pq l G mX3_lay mX4_lay [vI k, vI i, vI v] (vI (if 0 ≤ k ∧ k < 4 then -11 else -1)) := by
  refine ⟨⟨1, by omega, (c_lay lx wX_hZ k i v).mono (fun r h' q => ?_)⟩, fun h f => ⟨1, by omega, (m_lay lm (fM_wL f) k i v).mono (fun r h' q => ?_)⟩⟩
  · obtain ⟨rfl, rfl⟩ := q
    unfold sLay
    by_cases hc : 0 ≤ k ∧ k < 4
    · rw [if_neg (fun z => z hc), if_pos hc, hZ_ln hc, show rfuF (-1) (hZ (shP k) 2) (-1) i = 1 from if_pos rfl, if_pos (by decide)]
      exact ⟨rfl, fM_Z⟩
    · rw [if_pos hc, if_neg hc]
      exact ⟨rfl, fM_Z⟩
  · obtain ⟨rfl, -⟩ := q
    unfold tLay
    by_cases hc : 0 ≤ k ∧ k < 4
    · rw [if_neg (by omega), if_pos hc, if_pos (by rw [f 55 _ (by omega)]; exact hZ_55 (by omega))]
    · rw [if_pos (by omega), if_neg hc]
end PQ
