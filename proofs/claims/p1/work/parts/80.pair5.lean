/-! a fresh object: class and reference answer alike (5): rule, count, read -/
section PQ
variable {l : Launch} {G : zG}
theorem sumF_0 {F : Nat → Int} : ∀ n, (∀ i, i < n → F i = 0) → sumF F n = 0
  | 0, _ => rfl
  | n + 1, h => by unfold sumF; rw [sumF_0 n (fun i hi => h i (by omega)), h n (by omega)]; rfl
theorem p_rule (lx : LX G) (lm : LM G) (x : Int) : Pq l G mX3_rule mX4_rule [vI x] (vI (if x = 2 then 3 else if 0 ≤ x ∧ x ≤ 5 then 0 else -1)) := by
  refine ⟨⟨5, by omega, (c_rule lx wX_hZ x).mono (fun r h' z => ?_)⟩, fun h f => ⟨5, by omega, (m_rule lm (fM_wM f) x).mono (fun r h' z => ?_)⟩⟩
  · obtain ⟨rfl, rfl⟩ := z
    refine ⟨?_, fM_Z⟩
    unfold qRule
    rw [hZ_man, hZ_dds, hZ_pnt, hZ_cld, orN_0 12 (fun j hj => by rw [show hZ (1 + 3) j = -4 from hZ_sta hj]; rfl), show hmA hZ 1 = 0 by unfold hmA; rw [hZ_dds]; rfl]
    congr 2
    split
    · rw [if_neg (by omega), if_pos (by omega)]
    split
    · rw [if_neg (by omega), if_pos (by omega)]
    split
    · rfl
    split
    · rw [if_pos (by omega)]
    split
    · rw [if_pos (by omega)]; rfl
    split
    · rw [if_pos (by omega)]
    · rw [if_neg (by omega)]
  · obtain ⟨rfl, -⟩ := z
    unfold nRule
    rw [fM_0 (k := 45) (j := 1) f (by omega) (by omega), fM_0 (k := 46) (j := 32) f (by omega) (by omega), fM_0 (k := 46) (j := 21) f (by omega) (by omega), fM_0 (k := 46) (j := 20) f (by omega) (by omega), orN_0 12 (fun j hj => by simp [hoB, stZ f]), show hmM (h 46) = 0 by unfold hmM; rw [fM_0 (k := 46) (j := 32) f (by omega) (by omega)]; rfl]
    congr 2
    split
    · rw [if_neg (by omega), if_pos (by omega)]
    split
    · rw [if_neg (by omega), if_pos (by omega)]
    split
    · rfl
    split
    · rw [if_pos (by omega)]
    split
    · rw [if_pos (by omega)]; rfl
    split
    · rw [if_pos (by omega)]
    · rw [if_neg (by omega)]
theorem p_count (lx : LX G) (lm : LM G) (x : Int) : Pq l G mX3_count mX4_count [vI x] (vI (if x = 3 then -4 else if 0 ≤ x ∧ x ≤ 5 then 0 else -1)) := by
  refine ⟨⟨3, by omega, (c_count lx wX_hZ x).mono (fun r h' z => ?_)⟩, fun h f => ⟨4, by omega, (m_count lm (fM_wM f) (fun j => Or.inl (fM_0 f (by omega) (by omega))) x).mono (fun r h' z => ?_)⟩⟩
  · obtain ⟨rfl, rfl⟩ := z
    refine ⟨?_, fM_Z⟩
    unfold qCount
    rw [hZ_dds, hZ_0 (k := 0) (j := 9) (by omega) (by omega), hZ_0 (k := 30) (j := 0) (by omega) (by omega), hZ_0 (k := 30) (j := 1) (by omega) (by omega), hZ_0 (k := 31) (j := 1) (by omega) (by omega), if_pos (show hZ 34 1 = -1 from hZ_ln (k := 0) (by omega)), sumF_0 12 (fun j hj => by rw [rdsZ hj]; rfl)]
    congr 2
    split
    · rw [if_neg (by omega), if_pos (by omega)]
    split
    · rw [if_neg (by omega), if_pos (by omega)]; rfl
    split
    · rw [if_neg (by omega), if_pos (by omega)]
    split
    · rfl
    split
    · rw [if_pos (by omega)]; rfl
    split
    · rw [if_pos (by omega)]
    · rw [if_neg (by omega)]
  · obtain ⟨rfl, -⟩ := z
    unfold nCount
    rw [fM_0 (k := 45) (j := 21) f (by omega) (by omega), fM_0 (k := 54) (j := 0) f (by omega) (by omega), fM_0 (k := 54) (j := 1) f (by omega) (by omega), fM_0 (k := 45) (j := 8) f (by omega) (by omega), fM_0 (k := 46) (j := 32) f (by omega) (by omega), if_pos (show h 55 0 = -4 by rw [f 55 0 (by omega)]; exact hZ_55 (by omega)), sumF_0 48 (fun q hq => by rw [rdMZ f]; rfl)]
    congr 2
    split
    · rw [if_neg (by omega), if_pos (by omega)]
    split
    · rw [if_neg (by omega), if_pos (by omega)]; rfl
    split
    · rw [if_neg (by omega), if_pos (by omega)]
    split
    · rfl
    split
    · rw [if_pos (by omega)]; rfl
    split
    · rw [if_pos (by omega)]
    · rw [if_neg (by omega)]
theorem p_read (lx : LX G) (lm : LM G) (k a i n : Int) : Pq l G mX3_read mX4_read [vI k, vI a, vI i, vI n] (vI (if (0 ≤ k ∧ k ≤ 3) ∧ (0 ≤ a ∧ a ≤ 2) ∧ 0 ≤ n ∧ n ≤ 20 then 0 else -1)) := by
  refine ⟨⟨3, by omega, (c_read lx wX_hZ k a i n).mono (fun r h' z => ?_)⟩, fun h f => ⟨3, by omega, (m_read0 lm (fun j hj => by rw [f 55 j (by omega)]; exact hZ_55 hj) k a i n).mono (fun r h' z => z)⟩⟩
  obtain ⟨rfl, rfl⟩ := z
  unfold sRead
  by_cases hc : (0 ≤ k ∧ k < 4) ∧ (0 ≤ a ∧ a < 3) ∧ (0 ≤ n ∧ n ≤ 20)
  · have hp : ∀ t, prF hZ (shP k) a i t = 1 := fun t => by
      have e : ∀ u, rfuF (hZ (shP k) 1) (hZ (shP k) 2) a u = 1 := fun u => by rw [hZ_ln hc.1]; exact if_pos rfl
      unfold prF
      rw [e, if_pos (by decide)]
    have e : (rdR (prF hZ (shP k) a i) (okB hZ (shP k) i) n.toNat 0).1 = 0 ∧ (rdR (prF hZ (shP k) a i) (okB hZ (shP k) i) n.toNat 0).2.2 = 0 := by
      cases n.toNat with
      | zero => exact ⟨rfl, rfl⟩
      | succ m => unfold rdR; rw [if_pos (by rw [hp]; decide)]; exact ⟨rfl, rfl⟩
    rw [if_neg (fun z => z hc), if_neg (show ¬ (rdR (prF hZ (shP k) a i) (okB hZ (shP k) i) n.toNat 0).1 = 1 by rw [e.1]; decide), e.2, if_pos (by omega)]
    exact ⟨rfl, fun a' b' ha => up_k (by omega)⟩
  · rw [if_pos hc, if_neg (by omega)]
    exact ⟨rfl, fM_Z⟩
end PQ
