/-! a fresh object: class and reference answer alike (4): nothing is read -/
section PQ
variable {l : Launch} {G : zG}
theorem rdsZ {j : Nat} (h : j < 12) : rdsB hZ 1 j = false := by
  unfold rdsB
  rw [show hZ (1 + 3) j = -4 from hZ_sta h]
  rfl
theorem rdgZ {q : Nat} (h : q < 48) : rdgF hZ 1 q = -4 := by
  unfold rdgF
  rw [rdsZ (by omega)]
  rfl
theorem rdMZ {h : zH} {q : Nat} (f : fM h) : rdM (h 46) q = -4 := by
  unfold rdM
  rw [if_pos (Or.inl (by rw [stZ f]; decide))]
theorem p_shows (lx : LX G) (lm : LM G) (q : Int) : Pq l G mX3_shows mX4_shows [vI q] (vI (if 0 ≤ q ∧ q < 48 then -4 else -1)) := by
  refine ⟨⟨3, by omega, (c_shows lx wX_hZ q).mono (fun r h' z => ?_)⟩, fun h f => ⟨4, by omega, (m_shows lm (fM_wM f) q).mono (fun r h' z => ?_)⟩⟩
  · obtain ⟨rfl, rfl⟩ := z
    refine ⟨?_, fM_Z⟩
    unfold qShows
    by_cases hc : 0 ≤ q ∧ q < 48
    · rw [if_pos hc, if_pos hc, rdgZ (by omega)]
    · rw [if_neg hc, if_neg hc]
  · obtain ⟨rfl, -⟩ := z
    unfold nShows
    rw [rdMZ f]
    by_cases hc : 0 ≤ q ∧ q < 48
    · rw [if_pos (by omega), if_pos hc]
    · rw [if_neg (by omega), if_neg hc]
theorem loF_0 {rd : Nat → Int} : ∀ n, (∀ i, i < n → rd i = -4) → loF rd n = (0, -4, -4)
  | 0, _ => rfl
  | n + 1, h => by unfold loF; rw [if_pos (h n (by omega))]; exact loF_0 n (fun i hi => h i (by omega))
theorem loM_0 {rd : Nat → Int} : ∀ n, (∀ i, i < n → rd i = -4) → loM rd n = (0, -4, -4)
  | 0, _ => rfl
  | n + 1, h => by unfold loM; rw [if_neg (fun z => z.1 (h n (by omega))), if_pos (h n (by omega)), loM_0 n (fun i hi => h i (by omega))]
theorem woF_0 {rd : Nat → Int} : ∀ n, (∀ i, i < n → rd i = -4) → woF rd n = (-4, -4)
  | 0, _ => rfl
  | n + 1, h => by unfold woF; rw [if_neg (fun z => z.1 (h n (by omega)))]; exact woF_0 n (fun i hi => h i (by omega))
theorem woM_0 {rd : Nat → Int} : ∀ n, (∀ i, i < n → rd i = -4) → woM rd n = (-4, -4)
  | 0, _ => rfl
  | n + 1, h => by
    have e : ofM rd n = -4 := by unfold ofM; rw [if_pos (h n (by omega))]
    unfold woM; rw [woM_0 n (fun i hi => h i (by omega)), e]; rfl
theorem p_lost (lx : LX G) (lm : LM G) (x : Int) : Pq l G mX3_lost mX4_lost [vI x] (vI (if x = 0 then 0 else if x = 1 then -4 else -1)) := by
  refine ⟨⟨3, by omega, (c_lost lx wX_hZ x).mono (fun r h' z => ?_)⟩, fun h f => ⟨4, by omega, (m_lost lm (fM_wM f) x).mono (fun r h' z => ?_)⟩⟩
  · obtain ⟨rfl, rfl⟩ := z
    refine ⟨?_, fM_Z⟩
    unfold qLost
    rw [loF_0 48 (fun i hi => rdgZ hi)]
    by_cases h0 : x = 0
    · rw [if_neg (by omega), if_pos h0, if_pos h0]
    · by_cases h1 : x = 1
      · rw [if_neg (by omega), if_neg h0, if_neg h0, if_pos h1]
      · rw [if_pos (by omega), if_neg h0, if_neg h1]
  · obtain ⟨rfl, -⟩ := z
    unfold nLost
    rw [loM_0 48 (fun i hi => rdMZ f)]
    by_cases h0 : x = 0
    · rw [if_neg (by omega), if_pos h0, if_pos h0]
    · by_cases h1 : x = 1
      · rw [if_neg (by omega), if_neg h0, if_neg h0, if_pos h1]
      · rw [if_pos (by omega), if_neg h0, if_neg h1]
theorem p_worst (lx : LX G) (lm : LM G) (x : Int) : Pq l G mX3_worst mX4_worst [vI x] (vI (if x = 0 then -4 else if x = 1 then -4 else -1)) := by
  refine ⟨⟨3, by omega, (c_worst lx wX_hZ x).mono (fun r h' z => ?_)⟩, fun h f => ⟨4, by omega, (m_worst lm (fM_wM f) x).mono (fun r h' z => ?_)⟩⟩
  · obtain ⟨rfl, rfl⟩ := z
    refine ⟨?_, fM_Z⟩
    unfold qWorst
    rw [woF_0 48 (fun i hi => rdgZ hi)]
    by_cases h0 : x = 0
    · rw [if_neg (by omega), if_pos h0, if_pos h0]
    · by_cases h1 : x = 1
      · rw [if_neg (by omega), if_neg h0, if_neg h0, if_pos h1]
      · rw [if_pos (by omega), if_neg h0, if_neg h1]
  · obtain ⟨rfl, -⟩ := z
    unfold nWorst
    rw [woM_0 48 (fun i hi => rdMZ f)]
    by_cases h0 : x = 0
    · rw [if_neg (by omega), if_pos h0, if_pos h0]
    · by_cases h1 : x = 1
      · rw [if_neg (by omega), if_neg h0, if_neg h0, if_pos h1]
      · rw [if_pos (by omega), if_neg h0, if_neg h1]
theorem p_done (lx : LX G) (lm : LM G) (x : Int) : Pq l G mX3_done mX4_done [vI x] (vI (if x < 0 ∨ 3 < x then -1 else 0)) := by
  refine ⟨⟨5, by omega, (c_done lx wX_hZ x).mono (fun r h' z => ?_)⟩, fun h f => ⟨4, by omega, (m_done lm (fM_wM f) x).mono (fun r h' z => ?_)⟩⟩
  · obtain ⟨rfl, rfl⟩ := z
    refine ⟨?_, fM_Z⟩
    unfold qDone
    rw [hZ_dds]
    rfl
  · obtain ⟨rfl, -⟩ := z
    unfold nDone
    rw [fM_0 (k := 46) (j := 32) f (by omega) (by omega)]
    by_cases hc : x < 0 ∨ 3 < x
    · rw [if_pos (by omega), if_pos hc]
    · rw [if_neg (by omega), if_neg hc]; rfl
end PQ
