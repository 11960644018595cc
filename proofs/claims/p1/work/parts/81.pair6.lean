/-! a fresh object: class and reference answer alike (6): the best mark, hour, swap, man -/
section PQ
variable {l : Launch} {G : zG}
theorem scr_fM {h' : zH} (s : scr hZ h') : fM h' := fun a b ha => s.1 a b (by omega) (by omega)
theorem miF_0 {f : Nat → Int} {b0 l0 : Int} (hf : ∀ n, f n = 0) (h0 : 0 < l0) : ∀ n, miF f b0 l0 (n + 1) = (0, 0)
  | 0 => by unfold miF; rw [hf]; unfold miF; rw [if_pos h0]; rfl
  | n + 1 => by rw [miF, miF_0 hf h0 n, hf, if_neg (by decide)]
theorem mrF_s {f code : Nat → Int} {s : Int × Int} (hf : ∀ i, ¬ f i < s.2) : ∀ n, mrF f code s n = s
  | 0 => rfl
  | n + 1 => by rw [mrF, mrF_s hf n, if_neg (hf n)]
theorem hmA_0 {X : zH} {p : Nat} (h : X p 7 = 0) : hmA X p = 0 := by unfold hmA; rw [h]; rfl
theorem hmM_0 {pg : Nat → Int} (h : pg 32 = 0) : hmM pg = 0 := by unfold hmM; rw [h]; rfl
theorem tr7 : cpT hZ 1 8 8 7 = 0 := (cpT_f (by omega)).trans hZ_dds
theorem m32 {h : zH} (f : fM h) : h 46 32 = 0 := fM_0 f (by omega) (by omega)
theorem p_mark (lx : LX G) (lm : LM G) (x : Int) : Pq l G mX3_mark mX4_mark [vI x] (vI (if x = 0 ∨ x = 1 then 0 else -1)) := by
  have e : ∀ n, mkV hZ n = 0 := fun n => by unfold mkV; exact hmA_0 (by rw [reb_n (by omega), up_j (by omega)]; exact tr7)
  refine ⟨⟨5, by omega, (c_mark lx wX_hZ x).mono (fun r h' z => ?_)⟩, fun h f => ⟨5, by omega, (m_mark lm (fM_wM f) x).mono (fun r h' z => ?_)⟩⟩
  · obtain ⟨rfl, z⟩ := z
    refine ⟨?_, scr_fM z⟩
    unfold qMark
    rw [miF_0 e (by decide) 6]
    by_cases h0 : x = 0 ∨ x = 1
    · rw [if_neg (fun z => z h0), if_pos h0]; split <;> rfl
    · rw [if_pos h0, if_neg h0]
  · obtain ⟨rfl, -⟩ := z
    have e2 : ∀ n, mkM h n = 0 := fun n => hmM_0 (by unfold up1; rw [if_neg (by decide)]; exact m32 f)
    unfold nMark
    rw [miF_0 e2 (by decide) 6]
    by_cases h0 : x = 0 ∨ x = 1
    · rw [if_neg (by omega), if_pos h0]; split <;> rfl
    · rw [if_pos (by omega), if_neg h0]
theorem p_sole (lx : LX G) (lm : LM G) (x : Int) : Pq l G mX3_sole mX4_sole [vI x] (vI (if x = 0 ∨ x = 1 then -4 else -1)) := by
  refine ⟨⟨5, by omega, (c_sole lx wX_hZ x).mono (fun r h' z => ?_)⟩, fun h f => ⟨5, by omega, (m_sole lm (fM_wM f) x).mono (fun r h' z => ?_)⟩⟩
  · obtain ⟨rfl, z⟩ := z
    refine ⟨?_, scr_fM z⟩
    unfold qSole
    rw [hZ_man, show miF (soV hZ) (-4) 2147483647 (Int.toNat 0) = (-4, 2147483647) from rfl]
    by_cases h0 : x = 0 ∨ x = 1
    · rw [if_neg (fun z => z h0), if_pos h0]; unfold soA; rw [if_pos (Or.inr rfl)]
    · rw [if_pos h0, if_neg h0]
  · obtain ⟨rfl, -⟩ := z
    unfold nSole
    rw [fM_0 (k := 45) (j := 1) f (by omega) (by omega), show miF (soM h) (-4) 1000000 (Int.toNat 0) = (-4, 1000000) from rfl]
    by_cases h0 : x = 0 ∨ x = 1
    · rw [if_neg (by omega), if_pos h0]; unfold soB; rw [if_pos (Or.inl rfl)]
    · rw [if_pos (by omega), if_neg h0]
theorem gvF_0 : ∀ j, gvF hZ j = (-4, 0)
  | 0 => by unfold gvF; rw [hmA_0 hZ_dds]
  | j + 1 => by unfold gvF; rw [hZ_man]; exact gvF_0 j
theorem gwM_0 {h : zH} (f : fM h) : ∀ j, gwM h j = (-4, 0)
  | 0 => by unfold gwM; rw [hmM_0 (m32 f)]
  | j + 1 => by unfold gwM; rw [fM_0 (k := 45) (j := 1) f (by omega) (by omega)]; exact gwM_0 f j
theorem p_give (lx : LX G) (lm : LM G) (x : Int) : Pq l G mX3_give mX4_give [vI x] (vI (if x = 0 ∨ x = 1 then -4 else -1)) := by
  refine ⟨⟨5, by omega, (c_give lx wX_hZ x).mono (fun r h' z => ?_)⟩, fun h f => ⟨5, by omega, (m_give lm (fM_wM f) x).mono (fun r h' z => ?_)⟩⟩
  · obtain ⟨rfl, z⟩ := z
    refine ⟨?_, scr_fM z⟩
    unfold qGive
    rw [gvF_0 12]
    by_cases h0 : x = 0 ∨ x = 1
    · rw [if_neg (fun z => z h0), if_pos h0]; unfold soA; rw [if_pos (Or.inr rfl)]
    · rw [if_pos h0, if_neg h0]
  · obtain ⟨rfl, -⟩ := z
    unfold nGive
    rw [gwM_0 f 12]
    by_cases h0 : x = 0 ∨ x = 1
    · rw [if_neg (by omega), if_pos h0]; unfold soB; rw [if_pos (Or.inl rfl)]
    · rw [if_pos (by omega), if_neg h0]
theorem swV_0 (a b : Nat) : swV hZ a b = 0 := by
  unfold swV xch
  exact hmA_0 (by rw [reb_n (by omega), up_k (by omega), up_k (by omega)]; exact tr7)
theorem swF_0 : ∀ j, swF hZ j = (-4, 0)
  | 0 => by unfold swF; rw [hmA_0 hZ_dds]
  | j + 1 => by unfold swF; rw [swF_0 j]; exact mrF_s (fun i => by rw [swV_0]; decide) _
theorem sxM_0 {h : zH} (f : fM h) : ∀ j, j ≤ 12 → sxM h j = (-4, 0)
  | 0, _ => by unfold sxM; rw [hmM_0 (m32 f)]
  | j + 1, hj => by
    have e : ∀ i, i < 11 - j → swM h j (j + 1 + i) = 0 := fun i hi => by
      unfold swM xcM
      exact hmM_0 (by unfold up1; rw [if_neg (by omega), if_neg (by omega)]; exact m32 f)
    have k : ∀ n, n ≤ 11 - j → mrF (fun k => swM h j (j + 1 + k)) (fun k => 100 * (j : Int) + ((j + 1 + k : Nat) : Int)) (-4, 0) n = (-4, 0) := by
      intro n
      induction n with
      | zero => intro _; rfl
      | succ n ih => intro hn; rw [mrF, ih (by omega), if_neg (by rw [e n (by omega)]; decide)]
    unfold sxM
    rw [sxM_0 f j (by omega)]
    exact k _ (Nat.le_refl _)
theorem p_swap (lx : LX G) (lm : LM G) (x : Int) : Pq l G mX3_swap mX4_swap [vI x] (vI (if x = 0 ∨ x = 1 then -4 else -1)) := by
  refine ⟨⟨6, by omega, (c_swap lx wX_hZ x).mono (fun r h' z => ?_)⟩, fun h f => ⟨5, by omega, (m_swap lm (fM_wM f) x).mono (fun r h' z => ?_)⟩⟩
  · obtain ⟨rfl, z⟩ := z
    refine ⟨?_, scr_fM z⟩
    unfold qSwap
    rw [swF_0 12]
    by_cases h0 : x = 0 ∨ x = 1
    · rw [if_neg (fun z => z h0), if_pos h0]; unfold soA; rw [if_pos (Or.inr rfl)]
    · rw [if_pos h0, if_neg h0]
  · obtain ⟨rfl, -⟩ := z
    unfold nSwap
    rw [sxM_0 f 12 (by omega)]
    by_cases h0 : x = 0 ∨ x = 1
    · rw [if_neg (by omega), if_pos h0]; unfold soB; rw [if_pos (Or.inl rfl)]
    · rw [if_pos (by omega), if_neg h0]
end PQ
