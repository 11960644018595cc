/-! a fresh object: class and reference answer alike -/
def fM (h : zH) : Prop := ∀ a b, 45 ≤ a → h a b = hZ a b
/-- the answer v of the class, and of the reference behind it -/
def Pq (l : Launch) (G : zG) (M M' : zM) (as : List zV) (v : zV) : Prop := (∃ d, d ≤ 7 ∧ Ca l G d M (vR 0 :: as) hZ (fun r h' => r = some v ∧ fM h')) ∧ ∀ h, fM h → ∃ d, d ≤ 7 ∧ Ca l G d M' (vR 45 :: as) h (fun r _ => r = some v)
theorem fM_Z : fM hZ := fun _ _ _ => rfl
theorem fM_46 {h : zH} (f : fM h) : h 46 = hZ 46 := funext fun b => f 46 b (by omega)
theorem fM_wM {h : zH} (f : fM h) : wM h := by
  obtain ⟨w1, w2, w3, w4⟩ := wM_hZ
  exact ⟨by rw [fM_46 f]; exact w1, by rw [f 45 1 (by omega)]; exact w2, by rw [f 45 8 (by omega)]; exact w3, by rw [f 45 21 (by omega)]; exact w4⟩
theorem fM_0 {h : zH} {k j : Nat} (f : fM h) (hk : 45 ≤ k) (h2 : k ≠ 49 ∧ k ≠ 50 ∧ k ≠ 55) : h k j = 0 := by
  rw [f k j hk, hZ_0 (by omega) (by omega)]
theorem hZ_man : hZ 1 6 = 0 := (hZ_1 0 6 (by omega)).trans (by rw [hT0_o]; rfl)
theorem hZ_dds : hZ 1 7 = 0 := (hZ_1 0 7 (by omega)).trans (by rw [hT0_o]; rfl)
theorem hZ_cld : hZ 1 8 = 0 := (hZ_1 0 8 (by omega)).trans (by rw [hT0_o]; rfl)
theorem hZ_pnt : hZ 1 9 = 3 := (hZ_1 0 9 (by omega)).trans (by rw [hT0_o]; rfl)
theorem hZ_sta {j : Nat} (h : j < 12) : hZ 4 j = -4 := (hZ_1 3 j (by omega)).trans (hT0_3 h)
section PQ
variable {l : Launch} {G : zG}
theorem p_fault (lx : LX G) (lm : LM G) : Pq l G mX3_fault mX4_fault [] (vI 0) :=
  ⟨⟨0, by omega, (c_fault lx).mono (fun r h' q => by obtain ⟨rfl, rfl⟩ := q; exact ⟨by rw [hZ_0 (by omega) (by omega)], fM_Z⟩)⟩, fun h f => ⟨0, by omega, (m_fault lm).mono (fun r h' q => by obtain ⟨rfl, -⟩ := q; rw [fM_0 f (by omega) (by omega)])⟩⟩
theorem p_torn (lx : LX G) (lm : LM G) : Pq l G mX3_torn mX4_torn [] (vI 0) :=
  ⟨⟨0, by omega, (c_torn lx).mono (fun r h' q => by obtain ⟨rfl, rfl⟩ := q; exact ⟨by rw [hZ_0 (by omega) (by omega)], fM_Z⟩)⟩, fun h f => ⟨0, by omega, (m_torn lm).mono (fun r h' q => by obtain ⟨rfl, -⟩ := q; rw [fM_0 f (by omega) (by omega)])⟩⟩
theorem p_lean (lx : LX G) (lm : LM G) (m i q : Int) : Pq l G mX3_lean mX4_lean [vI m, vI i, vI q] (vI (-1)) :=
  ⟨⟨1, by omega, (c_lean0 lx hZ_man m i q).mono (fun r h' q => by obtain ⟨rfl, rfl⟩ := q; exact ⟨rfl, fM_Z⟩)⟩, fun h f => ⟨2, by omega, (m_lean0 lm (fM_wM f) (fM_0 f (by omega) (by omega)) m i q).mono (fun r h' q => q.1)⟩⟩
theorem p_leans (lx : LX G) (lm : LM G) (m : Int) : Pq l G mX3_leans mX4_leans [vI m] (vI (-1)) :=
  ⟨⟨1, by omega, (c_leans0 lx hZ_man m).mono (fun r h' q => by obtain ⟨rfl, rfl⟩ := q; exact ⟨rfl, fM_Z⟩)⟩, fun h f => ⟨2, by omega, (m_leans0 lm (fM_wM f) (fM_0 f (by omega) (by omega)) m).mono (fun r h' q => q.1)⟩⟩
theorem p_kinds (lx : LX G) (lm : LM G) (m : Int) : Pq l G mX3_kinds mX4_kinds [vI m] (vI (-1)) :=
  ⟨⟨1, by omega, (c_kinds0 lx hZ_man m).mono (fun r h' q => by obtain ⟨rfl, rfl⟩ := q; exact ⟨rfl, fM_Z⟩)⟩, fun h f => ⟨2, by omega, (m_kinds0 lm (fM_wM f) (fM_0 f (by omega) (by omega)) m).mono (fun r h' q => q.1)⟩⟩
theorem p_ask (lx : LX G) (lm : LM G) (m x : Int) : Pq l G mX3_ask mX4_ask [vI m, vI x] (vI (-1)) :=
  ⟨⟨1, by omega, (c_ask0 lx hZ_man m x).mono (fun r h' q => by obtain ⟨rfl, rfl⟩ := q; exact ⟨rfl, fM_Z⟩)⟩, fun h f => ⟨2, by omega, (m_ask0 lm (fM_wM f) (fM_0 f (by omega) (by omega)) m x).mono (fun r h' q => q.1)⟩⟩
theorem p_luck (lx : LX G) (lm : LM G) (v i x : Int) : Pq l G mX3_luck mX4_luck [vI v, vI i, vI x] (vL (-1)) :=
  ⟨⟨1, by omega, (c_luck0 lx hZ_dds v i x).mono (fun r h' q => by obtain ⟨rfl, rfl⟩ := q; exact ⟨rfl, fM_Z⟩)⟩, fun h f => ⟨2, by omega, (m_luck0 lm (fM_wM f) (fM_0 f (by omega) (by omega)) v i x).mono (fun r h' q => q.1)⟩⟩
theorem p_drift (lx : LX G) (lm : LM G) (s n x : Int) : Pq l G mX3_drift mX4_drift [vI s, vI n, vI x] (vI (if n < 1 ∨ 40 < n ∨ ¬ (x = 0 ∨ x = 1) then -1 else -2)) :=
  ⟨⟨1, by omega, (c_drift0 lx hZ_man s n x).mono (fun r h' q => by obtain ⟨rfl, rfl⟩ := q; exact ⟨rfl, fM_Z⟩)⟩, fun h f => ⟨2, by omega, (m_drift0 lm (fM_0 f (by omega) (by omega)) s n x).mono (fun r h' q => q.1)⟩⟩
theorem p_mean (lx : LX G) (lm : LM G) (v x : Int) : Pq l G mX3_mean mX4_mean [vI v, vI x] (vL (if v < 0 ∨ 10 < v ∨ ¬ (x = 0 ∨ x = 1) then -1 else if x = 0 then 0 else 1)) :=
  ⟨⟨1, by omega, (c_mean0 lx hZ_dds v x).mono (fun r h' q => by obtain ⟨rfl, rfl⟩ := q; exact ⟨rfl, fM_Z⟩)⟩, fun h f => ⟨6, by omega, (m_mean0 lm (fM_wM f) (fM_0 f (by omega) (by omega)) (fM_0 f (by omega) (by omega)) (fun j _ => fM_0 f (by omega) (by omega)) v x).mono (fun r h' q => q)⟩⟩
theorem p_man (lx : LX G) (lm : LM G) (m x : Int) : Pq l G mX3_man mX4_man [vI m, vI x] (vI (-1)) :=
  ⟨⟨2, by omega, (c_man lx wX_hZ m x).mono (fun r h' q => by obtain ⟨rfl, rfl⟩ := q; exact ⟨by unfold qMan; rw [if_pos (by rw [hZ_man]; omega)], fM_Z⟩)⟩, fun h f => ⟨2, by omega, (m_man0 lm (fM_wM f) (fM_0 f (by omega) (by omega)) m x).mono (fun r h' q => q.1)⟩⟩
theorem p_deed (lx : LX G) (lm : LM G) (i x : Int) : Pq l G mX3_deed mX4_deed [vI i, vI x] (vI (-1)) :=
  ⟨⟨5, by omega, (c_deed lx wX_hZ i x).mono (fun r h' q => by obtain ⟨rfl, rfl⟩ := q; exact ⟨by unfold qDeed; rw [if_pos (by rw [hZ_dds]; omega)], fM_Z⟩)⟩, fun h f => ⟨4, by omega, (m_deed lm (fM_wM f) i x).mono (fun r h' q => by obtain ⟨rfl, -⟩ := q; unfold nDeed; rw [if_pos (by rw [fM_0 f (by omega) (by omega)]; omega)])⟩⟩
theorem p_alter (lx : LX G) (lm : LM G) (m x v : Int) : Pq l G mX3_alter mX4_alter [vI m, vI x, vI v] (vI (-1)) :=
  ⟨⟨3, by omega, (c_alter lx wX_hZ m x v).mono (fun r h' q => by obtain ⟨rfl, rfl⟩ := q; unfold sAlter; rw [if_pos (by rw [hZ_man]; omega)]; exact ⟨rfl, fM_Z⟩)⟩, fun h f => ⟨2, by omega, (m_alter lm (fM_wM f) m x v).mono (fun r h' q => by obtain ⟨rfl, -⟩ := q; unfold tAlter; rw [if_neg (by rw [fM_0 f (by omega) (by omega)]; omega)])⟩⟩
theorem p_move (lx : LX G) (lm : LM G) (m x v : Int) : Pq l G mX3_move mX4_move [vI m, vI x, vI v] (vI (-1)) :=
  ⟨⟨1, by omega, (c_move lx wX_hZ m x v).mono (fun r h' q => by obtain ⟨rfl, rfl⟩ := q; unfold sMove; rw [if_pos (by rw [hZ_dds]; omega)]; exact ⟨rfl, fM_Z⟩)⟩, fun h f => ⟨2, by omega, (m_move lm (fM_wM f) m x v).mono (fun r h' q => by obtain ⟨rfl, -⟩ := q; unfold tMove; rw [if_neg (by rw [fM_0 f (by omega) (by omega)]; omega)])⟩⟩
theorem p_see (lx : LX G) (lm : LM G) (i x : Int) : Pq l G mX3_see mX4_see [vI i, vI x] (vI (-1)) :=
  ⟨⟨1, by omega, (c_see lx wX_hZ i x).mono (fun r h' q => by obtain ⟨rfl, rfl⟩ := q; unfold sSee; rw [if_pos (by rw [hZ_dds]; omega)]; exact ⟨rfl, fM_Z⟩)⟩, fun h f => ⟨2, by omega, (m_see lm (fM_wM f) i x).mono (fun r h' q => by obtain ⟨rfl, -⟩ := q; unfold tSee; rw [if_pos (by rw [fM_0 f (by omega) (by omega)]; omega)])⟩⟩
theorem p_feed (lx : LX G) (lm : LM G) (c : Int) : Pq l G mX3_feed mX4_feed [vI c] (vI (if c < 0 ∨ 127 < c then -1 else 1)) := by
  have e : hZ 31 1 = 0 := hZ_0 (by omega) (by omega)
  refine ⟨⟨1, by omega, (c_feed lx wX_hZ c).mono (fun r h' q => ?_)⟩, fun h f => ⟨1, by omega, (m_feed lm (fM_wM f) c).mono (fun r h' q => ?_)⟩⟩
  · obtain ⟨rfl, rfl⟩ := q
    unfold sFeed
    by_cases hc : c < 0 ∨ 127 < c
    · rw [if_pos hc, if_pos hc]; exact ⟨rfl, fM_Z⟩
    · rw [if_neg hc, if_neg hc, e, if_neg (by omega)]
      exact ⟨rfl, fun a b ha => (up_k (by omega)).trans (up_k (by omega))⟩
  · have e8 : h 45 8 = 0 := fM_0 f (by omega) (by omega)
    rcases q with ⟨q1, rfl, -⟩ | ⟨q1, q2, -⟩ | ⟨q1, q2, rfl, -⟩
    · rw [if_pos (by omega)]
    · omega
    · rw [if_neg (by omega), e8]; rfl
theorem p_end (lx : LX G) (lm : LM G) (n : Int) : Pq l G mX3_end mX4_end [vI n] (vI (if n = 0 then 0 else -1)) := by
  have e : hZ 31 1 = 0 := hZ_0 (by omega) (by omega)
  refine ⟨⟨0, by omega, (c_end lx n).mono (fun r h' q => ?_)⟩, fun h f => ⟨1, by omega, (m_end lm n).mono (fun r h' q => ?_)⟩⟩
  · obtain ⟨rfl, rfl⟩ := q
    unfold sEnd
    rw [e]
    by_cases hc : n = 0
    · rw [if_neg (by omega), if_pos hc]; exact ⟨rfl, fun a b ha => up_k (by omega)⟩
    · rw [if_pos (by omega), if_neg hc]; exact ⟨rfl, fM_Z⟩
  · have e8 : h 45 8 = 0 := fM_0 f (by omega) (by omega)
    rcases q with ⟨q1, rfl, -⟩ | ⟨q1, rfl, -⟩
    · rw [if_neg (by omega)]
    · rw [if_pos (by omega), e8]
end PQ
