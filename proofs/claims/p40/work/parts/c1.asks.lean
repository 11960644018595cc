/-! calls that only ask: class, then reference; e: what must be shown of their answers -/
section DQ
variable {l : Launch} {G : zG} {h : zH} {cmp : Bool}
theorem dq_fault (lx : LX G) (lm : LM G) (I : INV h) (e : ∀ h1, IM h1 → Rel h h1 → cmp = true → h 31 2 = h1 45 9) : DuI l G mX3_fault mX4_fault [] h cmp INV :=
  du_q I (by omega) ((c_fault (l := l) (h := h) lx).mono (fun r h1 z => ⟨z.1, by rw [z.2]; exact scr_rf I.1⟩)) (by omega) (fun h1 hM hR => ⟨_, (m_fault lm).mono (fun r h2 z => ⟨z.1, eq_5 z.2⟩), e h1 hM hR⟩)
theorem dq_rule (lx : LX G) (lm : LM G) (I : INV h) (x : Int) (e : ∀ h1, IM h1 → Rel h h1 → cmp = true → qRule x h = nRule x h1) : DuI l G mX3_rule mX4_rule [vI x] h cmp INV :=
  du_q I (by omega) ((c_rule (l := l) lx I.1 x).mono (fun r h1 z => ⟨z.1, by rw [z.2]; exact scr_rf I.1⟩)) (by omega) (fun h1 hM hR => ⟨_, (m_rule lm hM.1 x).mono (fun r h2 z => ⟨z.1, scm_5 z.2⟩), e h1 hM hR⟩)
theorem dq_man (lx : LX G) (lm : LM G) (I : INV h) (m x : Int) (e : ∀ h1, IM h1 → Rel h h1 → cmp = true → qMan m x h = nMan m x h1) : DuI l G mX3_man mX4_man [vI m, vI x] h cmp INV :=
  du_q I (by omega) ((c_man (l := l) lx I.1 m x).mono (fun r h1 z => ⟨z.1, by rw [z.2]; exact scr_rf I.1⟩)) (by omega) (fun h1 hM hR => ⟨_, (m_man lm hM.1 m x).mono (fun r h2 z => ⟨z.1, eq_5 z.2⟩), e h1 hM hR⟩)
theorem dq_rota (lx : LX G) (lm : LM G) (I : INV h) (x : Int) (e : ∀ h1, IM h1 → Rel h h1 → cmp = true → qRota x h = nRota x h1) : DuI l G mX3_rota mX4_rota [vI x] h cmp INV :=
  du_q I (by omega) ((c_rota (l := l) (h := h) lx x).mono (fun r h1 z => ⟨z.1, by rw [z.2]; exact scr_rf I.1⟩)) (by omega) (fun h1 hM hR => ⟨_, (m_rota lm hM.1 x).mono (fun r h2 z => ⟨z.1, eq_5 z.2⟩), e h1 hM hR⟩)
theorem dq_deed (lx : LX G) (lm : LM G) (I : INV h) (i x : Int) (e : ∀ h1, IM h1 → Rel h h1 → cmp = true → qDeed i x h = nDeed i x h1) : DuI l G mX3_deed mX4_deed [vI i, vI x] h cmp INV :=
  du_q I (by omega) ((c_deed (l := l) lx I.1 i x).mono (fun r h1 z => ⟨z.1, by rw [z.2]; exact scr_rf I.1⟩)) (by omega) (fun h1 hM hR => ⟨_, (m_deed lm hM.1 i x).mono (fun r h2 z => ⟨z.1, scm_5 z.2⟩), e h1 hM hR⟩)
theorem dq_shows (lx : LX G) (lm : LM G) (I : INV h) (q : Int) (e : ∀ h1, IM h1 → Rel h h1 → cmp = true → qShows q h = nShows q h1) : DuI l G mX3_shows mX4_shows [vI q] h cmp INV :=
  du_q I (by omega) ((c_shows (l := l) lx I.1 q).mono (fun r h1 z => ⟨z.1, by rw [z.2]; exact scr_rf I.1⟩)) (by omega) (fun h1 hM hR => ⟨_, (m_shows lm hM.1 q).mono (fun r h2 z => ⟨z.1, scm_5 z.2⟩), e h1 hM hR⟩)
theorem dq_lost (lx : LX G) (lm : LM G) (I : INV h) (x : Int) (e : ∀ h1, IM h1 → Rel h h1 → cmp = true → qLost x h = nLost x h1) : DuI l G mX3_lost mX4_lost [vI x] h cmp INV :=
  du_q I (by omega) ((c_lost (l := l) lx I.1 x).mono (fun r h1 z => ⟨z.1, by rw [z.2]; exact scr_rf I.1⟩)) (by omega) (fun h1 hM hR => ⟨_, (m_lost lm hM.1 x).mono (fun r h2 z => ⟨z.1, scm_5 z.2⟩), e h1 hM hR⟩)
theorem dq_worst (lx : LX G) (lm : LM G) (I : INV h) (x : Int) (e : ∀ h1, IM h1 → Rel h h1 → cmp = true → qWorst x h = nWorst x h1) : DuI l G mX3_worst mX4_worst [vI x] h cmp INV :=
  du_q I (by omega) ((c_worst (l := l) lx I.1 x).mono (fun r h1 z => ⟨z.1, by rw [z.2]; exact scr_rf I.1⟩)) (by omega) (fun h1 hM hR => ⟨_, (m_worst lm hM.1 x).mono (fun r h2 z => ⟨z.1, scm_5 z.2⟩), e h1 hM hR⟩)
theorem dq_done (lx : LX G) (lm : LM G) (I : INV h) (x : Int) (e : ∀ h1, IM h1 → Rel h h1 → cmp = true → qDone x h = nDone x h1) : DuI l G mX3_done mX4_done [vI x] h cmp INV :=
  du_q I (by omega) ((c_done (l := l) lx I.1 x).mono (fun r h1 z => ⟨z.1, by rw [z.2]; exact scr_rf I.1⟩)) (by omega) (fun h1 hM hR => ⟨_, (m_done lm hM.1 x).mono (fun r h2 z => ⟨z.1, scm_5 z.2⟩), e h1 hM hR⟩)
theorem dq_lean (lx : LX G) (lm : LM G) (I : INV h) (m i q : Int) (e : ∀ h1, IM h1 → Rel h h1 → cmp = true → qLean m i q h = nLean m i q h1) : DuI l G mX3_lean mX4_lean [vI m, vI i, vI q] h cmp INV :=
  du_q I (by omega) ((c_lean (l := l) lx I.1 m i q).mono (fun r h1 z => ⟨z.1, z.2⟩)) (by omega) (fun h1 hM hR => ⟨_, (m_lean lm hM.1 m i q).mono (fun r h2 z => ⟨z.1, scm_5 z.2⟩), e h1 hM hR⟩)
theorem dq_mark (lx : LX G) (lm : LM G) (I : INV h) (x : Int) (e : ∀ h1, IM h1 → Rel h h1 → cmp = true → qMark x h = nMark x h1) : DuI l G mX3_mark mX4_mark [vI x] h cmp INV :=
  du_q I (by omega) ((c_mark (l := l) lx I.1 x).mono (fun r h1 z => ⟨z.1, z.2⟩)) (by omega) (fun h1 hM hR => ⟨_, (m_mark lm hM.1 x).mono (fun r h2 z => ⟨z.1, scq_5 z.2⟩), e h1 hM hR⟩)
theorem dq_give (lx : LX G) (lm : LM G) (I : INV h) (x : Int) (e : ∀ h1, IM h1 → Rel h h1 → cmp = true → qGive x h = nGive x h1) : DuI l G mX3_give mX4_give [vI x] h cmp INV :=
  du_q I (by omega) ((c_give (l := l) lx I.1 x).mono (fun r h1 z => ⟨z.1, z.2⟩)) (by omega) (fun h1 hM hR => ⟨_, (m_give lm hM.1 x).mono (fun r h2 z => ⟨z.1, scq_5 z.2⟩), e h1 hM hR⟩)
theorem dq_swap (lx : LX G) (lm : LM G) (I : INV h) (x : Int) (e : ∀ h1, IM h1 → Rel h h1 → cmp = true → qSwap x h = nSwap x h1) : DuI l G mX3_swap mX4_swap [vI x] h cmp INV :=
  du_q I (by omega) ((c_swap (l := l) lx I.1 x).mono (fun r h1 z => ⟨z.1, z.2⟩)) (by omega) (fun h1 hM hR => ⟨_, (m_swap lm hM.1 x).mono (fun r h2 z => ⟨z.1, scq_5 z.2⟩), e h1 hM hR⟩)
theorem dq_sole (lx : LX G) (lm : LM G) (I : INV h) (x : Int) (e : ∀ h1, IM h1 → Rel h h1 → cmp = true → qSole x h = nSole x h1) : DuI l G mX3_sole mX4_sole [vI x] h cmp INV :=
  du_q I (by omega) ((c_sole (l := l) lx I.1 x).mono (fun r h1 z => ⟨z.1, z.2⟩)) (by omega) (fun h1 hM hR => ⟨_, (m_sole lm hM.1 x).mono (fun r h2 z => ⟨z.1, scq_5 z.2⟩), e h1 hM hR⟩)
theorem dq_mean (lx : LX G) (lm : LM G) (I : INV h) (v x : Int) (e : ∀ h1, IM h1 → Rel h h1 → cmp = true → qMean v x h = nMean v x h1) : DuL l G mX3_mean mX4_mean [vI v, vI x] h cmp INV :=
  du_ql I (by omega) ((c_mean (l := l) lx I.1 v x).mono (fun r h1 z => ⟨z.1, by rw [z.2]; exact scr_rf I.1⟩)) (by omega) (fun h1 hM hR => ⟨_, (m_mean lm hM.1 v x).mono (fun r h2 z => ⟨z.1, scm_5 z.2⟩), e h1 hM hR⟩)
theorem dq_luck (lx : LX G) (lm : LM G) (I : INV h) (v i x : Int) (e : ∀ h1, IM h1 → Rel h h1 → cmp = true → qLuck v i x h = nLuck v i x h1) : DuL l G mX3_luck mX4_luck [vI v, vI i, vI x] h cmp INV :=
  du_ql I (by omega) ((c_luck (l := l) lx I.1 v i x).mono (fun r h1 z => ⟨z.1, by rw [z.2]; exact scr_rf I.1⟩)) (by omega) (fun h1 hM hR => ⟨_, (m_luck lm hM.1 v i x).mono (fun r h2 z => ⟨z.1, scm_5 z.2⟩), e h1 hM hR⟩)
theorem dq_leans (lx : LX G) (lm : LM G) (I : INV h) (m : Int) (e : ∀ h1, IM h1 → Rel h h1 → cmp = true → qLeans m h = nLeans m h1) : DuI l G mX3_leans mX4_leans [vI m] h cmp INV :=
  du_q I (by omega) ((c_leans (l := l) lx I.1 m).mono (fun r h1 z => ⟨z.1, z.2⟩)) (by omega) (fun h1 hM hR => ⟨_, (m_leans lm hM.1 m).mono (fun r h2 z => ⟨z.1, id z.2⟩), e h1 hM hR⟩)
theorem dq_kinds (lx : LX G) (lm : LM G) (I : INV h) (m : Int) (e : ∀ h1, IM h1 → Rel h h1 → cmp = true → qKinds m h = nKinds m h1) : DuI l G mX3_kinds mX4_kinds [vI m] h cmp INV :=
  du_q I (by omega) ((c_kinds (l := l) lx I.1 m).mono (fun r h1 z => ⟨z.1, z.2⟩)) (by omega) (fun h1 hM hR => ⟨_, (m_kinds lm hM.1 m).mono (fun r h2 z => ⟨z.1, id z.2⟩), e h1 hM hR⟩)
theorem dq_ask (lx : LX G) (lm : LM G) (I : INV h) (m x : Int) (e : ∀ h1, IM h1 → Rel h h1 → cmp = true → qAsk m x h = nAsk m x h1) : DuI l G mX3_ask mX4_ask [vI m, vI x] h cmp INV :=
  du_q I (by omega) ((c_ask (l := l) lx I.1 m x).mono (fun r h1 z => ⟨z.1, z.2⟩)) (by omega) (fun h1 hM hR => ⟨_, (m_ask lm hM.1 m x).mono (fun r h2 z => ⟨z.1, id z.2⟩), e h1 hM hR⟩)
theorem dq_drift (lx : LX G) (lm : LM G) (I : INV h) (sd n x : Int) (e : ∀ h1, IM h1 → Rel h h1 → cmp = true → qDrift sd n x h = nDrift sd n x h1) : DuI l G mX3_drift mX4_drift [vI sd, vI n, vI x] h cmp INV :=
  du_q I (by omega) ((c_drift (l := l) lx I.1 sd n x).mono (fun r h1 z => ⟨z.1, z.2⟩)) (by omega) (fun h1 hM hR => ⟨_, (m_drift lm hM.1 sd n x).mono (fun r h2 z => ⟨z.1, id z.2⟩), e h1 hM hR⟩)
theorem dq_torn (lx : LX G) (lm : LM G) (I : INV h) (e : ∀ h1, IM h1 → Rel h h1 → cmp = true → h 0 10 = h1 45 28) : DuI l G mX3_torn mX4_torn [] h cmp INV :=
  du_q I (by omega) ((c_torn (l := l) (h := h) lx).mono (fun r h1 z => ⟨z.1, by rw [z.2]; exact scr_rf I.1⟩)) (by omega) (fun h1 hM hR => ⟨_, (m_torn lm).mono (fun r h2 z => ⟨z.1, eq_5 z.2⟩), e h1 hM hR⟩)
theorem dq_count (lx : LX G) (lm : LM G) (I : INV h) (x : Int) (e : ∀ h1, IM h1 → Rel h h1 → cmp = true → qCount x h = nCount x h1) : DuI l G mX3_count mX4_count [vI x] h cmp INV :=
  du_q I (by omega) ((c_count (l := l) lx I.1 x).mono (fun r h1 z => ⟨z.1, by rw [z.2]; exact scr_rf I.1⟩)) (by omega) (fun h1 hM hR => ⟨_, (m_count lm hM.1 hM.2.2.1 x).mono (fun r h2 z => ⟨z.1, scm_5 z.2⟩), e h1 hM hR⟩)
theorem nocmp {P : Prop} : (false = true) → P := fun z => absurd z (by decide)
end DQ
