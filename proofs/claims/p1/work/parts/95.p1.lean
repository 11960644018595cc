/-! p1: the pairs of a fresh object close the law -/
theorem pq_I {l : Launch} {G : zG} {M M' : zM} {as : List zV} {v : Int} {R : zH → Prop} (q : Pq l G M M' as (vI v)) (hR : ∀ h, R h) : DuI l G M M' as hZ true R := by
  obtain ⟨⟨d, hd, c⟩, q2⟩ := q
  refine ⟨d, by omega, c.mono (fun r h1 z => ⟨v, z.1, ?_⟩)⟩
  obtain ⟨d', hd', c'⟩ := q2 h1 z.2
  exact ⟨d', by omega, c'.mono (fun r' h2 e => ⟨v, e, fun _ => rfl, hR h2⟩)⟩
theorem pq_L {l : Launch} {G : zG} {M M' : zM} {as : List zV} {v : Int} {R : zH → Prop} (q : Pq l G M M' as (vL v)) (hR : ∀ h, R h) : DuL l G M M' as hZ true R := by
  obtain ⟨⟨d, hd, c⟩, q2⟩ := q
  refine ⟨d, by omega, c.mono (fun r h1 z => ⟨v, z.1, ?_⟩)⟩
  obtain ⟨d', hd', c'⟩ := q2 h1 z.2
  exact ⟨d', by omega, c'.mono (fun r' h2 e => ⟨v, e, fun _ => rfl, hR h2⟩)⟩
theorem du_1 {l : Launch} {G : zG} {xs : Nat → Int32} {n : Nat} {R : zH → Prop} (lx : LX G) (lm : LM G) (hR : ∀ h, R h) : DU l G xs n hZ R :=
  ⟨pq_I (p_feed lx lm _) hR, pq_I (p_end lx lm _) hR, pq_I (p_text lx lm) hR, pq_I (p_fault lx lm) hR, pq_I (p_rule lx lm _) hR, pq_I (p_man lx lm _ _) hR, pq_I (p_rota lx lm _) hR, pq_I (p_deed lx lm _ _) hR, pq_I (p_alter lx lm _ _ _) hR, pq_I (p_move lx lm _ _ _) hR, pq_I (p_shift lx lm _ _) hR, pq_I (p_cloud lx lm _ _) hR, pq_I (p_paint lx lm _) hR, pq_I (p_want lx lm _ _) hR, pq_I (p_drop lx lm _) hR, pq_I (p_shows lx lm _) hR, pq_I (p_lost lx lm _) hR, pq_I (p_worst lx lm _) hR, pq_I (p_done lx lm _) hR, pq_I (p_lean lx lm _ _ _) hR, pq_I (p_mark lx lm _) hR, pq_I (p_give lx lm _) hR, pq_I (p_swap lx lm _) hR, pq_I (p_sole lx lm _) hR, pq_L (p_mean lx lm _ _) hR, pq_L (p_luck lx lm _ _ _) hR, pq_I (p_see lx lm _ _) hR, pq_I (p_forget lx lm _) hR, pq_I (p_leans lx lm _) hR, pq_I (p_kinds lx lm _) hR, pq_I (p_ask lx lm _ _) hR, pq_I (p_drift lx lm _ _ _) hR, pq_I (p_keep lx lm _) hR, pq_I (p_back lx lm _) hR, pq_I (p_sheet lx lm _ _ _) hR, pq_I (p_lay lx lm _ _ _) hR, pq_I (p_read lx lm _ _ _ _) hR, pq_I (p_torn lx lm) hR, pq_I (p_count lx lm _) hR⟩
theorem whole_start {p : Program} {e : Env} {s : State} {m : MethodId} {below : List Frame} {meth : Method} {c : Code} (l : Launch) {b L : Nat} {xs : Nat → Int32} (hL : L ≤ 5) (C0 : lw_At p s m meth c b L xs) : W p l e room_1 s m #[Value.ref b] below meth c s.heap [] 0 0 (lw_Z below #[Value.ref b] s) (entryFrame m ([Value.ref b] : List Value).toArray 4) :=
  law_start l hL C0 (fun n h => n = 0 → h = hZ) (fun _ => rfl) (fun G lx lm n h hn hok hI => by
    have h0 : n = 0 := by omega
    rw [hI h0]
    exact du_1 lx lm (fun h z => absurd z (by omega))) (fun n h hn hI z => absurd z (by omega))
