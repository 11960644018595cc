/-! calls while objects are made -/
section RN
variable {l : Launch} {G : zG} {A : Nat → Prop} {d mc ms : Nat} {M : zM} {Q : Array Value → State → Outcome → State → Prop} {pc : Nat} {pl : List (Nat × Value)} {st : List Value} {ws : va_W} {kc ks : Nat}
theorem cb_ofN {p : Program} {s : State} {m : MethodId} {args : Array Value} {meth : Method} {c : Code} (C : MN G A M p s m args meth c) {M' : zM} {ix n d' mc' ms' : Nat} (hm : cOKm M') (ho : cOK M' n = true) (hl : Cond.methodLink M.1.cls ix M'.1 ∈ ww) (hi : Cond.initialized M'.1.cls ∈ ww) (hd : Nat.ble (d' + 1) d = true) : CallB (rmN d mc ms) s args M.1.cls ix M'.1 M'.2.1 M'.2.2.1 M'.2.2.2 (wsM M') (rmN d' mc' ms') mc' ms' n := by
  simp only [cOK, Bool.and_eq_true, decide_eq_true_eq] at ho
  obtain ⟨⟨⟨h1, h2⟩, h3⟩, h4⟩ := ho
  have h4 := Nat.le_of_ble_eq_true h4
  have h5 := Nat.le_of_ble_eq_true hd
  refine callB_of n (mn_in C) (good_M (fun w hw => hw) hm) rfl rfl rfl (mn_w C hi) (mn_w C hl) ⟨h1, h2, h3⟩ ⟨h5, ?_⟩
  show 8 + (M'.2.2.1 + 11) + 36 * d' ≤ 36 * d
  omega
theorem tys_eq {G' : zG} (h : gC G' = gC G) : tysOf G' = tysOf G := by unfold tysOf; rw [h]
/-- a method of the object in the making, once its world is whole -/
theorem n_callV (np : Nat) {G' : zG} {h : zH} {ix ci d' : Nat} {M' : zM} {Ψ : Option zV → zH → Prop} (hd : decode M.2.1 pc = .ok (.invokevirtual ix, 3)) (hn : pc + 3 = np) (hC : CV M.1.cls ix M' 0 ci) (hdd : Nat.ble (d' + 1) d = true) (hgD : gD G' = gD G) (hgC : gC G' = gC G) (hga : ∀ i, 1000 ≤ i → ga G' i = ga G i) (h0 : 0 < gN G') (hs : gs G' 0 = ci + 5) (hws : ws = wsOf G' h) (hok : okH h) {a : Nat} (ha : ga G' 0 = a) (h1 : Nat.ble kc mc = true) (h2 : Nat.ble ks ms = true)
    (hM : Ca l G' d' M' [vR 0] h Ψ) (hr : ∀ r h', Ψ r h' → r = none) (kk : ∀ h', Ψ none h' → Rn l G A d mc ms M Q np pl [] (wsOf G' h') kc ks) : Rn l G A d mc ms M Q pc pl [.ref a] ws kc ks := by
  subst hn ha hws
  intro p e s m args below meth c H locs lc C hl hP hD hS
  have hI : injG G' := fun i j hi hj e => hD.1 i j _ _ (ws_at hi) (ws_at hj) e
  have hA : ∀ q, inA G' q → A q := by
    rintro q ⟨k, hk, rfl⟩
    exact hD.2 k _ (ws_at hk)
  have hM := hM hI (fun v hv => by simp at hv; subst hv; trivial) hok
  have hK : va_K (gD G') vwCl (tysOf G') s := by rw [hgD, tys_eq hgC]; exact C.2.2.2.2.2.2.2.1
  rw [← hgD] at hP
  have ho := hC.2.2.1
  have cb : CallB (rmN d mc ms) s args M.1.cls ix M'.1 M'.2.1 M'.2.2.1 M'.2.2.2 (wsM M') (rmD d') 0 0 0 := cb_ofN (d' := d') (mc' := 0) (ms' := 0) C hC.2.1 ho hC.1.1 hC.1.2.2.2 hdd
  have hrun := va_runV (e := e) (below := below) (meth := meth) (locs := locs) (cells := kc) (slots := ks) (g := F0 m pc lc [.ref (ga G' 0)]) (As := []) (b := ga G' 0) (rest := []) (C := clN ci) (Ts := ww) (nL := M.2.2.1) (cc := M.2.1) ⟨C.1, C.2.1, C.2.2.2.1, C.2.2.2.2.1, mn_in C⟩ hM ⟨cb, mn_w C hC.1.2.1, by have := mn_w C hC.1.2.2.1; rw [hC.2.2.2.2] at this; exact this⟩ ⟨cx_blind, va_recv hK hP (cl_at ci hC.2.2.2.1) ((ws_at h0).trans (by rw [ce_obj hs])), fun U hU hW => ⟨rfl, by rw [hU]; exact hP, va_K.moved hW.alike hK, by rw [hU]; exact (((KA.warm hW C.2.2.2.2.2.2.2.2.1).kept hS.2.1).narrow hA).kk hga⟩⟩ rfl rfl hl.1 rfl (lv_room (Nat.le_of_ble_eq_true rfl)) hd ⟨Nat.le_of_ble_eq_true h1, Nat.le_of_ble_eq_true h2⟩
  intro T hT X
  obtain ⟨v, st₀, t, T', L, g0, X', hL, e1, e2, ⟨⟨r, h', hv, hp, hok', hoH, hb⟩, hz, hk⟩, stp⟩ := hrun T hT X
  have hrn := hr r h' hp
  subst hrn
  cases hv
  rw [g0] at hz hk
  have hD' : va_D A (wsOf G' h') := by
    refine ⟨(ws_D hI h').1, fun k q hq => ?_⟩
    obtain ⟨hk1, rfl⟩ := ws_of hq
    exact hD.2 k (ga G' k, ceOf G' h k) (ws_at hk1)
  obtain ⟨t2, a1, b1⟩ := kk h' hp p e s m args below meth c T'.heap (locs ++ L) lc C hl (by rw [e1, ← hgD]; exact hb) hD'
    ⟨Nat.le_trans hS.1 (by rw [e1]; exact hz), fun q h1 h2 => by rw [e1, hk q (Nat.lt_of_lt_of_le h1 hS.1) (fun z => h2 (hA q z))]; exact hS.2.1 q h1 h2, fun q hq => by
      rcases List.mem_append.mp hq with h | h
      · exact hS.2.2 q h
      · exact hA _ (hL q h)⟩ T' rfl X'
  exact ⟨t2, stp t2 a1, b1⟩
def dF (ci : Nat) : List Value := (List.range (nfs ci)).map (fun j => defaultValue (clY ci j))
theorem dF_v (ci j : Nat) (hj : j < nfs ci) : defaultValue (clY ci j) = vp_V (dF ci) j := by
  unfold vp_V dF
  rw [List.getD_eq_getElem?_getD, List.getElem?_map, List.getElem?_range hj]
  rfl
/-- the class is known where it's made -/
def LKI (own : String) (ix ci : Nat) : Prop := ci < 5 ∧ Cond.classLink own ix (clN ci) ∈ ww ∧ Cond.instantiable (clN ci) (nfs ci) ∈ ww ∧ Cond.initialized (clN ci) ∈ ww
theorem n_new (np : Nat) {ix ci : Nat} (hd : decode M.2.1 pc = .ok (.new ix, 3)) (hn : pc + 3 = np) (hL : LKI M.1.cls ix ci) (h1 : Nat.ble (kc + 1) mc = true) (h2 : Nat.ble (ks + nfs ci) ms = true)
    (k : ∀ q : Nat, Rn l G A d mc ms M Q np pl (.ref q :: st) (ws ++ [(q, .inr (ci, dF ci))]) (kc + 1) (ks + nfs ci)) : Rn l G A d mc ms M Q pc pl st ws kc ks := by
  subst hn
  intro p e s m args below meth c H locs lc C hl hP hD hS
  refine va_new (D := gD G) (ci := ci) (fs := dF ci) (C := clN ci) (T := clT ci) (N := nfs ci) C.1 C.2.1 (mn_in C) (cl_ws ci hL.1) (clY ci) (cl_ty ci hL.1) C.2.2.2.2.1 (mn_w C hL.2.1) (mn_w C hL.2.2.1) (mn_w C hL.2.2.2) C.2.2.2.2.2.2.2.1 hP hD hS C.2.2.2.2.2.2.2.2.2.2.2 (cl_at ci hL.1) (dF_v ci) (Nat.le_of_ble_eq_true h1) (Nat.le_of_ble_eq_true h2) hd (fun q H1 hP1 hD1 hS1 => ?_)
  exact k q p e s m args below meth c H1 locs lc C hl hP1 hD1 hS1
theorem va_join1 {D : va_G} {wr w1 : va_W} {x : Nat × va_E} {H H1 : Heap} (hP : va_P D vwCl (wr ++ [x]) H) (hD : va_D A (wr ++ [x])) (hk : ∀ a : Nat, a < H.size → ¬ va_A [x] H.size a → H1[a]? = H[a]?) (hF : ∀ a, va_A [x] H.size a → A a) (hP1 : va_P D vwCl w1 H1) (hD1 : va_D (va_A [x] H.size) w1) : va_P D vwCl (wr ++ w1) H1 ∧ va_D A (wr ++ w1) := by
  have at1 : ∀ (k : Nat) (q : Nat × va_E), wr[k]? = some q → (wr ++ [x])[k]? = some q := fun k q h => by
    rw [List.getElem?_append_left (List.getElem?_eq_some_iff.mp h).1]; exact h
  have atx : (wr ++ [x])[wr.length]? = some x := by rw [List.getElem?_append_right (Nat.le_refl _), Nat.sub_self]; rfl
  have ap : ∀ (k : Nat) (q : Nat × va_E), wr[k]? = some q → q.1 < H.size ∧ ¬ va_A [x] H.size q.1 := by
    intro k q hq
    have hl := (hP k q (at1 k q hq)).lt
    refine ⟨hl, fun z => ?_⟩
    rcases z with ⟨j, e, z⟩ | z
    · have hj : j = 0 := by
        have := (List.getElem?_eq_some_iff.mp z).1
        simpa using this
      subst hj
      cases z
      have := hD.1 k wr.length q _ (at1 k q hq) atx rfl
      have h2 := (List.getElem?_eq_some_iff.mp hq).1
      omega
    · omega
  refine ⟨va_P.app (fun k q hq => (hP k q (at1 k q hq)).kept (hk q.1 (ap k q hq).1 (ap k q hq).2)) hP1, va_D.app ⟨fun i j p q hp hq e => hD.1 i j p q (at1 i p hp) (at1 j q hq) e, fun k q hq => hD.2 k q (at1 k q hq)⟩ (hD1.weaken (fun k q _ h => hF q.1 h)) (fun i j x y hx hy hxy => ?_)⟩
  exact (ap i x hx).2 (by rw [hxy]; exact hD1.2 j y hy)
theorem cn_blind {x : Nat × va_E} {sz : Nat} {av : List Value} : FrameBlind (va_Pc av (fun U => Bn G [x] (va_A [x] sz) U ∧ U.heap.size = sz)) := by
  intro a U g mk q
  obtain ⟨q1, ⟨q2, q3, q4, q5, q6⟩, q7⟩ := q
  exact ⟨q1, ⟨q2, q3, va_K.moved (u := U) (U := U.calling g mk a) (Vm.Alike.refl U.vm) q4, KA.same (u := U) (U := U.calling g mk a) rfl q5, NW.same (u := U) (U := U.calling g mk a) rfl q6⟩, q7⟩
theorem cn_free {wr : va_W} {x : Nat × va_E} {s : State} {H : Heap} {locs : List Loc} (hD : va_D A (wr ++ [x])) (hS : va_S A s.heap H locs) (hA : ∀ q, s.heap.size ≤ q → A q) : ∀ q, va_A [x] H.size q → A q := by
  intro q z
  rcases z with ⟨j, e, z⟩ | z
  · have hj : j = 0 := by
      have := (List.getElem?_eq_some_iff.mp z).1
      simpa using this
    subst hj
    cases z
    exact hD.2 wr.length _ (by rw [List.getElem?_append_right (Nat.le_refl _), Nat.sub_self]; rfl)
  · exact hA q (Nat.le_trans hS.1 z)
theorem cn_at {p : Program} {s : State} {m : MethodId} {args : Array Value} {meth : Method} {c : Code} {H : Heap} {locs : List Loc} {wr : va_W} {q ci : Nat} {fs : List Value} (C : MN G A M p s m args meth c) (hP : va_P (gD G) vwCl (wr ++ [(q, .inr (ci, fs))]) H) (hD : va_D A (wr ++ [(q, .inr (ci, fs))])) (hS : va_S A s.heap H locs) : ∀ U : State, U.heap = H → s.WarmedH U.vm → va_Pc [.ref q] (fun U => Bn G [(q, .inr (ci, fs))] (va_A [(q, .inr (ci, fs))] H.size) U ∧ U.heap.size = H.size) [Value.ref q].toArray U := by
  intro U hU hW
  have hF := cn_free hD hS C.2.2.2.2.2.2.2.2.2.2.2
  have atx : (wr ++ [(q, (.inr (ci, fs) : va_E))])[wr.length]? = some (q, .inr (ci, fs)) := by rw [List.getElem?_append_right (Nat.le_refl _), Nat.sub_self]; rfl
  have one : ∀ (k : Nat) (y : Nat × va_E), [(q, (.inr (ci, fs) : va_E))][k]? = some y → k = 0 ∧ y = (q, .inr (ci, fs)) := by
    intro k y h
    have hk : k = 0 := by
      have := (List.getElem?_eq_some_iff.mp h).1
      simpa using this
    subst hk
    cases h
    exact ⟨rfl, rfl⟩
  refine ⟨rfl, ⟨fun k y h => ?_, ⟨fun i j x y hx hy _ => ?_, fun k y h => va_A.in h⟩, va_K.moved hW.alike C.2.2.2.2.2.2.2.1, ?_, NW.warm hW C.2.2.2.2.2.2.2.2.2.1⟩, by rw [hU]⟩
  · obtain ⟨-, rfl⟩ := one k y h
    rw [hU]
    exact hP _ _ atx
  · rw [(one i x hx).1, (one j y hy).1]
  · rw [hU]
    exact ((KA.warm hW C.2.2.2.2.2.2.2.2.1).kept hS.2.1).narrow hF
theorem n_end {p : Program} {e : Env} {s : State} {m : MethodId} {args : Array Value} {below : List Frame} {meth : Method} {c : Code} {H : Heap} {locs : List Loc} {lc : Array Slot} {q ci mc' ms' : Nat} {fs : List Value} {wr : va_W} {Wd : (Nat → Nat) → va_W} {rest : List Value} (C : MN G A M p s m args meth c) (hl : lv_has lc M.2.2.1 pl) (hP : va_P (gD G) vwCl (wr ++ [(q, .inr (ci, fs))]) H) (hD : va_D A (wr ++ [(q, .inr (ci, fs))])) (hS : va_S A s.heap H locs)
    (hrun : va_Run p l e (rmN d mc ms) s m args below meth c H locs kc ks mc' ms' (F0 m pc lc (.ref q :: rest)) rest (va_Qv (S := Nat → Nat) (fun ad => ad 0 = q) (fun ad t => va_P (gD G) vwCl (Wd ad) t.heap ∧ va_D (va_A [(q, .inr (ci, fs))] H.size) (Wd ad)) (va_A [(q, .inr (ci, fs))] H.size) [Value.ref q].toArray) (va_A [(q, .inr (ci, fs))] H.size))
    (k : ∀ ad : Nat → Nat, ad 0 = q → Rn l G A d mc ms M Q (pc + 3) pl rest (wr ++ Wd ad) (kc + mc') (ks + ms')) : W p l e (rmN d mc ms) s m args below meth c H locs kc ks (MQ below Q args s mc ms A) (F0 m pc lc (.ref q :: rest)) := by
  have hF := cn_free hD hS C.2.2.2.2.2.2.2.2.2.2.2
  refine va_callv hrun hS (fun q _ z => hF q z) hF (fun ad t H1 locs1 ht hvm hp hB hz1 hk1 hS1 => ?_)
  obtain ⟨hP1, hD1⟩ := hB
  rw [ht] at hP1
  obtain ⟨hP2, hD2⟩ := va_join1 hP hD hk1 hF hP1 hD1
  exact k ad hp p e s m args below meth c H1 locs1 lc C hl hP2 hD2 hS1
/-- a constructor, by its contract -/
theorem n_ctor (np : Nat) {ix ci q d' mc' ms' : Nat} {M' : zM} {fs : List Value} {wr : va_W} {Wd : (Nat → Nat) → va_W} (hd : decode M.2.1 pc = .ok (.invokespecial ix, 3)) (hn : pc + 3 = np) (hM : Cn l G d' mc' ms' M' ci fs Wd) (hm : cOKm M') (ho : cOK M' 0 = true) (hl0 : Cond.methodLink M.1.cls ix M'.1 ∈ ww) (hi : Cond.initialized M'.1.cls ∈ ww) (hin : Cond.instanceMethod M'.1 ∈ ww) (hnm : M'.1.name = "<init>") (hr : M'.2.2.2 = none) (hdd : Nat.ble (d' + 1) d = true) (h1 : Nat.ble (kc + mc') mc = true) (h2 : Nat.ble (ks + ms') ms = true) (hw : ((st.map fun v => v.category).sum) ≤ 8)
    (k : ∀ ad : Nat → Nat, ad 0 = q → Rn l G A d mc ms M Q np pl st (wr ++ Wd ad) (kc + mc') (ks + ms')) : Rn l G A d mc ms M Q pc pl (.ref q :: st) (wr ++ [(q, .inr (ci, fs))]) kc ks := by
  subst hn
  intro p e s m args below meth c H locs lc C hl hP hD hS
  have cb : CallB (rmN d mc ms) s args M.1.cls ix M'.1 M'.2.1 M'.2.2.1 none (wsM M') (rmN d' mc' ms') mc' ms' 0 := by
    have := cb_ofN (mc := mc) (ms := ms) (d' := d') (mc' := mc') (ms' := ms') C hm ho hl0 hi hdd
    rw [hr] at this
    exact this
  exact n_end C hl hP hD hS (va_runI (As := []) (rest := st) ⟨C.1, C.2.1, C.2.2.2.1, C.2.2.2.2.1, mn_in C⟩ (hM q H.size) ⟨cb, hnm, mn_w C hin⟩ ⟨cn_blind, cn_at C hP hD hS⟩ rfl rfl hl.1 rfl (lv_room hw) hd ⟨Nat.le_of_ble_eq_true h1, Nat.le_of_ble_eq_true h2⟩) k
/-- a constructor that only nest mates may call -/
theorem n_ctorN (np : Nat) {ix ci q d' mc' ms' : Nat} {M' : zM} {host : String} {fs : List Value} {wr : va_W} {Wd : (Nat → Nat) → va_W} (hd : decode M.2.1 pc = .ok (.invokespecial ix, 3)) (hn : pc + 3 = np) (hM : Cn l G d' mc' ms' M' ci fs Wd) (hm : cOKm M') (ho : cOK M' 0 = true) (hl0 : ∀ U, NW U → va_Nw (.methodLinkNest M.1.cls ix M'.1 host) U) (hi : Cond.initialized M'.1.cls ∈ ww) (hin : Cond.instanceMethod M'.1 ∈ ww) (hnm : M'.1.name = "<init>") (hr : M'.2.2.2 = none) (hdd : Nat.ble (d' + 1) d = true) (h1 : Nat.ble (kc + mc') mc = true) (h2 : Nat.ble (ks + ms') ms = true) (hw : ((st.map fun v => v.category).sum) ≤ 8)
    (k : ∀ ad : Nat → Nat, ad 0 = q → Rn l G A d mc ms M Q np pl st (wr ++ Wd ad) (kc + mc') (ks + ms')) : Rn l G A d mc ms M Q pc pl (.ref q :: st) (wr ++ [(q, .inr (ci, fs))]) kc ks := by
  subst hn
  intro p e s m args below meth c H locs lc C hl hP hD hS
  simp only [cOK, Bool.and_eq_true, decide_eq_true_eq] at ho
  obtain ⟨⟨⟨g1, g2⟩, g3⟩, g4⟩ := ho
  have g4 := Nat.le_of_ble_eq_true g4
  have g5 := Nat.le_of_ble_eq_true hdd
  have cb : va_CN (rmN d mc ms) s args M.1.cls ix M'.1 host M'.2.1 M'.2.2.1 none (wsM M') (rmN d' mc' ms') mc' ms' 0 := by
    have := va_cnB (R := rmN d mc ms) (args := args) (rm := rmN d' mc' ms') (ret := M'.2.2.2) 0 (mn_in C) (good_M (M := M') (fun w hw => hw) hm) rfl rfl rfl (hl0 s C.2.2.2.2.2.2.2.2.2.1) (mn_w C hi) ⟨g1, g2, g3⟩ ⟨g5, (show 8 + (M'.2.2.1 + 11) + 36 * d' ≤ 36 * d by omega)⟩
    rw [hr] at this
    exact this
  exact n_end C hl hP hD hS (va_runIN (As := []) (rest := st) ⟨C.1, C.2.1, C.2.2.2.1, C.2.2.2.2.1, mn_in C⟩ (hM q H.size) ⟨cb, hnm, mn_w C hin⟩ ⟨cn_blind, cn_at C hP hD hS⟩ rfl rfl hl.1 rfl (lv_room hw) hd ⟨Nat.le_of_ble_eq_true h1, Nat.le_of_ble_eq_true h2⟩) k
end RN
section RN
variable {l : Launch} {G : zG} {A : Nat → Prop} {d mc ms : Nat} {M : zM} {Q : Array Value → State → Outcome → State → Prop} {pc : Nat} {pl : List (Nat × Value)} {st : List Value} {ws : va_W} {kc ks : Nat}
/-- an array of objects is made -/
theorem n_newq (np : Nat) {ix t0 : Nat} {C0 : String} {n : Int} (N : Nat) (hd : decode M.2.1 pc = .ok (.anewarray ix, 3)) (hn : pc + 3 = np) (hL : Cond.classLink M.1.cls ix C0 ∈ ww) (hO : ∀ U, NW U → va_AO C0 U) (ht : (tysOf G)[t0]? = some (gC G t0, .object C0)) (hnn : ¬ Int32.ofInt n < 0) (hN : (Int32.ofInt n).toNatClampNeg = N) (hb : N * 4 ≤ 536870912) (h1 : Nat.ble (kc + 1) mc = true) (h2 : Nat.ble (ks + N) ms = true)
    (k : ∀ q : Nat, Rn l G A d mc ms M Q np pl (.ref q :: st) (ws ++ [(q, .inl (gC G t0, (N, .inr (.inr (.inr (.inr (fun _ => none)))))))]) (kc + 1) (ks + N)) : Rn l G A d mc ms M Q pc pl (.int (Int32.ofInt n) :: st) ws kc ks := by
  subst hn
  intro p e s m args below meth c H locs lc C hl hP hD hS
  refine va_newq C.1 C.2.1 C.2.2.2.2.1 (mn_w C hL) (hO s C.2.2.2.2.2.2.2.2.2.1) C.2.2.2.2.2.2.2.1 hP hD hS C.2.2.2.2.2.2.2.2.2.2.2 hnn hN hb (Nat.le_of_ble_eq_true h1) (Nat.le_of_ble_eq_true h2) hd (fun q cA H1 hK1 hP1 hD1 hS1 => ?_)
  have e1 := (C.2.2.2.2.2.2.2.1.2 t0 _ ht).2
  have e2 := (hK1.2 (tysOf G).length (cA, .object C0) (by rw [List.getElem?_append_right (Nat.le_refl _), Nat.sub_self]; rfl)).2
  have ee : cA = gC G t0 := by
    obtain ⟨_, _, _, _, _, f1⟩ := e1
    obtain ⟨_, _, _, _, _, f2⟩ := e2
    exact Option.some.inj (f2.symm.trans f1)
  subst ee
  exact k q p e s m args below meth c H1 locs lc C hl hP1 hD1 hS1
theorem n_aast (np : Nat) {a n v ci t0 : Nat} {vs : List Value} {f : Nat → Option Nat} {i : Int} (q0 qk : Nat) (hd : decode M.2.1 pc = .ok (.aastore, 1)) (hn : pc + 1 = np) (hci : ci < 5) (ht : (tysOf G)[t0]? = some (gC G t0, .object (clN ci))) (he : ws[q0]? = some (a, .inl (gC G t0, (n, .inr (.inr (.inr (.inr f))))))) (hv : ws[qk]? = some (v, .inr (ci, vs))) (j : Nat) (hj : (Int32.ofInt i).toNatClampNeg = j) (hin : vp_in (Int32.ofInt i) n)
    (k : Rn l G A d mc ms M Q np pl st (ws.set q0 (a, .inl (gC G t0, (n, .inr (.inr (.inr (.inr (va_up f j (some v)))))))) ) kc ks) : Rn l G A d mc ms M Q pc pl (.ref v :: .int (Int32.ofInt i) :: .ref a :: st) ws kc ks := by
  subst hn hj
  intro p e s m args below meth c H locs lc C hl hP hD hS
  refine va_astq (D := gD G) (r := (clN ci, clT ci, nfs ci)) C.1 C.2.1 C.2.2.2.2.2.2.2.1 hP hD hS q0 t0 qk ci he ht hv (cl_at ci hci) hin hd (fun H1 locs1 hP1 hD1 hS1 => ?_)
  exact k p e s m args below meth c H1 locs1 lc C hl hP1 hD1 hS1
theorem n_iload (np : Nat) {q : Fin 4} {i : Nat} {x : Int} (hd : decode M.2.1 pc = .ok (.iload_n q, 1)) (hn : pc + 1 = np) (hx : pl[i]? = some ((q : Nat), .int (Int32.ofInt x))) (k : Rn l G A d mc ms M Q np pl (.int (Int32.ofInt x) :: st) ws kc ks) : Rn l G A d mc ms M Q pc pl st ws kc ks := by
  subst hn
  intro p e s m args below meth c H locs lc C hl hP hD hS
  exact lv_iload_n C.1 C.2.1 hd rfl (lv_at hl i hx) (k p e s m args below meth c H locs lc C hl hP hD hS)
theorem n_istore (np : Nat) {q : Fin 4} {x : Int} {pl' : List (Nat × Value)} (hd : decode M.2.1 pc = .ok (.istore_n q, 1)) (hn : pc + 1 = np) (hi : Nat.ble ((q : Nat) + 1) M.2.2.1 = true) (hp : ((q : Nat), Value.int (Int32.ofInt x)) :: pl.filter (fun z => !(z.1 == (q : Nat)) && !(z.1 + 1 == (q : Nat) && z.2.category == 2)) = pl') (k : Rn l G A d mc ms M Q np pl' st ws kc ks) : Rn l G A d mc ms M Q pc pl (.int (Int32.ofInt x) :: st) ws kc ks := by
  subst hn
  intro p e s m args below meth c H locs lc C hl hP hD hS
  exact lv_istore_n C.1 C.2.1 hd rfl hl (Nat.le_of_ble_eq_true hi) hp (fun lc' hl' => k p e s m args below meth c H locs lc' C hl' hP hD hS)
theorem n_iinc (np : Nat) {i j : Nat} {n x y : Int} {pl' : List (Nat × Value)} (hd : decode M.2.1 pc = .ok (.iinc i n, 3)) (hn : pc + 3 = np) (hx : pl[j]? = some (i, .int (Int32.ofInt x))) (hv : Int32.ofInt x + Int32.ofInt n = Int32.ofInt y) (hi : Nat.ble (i + 1) M.2.2.1 = true) (hp : (i, Value.int (Int32.ofInt y)) :: pl.filter (fun z => !(z.1 == i) && !(z.1 + 1 == i && z.2.category == 2)) = pl') (k : Rn l G A d mc ms M Q np pl' st ws kc ks) : Rn l G A d mc ms M Q pc pl st ws kc ks := by
  subst hn
  intro p e s m args below meth c H locs lc C hl hP hD hS
  exact lv_iinc C.1 C.2.1 hd hl hx hv (Nat.le_of_ble_eq_true hi) hp (fun lc' hl' => k p e s m args below meth c H locs lc' C hl' hP hD hS)
theorem n_goto (tgt : Nat) {off : Int} (hd : decode M.2.1 pc = .ok (.goto off, 3)) (ht : (pc : Int) + off = (tgt : Int)) (k : Rn l G A d mc ms M Q tgt pl st ws kc ks) : Rn l G A d mc ms M Q pc pl st ws kc ks := by
  intro p e s m args below meth c H locs lc C hl hP hD hS
  exact lv_goto C.1 C.2.1 hd ht (k p e s m args below meth c H locs lc C hl hP hD hS)
theorem n_ge_y (tgt : Nat) {x y off : Int} (hd : decode M.2.1 pc = .ok (.if_icmp .ge off, 3)) (ht : (pc : Int) + off = (tgt : Int)) (hc : Int32.ofInt y ≤ Int32.ofInt x) (k : Rn l G A d mc ms M Q tgt pl st ws kc ks) : Rn l G A d mc ms M Q pc pl (.int (Int32.ofInt y) :: .int (Int32.ofInt x) :: st) ws kc ks := by
  intro p e s m args below meth c H locs lc C hl hP hD hS
  exact lv_icmp_ge C.1 C.2.1 hd ht (fun _ => k p e s m args below meth c H locs lc C hl hP hD hS) (fun q => absurd hc q)
theorem n_ge_n (np : Nat) {x y off : Int} {tgt : Nat} (hd : decode M.2.1 pc = .ok (.if_icmp .ge off, 3)) (ht : (pc : Int) + off = (tgt : Int)) (hn : pc + 3 = np) (hc : Int32.ofInt x < Int32.ofInt y) (k : Rn l G A d mc ms M Q np pl st ws kc ks) : Rn l G A d mc ms M Q pc pl (.int (Int32.ofInt y) :: .int (Int32.ofInt x) :: st) ws kc ks := by
  subst hn
  intro p e s m args below meth c H locs lc C hl hP hD hS
  exact lv_icmp_ge C.1 C.2.1 hd ht (fun q => absurd hc (Int32.not_lt.mpr q)) (fun _ => k p e s m args below meth c H locs lc C hl hP hD hS)
end RN
