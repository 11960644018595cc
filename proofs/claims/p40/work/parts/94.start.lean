/-! what the start gives: classes, array classes, the static row, the Strings; the two constructors -/
theorem kn_inst : ∀ ci, ci < 5 → Cond.instantiable (clN ci) (nfs ci) ∈ lw_tbl := by decide +kernel
theorem kn_arr {s : State} {args : Array Value} {ty : FieldType} (h : (Cond.arrayClass ty).before args s = true) (hp : ∀ C, ty ≠ .object C) : ∃ cA, ArrOfT s cA ty ∧ va_RA s cA ty := by
  obtain ⟨c, k, comp, h1, h2, h3⟩ := Cond.arrayClass_spec h
  refine ⟨c, fun n z => ⟨fun k h => (by cases h), k, h2, comp, h3⟩, ?_⟩
  cases ty with
  | object C => exact absurd rfl (hp C)
  | _ => exact h1
theorem kn_ob {s : State} {args : Array Value} {C : String} (h : (Cond.arrayOver (.object C)).before args s = true) : ∃ cA, ArrOfT s cA (.object C) ∧ va_RA s cA (.object C) := by
  obtain ⟨comp, c, k, h1, h2, h3, h4, h5⟩ := Cond.arrayOver_spec h
  exact ⟨c, fun n z => ⟨fun k h => (by cases h), k, h3, comp, h4⟩, k, comp, h3, h4, h1, h5⟩
theorem kn_a1 : Cond.arrayClass .int ∈ lw_tbl ∧ Cond.arrayClass .byte ∈ lw_tbl ∧ Cond.arrayClass .boolean ∈ lw_tbl ∧ Cond.arrayOver (.object RX2) ∈ lw_tbl ∧ Cond.arrayOver (.object RX0) ∈ lw_tbl := by decide +kernel
theorem kn_K {s : State} {args : Array Value} (hts : ∀ w ∈ lw_tbl, w.before args s = true) : ∃ (D : va_G) (cA : Nat → ClassId), ∀ G : zG, gD G = D → gC G = cA → va_K (gD G) vwCl (tysOf G) s := by
  have h0 : ∀ ci : Nat, ∃ q : ClassId × (Nat → Nat), ci < 5 → u_Kn s (clN ci) (clT ci) (nfs ci) q.1 q.2 := by
    intro ci
    by_cases h : ci < 5
    · obtain ⟨cC, iS, hK⟩ := u_known hts (fun w hw => ww_tbl (cl_ws ci h w hw)) (hts _ (kn_inst ci h))
      exact ⟨(cC, iS), fun _ => hK⟩
    · exact ⟨(0, fun _ => 0), fun z => absurd z h⟩
  obtain ⟨f, hf⟩ := Classical.axiomOfChoice h0
  obtain ⟨k1, k2, k3, k4, k5⟩ := kn_a1
  obtain ⟨a0, e0⟩ := kn_arr (hts _ k1) (fun C h => by cases h)
  obtain ⟨a1, e1⟩ := kn_arr (hts _ k2) (fun C h => by cases h)
  obtain ⟨a2, e2⟩ := kn_arr (hts _ k3) (fun C h => by cases h)
  obtain ⟨a3, e3⟩ := kn_ob (hts _ k4)
  obtain ⟨a4, e4⟩ := kn_ob (hts _ k5)
  refine ⟨(fun k => (f k).1, fun k => (f k).2), fun k => [a0, a1, a2, a3, a4].getD k 0, fun G h1 h2 => ?_⟩
  rw [h1]
  refine ⟨fun c q hq => ?_, fun k q hq => ?_⟩
  · have hc : c < 5 := (List.getElem?_eq_some_iff.mp hq).1
    rw [cl_at c hc] at hq
    cases hq
    exact hf c hc
  · have hk : k < 5 := (List.getElem?_eq_some_iff.mp hq).1
    unfold tysOf at hq
    rw [h2] at hq
    rcases (show k = 0 ∨ k = 1 ∨ k = 2 ∨ k = 3 ∨ k = 4 by omega) with rfl | rfl | rfl | rfl | rfl <;> cases hq
    · exact e0
    · exact e1
    · exact e2
    · exact e3
    · exact e4
def kT : Term := .static RX3 "NEAREST_LEANS" "[I"
def kS (i : Nat) : Term := .string RX1 (152 + 2 * i)
def kV (i : Nat) : Term := .field (kS i) "java/lang/String" "value" "[B"
def kW : List Cond := flatC (Jvm.Cond.and given_1 narrow_1)
theorem kn_1 : Cond.arrayOf kT .int ∈ kW ∧ Cond.eq (.length kT) (.int (Int32.ofNat 7)) ∈ kW := by decide +kernel
theorem kn_2 : ∀ j, j < 7 → Cond.eq (.elem kT (.int (Int32.ofNat j))) (.int (Int32.ofInt (zNear j))) ∈ kW := by decide +kernel
theorem kn_3 : Cond.eq (.static "java/lang/String" "COMPACT_STRINGS" "Z") (.int 1) ∈ kW := by decide +kernel
theorem kn_3b : Cond.isRef (.static "jdk/internal/util/Preconditions" "SIOOBE_FORMATTER" "Ljava/util/function/BiFunction;") ∈ kW ∧ Cond.laysStatic "jdk/internal/util/Preconditions" "SIOOBE_FORMATTER" "Ljava/util/function/BiFunction;" ∈ lw_tbl ∧ Cond.initialized "jdk/internal/util/Preconditions" ∈ lw_tbl := by decide +kernel
theorem kn_4 : ∀ i, i < 8 → Cond.exactly (kS i) "java/lang/String" ∈ kW := by decide +kernel
theorem kn_5 : ∀ i, i < 8 → Cond.eq (.field (kS i) "java/lang/String" "coder" "B") (.int 0) ∈ kW := by decide +kernel
theorem kn_6 : ∀ i, i < 8 → Cond.arrayOf (kV i) .byte ∈ kW := by decide +kernel
theorem kn_7 : ∀ i, i < 8 → Cond.eq (.length (kV i)) (.int (Int32.ofNat (sLen.getD i 0))) ∈ kW := by decide +kernel
theorem kn_8 : ∀ i, i < 8 → ∀ j, j < sLen.getD i 0 → Cond.eq (.elem (kV i) (.int (Int32.ofNat j))) (.int ((sByt.getD i []).getD j 0)) ∈ kW := by decide +kernel
theorem kn_9 : ∀ i, i < 8 → ∀ j, j < 8 → i ≠ j → (Cond.not (Cond.eq (kS i) (kS j)) ∈ kW ∨ Cond.not (Cond.eq (kS j) (kS i)) ∈ kW) := by decide +kernel
theorem kn_10 : ∀ i, i < 8 → sLen.getD i 0 < 2 ^ 31 := by decide +kernel
theorem kn_11 : Cond.laysStatic RX3 "NEAREST_LEANS" "[I" ∈ lw_tbl ∧ Cond.initialized RX3 ∈ lw_tbl ∧ Cond.laysStatic "java/lang/String" "COMPACT_STRINGS" "Z" ∈ lw_tbl ∧ Cond.initialized "java/lang/String" ∈ lw_tbl := by decide +kernel
theorem kn_12 : ∀ i, i < 8 → Cond.stringRef RX1 (152 + 2 * i) (sTx i) ∈ lw_tbl := by decide +kernel
theorem kn_13 : Cond.methodLinkNest RX3 29 yX1_init RX3 ∈ lw_tbl ∧ Cond.methodLinkNest RX3 50 yX0_init RX3 ∈ lw_tbl := by decide +kernel
theorem kn_N {s : State} {args : Array Value} (hts : ∀ w ∈ lw_tbl, w.before args s = true) : NW s :=
  ⟨va_Nw.of rfl (hts _ kn_13.1), va_Nw.of rfl (hts _ kn_13.2), va_AO.of (hts _ kn_a1.2.2.2.1), va_AO.of (hts _ kn_a1.2.2.2.2)⟩
theorem kn_A {s : State} {args : Array Value} (hts : ∀ w ∈ lw_tbl, w.before args s = true) (hgv : (Jvm.Cond.and given_1 narrow_1).before args s = true) : ∃ (t : Nat) (adK adV : Nat → Nat), ∀ G : zG, ga G 2000 = t → (∀ i, i < 8 → ga G (1000 + i) = adK i) → (∀ i, i < 8 → ga G (1100 + i) = adV i) → KA G (fun q => s.heap.size ≤ q) s s.heap := by
  have hf : ∀ w ∈ kW, w.before args s = true := flat_of_before _ hgv
  have hA : ∀ a : Nat, a < s.heap.size → ¬ (fun q => s.heap.size ≤ q) a := fun a ha => Nat.not_le.mpr ha
  obtain ⟨t, ht, hT⟩ := va_Tof (tm := kT) (ty := .int) (N := 7) (f := fun j => .int (Int32.ofInt (zNear j))) (A := fun q => s.heap.size ≤ q) (by decide) (hf _ kn_1.1) (va_eqt (hf _ kn_1.2)) (fun j hj => va_eqt (hf _ (kn_2 j hj))) hA
  obtain ⟨adK, adV, hS, hK⟩ := vk_Sof (N := 8) (tm := kS) (len := sLen) (byt := sByt) (A := fun q => s.heap.size ≤ q) kn_10 (fun i hi => hf _ (kn_4 i hi)) (fun i hi => hf _ (kn_5 i hi)) (fun i hi => hf _ (kn_6 i hi)) (fun i hi => hf _ (kn_7 i hi)) (fun i hi j hj => hf _ (kn_8 i hi j hj)) (fun i j hi hj hij => (kn_9 i hi j hj hij).imp (fun h => hf _ h) (fun h => hf _ h)) hA
  refine ⟨t, adK, adV, fun G h1 h2 h3 => ?_⟩
  refine ⟨?_, ?_, ?_, fun i hi => ?_, ?_, ?_⟩
  · rw [h1]; exact va_Zof (hts _ kn_11.1) (hts _ kn_11.2.1) ht hA
  · rw [h1]; exact hT
  · refine ⟨fun i hi => ?_, fun i j hi hj e => ?_⟩
    · dsimp only
      rw [h2 i hi, h3 i hi]
      exact hS.1 i hi
    · have e : ga G (1000 + i) = ga G (1000 + j) := e
      rw [h2 i hi, h2 j hj] at e
      exact hS.2 i j hi hj e
  · rw [h2 i hi]
    exact vk_R.of (hts _ (kn_12 i hi)) (hK i hi)
  · exact va_Zof (hts _ kn_11.2.2.1) (hts _ kn_11.2.2.2) (va_eqt (hf _ kn_3)) hA
  · exact va_Zqof (hts _ kn_3b.2.1) (hts _ kn_3b.2.2) (hf _ kn_3b.1) hA
theorem cw_at {G : zG} {A : Nat → Prop} {s : State} {H : Heap} {locs : List Loc} {wr : va_W} {q ci : Nat} {fs : List Value} (hK : va_K (gD G) vwCl (tysOf G) s) (hKA : KA G A s s.heap) (hNW : NW s) (hA : ∀ q, s.heap.size ≤ q → A q) (hP : va_P (gD G) vwCl (wr ++ [(q, .inr (ci, fs))]) H) (hD : va_D A (wr ++ [(q, .inr (ci, fs))])) (hS : va_S A s.heap H locs) : ∀ U : State, U.heap = H → s.WarmedH U.vm → va_Pc [.ref q] (fun U => Bn G [(q, .inr (ci, fs))] (va_A [(q, .inr (ci, fs))] H.size) U ∧ U.heap.size = H.size) [Value.ref q].toArray U := by
  intro U hU hW
  have hF := cn_free hD hS hA
  have atx : (wr ++ [(q, (.inr (ci, fs) : va_E))])[wr.length]? = some (q, .inr (ci, fs)) := by rw [List.getElem?_append_right (Nat.le_refl _), Nat.sub_self]; rfl
  have one : ∀ (k : Nat) (y : Nat × va_E), [(q, (.inr (ci, fs) : va_E))][k]? = some y → k = 0 ∧ y = (q, .inr (ci, fs)) := by
    intro k y h
    have hk : k = 0 := by
      have := (List.getElem?_eq_some_iff.mp h).1
      simpa using this
    subst hk
    cases h
    exact ⟨rfl, rfl⟩
  refine ⟨rfl, ⟨fun k y h => ?_, ⟨fun i j x y hx hy _ => ?_, fun k y h => va_A.in h⟩, va_K.moved hW.alike hK, ?_, NW.warm hW hNW⟩, by rw [hU]⟩
  · obtain ⟨-, rfl⟩ := one k y h
    rw [hU]
    exact hP _ _ atx
  · rw [(one i x hx).1, (one j y hy).1]
  · rw [hU]
    exact ((KA.warm hW hKA).kept hS.2.1).narrow hF
section LN
variable {p : Program} {l : Launch} {e : Env} {s : State} {m : MethodId} {below : List Frame} {meth : Method} {c : Code} {b : Nat} {G : zG} {A : Nat → Prop}
/-- the law makes an object: new, dup, its constructor -/
theorem lw_make {pc np ix jx ci d' mc' ms' kc ks : Nat} {M' : zM} {lc : Array Slot} {H : Heap} {locs : List Loc} {ws : va_W} {Wd : (Nat → Nat) → va_W} {Q : State → Prop} (hx : p.tables.exec = Jvm.exec) (hb : c.code = cL_law) (hml : c.maxLocals = 4) (hown : s.vm.findClass RL = some m.cls) (hts : ∀ w ∈ ww, w.before #[Value.ref b] s = true) (hK : va_K (gD G) vwCl (tysOf G) s) (hKA : KA G A s s.heap) (hNW : NW s) (hA : ∀ q, s.heap.size ≤ q → A q)
    (d1 : decode cL_law pc = .ok (.new ix, 3)) (d2 : decode cL_law (pc + 3) = .ok (.dup, 1)) (d3 : decode cL_law (pc + 4) = .ok (.invokespecial jx, 3)) (hn : pc + 7 = np) (hL : LKI RL ix ci) (hj : Cond.methodLink RL jx M'.1 ∈ ww ∧ Cond.instanceMethod M'.1 ∈ ww ∧ Cond.initialized M'.1.cls ∈ ww ∧ cOKm M' ∧ cOK M' 0 = true) (hnm : M'.1.name = "<init>") (hr : M'.2.2.2 = none) (hM : Cn l G d' mc' ms' M' ci (dF ci) Wd)
    (hdd : Nat.ble d' 11 = true) (h1 : Nat.ble (kc + 1 + mc') 600000 = true) (h2 : Nat.ble (ks + nfs ci + ms') 7302250 = true) (hls : lc.size = 4) (hP : va_P (gD G) vwCl ws H) (hD : va_D A ws) (hS : va_S A s.heap H locs)
    (k : ∀ (ad : Nat → Nat) (H1 : Heap) (locs1 : List Loc), va_P (gD G) vwCl (ws ++ Wd ad) H1 → va_D A (ws ++ Wd ad) → va_S A s.heap H1 locs1 → W p l e room_1 s m #[Value.ref b] below meth c H1 locs1 (kc + 1 + mc') (ks + nfs ci + ms') Q (F0 m np lc [.ref (ad 0)])) : W p l e room_1 s m #[Value.ref b] below meth c H locs kc ks Q (F0 m pc lc []) := by
  subst hn
  have h1 := Nat.le_of_ble_eq_true h1
  have h2 := Nat.le_of_ble_eq_true h2
  have hdd := Nat.le_of_ble_eq_true hdd
  refine va_new (D := gD G) (ci := ci) (fs := dF ci) (C := clN ci) (T := clT ci) (N := nfs ci) hx hb hts (cl_ws ci hL.1) (clY ci) (cl_ty ci hL.1) hown (hts _ hL.2.1) (hts _ hL.2.2.1) (hts _ hL.2.2.2) hK hP hD hS hA (cl_at ci hL.1) (dF_v ci) (show kc + 1 ≤ 600000 by omega) (show ks + nfs ci ≤ 7302250 by omega) d1 (fun q H1 hP1 hD1 hS1 => ?_)
  refine lv_dup hx hb d2 rfl ?_
  have hF := cn_free hD1 hS1 hA
  obtain ⟨y1, y2, y3, hm, ho⟩ := hj
  have cb : CallB room_1 s #[Value.ref b] RL jx M'.1 M'.2.1 M'.2.2.1 none (wsM M') (rmN d' mc' ms') mc' ms' 0 := by
    simp only [cOK, Bool.and_eq_true, decide_eq_true_eq] at ho
    obtain ⟨⟨⟨g1, g2⟩, g3⟩, g4⟩ := ho
    have g4 := Nat.le_of_ble_eq_true g4
    have := callB_of (R := room_1) (rm := rmN d' mc' ms') (ret := M'.2.2.2) 0 hts (good_M (M := M') (fun w hw => hw) hm) rfl rfl rfl (hts _ y3) (hts _ y1) ⟨g1, g2, g3⟩ ⟨(show d' + 1 ≤ 12 by omega), (show 8 + (M'.2.2.1 + 11) + 36 * d' ≤ 432 by omega)⟩
    rw [hr] at this
    exact this
  refine va_callv (va_runI (As := []) (rest := [.ref q]) (Ts := ww) (nL := 4) (cc := cL_law) ⟨hx, hb, hml, hown, hts⟩ (hM q H1.size) ⟨cb, hnm, hts _ y2⟩ ⟨cn_blind, cw_at hK hKA hNW hA hP1 hD1 hS1⟩ rfl rfl hls rfl (lv_room (Nat.le_of_ble_eq_true rfl)) d3 ⟨h1, h2⟩) hS1 (fun q _ z => hF q z) hF (fun ad t H2 locs1 ht hvm hp hB hz1 hk1 hS2 => ?_)
  obtain ⟨hP2, hD2⟩ := hB
  rw [ht] at hP2
  obtain ⟨hP3, hD3⟩ := va_join1 hP1 hD1 hk1 hF hP2 hD2
  have hp : ad 0 = q := hp
  rw [← hp]
  exact k ad H2 locs1 hP3 hD3 hS2
end LN
set_option maxHeartbeats 4000000 in
/-- THE LAW, from its entry, for any invariant that the pairs of calls keep -/
theorem law_start {p : Program} {e : Env} {s : State} {m : MethodId} {below : List Frame} {meth : Method} {c : Code} (l : Launch) {b L : Nat} {xs : Nat → Int32} (hL : L ≤ 2560) (C0 : lw_At p s m meth c b L xs) (I : Nat → zH → Prop) (hI0 : I 0 hZ) (hD : ∀ G : zG, LX G → LM G → ∀ (n : Nat) (h : zH), 5 * n + 5 ≤ L → okH h → I n h → DU l G xs n h (I (n + 1))) (hO : ∀ (n : Nat) (h : zH), 5 * n + 5 ≤ L → I n h → I (n + 1) h) : W p l e room_1 s m #[Value.ref b] below meth c s.heap [] 0 0 (lw_Z below #[Value.ref b] s) (entryFrame m ([Value.ref b] : List Value).toArray 4) := by
  obtain ⟨hx, hb, hr, hml, hown, hts, hX, hbl, hlocks, hgv⟩ := C0
  obtain ⟨D, cA, hK0⟩ := kn_K hts
  obtain ⟨t, adK, adV, hA0⟩ := kn_A hts hgv
  obtain ⟨G, g1, g2, g3, g4, g5, g6⟩ : ∃ G : zG, gD G = D ∧ gC G = cA ∧ ga G 2000 = t ∧ (∀ i, i < 8 → ga G (1000 + i) = adK i) ∧ (∀ i, i < 8 → ga G (1100 + i) = adV i) ∧ ga G 3000 = b := by
    refine ⟨(D, cA, 0, fun k => if k = 2000 then t else if k = 3000 then b else if k < 1100 then adK (k - 1000) else adV (k - 1100), fun _ => 0, fun _ => 0, fun _ _ => 0), rfl, rfl, rfl, fun i hi => ?_, fun i hi => ?_, rfl⟩
    · show (if 1000 + i = 2000 then t else if 1000 + i = 3000 then b else if 1000 + i < 1100 then adK (1000 + i - 1000) else adV (1000 + i - 1100)) = adK i
      rw [if_neg (by omega), if_neg (by omega), if_pos (by omega), show 1000 + i - 1000 = i by omega]
    · show (if 1100 + i = 2000 then t else if 1100 + i = 3000 then b else if 1100 + i < 1100 then adK (1100 + i - 1000) else adV (1100 + i - 1100)) = adV i
      rw [if_neg (by omega), if_neg (by omega), if_neg (by omega), show 1100 + i - 1100 = i by omega]
  have hK := hK0 G g1 g2
  have hKA := hA0 G g3 g4 g5
  have hNW := kn_N hts
  have htw : ∀ w ∈ ww, w.before #[Value.ref b] s = true := fun w hw => hts w (ww_tbl hw)
  have hA : ∀ q : Nat, s.heap.size ≤ q → (fun q : Nat => s.heap.size ≤ q) q := fun _ h => h
  have hl := lv_entry ([.ref b]) (n := 4) (Nat.le_of_ble_eq_true rfl)
  rw [lg_entry_eq]
  generalize (lg_sl ([.ref b]) ++ List.replicate (4 - (lg_sl ([.ref b])).length) Slot.unset).toArray = lc at hl ⊢
  have hl : lv_has lc 4 [(0, .ref b)] := hl
  have hS : va_S (fun q : Nat => s.heap.size ≤ q) s.heap s.heap [] := va_S.rf
  have hP : va_P (gD G) vwCl [] s.heap := fun k q h => by simp at h
  have hD0 : va_D (fun q : Nat => s.heap.size ≤ q) [] := ⟨fun i j p q h => by simp at h, fun k q h => by simp at h⟩
  refine lw_make (np := 7) (ci := 3) hx hb hml hown htw hK hKA hNW hA dL_law_0 dL_law_3 dL_law_4 rfl kc_L_7 kj_L_9 rfl rfl i_Sun rfl rfl rfl hl.1 hP hD0 hS (fun ad H1 locs1 hP hD1 hS => ?_)
  refine lv_astore_n (lv' := [(1, .ref (ad 0)), (0, .ref b)]) hx hb dL_law_7 rfl hl (by decide) rfl (fun lc hl => ?_)
  refine lw_make (np := 15) (ci := 4) hx hb hml hown htw hK hKA hNW hA dL_law_8 dL_law_11 dL_law_12 rfl kc_L_10 kj_L_12 rfl rfl i_Model rfl rfl rfl hl.1 hP hD1 hS (fun y H2 locs2 hP hD1 hS => ?_)
  refine lv_astore_n (lv' := [(2, .ref (y 0)), (1, .ref (ad 0)), (0, .ref b)]) hx hb dL_law_15 rfl hl (by decide) rfl (fun lc hl => ?_)
  refine W.widen (k := 600000) (n := 7302250) (Nat.le_of_ble_eq_true rfl) (Nat.le_of_ble_eq_true rfl) ?_
  have hP : va_P (gD G) vwCl (wSunF G (dk ad 0) (dk ad 1) (dk ad 2) (dk ad 3) (dk ad 4) (dk ad 5) (dk ad 6) (dk ad 7) (dk ad 8) (dk ad 9) ++ wModel G y) H2 := hP
  have hD1 : va_D (fun q : Nat => s.heap.size ≤ q) (wSunF G (dk ad 0) (dk ad 1) (dk ad 2) (dk ad 3) (dk ad 4) (dk ad 5) (dk ad 6) (dk ad 7) (dk ad 8) (dk ad 9) ++ wModel G y) := hD1
  have hga : ∀ i, 1000 ≤ i → ga (GZ G (dk ad 0) (dk ad 1) (dk ad 2) (dk ad 3) (dk ad 4) (dk ad 5) (dk ad 6) (dk ad 7) (dk ad 8) (dk ad 9) y) i = ga G i := by
    intro i hi
    show gaZ G _ _ _ _ _ _ _ _ _ _ y i = ga G i
    unfold gaZ
    rw [if_neg (by omega)]
  have hx0 : ga (GZ G (dk ad 0) (dk ad 1) (dk ad 2) (dk ad 3) (dk ad 4) (dk ad 5) (dk ad 6) (dk ad 7) (dk ad 8) (dk ad 9) y) 0 = ad 0 := rfl
  have hx45 : ga (GZ G (dk ad 0) (dk ad 1) (dk ad 2) (dk ad 3) (dk ad 4) (dk ad 5) (dk ad 6) (dk ad 7) (dk ad 8) (dk ad 9) y) 45 = y 0 := rfl
  have hlx := zLX (G := G) (b := dk ad 0) (a1 := dk ad 1) (a2 := dk ad 2) (a3 := dk ad 3) (a4 := dk ad 4) (a5 := dk ad 5) (a6 := dk ad 6) (a7 := dk ad 7) (a8 := dk ad 8) (a9 := dk ad 9) (y := y)
  have hlm := zLM (G := G) (b := dk ad 0) (a1 := dk ad 1) (a2 := dk ad 2) (a3 := dk ad 3) (a4 := dk ad 4) (a5 := dk ad 5) (a6 := dk ad 6) (a7 := dk ad 7) (a8 := dk ad 8) (a9 := dk ad 9) (y := y)
  have hPz := zP hP
  have hIz := zI hD1
  have hAz := zA hD1
  have hKz : va_K (gD (GZ G (dk ad 0) (dk ad 1) (dk ad 2) (dk ad 3) (dk ad 4) (dk ad 5) (dk ad 6) (dk ad 7) (dk ad 8) (dk ad 9) y)) vwCl (tysOf (GZ G (dk ad 0) (dk ad 1) (dk ad 2) (dk ad 3) (dk ad 4) (dk ad 5) (dk ad 6) (dk ad 7) (dk ad 8) (dk ad 9) y)) s := hK
  have hNz : 0 < gN (GZ G (dk ad 0) (dk ad 1) (dk ad 2) (dk ad 3) (dk ad 4) (dk ad 5) (dk ad 6) (dk ad 7) (dk ad 8) (dk ad 9) y) ∧ gs (GZ G (dk ad 0) (dk ad 1) (dk ad 2) (dk ad 3) (dk ad 4) (dk ad 5) (dk ad 6) (dk ad 7) (dk ad 8) (dk ad 9) y) 0 = 8 ∧ 45 < gN (GZ G (dk ad 0) (dk ad 1) (dk ad 2) (dk ad 3) (dk ad 4) (dk ad 5) (dk ad 6) (dk ad 7) (dk ad 8) (dk ad 9) y) ∧ gs (GZ G (dk ad 0) (dk ad 1) (dk ad 2) (dk ad 3) (dk ad 4) (dk ad 5) (dk ad 6) (dk ad 7) (dk ad 8) (dk ad 9) y) 45 = 9 := ⟨(by decide : 0 < 58), rfl, (by decide : 45 < 58), rfl⟩
  have hPz : va_P (gD (GZ G (dk ad 0) (dk ad 1) (dk ad 2) (dk ad 3) (dk ad 4) (dk ad 5) (dk ad 6) (dk ad 7) (dk ad 8) (dk ad 9) y)) vwCl (wsOf (GZ G (dk ad 0) (dk ad 1) (dk ad 2) (dk ad 3) (dk ad 4) (dk ad 5) (dk ad 6) (dk ad 7) (dk ad 8) (dk ad 9) y) hZ) H2 := hPz
  generalize GZ G (dk ad 0) (dk ad 1) (dk ad 2) (dk ad 3) (dk ad 4) (dk ad 5) (dk ad 6) (dk ad 7) (dk ad 8) (dk ad 9) y = Gz at hga hx0 hx45 hlx hlm hPz hIz hAz hKz hNz
  have R : Rw l Gz b L xs 16 [some (vR 3000), some (vR 0), some (vR 45), none] [] hZ := by
    refine w_iconst 17 dL_law_16 rfl rfl ?_
    refine w_istore_n 18 dL_law_17 rfl rfl rfl ?_
    exact law_loop (I := I) hNz hL (hD Gz hlx hlm) hO (L + 1) 0 hZ (by omega) (by omega) hI0
  refine R p e s m below meth c H2 locs2 lc ⟨hx, hb, hr, hml, hown, htw, hlocks, hKz, (hKA.narrow hAz).kk hga, hIz, hX, hbl, (hga 3000 (by decide)).trans g6, hAz, hL⟩ ⟨hl.1, hl.2.1, fun i v hi => ?_⟩ hPz hS ⟨fun v hv => ?_, fun v hv => by simp at hv, okH_hZ⟩
  · have hlt : i < 4 := (List.getElem?_eq_some_iff.mp hi).1
    rcases (show i = 0 ∨ i = 1 ∨ i = 2 ∨ i = 3 by omega) with rfl | rfl | rfl | rfl <;> cases hi
    · show lc[0]? = some (.val (.ref (ga Gz 3000)))
      rw [hga 3000 (by decide), g6]
      exact lv_at hl 2 rfl
    · show lc[1]? = some (.val (.ref (ga Gz 0)))
      rw [hx0]
      exact lv_at hl 1 rfl
    · show lc[2]? = some (.val (.ref (ga Gz 45)))
      rw [hx45]
      exact lv_at hl 0 rfl
  · simp at hv
    rcases hv with rfl | rfl | rfl <;> trivial
