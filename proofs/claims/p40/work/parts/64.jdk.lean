/-! String.length and String.charAt of the names of lines; which line a NAME begins -/
def mJ0_length : zM := (yJ0_length_8abf5, cJ0_length_8abf5, 1, some .int)
def mJ0_coder : zM := (yJ0_coder_7d493, cJ0_coder_7d493, 1, some .byte)
def mJ0_isLatin1 : zM := (yJ0_isLatin1_aae02, cJ0_isLatin1_aae02, 1, some .boolean)
def mJ0_charAt : zM := (yJ0_charAt_5068e, cJ0_charAt_5068e, 2, some .char)
def mJ0_checkIndex : zM := (yJ0_checkIndex_df160, cJ0_checkIndex_df160, 2, none)
def mJ1_charAt : zM := (yJ1_charAt_3b067, cJ1_charAt_3b067, 2, some .char)
def mJ3_checkIndex : zM := (yJ3_checkIndex_8e157, cJ3_checkIndex_8e157, 3, some .int)
theorem kj_0 : Cond.fieldLink RJ0 9 "java/lang/String" "value" "[B" ∈ ww ∧ Cond.fieldLink RJ0 15 "java/lang/String" "coder" "B" ∈ ww ∧ Cond.fieldLink RJ0 38 "java/lang/String" "COMPACT_STRINGS" "Z" ∈ ww := by decide +kernel
theorem kj_1 : Cond.fieldLink RJ0 1053 "jdk/internal/util/Preconditions" "SIOOBE_FORMATTER" "Ljava/util/function/BiFunction;" ∈ ww := by decide +kernel
theorem kj_i : Cond.initialized RJ0 ∈ ww ∧ Cond.initialized RJ1 ∈ ww ∧ Cond.initialized RJ3 ∈ ww := by decide +kernel
theorem kj_c : cOKm mJ0_length ∧ cOKm mJ0_coder ∧ cOKm mJ0_isLatin1 ∧ cOKm mJ0_charAt ∧ cOKm mJ0_checkIndex ∧ cOKm mJ1_charAt ∧ cOKm mJ3_checkIndex := by unfold cOKm; decide +kernel
theorem kj_o : cOK mJ0_length 0 = true ∧ cOK mJ0_coder 0 = true ∧ cOK mJ0_isLatin1 0 = true ∧ cOK mJ0_charAt 1 = true ∧ cOK mJ0_checkIndex 2 = true ∧ cOK mJ1_charAt 2 = true ∧ cOK mJ3_checkIndex 3 = true := by decide +kernel
theorem kj_l1 : LKV RX1 168 mJ0_length := by unfold LKV; decide +kernel
theorem kj_l2 : LKV RX1 172 mJ0_charAt := by unfold LKV; decide +kernel
theorem kj_l3 : LKV RJ0 335 mJ0_coder := by unfold LKV; decide +kernel
theorem kj_l4 : LKV RJ0 492 mJ0_isLatin1 := by unfold LKV; decide +kernel
theorem kj_s1 : LKS RJ0 495 mJ1_charAt := by unfold LKS; decide +kernel
theorem kj_s2 : LKS RJ1 9 mJ0_checkIndex := by unfold LKS; decide +kernel
theorem kj_s3 : LKS RJ0 1059 mJ3_checkIndex := by unfold LKS; decide +kernel
def sCh (k j : Nat) : Int := ((sByt.getD k []).getD j 0).toInt
theorem sCh_1 : ∀ k, k < 8 → ∀ j, j < sLen.getD k 0 → z_iand (sCh k j) 255 = sCh k j ∧ ((Int32.ofInt (sCh k j)).toUInt32 % 65536).toInt32 = Int32.ofInt (sCh k j) ∧ narrow .char (.int (Int32.ofInt (sCh k j))) = .int (Int32.ofInt (sCh k j)) := by decide +kernel
theorem sLen_in : ∀ k, k < 8 → sLen.getD k 0 ≤ 7 := by decide
section RS
variable {l : Launch} {G : zG} {d : Nat} {M : zM} {Φ : Option zV → zH → Prop} {pc : Nat} {ls : List (Option zV)} {st : List zV} {h : zH}
theorem r_sval (np : Nat) {i : Nat} (hd : decode M.2.1 pc = .ok (.getfield 9, 3)) (hn : pc + 3 = np) (hM : M.1.cls = RJ0) (hi : i < 8) (kk : Rr l G d M Φ np ls (vR (1100 + i) :: st) h) : Rr l G d M Φ pc ls (vR (1000 + i) :: st) h := by
  subst hn
  intro p e s m args below meth c H locs lc C hl hP hS hk
  have hw := mc_w C kj_0.1
  rw [← hM] at hw
  refine vk_getf C.1 C.2.1 (C.2.2.2.2.2.2.2.2.1.2.2.1.1 i hi).2.2.1 hS C.2.2.2.2.1 hw (fun x hx => hx) hd ?_
  exact kk p e s m args below meth c H locs lc C hl hP hS ⟨hk.1, ok_c (v := vR _) trivial (ok_tl hk.2.1), hk.2.2⟩
theorem r_scod (np : Nat) {i : Nat} (hd : decode M.2.1 pc = .ok (.getfield 15, 3)) (hn : pc + 3 = np) (hM : M.1.cls = RJ0) (hi : i < 8) (kk : Rr l G d M Φ np ls (vI 0 :: st) h) : Rr l G d M Φ pc ls (vR (1000 + i) :: st) h := by
  subst hn
  intro p e s m args below meth c H locs lc C hl hP hS hk
  have hw := mc_w C kj_0.2.1
  rw [← hM] at hw
  refine vk_getf C.1 C.2.1 (C.2.2.2.2.2.2.2.2.1.2.2.1.1 i hi).2.1 hS C.2.2.2.2.1 hw (fun x hx => hx) hd ?_
  exact kk p e s m args below meth c H locs lc C hl hP hS ⟨hk.1, ok_c (v := vI 0) in32_0 (ok_tl hk.2.1), hk.2.2⟩
theorem r_scmp (np : Nat) (hd : decode M.2.1 pc = .ok (.getstatic 38, 3)) (hn : pc + 3 = np) (hM : M.1.cls = RJ0) (kk : Rr l G d M Φ np ls (vI 1 :: st) h) : Rr l G d M Φ pc ls st h := by
  subst hn
  intro p e s m args below meth c H locs lc C hl hP hS hk
  have hw := mc_w C kj_0.2.2
  rw [← hM] at hw
  refine va_gets C.1 C.2.1 C.2.2.2.2.2.2.2.2.1.2.2.2.2.1 hS C.2.2.2.2.1 hw (fun x hx => hx) hd ?_
  exact kk p e s m args below meth c H locs lc C hl hP hS ⟨hk.1, ok_c (v := vI 1) ⟨by decide, by decide⟩ hk.2.1, hk.2.2⟩
theorem r_sblen (np : Nat) {i : Nat} (hd : decode M.2.1 pc = .ok (.arraylength, 1)) (hn : pc + 1 = np) (hi : i < 8) (kk : Rr l G d M Φ np ls (vI ((sLen.getD i 0 : Nat) : Int) :: st) h) : Rr l G d M Φ pc ls (vR (1100 + i) :: st) h := by
  subst hn
  intro p e s m args below meth c H locs lc C hl hP hS hk
  have h7 := sLen_in i hi
  obtain ⟨cell, q1, q2, q3, q4, q5, q6, q7⟩ := (C.2.2.2.2.2.2.2.2.1.2.2.1.1 i hi).2.2.2.kept hS.2.1
  have e1 : Int32.ofNat (sLen.getD i 0) = Int32.ofInt ((sLen.getD i 0 : Nat) : Int) := (Int32.ofInt_eq_ofNat).symm
  refine W.alen (n := Int32.ofNat (sLen.getD i 0)) C.1 C.2.1 q1 q2 q5 rfl rfl hd ?_
  rw [e1]
  exact kk p e s m args below meth c H locs lc C hl hP hS ⟨hk.1, ok_c (v := vI _) ⟨by omega, by omega⟩ (ok_tl hk.2.1), hk.2.2⟩
theorem r_sbald (np : Nat) {i j : Nat} (hd : decode M.2.1 pc = .ok (.baload, 1)) (hn : pc + 1 = np) (hi : i < 8) (hj : j < sLen.getD i 0) (kk : Rr l G d M Φ np ls (vI (sCh i j) :: st) h) : Rr l G d M Φ pc ls (vI (j : Int) :: vR (1100 + i) :: st) h := by
  subst hn
  intro p e s m args below meth c H locs lc C hl hP hS hk
  have hi32 : in32 (j : Int) := ok_hd hk.2.1
  refine va_tb (v := .int (Int32.ofInt (sCh i j))) C.1 C.2.1 (C.2.2.2.2.2.2.2.2.1.2.2.1.1 i hi).2.2.2 hS (i32_in hi32 (by omega) (by omega)) ?_ hd ?_
  · rw [i32_cl hi32, Int.toNat_natCast]
    show Value.int _ = Value.int (Int32.ofInt ((sByt.getD i []).getD j 0).toInt)
    rw [Int32.ofInt_toInt]
  · exact kk p e s m args below meth c H locs lc C hl hP hS ⟨hk.1, ok_c (v := vI _) ⟨by have := Int32.le_toInt ((sByt.getD i []).getD j 0); unfold sCh; omega, by have := Int32.toInt_lt ((sByt.getD i []).getD j 0); unfold sCh; omega⟩ (ok_tl (ok_tl hk.2.1)), hk.2.2⟩
theorem r_i2c (np : Nat) {x : Int} (hd : decode M.2.1 pc = .ok (.i2c, 1)) (hn : pc + 1 = np) (hx : ((Int32.ofInt x).toUInt32 % 65536).toInt32 = Int32.ofInt x) (kk : Rr l G d M Φ np ls (vI x :: st) h) : Rr l G d M Φ pc ls (vI x :: st) h := by
  subst hn
  intro p e s m args below meth c H locs lc C hl hP hS hk
  exact lv_i2c C.1 C.2.1 hd hx (kk p e s m args below meth c H locs lc C hl hP hS hk)
theorem r_nret {x : Int} {ty : FieldType} (hd : decode M.2.1 pc = .ok (.ireturn, 1)) (hr : M.2.2.2 = some ty) (hx : narrow ty (.int (Int32.ofInt x)) = .int (Int32.ofInt x)) (k : Φ (some (vI x)) h) : Rr l G d M Φ pc ls [vI x] h := by
  intro p e s m args below meth c H locs lc C hl hP hS hk
  exact W.zret (v := Int32.ofInt x) C.1 C.2.1 (C.2.2.1.trans hr) hx (fun t ht hW => qq_end (r := some (vI x)) hS hP ht k (fun v e => by cases e; exact ok_hd hk.2.1) hk.2.2) (fun q hq => hS.2.2 q hq) hd C.2.2.2.2.2.2.1
/-- a call of an instance method of one of the Strings -/
theorem r_cvS (np : Nat) {ix i n d' : Nat} {as : List zV} {M' : zM} {Ψ : Option zV → zH → Prop} (hd : decode M.2.1 pc = .ok (.invokevirtual ix, 3)) (hn : pc + 3 = np) (hL : LKV M.1.cls ix M') (hm : cOKm M') (ho : cOK M' n = true) (hcl : M'.1.cls = "java/lang/String") (hi : i < 8) (hdd : Nat.ble (d' + 1) d = true) (hM : Ca l G d' M' (vR (1000 + i) :: as) h Ψ) (hst : as.length = n) (hw : Nat.ble (stW st) 8 = true)
    (kk : ∀ r h', Ψ r h' → Rr l G d M Φ np ls (r.toList ++ st) h') : Rr l G d M Φ pc ls (as.reverse ++ vR (1000 + i) :: st) h := by
  subst hn
  intro p e s m args below meth c H locs lc C hl hP hS hk
  have hok1 : ∀ v ∈ vR (1000 + i) :: as, okv v := by
    intro v hv
    rcases List.mem_cons.mp hv with rfl | hv
    · trivial
    · exact hk.2.1 v (List.mem_append_left _ (List.mem_reverse.mpr hv))
  have hM := hM C.2.2.2.2.2.2.2.2.2 hok1 hk.2.2
  have hE : (as.reverse ++ vR (1000 + i) :: st).map (cv G) = (as.map (cv G)).reverse ++ .ref (ga G (1000 + i)) :: st.map (cv G) := by simp [cv]
  rw [hE]
  refine z_call (va_runV (As := as.map (cv G)) (b := ga G (1000 + i)) (rest := st.map (cv G)) (C := "java/lang/String") ⟨C.1, C.2.1, C.2.2.2.1, C.2.2.2.2.1, mc_in C⟩ hM ⟨cb_of C hm ho hL.1 hL.2.2.2 hdd, mc_w C hL.2.1, by have := mc_w C hL.2.2.1; rw [hcl] at this; exact this⟩ ⟨cx_blind, vk_recv (adK := fun i => ga G (1000 + i)) (i := i) C.2.2.2.2.2.2.2.2.1.2.2.1 hi hS, cx_at (av := vR (1000 + i) :: as) C hP hS⟩ rfl (by rw [List.length_map]; exact hst) hl.1 rfl (lv_room (by rw [stW_eq]; exact Nat.le_of_ble_eq_true hw)) hd ⟨Nat.le_refl _, Nat.le_refl _⟩) hS (fun r h' H1 locs1 hp hok hoH hP1 hS1 => ?_)
  have hE2 : (r.map (cv G)).toList ++ st.map (cv G) = (r.toList ++ st).map (cv G) := by cases r <;> simp
  rw [hE2]
  refine kk r h' hp p e s m args below meth c H1 locs1 lc C hl hP1 hS1 ⟨hk.1, fun v hv => ?_, hoH⟩
  rcases List.mem_append.mp hv with h1 | h1
  · exact hok v (by cases r with | none => simp at h1 | some w => simp at h1; rw [h1])
  · exact hk.2.1 v (List.mem_append_right _ (List.mem_cons_of_mem _ h1))
/-- Preconditions.checkIndex within bounds, whatever its third argument is -/
theorem c_j3 {i n : Int} (h0 : 0 ≤ i) (h1 : i < n) (hv : in32 i) (hn : in32 n) (v : Value) (hc : v = .null ∨ ∃ t : Nat, v = .ref t) (hok : okH h) : Met l mJ3_checkIndex.1 (wsM mJ3_checkIndex) (rmD 0) (va_Pc [.int (Int32.ofInt i), .int (Int32.ofInt n), v] (Cx G h)) (QQ G (fun r h' => r = some (vI i) ∧ h' = h)) 0 0 (inA G) := by
  refine Met.ofW (cc := cJ3_checkIndex_8e157) (maxL := 3) (ret := some .int) (by decide) rfl ?_
  intro p e s m args below meth c s₁ B hml hv0
  obtain ⟨rfl, hP, hK, hKK⟩ := hv0
  have hl := lv_entry ([.int (Int32.ofInt i), .int (Int32.ofInt n), v]) (n := 3) (by rcases hc with rfl | ⟨t, rfl⟩ <;> simp [lg_sl, Value.category])
  rw [lg_entry_eq]
  generalize (lg_sl [Value.int (Int32.ofInt i), Value.int (Int32.ofInt n), v] ++ List.replicate (3 - (lg_sl [Value.int (Int32.ofInt i), Value.int (Int32.ofInt n), v]).length) Slot.unset).toArray = lc at hl ⊢
  have hx := B.exec
  have hb := B.bytes
  have a0 : lc[0]? = some (.val (.int (Int32.ofInt i))) := hl.2.2 (0, .int (Int32.ofInt i)) (by simp [lv_args])
  have a1 : lc[1]? = some (.val (.int (Int32.ofInt n))) := hl.2.2 (1, .int (Int32.ofInt n)) (by simp [lv_args, Value.category])
  refine lv_iload_n hx hb dJ3_checkIndex_8e157_0 rfl a0 ?_
  refine lv_if_lt (tgt := 9) hx hb dJ3_checkIndex_8e157_1 (by decide) (fun q => absurd ((i32_lt hv in32_0).mp (by rw [← i32_0]; exact q)) (by omega)) (fun _ => ?_)
  refine lv_iload_n hx hb dJ3_checkIndex_8e157_4 rfl a0 ?_
  refine lv_iload_n hx hb dJ3_checkIndex_8e157_5 rfl a1 ?_
  refine lv_icmp_lt (tgt := 16) hx hb dJ3_checkIndex_8e157_6 (by decide) (fun _ => ?_) (fun q => absurd ((i32_lt hv hn).mpr h1) q)
  refine lv_iload_n hx hb dJ3_checkIndex_8e157_16 rfl a0 ?_
  exact W.iret (v := Int32.ofInt i) hx hb B.returns (fun t ht hW => qq_end (r := some (vI i)) va_S.rf hP ht ⟨rfl, rfl⟩ (fun w e => by cases e; exact hv) hok) (fun q hq => by cases hq) dJ3_checkIndex_8e157_17 B.notSynchronized
theorem c_chk {i n : Int} (h0 : 0 ≤ i) (h1 : i < n) : Ca l G 1 mJ0_checkIndex [vI i, vI n] h (fun r h' => r = none ∧ h' = h) := by
  refine Ca.of (by decide) (Nat.le_of_ble_eq_true rfl) (fun hI hv hH => ?_)
  refine r_iload_n 1 dJ0_checkIndex_df160_0 rfl rfl ?_
  refine r_iload_n 2 dJ0_checkIndex_df160_1 rfl rfl ?_
  have hi32 : in32 i := hv (vI i) (by simp)
  have hn32 : in32 n := hv (vI n) (by simp)
  intro p e s m args below meth c H locs lc C hl hP hS hk
  obtain ⟨v, hvc, hZ⟩ : ∃ v : Value, (v = .null ∨ ∃ t : Nat, v = .ref t) ∧ va_Z "jdk/internal/util/Preconditions" "SIOOBE_FORMATTER" "Ljava/util/function/BiFunction;" v (inA G) s s.heap := by
    rcases C.2.2.2.2.2.2.2.2.1.2.2.2.2.2 with h | ⟨t, h⟩
    · exact ⟨_, Or.inl rfl, h⟩
    · exact ⟨_, Or.inr ⟨t, rfl⟩, h⟩
  refine va_gets C.1 C.2.1 hZ hS C.2.2.2.2.1 (mc_w C kj_1) (fun x hx => hx) dJ0_checkIndex_df160_2 ?_
  refine z_call (va_runS (As := [.int (Int32.ofInt i), .int (Int32.ofInt n), v]) (rest := []) ⟨C.1, C.2.1, C.2.2.2.1, C.2.2.2.2.1, mc_in C⟩ (c_j3 h0 h1 hi32 hn32 v hvc hH) ⟨cb_of (d' := 0) C kj_c.2.2.2.2.2.2 kj_o.2.2.2.2.2.2 kj_s3.1 kj_s3.2.2 rfl, mc_w C kj_s3.2.1⟩ ⟨?_, ?_⟩ rfl rfl hl.1 rfl (lv_room (by simp)) dJ0_checkIndex_df160_5 ⟨Nat.le_refl _, Nat.le_refl _⟩) hS (fun r h' H1 locs1 hp hok hoH hP1 hS1 => ?_)
  · intro a U g mk q
    obtain ⟨q1, q2, q3, q4⟩ := q
    exact ⟨q1, q2, va_K.moved (u := U) (U := U.calling g mk a) (Vm.Alike.refl U.vm) q3, KK.same (u := U) (U := U.calling g mk a) rfl q4⟩
  · intro U hU hW
    refine ⟨rfl, by rw [hU]; exact hP, va_K.moved hW.alike C.2.2.2.2.2.2.2.1, ?_⟩
    rw [hU]
    exact (KK.warm hW C.2.2.2.2.2.2.2.2.1).kept hS.2.1
  · obtain ⟨rfl, rfl⟩ := hp
    refine lv_pop C.1 C.2.1 dJ0_checkIndex_df160_8 rfl ?_
    exact W.vret C.1 C.2.1 (C.2.2.1.trans rfl) (fun t ht hW => qq_end (r := none) hS1 hP1 ht ⟨rfl, rfl⟩ (fun v e => by cases e) hk.2.2) (fun q hq => hS1.2.2 q hq) dJ0_checkIndex_df160_9 C.2.2.2.2.2.2.1
end RS
section SS
variable {l : Launch} {G : zG} {h : zH}
theorem c_coder (i : Nat) (hi : i < 8) : Ca l G 0 mJ0_coder [vR (1000 + i)] h (fun r h' => r = some (vI 0) ∧ h' = h) := by
  refine Ca.of (by decide) (Nat.le_of_ble_eq_true rfl) (fun hI hv hH => ?_)
  refine r_scmp 3 dJ0_coder_7d493_0 rfl rfl ?_
  refine r_if_eq 13 6 dJ0_coder_7d493_3 (by decide) rfl (fun q => absurd q (by decide)) (fun _ => ?_)
  refine r_aload_n 7 dJ0_coder_7d493_6 rfl rfl ?_
  refine r_scod 10 dJ0_coder_7d493_7 rfl rfl hi ?_
  refine r_goto 14 dJ0_coder_7d493_10 (by decide) ?_
  exact r_nret dJ0_coder_7d493_14 rfl (by decide) ⟨rfl, rfl⟩
theorem c_isLatin1 (i : Nat) (hi : i < 8) : Ca l G 0 mJ0_isLatin1 [vR (1000 + i)] h (fun r h' => r = some (vI 1) ∧ h' = h) := by
  refine Ca.of (by decide) (Nat.le_of_ble_eq_true rfl) (fun hI hv hH => ?_)
  refine r_scmp 3 dJ0_isLatin1_aae02_0 rfl rfl ?_
  refine r_if_eq 17 6 dJ0_isLatin1_aae02_3 (by decide) rfl (fun q => absurd q (by decide)) (fun _ => ?_)
  refine r_aload_n 7 dJ0_isLatin1_aae02_6 rfl rfl ?_
  refine r_scod 10 dJ0_isLatin1_aae02_7 rfl rfl hi ?_
  refine r_if_ne 17 13 dJ0_isLatin1_aae02_10 (by decide) rfl (fun q => absurd rfl q) (fun _ => ?_)
  refine r_iconst 14 dJ0_isLatin1_aae02_13 rfl rfl ?_
  refine r_goto 18 dJ0_isLatin1_aae02_14 (by decide) ?_
  exact r_nret dJ0_isLatin1_aae02_18 rfl (by decide) ⟨rfl, rfl⟩
theorem c_strLen (i : Nat) (hi : i < 8) : Ca l G 1 mJ0_length [vR (1000 + i)] h (fun r h' => r = some (vI ((sLen.getD i 0 : Nat) : Int)) ∧ h' = h) := by
  have h7 := sLen_in i hi
  refine Ca.of (by decide) (Nat.le_of_ble_eq_true rfl) (fun hI hv hH => ?_)
  refine r_aload_n 1 dJ0_length_8abf5_0 rfl rfl ?_
  refine r_sval 4 dJ0_length_8abf5_1 rfl rfl hi ?_
  refine r_sblen 5 dJ0_length_8abf5_4 rfl hi ?_
  refine r_aload_n 6 dJ0_length_8abf5_5 rfl rfl ?_
  refine r_cvS (as := []) 9 dJ0_length_8abf5_6 rfl kj_l3 kj_c.2.1 kj_o.2.1 rfl hi rfl (c_coder i hi) rfl rfl ?_
  rintro r h' ⟨rfl, rfl⟩
  refine r_ishr (v := ((sLen.getD i 0 : Nat) : Int)) 10 dJ0_length_8abf5_9 rfl ?_ ?_
  · have := z_shr (x := ((sLen.getD i 0 : Nat) : Int)) (j := 0) ⟨by omega, by omega⟩ (by decide)
    rw [show ((0 : Nat) : Int) = 0 from rfl] at this
    rw [this]
    simp
  exact r_iret dJ0_length_8abf5_10 rfl ⟨rfl, rfl⟩
theorem c_j1charAt (k j : Nat) (hk : k < 8) (hj : j < sLen.getD k 0) : Ca l G 2 mJ1_charAt [vR (1100 + k), vI (j : Int)] h (fun r h' => r = some (vI (sCh k j)) ∧ h' = h) := by
  have h7 := sLen_in k hk
  obtain ⟨e1, e2, e3⟩ := sCh_1 k hk j hj
  refine Ca.of (by decide) (Nat.le_of_ble_eq_true rfl) (fun hI hv hH => ?_)
  refine r_iload_n 1 dJ1_charAt_3b067_0 rfl rfl ?_
  refine r_aload_n 2 dJ1_charAt_3b067_1 rfl rfl ?_
  refine r_sblen 3 dJ1_charAt_3b067_2 rfl hk ?_
  refine r_callS (as := [vI (j : Int), vI ((sLen.getD k 0 : Nat) : Int)]) 6 dJ1_charAt_3b067_3 rfl kj_s2 kj_c.2.2.2.2.1 kj_o.2.2.2.2.1 rfl (c_chk (by omega) (by omega)) rfl rfl ?_
  rintro r h' ⟨rfl, rfl⟩
  refine r_aload_n 7 dJ1_charAt_3b067_6 rfl rfl ?_
  refine r_iload_n 8 dJ1_charAt_3b067_7 rfl rfl ?_
  refine r_sbald 9 dJ1_charAt_3b067_8 rfl hk hj ?_
  refine r_sipush 12 dJ1_charAt_3b067_9 rfl rfl (by decide) ?_
  refine r_iand 13 dJ1_charAt_3b067_12 rfl e1 ?_
  refine r_i2c 14 dJ1_charAt_3b067_13 rfl e2 ?_
  exact r_nret dJ1_charAt_3b067_14 rfl e3 ⟨rfl, rfl⟩
theorem c_charAt (k j : Nat) (hk : k < 8) (hj : j < sLen.getD k 0) : Ca l G 3 mJ0_charAt [vR (1000 + k), vI (j : Int)] h (fun r h' => r = some (vI (sCh k j)) ∧ h' = h) := by
  obtain ⟨e1, e2, e3⟩ := sCh_1 k hk j hj
  refine Ca.of (by decide) (Nat.le_of_ble_eq_true rfl) (fun hI hv hH => ?_)
  refine r_aload_n 1 dJ0_charAt_5068e_0 rfl rfl ?_
  refine r_cvS (as := []) 4 dJ0_charAt_5068e_1 rfl kj_l4 kj_c.2.2.1 kj_o.2.2.1 rfl hk rfl (c_isLatin1 k hk) rfl rfl ?_
  rintro r h' ⟨rfl, rfl⟩
  refine r_if_eq 16 7 dJ0_charAt_5068e_4 (by decide) rfl (fun q => absurd q (by decide)) (fun _ => ?_)
  refine r_aload_n 8 dJ0_charAt_5068e_7 rfl rfl ?_
  refine r_sval 11 dJ0_charAt_5068e_8 rfl rfl hk ?_
  refine r_iload_n 12 dJ0_charAt_5068e_11 rfl rfl ?_
  refine r_callS (as := [vR (1100 + k), vI (j : Int)]) 15 dJ0_charAt_5068e_12 rfl kj_s1 kj_c.2.2.2.2.2.1 kj_o.2.2.2.2.2.1 rfl (c_j1charAt k j hk hj) rfl rfl ?_
  rintro r h' ⟨rfl, rfl⟩
  exact r_nret dJ0_charAt_5068e_15 rfl e3 ⟨rfl, rfl⟩
/-- the TOKEN is the name of line i -/
def spB (h : zH) (i : Nat) : Bool := decide (h 31 6 - h 31 5 = ((sLen.getD i 0 : Nat) : Int)) && allN (fun p => decide (h 32 ((h 31 5).toNat + p) = sCh i p)) (sLen.getD i 0)
theorem l_spells (ly : LX G) (w : wP h 31) (i : Nat) (hi : i < 8) (he : h 31 6 - h 31 5 = ((sLen.getD i 0 : Nat) : Int)) {Φ : Option zV → zH → Prop} (hΦ : Φ (some (vI (z01 (spB h i = true)))) h) : ∀ (n j : Nat), j + n = sLen.getD i 0 → allN (fun p => decide (h 32 ((h 31 5).toNat + p) = sCh i p)) j = true → Rr l G 4 mX1_tokenSpells Φ 20 [some (vR 31), some (vR (1000 + i)), some (vI j)] [] h := by
  obtain ⟨hN, ⟨ly1, ly8, ly16, ly23⟩, ltp, ⟨ls34, ls36, ls38, ls40⟩, ⟨xs0, xs15, xs30, xs33, xs42, xs43, xs44⟩, ⟨xl15, xl30, xl33, xl42, xl43, xl44⟩, ⟨xr0, xr1, xr2, xr3, xr4, xr5, xr6, xr7, xr8⟩, ⟨yr0, yr1⟩, ⟨zr0, zr1, zr2, zr3⟩⟩ := ly
  have xs1 : gs G 1 = 7 := ly1.2.1.1
  have xs8 : gs G 8 = 7 := ly8.2.1.1
  have xs16 : gs G 16 = 7 := ly16.2.1.1
  have xs23 : gs G 23 = 7 := ly23.2.1.1
  have xs31 : gs G 31 = 6 := ltp.2.1.1
  have xs34 : gs G 34 = 5 := ls34.2.1.1
  have xs36 : gs G 36 = 5 := ls36.2.1.1
  have xs38 : gs G 38 = 5 := ls38.2.1.1
  have xs40 : gs G 40 = 5 := ls40.2.1.1
  have ltp' := ltp
  obtain ⟨⟨pn0, pn1⟩, ⟨ps0, ps1⟩, pr0, pl1⟩ := ltp'
  obtain ⟨q1, q2, q3, q4⟩ := w
  intro n
  induction n with
  | zero =>
    intro j hj ha
    refine r_iload_n 21 dX1_tokenSpells_20 rfl rfl ?_
    refine r_aload_n 22 dX1_tokenSpells_21 rfl rfl ?_
    rotate_left -- leaf: call at pc 22
    refine r_cvS (as := []) 25 dX1_tokenSpells_22 rfl kj_l1 kj_c.1 kj_o.1 rfl hi rfl (c_strLen i hi) rfl rfl ?_
    rintro r h' ⟨rfl, rfl⟩
    refine r_icmp_ge 55 28 dX1_tokenSpells_25 (by decide) rfl (fun c_25 => ?_) (fun c_25 => ?_)
    refine r_iconst 56 dX1_tokenSpells_55 rfl rfl ?_
    refine r_zret dX1_tokenSpells_56 rfl (by first | exact Or.inl rfl | exact Or.inr rfl | assumption | omega) ?_
    rotate_left -- leaf: return at pc 56
    rotate_left -- leaf: pc 28
    · have ej : j = sLen.getD i 0 := by omega
      rw [z01_t (by unfold spB; rw [Bool.and_eq_true, decide_eq_true_iff]; exact ⟨he, by rw [← ej]; exact ha⟩)] at hΦ
      exact hΦ
    · omega
  | succ n ih =>
    intro j hj ha
    refine r_iload_n 21 dX1_tokenSpells_20 rfl rfl ?_
    refine r_aload_n 22 dX1_tokenSpells_21 rfl rfl ?_
    rotate_left -- leaf: call at pc 22
    refine r_cvS (as := []) 25 dX1_tokenSpells_22 rfl kj_l1 kj_c.1 kj_o.1 rfl hi rfl (c_strLen i hi) rfl rfl ?_
    rintro r h' ⟨rfl, rfl⟩
    obtain ⟨q0, hq0⟩ := Int.eq_ofNat_of_zero_le q2.1
    refine r_icmp_ge 55 28 dX1_tokenSpells_25 (by decide) rfl (fun c_25 => ?_) (fun c_25 => ?_)
    refine r_iconst 56 dX1_tokenSpells_55 rfl rfl ?_
    refine r_zret dX1_tokenSpells_56 rfl (by first | exact Or.inl rfl | exact Or.inr rfl | assumption | omega) ?_
    rotate_left -- leaf: return at pc 56
    refine r_aload_n 29 dX1_tokenSpells_28 rfl rfl ?_
    refine r_getR 32 dX1_tokenSpells_29 rfl kf_1_11 rfl (by first | assumption | omega) (by assumption) (by assumption) ?_
    refine r_aload_n 33 dX1_tokenSpells_32 rfl rfl ?_
    refine r_getI 36 dX1_tokenSpells_33 rfl kf_1_65 rfl (by first | assumption | omega) (by assumption) ?_
    refine r_iload_n 37 dX1_tokenSpells_36 rfl rfl ?_
    refine r_iadd 38 dX1_tokenSpells_37 rfl (by first | exact w32_id (by omega) (by omega) | rfl) ?_
    first | refine r_bald 39 dX1_tokenSpells_38 rfl (by first | assumption | omega) (by assumption) (by first | omega | (simp only [Int.toNat_natCast]; omega)) (by first | omega | (simp only [Int.toNat_natCast]; omega)) ?_ | refine r_zald 39 dX1_tokenSpells_38 rfl (by first | assumption | omega) (by assumption) (by first | omega | (simp only [Int.toNat_natCast]; omega)) (by first | omega | (simp only [Int.toNat_natCast]; omega)) ?_
    rotate_left -- leaf: pc 39
    · omega
    have e1 : (h' 31 5 + (j : Int)).toNat = (h' 31 5).toNat + j := by omega
    rw [e1]
    refine r_aload_n 40 dX1_tokenSpells_39 rfl rfl ?_
    refine r_iload_n 41 dX1_tokenSpells_40 rfl rfl ?_
    rotate_left -- leaf: call at pc 41
    refine r_cvS (as := [vI (j : Int)]) 44 dX1_tokenSpells_41 rfl kj_l2 kj_c.2.2.2.1 kj_o.2.2.2.1 rfl hi rfl (c_charAt i j hi (by omega)) rfl rfl ?_
    rintro r h'' ⟨rfl, rfl⟩
    refine r_icmp_eq 49 47 dX1_tokenSpells_44 (by decide) rfl (fun c_44 => ?_) (fun c_44 => ?_)
    refine r_iinc 52 _ dX1_tokenSpells_49 rfl rfl rfl rfl (by first | exact w32_id (by omega) (by omega) | rfl) ?_
    refine r_goto 20 dX1_tokenSpells_52 (by decide) ?_
    rotate_left -- leaf: pc 20
    refine r_iconst 48 dX1_tokenSpells_47 rfl rfl ?_
    refine r_zret dX1_tokenSpells_48 rfl (by first | exact Or.inl rfl | exact Or.inr rfl | assumption | omega) ?_
    rotate_left -- leaf: return at pc 48
    · exact ih (j + 1) (by omega) (by rw [allN, ha, Bool.true_and, decide_eq_true_iff]; exact c_44)
    · rw [z01_f (by unfold spB; rw [Bool.and_eq_true]; exact fun z => allN_f (j := j) (by rw [decide_eq_true_iff]; exact c_44) _ (by omega) z.2)] at hΦ
      exact hΦ
theorem c_spells (ly : LX G) (w : wP h 31) (i : Nat) (hi : i < 8) : Ca l G 4 mX1_tokenSpells [vR 31, vR (1000 + i)] h (fun r h' => r = some (vI (z01 (spB h i = true))) ∧ h' = h) := by
  have lX0 := ly
  have w0 := w
  obtain ⟨hN, ⟨ly1, ly8, ly16, ly23⟩, ltp, ⟨ls34, ls36, ls38, ls40⟩, ⟨xs0, xs15, xs30, xs33, xs42, xs43, xs44⟩, ⟨xl15, xl30, xl33, xl42, xl43, xl44⟩, ⟨xr0, xr1, xr2, xr3, xr4, xr5, xr6, xr7, xr8⟩, ⟨yr0, yr1⟩, ⟨zr0, zr1, zr2, zr3⟩⟩ := ly
  have xs1 : gs G 1 = 7 := ly1.2.1.1
  have xs8 : gs G 8 = 7 := ly8.2.1.1
  have xs16 : gs G 16 = 7 := ly16.2.1.1
  have xs23 : gs G 23 = 7 := ly23.2.1.1
  have xs31 : gs G 31 = 6 := ltp.2.1.1
  have xs34 : gs G 34 = 5 := ls34.2.1.1
  have xs36 : gs G 36 = 5 := ls36.2.1.1
  have xs38 : gs G 38 = 5 := ls38.2.1.1
  have xs40 : gs G 40 = 5 := ls40.2.1.1
  have ltp' := ltp
  obtain ⟨⟨pn0, pn1⟩, ⟨ps0, ps1⟩, pr0, pl1⟩ := ltp'
  obtain ⟨q1, q2, q3, q4⟩ := w
  refine Ca.of (by decide) (Nat.le_of_ble_eq_true rfl) (fun hI hv hH => ?_)
  refine r_aload_n 1 dX1_tokenSpells_0 rfl rfl ?_
  refine r_getI 4 dX1_tokenSpells_1 rfl kf_1_30 rfl (by first | assumption | omega) (by assumption) ?_
  refine r_aload_n 5 dX1_tokenSpells_4 rfl rfl ?_
  refine r_getI 8 dX1_tokenSpells_5 rfl kf_1_65 rfl (by first | assumption | omega) (by assumption) ?_
  refine r_isub 9 dX1_tokenSpells_8 rfl (by first | exact w32_id (by omega) (by omega) | rfl) ?_
  refine r_aload_n 10 dX1_tokenSpells_9 rfl rfl ?_
  rotate_left -- leaf: call at pc 10
  refine r_cvS (as := []) 13 dX1_tokenSpells_10 rfl kj_l1 kj_c.1 kj_o.1 rfl hi rfl (c_strLen i hi) rfl rfl ?_
  rintro r h' ⟨rfl, rfl⟩
  refine r_icmp_eq 18 16 dX1_tokenSpells_13 (by decide) rfl (fun c_13 => ?_) (fun c_13 => ?_)
  refine r_iconst 19 dX1_tokenSpells_18 rfl rfl ?_
  refine r_istore_n 20 dX1_tokenSpells_19 rfl rfl rfl ?_
  rotate_left -- leaf: pc 20
  refine r_iconst 17 dX1_tokenSpells_16 rfl rfl ?_
  refine r_zret dX1_tokenSpells_17 rfl (by first | exact Or.inl rfl | exact Or.inr rfl | assumption | omega) ?_
  rotate_left -- leaf: return at pc 17
  · exact l_spells (l := l) lX0 w0 i hi c_13 (Φ := fun r h'' => r = some (vI (z01 (spB h' i = true))) ∧ h'' = h') ⟨rfl, rfl⟩ (sLen.getD i 0) 0 (by omega) rfl
  · rw [z01_f (by unfold spB; rw [Bool.and_eq_true, decide_eq_true_iff]; exact fun z => c_13 z.1)]
    exact ⟨rfl, rfl⟩
def lnF (c : Nat → Bool) : Nat → Nat → Nat
  | 0, _ => 8
  | n + 1, j => if c j = true then j else lnF c n (j + 1)
theorem lnF_in (c : Nat → Bool) : ∀ n j : Nat, j + n = 8 → lnF c n j ≤ 8
  | 0, _, _ => by simp [lnF]
  | n + 1, j, h => by
    unfold lnF
    split
    · omega
    · exact lnF_in c n (j + 1) (by omega)
theorem c_nameOfLine (j : Nat) (hj : j < 8) : Ca l G 0 mX1_nameOfLine [vI (j : Int)] h (fun r h' => r = some (vR (1000 + j)) ∧ h' = h) := by
  refine Ca.of (by decide) (Nat.le_of_ble_eq_true rfl) (fun hI hv hH => ?_)
  refine r_iload_n 1 dX1_nameOfLine_0 rfl rfl ?_
  rcases (show j = 0 ∨ j = 1 ∨ j = 2 ∨ j = 3 ∨ j = 4 ∨ j = 5 ∨ j = 6 ∨ j = 7 by omega) with rfl | rfl | rfl | rfl | rfl | rfl | rfl | rfl
  · refine r_tabIn 44 dX1_nameOfLine_1 (by decide) (by decide) rfl (by decide) ?_
    refine r_ldcS 46 0 dX1_nameOfLine_44 rfl (by decide) rfl rfl ?_
    refine r_aret dX1_nameOfLine_46 rfl ?_
    rotate_left -- leaf: return at pc 46
    exact ⟨rfl, rfl⟩
  · refine r_tabIn 47 dX1_nameOfLine_1 (by decide) (by decide) rfl (by decide) ?_
    refine r_ldcS 49 1 dX1_nameOfLine_47 rfl (by decide) rfl rfl ?_
    refine r_aret dX1_nameOfLine_49 rfl ?_
    rotate_left -- leaf: return at pc 49
    exact ⟨rfl, rfl⟩
  · refine r_tabIn 50 dX1_nameOfLine_1 (by decide) (by decide) rfl (by decide) ?_
    refine r_ldcS 52 2 dX1_nameOfLine_50 rfl (by decide) rfl rfl ?_
    refine r_aret dX1_nameOfLine_52 rfl ?_
    rotate_left -- leaf: return at pc 52
    exact ⟨rfl, rfl⟩
  · refine r_tabIn 53 dX1_nameOfLine_1 (by decide) (by decide) rfl (by decide) ?_
    refine r_ldcS 55 3 dX1_nameOfLine_53 rfl (by decide) rfl rfl ?_
    refine r_aret dX1_nameOfLine_55 rfl ?_
    rotate_left -- leaf: return at pc 55
    exact ⟨rfl, rfl⟩
  · refine r_tabIn 56 dX1_nameOfLine_1 (by decide) (by decide) rfl (by decide) ?_
    refine r_ldcS 58 4 dX1_nameOfLine_56 rfl (by decide) rfl rfl ?_
    refine r_aret dX1_nameOfLine_58 rfl ?_
    rotate_left -- leaf: return at pc 58
    exact ⟨rfl, rfl⟩
  · refine r_tabIn 59 dX1_nameOfLine_1 (by decide) (by decide) rfl (by decide) ?_
    refine r_ldcS 61 5 dX1_nameOfLine_59 rfl (by decide) rfl rfl ?_
    refine r_aret dX1_nameOfLine_61 rfl ?_
    rotate_left -- leaf: return at pc 61
    exact ⟨rfl, rfl⟩
  · refine r_tabIn 62 dX1_nameOfLine_1 (by decide) (by decide) rfl (by decide) ?_
    refine r_ldcS 64 6 dX1_nameOfLine_62 rfl (by decide) rfl rfl ?_
    refine r_aret dX1_nameOfLine_64 rfl ?_
    rotate_left -- leaf: return at pc 64
    exact ⟨rfl, rfl⟩
  · refine r_tabOut 65 dX1_nameOfLine_1 (by omega) (by decide) ?_
    refine r_ldcS 67 7 dX1_nameOfLine_65 rfl (by decide) rfl rfl ?_
    refine r_aret dX1_nameOfLine_67 rfl ?_
    rotate_left -- leaf: return at pc 67
    exact ⟨rfl, rfl⟩
theorem l_lineOf (ly : LX G) (w : wP h 31) {Φ : Option zV → zH → Prop} (hΦ : Φ (some (vI ((lnF (spB h) 8 0 : Nat) : Int))) h) : ∀ (n j : Nat), j + n = 8 → lnF (spB h) n j = lnF (spB h) 8 0 → Rr l G 5 mX1_lineOfName Φ 2 [some (vR 31), some (vI j)] [] h := by
  have lX0 := ly
  have w0 := w
  obtain ⟨hN, ⟨ly1, ly8, ly16, ly23⟩, ltp, ⟨ls34, ls36, ls38, ls40⟩, ⟨xs0, xs15, xs30, xs33, xs42, xs43, xs44⟩, ⟨xl15, xl30, xl33, xl42, xl43, xl44⟩, ⟨xr0, xr1, xr2, xr3, xr4, xr5, xr6, xr7, xr8⟩, ⟨yr0, yr1⟩, ⟨zr0, zr1, zr2, zr3⟩⟩ := ly
  have xs1 : gs G 1 = 7 := ly1.2.1.1
  have xs8 : gs G 8 = 7 := ly8.2.1.1
  have xs16 : gs G 16 = 7 := ly16.2.1.1
  have xs23 : gs G 23 = 7 := ly23.2.1.1
  have xs31 : gs G 31 = 6 := ltp.2.1.1
  have xs34 : gs G 34 = 5 := ls34.2.1.1
  have xs36 : gs G 36 = 5 := ls36.2.1.1
  have xs38 : gs G 38 = 5 := ls38.2.1.1
  have xs40 : gs G 40 = 5 := ls40.2.1.1
  have ltp' := ltp
  obtain ⟨⟨pn0, pn1⟩, ⟨ps0, ps1⟩, pr0, pl1⟩ := ltp'
  intro n
  induction n with
  | zero =>
    intro j hj hf
    rw [← hf] at hΦ
    refine r_iload_n 3 dX1_lineOfName_2 rfl rfl ?_
    refine r_bipush 5 dX1_lineOfName_3 rfl rfl (by decide) ?_
    refine r_icmp_ge 27 8 dX1_lineOfName_5 (by decide) rfl (fun c_5 => ?_) (fun c_5 => ?_)
    refine r_bipush 29 dX1_lineOfName_27 rfl rfl (by decide) ?_
    refine r_iret dX1_lineOfName_29 rfl ?_
    rotate_left -- leaf: return at pc 29
    rotate_left -- leaf: pc 8
    · exact hΦ
    · omega
  | succ n ih =>
    intro j hj hf
    have hf : (if spB h j = true then j else lnF (spB h) n (j + 1)) = lnF (spB h) 8 0 := hf
    refine r_iload_n 3 dX1_lineOfName_2 rfl rfl ?_
    refine r_bipush 5 dX1_lineOfName_3 rfl rfl (by decide) ?_
    refine r_icmp_ge 27 8 dX1_lineOfName_5 (by decide) rfl (fun c_5 => ?_) (fun c_5 => ?_)
    rotate_left -- leaf: pc 27
    refine r_aload_n 9 dX1_lineOfName_8 rfl rfl ?_
    refine r_iload_n 10 dX1_lineOfName_9 rfl rfl ?_
    rotate_left -- leaf: call at pc 10
    · omega
    refine r_cs1 13 dX1_lineOfName_10 rfl ks_1_144 rfl rfl (c_nameOfLine j (by omega)) ?_
    rintro r h' ⟨rfl, rfl⟩
    refine r_cv1 16 dX1_lineOfName_13 rfl kv_1_148 (by first | assumption | omega) (by assumption) rfl rfl (c_spells lX0 w0 j (by omega)) ?_
    rintro r h'' ⟨rfl, rfl⟩
    refine r_if_eq 21 19 dX1_lineOfName_16 (by decide) rfl (fun c_16 => ?_) (fun c_16 => ?_)
    refine r_iinc 24 _ dX1_lineOfName_21 rfl rfl rfl rfl (by first | exact w32_id (by omega) (by omega) | rfl) ?_
    refine r_goto 2 dX1_lineOfName_24 (by decide) ?_
    rotate_left -- leaf: pc 2
    refine r_iload_n 20 dX1_lineOfName_19 rfl rfl ?_
    refine r_iret dX1_lineOfName_20 rfl ?_
    rotate_left -- leaf: return at pc 20
    · exact ih (j + 1) (by omega) (by rw [← hf, if_neg (z01_n.mp c_16)])
    · rw [← hf, if_pos (z01_y.mp c_16)] at hΦ
      exact hΦ
theorem c_lineOf (ly : LX G) (w : wP h 31) : Ca l G 5 mX1_lineOfName [vR 31] h (fun r h' => r = some (vI ((lnF (spB h) 8 0 : Nat) : Int)) ∧ h' = h) := by
  refine Ca.of (by decide) (Nat.le_of_ble_eq_true rfl) (fun hI hv hH => ?_)
  refine r_iconst 1 dX1_lineOfName_0 rfl rfl ?_
  refine r_istore_n 2 dX1_lineOfName_1 rfl rfl rfl ?_
  rotate_left -- leaf: pc 2
  exact l_lineOf (l := l) ly w (Φ := fun r h' => r = some (vI ((lnF (spB h) 8 0 : Nat) : Int)) ∧ h' = h) ⟨rfl, rfl⟩ 8 0 rfl rfl
end SS
