/-! fields, arrays, calls in the pure layer -/
theorem cl_at : ∀ ci, ci < 5 → vwCl[ci]? = some (clN ci, clT ci, nfs ci)
  | 0, _ => rfl
  | 1, _ => rfl
  | 2, _ => rfl
  | 3, _ => rfl
  | 4, _ => rfl
  | n + 5, h => absurd h (by omega)
theorem cl_ws0 : ∀ w ∈ u_ws RX0 TX0 3, w ∈ ww := by decide +kernel
theorem cl_ws1 : ∀ w ∈ u_ws RX1 TX1 10, w ∈ ww := by decide +kernel
theorem cl_ws2 : ∀ w ∈ u_ws RX2 TX2 10, w ∈ ww := by decide +kernel
theorem cl_ws3 : ∀ w ∈ u_ws RX3 TX3 11, w ∈ ww := by decide +kernel
theorem cl_ws4 : ∀ w ∈ u_ws RX4 TX4 29, w ∈ ww := by decide +kernel
theorem cl_ws : ∀ ci, ci < 5 → ∀ w ∈ u_ws (clN ci) (clT ci) (nfs ci), w ∈ ww
  | 0, _ => cl_ws0
  | 1, _ => cl_ws1
  | 2, _ => cl_ws2
  | 3, _ => cl_ws3
  | 4, _ => cl_ws4
  | n + 5, h => absurd h (by omega)
theorem cl_ty : ∀ ci, ci < 5 → ∀ k, k < nfs ci → parseFieldDescriptor (clT ci k).2.2.1 = some (clY ci k)
  | 0, _ => tyX0_ok
  | 1, _ => tyX1_ok
  | 2, _ => tyX2_ok
  | 3, _ => tyX3_ok
  | 4, _ => tyX4_ok
  | n + 5, h => absurd h (by omega)
theorem cl_nm : ∀ ci, ci < 5 → ∀ a, a < nfs ci → ∀ b, b < nfs ci → a ≠ b → (clT ci a).2.1 ≠ (clT ci b).2.1
  | 0, _ => nmX0
  | 1, _ => nmX1
  | 2, _ => nmX2
  | 3, _ => nmX3
  | 4, _ => nmX4
  | n + 5, h => absurd h (by omega)
theorem cl_own : ∀ ci, ci < 5 → ∀ k, k < nfs ci → (clT ci k).1 = clN ci := by decide +kernel
/-- the constant pool's entry ix of class own is the field f of class ci -/
def LKF (own : String) (ix ci f : Nat) : Prop := ci < 5 ∧ f < nfs ci ∧ Cond.fieldLink own ix (clN ci) (clT ci f).2.1 (clT ci f).2.2.1 ∈ ww
section RH
variable {l : Launch} {G : zG} {d : Nat} {M : zM} {Φ : Option zV → zH → Prop} {pc : Nat} {ls : List (Option zV)} {st : List zV} {h : zH}
theorem mc_in {p : Program} {s : State} {m : MethodId} {args : Array Value} {meth : Method} {c : Code} (C : MC G M p s m args meth c) : ∀ w ∈ ww, w.before args s = true := fun _ hw => mc_w C hw
theorem r_getI (np : Nat) {ix k ci f : Nat} (hd : decode M.2.1 pc = .ok (.getfield ix, 3)) (hn : pc + 3 = np) (hL : LKF M.1.cls ix ci f) (hr : rfB ci f = false) (hk0 : k < gN G) (hs : gs G k = ci + 5) (kk : Rr l G d M Φ np ls (vI (h k f) :: st) h) : Rr l G d M Φ pc ls (vR k :: st) h := by
  subst hn
  intro p e s m args below meth c H locs lc C hl hP hS hk
  refine va_get (D := gD G) (ci := ci) (v := .int (Int32.ofInt (h k f))) (C := clN ci) (T := clT ci) (N := nfs ci) C.1 C.2.1 (mc_in C) (cl_ws ci hL.1) C.2.2.2.2.1 C.2.2.2.2.2.2.2.1 hP k ((ws_at hk0).trans (by rw [ce_obj hs])) (cl_at ci hL.1) f hL.2.1 (mc_w C hL.2.2) (fun x hx => by rw [cl_own ci hL.1 f hL.2.1] at hx; exact hx) (by rw [fs_at hL.2.1, hr]; rfl) hd ?_
  exact kk p e s m args below meth c H locs lc C hl hP hS ⟨hk.1, ok_c (v := vI _) (hk.2.2 k f) (ok_tl hk.2.1), hk.2.2⟩
theorem r_getR (np : Nat) {ix k ci f : Nat} (hd : decode M.2.1 pc = .ok (.getfield ix, 3)) (hn : pc + 3 = np) (hL : LKF M.1.cls ix ci f) (hr : rfB ci f = true) (hk0 : k < gN G) (hs : gs G k = ci + 5) {q : Nat} (hq : gr G k f = q) (kk : Rr l G d M Φ np ls (vR q :: st) h) : Rr l G d M Φ pc ls (vR k :: st) h := by
  subst hn hq
  intro p e s m args below meth c H locs lc C hl hP hS hk
  refine va_get (D := gD G) (ci := ci) (v := .ref (ga G (gr G k f))) (C := clN ci) (T := clT ci) (N := nfs ci) C.1 C.2.1 (mc_in C) (cl_ws ci hL.1) C.2.2.2.2.1 C.2.2.2.2.2.2.2.1 hP k ((ws_at hk0).trans (by rw [ce_obj hs])) (cl_at ci hL.1) f hL.2.1 (mc_w C hL.2.2) (fun x hx => by rw [cl_own ci hL.1 f hL.2.1] at hx; exact hx) (by rw [fs_at hL.2.1, hr]; rfl) hd ?_
  exact kk p e s m args below meth c H locs lc C hl hP hS ⟨hk.1, ok_c (v := vR _) trivial (ok_tl hk.2.1), hk.2.2⟩
theorem r_putI (np : Nat) {ix k ci f : Nat} {v : Int} (hd : decode M.2.1 pc = .ok (.putfield ix, 3)) (hn : pc + 3 = np) (hL : LKF M.1.cls ix ci f) (hr : rfB ci f = false) (hfi : (clT ci f).2.2.2 = false) (hty : clY ci f = .int ∨ (clY ci f = .boolean ∧ (v = 0 ∨ v = 1))) (hk0 : k < gN G) (hs : gs G k = ci + 5) (kk : Rr l G d M Φ np ls st (up h k f v)) : Rr l G d M Φ pc ls (vI v :: vR k :: st) h := by
  subst hn
  intro p e s m args below meth c H locs lc C hl hP hS hk
  have hnar : narrow (clY ci f) (.int (Int32.ofInt v)) = .int (Int32.ofInt v) := by
    rcases hty with e1 | ⟨e1, e2⟩
    · rw [e1]; rfl
    · rw [e1]; rcases e2 with rfl | rfl <;> decide
  have hfit : fits (clY ci f) (.int (Int32.ofInt v)) = true := by
    rcases hty with e1 | ⟨e1, e2⟩
    · rw [e1]; rfl
    · rw [e1]; rcases e2 with rfl | rfl <;> decide
  refine va_put (D := gD G) (ci := ci) (v := .int (Int32.ofInt v)) (ty := clY ci f) (C := clN ci) (T := clT ci) (N := nfs ci) C.1 C.2.1 (mc_in C) (cl_ws ci hL.1) (clY ci) (cl_ty ci hL.1) (cl_nm ci hL.1) C.2.2.2.2.1 C.2.2.2.2.2.2.2.1 hP (ws_D C.2.2.2.2.2.2.2.2.2 h) hS k ((ws_at hk0).trans (by rw [ce_obj hs])) (cl_at ci hL.1) f hL.2.1 (mc_w C hL.2.2) (fun x hx => by rw [cl_own ci hL.1 f hL.2.1] at hx; exact hx) hfi (cl_ty ci hL.1 f hL.2.1) hnar hfit (by simp [fsOf]; exact hL.2.1) hd (fun H1 locs1 hP1 _ hS1 => ?_)
  rw [fs_set hL.2.1 hr, ← ce_obj hs, ws_set hk0] at hP1
  exact kk p e s m args below meth c H1 locs1 lc C hl hP1 hS1 ⟨hk.1, ok_tl (ok_tl hk.2.1), ok_up hk.2.2 (ok_hd hk.2.1)⟩
theorem tys_at : (tysOf G)[0]? = some (gC G 0, .int) ∧ (tysOf G)[1]? = some (gC G 1, .byte) ∧ (tysOf G)[2]? = some (gC G 2, .boolean) := ⟨rfl, rfl, rfl⟩
theorem r_iald (np : Nat) {k : Nat} {i : Int} (hd : decode M.2.1 pc = .ok (.iaload, 1)) (hn : pc + 1 = np) (hk0 : k < gN G) (hs : gs G k = 0) (h0 : 0 ≤ i) (h1 : i < gl G k) (kk : Rr l G d M Φ np ls (vI (h k i.toNat) :: st) h) : Rr l G d M Φ pc ls (vI i :: vR k :: st) h := by
  subst hn
  intro p e s m args below meth c H locs lc C hl hP hS hk
  have hi : in32 i := ok_hd hk.2.1
  refine va_iald (D := gD G) C.1 C.2.1 C.2.2.2.2.2.2.2.1 hP k 0 ((ws_at hk0).trans (by rw [ce_arr (by omega)])) (by rw [hs]; rfl) (i32_in hi h0 h1) hd ?_
  rw [i32_cl hi]
  exact kk p e s m args below meth c H locs lc C hl hP hS ⟨hk.1, ok_c (v := vI _) (hk.2.2 k _) (ok_tl (ok_tl hk.2.1)), hk.2.2⟩
theorem r_bald (np : Nat) {k : Nat} {i : Int} (hd : decode M.2.1 pc = .ok (.baload, 1)) (hn : pc + 1 = np) (hk0 : k < gN G) (hs : gs G k = 1) (h0 : 0 ≤ i) (h1 : i < gl G k) (kk : Rr l G d M Φ np ls (vI (h k i.toNat) :: st) h) : Rr l G d M Φ pc ls (vI i :: vR k :: st) h := by
  subst hn
  intro p e s m args below meth c H locs lc C hl hP hS hk
  have hi : in32 i := ok_hd hk.2.1
  refine va_bald (D := gD G) C.1 C.2.1 C.2.2.2.2.2.2.2.1 hP k 1 ((ws_at hk0).trans (by rw [ce_arr (by omega)])) (by rw [hs]; rfl) (i32_in hi h0 h1) hd ?_
  rw [i32_cl hi]
  exact kk p e s m args below meth c H locs lc C hl hP hS ⟨hk.1, ok_c (v := vI _) (hk.2.2 k _) (ok_tl (ok_tl hk.2.1)), hk.2.2⟩
theorem r_zald (np : Nat) {k : Nat} {i : Int} (hd : decode M.2.1 pc = .ok (.baload, 1)) (hn : pc + 1 = np) (hk0 : k < gN G) (hs : gs G k = 2) (h0 : 0 ≤ i) (h1 : i < gl G k) (kk : Rr l G d M Φ np ls (vI (h k i.toNat) :: st) h) : Rr l G d M Φ pc ls (vI i :: vR k :: st) h := by
  subst hn
  intro p e s m args below meth c H locs lc C hl hP hS hk
  have hi : in32 i := ok_hd hk.2.1
  refine va_zald (D := gD G) C.1 C.2.1 C.2.2.2.2.2.2.2.1 hP k 2 ((ws_at hk0).trans (by rw [ce_arr (by omega)])) (by rw [hs]; rfl) (i32_in hi h0 h1) hd ?_
  rw [i32_cl hi]
  exact kk p e s m args below meth c H locs lc C hl hP hS ⟨hk.1, ok_c (v := vI _) (hk.2.2 k _) (ok_tl (ok_tl hk.2.1)), hk.2.2⟩
theorem r_aald (np : Nat) {k : Nat} {i : Int} (hd : decode M.2.1 pc = .ok (.aaload, 1)) (hn : pc + 1 = np) (hk0 : k < gN G) (hs : gs G k = 3 ∨ gs G k = 4) (h0 : 0 ≤ i) (h1 : i < gl G k) {q : Nat} (hq : gr G k i.toNat = q) (kk : Rr l G d M Φ np ls (vR q :: st) h) : Rr l G d M Φ pc ls (vI i :: vR k :: st) h := by
  subst hn hq
  intro p e s m args below meth c H locs lc C hl hP hS hk
  have hi : in32 i := ok_hd hk.2.1
  rcases hs with hs | hs
  · refine va_aldq (D := gD G) (C := RX2) C.1 C.2.1 C.2.2.2.2.2.2.2.1 hP k 3 ((ws_at hk0).trans (by rw [ce_rarr (Or.inl hs)])) (by rw [hs]; rfl) (i32_in hi h0 h1) hd ?_
    rw [i32_cl hi]
    exact kk p e s m args below meth c H locs lc C hl hP hS ⟨hk.1, ok_c (v := vR _) trivial (ok_tl (ok_tl hk.2.1)), hk.2.2⟩
  · refine va_aldq (D := gD G) (C := RX0) C.1 C.2.1 C.2.2.2.2.2.2.2.1 hP k 4 ((ws_at hk0).trans (by rw [ce_rarr (Or.inr hs)])) (by rw [hs]; rfl) (i32_in hi h0 h1) hd ?_
    rw [i32_cl hi]
    exact kk p e s m args below meth c H locs lc C hl hP hS ⟨hk.1, ok_c (v := vR _) trivial (ok_tl (ok_tl hk.2.1)), hk.2.2⟩
theorem r_iast (np : Nat) {k : Nat} {i v : Int} (hd : decode M.2.1 pc = .ok (.iastore, 1)) (hn : pc + 1 = np) (hk0 : k < gN G) (hs : gs G k = 0) (h0 : 0 ≤ i) (h1 : i < gl G k) (kk : Rr l G d M Φ np ls st (up h k i.toNat v)) : Rr l G d M Φ pc ls (vI v :: vI i :: vR k :: st) h := by
  subst hn
  intro p e s m args below meth c H locs lc C hl hP hS hk
  have hi : in32 i := ok_hd (ok_tl hk.2.1)
  refine va_iast (D := gD G) C.1 C.2.1 C.2.2.2.2.2.2.2.1 hP (ws_D C.2.2.2.2.2.2.2.2.2 h) hS k 0 ((ws_at hk0).trans (by rw [ce_arr (by omega)])) (by rw [hs]; rfl) (i32_in hi h0 h1) hd (fun H1 locs1 hP1 _ hS1 => ?_)
  rw [z_arr_set hi, ← ce_arr (h := up h k i.toNat v) (by omega), ws_set hk0] at hP1
  exact kk p e s m args below meth c H1 locs1 lc C hl hP1 hS1 ⟨hk.1, ok_tl (ok_tl (ok_tl hk.2.1)), ok_up hk.2.2 (ok_hd hk.2.1)⟩
theorem nar_byte {v : Int} (h1 : -128 ≤ v) (h2 : v < 128) : vp_nar .byte (Int32.ofInt v) = Int32.ofInt v := by
  rw [vp_nar_byte]
  apply Int32.toInt_inj.mp
  have hv : in32 v := ⟨by omega, by omega⟩
  have e : (Int32.ofInt v).toInt8 = Int8.ofInt v := by
    apply Int8.toInt_inj.mp
    rw [Int8.toInt_ofInt_of_le (by omega) (by omega), Int32.toInt_toInt8, i32_t hv]
    exact Int.bmod_eq_of_le (by omega) (by omega)
  rw [e, Int8.toInt_toInt32, Int8.toInt_ofInt_of_le (by omega) (by omega), i32_t hv]
theorem r_bast (np : Nat) {k : Nat} {i v : Int} (hd : decode M.2.1 pc = .ok (.bastore, 1)) (hn : pc + 1 = np) (hk0 : k < gN G) (hs : gs G k = 1) (h0 : 0 ≤ i) (h1 : i < gl G k) (h2 : -128 ≤ v) (h3 : v < 128) (kk : Rr l G d M Φ np ls st (up h k i.toNat v)) : Rr l G d M Φ pc ls (vI v :: vI i :: vR k :: st) h := by
  subst hn
  intro p e s m args below meth c H locs lc C hl hP hS hk
  have hi : in32 i := ok_hd (ok_tl hk.2.1)
  refine va_bast (D := gD G) C.1 C.2.1 C.2.2.2.2.2.2.2.1 hP (ws_D C.2.2.2.2.2.2.2.2.2 h) hS k 1 ((ws_at hk0).trans (by rw [ce_arr (by omega)])) (by rw [hs]; rfl) (i32_in hi h0 h1) hd (fun H1 locs1 hP1 _ hS1 => ?_)
  rw [nar_byte h2 h3, z_arr_set hi, ← ce_arr (h := up h k i.toNat v) (by omega), ws_set hk0] at hP1
  exact kk p e s m args below meth c H1 locs1 lc C hl hP1 hS1 ⟨hk.1, ok_tl (ok_tl (ok_tl hk.2.1)), ok_up hk.2.2 (ok_hd hk.2.1)⟩
theorem nar_bool {v : Int} (h1 : v = 0 ∨ v = 1) : vp_nar .boolean (Int32.ofInt v) = Int32.ofInt v := by
  rcases h1 with rfl | rfl <;> decide
theorem r_zast (np : Nat) {k : Nat} {i v : Int} (hd : decode M.2.1 pc = .ok (.bastore, 1)) (hn : pc + 1 = np) (hk0 : k < gN G) (hs : gs G k = 2) (h0 : 0 ≤ i) (h1 : i < gl G k) (h2 : v = 0 ∨ v = 1) (kk : Rr l G d M Φ np ls st (up h k i.toNat v)) : Rr l G d M Φ pc ls (vI v :: vI i :: vR k :: st) h := by
  subst hn
  intro p e s m args below meth c H locs lc C hl hP hS hk
  have hi : in32 i := ok_hd (ok_tl hk.2.1)
  refine va_zast (D := gD G) C.1 C.2.1 C.2.2.2.2.2.2.2.1 hP (ws_D C.2.2.2.2.2.2.2.2.2 h) hS k 2 ((ws_at hk0).trans (by rw [ce_arr (by omega)])) (by rw [hs]; rfl) (i32_in hi h0 h1) hd (fun H1 locs1 hP1 _ hS1 => ?_)
  rw [nar_bool h2, z_arr_set hi, ← ce_arr (h := up h k i.toNat v) (by omega), ws_set hk0] at hP1
  exact kk p e s m args below meth c H1 locs1 lc C hl hP1 hS1 ⟨hk.1, ok_tl (ok_tl (ok_tl hk.2.1)), ok_up hk.2.2 (ok_hd hk.2.1)⟩
/-! calls -/
theorem cx_blind {av : List zV} : FrameBlind (va_Pc (av.map (cv G)) (Cx G h)) := by
  intro a U g mk q
  obtain ⟨q1, q2, q3, q4⟩ := q
  exact ⟨q1, q2, va_K.moved (u := U) (U := U.calling g mk a) (Vm.Alike.refl U.vm) q3, KK.same (u := U) (U := U.calling g mk a) rfl q4⟩
theorem cx_at {p : Program} {s : State} {m : MethodId} {args : Array Value} {meth : Method} {c : Code} {H : Heap} {locs : List Loc} {av : List zV} (C : MC G M p s m args meth c) (hP : va_P (gD G) vwCl (wsOf G h) H) (hS : va_S (inA G) s.heap H locs) : ∀ U : State, U.heap = H → s.WarmedH U.vm → va_Pc (av.map (cv G)) (Cx G h) (av.map (cv G)).toArray U := by
  intro U hU hW
  refine ⟨rfl, by rw [hU]; exact hP, va_K.moved hW.alike C.2.2.2.2.2.2.2.1, ?_⟩
  rw [hU]
  exact (KK.warm hW C.2.2.2.2.2.2.2.2.1).kept hS.2.1
theorem z_call {p : Program} {e : Env} {R : Room} {s : State} {m : MethodId} {args : Array Value} {below : List Frame} {meth : Method} {c : Code} {H : Heap} {locs : List Loc} {Q : State → Prop} {lc : Array Slot} {st0 rest : List Value} {a : Array Value} {Ψ : Option zV → zH → Prop} (hr : va_Run p l e R s m args below meth c H locs 0 0 0 0 (F0 m pc lc st0) rest (QQ G Ψ a) (inA G)) (hS : va_S (inA G) s.heap H locs)
    (kk : ∀ (r : Option zV) (h' : zH) (H1 : Heap) (locs1 : List Loc), Ψ r h' → (∀ v, r = some v → okv v) → okH h' → va_P (gD G) vwCl (wsOf G h') H1 → va_S (inA G) s.heap H1 locs1 → W p l e R s m args below meth c H1 locs1 0 0 Q (F0 m (pc + 3) lc ((r.map (cv G)).toList ++ rest))) : W p l e R s m args below meth c H locs 0 0 Q (F0 m pc lc st0) := by
  intro T hT X
  obtain ⟨v, st₀, t, T', L, h0, X', hL, e1, e2, ⟨⟨r, h', hv, hp, hok, hoH, hb⟩, hz, hk⟩, stp⟩ := hr T hT X
  cases hv
  rw [h0] at hz hk
  obtain ⟨t2, a1, b1⟩ := kk r h' T'.heap (locs ++ L) hp hok hoH (by rw [e1]; exact hb)
    ⟨Nat.le_trans hS.1 (by rw [e1]; exact hz), fun q h1 h2 => by rw [e1, hk q (Nat.lt_of_lt_of_le h1 hS.1) h2]; exact hS.2.1 q h1 h2, fun q hq => by
      rcases List.mem_append.mp hq with h | h
      · exact hS.2.2 q h
      · exact hL q h⟩ T' rfl X'
  exact ⟨t2, stp t2 a1, b1⟩
def cat1 : zV → Nat
  | .inr (.inl _) => 2
  | _ => 1
def stW : List zV → Nat
  | [] => 0
  | v :: l => cat1 v + stW l
theorem stW_eq : ∀ (st : List zV), ((st.map (cv G)).map fun v => v.category).sum = stW st := by
  intro st
  induction st with
  | nil => rfl
  | cons v l ih =>
    have e : (cv G v).category = cat1 v := by rcases v with x | x | x <;> rfl
    simp only [List.map_cons, List.sum_cons, stW, ih, e]
/-- what is decided of a method that is called: its name's class, how many parameters, its words among the tables' -/
def cOK (M : zM) (n : Nat) : Bool := decide (M.1.cls ≠ "java/lang/invoke/MethodHandle") && decide (M.1.cls ≠ "java/lang/invoke/VarHandle") && decide ((parseMethodDescriptor M.1.desc).map (fun d => d.parameters.length) = some n) && Nat.ble M.2.2.1 17
def cOKm (M : zM) : Prop := Cond.code M.1 M.2.1 M.2.2.1 M.2.2.2 ∈ ww
/-- a virtual call: the link, an instance method, it is the one that is taken -/
def LKV (own : String) (ix : Nat) (M : zM) : Prop := Cond.methodLink own ix M.1 ∈ ww ∧ Cond.instanceMethod M.1 ∈ ww ∧ Cond.selects M.1.cls M.1 M.1 ∈ ww ∧ Cond.initialized M.1.cls ∈ ww
def LKS (own : String) (ix : Nat) (M : zM) : Prop := Cond.methodLink own ix M.1 ∈ ww ∧ Cond.static M.1 ∈ ww ∧ Cond.initialized M.1.cls ∈ ww
theorem cb_of {p : Program} {s : State} {m : MethodId} {args : Array Value} {meth : Method} {c : Code} (C : MC G M p s m args meth c) {M' : zM} {ix n d' : Nat} (hm : cOKm M') (ho : cOK M' n = true) (hl : Cond.methodLink M.1.cls ix M'.1 ∈ ww) (hi : Cond.initialized M'.1.cls ∈ ww) (hd : Nat.ble (d' + 1) d = true) : CallB (rmD d) s args M.1.cls ix M'.1 M'.2.1 M'.2.2.1 M'.2.2.2 (wsM M') (rmD d') 0 0 n := by
  simp only [cOK, Bool.and_eq_true, decide_eq_true_eq] at ho
  obtain ⟨⟨⟨h1, h2⟩, h3⟩, h4⟩ := ho
  have h4 := Nat.le_of_ble_eq_true h4
  have h5 := Nat.le_of_ble_eq_true hd
  refine callB_of n (mc_in C) (good_M (fun w hw => hw) hm) rfl rfl rfl (mc_w C hi) (mc_w C hl) ⟨h1, h2, h3⟩ ⟨h5, ?_⟩
  show 8 + (M'.2.2.1 + 11) + 36 * d' ≤ 36 * d
  omega
/-- a call of an instance method, by contract -/
theorem r_callV (np : Nat) {ix k ci n d' : Nat} {as : List zV} {M' : zM} {Ψ : Option zV → zH → Prop} (hd : decode M.2.1 pc = .ok (.invokevirtual ix, 3)) (hn : pc + 3 = np) (hL : LKV M.1.cls ix M') (hm : cOKm M') (ho : cOK M' n = true) (hci : ci < 5) (hcl : M'.1.cls = clN ci) (hk0 : k < gN G) (hs : gs G k = ci + 5) (hdd : Nat.ble (d' + 1) d = true) (hM : Ca l G d' M' (vR k :: as) h Ψ) (hst : ∀ st', st' = as.reverse ++ vR k :: st → as.length = n) (hw : Nat.ble (stW st) 8 = true)
    (kk : ∀ r h', Ψ r h' → Rr l G d M Φ np ls (r.toList ++ st) h') : Rr l G d M Φ pc ls (as.reverse ++ vR k :: st) h := by
  subst hn
  intro p e s m args below meth c H locs lc C hl hP hS hk
  have hst := hst _ rfl
  have hok1 : ∀ v ∈ vR k :: as, okv v := by
    intro v hv
    rcases List.mem_cons.mp hv with rfl | hv
    · trivial
    · exact hk.2.1 v (List.mem_append_left _ (List.mem_reverse.mpr hv))
  have hM := hM C.2.2.2.2.2.2.2.2.2 hok1 hk.2.2
  have hE : (as.reverse ++ vR k :: st).map (cv G) = (as.map (cv G)).reverse ++ .ref (ga G k) :: st.map (cv G) := by simp [cv]
  rw [hE]
  refine z_call (va_runV (As := as.map (cv G)) (b := ga G k) (rest := st.map (cv G)) (C := clN ci) ⟨C.1, C.2.1, C.2.2.2.1, C.2.2.2.2.1, mc_in C⟩ hM ⟨cb_of C hm ho hL.1 hL.2.2.2 hdd, mc_w C hL.2.1, by have := mc_w C hL.2.2.1; rw [hcl] at this; exact this⟩ ⟨cx_blind, va_recv C.2.2.2.2.2.2.2.1 hP (cl_at ci hci) ((ws_at hk0).trans (by rw [ce_obj hs])), cx_at (av := vR k :: as) C hP hS⟩ rfl (by rw [List.length_map]; exact hst) hl.1 rfl (lv_room (by rw [stW_eq]; exact Nat.le_of_ble_eq_true hw)) hd ⟨Nat.le_refl _, Nat.le_refl _⟩) hS (fun r h' H1 locs1 hp hok hoH hP1 hS1 => ?_)
  have hE2 : (r.map (cv G)).toList ++ st.map (cv G) = (r.toList ++ st).map (cv G) := by cases r <;> simp
  rw [hE2]
  refine kk r h' hp p e s m args below meth c H1 locs1 lc C hl hP1 hS1 ⟨hk.1, fun v hv => ?_, hoH⟩
  rcases List.mem_append.mp hv with h1 | h1
  · exact hok v (by cases r with | none => simp at h1 | some w => simp at h1; rw [h1])
  · exact hk.2.1 v (List.mem_append_right _ (List.mem_cons_of_mem _ h1))
/-- a call of a static method, by contract -/
theorem r_callS (np : Nat) {ix n d' : Nat} {as : List zV} {M' : zM} {Ψ : Option zV → zH → Prop} (hd : decode M.2.1 pc = .ok (.invokestatic ix, 3)) (hn : pc + 3 = np) (hL : LKS M.1.cls ix M') (hm : cOKm M') (ho : cOK M' n = true) (hdd : Nat.ble (d' + 1) d = true) (hM : Ca l G d' M' as h Ψ) (hst : as.length = n) (hw : Nat.ble (stW st) 8 = true)
    (kk : ∀ r h', Ψ r h' → Rr l G d M Φ np ls (r.toList ++ st) h') : Rr l G d M Φ pc ls (as.reverse ++ st) h := by
  subst hn
  intro p e s m args below meth c H locs lc C hl hP hS hk
  have hM := hM C.2.2.2.2.2.2.2.2.2 (fun v hv => hk.2.1 v (List.mem_append_left _ (List.mem_reverse.mpr hv))) hk.2.2
  have hE : (as.reverse ++ st).map (cv G) = (as.map (cv G)).reverse ++ st.map (cv G) := by simp
  rw [hE]
  refine z_call (va_runS (As := as.map (cv G)) (rest := st.map (cv G)) ⟨C.1, C.2.1, C.2.2.2.1, C.2.2.2.2.1, mc_in C⟩ hM ⟨cb_of C hm ho hL.1 hL.2.2 hdd, mc_w C hL.2.1⟩ ⟨cx_blind, cx_at (av := as) C hP hS⟩ rfl (by rw [List.length_map]; exact hst) hl.1 rfl (lv_room (by rw [stW_eq]; exact Nat.le_of_ble_eq_true hw)) hd ⟨Nat.le_refl _, Nat.le_refl _⟩) hS (fun r h' H1 locs1 hp hok hoH hP1 hS1 => ?_)
  have hE2 : (r.map (cv G)).toList ++ st.map (cv G) = (r.toList ++ st).map (cv G) := by cases r <;> simp
  rw [hE2]
  refine kk r h' hp p e s m args below meth c H1 locs1 lc C hl hP1 hS1 ⟨hk.1, fun v hv => ?_, hoH⟩
  rcases List.mem_append.mp hv with h1 | h1
  · exact hok v (by cases r with | none => simp at h1 | some w => simp at h1; rw [h1])
  · exact hk.2.1 v (List.mem_append_right _ h1)
end RH
