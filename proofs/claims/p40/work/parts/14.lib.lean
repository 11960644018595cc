/-! Math, arraycopy; calls by the number of arguments -/
section RL
variable {l : Launch} {G : zG} {d : Nat} {M : zM} {Φ : Option zV → zH → Prop} {pc : Nat} {ls : List (Option zV)} {st : List zV} {h : zH}
def LKX (own : String) (ix : Nat) : Prop := Cond.methodLink own ix Lib.Math.max.name ∈ ww
def LKN (own : String) (ix : Nat) : Prop := Cond.methodLink own ix Lib.Math.min.name ∈ ww
def LKA (own : String) (ix : Nat) : Prop := Cond.methodLink own ix Lib.Math.abs.name ∈ ww
def LKC (own : String) (ix : Nat) : Prop := Cond.methodLink own ix arraycopyName ∈ ww
theorem ww_max1 : Cond.static Lib.Math.max.name ∈ ww := by decide +kernel
theorem ww_min1 : Cond.static Lib.Math.min.name ∈ ww := by decide +kernel
theorem ww_abs1 : Cond.static Lib.Math.abs.name ∈ ww := by decide +kernel
theorem ww_max2 : Cond.code Lib.Math.max.name Lib.Math.max.code 2 (some .int) ∈ ww := by decide +kernel
theorem ww_min2 : Cond.code Lib.Math.min.name Lib.Math.min.code 2 (some .int) ∈ ww := by decide +kernel
theorem ww_abs2 : Cond.code Lib.Math.abs.name Lib.Math.abs.code 1 (some .int) ∈ ww := by decide +kernel
theorem ww_math : Cond.initialized "java/lang/Math" ∈ ww := by decide +kernel
theorem ww_sys : Cond.initialized "java/lang/System" ∈ ww := by decide +kernel
theorem ww_cpy1 : Cond.native arraycopyName ∈ ww := by decide +kernel
theorem ww_cpy2 : Cond.static arraycopyName ∈ ww := by decide +kernel
theorem r_max (np : Nat) {ix : Nat} {x y : Int} (hd : decode M.2.1 pc = .ok (.invokestatic ix, 3)) (hn : pc + 3 = np) (hL : LKX M.1.cls ix) (hdd : Nat.ble 1 d = true) (hw : Nat.ble (stW st) 8 = true) (kk : Rr l G d M Φ np ls (vI (if x < y then y else x) :: st) h) : Rr l G d M Φ pc ls (vI y :: vI x :: st) h := by
  subst hn
  intro p e s m args below meth c H locs lc C hl hP hS hk
  have hy : in32 y := ok_hd hk.2.1
  have hx : in32 x := ok_hd (ok_tl hk.2.1)
  have h1 := Nat.le_of_ble_eq_true hdd
  have h2 := Nat.le_of_ble_eq_true hw
  have ev : (if Int32.ofInt x < Int32.ofInt y then Int32.ofInt y else Int32.ofInt x) = Int32.ofInt (if x < y then y else x) := by
    simp only [i32_lt hx hy]; split <;> rfl
  refine va_mmax C.1 C.2.1 (C.2.2.2.1.trans hl.1.symm) C.2.2.2.2.1 (mc_w C hL) (mc_w C ww_max1) (mc_w C ww_math) (mc_w C ww_max2) h1 (by rw [stW_eq]; show stW st + 13 ≤ 36 * d; omega) (Nat.le_refl _) (Nat.le_refl _) hd ?_
  rw [ev]
  exact kk p e s m args below meth c H locs lc C hl hP hS ⟨hk.1, ok_c (v := vI _) (by split; exact hy; exact hx) (ok_tl (ok_tl hk.2.1)), hk.2.2⟩
theorem r_min (np : Nat) {ix : Nat} {x y : Int} (hd : decode M.2.1 pc = .ok (.invokestatic ix, 3)) (hn : pc + 3 = np) (hL : LKN M.1.cls ix) (hdd : Nat.ble 1 d = true) (hw : Nat.ble (stW st) 8 = true) (kk : Rr l G d M Φ np ls (vI (if y < x then y else x) :: st) h) : Rr l G d M Φ pc ls (vI y :: vI x :: st) h := by
  subst hn
  intro p e s m args below meth c H locs lc C hl hP hS hk
  have hy : in32 y := ok_hd hk.2.1
  have hx : in32 x := ok_hd (ok_tl hk.2.1)
  have h1 := Nat.le_of_ble_eq_true hdd
  have h2 := Nat.le_of_ble_eq_true hw
  have ev : (if Int32.ofInt y < Int32.ofInt x then Int32.ofInt y else Int32.ofInt x) = Int32.ofInt (if y < x then y else x) := by
    simp only [i32_lt hy hx]; split <;> rfl
  refine va_mmin C.1 C.2.1 (C.2.2.2.1.trans hl.1.symm) C.2.2.2.2.1 (mc_w C hL) (mc_w C ww_min1) (mc_w C ww_math) (mc_w C ww_min2) h1 (by rw [stW_eq]; show stW st + 13 ≤ 36 * d; omega) (Nat.le_refl _) (Nat.le_refl _) hd ?_
  rw [ev]
  exact kk p e s m args below meth c H locs lc C hl hP hS ⟨hk.1, ok_c (v := vI _) (by split; exact hy; exact hx) (ok_tl (ok_tl hk.2.1)), hk.2.2⟩
theorem r_abs (np : Nat) {ix : Nat} {x : Int} (hd : decode M.2.1 pc = .ok (.invokestatic ix, 3)) (hn : pc + 3 = np) (hL : LKA M.1.cls ix) (hdd : Nat.ble 1 d = true) (hw : Nat.ble (stW st) 8 = true) (h0 : -2147483648 < x) (kk : Rr l G d M Φ np ls (vI (if 0 ≤ x then x else -x) :: st) h) : Rr l G d M Φ pc ls (vI x :: st) h := by
  subst hn
  intro p e s m args below meth c H locs lc C hl hP hS hk
  have hx : in32 x := ok_hd hk.2.1
  have h1 := Nat.le_of_ble_eq_true hdd
  have h2 := Nat.le_of_ble_eq_true hw
  have ev : (if 0 ≤ Int32.ofInt x then Int32.ofInt x else 0 - Int32.ofInt x) = Int32.ofInt (if 0 ≤ x then x else -x) := by
    rw [i32_0]
    simp only [i32_le in32_0 hx]
    split
    · rfl
    · rw [← Int32.ofInt_sub]; congr 1; omega
  refine va_mabs C.1 C.2.1 (C.2.2.2.1.trans hl.1.symm) C.2.2.2.2.1 (mc_w C hL) (mc_w C ww_abs1) (mc_w C ww_math) (mc_w C ww_abs2) h1 (by rw [stW_eq]; show stW st + 13 ≤ 36 * d; omega) (Nat.le_refl _) (Nat.le_refl _) hd ?_
  rw [ev]
  exact kk p e s m args below meth c H locs lc C hl hP hS ⟨hk.1, ok_c (v := vI _) (by have := hx.1; have := hx.2; split <;> exact ⟨by omega, by omega⟩) (ok_tl hk.2.1), hk.2.2⟩
/-- row k1 becomes what row k0 is, in its first n places -/
def cpy (h : zH) (k0 k1 n : Nat) : zH := fun a b => if a = k1 ∧ b < n then h k0 b else h a b
theorem ws_set' {h' : zH} {k : Nat} (hk : k < gN G) (he : ∀ a, a ≠ k → ∀ b, h' a b = h a b) : (wsOf G h).set k (ga G k, ceOf G h' k) = wsOf G h' := by
  apply List.ext_getElem?
  intro i
  by_cases hi : i = k
  · subst hi
    rw [List.getElem?_set_self (by simpa [wsOf] using hk), ws_at hk]
  · rw [List.getElem?_set_ne (Ne.symm hi)]
    by_cases h2 : i < gN G
    · rw [ws_at h2, ws_at h2]
      have e : ∀ b, h' i b = h i b := he i hi
      simp only [ceOf, fsOf, e]
    · rw [List.getElem?_eq_none (by simpa [wsOf] using h2), List.getElem?_eq_none (by simpa [wsOf] using h2)]
theorem r_copy (np : Nat) {ix k0 k1 n : Nat} {i : Int} (hd : decode M.2.1 pc = .ok (.invokestatic ix, 3)) (hn : pc + 3 = np) (hL : LKC M.1.cls ix) (hdd : Nat.ble 1 d = true) (hw : Nat.ble (stW st) 2 = true) (hk0 : k0 < gN G) (hk1 : k1 < gN G) (hs0 : gs G k0 = 0) (hs1 : gs G k1 = 0) (hi : i = (n : Int)) (hl0 : n ≤ gl G k0) (hl1 : n ≤ gl G k1) (kk : Rr l G d M Φ np ls st (cpy h k0 k1 n)) : Rr l G d M Φ pc ls (vI i :: vI 0 :: vR k1 :: vI 0 :: vR k0 :: st) h := by
  subst hn hi
  intro p e s m args below meth c H locs lc C hl hP hS hk
  have hi : in32 (n : Int) := ok_hd hk.2.1
  have h1 := Nat.le_of_ble_eq_true hdd
  have h2 := Nat.le_of_ble_eq_true hw
  have e0 : (Int32.ofInt 0).toNatClampNeg = 0 := by decide
  have en : (Int32.ofInt (n : Int)).toNatClampNeg = n := by rw [i32_cl hi]; rfl
  have nn : ¬ Int32.ofInt (n : Int) < 0 := by rw [i32_0, i32_lt hi in32_0]; omega
  have n0 : ¬ Int32.ofInt 0 < 0 := by decide
  have hwd : nativeFrameWords "java/lang/System" "arraycopy" 5 + 11 ≤ 34 := by decide
  refine va_copyi (D := gD G) C.1 C.2.1 (C.2.2.2.1.trans hl.1.symm) C.2.2.2.2.1 (mc_w C hL) (mc_w C ww_cpy1) (mc_w C ww_cpy2) (mc_w C ww_sys) C.2.2.2.2.2.2.2.1 hP (ws_D C.2.2.2.2.2.2.2.2.2 h) hS k0 k1 0 0 (ty := .int) ((ws_at hk0).trans (by rw [ce_arr (by omega)])) ((ws_at hk1).trans (by rw [ce_arr (by omega)])) (by rw [hs0]; rfl) (by rw [hs1]; rfl) rfl n0 n0 nn (by rw [e0, en]; omega) (by rw [e0, en]; omega) (fun _ _ => rfl) h1 (by rw [stW_eq]; show stW st + _ ≤ 36 * d; omega) hd (fun H1 locs1 hP1 _ hS1 => ?_)
  rw [e0, en] at hP1
  have ec : va_cpy (fun j => Int32.ofInt (h k0 j)) (fun j => Int32.ofInt (h k1 j)) 0 0 n = fun j => Int32.ofInt (cpy h k0 k1 n k1 j) := by
    funext j
    simp only [va_cpy, cpy, Nat.zero_le, true_and, Nat.zero_add, Nat.sub_zero]
    split <;> rfl
  rw [ec, ← ce_arr (h := cpy h k0 k1 n) (by omega), ws_set' hk1 (fun a ha b => by simp [cpy, ha])] at hP1
  refine kk p e s m args below meth c H1 locs1 lc C hl hP1 hS1 ⟨hk.1, ok_tl (ok_tl (ok_tl (ok_tl (ok_tl hk.2.1)))), fun a b => ?_⟩
  unfold cpy
  split
  · exact hk.2.2 k0 b
  · exact hk.2.2 a b
theorem r_nlen (np : Nat) (hd : decode M.2.1 pc = .ok (.arraylength, 1)) (hn : pc + 1 = np) (kk : Rr l G d M Φ np ls (vI 7 :: st) h) : Rr l G d M Φ pc ls (vR 2000 :: st) h := by
  subst hn
  intro p e s m args below meth c H locs lc C hl hP hS hk
  obtain ⟨cell, q1, q2, q3, q4, q5, q6, q7⟩ := C.2.2.2.2.2.2.2.2.1.2.1.kept hS.2.1
  refine W.alen (n := Int32.ofNat 7) C.1 C.2.1 q1 q2 q5 rfl rfl hd ?_
  exact kk p e s m args below meth c H locs lc C hl hP hS ⟨hk.1, ok_c (v := vI 7) ⟨by decide, by decide⟩ (ok_tl hk.2.1), hk.2.2⟩
theorem r_nald (np : Nat) {i : Int} (hd : decode M.2.1 pc = .ok (.iaload, 1)) (hn : pc + 1 = np) (h0 : 0 ≤ i) (h1 : i < 7) (kk : Rr l G d M Φ np ls (vI (zNear i.toNat) :: st) h) : Rr l G d M Φ pc ls (vI i :: vR 2000 :: st) h := by
  subst hn
  intro p e s m args below meth c H locs lc C hl hP hS hk
  have hi : in32 i := ok_hd hk.2.1
  obtain ⟨cell, q1, q2, q3, q4, q5, q6, q7⟩ := C.2.2.2.2.2.2.2.2.1.2.1.kept hS.2.1
  refine W.iald (v := .int (Int32.ofInt (zNear i.toNat))) C.1 C.2.1 q1 q2 q3 (fun z => ?_) (by rw [i32_cl hi]; exact q6 _ (by omega)) rfl rfl hd ?_
  · rw [i32_cl hi, i32_0, i32_lt hi in32_0] at z
    omega
  · have hz : ∀ j, j < 7 → in32 (zNear j) := by
      intro j hj
      have : j = 0 ∨ j = 1 ∨ j = 2 ∨ j = 3 ∨ j = 4 ∨ j = 5 ∨ j = 6 := by omega
      rcases this with rfl | rfl | rfl | rfl | rfl | rfl | rfl <;> exact ⟨by decide, by decide⟩
    exact kk p e s m args below meth c H locs lc C hl hP hS ⟨hk.1, ok_c (v := vI _) (hz _ (by omega)) (ok_tl (ok_tl hk.2.1)), hk.2.2⟩
/-- a call site: class own, entry ix, is a call of the instance method M' of class ci with n parameters -/
def CV (own : String) (ix : Nat) (M' : zM) (n ci : Nat) : Prop := LKV own ix M' ∧ cOKm M' ∧ cOK M' n = true ∧ ci < 5 ∧ M'.1.cls = clN ci
def CS (own : String) (ix : Nat) (M' : zM) (n : Nat) : Prop := LKS own ix M' ∧ cOKm M' ∧ cOK M' n = true
variable {ix k ci d' : Nat} {M' : zM} {Ψ : Option zV → zH → Prop} {v1 v2 v3 v4 : zV}
theorem r_cv0 (np : Nat) (hd : decode M.2.1 pc = .ok (.invokevirtual ix, 3)) (hn : pc + 3 = np) (hC : CV M.1.cls ix M' 0 ci) (hk0 : k < gN G) (hs : gs G k = ci + 5) (hdd : Nat.ble (d' + 1) d = true) (hw : Nat.ble (stW st) 8 = true) (hM : Ca l G d' M' [vR k] h Ψ)
    (kk : ∀ r h', Ψ r h' → Rr l G d M Φ np ls (r.toList ++ st) h') : Rr l G d M Φ pc ls (vR k :: st) h :=
  r_callV np (as := []) hd hn hC.1 hC.2.1 hC.2.2.1 hC.2.2.2.1 hC.2.2.2.2 hk0 hs hdd hM (fun _ _ => rfl) hw kk
theorem r_cv1 (np : Nat) (hd : decode M.2.1 pc = .ok (.invokevirtual ix, 3)) (hn : pc + 3 = np) (hC : CV M.1.cls ix M' 1 ci) (hk0 : k < gN G) (hs : gs G k = ci + 5) (hdd : Nat.ble (d' + 1) d = true) (hw : Nat.ble (stW st) 8 = true) (hM : Ca l G d' M' [vR k, v1] h Ψ)
    (kk : ∀ r h', Ψ r h' → Rr l G d M Φ np ls (r.toList ++ st) h') : Rr l G d M Φ pc ls (v1 :: vR k :: st) h :=
  r_callV np (as := [v1]) hd hn hC.1 hC.2.1 hC.2.2.1 hC.2.2.2.1 hC.2.2.2.2 hk0 hs hdd hM (fun _ _ => rfl) hw kk
theorem r_cv2 (np : Nat) (hd : decode M.2.1 pc = .ok (.invokevirtual ix, 3)) (hn : pc + 3 = np) (hC : CV M.1.cls ix M' 2 ci) (hk0 : k < gN G) (hs : gs G k = ci + 5) (hdd : Nat.ble (d' + 1) d = true) (hw : Nat.ble (stW st) 8 = true) (hM : Ca l G d' M' [vR k, v1, v2] h Ψ)
    (kk : ∀ r h', Ψ r h' → Rr l G d M Φ np ls (r.toList ++ st) h') : Rr l G d M Φ pc ls (v2 :: v1 :: vR k :: st) h :=
  r_callV np (as := [v1, v2]) hd hn hC.1 hC.2.1 hC.2.2.1 hC.2.2.2.1 hC.2.2.2.2 hk0 hs hdd hM (fun _ _ => rfl) hw kk
theorem r_cv3 (np : Nat) (hd : decode M.2.1 pc = .ok (.invokevirtual ix, 3)) (hn : pc + 3 = np) (hC : CV M.1.cls ix M' 3 ci) (hk0 : k < gN G) (hs : gs G k = ci + 5) (hdd : Nat.ble (d' + 1) d = true) (hw : Nat.ble (stW st) 8 = true) (hM : Ca l G d' M' [vR k, v1, v2, v3] h Ψ)
    (kk : ∀ r h', Ψ r h' → Rr l G d M Φ np ls (r.toList ++ st) h') : Rr l G d M Φ pc ls (v3 :: v2 :: v1 :: vR k :: st) h :=
  r_callV np (as := [v1, v2, v3]) hd hn hC.1 hC.2.1 hC.2.2.1 hC.2.2.2.1 hC.2.2.2.2 hk0 hs hdd hM (fun _ _ => rfl) hw kk
theorem r_cv4 (np : Nat) (hd : decode M.2.1 pc = .ok (.invokevirtual ix, 3)) (hn : pc + 3 = np) (hC : CV M.1.cls ix M' 4 ci) (hk0 : k < gN G) (hs : gs G k = ci + 5) (hdd : Nat.ble (d' + 1) d = true) (hw : Nat.ble (stW st) 8 = true) (hM : Ca l G d' M' [vR k, v1, v2, v3, v4] h Ψ)
    (kk : ∀ r h', Ψ r h' → Rr l G d M Φ np ls (r.toList ++ st) h') : Rr l G d M Φ pc ls (v4 :: v3 :: v2 :: v1 :: vR k :: st) h :=
  r_callV np (as := [v1, v2, v3, v4]) hd hn hC.1 hC.2.1 hC.2.2.1 hC.2.2.2.1 hC.2.2.2.2 hk0 hs hdd hM (fun _ _ => rfl) hw kk
theorem r_cs1 (np : Nat) (hd : decode M.2.1 pc = .ok (.invokestatic ix, 3)) (hn : pc + 3 = np) (hC : CS M.1.cls ix M' 1) (hdd : Nat.ble (d' + 1) d = true) (hw : Nat.ble (stW st) 8 = true) (hM : Ca l G d' M' [v1] h Ψ)
    (kk : ∀ r h', Ψ r h' → Rr l G d M Φ np ls (r.toList ++ st) h') : Rr l G d M Φ pc ls (v1 :: st) h :=
  r_callS np (as := [v1]) hd hn hC.1 hC.2.1 hC.2.2 hdd hM rfl hw kk
theorem r_cs2 (np : Nat) (hd : decode M.2.1 pc = .ok (.invokestatic ix, 3)) (hn : pc + 3 = np) (hC : CS M.1.cls ix M' 2) (hdd : Nat.ble (d' + 1) d = true) (hw : Nat.ble (stW st) 8 = true) (hM : Ca l G d' M' [v1, v2] h Ψ)
    (kk : ∀ r h', Ψ r h' → Rr l G d M Φ np ls (r.toList ++ st) h') : Rr l G d M Φ pc ls (v2 :: v1 :: st) h :=
  r_callS np (as := [v1, v2]) hd hn hC.1 hC.2.1 hC.2.2 hdd hM rfl hw kk
theorem r_cs3 (np : Nat) (hd : decode M.2.1 pc = .ok (.invokestatic ix, 3)) (hn : pc + 3 = np) (hC : CS M.1.cls ix M' 3) (hdd : Nat.ble (d' + 1) d = true) (hw : Nat.ble (stW st) 8 = true) (hM : Ca l G d' M' [v1, v2, v3] h Ψ)
    (kk : ∀ r h', Ψ r h' → Rr l G d M Φ np ls (r.toList ++ st) h') : Rr l G d M Φ pc ls (v3 :: v2 :: v1 :: st) h :=
  r_callS np (as := [v1, v2, v3]) hd hn hC.1 hC.2.1 hC.2.2 hdd hM rfl hw kk
end RL
