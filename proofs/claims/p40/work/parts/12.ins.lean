/-! a row for each instruction, in the pure layer (laid by wip/gen/ins.py) -/
def plOf (G : zG) (ls : List (Option zV)) (n : Nat) : List (Nat × Value) := (List.range n).filterMap (fun i => match ls[i]? with
  | some (some v) => some (i, cv G v)
  | _ => none)
theorem pl_mem {G : zG} {ls : List (Option zV)} {n i : Nat} {v : zV} (hi : i < n) (e : ls[i]? = some (some v)) : (i, cv G v) ∈ plOf G ls n :=
  List.mem_filterMap.mpr ⟨i, List.mem_range.mpr hi, by rw [e]⟩
theorem lvs.has {G : zG} {lc : Array Slot} {n : Nat} {ls : List (Option zV)} (h : lvs G lc n ls) : lv_has lc n (plOf G ls n) := by
  refine ⟨h.1, h.2.1, fun q hq => ?_⟩
  obtain ⟨i, -, e⟩ := List.mem_filterMap.mp hq
  cases hl : ls[i]? with
  | none => rw [hl] at e; cases e
  | some o =>
    cases o with
    | none => rw [hl] at e; cases e
    | some v =>
      rw [hl] at e
      cases e
      exact h.2.2 i v hl
theorem lvs.lt {G : zG} {lc : Array Slot} {n : Nat} {ls : List (Option zV)} (h : lvs G lc n ls) {i : Nat} {v : zV} (e : ls[i]? = some (some v)) : i < n := by
  have := lv_lt (h.2.2 i v e)
  rw [h.1] at this
  exact this
/-- no long lies just below place i -/
def noL (ls : List (Option zV)) (i : Nat) : Bool := match i with
  | 0 => true
  | i + 1 => match ls[i]? with
    | some (some (.inr (.inl _))) => false
    | _ => true
theorem noL_cat {G : zG} {ls : List (Option zV)} {j : Nat} {w : zV} (hn : noL ls (j + 1) = true) (e : ls[j]? = some (some w)) : (cv G w).category = 1 := by
  simp only [noL, e] at hn
  rcases w with x | x | x
  · rfl
  · cases hn
  · rfl
theorem lvs.set1 {G : zG} {lc lc' : Array Slot} {n i : Nat} {ls : List (Option zV)} {v : zV} (h : lvs G lc n ls) (hn : noL ls i = true) (h' : lv_has lc' n ((i, cv G v) :: (plOf G ls n).filter (fun q => !(q.1 == i) && !(q.1 + 1 == i && q.2.category == 2)))) : lvs G lc' n (ls.set i (some v)) := by
  refine ⟨h'.1, h'.2.1, fun j w e => ?_⟩
  by_cases hj : j = i
  · subst hj
    have hlt : j < ls.length := by
      have := (List.getElem?_eq_some_iff.mp e).1
      simpa using this
    rw [List.getElem?_set_self hlt] at e
    cases e
    exact h'.2.2 (j, cv G v) List.mem_cons_self
  · rw [List.getElem?_set_ne (Ne.symm hj)] at e
    refine h'.2.2 (j, cv G w) (List.mem_cons_of_mem _ (List.mem_filter.mpr ⟨pl_mem (h.lt e) e, ?_⟩))
    have h1 : (j == i) = false := by simpa using hj
    by_cases h2 : j + 1 = i
    · subst h2
      simp [noL_cat (G := G) hn e]
    · have h3 : (j + 1 == i) = false := by simpa using h2
      simp [h1, h3]
theorem lvs.set2 {G : zG} {lc lc' : Array Slot} {n i : Nat} {ls : List (Option zV)} {v : zV} (h : lvs G lc n ls) (hn : noL ls i = true) (h' : lv_has lc' n ((i, cv G v) :: (plOf G ls n).filter (fun q => !(q.1 == i) && (!(q.1 == i + 1) && !(q.1 + 1 == i && q.2.category == 2))))) : lvs G lc' n ((ls.set i (some v)).set (i + 1) none) := by
  refine ⟨h'.1, h'.2.1, fun j w e => ?_⟩
  by_cases hj1 : j = i + 1
  · subst hj1
    have hlt : i + 1 < (ls.set i (some v)).length := by
      have := (List.getElem?_eq_some_iff.mp e).1
      simpa using this
    rw [List.getElem?_set_self hlt] at e
    cases e
  · rw [List.getElem?_set_ne (Ne.symm hj1)] at e
    by_cases hj : j = i
    · subst hj
      have hlt : j < ls.length := by
        have := (List.getElem?_eq_some_iff.mp e).1
        simpa using this
      rw [List.getElem?_set_self hlt] at e
      cases e
      exact h'.2.2 (j, cv G v) List.mem_cons_self
    · rw [List.getElem?_set_ne (Ne.symm hj)] at e
      refine h'.2.2 (j, cv G w) (List.mem_cons_of_mem _ (List.mem_filter.mpr ⟨pl_mem (h.lt e) e, ?_⟩))
      have h1 : (j == i) = false := by simpa using hj
      have h4 : (j == i + 1) = false := by simpa using hj1
      by_cases h2 : j + 1 = i
      · subst h2
        simp [noL_cat (G := G) hn e]
        omega
      · have h3 : (j + 1 == i) = false := by simpa using h2
        simp [h1, h3]
        omega
theorem ok_set {ls : List (Option zV)} {i : Nat} {v : zV} (h : ∀ v, some v ∈ ls → okv v) (hv : okv v) : ∀ w, some w ∈ ls.set i (some v) → okv w := by
  intro w hw
  rcases List.mem_or_eq_of_mem_set hw with h1 | h1
  · exact h w h1
  · cases h1; exact hv
theorem ok_setn {ls : List (Option zV)} {i : Nat} (h : ∀ v, some v ∈ ls → okv v) : ∀ w, some w ∈ ls.set i none → okv w := by
  intro w hw
  rcases List.mem_or_eq_of_mem_set hw with h1 | h1
  · exact h w h1
  · cases h1
theorem ok_c {st : List zV} {v : zV} (hv : okv v) (h : ∀ v ∈ st, okv v) : ∀ w ∈ v :: st, okv w := fun w hw => by
  rcases List.mem_cons.mp hw with rfl | h1
  · exact hv
  · exact h w h1
theorem ok_hd {st : List zV} {v : zV} (h : ∀ w ∈ v :: st, okv w) : okv v := h v List.mem_cons_self
theorem ok_tl {st : List zV} {v : zV} (h : ∀ w ∈ v :: st, okv w) : ∀ w ∈ st, okv w := fun w hw => h w (List.mem_cons_of_mem _ hw)
theorem ok_up {h : zH} {k j : Nat} {v : Int} (hh : okH h) (hv : in32 v) : okH (up h k j v) := fun a b => by
  by_cases q : a = k ∧ b = j
  · obtain ⟨rfl, rfl⟩ := q; rw [up_s]; exact hv
  · rw [up_n q]; exact hh a b
def b32 (n : Int) : Bool := decide (-2147483648 ≤ n) && decide (n < 2147483648)
def b64 (n : Int) : Bool := decide (-9223372036854775808 ≤ n) && decide (n < 9223372036854775808)
theorem b32_in {n : Int} (h : b32 n = true) : in32 n := by simp [b32] at h; exact h
theorem b64_in {n : Int} (h : b64 n = true) : in64 n := by simp [b64] at h; exact h
section RI
variable {l : Launch} {G : zG} {d : Nat} {M : zM} {Φ : Option zV → zH → Prop} {pc : Nat} {ls : List (Option zV)} {st : List zV} {h : zH}
theorem r_iconst (np : Nat) {n : Int} (hd : decode M.2.1 pc = .ok (.iconst n, 1)) (hn : pc + 1 = np) (hr : b32 n = true) (k : Rr l G d M Φ np ls (vI n :: st) h) : Rr l G d M Φ pc ls st h := by
  subst hn
  intro p e s m args below meth c H locs lc C hl hP hS hk
  refine lv_iconst C.1 C.2.1 hd rfl ?_
  exact k p e s m args below meth c H locs lc C hl hP hS ⟨hk.1, ok_c (b32_in hr) hk.2.1, hk.2.2⟩
theorem r_bipush (np : Nat) {n : Int} (hd : decode M.2.1 pc = .ok (.bipush n, 2)) (hn : pc + 2 = np) (hr : b32 n = true) (hv : (Int8.ofInt n).toInt32 = Int32.ofInt n) (k : Rr l G d M Φ np ls (vI n :: st) h) : Rr l G d M Φ pc ls st h := by
  subst hn
  intro p e s m args below meth c H locs lc C hl hP hS hk
  refine lv_bipush C.1 C.2.1 hd hv ?_
  exact k p e s m args below meth c H locs lc C hl hP hS ⟨hk.1, ok_c (b32_in hr) hk.2.1, hk.2.2⟩
theorem r_sipush (np : Nat) {n : Int} (hd : decode M.2.1 pc = .ok (.sipush n, 3)) (hn : pc + 3 = np) (hr : b32 n = true) (hv : (Int16.ofInt n).toInt32 = Int32.ofInt n) (k : Rr l G d M Φ np ls (vI n :: st) h) : Rr l G d M Φ pc ls st h := by
  subst hn
  intro p e s m args below meth c H locs lc C hl hP hS hk
  refine lv_sipush C.1 C.2.1 hd hv ?_
  exact k p e s m args below meth c H locs lc C hl hP hS ⟨hk.1, ok_c (b32_in hr) hk.2.1, hk.2.2⟩
theorem r_lconst (np : Nat) {n : Fin 2} (hd : decode M.2.1 pc = .ok (.lconst n, 1)) (hn : pc + 1 = np) (v : Int) (hr : b64 v = true) (hv : Int64.ofNat (n : Nat) = Int64.ofInt v) (k : Rr l G d M Φ np ls (vL v :: st) h) : Rr l G d M Φ pc ls st h := by
  subst hn
  intro p e s m args below meth c H locs lc C hl hP hS hk
  refine lv_lconst C.1 C.2.1 hd hv ?_
  exact k p e s m args below meth c H locs lc C hl hP hS ⟨hk.1, ok_c (v := vL v) (b64_in hr) hk.2.1, hk.2.2⟩
theorem mc_w {p : Program} {s : State} {m : MethodId} {args : Array Value} {meth : Method} {c : Code} (C : MC G M p s m args meth c) {w : Cond} (hw : w ∈ ww) : w.before args s = true := C.2.2.2.2.2.1 w (List.mem_cons_of_mem _ hw)
theorem r_ldc (np : Nat) {i : Nat} (v : Int) (hd : decode M.2.1 pc = .ok (.ldc i, 2)) (hn : pc + 2 = np) (hw : Cond.constant M.1.cls i (Int32.ofInt v) ∈ ww) (hr : b32 v = true) (k : Rr l G d M Φ np ls (vI v :: st) h) : Rr l G d M Φ pc ls st h := by
  subst hn
  intro p e s m args below meth c H locs lc C hl hP hS hk
  refine lv_ldc C.1 C.2.1 C.2.2.2.2.1 (mc_w C hw) hd ?_
  exact k p e s m args below meth c H locs lc C hl hP hS ⟨hk.1, ok_c (b32_in hr) hk.2.1, hk.2.2⟩
theorem r_ldc2 (np : Nat) {i : Nat} (v : Int) (hd : decode M.2.1 pc = .ok (.ldc2_w i, 3)) (hn : pc + 3 = np) (hw : Cond.constantLong M.1.cls i (Int64.ofInt v) ∈ ww) (hr : b64 v = true) (k : Rr l G d M Φ np ls (vL v :: st) h) : Rr l G d M Φ pc ls st h := by
  subst hn
  intro p e s m args below meth c H locs lc C hl hP hS hk
  refine lv_ldc2 C.1 C.2.1 C.2.2.2.2.1 (mc_w C hw) hd ?_
  exact k p e s m args below meth c H locs lc C hl hP hS ⟨hk.1, ok_c (v := vL v) (b64_in hr) hk.2.1, hk.2.2⟩
/-- a String constant -/
theorem r_ldcS (np i : Nat) {ix : Nat} (hd : decode M.2.1 pc = .ok (.ldc ix, 2)) (hn : pc + 2 = np) (hi : i < 8) (hx : ix = 152 + 2 * i) (ho : M.1.cls = RX1) (k : Rr l G d M Φ np ls (vR (1000 + i) :: st) h) : Rr l G d M Φ pc ls st h := by
  subst hn hx
  intro p e s m args below meth c H locs lc C hl hP hS hk
  have hK := C.2.2.2.2.2.2.2.2.1.2.2.2.1 i hi
  rw [← ho] at hK
  refine va_ldcS C.1 C.2.1 C.2.2.2.2.1 hK hd ?_
  exact k p e s m args below meth c H locs lc C hl hP hS ⟨hk.1, ok_c (v := vR (1000 + i)) trivial hk.2.1, hk.2.2⟩
/-- the static row -/
theorem r_near (np : Nat) {ix : Nat} (hd : decode M.2.1 pc = .ok (.getstatic ix, 3)) (hn : pc + 3 = np) (hw : Cond.fieldLink M.1.cls ix RX3 "NEAREST_LEANS" "[I" ∈ ww) (k : Rr l G d M Φ np ls (vR 2000 :: st) h) : Rr l G d M Φ pc ls st h := by
  subst hn
  intro p e s m args below meth c H locs lc C hl hP hS hk
  have hK := C.2.2.2.2.2.2.2.2.1.1
  refine va_gets C.1 C.2.1 hK hS C.2.2.2.2.1 (mc_w C hw) (fun _ q => q) hd ?_
  exact k p e s m args below meth c H locs lc C hl hP hS ⟨hk.1, ok_c (v := vR 2000) trivial hk.2.1, hk.2.2⟩

theorem r_iload_n (np : Nat) {q : Fin 4} {x : Int} (hd : decode M.2.1 pc = .ok (.iload_n q, 1)) (hn : pc + 1 = np) (hx : ls[(q : Nat)]? = some (some (vI x))) (k : Rr l G d M Φ np ls (vI x :: st) h) : Rr l G d M Φ pc ls st h := by
  subst hn
  intro p e s m args below meth c H locs lc C hl hP hS hk
  refine lv_iload_n C.1 C.2.1 hd rfl (hl.2.2 _ _ hx) ?_
  exact k p e s m args below meth c H locs lc C hl hP hS ⟨hk.1, ok_c (v := vI x) (hk.1 _ (List.mem_of_getElem? hx)) hk.2.1, hk.2.2⟩
theorem r_iload (np : Nat) {q : Nat} {x : Int} (hd : decode M.2.1 pc = .ok (.iload q, 2)) (hn : pc + 2 = np) (hx : ls[q]? = some (some (vI x))) (k : Rr l G d M Φ np ls (vI x :: st) h) : Rr l G d M Φ pc ls st h := by
  subst hn
  intro p e s m args below meth c H locs lc C hl hP hS hk
  refine lv_iload C.1 C.2.1 hd (hl.2.2 _ _ hx) ?_
  exact k p e s m args below meth c H locs lc C hl hP hS ⟨hk.1, ok_c (v := vI x) (hk.1 _ (List.mem_of_getElem? hx)) hk.2.1, hk.2.2⟩
theorem r_lload_n (np : Nat) {q : Fin 4} {x : Int} (hd : decode M.2.1 pc = .ok (.lload_n q, 1)) (hn : pc + 1 = np) (hx : ls[(q : Nat)]? = some (some (vL x))) (k : Rr l G d M Φ np ls (vL x :: st) h) : Rr l G d M Φ pc ls st h := by
  subst hn
  intro p e s m args below meth c H locs lc C hl hP hS hk
  refine lv_lload_n C.1 C.2.1 hd rfl (hl.2.2 _ _ hx) ?_
  exact k p e s m args below meth c H locs lc C hl hP hS ⟨hk.1, ok_c (v := vL x) (hk.1 _ (List.mem_of_getElem? hx)) hk.2.1, hk.2.2⟩
theorem r_lload (np : Nat) {q : Nat} {x : Int} (hd : decode M.2.1 pc = .ok (.lload q, 2)) (hn : pc + 2 = np) (hx : ls[q]? = some (some (vL x))) (k : Rr l G d M Φ np ls (vL x :: st) h) : Rr l G d M Φ pc ls st h := by
  subst hn
  intro p e s m args below meth c H locs lc C hl hP hS hk
  refine lv_lload C.1 C.2.1 hd (hl.2.2 _ _ hx) ?_
  exact k p e s m args below meth c H locs lc C hl hP hS ⟨hk.1, ok_c (v := vL x) (hk.1 _ (List.mem_of_getElem? hx)) hk.2.1, hk.2.2⟩
theorem r_aload_n (np : Nat) {q : Fin 4} {x : Nat} (hd : decode M.2.1 pc = .ok (.aload_n q, 1)) (hn : pc + 1 = np) (hx : ls[(q : Nat)]? = some (some (vR x))) (k : Rr l G d M Φ np ls (vR x :: st) h) : Rr l G d M Φ pc ls st h := by
  subst hn
  intro p e s m args below meth c H locs lc C hl hP hS hk
  refine lv_aload_n C.1 C.2.1 hd rfl (hl.2.2 _ _ hx) ?_
  exact k p e s m args below meth c H locs lc C hl hP hS ⟨hk.1, ok_c (v := vR x) (hk.1 _ (List.mem_of_getElem? hx)) hk.2.1, hk.2.2⟩
theorem r_aload (np : Nat) {q : Nat} {x : Nat} (hd : decode M.2.1 pc = .ok (.aload q, 2)) (hn : pc + 2 = np) (hx : ls[q]? = some (some (vR x))) (k : Rr l G d M Φ np ls (vR x :: st) h) : Rr l G d M Φ pc ls st h := by
  subst hn
  intro p e s m args below meth c H locs lc C hl hP hS hk
  refine lv_aload C.1 C.2.1 hd (hl.2.2 _ _ hx) ?_
  exact k p e s m args below meth c H locs lc C hl hP hS ⟨hk.1, ok_c (v := vR x) (hk.1 _ (List.mem_of_getElem? hx)) hk.2.1, hk.2.2⟩
theorem r_istore_n (np : Nat) {q : Fin 4} {x : Int} (hd : decode M.2.1 pc = .ok (.istore_n q, 1)) (hn : pc + 1 = np) (hi : Nat.ble ((q : Nat) + 1) M.2.2.1 = true) (hq : noL ls (q : Nat) = true) (k : Rr l G d M Φ np (ls.set (q : Nat) (some (vI x))) st h) : Rr l G d M Φ pc ls (vI x :: st) h := by
  subst hn
  intro p e s m args below meth c H locs lc C hl hP hS hk
  refine lv_istore_n C.1 C.2.1 hd rfl hl.has (Nat.le_of_ble_eq_true hi) rfl (fun lc' hl' => ?_)
  exact k p e s m args below meth c H locs lc' C (hl.set1 (v := vI x) hq hl') hP hS ⟨ok_set hk.1 (ok_hd hk.2.1), ok_tl hk.2.1, hk.2.2⟩
theorem r_istore (np : Nat) {q : Nat} {x : Int} (hd : decode M.2.1 pc = .ok (.istore q, 2)) (hn : pc + 2 = np) (hi : Nat.ble (q + 1) M.2.2.1 = true) (hq : noL ls q = true) (k : Rr l G d M Φ np (ls.set q (some (vI x))) st h) : Rr l G d M Φ pc ls (vI x :: st) h := by
  subst hn
  intro p e s m args below meth c H locs lc C hl hP hS hk
  refine lv_istore C.1 C.2.1 hd hl.has (Nat.le_of_ble_eq_true hi) rfl (fun lc' hl' => ?_)
  exact k p e s m args below meth c H locs lc' C (hl.set1 (v := vI x) hq hl') hP hS ⟨ok_set hk.1 (ok_hd hk.2.1), ok_tl hk.2.1, hk.2.2⟩
theorem r_astore_n (np : Nat) {q : Fin 4} {x : Nat} (hd : decode M.2.1 pc = .ok (.astore_n q, 1)) (hn : pc + 1 = np) (hi : Nat.ble ((q : Nat) + 1) M.2.2.1 = true) (hq : noL ls (q : Nat) = true) (k : Rr l G d M Φ np (ls.set (q : Nat) (some (vR x))) st h) : Rr l G d M Φ pc ls (vR x :: st) h := by
  subst hn
  intro p e s m args below meth c H locs lc C hl hP hS hk
  refine lv_astore_n C.1 C.2.1 hd rfl hl.has (Nat.le_of_ble_eq_true hi) rfl (fun lc' hl' => ?_)
  exact k p e s m args below meth c H locs lc' C (hl.set1 (v := vR x) hq hl') hP hS ⟨ok_set hk.1 (ok_hd hk.2.1), ok_tl hk.2.1, hk.2.2⟩
theorem r_astore (np : Nat) {q : Nat} {x : Nat} (hd : decode M.2.1 pc = .ok (.astore q, 2)) (hn : pc + 2 = np) (hi : Nat.ble (q + 1) M.2.2.1 = true) (hq : noL ls q = true) (k : Rr l G d M Φ np (ls.set q (some (vR x))) st h) : Rr l G d M Φ pc ls (vR x :: st) h := by
  subst hn
  intro p e s m args below meth c H locs lc C hl hP hS hk
  refine lv_astore C.1 C.2.1 hd hl.has (Nat.le_of_ble_eq_true hi) rfl (fun lc' hl' => ?_)
  exact k p e s m args below meth c H locs lc' C (hl.set1 (v := vR x) hq hl') hP hS ⟨ok_set hk.1 (ok_hd hk.2.1), ok_tl hk.2.1, hk.2.2⟩
theorem r_lstore_n (np : Nat) {q : Fin 4} {x : Int} (hd : decode M.2.1 pc = .ok (.lstore_n q, 1)) (hn : pc + 1 = np) (hi : Nat.ble ((q : Nat) + 2) M.2.2.1 = true) (hq : noL ls (q : Nat) = true) (k : Rr l G d M Φ np ((ls.set (q : Nat) (some (vL x))).set ((q : Nat) + 1) none) st h) : Rr l G d M Φ pc ls (vL x :: st) h := by
  subst hn
  intro p e s m args below meth c H locs lc C hl hP hS hk
  refine lv_lstore_n C.1 C.2.1 hd rfl hl.has (Nat.le_of_ble_eq_true hi) rfl (fun lc' hl' => ?_)
  exact k p e s m args below meth c H locs lc' C (hl.set2 (v := vL x) hq hl') hP hS ⟨ok_setn (ok_set hk.1 (ok_hd hk.2.1)), ok_tl hk.2.1, hk.2.2⟩
theorem r_lstore (np : Nat) {q : Nat} {x : Int} (hd : decode M.2.1 pc = .ok (.lstore q, 2)) (hn : pc + 2 = np) (hi : Nat.ble (q + 2) M.2.2.1 = true) (hq : noL ls q = true) (k : Rr l G d M Φ np ((ls.set q (some (vL x))).set (q + 1) none) st h) : Rr l G d M Φ pc ls (vL x :: st) h := by
  subst hn
  intro p e s m args below meth c H locs lc C hl hP hS hk
  refine lv_lstore C.1 C.2.1 hd hl.has (Nat.le_of_ble_eq_true hi) rfl (fun lc' hl' => ?_)
  exact k p e s m args below meth c H locs lc' C (hl.set2 (v := vL x) hq hl') hP hS ⟨ok_setn (ok_set hk.1 (ok_hd hk.2.1)), ok_tl hk.2.1, hk.2.2⟩
theorem r_iinc (np : Nat) {q : Nat} {n x : Int} (v : Int) (hd : decode M.2.1 pc = .ok (.iinc q n, 3)) (hn : pc + 3 = np) (hi : Nat.ble (q + 1) M.2.2.1 = true) (hx : ls[q]? = some (some (vI x))) (hq : noL ls q = true) (hv : w32 (x + n) = v) (k : Rr l G d M Φ np (ls.set q (some (vI v))) st h) : Rr l G d M Φ pc ls st h := by
  subst hn hv
  intro p e s m args below meth c H locs lc C hl hP hS hk
  obtain ⟨k1, hk1⟩ := List.getElem?_of_mem (pl_mem (G := G) (hl.lt hx) hx)
  have ev : Int32.ofInt x + Int32.ofInt n = Int32.ofInt (w32 (x + n)) := by rw [w32_o, Int32.ofInt_add]
  refine lv_iinc C.1 C.2.1 hd hl.has hk1 ev (Nat.le_of_ble_eq_true hi) rfl (fun lc' hl' => ?_)
  exact k p e s m args below meth c H locs lc' C (hl.set1 (v := vI (w32 (x + n))) hq hl') hP hS ⟨ok_set hk.1 (w32_in _), hk.2.1, hk.2.2⟩
theorem r_iadd (np : Nat) {x y : Int} {v : Int} (hd : decode M.2.1 pc = .ok (.iadd, 1)) (hn : pc + 1 = np) (hv : w32 (x + y) = v) (k : Rr l G d M Φ np ls (vI v :: st) h) : Rr l G d M Φ pc ls (vI y :: vI x :: st) h := by
  subst hn hv
  intro p e s m args below meth c H locs lc C hl hP hS hk
  have ev : Int32.ofInt x + Int32.ofInt y = Int32.ofInt (w32 (x + y)) := by rw [w32_o, Int32.ofInt_add]
  refine lv_iadd C.1 C.2.1 hd ?_
  rw [ev]
  exact k p e s m args below meth c H locs lc C hl hP hS ⟨hk.1, ok_c (v := vI _) (w32_in _) (ok_tl (ok_tl hk.2.1)), hk.2.2⟩
theorem r_isub (np : Nat) {x y : Int} {v : Int} (hd : decode M.2.1 pc = .ok (.isub, 1)) (hn : pc + 1 = np) (hv : w32 (x - y) = v) (k : Rr l G d M Φ np ls (vI v :: st) h) : Rr l G d M Φ pc ls (vI y :: vI x :: st) h := by
  subst hn hv
  intro p e s m args below meth c H locs lc C hl hP hS hk
  have ev : Int32.ofInt x - Int32.ofInt y = Int32.ofInt (w32 (x - y)) := by rw [w32_o, Int32.ofInt_sub]
  refine lv_isub C.1 C.2.1 hd ?_
  rw [ev]
  exact k p e s m args below meth c H locs lc C hl hP hS ⟨hk.1, ok_c (v := vI _) (w32_in _) (ok_tl (ok_tl hk.2.1)), hk.2.2⟩
theorem r_imul (np : Nat) {x y : Int} {v : Int} (hd : decode M.2.1 pc = .ok (.imul, 1)) (hn : pc + 1 = np) (hv : w32 (x * y) = v) (k : Rr l G d M Φ np ls (vI v :: st) h) : Rr l G d M Φ pc ls (vI y :: vI x :: st) h := by
  subst hn hv
  intro p e s m args below meth c H locs lc C hl hP hS hk
  have ev : Int32.ofInt x * Int32.ofInt y = Int32.ofInt (w32 (x * y)) := by rw [w32_o, Int32.ofInt_mul]
  refine lv_imul C.1 C.2.1 hd ?_
  rw [ev]
  exact k p e s m args below meth c H locs lc C hl hP hS ⟨hk.1, ok_c (v := vI _) (w32_in _) (ok_tl (ok_tl hk.2.1)), hk.2.2⟩
def z_iand (x y : Int) : Int := (Int32.ofInt x &&& Int32.ofInt y).toInt
theorem r_iand (np : Nat) {x y : Int} {v : Int} (hd : decode M.2.1 pc = .ok (.iand, 1)) (hn : pc + 1 = np) (hv : z_iand x y = v) (k : Rr l G d M Φ np ls (vI v :: st) h) : Rr l G d M Φ pc ls (vI y :: vI x :: st) h := by
  subst hn hv
  intro p e s m args below meth c H locs lc C hl hP hS hk
  have ev : Int32.ofInt x &&& Int32.ofInt y = Int32.ofInt (z_iand x y) := by rw [z_iand, Int32.ofInt_toInt]
  refine lv_iand C.1 C.2.1 hd ?_
  rw [ev]
  exact k p e s m args below meth c H locs lc C hl hP hS ⟨hk.1, ok_c (v := vI _) ⟨by have := Int32.le_toInt (Int32.ofInt x &&& Int32.ofInt y); unfold z_iand; omega, by have := Int32.toInt_lt (Int32.ofInt x &&& Int32.ofInt y); unfold z_iand; omega⟩ (ok_tl (ok_tl hk.2.1)), hk.2.2⟩
def z_ior (x y : Int) : Int := (Int32.ofInt x ||| Int32.ofInt y).toInt
theorem r_ior (np : Nat) {x y : Int} {v : Int} (hd : decode M.2.1 pc = .ok (.ior, 1)) (hn : pc + 1 = np) (hv : z_ior x y = v) (k : Rr l G d M Φ np ls (vI v :: st) h) : Rr l G d M Φ pc ls (vI y :: vI x :: st) h := by
  subst hn hv
  intro p e s m args below meth c H locs lc C hl hP hS hk
  have ev : Int32.ofInt x ||| Int32.ofInt y = Int32.ofInt (z_ior x y) := by rw [z_ior, Int32.ofInt_toInt]
  refine lv_ior C.1 C.2.1 hd ?_
  rw [ev]
  exact k p e s m args below meth c H locs lc C hl hP hS ⟨hk.1, ok_c (v := vI _) ⟨by have := Int32.le_toInt (Int32.ofInt x ||| Int32.ofInt y); unfold z_ior; omega, by have := Int32.toInt_lt (Int32.ofInt x ||| Int32.ofInt y); unfold z_ior; omega⟩ (ok_tl (ok_tl hk.2.1)), hk.2.2⟩
def z_ixor (x y : Int) : Int := (Int32.ofInt x ^^^ Int32.ofInt y).toInt
theorem r_ixor (np : Nat) {x y : Int} {v : Int} (hd : decode M.2.1 pc = .ok (.ixor, 1)) (hn : pc + 1 = np) (hv : z_ixor x y = v) (k : Rr l G d M Φ np ls (vI v :: st) h) : Rr l G d M Φ pc ls (vI y :: vI x :: st) h := by
  subst hn hv
  intro p e s m args below meth c H locs lc C hl hP hS hk
  have ev : Int32.ofInt x ^^^ Int32.ofInt y = Int32.ofInt (z_ixor x y) := by rw [z_ixor, Int32.ofInt_toInt]
  refine lv_ixor C.1 C.2.1 hd ?_
  rw [ev]
  exact k p e s m args below meth c H locs lc C hl hP hS ⟨hk.1, ok_c (v := vI _) ⟨by have := Int32.le_toInt (Int32.ofInt x ^^^ Int32.ofInt y); unfold z_ixor; omega, by have := Int32.toInt_lt (Int32.ofInt x ^^^ Int32.ofInt y); unfold z_ixor; omega⟩ (ok_tl (ok_tl hk.2.1)), hk.2.2⟩
def z_ishl (x y : Int) : Int := (Int32.ofInt x <<< (Int32.ofInt y &&& 31)).toInt
theorem r_ishl (np : Nat) {x y : Int} {v : Int} (hd : decode M.2.1 pc = .ok (.ishl, 1)) (hn : pc + 1 = np) (hv : z_ishl x y = v) (k : Rr l G d M Φ np ls (vI v :: st) h) : Rr l G d M Φ pc ls (vI y :: vI x :: st) h := by
  subst hn hv
  intro p e s m args below meth c H locs lc C hl hP hS hk
  have ev : (Int32.ofInt x <<< (Int32.ofInt y &&& 31)) = Int32.ofInt (z_ishl x y) := by rw [z_ishl, Int32.ofInt_toInt]
  refine lv_ishl C.1 C.2.1 hd ?_
  rw [ev]
  exact k p e s m args below meth c H locs lc C hl hP hS ⟨hk.1, ok_c (v := vI _) ⟨by have := Int32.le_toInt (Int32.ofInt x <<< (Int32.ofInt y &&& 31)); unfold z_ishl; omega, by have := Int32.toInt_lt (Int32.ofInt x <<< (Int32.ofInt y &&& 31)); unfold z_ishl; omega⟩ (ok_tl (ok_tl hk.2.1)), hk.2.2⟩
def z_ishr (x y : Int) : Int := (Int32.ofInt x >>> (Int32.ofInt y &&& 31)).toInt
theorem r_ishr (np : Nat) {x y : Int} {v : Int} (hd : decode M.2.1 pc = .ok (.ishr, 1)) (hn : pc + 1 = np) (hv : z_ishr x y = v) (k : Rr l G d M Φ np ls (vI v :: st) h) : Rr l G d M Φ pc ls (vI y :: vI x :: st) h := by
  subst hn hv
  intro p e s m args below meth c H locs lc C hl hP hS hk
  have ev : (Int32.ofInt x >>> (Int32.ofInt y &&& 31)) = Int32.ofInt (z_ishr x y) := by rw [z_ishr, Int32.ofInt_toInt]
  refine lv_ishr C.1 C.2.1 hd ?_
  rw [ev]
  exact k p e s m args below meth c H locs lc C hl hP hS ⟨hk.1, ok_c (v := vI _) ⟨by have := Int32.le_toInt (Int32.ofInt x >>> (Int32.ofInt y &&& 31)); unfold z_ishr; omega, by have := Int32.toInt_lt (Int32.ofInt x >>> (Int32.ofInt y &&& 31)); unfold z_ishr; omega⟩ (ok_tl (ok_tl hk.2.1)), hk.2.2⟩
theorem z_div {x y : Int} (hx : in32 x) (hy : in32 y) (h0 : 0 ≤ x) (h1 : 0 < y) : Int32.ofInt x / Int32.ofInt y = Int32.ofInt (x / y) := by
  have hne : Int32.ofInt y ≠ -1 := by
    intro q
    have : (Int32.ofInt y).toInt = (-1 : Int32).toInt := by rw [q]
    rw [i32_t hy] at this
    have e : (-1 : Int32).toInt = -1 := by decide
    omega
  apply Int32.toInt_inj.mp
  have hq : x / y ≤ x := Int.ediv_le_self _ h0
  have hq0 : 0 ≤ x / y := Int.ediv_nonneg h0 (by omega)
  rw [Int32.toInt_div_of_ne_right _ _ hne, i32_t hx, i32_t hy, i32_t ⟨by have := hx.1; omega, by have := hx.2; omega⟩, Int.tdiv_eq_ediv_of_nonneg h0]
theorem r_idiv (np : Nat) {x y : Int} (hd : decode M.2.1 pc = .ok (.idiv, 1)) (hn : pc + 1 = np) (h0 : 0 ≤ x) (h1 : 0 < y) (k : Rr l G d M Φ np ls (vI (x / y) :: st) h) : Rr l G d M Φ pc ls (vI y :: vI x :: st) h := by
  subst hn
  intro p e s m args below meth c H locs lc C hl hP hS hk
  have hy : in32 y := ok_hd hk.2.1
  have hx : in32 x := ok_hd (ok_tl hk.2.1)
  refine lv_idiv C.1 C.2.1 hd (fun q => ?_) ?_
  · rw [i32_0] at q
    have := (i32_eq hy in32_0).mp q
    omega
  · rw [z_div hx hy h0 h1]
    have hq : x / y ≤ x := Int.ediv_le_self _ h0
    have hq0 : 0 ≤ x / y := Int.ediv_nonneg h0 (by omega)
    exact k p e s m args below meth c H locs lc C hl hP hS ⟨hk.1, ok_c (v := vI _) ⟨by omega, by have := hx.2; omega⟩ (ok_tl (ok_tl hk.2.1)), hk.2.2⟩
theorem r_irem (np : Nat) {x y : Int} (hd : decode M.2.1 pc = .ok (.irem, 1)) (hn : pc + 1 = np) (h0 : 0 ≤ x) (h1 : 0 < y) (k : Rr l G d M Φ np ls (vI (x % y) :: st) h) : Rr l G d M Φ pc ls (vI y :: vI x :: st) h := by
  subst hn
  intro p e s m args below meth c H locs lc C hl hP hS hk
  have hy : in32 y := ok_hd hk.2.1
  have hx : in32 x := ok_hd (ok_tl hk.2.1)
  refine lv_irem C.1 C.2.1 hd (fun q => ?_) ?_
  · rw [i32_0] at q
    have := (i32_eq hy in32_0).mp q
    omega
  · have e1 : Int32.ofInt x - Int32.ofInt x / Int32.ofInt y * Int32.ofInt y = Int32.ofInt (x % y) := by
      rw [z_div hx hy h0 h1, ← Int32.ofInt_mul, ← Int32.ofInt_sub]
      congr 1
      have := Int.mul_ediv_add_emod x y
      rw [Int.mul_comm] at this
      omega
    rw [e1]
    have hq : x % y < y := Int.emod_lt_of_pos _ h1
    have hq0 : 0 ≤ x % y := Int.emod_nonneg _ (by omega)
    exact k p e s m args below meth c H locs lc C hl hP hS ⟨hk.1, ok_c (v := vI _) ⟨by omega, by have := hy.2; omega⟩ (ok_tl (ok_tl hk.2.1)), hk.2.2⟩
theorem r_i2b (np : Nat) {x : Int} (v : Int) (hd : decode M.2.1 pc = .ok (.i2b, 1)) (hn : pc + 1 = np) (hv : (Int32.ofInt x).toInt8.toInt = v) (k : Rr l G d M Φ np ls (vI v :: st) h) : Rr l G d M Φ pc ls (vI x :: st) h := by
  subst hn hv
  intro p e s m args below meth c H locs lc C hl hP hS hk
  have ev : (Int32.ofInt x).toInt8.toInt32 = Int32.ofInt ((Int32.ofInt x).toInt8.toInt) := by
    apply Int32.toInt_inj.mp
    have h1 := Int8.le_toInt (Int32.ofInt x).toInt8
    have h2 := Int8.toInt_lt (Int32.ofInt x).toInt8
    rw [i32_t ⟨by omega, by omega⟩, Int8.toInt_toInt32]
  refine lv_i2b C.1 C.2.1 hd ev ?_
  have h1 := Int8.le_toInt (Int32.ofInt x).toInt8
  have h2 := Int8.toInt_lt (Int32.ofInt x).toInt8
  exact k p e s m args below meth c H locs lc C hl hP hS ⟨hk.1, ok_c (v := vI _) ⟨by omega, by omega⟩ (ok_tl hk.2.1), hk.2.2⟩
theorem r_i2s (np : Nat) {x : Int} (v : Int) (hd : decode M.2.1 pc = .ok (.i2s, 1)) (hn : pc + 1 = np) (hv : (Int32.ofInt x).toInt16.toInt = v) (k : Rr l G d M Φ np ls (vI v :: st) h) : Rr l G d M Φ pc ls (vI x :: st) h := by
  subst hn hv
  intro p e s m args below meth c H locs lc C hl hP hS hk
  have ev : (Int32.ofInt x).toInt16.toInt32 = Int32.ofInt ((Int32.ofInt x).toInt16.toInt) := by
    apply Int32.toInt_inj.mp
    have h1 := Int16.le_toInt (Int32.ofInt x).toInt16
    have h2 := Int16.toInt_lt (Int32.ofInt x).toInt16
    rw [i32_t ⟨by omega, by omega⟩, Int16.toInt_toInt32]
  refine lv_i2s C.1 C.2.1 hd ev ?_
  have h1 := Int16.le_toInt (Int32.ofInt x).toInt16
  have h2 := Int16.toInt_lt (Int32.ofInt x).toInt16
  exact k p e s m args below meth c H locs lc C hl hP hS ⟨hk.1, ok_c (v := vI _) ⟨by omega, by omega⟩ (ok_tl hk.2.1), hk.2.2⟩
theorem r_i2l (np : Nat) {x : Int} (hd : decode M.2.1 pc = .ok (.i2l, 1)) (hn : pc + 1 = np) (k : Rr l G d M Φ np ls (vL x :: st) h) : Rr l G d M Φ pc ls (vI x :: st) h := by
  subst hn
  intro p e s m args below meth c H locs lc C hl hP hS hk
  have hx : in32 x := ok_hd hk.2.1
  have h64 : in64 x := ⟨by have := hx.1; omega, by have := hx.2; omega⟩
  have ev : (Int32.ofInt x).toInt64 = Int64.ofInt x := by
    apply Int64.toInt_inj.mp
    rw [i64_t h64, Int32.toInt_toInt64, i32_t hx]
  refine lv_i2l C.1 C.2.1 hd ev ?_
  exact k p e s m args below meth c H locs lc C hl hP hS ⟨hk.1, ok_c (v := vL x) h64 (ok_tl hk.2.1), hk.2.2⟩
theorem r_ladd (np : Nat) {x y : Int} {v : Int} (hd : decode M.2.1 pc = .ok (.ladd, 1)) (hn : pc + 1 = np) (hv : w64 (x + y) = v) (k : Rr l G d M Φ np ls (vL v :: st) h) : Rr l G d M Φ pc ls (vL y :: vL x :: st) h := by
  subst hn hv
  intro p e s m args below meth c H locs lc C hl hP hS hk
  have ev : Int64.ofInt x + Int64.ofInt y = Int64.ofInt (w64 (x + y)) := by rw [w64_o, Int64.ofInt_add]
  refine lv_ladd C.1 C.2.1 hd ?_
  rw [ev]
  exact k p e s m args below meth c H locs lc C hl hP hS ⟨hk.1, ok_c (v := vL _) (w64_in _) (ok_tl (ok_tl hk.2.1)), hk.2.2⟩
theorem r_lsub (np : Nat) {x y : Int} {v : Int} (hd : decode M.2.1 pc = .ok (.lsub, 1)) (hn : pc + 1 = np) (hv : w64 (x - y) = v) (k : Rr l G d M Φ np ls (vL v :: st) h) : Rr l G d M Φ pc ls (vL y :: vL x :: st) h := by
  subst hn hv
  intro p e s m args below meth c H locs lc C hl hP hS hk
  have ev : Int64.ofInt x - Int64.ofInt y = Int64.ofInt (w64 (x - y)) := by rw [w64_o, Int64.ofInt_sub]
  refine lv_lsub C.1 C.2.1 hd ?_
  rw [ev]
  exact k p e s m args below meth c H locs lc C hl hP hS ⟨hk.1, ok_c (v := vL _) (w64_in _) (ok_tl (ok_tl hk.2.1)), hk.2.2⟩
theorem r_lmul (np : Nat) {x y : Int} {v : Int} (hd : decode M.2.1 pc = .ok (.lmul, 1)) (hn : pc + 1 = np) (hv : w64 (x * y) = v) (k : Rr l G d M Φ np ls (vL v :: st) h) : Rr l G d M Φ pc ls (vL y :: vL x :: st) h := by
  subst hn hv
  intro p e s m args below meth c H locs lc C hl hP hS hk
  have ev : Int64.ofInt x * Int64.ofInt y = Int64.ofInt (w64 (x * y)) := by rw [w64_o, Int64.ofInt_mul]
  refine lv_lmul C.1 C.2.1 hd ?_
  rw [ev]
  exact k p e s m args below meth c H locs lc C hl hP hS ⟨hk.1, ok_c (v := vL _) (w64_in _) (ok_tl (ok_tl hk.2.1)), hk.2.2⟩
theorem z_ldiv {x y : Int} (hx : in64 x) (hy : in64 y) (h0 : 0 ≤ x) (h1 : 0 < y) : Int64.ofInt x / Int64.ofInt y = Int64.ofInt (x / y) := by
  have hne : Int64.ofInt y ≠ -1 := by
    intro q
    have : (Int64.ofInt y).toInt = (-1 : Int64).toInt := by rw [q]
    rw [i64_t hy] at this
    have e : (-1 : Int64).toInt = -1 := by decide
    omega
  apply Int64.toInt_inj.mp
  have hq : x / y ≤ x := Int.ediv_le_self _ h0
  have hq0 : 0 ≤ x / y := Int.ediv_nonneg h0 (by omega)
  rw [Int64.toInt_div_of_ne_right _ _ hne, i64_t hx, i64_t hy, i64_t ⟨by have := hx.1; omega, by have := hx.2; omega⟩, Int.tdiv_eq_ediv_of_nonneg h0]
theorem i64_0 : (0 : Int64) = Int64.ofInt 0 := by decide
theorem in64_0 : in64 0 := ⟨by decide, by decide⟩
theorem r_ldiv (np : Nat) {x y : Int} (hd : decode M.2.1 pc = .ok (.ldiv, 1)) (hn : pc + 1 = np) (h0 : 0 ≤ x) (h1 : 0 < y) (k : Rr l G d M Φ np ls (vL (x / y) :: st) h) : Rr l G d M Φ pc ls (vL y :: vL x :: st) h := by
  subst hn
  intro p e s m args below meth c H locs lc C hl hP hS hk
  have hy : in64 y := ok_hd hk.2.1
  have hx : in64 x := ok_hd (ok_tl hk.2.1)
  refine lv_ldiv C.1 C.2.1 hd (fun q => ?_) ?_
  · rw [i64_0] at q
    have := (i64_eq hy in64_0).mp q
    omega
  · rw [z_ldiv hx hy h0 h1]
    have hq : x / y ≤ x := Int.ediv_le_self _ h0
    have hq0 : 0 ≤ x / y := Int.ediv_nonneg h0 (by omega)
    exact k p e s m args below meth c H locs lc C hl hP hS ⟨hk.1, ok_c (v := vL _) ⟨by omega, by have := hx.2; omega⟩ (ok_tl (ok_tl hk.2.1)), hk.2.2⟩
theorem r_lrem (np : Nat) {x y : Int} (hd : decode M.2.1 pc = .ok (.lrem, 1)) (hn : pc + 1 = np) (h0 : 0 ≤ x) (h1 : 0 < y) (k : Rr l G d M Φ np ls (vL (x % y) :: st) h) : Rr l G d M Φ pc ls (vL y :: vL x :: st) h := by
  subst hn
  intro p e s m args below meth c H locs lc C hl hP hS hk
  have hy : in64 y := ok_hd hk.2.1
  have hx : in64 x := ok_hd (ok_tl hk.2.1)
  refine lv_lrem C.1 C.2.1 hd (fun q => ?_) ?_
  · rw [i64_0] at q
    have := (i64_eq hy in64_0).mp q
    omega
  · have e1 : Int64.ofInt x - Int64.ofInt x / Int64.ofInt y * Int64.ofInt y = Int64.ofInt (x % y) := by
      rw [z_ldiv hx hy h0 h1, ← Int64.ofInt_mul, ← Int64.ofInt_sub]
      congr 1
      have := Int.mul_ediv_add_emod x y
      rw [Int.mul_comm] at this
      omega
    rw [e1]
    have hq : x % y < y := Int.emod_lt_of_pos _ h1
    have hq0 : 0 ≤ x % y := Int.emod_nonneg _ (by omega)
    exact k p e s m args below meth c H locs lc C hl hP hS ⟨hk.1, ok_c (v := vL _) ⟨by omega, by have := hy.2; omega⟩ (ok_tl (ok_tl hk.2.1)), hk.2.2⟩
def z_lcmp (x y : Int) : Int := if y < x then 1 else if x = y then 0 else -1
theorem r_lcmp (np : Nat) {x y : Int} (hd : decode M.2.1 pc = .ok (.lcmp, 1)) (hn : pc + 1 = np) (k : Rr l G d M Φ np ls (vI (z_lcmp x y) :: st) h) : Rr l G d M Φ pc ls (vL y :: vL x :: st) h := by
  subst hn
  intro p e s m args below meth c H locs lc C hl hP hS hk
  have hy : in64 y := ok_hd hk.2.1
  have hx : in64 x := ok_hd (ok_tl hk.2.1)
  have ev : lg_cmp (Int64.ofInt x) (Int64.ofInt y) = Int32.ofInt (z_lcmp x y) := by
    unfold lg_cmp z_lcmp
    simp only [gt_iff_lt, i64_lt hy hx, i64_eq hx hy]
    split
    · decide
    · split <;> decide
  refine W.lcmp C.1 C.2.1 hd ?_
  rw [ev]
  exact k p e s m args below meth c H locs lc C hl hP hS ⟨hk.1, ok_c (v := vI _) (by unfold z_lcmp; split; exact ⟨by decide, by decide⟩; split <;> exact ⟨by decide, by decide⟩) (ok_tl (ok_tl hk.2.1)), hk.2.2⟩
theorem r_dup (np : Nat) {v : zV} (hd : decode M.2.1 pc = .ok (.dup, 1)) (hn : pc + 1 = np) (hc : (cv G v).category = 1) (k : Rr l G d M Φ np ls (v :: v :: st) h) : Rr l G d M Φ pc ls (v :: st) h := by
  subst hn
  intro p e s m args below meth c H locs lc C hl hP hS hk
  refine lv_dup C.1 C.2.1 hd hc ?_
  exact k p e s m args below meth c H locs lc C hl hP hS ⟨hk.1, ok_c (ok_hd hk.2.1) hk.2.1, hk.2.2⟩
theorem r_dup2 (np : Nat) {v w : zV} (hd : decode M.2.1 pc = .ok (.dup2, 1)) (hn : pc + 1 = np) (hc : (cv G v).category = 1) (hc2 : (cv G w).category = 1) (k : Rr l G d M Φ np ls (v :: w :: v :: w :: st) h) : Rr l G d M Φ pc ls (v :: w :: st) h := by
  subst hn
  intro p e s m args below meth c H locs lc C hl hP hS hk
  refine lv_dup2_11 C.1 C.2.1 hd hc hc2 ?_
  exact k p e s m args below meth c H locs lc C hl hP hS ⟨hk.1, ok_c (ok_hd hk.2.1) (ok_c (ok_hd (ok_tl hk.2.1)) hk.2.1), hk.2.2⟩
theorem r_pop (np : Nat) {v : zV} (hd : decode M.2.1 pc = .ok (.pop, 1)) (hn : pc + 1 = np) (hc : (cv G v).category = 1) (k : Rr l G d M Φ np ls st h) : Rr l G d M Φ pc ls (v :: st) h := by
  subst hn
  intro p e s m args below meth c H locs lc C hl hP hS hk
  refine lv_pop C.1 C.2.1 hd hc ?_
  exact k p e s m args below meth c H locs lc C hl hP hS ⟨hk.1, ok_tl hk.2.1, hk.2.2⟩
theorem r_goto {off : Int} (tgt : Nat) (hd : decode M.2.1 pc = .ok (.goto off, 3)) (ht : (pc : Int) + off = (tgt : Int)) (k : Rr l G d M Φ tgt ls st h) : Rr l G d M Φ pc ls st h := by
  intro p e s m args below meth c H locs lc C hl hP hS hk
  refine lv_goto C.1 C.2.1 hd ht ?_
  exact k p e s m args below meth c H locs lc C hl hP hS hk
theorem r_icmp_eq (tgt np : Nat) {x y off : Int} (hd : decode M.2.1 pc = .ok (.if_icmp .eq off, 3)) (ht : (pc : Int) + off = (tgt : Int)) (hn : pc + 3 = np) (kt : x = y → Rr l G d M Φ tgt ls st h) (kf : ¬ x = y → Rr l G d M Φ np ls st h) : Rr l G d M Φ pc ls (vI y :: vI x :: st) h := by
  subst hn
  intro p e s m args below meth c H locs lc C hl hP hS hk
  have hy : in32 y := ok_hd hk.2.1
  have hx : in32 x := ok_hd (ok_tl hk.2.1)
  refine lv_icmp_eq C.1 C.2.1 hd ht (fun q => ?_) (fun q => ?_)
  · exact kt ((i32_eq hx hy).mp q) p e s m args below meth c H locs lc C hl hP hS ⟨hk.1, ok_tl (ok_tl hk.2.1), hk.2.2⟩
  · exact kf (fun z => q ((i32_eq hx hy).mpr z)) p e s m args below meth c H locs lc C hl hP hS ⟨hk.1, ok_tl (ok_tl hk.2.1), hk.2.2⟩
theorem r_icmp_ne (tgt np : Nat) {x y off : Int} (hd : decode M.2.1 pc = .ok (.if_icmp .ne off, 3)) (ht : (pc : Int) + off = (tgt : Int)) (hn : pc + 3 = np) (kt : ¬ x = y → Rr l G d M Φ tgt ls st h) (kf : x = y → Rr l G d M Φ np ls st h) : Rr l G d M Φ pc ls (vI y :: vI x :: st) h := by
  subst hn
  intro p e s m args below meth c H locs lc C hl hP hS hk
  have hy : in32 y := ok_hd hk.2.1
  have hx : in32 x := ok_hd (ok_tl hk.2.1)
  refine lv_icmp_ne C.1 C.2.1 hd ht (fun q => ?_) (fun q => ?_)
  · exact kt (fun z => q ((i32_eq hx hy).mpr z)) p e s m args below meth c H locs lc C hl hP hS ⟨hk.1, ok_tl (ok_tl hk.2.1), hk.2.2⟩
  · exact kf ((i32_eq hx hy).mp q) p e s m args below meth c H locs lc C hl hP hS ⟨hk.1, ok_tl (ok_tl hk.2.1), hk.2.2⟩
theorem r_icmp_lt (tgt np : Nat) {x y off : Int} (hd : decode M.2.1 pc = .ok (.if_icmp .lt off, 3)) (ht : (pc : Int) + off = (tgt : Int)) (hn : pc + 3 = np) (kt : x < y → Rr l G d M Φ tgt ls st h) (kf : y ≤ x → Rr l G d M Φ np ls st h) : Rr l G d M Φ pc ls (vI y :: vI x :: st) h := by
  subst hn
  intro p e s m args below meth c H locs lc C hl hP hS hk
  have hy : in32 y := ok_hd hk.2.1
  have hx : in32 x := ok_hd (ok_tl hk.2.1)
  refine lv_icmp_lt C.1 C.2.1 hd ht (fun q => ?_) (fun q => ?_)
  · exact kt ((i32_lt hx hy).mp q) p e s m args below meth c H locs lc C hl hP hS ⟨hk.1, ok_tl (ok_tl hk.2.1), hk.2.2⟩
  · exact kf (Int.not_lt.mp (fun z => q ((i32_lt hx hy).mpr z))) p e s m args below meth c H locs lc C hl hP hS ⟨hk.1, ok_tl (ok_tl hk.2.1), hk.2.2⟩
theorem r_icmp_ge (tgt np : Nat) {x y off : Int} (hd : decode M.2.1 pc = .ok (.if_icmp .ge off, 3)) (ht : (pc : Int) + off = (tgt : Int)) (hn : pc + 3 = np) (kt : y ≤ x → Rr l G d M Φ tgt ls st h) (kf : x < y → Rr l G d M Φ np ls st h) : Rr l G d M Φ pc ls (vI y :: vI x :: st) h := by
  subst hn
  intro p e s m args below meth c H locs lc C hl hP hS hk
  have hy : in32 y := ok_hd hk.2.1
  have hx : in32 x := ok_hd (ok_tl hk.2.1)
  refine lv_icmp_ge C.1 C.2.1 hd ht (fun q => ?_) (fun q => ?_)
  · exact kt ((i32_le hy hx).mp q) p e s m args below meth c H locs lc C hl hP hS ⟨hk.1, ok_tl (ok_tl hk.2.1), hk.2.2⟩
  · exact kf (Int.not_le.mp (fun z => q ((i32_le hy hx).mpr z))) p e s m args below meth c H locs lc C hl hP hS ⟨hk.1, ok_tl (ok_tl hk.2.1), hk.2.2⟩
theorem r_icmp_gt (tgt np : Nat) {x y off : Int} (hd : decode M.2.1 pc = .ok (.if_icmp .gt off, 3)) (ht : (pc : Int) + off = (tgt : Int)) (hn : pc + 3 = np) (kt : y < x → Rr l G d M Φ tgt ls st h) (kf : x ≤ y → Rr l G d M Φ np ls st h) : Rr l G d M Φ pc ls (vI y :: vI x :: st) h := by
  subst hn
  intro p e s m args below meth c H locs lc C hl hP hS hk
  have hy : in32 y := ok_hd hk.2.1
  have hx : in32 x := ok_hd (ok_tl hk.2.1)
  refine lv_icmp_gt C.1 C.2.1 hd ht (fun q => ?_) (fun q => ?_)
  · exact kt ((i32_lt hy hx).mp q) p e s m args below meth c H locs lc C hl hP hS ⟨hk.1, ok_tl (ok_tl hk.2.1), hk.2.2⟩
  · exact kf (Int.not_lt.mp (fun z => q ((i32_lt hy hx).mpr z))) p e s m args below meth c H locs lc C hl hP hS ⟨hk.1, ok_tl (ok_tl hk.2.1), hk.2.2⟩
theorem r_icmp_le (tgt np : Nat) {x y off : Int} (hd : decode M.2.1 pc = .ok (.if_icmp .le off, 3)) (ht : (pc : Int) + off = (tgt : Int)) (hn : pc + 3 = np) (kt : x ≤ y → Rr l G d M Φ tgt ls st h) (kf : y < x → Rr l G d M Φ np ls st h) : Rr l G d M Φ pc ls (vI y :: vI x :: st) h := by
  subst hn
  intro p e s m args below meth c H locs lc C hl hP hS hk
  have hy : in32 y := ok_hd hk.2.1
  have hx : in32 x := ok_hd (ok_tl hk.2.1)
  refine lv_icmp_le C.1 C.2.1 hd ht (fun q => ?_) (fun q => ?_)
  · exact kt ((i32_le hx hy).mp q) p e s m args below meth c H locs lc C hl hP hS ⟨hk.1, ok_tl (ok_tl hk.2.1), hk.2.2⟩
  · exact kf (Int.not_le.mp (fun z => q ((i32_le hx hy).mpr z))) p e s m args below meth c H locs lc C hl hP hS ⟨hk.1, ok_tl (ok_tl hk.2.1), hk.2.2⟩
theorem r_if_eq (tgt np : Nat) {x off : Int} (hd : decode M.2.1 pc = .ok (.ifCond .eq off, 3)) (ht : (pc : Int) + off = (tgt : Int)) (hn : pc + 3 = np) (kt : x = 0 → Rr l G d M Φ tgt ls st h) (kf : ¬ x = 0 → Rr l G d M Φ np ls st h) : Rr l G d M Φ pc ls (vI x :: st) h := by
  subst hn
  intro p e s m args below meth c H locs lc C hl hP hS hk
  have hx : in32 x := ok_hd hk.2.1
  have hy := in32_0
  refine lv_if_eq C.1 C.2.1 hd ht (fun q => ?_) (fun q => ?_)
  · exact kt (by rw [i32_0] at q; first | exact (i32_eq hx hy).mp q | exact (i32_lt hx hy).mp q | exact (i32_le hy hx).mp q | exact (i32_lt hy hx).mp q | exact (i32_le hx hy).mp q | exact fun z => q ((i32_eq hx hy).mpr z)) p e s m args below meth c H locs lc C hl hP hS ⟨hk.1, ok_tl hk.2.1, hk.2.2⟩
  · exact kf (by rw [i32_0] at q; first | exact (i32_eq hx hy).mp q | exact fun z => q ((i32_eq hx hy).mpr z) | exact Int.not_lt.mp (fun z => q ((i32_lt hx hy).mpr z)) | exact Int.not_le.mp (fun z => q ((i32_le hy hx).mpr z)) | exact Int.not_lt.mp (fun z => q ((i32_lt hy hx).mpr z)) | exact Int.not_le.mp (fun z => q ((i32_le hx hy).mpr z))) p e s m args below meth c H locs lc C hl hP hS ⟨hk.1, ok_tl hk.2.1, hk.2.2⟩
theorem r_if_ne (tgt np : Nat) {x off : Int} (hd : decode M.2.1 pc = .ok (.ifCond .ne off, 3)) (ht : (pc : Int) + off = (tgt : Int)) (hn : pc + 3 = np) (kt : ¬ x = 0 → Rr l G d M Φ tgt ls st h) (kf : x = 0 → Rr l G d M Φ np ls st h) : Rr l G d M Φ pc ls (vI x :: st) h := by
  subst hn
  intro p e s m args below meth c H locs lc C hl hP hS hk
  have hx : in32 x := ok_hd hk.2.1
  have hy := in32_0
  refine lv_if_ne C.1 C.2.1 hd ht (fun q => ?_) (fun q => ?_)
  · exact kt (by rw [i32_0] at q; first | exact (i32_eq hx hy).mp q | exact (i32_lt hx hy).mp q | exact (i32_le hy hx).mp q | exact (i32_lt hy hx).mp q | exact (i32_le hx hy).mp q | exact fun z => q ((i32_eq hx hy).mpr z)) p e s m args below meth c H locs lc C hl hP hS ⟨hk.1, ok_tl hk.2.1, hk.2.2⟩
  · exact kf (by rw [i32_0] at q; first | exact (i32_eq hx hy).mp q | exact fun z => q ((i32_eq hx hy).mpr z) | exact Int.not_lt.mp (fun z => q ((i32_lt hx hy).mpr z)) | exact Int.not_le.mp (fun z => q ((i32_le hy hx).mpr z)) | exact Int.not_lt.mp (fun z => q ((i32_lt hy hx).mpr z)) | exact Int.not_le.mp (fun z => q ((i32_le hx hy).mpr z))) p e s m args below meth c H locs lc C hl hP hS ⟨hk.1, ok_tl hk.2.1, hk.2.2⟩
theorem r_if_lt (tgt np : Nat) {x off : Int} (hd : decode M.2.1 pc = .ok (.ifCond .lt off, 3)) (ht : (pc : Int) + off = (tgt : Int)) (hn : pc + 3 = np) (kt : x < 0 → Rr l G d M Φ tgt ls st h) (kf : 0 ≤ x → Rr l G d M Φ np ls st h) : Rr l G d M Φ pc ls (vI x :: st) h := by
  subst hn
  intro p e s m args below meth c H locs lc C hl hP hS hk
  have hx : in32 x := ok_hd hk.2.1
  have hy := in32_0
  refine lv_if_lt C.1 C.2.1 hd ht (fun q => ?_) (fun q => ?_)
  · exact kt (by rw [i32_0] at q; first | exact (i32_eq hx hy).mp q | exact (i32_lt hx hy).mp q | exact (i32_le hy hx).mp q | exact (i32_lt hy hx).mp q | exact (i32_le hx hy).mp q | exact fun z => q ((i32_eq hx hy).mpr z)) p e s m args below meth c H locs lc C hl hP hS ⟨hk.1, ok_tl hk.2.1, hk.2.2⟩
  · exact kf (by rw [i32_0] at q; first | exact (i32_eq hx hy).mp q | exact fun z => q ((i32_eq hx hy).mpr z) | exact Int.not_lt.mp (fun z => q ((i32_lt hx hy).mpr z)) | exact Int.not_le.mp (fun z => q ((i32_le hy hx).mpr z)) | exact Int.not_lt.mp (fun z => q ((i32_lt hy hx).mpr z)) | exact Int.not_le.mp (fun z => q ((i32_le hx hy).mpr z))) p e s m args below meth c H locs lc C hl hP hS ⟨hk.1, ok_tl hk.2.1, hk.2.2⟩
theorem r_if_ge (tgt np : Nat) {x off : Int} (hd : decode M.2.1 pc = .ok (.ifCond .ge off, 3)) (ht : (pc : Int) + off = (tgt : Int)) (hn : pc + 3 = np) (kt : 0 ≤ x → Rr l G d M Φ tgt ls st h) (kf : x < 0 → Rr l G d M Φ np ls st h) : Rr l G d M Φ pc ls (vI x :: st) h := by
  subst hn
  intro p e s m args below meth c H locs lc C hl hP hS hk
  have hx : in32 x := ok_hd hk.2.1
  have hy := in32_0
  refine lv_if_ge C.1 C.2.1 hd ht (fun q => ?_) (fun q => ?_)
  · exact kt (by rw [i32_0] at q; first | exact (i32_eq hx hy).mp q | exact (i32_lt hx hy).mp q | exact (i32_le hy hx).mp q | exact (i32_lt hy hx).mp q | exact (i32_le hx hy).mp q | exact fun z => q ((i32_eq hx hy).mpr z)) p e s m args below meth c H locs lc C hl hP hS ⟨hk.1, ok_tl hk.2.1, hk.2.2⟩
  · exact kf (by rw [i32_0] at q; first | exact (i32_eq hx hy).mp q | exact fun z => q ((i32_eq hx hy).mpr z) | exact Int.not_lt.mp (fun z => q ((i32_lt hx hy).mpr z)) | exact Int.not_le.mp (fun z => q ((i32_le hy hx).mpr z)) | exact Int.not_lt.mp (fun z => q ((i32_lt hy hx).mpr z)) | exact Int.not_le.mp (fun z => q ((i32_le hx hy).mpr z))) p e s m args below meth c H locs lc C hl hP hS ⟨hk.1, ok_tl hk.2.1, hk.2.2⟩
theorem r_if_gt (tgt np : Nat) {x off : Int} (hd : decode M.2.1 pc = .ok (.ifCond .gt off, 3)) (ht : (pc : Int) + off = (tgt : Int)) (hn : pc + 3 = np) (kt : 0 < x → Rr l G d M Φ tgt ls st h) (kf : x ≤ 0 → Rr l G d M Φ np ls st h) : Rr l G d M Φ pc ls (vI x :: st) h := by
  subst hn
  intro p e s m args below meth c H locs lc C hl hP hS hk
  have hx : in32 x := ok_hd hk.2.1
  have hy := in32_0
  refine lv_if_gt C.1 C.2.1 hd ht (fun q => ?_) (fun q => ?_)
  · exact kt (by rw [i32_0] at q; first | exact (i32_eq hx hy).mp q | exact (i32_lt hx hy).mp q | exact (i32_le hy hx).mp q | exact (i32_lt hy hx).mp q | exact (i32_le hx hy).mp q | exact fun z => q ((i32_eq hx hy).mpr z)) p e s m args below meth c H locs lc C hl hP hS ⟨hk.1, ok_tl hk.2.1, hk.2.2⟩
  · exact kf (by rw [i32_0] at q; first | exact (i32_eq hx hy).mp q | exact fun z => q ((i32_eq hx hy).mpr z) | exact Int.not_lt.mp (fun z => q ((i32_lt hx hy).mpr z)) | exact Int.not_le.mp (fun z => q ((i32_le hy hx).mpr z)) | exact Int.not_lt.mp (fun z => q ((i32_lt hy hx).mpr z)) | exact Int.not_le.mp (fun z => q ((i32_le hx hy).mpr z))) p e s m args below meth c H locs lc C hl hP hS ⟨hk.1, ok_tl hk.2.1, hk.2.2⟩
theorem r_if_le (tgt np : Nat) {x off : Int} (hd : decode M.2.1 pc = .ok (.ifCond .le off, 3)) (ht : (pc : Int) + off = (tgt : Int)) (hn : pc + 3 = np) (kt : x ≤ 0 → Rr l G d M Φ tgt ls st h) (kf : 0 < x → Rr l G d M Φ np ls st h) : Rr l G d M Φ pc ls (vI x :: st) h := by
  subst hn
  intro p e s m args below meth c H locs lc C hl hP hS hk
  have hx : in32 x := ok_hd hk.2.1
  have hy := in32_0
  refine lv_if_le C.1 C.2.1 hd ht (fun q => ?_) (fun q => ?_)
  · exact kt (by rw [i32_0] at q; first | exact (i32_eq hx hy).mp q | exact (i32_lt hx hy).mp q | exact (i32_le hy hx).mp q | exact (i32_lt hy hx).mp q | exact (i32_le hx hy).mp q | exact fun z => q ((i32_eq hx hy).mpr z)) p e s m args below meth c H locs lc C hl hP hS ⟨hk.1, ok_tl hk.2.1, hk.2.2⟩
  · exact kf (by rw [i32_0] at q; first | exact (i32_eq hx hy).mp q | exact fun z => q ((i32_eq hx hy).mpr z) | exact Int.not_lt.mp (fun z => q ((i32_lt hx hy).mpr z)) | exact Int.not_le.mp (fun z => q ((i32_le hy hx).mpr z)) | exact Int.not_lt.mp (fun z => q ((i32_lt hy hx).mpr z)) | exact Int.not_le.mp (fun z => q ((i32_le hx hy).mpr z))) p e s m args below meth c H locs lc C hl hP hS ⟨hk.1, ok_tl hk.2.1, hk.2.2⟩
theorem r_tabIn (tgt : Nat) {x off dflt lo hi : Int} {offs : Array Int} {len : Nat} (hd : decode M.2.1 pc = .ok (.tableswitch dflt lo hi offs, len)) (h1 : lo ≤ x) (h2 : x ≤ hi) (ho : offs[(x - lo).toNat]? = some off) (ht : (pc : Int) + off = (tgt : Int)) (k : Rr l G d M Φ tgt ls st h) : Rr l G d M Φ pc ls (vI x :: st) h := by
  intro p e s m args below meth c H locs lc C hl hP hS hk
  have hx : in32 x := ok_hd hk.2.1
  refine lv_tableIn C.1 C.2.1 hd (x := Int32.ofInt x) (by rw [i32_t hx]; omega) (by rw [i32_t hx]; omega) (by rw [i32_t hx]; exact ho) ht ?_
  exact k p e s m args below meth c H locs lc C hl hP hS ⟨hk.1, ok_tl hk.2.1, hk.2.2⟩
theorem r_tabOut (tgt : Nat) {x dflt lo hi : Int} {offs : Array Int} {len : Nat} (hd : decode M.2.1 pc = .ok (.tableswitch dflt lo hi offs, len)) (h1 : x < lo ∨ hi < x) (ht : (pc : Int) + dflt = (tgt : Int)) (k : Rr l G d M Φ tgt ls st h) : Rr l G d M Φ pc ls (vI x :: st) h := by
  intro p e s m args below meth c H locs lc C hl hP hS hk
  have hx : in32 x := ok_hd hk.2.1
  refine lv_tableOut C.1 C.2.1 hd (x := Int32.ofInt x) (by rw [i32_t hx]; exact h1) ht ?_
  exact k p e s m args below meth c H locs lc C hl hP hS ⟨hk.1, ok_tl hk.2.1, hk.2.2⟩
/-! returns -/
theorem qq_end {Φ : Option zV → zH → Prop} {s t : State} {H : Heap} {locs : List Loc} {args : Array Value} {r : Option zV} {h : zH} (hS : va_S (inA G) s.heap H locs) (hP : va_P (gD G) vwCl (wsOf G h) H) (ht : t.heap = H) (hΦ : Φ r h) (hr : ∀ v, r = some v → okv v) (hH : okH h) : QQ G Φ args s (.returned (r.map (cv G))) t :=
  ⟨⟨r, h, rfl, hΦ, hr, hH, by rw [ht]; exact hP⟩, hS.F ht⟩
theorem r_iret {x : Int} (hd : decode M.2.1 pc = .ok (.ireturn, 1)) (hr : M.2.2.2 = some .int) (k : Φ (some (vI x)) h) : Rr l G d M Φ pc ls [vI x] h := by
  intro p e s m args below meth c H locs lc C hl hP hS hk
  exact W.iret (v := Int32.ofInt x) C.1 C.2.1 (C.2.2.1.trans hr) (fun t ht hW => qq_end (r := some (vI x)) hS hP ht k (fun v e => by cases e; exact ok_hd hk.2.1) hk.2.2) (fun q hq => hS.2.2 q hq) hd C.2.2.2.2.2.2.1
theorem r_zret {x : Int} (hd : decode M.2.1 pc = .ok (.ireturn, 1)) (hr : M.2.2.2 = some .boolean) (hx : x = 0 ∨ x = 1) (k : Φ (some (vI x)) h) : Rr l G d M Φ pc ls [vI x] h := by
  intro p e s m args below meth c H locs lc C hl hP hS hk
  exact W.zret (v := Int32.ofInt x) C.1 C.2.1 (C.2.2.1.trans hr) (by rcases hx with rfl | rfl <;> decide) (fun t ht hW => qq_end (r := some (vI x)) hS hP ht k (fun v e => by cases e; exact ok_hd hk.2.1) hk.2.2) (fun q hq => hS.2.2 q hq) hd C.2.2.2.2.2.2.1
theorem r_lret {x : Int} (hd : decode M.2.1 pc = .ok (.lreturn, 1)) (hr : M.2.2.2 = some .long) (k : Φ (some (vL x)) h) : Rr l G d M Φ pc ls [vL x] h := by
  intro p e s m args below meth c H locs lc C hl hP hS hk
  exact W.lret (v := Int64.ofInt x) C.1 C.2.1 (C.2.2.1.trans hr) (fun t ht hW => qq_end (r := some (vL x)) hS hP ht k (fun v e => by cases e; exact ok_hd hk.2.1) hk.2.2) (fun q hq => hS.2.2 q hq) hd C.2.2.2.2.2.2.1
theorem r_aret {x : Nat} {cn : String} (hd : decode M.2.1 pc = .ok (.areturn, 1)) (hr : M.2.2.2 = some (.object cn)) (k : Φ (some (vR x)) h) : Rr l G d M Φ pc ls [vR x] h := by
  intro p e s m args below meth c H locs lc C hl hP hS hk
  exact W.aret (v := .ref (ga G x)) C.1 C.2.1 (C.2.2.1.trans hr) (Or.inl ⟨_, rfl⟩) (Or.inr ⟨_, rfl⟩) (fun t ht hW => qq_end (r := some (vR x)) hS hP ht k (fun v e => by cases e; exact ok_hd hk.2.1) hk.2.2) (fun q hq => hS.2.2 q hq) hd C.2.2.2.2.2.2.1
theorem r_ret (hd : decode M.2.1 pc = .ok (.return_, 1)) (hr : M.2.2.2 = none) (k : Φ none h) : Rr l G d M Φ pc ls [] h := by
  intro p e s m args below meth c H locs lc C hl hP hS hk
  exact W.vret C.1 C.2.1 (C.2.2.1.trans hr) (fun t ht hW => qq_end (r := none) hS hP ht k (fun v e => by cases e) hk.2.2) (fun q hq => hS.2.2 q hq) hd C.2.2.2.2.2.2.1
end RI
