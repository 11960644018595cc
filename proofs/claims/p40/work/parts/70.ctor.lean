/-! MAKING OBJECTS: worlds that grow. Values as the machine has them, the world as a list of cells. -/
def KA (G : zG) (A : Nat → Prop) (U : State) (H : Heap) : Prop :=
  va_Z RX3 "NEAREST_LEANS" "[I" (.ref (ga G 2000)) A U H ∧ va_T .int (ga G 2000) 7 (fun j => .int (Int32.ofInt (zNear j))) A U H ∧
  vk_S 8 sLen sByt (fun i => ga G (1000 + i)) (fun i => ga G (1100 + i)) A U H ∧ (∀ i, i < 8 → vk_R RX1 (152 + 2 * i) (sTx i) (ga G (1000 + i)) U) ∧
  va_Z "java/lang/String" "COMPACT_STRINGS" "Z" (.int 1) A U H ∧ va_Zq "jdk/internal/util/Preconditions" "SIOOBE_FORMATTER" "Ljava/util/function/BiFunction;" A U H
theorem KA.kept {G : zG} {A : Nat → Prop} {U : State} {H H1 : Heap} (h : KA G A U H) (hq : ∀ a : Nat, a < H.size → ¬ A a → H1[a]? = H[a]?) : KA G A U H1 :=
  ⟨h.1.kept hq, h.2.1.kept hq, h.2.2.1.kept hq, h.2.2.2.1, h.2.2.2.2.1.kept hq, h.2.2.2.2.2.kept hq⟩
theorem KA.warm {G : zG} {A : Nat → Prop} {s U : State} {H : Heap} (hW : s.WarmedH U.vm) (h : KA G A s H) : KA G A U H :=
  ⟨h.1.moved hW.alike, h.2.1.moved hW.alike, h.2.2.1.moved hW.alike, fun i hi => (h.2.2.2.1 i hi).warm hW, h.2.2.2.2.1.moved hW.alike, h.2.2.2.2.2.moved hW.alike⟩
theorem KA.same {G : zG} {A : Nat → Prop} {u U : State} {H : Heap} (hv : U.vm = u.vm) (h : KA G A u H) : KA G A U H := by
  have ha : u.vm.Alike U.vm := by rw [hv]; exact Vm.Alike.refl _
  exact ⟨h.1.moved ha, h.2.1.moved ha, h.2.2.1.moved ha, fun i hi => (h.2.2.2.1 i hi).same hv, h.2.2.2.2.1.moved ha, h.2.2.2.2.2.moved ha⟩
theorem KA.narrow {G : zG} {A B : Nat → Prop} {U : State} {H : Heap} (h : KA G A U H) (hAB : ∀ q, B q → A q) : KA G B U H :=
  ⟨h.1.narrow hAB, h.2.1.narrow hAB, h.2.2.1.narrow hAB, h.2.2.2.1, h.2.2.2.2.1.narrow hAB, h.2.2.2.2.2.narrow hAB⟩
theorem KA.kk {G G' : zG} {U : State} {H : Heap} (h : KA G (inA G') U H) (hg : ∀ i, 1000 ≤ i → ga G' i = ga G i) : KK G' U H := by
  obtain ⟨h1, h2, h3, h4, h5⟩ := h
  have e1 : (fun i => ga G' (1000 + i)) = fun i => ga G (1000 + i) := by funext i; exact hg _ (by omega)
  have e2 : (fun i => ga G' (1100 + i)) = fun i => ga G (1100 + i) := by funext i; exact hg _ (by omega)
  refine ⟨by rw [hg 2000 (by omega)]; exact h1, by rw [hg 2000 (by omega)]; exact h2, by rw [e1, e2]; exact h3, fun i hi => by rw [hg (1000 + i) (by omega)]; exact h4 i hi, h5⟩
def NW (U : State) : Prop := va_Nw (.methodLinkNest RX3 29 yX1_init RX3) U ∧ va_Nw (.methodLinkNest RX3 50 yX0_init RX3) U ∧ va_AO RX2 U ∧ va_AO RX0 U
theorem NW.warm {s U : State} (hW : s.WarmedH U.vm) (h : NW s) : NW U := ⟨h.1.warmM hW, h.2.1.warmM hW, h.2.2.1.moved hW.alike, h.2.2.2.moved hW.alike⟩
theorem NW.same {u U : State} (hv : u.vm = U.vm) (h : NW u) : NW U := by
  have ha : u.vm.Alike U.vm := by rw [hv]; exact Vm.Alike.refl _
  exact ⟨h.1.same rfl hv, h.2.1.same rfl hv, h.2.2.1.moved ha, h.2.2.2.moved ha⟩
def rmN (d mc ms : Nat) : Room := { frames := d, cells := mc, slots := ms, locals := 36 * d }
def Bn (G : zG) (ws : va_W) (A : Nat → Prop) (U : State) : Prop := va_P (gD G) vwCl ws U.heap ∧ va_D A ws ∧ va_K (gD G) vwCl (tysOf G) U ∧ KA G A U U.heap ∧ NW U
/-- what a constructor does with the object at h0: behind it lies the world Wd, at addresses ad -/
def Cn (l : Launch) (G : zG) (d mc ms : Nat) (M : zM) (ci : Nat) (fs : List Value) (Wd : (Nat → Nat) → va_W) : Prop :=
  ∀ h0 sz : Nat, Met l M.1 (wsM M) (rmN d mc ms) (va_Pc [.ref h0] (fun U => Bn G [(h0, .inr (ci, fs))] (va_A [(h0, .inr (ci, fs))] sz) U ∧ U.heap.size = sz))
    (va_Qv (S := Nat → Nat) (fun ad => ad 0 = h0) (fun ad t => va_P (gD G) vwCl (Wd ad) t.heap ∧ va_D (va_A [(h0, .inr (ci, fs))] sz) (Wd ad)) (va_A [(h0, .inr (ci, fs))] sz)) mc ms (va_A [(h0, .inr (ci, fs))] sz)
def MN (G : zG) (A : Nat → Prop) (M : zM) (p : Program) (s : State) (m : MethodId) (args : Array Value) (meth : Method) (c : Code) : Prop :=
  p.tables.exec = Jvm.exec ∧ c.code = M.2.1 ∧ meth.sig.returnType = M.2.2.2 ∧ c.maxLocals = M.2.2.1 ∧ s.vm.findClass M.1.cls = some m.cls ∧ (∀ w ∈ wsM M, w.before args s = true) ∧ meth.locks = false ∧ va_K (gD G) vwCl (tysOf G) s ∧ KA G A s s.heap ∧ NW s ∧ meth.name = "<init>" ∧ (∀ q, s.heap.size ≤ q → A q)
/-- from this frame of a constructor, in this world, the machine comes to its end -/
def Rn (l : Launch) (G : zG) (A : Nat → Prop) (d mc ms : Nat) (M : zM) (Q : Array Value → State → Outcome → State → Prop) (pc : Nat) (pl : List (Nat × Value)) (st : List Value) (ws : va_W) (kc ks : Nat) : Prop :=
  ∀ (p : Program) (e : Env) (s : State) (m : MethodId) (args : Array Value) (below : List Frame) (meth : Method) (c : Code) (H : Heap) (locs : List Loc) (lc : Array Slot),
    MN G A M p s m args meth c → lv_has lc M.2.2.1 pl → va_P (gD G) vwCl ws H → va_D A ws → va_S A s.heap H locs →
    W p l e (rmN d mc ms) s m args below meth c H locs kc ks (MQ below Q args s mc ms A) (F0 m pc lc st)
section RN
variable {l : Launch} {G : zG} {A : Nat → Prop} {d mc ms : Nat} {M : zM} {Q : Array Value → State → Outcome → State → Prop} {pc : Nat} {pl : List (Nat × Value)} {st : List Value} {ws : va_W} {kc ks : Nat}
theorem mn_w {p : Program} {s : State} {m : MethodId} {args : Array Value} {meth : Method} {c : Code} (C : MN G A M p s m args meth c) {w : Cond} (hw : w ∈ ww) : w.before args s = true := C.2.2.2.2.2.1 w (List.mem_cons_of_mem _ hw)
theorem mn_in {p : Program} {s : State} {m : MethodId} {args : Array Value} {meth : Method} {c : Code} (C : MN G A M p s m args meth c) : ∀ w ∈ ww, w.before args s = true := fun _ hw => mn_w C hw
theorem n_aload (np : Nat) {q : Fin 4} {x i : Nat} (hd : decode M.2.1 pc = .ok (.aload_n q, 1)) (hn : pc + 1 = np) (hx : pl[i]? = some ((q : Nat), .ref x)) (k : Rn l G A d mc ms M Q np pl (.ref x :: st) ws kc ks) : Rn l G A d mc ms M Q pc pl st ws kc ks := by
  subst hn
  intro p e s m args below meth c H locs lc C hl hP hD hS
  exact lv_aload_n C.1 C.2.1 hd rfl (lv_at hl i hx) (k p e s m args below meth c H locs lc C hl hP hD hS)
theorem n_iconst (np : Nat) {n : Int} (hd : decode M.2.1 pc = .ok (.iconst n, 1)) (hn : pc + 1 = np) (k : Rn l G A d mc ms M Q np pl (.int (Int32.ofInt n) :: st) ws kc ks) : Rn l G A d mc ms M Q pc pl st ws kc ks := by
  subst hn
  intro p e s m args below meth c H locs lc C hl hP hD hS
  exact lv_iconst C.1 C.2.1 hd rfl (k p e s m args below meth c H locs lc C hl hP hD hS)
theorem n_bipush (np : Nat) {n : Int} (hd : decode M.2.1 pc = .ok (.bipush n, 2)) (hn : pc + 2 = np) (hv : (Int8.ofInt n).toInt32 = Int32.ofInt n) (k : Rn l G A d mc ms M Q np pl (.int (Int32.ofInt n) :: st) ws kc ks) : Rn l G A d mc ms M Q pc pl st ws kc ks := by
  subst hn
  intro p e s m args below meth c H locs lc C hl hP hD hS
  exact lv_bipush C.1 C.2.1 hd hv (k p e s m args below meth c H locs lc C hl hP hD hS)
theorem n_sipush (np : Nat) {n : Int} (hd : decode M.2.1 pc = .ok (.sipush n, 3)) (hn : pc + 3 = np) (hv : (Int16.ofInt n).toInt32 = Int32.ofInt n) (k : Rn l G A d mc ms M Q np pl (.int (Int32.ofInt n) :: st) ws kc ks) : Rn l G A d mc ms M Q pc pl st ws kc ks := by
  subst hn
  intro p e s m args below meth c H locs lc C hl hP hD hS
  exact lv_sipush C.1 C.2.1 hd hv (k p e s m args below meth c H locs lc C hl hP hD hS)
theorem n_dup (np : Nat) {a : Nat} (hd : decode M.2.1 pc = .ok (.dup, 1)) (hn : pc + 1 = np) (k : Rn l G A d mc ms M Q np pl (.ref a :: .ref a :: st) ws kc ks) : Rn l G A d mc ms M Q pc pl (.ref a :: st) ws kc ks := by
  subst hn
  intro p e s m args below meth c H locs lc C hl hP hD hS
  exact lv_dup C.1 C.2.1 hd rfl (k p e s m args below meth c H locs lc C hl hP hD hS)
theorem ww_oi1 : Cond.instanceMethod Lib.objectInit ∈ ww := by decide +kernel
theorem ww_oi2 : Cond.code Lib.objectInit ⟨#[0xb1]⟩ 1 none ∈ ww := by decide +kernel
theorem n_obj (np : Nat) {ix a : Nat} (hd : decode M.2.1 pc = .ok (.invokespecial ix, 3)) (hn : pc + 3 = np) (hL : Cond.methodLink M.1.cls ix Lib.objectInit ∈ ww) (hdd : Nat.ble 1 d = true) (k : Rn l G A d mc ms M Q np pl [] ws kc ks) : Rn l G A d mc ms M Q pc pl [.ref a] ws kc ks := by
  subst hn
  intro p e s m args below meth c H locs lc C hl hP hD hS
  have h1 := Nat.le_of_ble_eq_true hdd
  refine W.objInit C.1 C.2.1 C.2.2.2.2.1 (mn_w C hL) (mn_w C ww_oi1) (mn_w C ww_oi2) rfl (hl.1.trans C.2.2.2.1.symm) rfl hd h1 (show 2 * 0 + 0 + 12 ≤ 36 * d by omega) ?_
  exact k p e s m args below meth c H locs lc C hl hP hD hS
/-- an array of numbers is made -/
theorem n_newa (np : Nat) {at_ : ArrayType} {ty : FieldType} {t0 : Nat} {n : Int} (N : Nat) (hd : decode M.2.1 pc = .ok (.newarray at_, 2)) (hn : pc + 2 = np) (hty : newarray.typeOf at_ = ty) (hw : Cond.arrayClass (newarray.typeOf at_) ∈ ww) (ht : (tysOf G)[t0]? = some (gC G t0, ty)) (hdf : defaultValue ty = .int 0) (hp : ∀ C, ty ≠ .object C) (hnn : ¬ Int32.ofInt n < 0) (hN : (Int32.ofInt n).toNatClampNeg = N) (hb : N * componentBytes ty ≤ 536870912) (h1 : Nat.ble (kc + 1) mc = true) (h2 : Nat.ble (ks + N) ms = true)
    (k : ∀ q : Nat, Rn l G A d mc ms M Q np pl (.ref q :: st) (ws ++ [(q, .inl (gC G t0, (N, .inl (fun _ => 0))))]) (kc + 1) (ks + N)) : Rn l G A d mc ms M Q pc pl (.int (Int32.ofInt n) :: st) ws kc ks := by
  subst hn
  intro p e s m args below meth c H locs lc C hl hP hD hS
  refine va_newa (a0 := (N, .inl (fun _ => 0))) C.1 C.2.1 (mn_w C hw) hty C.2.2.2.2.2.2.2.1 hP hD hS C.2.2.2.2.2.2.2.2.2.2.2 (fun cA => by rw [vp_cell_i, hdf]) hnn hN hb (Nat.le_of_ble_eq_true h1) (Nat.le_of_ble_eq_true h2) hd (fun q cA H1 hK1 hP1 hD1 hS1 => ?_)
  have e1 := (C.2.2.2.2.2.2.2.1.2 t0 _ ht).2
  have e2 := (hK1.2 (tysOf G).length (cA, ty) (by rw [List.getElem?_append_right (Nat.le_refl _), Nat.sub_self]; rfl)).2
  have e : cA = gC G t0 := by
    cases ty with
    | object C => exact absurd rfl (hp C)
    | _ => exact Option.some.inj (e2.symm.trans e1)
  subst e
  exact k q p e s m args below meth c H1 locs lc C hl hP1 hD1 hS1
theorem n_putF (np : Nat) {ix ci f a : Nat} {v : Value} {fs : List Value} (q0 : Nat) (hd : decode M.2.1 pc = .ok (.putfield ix, 3)) (hn : pc + 3 = np) (hL : LKF M.1.cls ix ci f) (hfi : (clT ci f).2.2.2 = true) (hcl : M.1.cls = clN ci) (he : ws[q0]? = some (a, .inr (ci, fs))) (hnar : narrow (clY ci f) v = v) (hfit : fits (clY ci f) v = true) (hln : Nat.ble (f + 1) fs.length = true)
    (k : Rn l G A d mc ms M Q np pl st (ws.set q0 (a, .inr (ci, fs.set f v))) kc ks) : Rn l G A d mc ms M Q pc pl (v :: .ref a :: st) ws kc ks := by
  subst hn
  intro p e s m args below meth c H locs lc C hl hP hD hS
  refine va_putF (D := gD G) (ci := ci) (v := v) (ty := clY ci f) (C := clN ci) (T := clT ci) (N := nfs ci) C.1 C.2.1 (mn_in C) (cl_ws ci hL.1) (clY ci) (cl_ty ci hL.1) (cl_nm ci hL.1) C.2.2.2.2.1 C.2.2.2.2.2.2.2.1 hP hD hS q0 he (cl_at ci hL.1) f hL.2.1 (mn_w C hL.2.2) (fun x hx => by rw [cl_own ci hL.1 f hL.2.1] at hx; exact hx) hfi C.2.2.2.2.2.2.2.2.2.2.1 (by rw [cl_own ci hL.1 f hL.2.1, hcl]) (cl_ty ci hL.1 f hL.2.1) hnar hfit (Nat.le_of_ble_eq_true hln) hd (fun H1 locs1 hP1 hD1 hS1 => ?_)
  exact k p e s m args below meth c H1 locs1 lc C hl hP1 hD1 hS1
theorem n_put (np : Nat) {ix ci f a : Nat} {v : Value} {fs : List Value} (q0 : Nat) (hd : decode M.2.1 pc = .ok (.putfield ix, 3)) (hn : pc + 3 = np) (hL : LKF M.1.cls ix ci f) (hfi : (clT ci f).2.2.2 = false) (he : ws[q0]? = some (a, .inr (ci, fs))) (hnar : narrow (clY ci f) v = v) (hfit : fits (clY ci f) v = true) (hln : Nat.ble (f + 1) fs.length = true)
    (k : Rn l G A d mc ms M Q np pl st (ws.set q0 (a, .inr (ci, fs.set f v))) kc ks) : Rn l G A d mc ms M Q pc pl (v :: .ref a :: st) ws kc ks := by
  subst hn
  intro p e s m args below meth c H locs lc C hl hP hD hS
  refine va_put (D := gD G) (ci := ci) (v := v) (ty := clY ci f) (C := clN ci) (T := clT ci) (N := nfs ci) C.1 C.2.1 (mn_in C) (cl_ws ci hL.1) (clY ci) (cl_ty ci hL.1) (cl_nm ci hL.1) C.2.2.2.2.1 C.2.2.2.2.2.2.2.1 hP hD hS q0 he (cl_at ci hL.1) f hL.2.1 (mn_w C hL.2.2) (fun x hx => by rw [cl_own ci hL.1 f hL.2.1] at hx; exact hx) hfi (cl_ty ci hL.1 f hL.2.1) hnar hfit (Nat.le_of_ble_eq_true hln) hd (fun H1 locs1 hP1 hD1 hS1 => ?_)
  exact k p e s m args below meth c H1 locs1 lc C hl hP1 hD1 hS1
theorem n_get (np : Nat) {ix ci f a : Nat} {v : Value} {fs : List Value} (q0 : Nat) (hd : decode M.2.1 pc = .ok (.getfield ix, 3)) (hn : pc + 3 = np) (hL : LKF M.1.cls ix ci f) (he : ws[q0]? = some (a, .inr (ci, fs))) (hv : fs[f]? = some v) (k : Rn l G A d mc ms M Q np pl (v :: st) ws kc ks) : Rn l G A d mc ms M Q pc pl (.ref a :: st) ws kc ks := by
  subst hn
  intro p e s m args below meth c H locs lc C hl hP hD hS
  refine va_get (D := gD G) (ci := ci) (v := v) (C := clN ci) (T := clT ci) (N := nfs ci) C.1 C.2.1 (mn_in C) (cl_ws ci hL.1) C.2.2.2.2.1 C.2.2.2.2.2.2.2.1 hP q0 he (cl_at ci hL.1) f hL.2.1 (mn_w C hL.2.2) (fun x hx => by rw [cl_own ci hL.1 f hL.2.1] at hx; exact hx) hv hd ?_
  exact k p e s m args below meth c H locs lc C hl hP hD hS
theorem n_iast (np : Nat) {a n : Nat} {f : Nat → Int32} {i x : Int} (q0 : Nat) (hd : decode M.2.1 pc = .ok (.iastore, 1)) (hn : pc + 1 = np) (he : ws[q0]? = some (a, .inl (gC G 0, (n, .inl f)))) (j : Nat) (hj : (Int32.ofInt i).toNatClampNeg = j) (hin : vp_in (Int32.ofInt i) n)
    (k : Rn l G A d mc ms M Q np pl st (ws.set q0 (a, .inl (gC G 0, (n, .inl (upd f j (Int32.ofInt x)))))) kc ks) : Rn l G A d mc ms M Q pc pl (.int (Int32.ofInt x) :: .int (Int32.ofInt i) :: .ref a :: st) ws kc ks := by
  subst hn hj
  intro p e s m args below meth c H locs lc C hl hP hD hS
  refine va_iast (D := gD G) C.1 C.2.1 C.2.2.2.2.2.2.2.1 hP hD hS q0 0 he rfl hin hd (fun H1 locs1 hP1 hD1 hS1 => ?_)
  exact k p e s m args below meth c H1 locs1 lc C hl hP1 hD1 hS1
theorem n_ret (hd : decode M.2.1 pc = .ok (.return_, 1)) (hr : M.2.2.2 = none) (h1 : Nat.ble kc mc = true) (h2 : Nat.ble ks ms = true)
    (k : ∀ (args : Array Value) (s t : State), va_P (gD G) vwCl ws t.heap → va_D A ws → va_F A s t → Q args s (.returned none) t) : Rn l G A d mc ms M Q pc pl [] ws kc ks := by
  intro p e s m args below meth c H locs lc C hl hP hD hS
  refine W.widen (k := mc) (n := ms) (Nat.le_of_ble_eq_true h1) (Nat.le_of_ble_eq_true h2) ?_
  exact W.vret C.1 C.2.1 (C.2.2.1.trans hr) (fun t ht hW => k args s t (by rw [ht]; exact hP) hD (hS.F ht)) (fun q hq => hS.2.2 q hq) hd C.2.2.2.2.2.2.1
theorem Cn.of {ci : Nat} {fs : List Value} {Wd : (Nat → Nat) → va_W} (hy : plainName M.1.cls = true) (hnm : M.1.name = "<init>") (hn : 1 ≤ M.2.2.1)
    (k : ∀ (h0 : Nat) (A : Nat → Prop), Rn l G A d mc ms M (va_Qv (S := Nat → Nat) (fun ad => ad 0 = h0) (fun ad t => va_P (gD G) vwCl (Wd ad) t.heap ∧ va_D A (Wd ad)) A) 0 [(0, .ref h0)] [] [(h0, .inr (ci, fs))] 0 0) : Cn l G d mc ms M ci fs Wd := by
  intro h0 sz
  refine Met.ofW (cc := M.2.1) (maxL := M.2.2.1) (ret := M.2.2.2) hy rfl ?_
  intro p e s m args below meth c s₁ B hml hv0
  obtain ⟨rfl, ⟨hP, hD, hK, hKA, hNW⟩, hsz⟩ := hv0
  have hl := lv_entry ([.ref h0]) (n := M.2.2.1) (by simpa [lg_sl, Value.category] using hn)
  rw [lg_entry_eq]
  generalize (lg_sl [Value.ref h0] ++ List.replicate (M.2.2.1 - (lg_sl [Value.ref h0]).length) Slot.unset).toArray = lc at hl ⊢
  have hin : meth.name = "<init>" := by rw [(name_of_methodNamed B.named B.method).1]; exact hnm
  exact k h0 _ p e s m _ below meth c s.heap [] lc ⟨B.exec, B.bytes, B.returns, hml, findClass_of_methodNamed B.named, atoms_spec (ws := wsM M) B.pre, B.notSynchronized, hK, hKA, hNW, hin, fun q hq => Or.inr (by rw [← hsz]; exact hq)⟩ hl hP hD va_S.rf
end RN
