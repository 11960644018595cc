/-! THE CLAIM OUT OF ONE WALK OF THE LAW'S BODY. Your part is whole_start (and what it stands on); all else here is the same for every law, but numbers. -/
def R_law : String := "SunPointerLaw"
def lw_P (b : Addr) (xs : List Int32) (args : Array Value) (s : State) : Prop := args = #[.ref b] ∧ s.IntsAt b xs ∧ xs.length ≤ 2560 ∧ (Jvm.Cond.and given_1 narrow_1).before args s = true
def lw_Q (_ : Array Value) (s : State) (o : Outcome) (t : State) : Prop := o = .returned (some (.int 1)) ∧ Framed s o t [] 600000 7302250
def lw_Z (below : List Frame) (a : Array Value) (s : State) : State → Prop := fun t => ∃ o, t.status = .running ∧ Ended t below o ∧ lw_Q a s o t
/-- the law's own end, with 1 on the stack, nothing written that was there before, its room as the claim has it -/
theorem lw_ret {p : Program} {l : Launch} {e : Env} {s : State} {m : MethodId} {below : List Frame} {meth : Method} {c : Code} {b : Nat} (hx : p.tables.exec = Jvm.exec) (hb : c.code = code) (hr : meth.sig.returnType = ret) (hlocks : meth.locks = false) {pc : Nat} {H : Heap} {ls : Array Slot} (hdg : decode code pc = .ok (.ireturn, 1)) : W p l e room_1 s m #[Value.ref b] below meth c H [] 600000 7302250 (lw_Z below #[Value.ref b] s) (F0 m pc ls [.int 1]) := by
  intro T hT X
  obtain ⟨fs, hret, hrun, hended, hW, hframe⟩ := X.leave (v := some (.int 1)) (hlocks := hlocks) (fun h => by rw [hr] at h; cases h)
  have hmeth' : T.vm.method? m = some meth := X.method'
  refine ⟨T.setFrames fs, ?_, .returned (some (.int 1)), hrun, hended, rfl, ⟨_, rfl⟩, hW, hframe⟩
  jvm_step X.here [X.here.top, hx, hb, hdg, hmeth', hr, ret, narrow_b1]
  (try refine ⟨rfl, ?_⟩); (try refine ⟨rfl, ?_⟩)
  first | (intro acts; rw [hret _ acts rfl rfl rfl]) | rw [hret _ _ rfl rfl rfl]
  exact Steps.refl _
/-- what holds at the law's entry: the machine, the code, the tables' words (any of lw_tbl by 'hts w (by decide +kernel)'), the script of L ints xs at the cell b, what the Statement gives of the start (any of its parts by flat_of_before) -/
def lw_At (p : Program) (s : State) (m : MethodId) (meth : Method) (c : Code) (b L : Nat) (xs : Nat → Int32) : Prop :=
  p.tables.exec = Jvm.exec ∧ c.code = code ∧ meth.sig.returnType = ret ∧ c.maxLocals = 4 ∧ s.vm.findClass R_law = some m.cls ∧ (∀ w ∈ lw_tbl, w.before #[Value.ref b] s = true) ∧ va_X b L xs s s.heap ∧ b < s.heap.size ∧ meth.locks = false ∧ (Jvm.Cond.and given_1 narrow_1).before #[Value.ref b] s = true
/-- what holds at every point of the law behind its constructors -/
def LW (G : zG) (b L : Nat) (xs : Nat → Int32) (p : Program) (s : State) (m : MethodId) (meth : Method) (c : Code) : Prop :=
  p.tables.exec = Jvm.exec ∧ c.code = cL_law ∧ meth.sig.returnType = ret ∧ c.maxLocals = 4 ∧ s.vm.findClass RL = some m.cls ∧ (∀ w ∈ ww, w.before #[Value.ref b] s = true) ∧ meth.locks = false ∧ va_K (gD G) vwCl (tysOf G) s ∧ KK G s s.heap ∧ injG G ∧ va_X b L xs s s.heap ∧ b < s.heap.size ∧ ga G 3000 = b ∧ (∀ q, inA G q → s.heap.size ≤ q) ∧ L ≤ 2560
/-- from this frame of the law, in this world, the machine comes to the law's end with 1 -/
def Rw (l : Launch) (G : zG) (b L : Nat) (xs : Nat → Int32) (pc : Nat) (ls : List (Option zV)) (st : List zV) (h : zH) : Prop :=
  ∀ (p : Program) (e : Env) (s : State) (m : MethodId) (below : List Frame) (meth : Method) (c : Code) (H : Heap) (locs : List Loc) (lc : Array Slot),
    LW G b L xs p s m meth c → lvs G lc 4 ls → va_P (gD G) vwCl (wsOf G h) H → va_S (fun q => s.heap.size ≤ q) s.heap H locs → okF ls st h →
    W p l e room_1 s m #[Value.ref b] below meth c H locs 600000 7302250 (lw_Z below #[Value.ref b] s) (F0 m pc lc (st.map (cv G)))
section RW
variable {l : Launch} {G : zG} {b L : Nat} {xs : Nat → Int32} {pc : Nat} {ls : List (Option zV)} {st : List zV} {h : zH}
theorem w_iconst (np : Nat) {n : Int} (hd : decode cL_law pc = .ok (.iconst n, 1)) (hn : pc + 1 = np) (hr : b32 n = true) (k : Rw l G b L xs np ls (vI n :: st) h) : Rw l G b L xs pc ls st h := by
  subst hn
  intro p e s m below meth c H locs lc C hl hP hS hk
  refine lv_iconst C.1 C.2.1 hd rfl ?_
  exact k p e s m below meth c H locs lc C hl hP hS ⟨hk.1, ok_c (b32_in hr) hk.2.1, hk.2.2⟩
theorem w_bipush (np : Nat) {n : Int} (hd : decode cL_law pc = .ok (.bipush n, 2)) (hn : pc + 2 = np) (hr : b32 n = true) (hv : (Int8.ofInt n).toInt32 = Int32.ofInt n) (k : Rw l G b L xs np ls (vI n :: st) h) : Rw l G b L xs pc ls st h := by
  subst hn
  intro p e s m below meth c H locs lc C hl hP hS hk
  refine lv_bipush C.1 C.2.1 hd hv ?_
  exact k p e s m below meth c H locs lc C hl hP hS ⟨hk.1, ok_c (b32_in hr) hk.2.1, hk.2.2⟩
theorem w_iload_n (np : Nat) {q : Fin 4} {x : Int} (hd : decode cL_law pc = .ok (.iload_n q, 1)) (hn : pc + 1 = np) (hx : ls[(q : Nat)]? = some (some (vI x))) (k : Rw l G b L xs np ls (vI x :: st) h) : Rw l G b L xs pc ls st h := by
  subst hn
  intro p e s m below meth c H locs lc C hl hP hS hk
  refine lv_iload_n C.1 C.2.1 hd rfl (hl.2.2 _ _ hx) ?_
  exact k p e s m below meth c H locs lc C hl hP hS ⟨hk.1, ok_c (v := vI x) (hk.1 _ (List.mem_of_getElem? hx)) hk.2.1, hk.2.2⟩
theorem w_aload_n (np : Nat) {q : Fin 4} {x : Nat} (hd : decode cL_law pc = .ok (.aload_n q, 1)) (hn : pc + 1 = np) (hx : ls[(q : Nat)]? = some (some (vR x))) (k : Rw l G b L xs np ls (vR x :: st) h) : Rw l G b L xs pc ls st h := by
  subst hn
  intro p e s m below meth c H locs lc C hl hP hS hk
  refine lv_aload_n C.1 C.2.1 hd rfl (hl.2.2 _ _ hx) ?_
  exact k p e s m below meth c H locs lc C hl hP hS ⟨hk.1, ok_c (v := vR x) (hk.1 _ (List.mem_of_getElem? hx)) hk.2.1, hk.2.2⟩
theorem w_istore_n (np : Nat) {q : Fin 4} {x : Int} (hd : decode cL_law pc = .ok (.istore_n q, 1)) (hn : pc + 1 = np) (hi : Nat.ble ((q : Nat) + 1) 4 = true) (hq : noL ls (q : Nat) = true) (k : Rw l G b L xs np (ls.set (q : Nat) (some (vI x))) st h) : Rw l G b L xs pc ls (vI x :: st) h := by
  subst hn
  intro p e s m below meth c H locs lc C hl hP hS hk
  refine lv_istore_n C.1 C.2.1 hd rfl hl.has (Nat.le_of_ble_eq_true hi) rfl (fun lc' hl' => ?_)
  exact k p e s m below meth c H locs lc' C (hl.set1 (v := vI x) hq hl') hP hS ⟨ok_set hk.1 (ok_hd hk.2.1), ok_tl hk.2.1, hk.2.2⟩
theorem w_iinc (np : Nat) {q : Nat} {n x : Int} (v : Int) (hd : decode cL_law pc = .ok (.iinc q n, 3)) (hn : pc + 3 = np) (hi : Nat.ble (q + 1) 4 = true) (hx : ls[q]? = some (some (vI x))) (hq : noL ls q = true) (hv : w32 (x + n) = v) (k : Rw l G b L xs np (ls.set q (some (vI v))) st h) : Rw l G b L xs pc ls st h := by
  subst hn hv
  intro p e s m below meth c H locs lc C hl hP hS hk
  obtain ⟨k1, hk1⟩ := List.getElem?_of_mem (pl_mem (G := G) (hl.lt hx) hx)
  have ev : Int32.ofInt x + Int32.ofInt n = Int32.ofInt (w32 (x + n)) := by rw [w32_o, Int32.ofInt_add]
  refine lv_iinc C.1 C.2.1 hd hl.has hk1 ev (Nat.le_of_ble_eq_true hi) rfl (fun lc' hl' => ?_)
  exact k p e s m below meth c H locs lc' C (hl.set1 (v := vI (w32 (x + n))) hq hl') hP hS ⟨ok_set hk.1 (w32_in _), hk.2.1, hk.2.2⟩
theorem w_iadd (np : Nat) {x y : Int} {v : Int} (hd : decode cL_law pc = .ok (.iadd, 1)) (hn : pc + 1 = np) (hv : w32 (x + y) = v) (k : Rw l G b L xs np ls (vI v :: st) h) : Rw l G b L xs pc ls (vI y :: vI x :: st) h := by
  subst hn hv
  intro p e s m below meth c H locs lc C hl hP hS hk
  have ev : Int32.ofInt x + Int32.ofInt y = Int32.ofInt (w32 (x + y)) := by rw [w32_o, Int32.ofInt_add]
  refine lv_iadd C.1 C.2.1 hd ?_
  rw [ev]
  exact k p e s m below meth c H locs lc C hl hP hS ⟨hk.1, ok_c (v := vI _) (w32_in _) (ok_tl (ok_tl hk.2.1)), hk.2.2⟩
theorem w_isub (np : Nat) {x y : Int} {v : Int} (hd : decode cL_law pc = .ok (.isub, 1)) (hn : pc + 1 = np) (hv : w32 (x - y) = v) (k : Rw l G b L xs np ls (vI v :: st) h) : Rw l G b L xs pc ls (vI y :: vI x :: st) h := by
  subst hn hv
  intro p e s m below meth c H locs lc C hl hP hS hk
  have ev : Int32.ofInt x - Int32.ofInt y = Int32.ofInt (w32 (x - y)) := by rw [w32_o, Int32.ofInt_sub]
  refine lv_isub C.1 C.2.1 hd ?_
  rw [ev]
  exact k p e s m below meth c H locs lc C hl hP hS ⟨hk.1, ok_c (v := vI _) (w32_in _) (ok_tl (ok_tl hk.2.1)), hk.2.2⟩
theorem w_iand (np : Nat) {x y : Int} {v : Int} (hd : decode cL_law pc = .ok (.iand, 1)) (hn : pc + 1 = np) (hv : z_iand x y = v) (k : Rw l G b L xs np ls (vI v :: st) h) : Rw l G b L xs pc ls (vI y :: vI x :: st) h := by
  subst hn hv
  intro p e s m below meth c H locs lc C hl hP hS hk
  have ev : Int32.ofInt x &&& Int32.ofInt y = Int32.ofInt (z_iand x y) := by rw [z_iand, Int32.ofInt_toInt]
  refine lv_iand C.1 C.2.1 hd ?_
  rw [ev]
  exact k p e s m below meth c H locs lc C hl hP hS ⟨hk.1, ok_c (v := vI _) ⟨by have := Int32.le_toInt (Int32.ofInt x &&& Int32.ofInt y); unfold z_iand; omega, by have := Int32.toInt_lt (Int32.ofInt x &&& Int32.ofInt y); unfold z_iand; omega⟩ (ok_tl (ok_tl hk.2.1)), hk.2.2⟩
theorem w_lcmp (np : Nat) {x y : Int} (hd : decode cL_law pc = .ok (.lcmp, 1)) (hn : pc + 1 = np) (k : Rw l G b L xs np ls (vI (z_lcmp x y) :: st) h) : Rw l G b L xs pc ls (vL y :: vL x :: st) h := by
  subst hn
  intro p e s m below meth c H locs lc C hl hP hS hk
  have hy : in64 y := ok_hd hk.2.1
  have hx : in64 x := ok_hd (ok_tl hk.2.1)
  have ev : lg_cmp (Int64.ofInt x) (Int64.ofInt y) = Int32.ofInt (z_lcmp x y) := by
    unfold lg_cmp z_lcmp
    simp only [gt_iff_lt, i64_lt hy hx, i64_eq hx hy]
    split
    · decide
    · split <;> decide
  refine W.lcmp C.1 C.2.1 hd ?_
  rw [ev]
  exact k p e s m below meth c H locs lc C hl hP hS ⟨hk.1, ok_c (v := vI _) (by unfold z_lcmp; split; exact ⟨by decide, by decide⟩; split <;> exact ⟨by decide, by decide⟩) (ok_tl (ok_tl hk.2.1)), hk.2.2⟩
theorem w_pop (np : Nat) {v : zV} (hd : decode cL_law pc = .ok (.pop, 1)) (hn : pc + 1 = np) (hc : (cv G v).category = 1) (k : Rw l G b L xs np ls st h) : Rw l G b L xs pc ls (v :: st) h := by
  subst hn
  intro p e s m below meth c H locs lc C hl hP hS hk
  refine lv_pop C.1 C.2.1 hd hc ?_
  exact k p e s m below meth c H locs lc C hl hP hS ⟨hk.1, ok_tl hk.2.1, hk.2.2⟩
theorem w_goto {off : Int} (tgt : Nat) (hd : decode cL_law pc = .ok (.goto off, 3)) (ht : (pc : Int) + off = (tgt : Int)) (k : Rw l G b L xs tgt ls st h) : Rw l G b L xs pc ls st h := by
  intro p e s m below meth c H locs lc C hl hP hS hk
  refine lv_goto C.1 C.2.1 hd ht ?_
  exact k p e s m below meth c H locs lc C hl hP hS hk
theorem w_icmp_eq (tgt np : Nat) {x y off : Int} (hd : decode cL_law pc = .ok (.if_icmp .eq off, 3)) (ht : (pc : Int) + off = (tgt : Int)) (hn : pc + 3 = np) (kt : x = y → Rw l G b L xs tgt ls st h) (kf : ¬ x = y → Rw l G b L xs np ls st h) : Rw l G b L xs pc ls (vI y :: vI x :: st) h := by
  subst hn
  intro p e s m below meth c H locs lc C hl hP hS hk
  have hy : in32 y := ok_hd hk.2.1
  have hx : in32 x := ok_hd (ok_tl hk.2.1)
  refine lv_icmp_eq C.1 C.2.1 hd ht (fun q => ?_) (fun q => ?_)
  · exact kt ((i32_eq hx hy).mp q) p e s m below meth c H locs lc C hl hP hS ⟨hk.1, ok_tl (ok_tl hk.2.1), hk.2.2⟩
  · exact kf (fun z => q ((i32_eq hx hy).mpr z)) p e s m below meth c H locs lc C hl hP hS ⟨hk.1, ok_tl (ok_tl hk.2.1), hk.2.2⟩
theorem w_icmp_gt (tgt np : Nat) {x y off : Int} (hd : decode cL_law pc = .ok (.if_icmp .gt off, 3)) (ht : (pc : Int) + off = (tgt : Int)) (hn : pc + 3 = np) (kt : y < x → Rw l G b L xs tgt ls st h) (kf : x ≤ y → Rw l G b L xs np ls st h) : Rw l G b L xs pc ls (vI y :: vI x :: st) h := by
  subst hn
  intro p e s m below meth c H locs lc C hl hP hS hk
  have hy : in32 y := ok_hd hk.2.1
  have hx : in32 x := ok_hd (ok_tl hk.2.1)
  refine lv_icmp_gt C.1 C.2.1 hd ht (fun q => ?_) (fun q => ?_)
  · exact kt ((i32_lt hy hx).mp q) p e s m below meth c H locs lc C hl hP hS ⟨hk.1, ok_tl (ok_tl hk.2.1), hk.2.2⟩
  · exact kf (Int.not_lt.mp (fun z => q ((i32_lt hy hx).mpr z))) p e s m below meth c H locs lc C hl hP hS ⟨hk.1, ok_tl (ok_tl hk.2.1), hk.2.2⟩
theorem w_if_eq (tgt np : Nat) {x off : Int} (hd : decode cL_law pc = .ok (.ifCond .eq off, 3)) (ht : (pc : Int) + off = (tgt : Int)) (hn : pc + 3 = np) (kt : x = 0 → Rw l G b L xs tgt ls st h) (kf : ¬ x = 0 → Rw l G b L xs np ls st h) : Rw l G b L xs pc ls (vI x :: st) h := by
  subst hn
  intro p e s m below meth c H locs lc C hl hP hS hk
  have hx : in32 x := ok_hd hk.2.1
  have hy := in32_0
  refine lv_if_eq C.1 C.2.1 hd ht (fun q => ?_) (fun q => ?_)
  · exact kt (by rw [i32_0] at q; first | exact (i32_eq hx hy).mp q | exact (i32_lt hx hy).mp q | exact (i32_le hy hx).mp q | exact (i32_lt hy hx).mp q | exact (i32_le hx hy).mp q | exact fun z => q ((i32_eq hx hy).mpr z)) p e s m below meth c H locs lc C hl hP hS ⟨hk.1, ok_tl hk.2.1, hk.2.2⟩
  · exact kf (by rw [i32_0] at q; first | exact (i32_eq hx hy).mp q | exact fun z => q ((i32_eq hx hy).mpr z) | exact Int.not_lt.mp (fun z => q ((i32_lt hx hy).mpr z)) | exact Int.not_le.mp (fun z => q ((i32_le hy hx).mpr z)) | exact Int.not_lt.mp (fun z => q ((i32_lt hy hx).mpr z)) | exact Int.not_le.mp (fun z => q ((i32_le hx hy).mpr z))) p e s m below meth c H locs lc C hl hP hS ⟨hk.1, ok_tl hk.2.1, hk.2.2⟩
theorem w_tabIn (tgt : Nat) {x off dflt lo hi : Int} {offs : Array Int} {len : Nat} (hd : decode cL_law pc = .ok (.tableswitch dflt lo hi offs, len)) (h1 : lo ≤ x) (h2 : x ≤ hi) (ho : offs[(x - lo).toNat]? = some off) (ht : (pc : Int) + off = (tgt : Int)) (k : Rw l G b L xs tgt ls st h) : Rw l G b L xs pc ls (vI x :: st) h := by
  intro p e s m below meth c H locs lc C hl hP hS hk
  have hx : in32 x := ok_hd hk.2.1
  refine lv_tableIn C.1 C.2.1 hd (x := Int32.ofInt x) (by rw [i32_t hx]; omega) (by rw [i32_t hx]; omega) (by rw [i32_t hx]; exact ho) ht ?_
  exact k p e s m below meth c H locs lc C hl hP hS ⟨hk.1, ok_tl hk.2.1, hk.2.2⟩
theorem w_tabOut (tgt : Nat) {x dflt lo hi : Int} {offs : Array Int} {len : Nat} (hd : decode cL_law pc = .ok (.tableswitch dflt lo hi offs, len)) (h1 : x < lo ∨ hi < x) (ht : (pc : Int) + dflt = (tgt : Int)) (k : Rw l G b L xs tgt ls st h) : Rw l G b L xs pc ls (vI x :: st) h := by
  intro p e s m below meth c H locs lc C hl hP hS hk
  have hx : in32 x := ok_hd hk.2.1
  refine lv_tableOut C.1 C.2.1 hd (x := Int32.ofInt x) (by rw [i32_t hx]; exact h1) ht ?_
  exact k p e s m below meth c H locs lc C hl hP hS ⟨hk.1, ok_tl hk.2.1, hk.2.2⟩
theorem Rw.ok (k : okF ls st h → Rw l G b L xs pc ls st h) : Rw l G b L xs pc ls st h :=
  fun p e s m below meth c H locs lc C hl hP hS hk => k hk p e s m below meth c H locs lc C hl hP hS hk
theorem w_pop2 (np : Nat) {v : Int} (hd : decode cL_law pc = .ok (.pop2, 1)) (hn : pc + 1 = np) (k : Rw l G b L xs np ls st h) : Rw l G b L xs pc ls (vL v :: st) h := by
  subst hn
  intro p e s m below meth c H locs lc C hl hP hS hk
  refine lv_pop2_2 C.1 C.2.1 hd rfl ?_
  exact k p e s m below meth c H locs lc C hl hP hS ⟨hk.1, ok_tl hk.2.1, hk.2.2⟩
theorem w_slen (np : Nat) (hd : decode cL_law pc = .ok (.arraylength, 1)) (hn : pc + 1 = np) (k : Rw l G b L xs np ls (vI (L : Int) :: st) h) : Rw l G b L xs pc ls (vR 3000 :: st) h := by
  subst hn
  intro p e s m below meth c H locs lc C hl hP hS hk
  obtain ⟨-, -, -, -, -, -, -, -, -, -, hX, hbl, hga, -, hL⟩ := id C
  show W p l e room_1 s m #[Value.ref b] below meth c H locs 600000 7302250 (lw_Z below #[Value.ref b] s) (F0 m pc lc (.ref (ga G 3000) :: st.map (cv G)))
  rw [hga]
  refine va_slen (A := fun q => s.heap.size ≤ q) C.1 C.2.1 hX hbl (Nat.not_le.mpr hbl) hS hd ?_
  have e1 : Int32.ofNat L = Int32.ofInt (L : Int) := (Int32.ofInt_eq_ofNat).symm
  rw [e1]
  exact k p e s m below meth c H locs lc C hl hP hS ⟨hk.1, ok_c (v := vI _) ⟨by omega, by omega⟩ (ok_tl hk.2.1), hk.2.2⟩
theorem w_sld (np : Nat) {i : Int} (hd : decode cL_law pc = .ok (.iaload, 1)) (hn : pc + 1 = np) (h0 : 0 ≤ i) (h1 : i < (L : Int)) {v : Int} (hv : (xs i.toNat).toInt = v) (k : Rw l G b L xs np ls (vI v :: st) h) : Rw l G b L xs pc ls (vI i :: vR 3000 :: st) h := by
  subst hn hv
  intro p e s m below meth c H locs lc C hl hP hS hk
  obtain ⟨-, -, -, -, -, -, -, -, -, -, hX, hbl, hga, -, hL⟩ := id C
  have hi : in32 i := ok_hd hk.2.1
  show W p l e room_1 s m #[Value.ref b] below meth c H locs 600000 7302250 (lw_Z below #[Value.ref b] s) (F0 m pc lc (.int (Int32.ofInt i) :: .ref (ga G 3000) :: st.map (cv G)))
  rw [hga]
  refine va_sld (A := fun q => s.heap.size ≤ q) C.1 C.2.1 hX hbl (Nat.not_le.mpr hbl) hS (i32_in hi h0 h1) hd ?_
  rw [i32_cl hi, ← Int32.ofInt_toInt (xs i.toNat)]
  exact k p e s m below meth c H locs lc C hl hP hS ⟨hk.1, ok_c (v := vI _) ⟨by have := Int32.le_toInt (xs i.toNat); omega, by have := Int32.toInt_lt (xs i.toNat); omega⟩ (ok_tl (ok_tl hk.2.1)), hk.2.2⟩
theorem w_ret (hd : decode cL_law pc = .ok (.ireturn, 1)) : Rw l G b L xs pc ls [vI 1] h := by
  intro p e s m below meth c H locs lc C hl hP hS hk
  refine va_forget (fun q hq => hS.2.2 q hq) ?_
  exact lw_ret C.1 C.2.1 C.2.2.1 C.2.2.2.2.2.2.1 hd
theorem zw_call {p : Program} {e : Env} {R : Room} {s : State} {m : MethodId} {args : Array Value} {below : List Frame} {meth : Method} {c : Code} {H : Heap} {locs : List Loc} {Q : State → Prop} {lc : Array Slot} {st0 rest : List Value} {a : Array Value} {Ψ : Option zV → zH → Prop} {A : Nat → Prop} {kc ks : Nat} (hr : va_Run p l e R s m args below meth c H locs kc ks 0 0 (F0 m pc lc st0) rest (QQ G Ψ a) (inA G)) (hA : ∀ q, inA G q → A q) (hS : va_S A s.heap H locs)
    (kk : ∀ (r : Option zV) (h' : zH) (H1 : Heap) (locs1 : List Loc), Ψ r h' → (∀ v, r = some v → okv v) → okH h' → va_P (gD G) vwCl (wsOf G h') H1 → va_S A s.heap H1 locs1 → W p l e R s m args below meth c H1 locs1 kc ks Q (F0 m (pc + 3) lc ((r.map (cv G)).toList ++ rest))) : W p l e R s m args below meth c H locs kc ks Q (F0 m pc lc st0) := by
  intro T hT X
  obtain ⟨v, st₀, t, T', L, h0, X', hL, e1, e2, ⟨⟨r, h', hv, hp, hok, hoH, hb⟩, hz, hk⟩, stp⟩ := hr T hT X
  cases hv
  rw [h0] at hz hk
  obtain ⟨t2, a1, b1⟩ := kk r h' T'.heap (locs ++ L) hp hok hoH (by rw [e1]; exact hb)
    ⟨Nat.le_trans hS.1 (by rw [e1]; exact hz), fun q h1 h2 => by rw [e1, hk q (Nat.lt_of_lt_of_le h1 hS.1) (fun z => h2 (hA q z))]; exact hS.2.1 q h1 h2, fun q hq => by
      rcases List.mem_append.mp hq with h | h
      · exact hS.2.2 q h
      · exact hA _ (hL q h)⟩ T' rfl X'
  exact ⟨t2, stp t2 a1, b1⟩
/-- a call of the class or of the reference, by contract -/
theorem w_callV (np : Nat) {ix k ci n d' : Nat} {as : List zV} {M' : zM} {Ψ : Option zV → zH → Prop} (hd : decode cL_law pc = .ok (.invokevirtual ix, 3)) (hn : pc + 3 = np) (hC : CV RL ix M' n ci) (hk0 : k < gN G) (hs : gs G k = ci + 5) (hdd : d' ≤ 11) (hM : Ca l G d' M' (vR k :: as) h Ψ) (hst : as.length = n) (hw : Nat.ble (stW st) 8 = true)
    (kk : ∀ r h', Ψ r h' → Rw l G b L xs np ls (r.toList ++ st) h') : Rw l G b L xs pc ls (as.reverse ++ vR k :: st) h := by
  subst hn
  intro p e s m below meth c H locs lc C hl hP hS hk
  obtain ⟨g1, g2, g3, g4, g5, g6, g7, g8, g9, g10, g11, g12, g13, g14, g15⟩ := id C
  have hok1 : ∀ v ∈ vR k :: as, okv v := by
    intro v hv
    rcases List.mem_cons.mp hv with rfl | hv
    · trivial
    · exact hk.2.1 v (List.mem_append_left _ (List.mem_reverse.mpr hv))
  have hM := hM g10 hok1 hk.2.2
  have hE : (as.reverse ++ vR k :: st).map (cv G) = (as.map (cv G)).reverse ++ .ref (ga G k) :: st.map (cv G) := by simp [cv]
  rw [hE]
  obtain ⟨⟨y1, y2, y3, y4⟩, hm, ho, hci, hcl⟩ := hC
  have cb : CallB room_1 s #[Value.ref b] RL ix M'.1 M'.2.1 M'.2.2.1 M'.2.2.2 (wsM M') (rmD d') 0 0 n := by
    simp only [cOK, Bool.and_eq_true, decide_eq_true_eq] at ho
    obtain ⟨⟨⟨h1, h2⟩, h3⟩, h4⟩ := ho
    have h4 := Nat.le_of_ble_eq_true h4
    refine callB_of n g6 (good_M (fun w hw => hw) hm) rfl rfl rfl (g6 _ y4) (g6 _ y1) ⟨h1, h2, h3⟩ ⟨(show d' + 1 ≤ 12 by omega), ?_⟩
    show 8 + (M'.2.2.1 + 11) + 36 * d' ≤ 432
    omega
  have hat : ∀ U : State, U.heap = H → s.WarmedH U.vm → va_Pc ((vR k :: as).map (cv G)) (Cx G h) ((vR k :: as).map (cv G)).toArray U := by
    intro U hU hW
    refine ⟨rfl, by rw [hU]; exact hP, va_K.moved hW.alike g8, ?_⟩
    rw [hU]
    exact (KK.warm hW g9).kept (fun a ha _ => hS.2.1 a ha (Nat.not_le.mpr ha))
  refine zw_call (va_runV (As := as.map (cv G)) (b := ga G k) (rest := st.map (cv G)) (C := clN ci) (Ts := ww) (nL := 4) (cc := cL_law) ⟨g1, g2, g4, g5, g6⟩ hM ⟨cb, g6 _ y2, by have := g6 _ y3; rw [hcl] at this; exact this⟩ ⟨cx_blind, va_recv g8 hP (cl_at ci hci) ((ws_at hk0).trans (by rw [ce_obj hs])), hat⟩ rfl (by rw [List.length_map]; exact hst) hl.1 rfl (lv_room (by rw [stW_eq]; exact Nat.le_of_ble_eq_true hw)) hd ⟨Nat.le_refl _, Nat.le_refl _⟩) g14 hS (fun r h' H1 locs1 hp hok hoH hP1 hS1 => ?_)
  have hE2 : (r.map (cv G)).toList ++ st.map (cv G) = (r.toList ++ st).map (cv G) := by cases r <;> simp
  rw [hE2]
  refine kk r h' hp p e s m below meth c H1 locs1 lc C hl hP1 hS1 ⟨hk.1, fun v hv => ?_, hoH⟩
  rcases List.mem_append.mp hv with h1 | h1
  · exact hok v (by cases r with | none => simp at h1 | some w => simp at h1; rw [h1])
  · exact hk.2.1 v (List.mem_append_right _ (List.mem_cons_of_mem _ h1))
theorem w_c0 (np : Nat) {ix k ci d' : Nat} {M' : zM} {Ψ : Option zV → zH → Prop} (hd : decode cL_law pc = .ok (.invokevirtual ix, 3)) (hn : pc + 3 = np) (hC : CV RL ix M' 0 ci) (hk0 : k < gN G) (hs : gs G k = ci + 5) (hdd : d' ≤ 11) (hM : Ca l G d' M' [vR k] h Ψ) (hw : Nat.ble (stW st) 8 = true) (kk : ∀ r h', Ψ r h' → Rw l G b L xs np ls (r.toList ++ st) h') : Rw l G b L xs pc ls (vR k :: st) h := w_callV (as := []) np hd hn hC hk0 hs hdd hM rfl hw kk
theorem w_c1 (np : Nat) {ix k ci d' : Nat} {M' : zM} {v1 : zV} {Ψ : Option zV → zH → Prop} (hd : decode cL_law pc = .ok (.invokevirtual ix, 3)) (hn : pc + 3 = np) (hC : CV RL ix M' 1 ci) (hk0 : k < gN G) (hs : gs G k = ci + 5) (hdd : d' ≤ 11) (hM : Ca l G d' M' [vR k, v1] h Ψ) (hw : Nat.ble (stW st) 8 = true) (kk : ∀ r h', Ψ r h' → Rw l G b L xs np ls (r.toList ++ st) h') : Rw l G b L xs pc ls (v1 :: vR k :: st) h := w_callV (as := [v1]) np hd hn hC hk0 hs hdd hM rfl hw kk
theorem w_c2 (np : Nat) {ix k ci d' : Nat} {M' : zM} {v1 v2 : zV} {Ψ : Option zV → zH → Prop} (hd : decode cL_law pc = .ok (.invokevirtual ix, 3)) (hn : pc + 3 = np) (hC : CV RL ix M' 2 ci) (hk0 : k < gN G) (hs : gs G k = ci + 5) (hdd : d' ≤ 11) (hM : Ca l G d' M' [vR k, v1, v2] h Ψ) (hw : Nat.ble (stW st) 8 = true) (kk : ∀ r h', Ψ r h' → Rw l G b L xs np ls (r.toList ++ st) h') : Rw l G b L xs pc ls (v2 :: v1 :: vR k :: st) h := w_callV (as := [v1, v2]) np hd hn hC hk0 hs hdd hM rfl hw kk
theorem w_c3 (np : Nat) {ix k ci d' : Nat} {M' : zM} {v1 v2 v3 : zV} {Ψ : Option zV → zH → Prop} (hd : decode cL_law pc = .ok (.invokevirtual ix, 3)) (hn : pc + 3 = np) (hC : CV RL ix M' 3 ci) (hk0 : k < gN G) (hs : gs G k = ci + 5) (hdd : d' ≤ 11) (hM : Ca l G d' M' [vR k, v1, v2, v3] h Ψ) (hw : Nat.ble (stW st) 8 = true) (kk : ∀ r h', Ψ r h' → Rw l G b L xs np ls (r.toList ++ st) h') : Rw l G b L xs pc ls (v3 :: v2 :: v1 :: vR k :: st) h := w_callV (as := [v1, v2, v3]) np hd hn hC hk0 hs hdd hM rfl hw kk
theorem w_c4 (np : Nat) {ix k ci d' : Nat} {M' : zM} {v1 v2 v3 v4 : zV} {Ψ : Option zV → zH → Prop} (hd : decode cL_law pc = .ok (.invokevirtual ix, 3)) (hn : pc + 3 = np) (hC : CV RL ix M' 4 ci) (hk0 : k < gN G) (hs : gs G k = ci + 5) (hdd : d' ≤ 11) (hM : Ca l G d' M' [vR k, v1, v2, v3, v4] h Ψ) (hw : Nat.ble (stW st) 8 = true) (kk : ∀ r h', Ψ r h' → Rw l G b L xs np ls (r.toList ++ st) h') : Rw l G b L xs pc ls (v4 :: v3 :: v2 :: v1 :: vR k :: st) h := w_callV (as := [v1, v2, v3, v4]) np hd hn hC hk0 hs hdd hM rfl hw kk
/-- both are asked: the class, then the reference -/
def DuI (l : Launch) (G : zG) (M M' : zM) (as : List zV) (h : zH) (cmp : Bool) (R : zH → Prop) : Prop := ∃ d, d ≤ 11 ∧ Ca l G d M (vR 0 :: as) h (fun r h1 => ∃ v, r = some (vI v) ∧ ∃ d', d' ≤ 11 ∧ Ca l G d' M' (vR 45 :: as) h1 (fun r' h2 => ∃ v', r' = some (vI v') ∧ (cmp = true → v = v') ∧ R h2))
def DuL (l : Launch) (G : zG) (M M' : zM) (as : List zV) (h : zH) (cmp : Bool) (R : zH → Prop) : Prop := ∃ d, d ≤ 11 ∧ Ca l G d M (vR 0 :: as) h (fun r h1 => ∃ v, r = some (vL v) ∧ ∃ d', d' ≤ 11 ∧ Ca l G d' M' (vR 45 :: as) h1 (fun r' h2 => ∃ v', r' = some (vL v') ∧ (cmp = true → v = v') ∧ R h2))
def sx (xs : Nat → Int32) (n j : Nat) : Int := (xs (5 * n + j)).toInt
theorem sx_e {n j : Nat} {i : Int} (hi : i = 5 * (n : Int) + (j : Int)) : (xs i.toNat).toInt = sx xs n j := by
  subst hi
  show _ = (xs (5 * n + j)).toInt
  rw [show (5 * (n : Int) + (j : Int)).toNat = 5 * n + j by omega]
theorem z_lcmp_r {x : Int} : z_lcmp x x = 0 := by unfold z_lcmp; rw [if_neg (by omega), if_pos rfl]
end RW
