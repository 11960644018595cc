/-! what nobody writes: the static row, the Strings -/
def sTx (i : Nat) : String := ["upright", "stooped", "tired", "lover", "rota", "cloud", "paint", "deed"].getD i ""
def sLen : List Nat := [7, 7, 5, 5, 4, 5, 5, 4]
def sByt : List (List Int32) := [[117, 112, 114, 105, 103, 104, 116], [115, 116, 111, 111, 112, 101, 100], [116, 105, 114, 101, 100], [108, 111, 118, 101, 114], [114, 111, 116, 97], [99, 108, 111, 117, 100], [112, 97, 105, 110, 116], [100, 101, 101, 100]]
def zNear (j : Nat) : Int := [3, 2, 4, 1, 5, 0, 6].getD j 0
def KK (G : zG) (U : State) (H : Heap) : Prop :=
  va_Z RX3 "NEAREST_LEANS" "[I" (.ref (ga G 2000)) (inA G) U H ∧ va_T .int (ga G 2000) 7 (fun j => .int (Int32.ofInt (zNear j))) (inA G) U H ∧
  vk_S 8 sLen sByt (fun i => ga G (1000 + i)) (fun i => ga G (1100 + i)) (inA G) U H ∧ (∀ i, i < 8 → vk_R RX1 (152 + 2 * i) (sTx i) (ga G (1000 + i)) U) ∧
  va_Z "java/lang/String" "COMPACT_STRINGS" "Z" (.int 1) (inA G) U H ∧ va_Zq "jdk/internal/util/Preconditions" "SIOOBE_FORMATTER" "Ljava/util/function/BiFunction;" (inA G) U H
theorem KK.kept {G : zG} {U : State} {H H1 : Heap} (h : KK G U H) (hq : ∀ a : Nat, a < H.size → ¬ inA G a → H1[a]? = H[a]?) : KK G U H1 :=
  ⟨h.1.kept hq, h.2.1.kept hq, h.2.2.1.kept hq, h.2.2.2.1, h.2.2.2.2.1.kept hq, h.2.2.2.2.2.kept hq⟩
theorem KK.warm {G : zG} {s U : State} {H : Heap} (hW : s.WarmedH U.vm) (h : KK G s H) : KK G U H :=
  ⟨h.1.moved hW.alike, h.2.1.moved hW.alike, h.2.2.1.moved hW.alike, fun i hi => (h.2.2.2.1 i hi).warm hW, h.2.2.2.2.1.moved hW.alike, h.2.2.2.2.2.moved hW.alike⟩
theorem KK.same {G : zG} {u U : State} {H : Heap} (hv : U.vm = u.vm) (h : KK G u H) : KK G U H := by
  have ha : u.vm.Alike U.vm := by rw [hv]; exact Vm.Alike.refl _
  exact ⟨h.1.moved ha, h.2.1.moved ha, h.2.2.1.moved ha, fun i hi => (h.2.2.2.1 i hi).same hv, h.2.2.2.2.1.moved ha, h.2.2.2.2.2.moved ha⟩
/-! contracts -/
def Cx (G : zG) (h : zH) (U : State) : Prop := va_P (gD G) vwCl (wsOf G h) U.heap ∧ va_K (gD G) vwCl (tysOf G) U ∧ KK G U U.heap
def QQ (G : zG) (Φ : Option zV → zH → Prop) : Array Value → State → Outcome → State → Prop := fun _ st oc t => (∃ (r : Option zV) (h : zH), oc = .returned (r.map (cv G)) ∧ Φ r h ∧ (∀ v, r = some v → okv v) ∧ okH h ∧ va_P (gD G) vwCl (wsOf G h) t.heap) ∧ va_F (inA G) st t
/-- the contract of a method at a depth, from these arguments and this world -/
def Ca (l : Launch) (G : zG) (d : Nat) (M : zM) (av : List zV) (h : zH) (Φ : Option zV → zH → Prop) : Prop :=
  injG G → (∀ v ∈ av, okv v) → okH h → Met l M.1 (wsM M) (rmD d) (va_Pc (av.map (cv G)) (Cx G h)) (QQ G Φ) 0 0 (inA G)
def lvs (G : zG) (lc : Array Slot) (n : Nat) (ls : List (Option zV)) : Prop := lc.size = n ∧ lv_wf lc ∧ ∀ (i : Nat) (v : zV), ls[i]? = some (some v) → lc[i]? = some (.val (cv G v))
def MC (G : zG) (M : zM) (p : Program) (s : State) (m : MethodId) (args : Array Value) (meth : Method) (c : Code) : Prop :=
  p.tables.exec = Jvm.exec ∧ c.code = M.2.1 ∧ meth.sig.returnType = M.2.2.2 ∧ c.maxLocals = M.2.2.1 ∧ s.vm.findClass M.1.cls = some m.cls ∧ (∀ w ∈ wsM M, w.before args s = true) ∧ meth.locks = false ∧ va_K (gD G) vwCl (tysOf G) s ∧ KK G s s.heap ∧ injG G
/-- from this frame, in this world, the machine comes to the method's end with Φ -/
def Rr (l : Launch) (G : zG) (d : Nat) (M : zM) (Φ : Option zV → zH → Prop) (pc : Nat) (ls : List (Option zV)) (st : List zV) (h : zH) : Prop :=
  ∀ (p : Program) (e : Env) (s : State) (m : MethodId) (args : Array Value) (below : List Frame) (meth : Method) (c : Code) (H : Heap) (locs : List Loc) (lc : Array Slot),
    MC G M p s m args meth c → lvs G lc M.2.2.1 ls → va_P (gD G) vwCl (wsOf G h) H → va_S (inA G) s.heap H locs → okF ls st h →
    W p l e (rmD d) s m args below meth c H locs 0 0 (MQ below (QQ G Φ) args s 0 0 (inA G)) (F0 m pc lc (st.map (cv G)))
/-- the locals at a method's entry -/
def ent : List zV → List (Option zV)
  | [] => []
  | .inr (.inl x) :: l => some (.inr (.inl x)) :: none :: ent l
  | v :: l => some v :: ent l
theorem ent_mem : ∀ (av : List zV) (v : zV), some v ∈ ent av → v ∈ av
  | [], v, h => by simp [ent] at h
  | .inr (.inl x) :: l, v, h => by
    simp only [ent, List.mem_cons] at h
    rcases h with h | h | h
    · cases h; exact List.mem_cons_self
    · cases h
    · exact List.mem_cons_of_mem _ (ent_mem l v h)
  | .inl x :: l, v, h => by
    simp only [ent, List.mem_cons] at h
    rcases h with h | h
    · cases h; exact List.mem_cons_self
    · exact List.mem_cons_of_mem _ (ent_mem l v h)
  | .inr (.inr x) :: l, v, h => by
    simp only [ent, List.mem_cons] at h
    rcases h with h | h
    · cases h; exact List.mem_cons_self
    · exact List.mem_cons_of_mem _ (ent_mem l v h)
theorem ent_len (G : zG) : ∀ (av : List zV), (lg_sl (av.map (cv G))).length = (ent av).length := by
  intro av
  induction av with
  | nil => rfl
  | cons v l ih =>
    rcases v with i | i | i
    · exact congrArg (· + 1) ih
    · exact congrArg (· + 2) ih
    · exact congrArg (· + 1) ih
theorem ent_at (G : zG) : ∀ (av : List zV) (n i : Nat) (v : zV), (ent av)[i]? = some (some v) → (n + i, cv G v) ∈ lv_args n (av.map (cv G)) := by
  intro av
  induction av with
  | nil => intro n i v h; simp [ent] at h
  | cons a l ih =>
    intro n i v h
    rcases a with x | x | x
    · cases i with
      | zero => simp [ent] at h; subst h; simp [lv_args, cv]
      | succ i =>
        simp only [ent, List.getElem?_cons_succ] at h
        have := ih (n + 1) i v h
        simp only [List.map_cons, cv, lv_args, Value.category]
        exact List.mem_cons_of_mem _ (by rw [show n + (i + 1) = n + 1 + i by omega]; exact this)
    · cases i with
      | zero => simp [ent] at h; subst h; simp [lv_args, cv]
      | succ i =>
        cases i with
        | zero => simp [ent] at h
        | succ i =>
          simp only [ent, List.getElem?_cons_succ] at h
          have := ih (n + 2) i v h
          simp only [List.map_cons, cv, lv_args, Value.category]
          exact List.mem_cons_of_mem _ (by rw [show n + (i + 1 + 1) = n + 2 + i by omega]; exact this)
    · cases i with
      | zero => simp [ent] at h; subst h; simp [lv_args, cv]
      | succ i =>
        simp only [ent, List.getElem?_cons_succ] at h
        have := ih (n + 1) i v h
        simp only [List.map_cons, cv, lv_args, Value.category]
        exact List.mem_cons_of_mem _ (by rw [show n + (i + 1) = n + 1 + i by omega]; exact this)
theorem Ca.of {l : Launch} {G : zG} {d : Nat} {M : zM} {av : List zV} {h : zH} {Φ : Option zV → zH → Prop} (hy : plainName M.1.cls = true) (hn : (ent av).length ≤ M.2.2.1)
    (k : injG G → (∀ v ∈ av, okv v) → okH h → Rr l G d M Φ 0 (ent av ++ List.replicate (M.2.2.1 - (ent av).length) none) [] h) : Ca l G d M av h Φ := by
  intro hI hv hH
  refine Met.ofW (cc := M.2.1) (maxL := M.2.2.1) (ret := M.2.2.2) hy rfl ?_
  intro p e s m args below meth c s₁ B hml hv0
  obtain ⟨rfl, hP, hK, hKK⟩ := hv0
  have hl := lv_entry (av.map (cv G)) (n := M.2.2.1) (by rw [ent_len]; exact hn)
  rw [lg_entry_eq]
  generalize (lg_sl (av.map (cv G)) ++ List.replicate (M.2.2.1 - (lg_sl (av.map (cv G))).length) Slot.unset).toArray = lc at hl ⊢
  refine k hI hv hH p e s m _ below meth c s.heap [] lc ⟨B.exec, B.bytes, B.returns, hml, findClass_of_methodNamed B.named, atoms_spec (ws := wsM M) B.pre, B.notSynchronized, hK, hKK, hI⟩ ⟨hl.1, hl.2.1, fun i v hi => ?_⟩ hP va_S.rf ⟨fun v hm => ?_, fun v h => by simp at h, hH⟩
  · by_cases hlt : i < (ent av).length
    · rw [List.getElem?_append_left hlt] at hi
      have := hl.2.2 _ (ent_at G av 0 i v hi)
      simpa using this
    · rw [List.getElem?_append_right (by omega)] at hi
      have := List.mem_of_getElem? hi
      simp at this
  · rcases List.mem_append.mp hm with h1 | h1
    · exact hv v (ent_mem av v h1)
    · simp at h1
theorem Ca.mono {l : Launch} {G : zG} {d : Nat} {M : zM} {av : List zV} {h : zH} {Φ Ψ : Option zV → zH → Prop} (k : Ca l G d M av h Φ) (hi : ∀ r h', Φ r h' → Ψ r h') : Ca l G d M av h Ψ := by
  intro hI hv hH p e ha hc hk s m args below hf happ hp ht
  obtain ⟨t, o, a1, b1, b2, ⟨⟨r, h', e1, e2, e3⟩, fr⟩, b4⟩ := k hI hv hH p e ha hc hk s m args below hf happ hp ht
  exact ⟨t, o, a1, b1, b2, ⟨⟨r, h', e1, hi r h' e2, e3⟩, fr⟩, b4⟩
theorem Rr.ok {l : Launch} {G : zG} {d : Nat} {M : zM} {Φ : Option zV → zH → Prop} {pc : Nat} {ls : List (Option zV)} {st : List zV} {h : zH} (k : okF ls st h → Rr l G d M Φ pc ls st h) : Rr l G d M Φ pc ls st h :=
  fun p e s m args below meth c H locs lc C hl hP hS hk => k hk p e s m args below meth c H locs lc C hl hP hS hk
theorem Rr.eq {l : Launch} {G : zG} {d : Nat} {M : zM} {Φ : Option zV → zH → Prop} {pc : Nat} {ls ls' : List (Option zV)} {st st' : List zV} {h h' : zH} (e1 : ls = ls') (e2 : st = st') (e3 : h = h') (k : Rr l G d M Φ pc ls' st' h') : Rr l G d M Φ pc ls st h := by
  subst e1 e2 e3; exact k
