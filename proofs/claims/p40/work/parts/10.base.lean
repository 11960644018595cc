/-! THE PURE LAYER. A frame's locals and stack as whole numbers and places, the world as a function of place and slot. Rr: the machine, from such a frame, comes to the method's end. -/
abbrev zV : Type := Int ⊕ (Int ⊕ Nat)
abbrev vI (i : Int) : zV := Sum.inl i
abbrev vL (i : Int) : zV := Sum.inr (Sum.inl i)
abbrev vR (k : Nat) : zV := Sum.inr (Sum.inr k)
abbrev zH : Type := Nat → Nat → Int
/-- what is fixed of a world: class numbers, array class numbers, how many cells, their addresses, shapes, lengths, references -/
abbrev zG : Type := va_G × ((Nat → ClassId) × (Nat × ((Nat → Nat) × ((Nat → Nat) × ((Nat → Nat) × (Nat → Nat → Nat))))))
def gD (G : zG) : va_G := G.1
def gC (G : zG) : Nat → ClassId := G.2.1
def gN (G : zG) : Nat := G.2.2.1
def ga (G : zG) : Nat → Nat := G.2.2.2.1
def gs (G : zG) : Nat → Nat := G.2.2.2.2.1
def gl (G : zG) : Nat → Nat := G.2.2.2.2.2.1
def gr (G : zG) : Nat → Nat → Nat := G.2.2.2.2.2.2
def in32 (x : Int) : Prop := -2147483648 ≤ x ∧ x < 2147483648
def in64 (x : Int) : Prop := -9223372036854775808 ≤ x ∧ x < 9223372036854775808
def okv : zV → Prop
  | .inl i => in32 i
  | .inr (.inl i) => in64 i
  | .inr (.inr _) => True
def okH (h : zH) : Prop := ∀ k j, in32 (h k j)
def okF (ls : List (Option zV)) (st : List zV) (h : zH) : Prop := (∀ v, some v ∈ ls → okv v) ∧ (∀ v ∈ st, okv v) ∧ okH h
def cv (G : zG) : zV → Value
  | .inl i => .int (Int32.ofInt i)
  | .inr (.inl i) => .long (Int64.ofInt i)
  | .inr (.inr k) => .ref (ga G k)
def up (h : zH) (k j : Nat) (v : Int) : zH := fun a b => if a = k ∧ b = j then v else h a b
theorem up_s {h : zH} {k j : Nat} {v : Int} : up h k j v k j = v := by simp [up]
theorem up_n {h : zH} {k j a b : Nat} {v : Int} (q : ¬ (a = k ∧ b = j)) : up h k j v a b = h a b := by simp only [up, if_neg q]
theorem up_k {h : zH} {k j a b : Nat} {v : Int} (q : a ≠ k) : up h k j v a b = h a b := up_n (fun z => q z.1)
theorem up_j {h : zH} {k j a b : Nat} {v : Int} (q : b ≠ j) : up h k j v a b = h a b := up_n (fun z => q z.2)
-- numbers
def w32 (x : Int) : Int := (Int32.ofInt x).toInt
def w64 (x : Int) : Int := (Int64.ofInt x).toInt
theorem w32_o (x : Int) : Int32.ofInt (w32 x) = Int32.ofInt x := Int32.ofInt_toInt _
theorem w64_o (x : Int) : Int64.ofInt (w64 x) = Int64.ofInt x := Int64.ofInt_toInt _
theorem w32_in (x : Int) : in32 (w32 x) := ⟨by have := Int32.le_toInt (Int32.ofInt x); unfold w32; omega, by have := Int32.toInt_lt (Int32.ofInt x); unfold w32; omega⟩
theorem w64_in (x : Int) : in64 (w64 x) := ⟨by have := Int64.le_toInt (Int64.ofInt x); unfold w64; omega, by have := Int64.toInt_lt (Int64.ofInt x); unfold w64; omega⟩
theorem i32_t {x : Int} (h : in32 x) : (Int32.ofInt x).toInt = x := Int32.toInt_ofInt_of_le (by have := h.1; omega) (by have := h.2; omega)
theorem i64_t {x : Int} (h : in64 x) : (Int64.ofInt x).toInt = x := Int64.toInt_ofInt_of_le (by have := h.1; omega) (by have := h.2; omega)
theorem w32_id {x : Int} (h1 : -2147483648 ≤ x) (h2 : x < 2147483648) : w32 x = x := i32_t ⟨h1, h2⟩
theorem w64_id {x : Int} (h1 : -9223372036854775808 ≤ x) (h2 : x < 9223372036854775808) : w64 x = x := i64_t ⟨h1, h2⟩
theorem i32_le {x y : Int} (hx : in32 x) (hy : in32 y) : Int32.ofInt x ≤ Int32.ofInt y ↔ x ≤ y := by rw [Int32.le_iff_toInt_le, i32_t hx, i32_t hy]
theorem i32_lt {x y : Int} (hx : in32 x) (hy : in32 y) : Int32.ofInt x < Int32.ofInt y ↔ x < y := by rw [Int32.lt_iff_toInt_lt, i32_t hx, i32_t hy]
theorem i32_eq {x y : Int} (hx : in32 x) (hy : in32 y) : Int32.ofInt x = Int32.ofInt y ↔ x = y := by rw [← Int32.toInt_inj, i32_t hx, i32_t hy]
theorem i64_lt {x y : Int} (hx : in64 x) (hy : in64 y) : Int64.ofInt x < Int64.ofInt y ↔ x < y := by rw [Int64.lt_iff_toInt_lt, i64_t hx, i64_t hy]
theorem i64_eq {x y : Int} (hx : in64 x) (hy : in64 y) : Int64.ofInt x = Int64.ofInt y ↔ x = y := by rw [← Int64.toInt_inj, i64_t hx, i64_t hy]
theorem i32_in {x : Int} {n : Nat} (hx : in32 x) (h0 : 0 ≤ x) (h1 : x < n) : vp_in (Int32.ofInt x) n := vp_in_iff.mpr (by rw [i32_t hx]; exact ⟨h0, h1⟩)
theorem i32_cl {x : Int} (hx : in32 x) : (Int32.ofInt x).toNatClampNeg = x.toNat := by
  show (Int32.ofInt x).toInt.toNat = _
  rw [i32_t hx]
theorem i32_0 : (0 : Int32) = Int32.ofInt 0 := by decide
theorem in32_0 : in32 0 := ⟨by decide, by decide⟩
-- the classes
def clN (ci : Nat) : String := match ci with
  | 0 => RX0
  | 1 => RX1
  | 2 => RX2
  | 3 => RX3
  | _ => RX4
def clT (ci : Nat) : u_T := match ci with
  | 0 => TX0
  | 1 => TX1
  | 2 => TX2
  | 3 => TX3
  | _ => TX4
def clY (ci : Nat) : Nat → FieldType := match ci with
  | 0 => tyX0
  | 1 => tyX1
  | 2 => tyX2
  | 3 => tyX3
  | _ => tyX4
def nfs (ci : Nat) : Nat := match ci with
  | 0 => 3
  | 1 => 10
  | 2 => 10
  | 3 => 11
  | _ => 29
/-- the fields that are references -/
def rfB (ci f : Nat) : Bool := match ci with
  | 0 => f == 0
  | 1 => f == 0
  | 2 => decide (f < 6)
  | 3 => decide (f < 9)
  | _ => [0, 2, 7, 16, 17, 18, 20, 22, 24, 25, 26, 27].contains f
def fsOf (G : zG) (h : zH) (k ci : Nat) : List Value := (List.range (nfs ci)).map (fun j => if rfB ci j = true then .ref (ga G (gr G k j)) else .int (Int32.ofInt (h k j)))
def ceOf (G : zG) (h : zH) (k : Nat) : va_E := if gs G k < 3 then .inl (gC G (gs G k), (gl G k, .inl (fun j => Int32.ofInt (h k j)))) else if gs G k < 5 then .inl (gC G (gs G k), (gl G k, .inr (.inr (.inr (.inr (fun j => some (ga G (gr G k j)))))))) else .inr (gs G k - 5, fsOf G h k (gs G k - 5))
def wsOf (G : zG) (h : zH) : va_W := (List.range (gN G)).map (fun k => (ga G k, ceOf G h k))
def inA (G : zG) (q : Nat) : Prop := ∃ k, k < gN G ∧ ga G k = q
def injG (G : zG) : Prop := ∀ i j, i < gN G → j < gN G → ga G i = ga G j → i = j
def tysOf (G : zG) : List (ClassId × FieldType) := [(gC G 0, .int), (gC G 1, .byte), (gC G 2, .boolean), (gC G 3, .object RX2), (gC G 4, .object RX0)]
theorem ws_at {G : zG} {h : zH} {k : Nat} (hk : k < gN G) : (wsOf G h)[k]? = some (ga G k, ceOf G h k) := by
  simp [wsOf, hk]
theorem ws_of {G : zG} {h : zH} {k : Nat} {q : Nat × va_E} (e : (wsOf G h)[k]? = some q) : k < gN G ∧ q = (ga G k, ceOf G h k) := by
  have hk : k < gN G := by
    have := (List.getElem?_eq_some_iff.mp e).1
    simpa [wsOf] using this
  rw [ws_at hk] at e
  exact ⟨hk, (Option.some.inj e).symm⟩
theorem ws_D {G : zG} (hi : injG G) (h : zH) : va_D (inA G) (wsOf G h) := by
  refine ⟨fun i j p q hp hq e => ?_, fun k q hq => ?_⟩
  · obtain ⟨h1, rfl⟩ := ws_of hp
    obtain ⟨h2, rfl⟩ := ws_of hq
    exact hi i j h1 h2 e
  · obtain ⟨h1, rfl⟩ := ws_of hq
    exact ⟨k, h1, rfl⟩
theorem ce_up {G : zG} {h : zH} {k j a : Nat} {v : Int} (q : a ≠ k) : ceOf G (up h k j v) a = ceOf G h a := by
  have e : ∀ b, up h k j v a b = h a b := fun b => up_k q
  simp only [ceOf, fsOf, e]
theorem ws_set {G : zG} {h : zH} {k j : Nat} {v : Int} (hk : k < gN G) : (wsOf G h).set k (ga G k, ceOf G (up h k j v) k) = wsOf G (up h k j v) := by
  apply List.ext_getElem?
  intro i
  by_cases hi : i = k
  · subst hi
    rw [List.getElem?_set_self (by simpa [wsOf] using hk), ws_at hk]
  · rw [List.getElem?_set_ne (Ne.symm hi)]
    by_cases h2 : i < gN G
    · rw [ws_at h2, ws_at h2, ce_up hi]
    · rw [List.getElem?_eq_none (by simpa [wsOf] using h2), List.getElem?_eq_none (by simpa [wsOf] using h2)]
theorem ce_arr {G : zG} {h : zH} {k : Nat} (hs : gs G k < 3) : ceOf G h k = .inl (gC G (gs G k), (gl G k, .inl (fun j => Int32.ofInt (h k j)))) := by
  simp only [ceOf, if_pos hs]
theorem ce_rarr {G : zG} {h : zH} {k : Nat} (hs : gs G k = 3 ∨ gs G k = 4) : ceOf G h k = .inl (gC G (gs G k), (gl G k, .inr (.inr (.inr (.inr (fun j => some (ga G (gr G k j)))))))) := by
  have h1 : ¬ gs G k < 3 := by omega
  have h2 : gs G k < 5 := by omega
  simp only [ceOf, if_neg h1, if_pos h2]
theorem ce_obj {G : zG} {h : zH} {k ci : Nat} (hs : gs G k = ci + 5) : ceOf G h k = .inr (ci, fsOf G h k ci) := by
  have h1 : ¬ gs G k < 3 := by omega
  have h2 : ¬ gs G k < 5 := by omega
  have h3 : gs G k - 5 = ci := by omega
  simp only [ceOf, if_neg h1, if_neg h2, h3]
theorem fs_at {G : zG} {h : zH} {k ci f : Nat} (hf : f < nfs ci) : (fsOf G h k ci)[f]? = some (if rfB ci f = true then .ref (ga G (gr G k f)) else .int (Int32.ofInt (h k f))) := by
  simp [fsOf, hf]
theorem fs_set {G : zG} {h : zH} {k ci f : Nat} {v : Int} (hf : f < nfs ci) (hr : rfB ci f = false) : (fsOf G h k ci).set f (.int (Int32.ofInt v)) = fsOf G (up h k f v) k ci := by
  apply List.ext_getElem?
  intro i
  by_cases hi : i = f
  · subst hi
    rw [List.getElem?_set_self (by simpa [fsOf] using hf), fs_at hf, hr]
    simp [up_s]
  · rw [List.getElem?_set_ne (Ne.symm hi)]
    by_cases h2 : i < nfs ci
    · rw [fs_at h2, fs_at h2, up_j hi]
    · rw [List.getElem?_eq_none (by simpa [fsOf] using h2), List.getElem?_eq_none (by simpa [fsOf] using h2)]
theorem z_arr_set {h : zH} {k : Nat} {i v : Int} (hi : in32 i) : upd (fun j => Int32.ofInt (h k j)) (Int32.ofInt i).toNatClampNeg (Int32.ofInt v) = fun j => Int32.ofInt (up h k i.toNat v k j) := by
  funext j
  rw [i32_cl hi]
  by_cases e : j = i.toNat
  · subst e
    simp [upd, up_s]
  · simp [upd, e, up_j e]
-- the words: one list for all methods
def ww : List Cond := lw_tbl.filter goodWord
theorem ww_tbl {w : Cond} (h : w ∈ ww) : w ∈ lw_tbl := (List.mem_filter.mp h).1
theorem ww_good {w : Cond} (h : w ∈ ww) : goodWord w = true := (List.mem_filter.mp h).2
/-- a method: name, code, locals, what it answers -/
abbrev zM : Type := MethodName × (ByteArray × (Nat × Option FieldType))
def wsM (M : zM) : List Cond := Cond.code M.1 M.2.1 M.2.2.1 M.2.2.2 :: ww
theorem good_M {Ts : List Cond} {M : zM} (hT : ∀ w ∈ ww, w ∈ Ts) (hM : Cond.code M.1 M.2.1 M.2.2.1 M.2.2.2 ∈ ww) : GoodIn Ts (wsM M) := by
  intro w hw
  have : w ∈ ww := by
    rcases List.mem_cons.mp hw with rfl | h
    · exact hM
    · exact h
  exact ⟨hT w this, good_of_word (ww_good this)⟩
def rmD (d : Nat) : Room := { frames := d, cells := 0, slots := 0, locals := 36 * d }
