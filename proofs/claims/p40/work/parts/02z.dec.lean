/-! decode rows, quickly: the byte at its place, and what the decoder does behind it (laid by wip/gen/names.py) -/
/-- what comes behind an instruction's first byte -/
def iK : { K : Nat → Nat → Decoder Instr // ∀ pc, Decoder.instr pc = (Reader.u1 >>= K pc) } := ⟨_, fun _ => rfl⟩
abbrev bL (c : ByteArray) : List UInt8 := c.data.toList
theorem u1_ok {c : ByteArray} {p : Nat} {b : UInt8} (h : (bL c)[p]? = some b) : (Reader.u1 : Decoder Nat) c p = .ok (b.toNat, p + 1) := by
  obtain ⟨h1, h2⟩ := List.getElem?_eq_some_iff.mp h
  have h1' : p < c.size := h1
  have e : c[p]'h1' = b := h2
  have : (Reader.u1 : Decoder Nat) c p = (if h : p < c.size then (do set (p + 1); pure (c[p]'h).toNat : Decoder Nat) else throw (HasTruncated.truncated p)) c p := rfl
  rw [this, dif_pos h1', e]
  rfl
theorem u2_ok {c : ByteArray} {p : Nat} {b d : UInt8} (h : (bL c)[p]? = some b) (h2 : (bL c)[p + 1]? = some d) : (Reader.u2 : Decoder Nat) c p = .ok (b.toNat * 256 + d.toNat, p + 2) := by
  have : (Reader.u2 : Decoder Nat) c p = ((Reader.u1 : Decoder Nat) c p >>= fun z => (Reader.u1 : Decoder Nat) c z.2 >>= fun y => .ok (z.1 * 256 + y.1, y.2)) := rfl
  rw [this, u1_ok h]
  show ((Reader.u1 : Decoder Nat) c (p + 1) >>= fun y => .ok (b.toNat * 256 + y.1, y.2)) = _
  rw [u1_ok h2]
  rfl
theorem s1_ok {c : ByteArray} {p : Nat} {b : UInt8} (h : (bL c)[p]? = some b) : (Reader.s1 : Decoder Int) c p = .ok (Reader.signed 8 b.toNat, p + 1) := by
  have : (Reader.s1 : Decoder Int) c p = ((Reader.u1 : Decoder Nat) c p >>= fun z => .ok (Reader.signed 8 z.1, z.2)) := rfl
  rw [this, u1_ok h]
  rfl
theorem s2_ok {c : ByteArray} {p : Nat} {b d : UInt8} (h : (bL c)[p]? = some b) (h2 : (bL c)[p + 1]? = some d) : (Reader.s2 : Decoder Int) c p = .ok (Reader.signed 16 (b.toNat * 256 + d.toNat), p + 2) := by
  have : (Reader.s2 : Decoder Int) c p = ((Reader.u2 : Decoder Nat) c p >>= fun z => .ok (Reader.signed 16 z.1, z.2)) := rfl
  rw [this, u2_ok h h2]
  rfl
theorem dc_u1 {c : ByteArray} {p : Nat} {b : UInt8} (h : (bL c)[p]? = some b) : decode c p = (iK.1 p b.toNat c (p + 1) >>= fun z => .ok (z.1, z.2 - p)) := by
  have : decode c p = ((Decoder.instr p) c p >>= fun z => .ok (z.1, z.2 - p)) := rfl
  rw [this, iK.2 p]
  have : ((Reader.u1 >>= iK.1 p : Decoder Instr) c p) = ((Reader.u1 : Decoder Nat) c p >>= fun z => iK.1 p z.1 c z.2) := rfl
  rw [this, u1_ok h]
  rfl
/-- no byte behind it -/
theorem dc_0 {c : ByteArray} {p : Nat} {b : UInt8} {i : Instr} (hk : ∀ pc c q, iK.1 pc b.toNat c q = .ok (i, q)) (h : (bL c)[p]? = some b) : decode c p = .ok (i, 1) := by
  rw [dc_u1 h, hk]
  show Except.ok (i, p + 1 - p) = _
  rw [Nat.add_sub_cancel_left]
theorem dc_r {c : ByteArray} {p n : Nat} {b : UInt8} {α : Type} {rd : Decoder α} {f : α → Instr} {v : α} (hk : ∀ pc c q, iK.1 pc b.toNat c q = (rd >>= fun x => (pure (f x) : Decoder Instr)) c q) (h : (bL c)[p]? = some b) (hr : rd c (p + 1) = .ok (v, p + 1 + n)) : decode c p = .ok (f v, 1 + n) := by
  rw [dc_u1 h, hk]
  have : (rd >>= fun x => (pure (f x) : Decoder Instr)) c (p + 1) = (rd c (p + 1) >>= fun z => .ok (f z.1, z.2)) := rfl
  rw [this, hr]
  show Except.ok (f v, p + 1 + n - p) = _
  rw [Nat.add_assoc, Nat.add_sub_cancel_left]
/-- the bytes at p -/
def by1 (c : ByteArray) (p : Nat) (b : UInt8) : Bool := match (bL c).drop p with | x :: _ => x == b | _ => false
def by2 (c : ByteArray) (p : Nat) (b d : UInt8) : Bool := match (bL c).drop p with | x :: y :: _ => x == b && y == d | _ => false
def by3 (c : ByteArray) (p : Nat) (b d e : UInt8) : Bool := match (bL c).drop p with | x :: y :: z :: _ => x == b && (y == d && z == e) | _ => false
theorem by1_at {c : ByteArray} {p : Nat} {b : UInt8} (h : by1 c p b = true) : (bL c)[p]? = some b := by
  unfold by1 at h
  have e : (bL c)[p]? = ((bL c).drop p)[0]? := by rw [List.getElem?_drop, Nat.add_zero]
  rw [e]
  generalize (bL c).drop p = l at h
  match l, h with
  | x :: _, h => rw [beq_iff_eq] at h; subst h; rfl
theorem by2_at {c : ByteArray} {p : Nat} {b d : UInt8} (h : by2 c p b d = true) : (bL c)[p]? = some b ∧ (bL c)[p + 1]? = some d := by
  unfold by2 at h
  have e : (bL c)[p]? = ((bL c).drop p)[0]? := by rw [List.getElem?_drop, Nat.add_zero]
  have e1 : (bL c)[p + 1]? = ((bL c).drop p)[1]? := by rw [List.getElem?_drop]
  rw [e, e1]
  generalize (bL c).drop p = l at h
  match l, h with
  | x :: y :: _, h => rw [Bool.and_eq_true, beq_iff_eq, beq_iff_eq] at h; obtain ⟨h1, h2⟩ := h; subst h1 h2; exact ⟨rfl, rfl⟩
theorem by3_at {c : ByteArray} {p : Nat} {b d e : UInt8} (h : by3 c p b d e = true) : (bL c)[p]? = some b ∧ (bL c)[p + 1]? = some d ∧ (bL c)[p + 1 + 1]? = some e := by
  unfold by3 at h
  have e0 : (bL c)[p]? = ((bL c).drop p)[0]? := by rw [List.getElem?_drop, Nat.add_zero]
  have e1 : (bL c)[p + 1]? = ((bL c).drop p)[1]? := by rw [List.getElem?_drop]
  have e2 : (bL c)[p + 1 + 1]? = ((bL c).drop p)[2]? := by rw [List.getElem?_drop]
  rw [e0, e1, e2]
  generalize (bL c).drop p = l at h
  match l, h with
  | x :: y :: z :: _, h => rw [Bool.and_eq_true, Bool.and_eq_true, beq_iff_eq, beq_iff_eq, beq_iff_eq] at h; obtain ⟨h1, h2, h3⟩ := h; subst h1 h2 h3; exact ⟨rfl, rfl, rfl⟩
section
variable {c : ByteArray} {p : Nat} {b : UInt8}
theorem o0 {i : Instr} (hk : ∀ pc c q, iK.1 pc b.toNat c q = .ok (i, q)) (h : by1 c p b = true) : decode c p = .ok (i, 1) := dc_0 hk (by1_at h)
theorem ou1 {f : Nat → Instr} {v : Nat} (hk : ∀ pc c q, iK.1 pc b.toNat c q = (Reader.u1 >>= fun x => (pure (f x) : Decoder Instr)) c q) (d : UInt8) (h : (by2 c p b d && (d.toNat == v)) = true) : decode c p = .ok (f v, 2) := by
  rw [Bool.and_eq_true, beq_iff_eq] at h
  obtain ⟨h1, h2⟩ := h
  subst h2
  exact dc_r (n := 1) hk (by2_at h1).1 (u1_ok (by2_at h1).2)
theorem os1 {f : Int → Instr} {v : Int} (hk : ∀ pc c q, iK.1 pc b.toNat c q = (Reader.s1 >>= fun x => (pure (f x) : Decoder Instr)) c q) (d : UInt8) (h : (by2 c p b d && (Reader.signed 8 d.toNat == v)) = true) : decode c p = .ok (f v, 2) := by
  rw [Bool.and_eq_true, beq_iff_eq] at h
  obtain ⟨h1, h2⟩ := h
  subst h2
  exact dc_r (n := 1) hk (by2_at h1).1 (s1_ok (by2_at h1).2)
theorem ou2 {f : Nat → Instr} {v : Nat} (hk : ∀ pc c q, iK.1 pc b.toNat c q = (Reader.u2 >>= fun x => (pure (f x) : Decoder Instr)) c q) (d e : UInt8) (h : (by3 c p b d e && (d.toNat * 256 + e.toNat == v)) = true) : decode c p = .ok (f v, 3) := by
  rw [Bool.and_eq_true, beq_iff_eq] at h
  obtain ⟨h1, h2⟩ := h
  subst h2
  exact dc_r (n := 2) hk (by3_at h1).1 (u2_ok (by3_at h1).2.1 (by3_at h1).2.2)
theorem os2 {f : Int → Instr} {v : Int} (hk : ∀ pc c q, iK.1 pc b.toNat c q = (Reader.s2 >>= fun x => (pure (f x) : Decoder Instr)) c q) (d e : UInt8) (h : (by3 c p b d e && (Reader.signed 16 (d.toNat * 256 + e.toNat) == v)) = true) : decode c p = .ok (f v, 3) := by
  rw [Bool.and_eq_true, beq_iff_eq] at h
  obtain ⟨h1, h2⟩ := h
  subst h2
  exact dc_r (n := 2) hk (by3_at h1).1 (s2_ok (by3_at h1).2.1 (by3_at h1).2.2)
end
theorem k_2 : ∀ pc c q, iK.1 pc (2 : UInt8).toNat c q = .ok (.iconst (-1), q) := fun _ _ _ => rfl
theorem k_3 : ∀ pc c q, iK.1 pc (3 : UInt8).toNat c q = .ok (.iconst 0, q) := fun _ _ _ => rfl
theorem k_4 : ∀ pc c q, iK.1 pc (4 : UInt8).toNat c q = .ok (.iconst 1, q) := fun _ _ _ => rfl
theorem k_5 : ∀ pc c q, iK.1 pc (5 : UInt8).toNat c q = .ok (.iconst 2, q) := fun _ _ _ => rfl
theorem k_6 : ∀ pc c q, iK.1 pc (6 : UInt8).toNat c q = .ok (.iconst 3, q) := fun _ _ _ => rfl
theorem k_7 : ∀ pc c q, iK.1 pc (7 : UInt8).toNat c q = .ok (.iconst 4, q) := fun _ _ _ => rfl
theorem k_8 : ∀ pc c q, iK.1 pc (8 : UInt8).toNat c q = .ok (.iconst 5, q) := fun _ _ _ => rfl
theorem k_9 : ∀ pc c q, iK.1 pc (9 : UInt8).toNat c q = .ok (.lconst 0, q) := fun _ _ _ => rfl
theorem k_10 : ∀ pc c q, iK.1 pc (10 : UInt8).toNat c q = .ok (.lconst 1, q) := fun _ _ _ => rfl
theorem k_16 : ∀ pc c q, iK.1 pc (16 : UInt8).toNat c q = (Reader.s1 >>= fun x => (pure (.bipush x) : Decoder Instr)) c q := fun _ _ _ => rfl
theorem k_17 : ∀ pc c q, iK.1 pc (17 : UInt8).toNat c q = (Reader.s2 >>= fun x => (pure (.sipush x) : Decoder Instr)) c q := fun _ _ _ => rfl
theorem k_18 : ∀ pc c q, iK.1 pc (18 : UInt8).toNat c q = (Reader.u1 >>= fun x => (pure (.ldc x) : Decoder Instr)) c q := fun _ _ _ => rfl
theorem k_20 : ∀ pc c q, iK.1 pc (20 : UInt8).toNat c q = (Reader.u2 >>= fun x => (pure (.ldc2_w x) : Decoder Instr)) c q := fun _ _ _ => rfl
theorem k_21 : ∀ pc c q, iK.1 pc (21 : UInt8).toNat c q = (Reader.u1 >>= fun x => (pure (.iload x) : Decoder Instr)) c q := fun _ _ _ => rfl
theorem k_22 : ∀ pc c q, iK.1 pc (22 : UInt8).toNat c q = (Reader.u1 >>= fun x => (pure (.lload x) : Decoder Instr)) c q := fun _ _ _ => rfl
theorem k_25 : ∀ pc c q, iK.1 pc (25 : UInt8).toNat c q = (Reader.u1 >>= fun x => (pure (.aload x) : Decoder Instr)) c q := fun _ _ _ => rfl
theorem k_26 : ∀ pc c q, iK.1 pc (26 : UInt8).toNat c q = .ok (.iload_n 0, q) := fun _ _ _ => rfl
theorem k_27 : ∀ pc c q, iK.1 pc (27 : UInt8).toNat c q = .ok (.iload_n 1, q) := fun _ _ _ => rfl
theorem k_28 : ∀ pc c q, iK.1 pc (28 : UInt8).toNat c q = .ok (.iload_n 2, q) := fun _ _ _ => rfl
theorem k_29 : ∀ pc c q, iK.1 pc (29 : UInt8).toNat c q = .ok (.iload_n 3, q) := fun _ _ _ => rfl
theorem k_30 : ∀ pc c q, iK.1 pc (30 : UInt8).toNat c q = .ok (.lload_n 0, q) := fun _ _ _ => rfl
theorem k_32 : ∀ pc c q, iK.1 pc (32 : UInt8).toNat c q = .ok (.lload_n 2, q) := fun _ _ _ => rfl
theorem k_33 : ∀ pc c q, iK.1 pc (33 : UInt8).toNat c q = .ok (.lload_n 3, q) := fun _ _ _ => rfl
theorem k_42 : ∀ pc c q, iK.1 pc (42 : UInt8).toNat c q = .ok (.aload_n 0, q) := fun _ _ _ => rfl
theorem k_43 : ∀ pc c q, iK.1 pc (43 : UInt8).toNat c q = .ok (.aload_n 1, q) := fun _ _ _ => rfl
theorem k_44 : ∀ pc c q, iK.1 pc (44 : UInt8).toNat c q = .ok (.aload_n 2, q) := fun _ _ _ => rfl
theorem k_46 : ∀ pc c q, iK.1 pc (46 : UInt8).toNat c q = .ok (.iaload, q) := fun _ _ _ => rfl
theorem k_50 : ∀ pc c q, iK.1 pc (50 : UInt8).toNat c q = .ok (.aaload, q) := fun _ _ _ => rfl
theorem k_51 : ∀ pc c q, iK.1 pc (51 : UInt8).toNat c q = .ok (.baload, q) := fun _ _ _ => rfl
theorem k_54 : ∀ pc c q, iK.1 pc (54 : UInt8).toNat c q = (Reader.u1 >>= fun x => (pure (.istore x) : Decoder Instr)) c q := fun _ _ _ => rfl
theorem k_55 : ∀ pc c q, iK.1 pc (55 : UInt8).toNat c q = (Reader.u1 >>= fun x => (pure (.lstore x) : Decoder Instr)) c q := fun _ _ _ => rfl
theorem k_58 : ∀ pc c q, iK.1 pc (58 : UInt8).toNat c q = (Reader.u1 >>= fun x => (pure (.astore x) : Decoder Instr)) c q := fun _ _ _ => rfl
theorem k_59 : ∀ pc c q, iK.1 pc (59 : UInt8).toNat c q = .ok (.istore_n 0, q) := fun _ _ _ => rfl
theorem k_60 : ∀ pc c q, iK.1 pc (60 : UInt8).toNat c q = .ok (.istore_n 1, q) := fun _ _ _ => rfl
theorem k_61 : ∀ pc c q, iK.1 pc (61 : UInt8).toNat c q = .ok (.istore_n 2, q) := fun _ _ _ => rfl
theorem k_62 : ∀ pc c q, iK.1 pc (62 : UInt8).toNat c q = .ok (.istore_n 3, q) := fun _ _ _ => rfl
theorem k_66 : ∀ pc c q, iK.1 pc (66 : UInt8).toNat c q = .ok (.lstore_n 3, q) := fun _ _ _ => rfl
theorem k_76 : ∀ pc c q, iK.1 pc (76 : UInt8).toNat c q = .ok (.astore_n 1, q) := fun _ _ _ => rfl
theorem k_77 : ∀ pc c q, iK.1 pc (77 : UInt8).toNat c q = .ok (.astore_n 2, q) := fun _ _ _ => rfl
theorem k_79 : ∀ pc c q, iK.1 pc (79 : UInt8).toNat c q = .ok (.iastore, q) := fun _ _ _ => rfl
theorem k_83 : ∀ pc c q, iK.1 pc (83 : UInt8).toNat c q = .ok (.aastore, q) := fun _ _ _ => rfl
theorem k_84 : ∀ pc c q, iK.1 pc (84 : UInt8).toNat c q = .ok (.bastore, q) := fun _ _ _ => rfl
theorem k_87 : ∀ pc c q, iK.1 pc (87 : UInt8).toNat c q = .ok (.pop, q) := fun _ _ _ => rfl
theorem k_88 : ∀ pc c q, iK.1 pc (88 : UInt8).toNat c q = .ok (.pop2, q) := fun _ _ _ => rfl
theorem k_89 : ∀ pc c q, iK.1 pc (89 : UInt8).toNat c q = .ok (.dup, q) := fun _ _ _ => rfl
theorem k_92 : ∀ pc c q, iK.1 pc (92 : UInt8).toNat c q = .ok (.dup2, q) := fun _ _ _ => rfl
theorem k_96 : ∀ pc c q, iK.1 pc (96 : UInt8).toNat c q = .ok (.iadd, q) := fun _ _ _ => rfl
theorem k_97 : ∀ pc c q, iK.1 pc (97 : UInt8).toNat c q = .ok (.ladd, q) := fun _ _ _ => rfl
theorem k_100 : ∀ pc c q, iK.1 pc (100 : UInt8).toNat c q = .ok (.isub, q) := fun _ _ _ => rfl
theorem k_101 : ∀ pc c q, iK.1 pc (101 : UInt8).toNat c q = .ok (.lsub, q) := fun _ _ _ => rfl
theorem k_104 : ∀ pc c q, iK.1 pc (104 : UInt8).toNat c q = .ok (.imul, q) := fun _ _ _ => rfl
theorem k_105 : ∀ pc c q, iK.1 pc (105 : UInt8).toNat c q = .ok (.lmul, q) := fun _ _ _ => rfl
theorem k_108 : ∀ pc c q, iK.1 pc (108 : UInt8).toNat c q = .ok (.idiv, q) := fun _ _ _ => rfl
theorem k_109 : ∀ pc c q, iK.1 pc (109 : UInt8).toNat c q = .ok (.ldiv, q) := fun _ _ _ => rfl
theorem k_112 : ∀ pc c q, iK.1 pc (112 : UInt8).toNat c q = .ok (.irem, q) := fun _ _ _ => rfl
theorem k_113 : ∀ pc c q, iK.1 pc (113 : UInt8).toNat c q = .ok (.lrem, q) := fun _ _ _ => rfl
theorem k_120 : ∀ pc c q, iK.1 pc (120 : UInt8).toNat c q = .ok (.ishl, q) := fun _ _ _ => rfl
theorem k_122 : ∀ pc c q, iK.1 pc (122 : UInt8).toNat c q = .ok (.ishr, q) := fun _ _ _ => rfl
theorem k_126 : ∀ pc c q, iK.1 pc (126 : UInt8).toNat c q = .ok (.iand, q) := fun _ _ _ => rfl
theorem k_128 : ∀ pc c q, iK.1 pc (128 : UInt8).toNat c q = .ok (.ior, q) := fun _ _ _ => rfl
theorem k_130 : ∀ pc c q, iK.1 pc (130 : UInt8).toNat c q = .ok (.ixor, q) := fun _ _ _ => rfl
theorem k_133 : ∀ pc c q, iK.1 pc (133 : UInt8).toNat c q = .ok (.i2l, q) := fun _ _ _ => rfl
theorem k_145 : ∀ pc c q, iK.1 pc (145 : UInt8).toNat c q = .ok (.i2b, q) := fun _ _ _ => rfl
theorem k_147 : ∀ pc c q, iK.1 pc (147 : UInt8).toNat c q = .ok (.i2s, q) := fun _ _ _ => rfl
theorem k_148 : ∀ pc c q, iK.1 pc (148 : UInt8).toNat c q = .ok (.lcmp, q) := fun _ _ _ => rfl
theorem k_153 : ∀ pc c q, iK.1 pc (153 : UInt8).toNat c q = (Reader.s2 >>= fun x => (pure (.ifCond .eq x) : Decoder Instr)) c q := fun _ _ _ => rfl
theorem k_154 : ∀ pc c q, iK.1 pc (154 : UInt8).toNat c q = (Reader.s2 >>= fun x => (pure (.ifCond .ne x) : Decoder Instr)) c q := fun _ _ _ => rfl
theorem k_155 : ∀ pc c q, iK.1 pc (155 : UInt8).toNat c q = (Reader.s2 >>= fun x => (pure (.ifCond .lt x) : Decoder Instr)) c q := fun _ _ _ => rfl
theorem k_156 : ∀ pc c q, iK.1 pc (156 : UInt8).toNat c q = (Reader.s2 >>= fun x => (pure (.ifCond .ge x) : Decoder Instr)) c q := fun _ _ _ => rfl
theorem k_157 : ∀ pc c q, iK.1 pc (157 : UInt8).toNat c q = (Reader.s2 >>= fun x => (pure (.ifCond .gt x) : Decoder Instr)) c q := fun _ _ _ => rfl
theorem k_158 : ∀ pc c q, iK.1 pc (158 : UInt8).toNat c q = (Reader.s2 >>= fun x => (pure (.ifCond .le x) : Decoder Instr)) c q := fun _ _ _ => rfl
theorem k_159 : ∀ pc c q, iK.1 pc (159 : UInt8).toNat c q = (Reader.s2 >>= fun x => (pure (.if_icmp .eq x) : Decoder Instr)) c q := fun _ _ _ => rfl
theorem k_160 : ∀ pc c q, iK.1 pc (160 : UInt8).toNat c q = (Reader.s2 >>= fun x => (pure (.if_icmp .ne x) : Decoder Instr)) c q := fun _ _ _ => rfl
theorem k_161 : ∀ pc c q, iK.1 pc (161 : UInt8).toNat c q = (Reader.s2 >>= fun x => (pure (.if_icmp .lt x) : Decoder Instr)) c q := fun _ _ _ => rfl
theorem k_162 : ∀ pc c q, iK.1 pc (162 : UInt8).toNat c q = (Reader.s2 >>= fun x => (pure (.if_icmp .ge x) : Decoder Instr)) c q := fun _ _ _ => rfl
theorem k_163 : ∀ pc c q, iK.1 pc (163 : UInt8).toNat c q = (Reader.s2 >>= fun x => (pure (.if_icmp .gt x) : Decoder Instr)) c q := fun _ _ _ => rfl
theorem k_164 : ∀ pc c q, iK.1 pc (164 : UInt8).toNat c q = (Reader.s2 >>= fun x => (pure (.if_icmp .le x) : Decoder Instr)) c q := fun _ _ _ => rfl
theorem k_167 : ∀ pc c q, iK.1 pc (167 : UInt8).toNat c q = (Reader.s2 >>= fun x => (pure (.goto x) : Decoder Instr)) c q := fun _ _ _ => rfl
theorem k_172 : ∀ pc c q, iK.1 pc (172 : UInt8).toNat c q = .ok (.ireturn, q) := fun _ _ _ => rfl
theorem k_173 : ∀ pc c q, iK.1 pc (173 : UInt8).toNat c q = .ok (.lreturn, q) := fun _ _ _ => rfl
theorem k_176 : ∀ pc c q, iK.1 pc (176 : UInt8).toNat c q = .ok (.areturn, q) := fun _ _ _ => rfl
theorem k_177 : ∀ pc c q, iK.1 pc (177 : UInt8).toNat c q = .ok (.return_, q) := fun _ _ _ => rfl
theorem k_178 : ∀ pc c q, iK.1 pc (178 : UInt8).toNat c q = (Reader.u2 >>= fun x => (pure (.getstatic x) : Decoder Instr)) c q := fun _ _ _ => rfl
theorem k_180 : ∀ pc c q, iK.1 pc (180 : UInt8).toNat c q = (Reader.u2 >>= fun x => (pure (.getfield x) : Decoder Instr)) c q := fun _ _ _ => rfl
theorem k_181 : ∀ pc c q, iK.1 pc (181 : UInt8).toNat c q = (Reader.u2 >>= fun x => (pure (.putfield x) : Decoder Instr)) c q := fun _ _ _ => rfl
theorem k_182 : ∀ pc c q, iK.1 pc (182 : UInt8).toNat c q = (Reader.u2 >>= fun x => (pure (.invokevirtual x) : Decoder Instr)) c q := fun _ _ _ => rfl
theorem k_183 : ∀ pc c q, iK.1 pc (183 : UInt8).toNat c q = (Reader.u2 >>= fun x => (pure (.invokespecial x) : Decoder Instr)) c q := fun _ _ _ => rfl
theorem k_184 : ∀ pc c q, iK.1 pc (184 : UInt8).toNat c q = (Reader.u2 >>= fun x => (pure (.invokestatic x) : Decoder Instr)) c q := fun _ _ _ => rfl
theorem k_187 : ∀ pc c q, iK.1 pc (187 : UInt8).toNat c q = (Reader.u2 >>= fun x => (pure (.new x) : Decoder Instr)) c q := fun _ _ _ => rfl
theorem k_189 : ∀ pc c q, iK.1 pc (189 : UInt8).toNat c q = (Reader.u2 >>= fun x => (pure (.anewarray x) : Decoder Instr)) c q := fun _ _ _ => rfl
theorem k_190 : ∀ pc c q, iK.1 pc (190 : UInt8).toNat c q = .ok (.arraylength, q) := fun _ _ _ => rfl
