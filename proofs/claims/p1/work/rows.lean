section
-- ===== PART A: goes FIRST, ahead of the names: the tables' words, and 'selects' of the private methods out of them =====
/-- a private method of a class that the tables say can be made, by its rows of tables_1 -/
def lw_okq (q : MethodName × Nat) : Prop := (q.1.cls ≠ "java/lang/invoke/MethodHandle" ∧ q.1.cls ≠ "java/lang/invoke/VarHandle") ∧ Cond.instantiable q.1.cls q.2 ∈ tables_1 ∧ Cond.privateMethod q.1 ∈ tables_1 ∧ Cond.instanceMethod q.1 ∈ tables_1
theorem lw_p0 : lw_okq (⟨"SunPointer", "mayStand", "(II)Z"⟩, 11) := ⟨⟨by decide +kernel, by decide +kernel⟩, List.mem_of_getElem? (i := 14) (by decide +kernel), List.mem_of_getElem? (i := 478) (by decide +kernel), List.mem_of_getElem? (i := 479) (by decide +kernel)⟩
theorem lw_p1 : lw_okq (⟨"SunPointer", "timelinessOf", "(I)I"⟩, 11) := ⟨⟨by decide +kernel, by decide +kernel⟩, List.mem_of_getElem? (i := 14) (by decide +kernel), List.mem_of_getElem? (i := 527) (by decide +kernel), List.mem_of_getElem? (i := 528) (by decide +kernel)⟩
theorem lw_p2 : lw_okq (⟨"SunPointer", "harmOfSwapped", "(II)I"⟩, 11) := ⟨⟨by decide +kernel, by decide +kernel⟩, List.mem_of_getElem? (i := 14) (by decide +kernel), List.mem_of_getElem? (i := 550) (by decide +kernel), List.mem_of_getElem? (i := 551) (by decide +kernel)⟩
theorem lw_p3 : lw_okq (⟨"SunPointer", "weighedHarm", "(II)J"⟩, 11) := ⟨⟨by decide +kernel, by decide +kernel⟩, List.mem_of_getElem? (i := 14) (by decide +kernel), List.mem_of_getElem? (i := 568) (by decide +kernel), List.mem_of_getElem? (i := 569) (by decide +kernel)⟩
theorem lw_p4 : lw_okq (⟨"SunPointer", "oddsOfNever", "(II)J"⟩, 11) := ⟨⟨by decide +kernel, by decide +kernel⟩, List.mem_of_getElem? (i := 14) (by decide +kernel), List.mem_of_getElem? (i := 582) (by decide +kernel), List.mem_of_getElem? (i := 583) (by decide +kernel)⟩
theorem lw_p5 : lw_okq (⟨"SunPointer", "leansAsSeen", "(I)I"⟩, 11) := ⟨⟨by decide +kernel, by decide +kernel⟩, List.mem_of_getElem? (i := 14) (by decide +kernel), List.mem_of_getElem? (i := 598) (by decide +kernel), List.mem_of_getElem? (i := 599) (by decide +kernel)⟩
theorem lw_p6 : lw_okq (⟨"SunPointer", "trialIsAsSeen", "()Z"⟩, 11) := ⟨⟨by decide +kernel, by decide +kernel⟩, List.mem_of_getElem? (i := 14) (by decide +kernel), List.mem_of_getElem? (i := 602) (by decide +kernel), List.mem_of_getElem? (i := 603) (by decide +kernel)⟩
theorem lw_p7 : lw_okq (⟨"SunPointer", "mostLeft", "(III)I"⟩, 11) := ⟨⟨by decide +kernel, by decide +kernel⟩, List.mem_of_getElem? (i := 14) (by decide +kernel), List.mem_of_getElem? (i := 620) (by decide +kernel), List.mem_of_getElem? (i := 621) (by decide +kernel)⟩
theorem lw_p8 : lw_okq (⟨"SunPointer", "imagesKept", "()I"⟩, 11) := ⟨⟨by decide +kernel, by decide +kernel⟩, List.mem_of_getElem? (i := 14) (by decide +kernel), List.mem_of_getElem? (i := 687) (by decide +kernel), List.mem_of_getElem? (i := 688) (by decide +kernel)⟩
theorem lw_p9 : lw_okq (⟨"SunPointerModel", "step", "()V"⟩, 29) := ⟨⟨by decide +kernel, by decide +kernel⟩, List.mem_of_getElem? (i := 699) (by decide +kernel), List.mem_of_getElem? (i := 809) (by decide +kernel), List.mem_of_getElem? (i := 810) (by decide +kernel)⟩
theorem lw_p10 : lw_okq (⟨"SunPointerModel", "byteAt", "(I)I"⟩, 29) := ⟨⟨by decide +kernel, by decide +kernel⟩, List.mem_of_getElem? (i := 699) (by decide +kernel), List.mem_of_getElem? (i := 813) (by decide +kernel), List.mem_of_getElem? (i := 814) (by decide +kernel)⟩
theorem lw_p11 : lw_okq (⟨"SunPointerModel", "fails", "(I)V"⟩, 29) := ⟨⟨by decide +kernel, by decide +kernel⟩, List.mem_of_getElem? (i := 699) (by decide +kernel), List.mem_of_getElem? (i := 821) (by decide +kernel), List.mem_of_getElem? (i := 822) (by decide +kernel)⟩
theorem lw_p12 : lw_okq (⟨"SunPointerModel", "readLine", "()V"⟩, 29) := ⟨⟨by decide +kernel, by decide +kernel⟩, List.mem_of_getElem? (i := 699) (by decide +kernel), List.mem_of_getElem? (i := 825) (by decide +kernel), List.mem_of_getElem? (i := 826) (by decide +kernel)⟩
theorem lw_p13 : lw_okq (⟨"SunPointerModel", "nameHere", "()I"⟩, 29) := ⟨⟨by decide +kernel, by decide +kernel⟩, List.mem_of_getElem? (i := 699) (by decide +kernel), List.mem_of_getElem? (i := 829) (by decide +kernel), List.mem_of_getElem? (i := 830) (by decide +kernel)⟩
theorem lw_p14 : lw_okq (⟨"SunPointerModel", "readMore", "(I)V"⟩, 29) := ⟨⟨by decide +kernel, by decide +kernel⟩, List.mem_of_getElem? (i := 699) (by decide +kernel), List.mem_of_getElem? (i := 834) (by decide +kernel), List.mem_of_getElem? (i := 835) (by decide +kernel)⟩
theorem lw_p15 : lw_okq (⟨"SunPointerModel", "other", "(III)I"⟩, 29) := ⟨⟨by decide +kernel, by decide +kernel⟩, List.mem_of_getElem? (i := 699) (by decide +kernel), List.mem_of_getElem? (i := 838) (by decide +kernel), List.mem_of_getElem? (i := 839) (by decide +kernel)⟩
def lw_privs_1 : List (MethodName × Nat) := [(⟨"SunPointer", "mayStand", "(II)Z"⟩, 11), (⟨"SunPointer", "timelinessOf", "(I)I"⟩, 11), (⟨"SunPointer", "harmOfSwapped", "(II)I"⟩, 11), (⟨"SunPointer", "weighedHarm", "(II)J"⟩, 11), (⟨"SunPointer", "oddsOfNever", "(II)J"⟩, 11), (⟨"SunPointer", "leansAsSeen", "(I)I"⟩, 11), (⟨"SunPointer", "trialIsAsSeen", "()Z"⟩, 11), (⟨"SunPointer", "mostLeft", "(III)I"⟩, 11), (⟨"SunPointer", "imagesKept", "()I"⟩, 11), (⟨"SunPointerModel", "step", "()V"⟩, 29), (⟨"SunPointerModel", "byteAt", "(I)I"⟩, 29), (⟨"SunPointerModel", "fails", "(I)V"⟩, 29), (⟨"SunPointerModel", "readLine", "()V"⟩, 29), (⟨"SunPointerModel", "nameHere", "()I"⟩, 29), (⟨"SunPointerModel", "readMore", "(I)V"⟩, 29), (⟨"SunPointerModel", "other", "(III)I"⟩, 29)]
theorem lw_r1 : ∀ q ∈ lw_privs_1, lw_okq q := List.forall_mem_cons.mpr ⟨lw_p0, List.forall_mem_cons.mpr ⟨lw_p1, List.forall_mem_cons.mpr ⟨lw_p2, List.forall_mem_cons.mpr ⟨lw_p3, List.forall_mem_cons.mpr ⟨lw_p4, List.forall_mem_cons.mpr ⟨lw_p5, List.forall_mem_cons.mpr ⟨lw_p6, List.forall_mem_cons.mpr ⟨lw_p7, List.forall_mem_cons.mpr ⟨lw_p8, List.forall_mem_cons.mpr ⟨lw_p9, List.forall_mem_cons.mpr ⟨lw_p10, List.forall_mem_cons.mpr ⟨lw_p11, List.forall_mem_cons.mpr ⟨lw_p12, List.forall_mem_cons.mpr ⟨lw_p13, List.forall_mem_cons.mpr ⟨lw_p14, List.forall_mem_cons.mpr ⟨lw_p15, fun _ h => absurd h List.not_mem_nil⟩⟩⟩⟩⟩⟩⟩⟩⟩⟩⟩⟩⟩⟩⟩⟩
theorem lw_p16 : lw_okq (⟨"SunPointerModel", "readRota", "()V"⟩, 29) := ⟨⟨by decide +kernel, by decide +kernel⟩, List.mem_of_getElem? (i := 699) (by decide +kernel), List.mem_of_getElem? (i := 842) (by decide +kernel), List.mem_of_getElem? (i := 843) (by decide +kernel)⟩
theorem lw_p17 : lw_okq (⟨"SunPointerModel", "hoursOf", "(I)I"⟩, 29) := ⟨⟨by decide +kernel, by decide +kernel⟩, List.mem_of_getElem? (i := 699) (by decide +kernel), List.mem_of_getElem? (i := 854) (by decide +kernel), List.mem_of_getElem? (i := 855) (by decide +kernel)⟩
theorem lw_p18 : lw_okq (⟨"SunPointerModel", "standsIn", "(I)I"⟩, 29) := ⟨⟨by decide +kernel, by decide +kernel⟩, List.mem_of_getElem? (i := 699) (by decide +kernel), List.mem_of_getElem? (i := 858) (by decide +kernel), List.mem_of_getElem? (i := 859) (by decide +kernel)⟩
theorem lw_p19 : lw_okq (⟨"SunPointerModel", "harm", "()I"⟩, 29) := ⟨⟨by decide +kernel, by decide +kernel⟩, List.mem_of_getElem? (i := 699) (by decide +kernel), List.mem_of_getElem? (i := 862) (by decide +kernel), List.mem_of_getElem? (i := 863) (by decide +kernel)⟩
theorem lw_p20 : lw_okq (⟨"SunPointerModel", "laysReads", "()V"⟩, 29) := ⟨⟨by decide +kernel, by decide +kernel⟩, List.mem_of_getElem? (i := 699) (by decide +kernel), List.mem_of_getElem? (i := 866) (by decide +kernel), List.mem_of_getElem? (i := 867) (by decide +kernel)⟩
theorem lw_p21 : lw_okq (⟨"SunPointerModel", "slipIn", "(II)I"⟩, 29) := ⟨⟨by decide +kernel, by decide +kernel⟩, List.mem_of_getElem? (i := 699) (by decide +kernel), List.mem_of_getElem? (i := 870) (by decide +kernel), List.mem_of_getElem? (i := 871) (by decide +kernel)⟩
theorem lw_p22 : lw_okq (⟨"SunPointerModel", "stoodIn", "(I)I"⟩, 29) := ⟨⟨by decide +kernel, by decide +kernel⟩, List.mem_of_getElem? (i := 699) (by decide +kernel), List.mem_of_getElem? (i := 874) (by decide +kernel), List.mem_of_getElem? (i := 875) (by decide +kernel)⟩
theorem lw_p23 : lw_okq (⟨"SunPointerModel", "harmOf", "(I)I"⟩, 29) := ⟨⟨by decide +kernel, by decide +kernel⟩, List.mem_of_getElem? (i := 699) (by decide +kernel), List.mem_of_getElem? (i := 878) (by decide +kernel), List.mem_of_getElem? (i := 879) (by decide +kernel)⟩
theorem lw_p24 : lw_okq (⟨"SunPointerModel", "doneIn", "(I)I"⟩, 29) := ⟨⟨by decide +kernel, by decide +kernel⟩, List.mem_of_getElem? (i := 699) (by decide +kernel), List.mem_of_getElem? (i := 882) (by decide +kernel), List.mem_of_getElem? (i := 883) (by decide +kernel)⟩
theorem lw_p25 : lw_okq (⟨"SunPointerModel", "isMan", "(I)Z"⟩, 29) := ⟨⟨by decide +kernel, by decide +kernel⟩, List.mem_of_getElem? (i := 699) (by decide +kernel), List.mem_of_getElem? (i := 890) (by decide +kernel), List.mem_of_getElem? (i := 891) (by decide +kernel)⟩
theorem lw_p26 : lw_okq (⟨"SunPointerModel", "isDeed", "(I)Z"⟩, 29) := ⟨⟨by decide +kernel, by decide +kernel⟩, List.mem_of_getElem? (i := 699) (by decide +kernel), List.mem_of_getElem? (i := 910) (by decide +kernel), List.mem_of_getElem? (i := 911) (by decide +kernel)⟩
theorem lw_p27 : lw_okq (⟨"SunPointerModel", "puts", "(ZIII)I"⟩, 29) := ⟨⟨by decide +kernel, by decide +kernel⟩, List.mem_of_getElem? (i := 699) (by decide +kernel), List.mem_of_getElem? (i := 919) (by decide +kernel), List.mem_of_getElem? (i := 920) (by decide +kernel)⟩
theorem lw_p28 : lw_okq (⟨"SunPointerModel", "shifts", "(II)I"⟩, 29) := ⟨⟨by decide +kernel, by decide +kernel⟩, List.mem_of_getElem? (i := 699) (by decide +kernel), List.mem_of_getElem? (i := 933) (by decide +kernel), List.mem_of_getElem? (i := 934) (by decide +kernel)⟩
theorem lw_p29 : lw_okq (⟨"SunPointerModel", "isLess", "(I)Z"⟩, 29) := ⟨⟨by decide +kernel, by decide +kernel⟩, List.mem_of_getElem? (i := 699) (by decide +kernel), List.mem_of_getElem? (i := 978) (by decide +kernel), List.mem_of_getElem? (i := 979) (by decide +kernel)⟩
theorem lw_p30 : lw_okq (⟨"SunPointerModel", "copies", "(II)V"⟩, 29) := ⟨⟨by decide +kernel, by decide +kernel⟩, List.mem_of_getElem? (i := 699) (by decide +kernel), List.mem_of_getElem? (i := 994) (by decide +kernel), List.mem_of_getElem? (i := 995) (by decide +kernel)⟩
theorem lw_p31 : lw_okq (⟨"SunPointerModel", "byClouds", "(III)J"⟩, 29) := ⟨⟨by decide +kernel, by decide +kernel⟩, List.mem_of_getElem? (i := 699) (by decide +kernel), List.mem_of_getElem? (i := 1003) (by decide +kernel), List.mem_of_getElem? (i := 1004) (by decide +kernel)⟩
def lw_privs_2 : List (MethodName × Nat) := [(⟨"SunPointerModel", "readRota", "()V"⟩, 29), (⟨"SunPointerModel", "hoursOf", "(I)I"⟩, 29), (⟨"SunPointerModel", "standsIn", "(I)I"⟩, 29), (⟨"SunPointerModel", "harm", "()I"⟩, 29), (⟨"SunPointerModel", "laysReads", "()V"⟩, 29), (⟨"SunPointerModel", "slipIn", "(II)I"⟩, 29), (⟨"SunPointerModel", "stoodIn", "(I)I"⟩, 29), (⟨"SunPointerModel", "harmOf", "(I)I"⟩, 29), (⟨"SunPointerModel", "doneIn", "(I)I"⟩, 29), (⟨"SunPointerModel", "isMan", "(I)Z"⟩, 29), (⟨"SunPointerModel", "isDeed", "(I)Z"⟩, 29), (⟨"SunPointerModel", "puts", "(ZIII)I"⟩, 29), (⟨"SunPointerModel", "shifts", "(II)I"⟩, 29), (⟨"SunPointerModel", "isLess", "(I)Z"⟩, 29), (⟨"SunPointerModel", "copies", "(II)V"⟩, 29), (⟨"SunPointerModel", "byClouds", "(III)J"⟩, 29)]
theorem lw_r2 : ∀ q ∈ lw_privs_2, lw_okq q := List.forall_mem_cons.mpr ⟨lw_p16, List.forall_mem_cons.mpr ⟨lw_p17, List.forall_mem_cons.mpr ⟨lw_p18, List.forall_mem_cons.mpr ⟨lw_p19, List.forall_mem_cons.mpr ⟨lw_p20, List.forall_mem_cons.mpr ⟨lw_p21, List.forall_mem_cons.mpr ⟨lw_p22, List.forall_mem_cons.mpr ⟨lw_p23, List.forall_mem_cons.mpr ⟨lw_p24, List.forall_mem_cons.mpr ⟨lw_p25, List.forall_mem_cons.mpr ⟨lw_p26, List.forall_mem_cons.mpr ⟨lw_p27, List.forall_mem_cons.mpr ⟨lw_p28, List.forall_mem_cons.mpr ⟨lw_p29, List.forall_mem_cons.mpr ⟨lw_p30, List.forall_mem_cons.mpr ⟨lw_p31, fun _ h => absurd h List.not_mem_nil⟩⟩⟩⟩⟩⟩⟩⟩⟩⟩⟩⟩⟩⟩⟩⟩
theorem lw_p32 : lw_okq (⟨"SunPointerModel", "leansOf", "(I)I"⟩, 29) := ⟨⟨by decide +kernel, by decide +kernel⟩, List.mem_of_getElem? (i := 699) (by decide +kernel), List.mem_of_getElem? (i := 1027) (by decide +kernel), List.mem_of_getElem? (i := 1028) (by decide +kernel)⟩
theorem lw_p33 : lw_okq (⟨"SunPointerModel", "isAsSeen", "()Z"⟩, 29) := ⟨⟨by decide +kernel, by decide +kernel⟩, List.mem_of_getElem? (i := 699) (by decide +kernel), List.mem_of_getElem? (i := 1031) (by decide +kernel), List.mem_of_getElem? (i := 1032) (by decide +kernel)⟩
theorem lw_p34 : lw_okq (⟨"SunPointerModel", "draws", "(I)I"⟩, 29) := ⟨⟨by decide +kernel, by decide +kernel⟩, List.mem_of_getElem? (i := 699) (by decide +kernel), List.mem_of_getElem? (i := 1051) (by decide +kernel), List.mem_of_getElem? (i := 1052) (by decide +kernel)⟩
def lw_privs_3 : List (MethodName × Nat) := [(⟨"SunPointerModel", "leansOf", "(I)I"⟩, 29), (⟨"SunPointerModel", "isAsSeen", "()Z"⟩, 29), (⟨"SunPointerModel", "draws", "(I)I"⟩, 29)]
theorem lw_r3 : ∀ q ∈ lw_privs_3, lw_okq q := List.forall_mem_cons.mpr ⟨lw_p32, List.forall_mem_cons.mpr ⟨lw_p33, List.forall_mem_cons.mpr ⟨lw_p34, fun _ h => absurd h List.not_mem_nil⟩⟩⟩
def lw_privs : List (MethodName × Nat) := lw_privs_1 ++ (lw_privs_2 ++ (lw_privs_3))
def lw_tbl : List Cond := k2_sels lw_privs ++ tables_1
theorem lw_privs_ok : ∀ q ∈ lw_privs, lw_okq q := by
  show ∀ q ∈ lw_privs_1 ++ (lw_privs_2 ++ (lw_privs_3)), lw_okq q
  exact List.forall_mem_append.mpr ⟨lw_r1, List.forall_mem_append.mpr ⟨lw_r2, lw_r3⟩⟩
end
section
def RX0 : String := "SunPointer$Sheet"
def TX0 : u_T := fun k => match k with
  | 0 => ("SunPointer$Sheet", "cells", "[I", true)
  | 1 => ("SunPointer$Sheet", "lane", "I", false)
  | _ => ("SunPointer$Sheet", "size", "I", false)
def tyX0 : Nat → FieldType := fun k => match k with
  | 0 => .array .int
  | 1 => .int
  | _ => .int
theorem nmX0 : ∀ a, a < 3 → ∀ b, b < 3 → a ≠ b → (TX0 a).2.1 ≠ (TX0 b).2.1 := by decide +kernel
theorem tyX0_ok : ∀ k, k < 3 → parseFieldDescriptor (TX0 k).2.2.1 = some (tyX0 k) := by decide +kernel
abbrev cX0_init : ByteArray := prog_2_method_1_code
def yX0_init : MethodName := ⟨RX0, "<init>", "()V"⟩
abbrev cX0_renew : ByteArray := prog_2_method_2_code
def yX0_renew : MethodName := ⟨RX0, "renew", "(II)V"⟩
abbrev cX0_refusal : ByteArray := prog_2_method_3_code
def yX0_refusal : MethodName := ⟨RX0, "refusal", "(II)I"⟩
abbrev cX0_refusalOfPair : ByteArray := prog_2_method_4_code
def yX0_refusalOfPair : MethodName := ⟨RX0, "refusalOfPair", "(II)I"⟩
abbrev cX0_put : ByteArray := prog_2_method_5_code
def yX0_put : MethodName := ⟨RX0, "put", "(II)V"⟩
def RX1 : String := "SunPointer$Tape"
def TX1 : u_T := fun k => match k with
  | 0 => ("SunPointer$Tape", "bytes", "[B", true)
  | 1 => ("SunPointer$Tape", "length", "I", false)
  | 2 => ("SunPointer$Tape", "faultMet", "I", false)
  | 3 => ("SunPointer$Tape", "faultPlace", "I", false)
  | 4 => ("SunPointer$Tape", "token", "I", false)
  | 5 => ("SunPointer$Tape", "tokenPlace", "I", false)
  | 6 => ("SunPointer$Tape", "tokenEnd", "I", false)
  | 7 => ("SunPointer$Tape", "number", "I", false)
  | 8 => ("SunPointer$Tape", "rotaTold", "Z", false)
  | _ => ("SunPointer$Tape", "paintTold", "Z", false)
def tyX1 : Nat → FieldType := fun k => match k with
  | 0 => .array .byte
  | 1 => .int
  | 2 => .int
  | 3 => .int
  | 4 => .int
  | 5 => .int
  | 6 => .int
  | 7 => .int
  | 8 => .boolean
  | _ => .boolean
theorem nmX1 : ∀ a, a < 10 → ∀ b, b < 10 → a ≠ b → (TX1 a).2.1 ≠ (TX1 b).2.1 := by decide +kernel
theorem tyX1_ok : ∀ k, k < 10 → parseFieldDescriptor (TX1 k).2.2.1 = some (tyX1 k) := by decide +kernel
abbrev cX1_init : ByteArray := prog_3_method_1_code
def yX1_init : MethodName := ⟨RX1, "<init>", "()V"⟩
abbrev cX1_add : ByteArray := prog_3_method_2_code
def yX1_add : MethodName := ⟨RX1, "add", "(I)Z"⟩
abbrev cX1_tell : ByteArray := prog_3_method_3_code
def yX1_tell : MethodName := ⟨RX1, "tell", "(LSunPointer$Town;)I"⟩
abbrev cX1_isGood : ByteArray := prog_3_method_4_code
def yX1_isGood : MethodName := ⟨RX1, "isGood", "()Z"⟩
abbrev cX1_fail : ByteArray := prog_3_method_5_code
def yX1_fail : MethodName := ⟨RX1, "fail", "(II)V"⟩
abbrev cX1_takeLine : ByteArray := prog_3_method_6_code
def yX1_takeLine : MethodName := ⟨RX1, "takeLine", "(LSunPointer$Town;)V"⟩
abbrev cX1_takeMan : ByteArray := prog_3_method_7_code
def yX1_takeMan : MethodName := ⟨RX1, "takeMan", "(LSunPointer$Town;I)V"⟩
abbrev cX1_takeRota : ByteArray := prog_3_method_8_code
def yX1_takeRota : MethodName := ⟨RX1, "takeRota", "(LSunPointer$Town;)V"⟩
abbrev cX1_takeCloud : ByteArray := prog_3_method_9_code
def yX1_takeCloud : MethodName := ⟨RX1, "takeCloud", "(LSunPointer$Town;)V"⟩
abbrev cX1_takePaint : ByteArray := prog_3_method_10_code
def yX1_takePaint : MethodName := ⟨RX1, "takePaint", "(LSunPointer$Town;)V"⟩
abbrev cX1_takeDeed : ByteArray := prog_3_method_11_code
def yX1_takeDeed : MethodName := ⟨RX1, "takeDeed", "(LSunPointer$Town;)V"⟩
abbrev cX1_takeNumber : ByteArray := prog_3_method_12_code
def yX1_takeNumber : MethodName := ⟨RX1, "takeNumber", "(II)I"⟩
abbrev cX1_judgeNumber : ByteArray := prog_3_method_13_code
def yX1_judgeNumber : MethodName := ⟨RX1, "judgeNumber", "(II)V"⟩
abbrev cX1_takeStop : ByteArray := prog_3_method_14_code
def yX1_takeStop : MethodName := ⟨RX1, "takeStop", "()V"⟩
abbrev cX1_next : ByteArray := prog_3_method_15_code
def yX1_next : MethodName := ⟨RX1, "next", "()V"⟩
abbrev cX1_numberOfToken : ByteArray := prog_3_method_16_code
def yX1_numberOfToken : MethodName := ⟨RX1, "numberOfToken", "()I"⟩
abbrev cX1_behindBlanks : ByteArray := prog_3_method_17_code
def yX1_behindBlanks : MethodName := ⟨RX1, "behindBlanks", "(I)I"⟩
abbrev cX1_behindLetters : ByteArray := prog_3_method_18_code
def yX1_behindLetters : MethodName := ⟨RX1, "behindLetters", "(I)I"⟩
abbrev cX1_behindFigures : ByteArray := prog_3_method_19_code
def yX1_behindFigures : MethodName := ⟨RX1, "behindFigures", "(I)I"⟩
abbrev cX1_isLetter : ByteArray := prog_3_method_20_code
def yX1_isLetter : MethodName := ⟨RX1, "isLetter", "(I)Z"⟩
abbrev cX1_isFigure : ByteArray := prog_3_method_21_code
def yX1_isFigure : MethodName := ⟨RX1, "isFigure", "(I)Z"⟩
abbrev cX1_lineOfName : ByteArray := prog_3_method_22_code
def yX1_lineOfName : MethodName := ⟨RX1, "lineOfName", "()I"⟩
abbrev cX1_nameOfLine : ByteArray := prog_3_method_23_code
def yX1_nameOfLine : MethodName := ⟨RX1, "nameOfLine", "(I)Ljava/lang/String;"⟩
abbrev cX1_tokenSpells : ByteArray := prog_3_method_24_code
def yX1_tokenSpells : MethodName := ⟨RX1, "tokenSpells", "(Ljava/lang/String;)Z"⟩
def RX2 : String := "SunPointer$Town"
def TX2 : u_T := fun k => match k with
  | 0 => ("SunPointer$Town", "kindOf", "[I", true)
  | 1 => ("SunPointer$Town", "leanOf", "[I", true)
  | 2 => ("SunPointer$Town", "stands", "[I", true)
  | 3 => ("SunPointer$Town", "dues", "[I", true)
  | 4 => ("SunPointer$Town", "worths", "[I", true)
  | 5 => ("SunPointer$Town", "bends", "[I", true)
  | 6 => ("SunPointer$Town", "men", "I", false)
  | 7 => ("SunPointer$Town", "deeds", "I", false)
  | 8 => ("SunPointer$Town", "clouds", "I", false)
  | _ => ("SunPointer$Town", "painted", "I", false)
def tyX2 : Nat → FieldType := fun k => match k with
  | 0 => .array .int
  | 1 => .array .int
  | 2 => .array .int
  | 3 => .array .int
  | 4 => .array .int
  | 5 => .array .int
  | 6 => .int
  | 7 => .int
  | 8 => .int
  | _ => .int
theorem nmX2 : ∀ a, a < 10 → ∀ b, b < 10 → a ≠ b → (TX2 a).2.1 ≠ (TX2 b).2.1 := by decide +kernel
theorem tyX2_ok : ∀ k, k < 10 → parseFieldDescriptor (TX2 k).2.2.1 = some (tyX2 k) := by decide +kernel
abbrev cX2_init : ByteArray := prog_4_method_1_code
def yX2_init : MethodName := ⟨RX2, "<init>", "()V"⟩
abbrev cX2_clear : ByteArray := prog_4_method_2_code
def yX2_clear : MethodName := ⟨RX2, "clear", "()V"⟩
abbrev cX2_copyOf : ByteArray := prog_4_method_3_code
def yX2_copyOf : MethodName := ⟨RX2, "copyOf", "(LSunPointer$Town;)V"⟩
abbrev cX2_hasMan : ByteArray := prog_4_method_4_code
def yX2_hasMan : MethodName := ⟨RX2, "hasMan", "(I)Z"⟩
abbrev cX2_hasDeed : ByteArray := prog_4_method_5_code
def yX2_hasDeed : MethodName := ⟨RX2, "hasDeed", "(I)Z"⟩
abbrev cX2_isCloudy : ByteArray := prog_4_method_6_code
def yX2_isCloudy : MethodName := ⟨RX2, "isCloudy", "(I)Z"⟩
abbrev cX2_setCloudy : ByteArray := prog_4_method_7_code
def yX2_setCloudy : MethodName := ⟨RX2, "setCloudy", "(IZ)V"⟩
abbrev cX2_setKind : ByteArray := prog_4_method_8_code
def yX2_setKind : MethodName := ⟨RX2, "setKind", "(II)V"⟩
abbrev cX2_setLean : ByteArray := prog_4_method_9_code
def yX2_setLean : MethodName := ⟨RX2, "setLean", "(II)V"⟩
abbrev cX2_setPainted : ByteArray := prog_4_method_10_code
def yX2_setPainted : MethodName := ⟨RX2, "setPainted", "(I)V"⟩
abbrev cX2_setStands : ByteArray := prog_4_method_11_code
def yX2_setStands : MethodName := ⟨RX2, "setStands", "(II)V"⟩
abbrev cX2_exchange : ByteArray := prog_4_method_12_code
def yX2_exchange : MethodName := ⟨RX2, "exchange", "(II)V"⟩
abbrev cX2_setAllStand : ByteArray := prog_4_method_13_code
def yX2_setAllStand : MethodName := ⟨RX2, "setAllStand", "(I)V"⟩
abbrev cX2_addMan : ByteArray := prog_4_method_14_code
def yX2_addMan : MethodName := ⟨RX2, "addMan", "(II)Z"⟩
abbrev cX2_addDeed : ByteArray := prog_4_method_15_code
def yX2_addDeed : MethodName := ⟨RX2, "addDeed", "(II)Z"⟩
abbrev cX2_reckonBends : ByteArray := prog_4_method_16_code
def yX2_reckonBends : MethodName := ⟨RX2, "reckonBends", "()V"⟩
abbrev cX2_slip : ByteArray := prog_4_method_17_code
def yX2_slip : MethodName := ⟨RX2, "slip", "(III)I"⟩
abbrev cX2_readsIn : ByteArray := prog_4_method_18_code
def yX2_readsIn : MethodName := ⟨RX2, "readsIn", "(I)Z"⟩
abbrev cX2_reading : ByteArray := prog_4_method_19_code
def yX2_reading : MethodName := ⟨RX2, "reading", "(I)I"⟩
abbrev cX2_firstIn : ByteArray := prog_4_method_20_code
def yX2_firstIn : MethodName := ⟨RX2, "firstIn", "(II)I"⟩
abbrev cX2_doneAt : ByteArray := prog_4_method_21_code
def yX2_doneAt : MethodName := ⟨RX2, "doneAt", "(I)I"⟩
abbrev cX2_harmAt : ByteArray := prog_4_method_22_code
def yX2_harmAt : MethodName := ⟨RX2, "harmAt", "(II)I"⟩
abbrev cX2_harm : ByteArray := prog_4_method_23_code
def yX2_harm : MethodName := ⟨RX2, "harm", "()I"⟩
abbrev cX2_hoursStood : ByteArray := prog_4_method_24_code
def yX2_hoursStood : MethodName := ⟨RX2, "hoursStood", "()I"⟩
abbrev cX2_hoursOf : ByteArray := prog_4_method_25_code
def yX2_hoursOf : MethodName := ⟨RX2, "hoursOf", "(I)I"⟩
abbrev cX2_longestStood : ByteArray := prog_4_method_26_code
def yX2_longestStood : MethodName := ⟨RX2, "longestStood", "(I)I"⟩
abbrev cX2_allWhoStandAreThere : ByteArray := prog_4_method_27_code
def yX2_allWhoStandAreThere : MethodName := ⟨RX2, "allWhoStandAreThere", "()Z"⟩
abbrev cX2_allWorth : ByteArray := prog_4_method_28_code
def yX2_allWorth : MethodName := ⟨RX2, "allWorth", "()I"⟩
abbrev cX2_quartersRead : ByteArray := prog_4_method_29_code
def yX2_quartersRead : MethodName := ⟨RX2, "quartersRead", "()I"⟩
def RX3 : String := "SunPointer"
def TX3 : u_T := fun k => match k with
  | 0 => ("SunPointer", "now", "LSunPointer$Town;", true)
  | 1 => ("SunPointer", "trial", "LSunPointer$Town;", true)
  | 2 => ("SunPointer", "images", "[LSunPointer$Town;", true)
  | 3 => ("SunPointer", "kept", "[Z", true)
  | 4 => ("SunPointer", "tape", "LSunPointer$Tape;", true)
  | 5 => ("SunPointer", "sheets", "[LSunPointer$Sheet;", true)
  | 6 => ("SunPointer", "seenDeeds", "[I", true)
  | 7 => ("SunPointer", "seenQuarters", "[I", true)
  | 8 => ("SunPointer", "doneByLean", "[I", true)
  | 9 => ("SunPointer", "seenCount", "I", false)
  | _ => ("SunPointer", "latestTorn", "I", false)
def tyX3 : Nat → FieldType := fun k => match k with
  | 0 => .object "SunPointer$Town"
  | 1 => .object "SunPointer$Town"
  | 2 => .array (.object "SunPointer$Town")
  | 3 => .array .boolean
  | 4 => .object "SunPointer$Tape"
  | 5 => .array (.object "SunPointer$Sheet")
  | 6 => .array .int
  | 7 => .array .int
  | 8 => .array .int
  | 9 => .int
  | _ => .int
theorem nmX3 : ∀ a, a < 11 → ∀ b, b < 11 → a ≠ b → (TX3 a).2.1 ≠ (TX3 b).2.1 := by decide +kernel
theorem tyX3_ok : ∀ k, k < 11 → parseFieldDescriptor (TX3 k).2.2.1 = some (tyX3 k) := by decide +kernel
abbrev cX3_init : ByteArray := prog_1_method_1_code
def yX3_init : MethodName := ⟨RX3, "<init>", "()V"⟩
abbrev cX3_feed : ByteArray := prog_1_method_2_code
def yX3_feed : MethodName := ⟨RX3, "feed", "(I)I"⟩
abbrev cX3_end : ByteArray := prog_1_method_3_code
def yX3_end : MethodName := ⟨RX3, "end", "(I)I"⟩
abbrev cX3_text : ByteArray := prog_1_method_4_code
def yX3_text : MethodName := ⟨RX3, "text", "()I"⟩
abbrev cX3_fault : ByteArray := prog_1_method_5_code
def yX3_fault : MethodName := ⟨RX3, "fault", "()I"⟩
abbrev cX3_rule : ByteArray := prog_1_method_6_code
def yX3_rule : MethodName := ⟨RX3, "rule", "(I)I"⟩
abbrev cX3_man : ByteArray := prog_1_method_7_code
def yX3_man : MethodName := ⟨RX3, "man", "(II)I"⟩
abbrev cX3_rota : ByteArray := prog_1_method_8_code
def yX3_rota : MethodName := ⟨RX3, "rota", "(I)I"⟩
abbrev cX3_deed : ByteArray := prog_1_method_9_code
def yX3_deed : MethodName := ⟨RX3, "deed", "(II)I"⟩
abbrev cX3_alter : ByteArray := prog_1_method_10_code
def yX3_alter : MethodName := ⟨RX3, "alter", "(III)I"⟩
abbrev cX3_move : ByteArray := prog_1_method_11_code
def yX3_move : MethodName := ⟨RX3, "move", "(III)I"⟩
abbrev cX3_shift : ByteArray := prog_1_method_12_code
def yX3_shift : MethodName := ⟨RX3, "shift", "(II)I"⟩
abbrev cX3_cloud : ByteArray := prog_1_method_13_code
def yX3_cloud : MethodName := ⟨RX3, "cloud", "(IZ)I"⟩
abbrev cX3_paint : ByteArray := prog_1_method_14_code
def yX3_paint : MethodName := ⟨RX3, "paint", "(I)I"⟩
abbrev cX3_want : ByteArray := prog_1_method_15_code
def yX3_want : MethodName := ⟨RX3, "want", "(II)I"⟩
abbrev cX3_drop : ByteArray := prog_1_method_16_code
def yX3_drop : MethodName := ⟨RX3, "drop", "(I)I"⟩
abbrev cX3_shows : ByteArray := prog_1_method_17_code
def yX3_shows : MethodName := ⟨RX3, "shows", "(I)I"⟩
abbrev cX3_lost : ByteArray := prog_1_method_18_code
def yX3_lost : MethodName := ⟨RX3, "lost", "(I)I"⟩
abbrev cX3_worst : ByteArray := prog_1_method_19_code
def yX3_worst : MethodName := ⟨RX3, "worst", "(I)I"⟩
abbrev cX3_done : ByteArray := prog_1_method_20_code
def yX3_done : MethodName := ⟨RX3, "done", "(I)I"⟩
abbrev cX3_timelinessOf : ByteArray := prog_1_method_21_code
def yX3_timelinessOf : MethodName := ⟨RX3, "timelinessOf", "(I)I"⟩
abbrev cX3_lean : ByteArray := prog_1_method_22_code
def yX3_lean : MethodName := ⟨RX3, "lean", "(III)I"⟩
abbrev cX3_mark : ByteArray := prog_1_method_23_code
def yX3_mark : MethodName := ⟨RX3, "mark", "(I)I"⟩
abbrev cX3_give : ByteArray := prog_1_method_24_code
def yX3_give : MethodName := ⟨RX3, "give", "(I)I"⟩
abbrev cX3_swap : ByteArray := prog_1_method_25_code
def yX3_swap : MethodName := ⟨RX3, "swap", "(I)I"⟩
abbrev cX3_harmOfSwapped : ByteArray := prog_1_method_26_code
def yX3_harmOfSwapped : MethodName := ⟨RX3, "harmOfSwapped", "(II)I"⟩
abbrev cX3_sole : ByteArray := prog_1_method_27_code
def yX3_sole : MethodName := ⟨RX3, "sole", "(I)I"⟩
abbrev cX3_mean : ByteArray := prog_1_method_28_code
def yX3_mean : MethodName := ⟨RX3, "mean", "(II)J"⟩
abbrev cX3_luck : ByteArray := prog_1_method_29_code
def yX3_luck : MethodName := ⟨RX3, "luck", "(III)J"⟩
abbrev cX3_weighedHarm : ByteArray := prog_1_method_30_code
def yX3_weighedHarm : MethodName := ⟨RX3, "weighedHarm", "(II)J"⟩
abbrev cX3_oddsOfNever : ByteArray := prog_1_method_31_code
def yX3_oddsOfNever : MethodName := ⟨RX3, "oddsOfNever", "(II)J"⟩
abbrev cX3_partOfFraction : ByteArray := prog_1_method_32_code
def yX3_partOfFraction : MethodName := ⟨RX3, "partOfFraction", "(JI)J"⟩
abbrev cX3_see : ByteArray := prog_1_method_33_code
def yX3_see : MethodName := ⟨RX3, "see", "(II)I"⟩
abbrev cX3_forget : ByteArray := prog_1_method_34_code
def yX3_forget : MethodName := ⟨RX3, "forget", "(I)I"⟩
abbrev cX3_leans : ByteArray := prog_1_method_35_code
def yX3_leans : MethodName := ⟨RX3, "leans", "(I)I"⟩
abbrev cX3_kinds : ByteArray := prog_1_method_36_code
def yX3_kinds : MethodName := ⟨RX3, "kinds", "(I)I"⟩
abbrev cX3_ask : ByteArray := prog_1_method_37_code
def yX3_ask : MethodName := ⟨RX3, "ask", "(II)I"⟩
abbrev cX3_leansAsSeen : ByteArray := prog_1_method_38_code
def yX3_leansAsSeen : MethodName := ⟨RX3, "leansAsSeen", "(I)I"⟩
abbrev cX3_trialIsAsSeen : ByteArray := prog_1_method_39_code
def yX3_trialIsAsSeen : MethodName := ⟨RX3, "trialIsAsSeen", "()Z"⟩
abbrev cX3_mostLeft : ByteArray := prog_1_method_40_code
def yX3_mostLeft : MethodName := ⟨RX3, "mostLeft", "(III)I"⟩
abbrev cX3_drift : ByteArray := prog_1_method_41_code
def yX3_drift : MethodName := ⟨RX3, "drift", "(III)I"⟩
abbrev cX3_nextSeed : ByteArray := prog_1_method_42_code
def yX3_nextSeed : MethodName := ⟨RX3, "nextSeed", "(I)I"⟩
abbrev cX3_drawn : ByteArray := prog_1_method_43_code
def yX3_drawn : MethodName := ⟨RX3, "drawn", "(II)I"⟩
abbrev cX3_keep : ByteArray := prog_1_method_44_code
def yX3_keep : MethodName := ⟨RX3, "keep", "(I)I"⟩
abbrev cX3_back : ByteArray := prog_1_method_45_code
def yX3_back : MethodName := ⟨RX3, "back", "(I)I"⟩
abbrev cX3_sheet : ByteArray := prog_1_method_46_code
def yX3_sheet : MethodName := ⟨RX3, "sheet", "(III)I"⟩
abbrev cX3_lay : ByteArray := prog_1_method_47_code
def yX3_lay : MethodName := ⟨RX3, "lay", "(III)I"⟩
abbrev cX3_read : ByteArray := prog_1_method_48_code
def yX3_read : MethodName := ⟨RX3, "read", "(IIII)I"⟩
abbrev cX3_torn : ByteArray := prog_1_method_49_code
def yX3_torn : MethodName := ⟨RX3, "torn", "()I"⟩
abbrev cX3_count : ByteArray := prog_1_method_50_code
def yX3_count : MethodName := ⟨RX3, "count", "(I)I"⟩
abbrev cX3_imagesKept : ByteArray := prog_1_method_51_code
def yX3_imagesKept : MethodName := ⟨RX3, "imagesKept", "()I"⟩
abbrev cX3_mayStand : ByteArray := prog_1_method_52_code
def yX3_mayStand : MethodName := ⟨RX3, "mayStand", "(II)Z"⟩
abbrev cX3_isFirstOrSecond : ByteArray := prog_1_method_53_code
def yX3_isFirstOrSecond : MethodName := ⟨RX3, "isFirstOrSecond", "(I)Z"⟩
abbrev cX3_isHour : ByteArray := prog_1_method_54_code
def yX3_isHour : MethodName := ⟨RX3, "isHour", "(I)Z"⟩
abbrev cX3_isQuarter : ByteArray := prog_1_method_55_code
def yX3_isQuarter : MethodName := ⟨RX3, "isQuarter", "(I)Z"⟩
abbrev cX3_isWorth : ByteArray := prog_1_method_56_code
def yX3_isWorth : MethodName := ⟨RX3, "isWorth", "(I)Z"⟩
abbrev cX3_isSheet : ByteArray := prog_1_method_57_code
def yX3_isSheet : MethodName := ⟨RX3, "isSheet", "(I)Z"⟩
abbrev cX3_isLane : ByteArray := prog_1_method_58_code
def yX3_isLane : MethodName := ⟨RX3, "isLane", "(I)Z"⟩
def RX4 : String := "SunPointerModel"
def TX4 : u_T := fun k => match k with
  | 0 => ("SunPointerModel", "state", "[I", true)
  | 1 => ("SunPointerModel", "manMany", "I", false)
  | 2 => ("SunPointerModel", "readPage", "[I", true)
  | 3 => ("SunPointerModel", "readMen", "I", false)
  | 4 => ("SunPointerModel", "rotaMany", "I", false)
  | 5 => ("SunPointerModel", "toldOnce", "I", false)
  | 6 => ("SunPointerModel", "high", "I", false)
  | 7 => ("SunPointerModel", "tape", "[I", true)
  | 8 => ("SunPointerModel", "taped", "I", false)
  | 9 => ("SunPointerModel", "fault", "I", false)
  | 10 => ("SunPointerModel", "broken", "I", false)
  | 11 => ("SunPointerModel", "brokenAt", "I", false)
  | 12 => ("SunPointerModel", "spot", "I", false)
  | 13 => ("SunPointerModel", "here", "I", false)
  | 14 => ("SunPointerModel", "token", "I", false)
  | 15 => ("SunPointerModel", "value", "I", false)
  | 16 => ("SunPointerModel", "cuts", "[I", true)
  | 17 => ("SunPointerModel", "letters", "[I", true)
  | 18 => ("SunPointerModel", "reads", "[I", true)
  | 19 => ("SunPointerModel", "least", "I", false)
  | 20 => ("SunPointerModel", "seen", "[I", true)
  | 21 => ("SunPointerModel", "seenMany", "I", false)
  | 22 => ("SunPointerModel", "whenBy", "[I", true)
  | 23 => ("SunPointerModel", "drawn", "I", false)
  | 24 => ("SunPointerModel", "isKept", "[Z", true)
  | 25 => ("SunPointerModel", "lanes", "[I", true)
  | 26 => ("SunPointerModel", "lengths", "[I", true)
  | 27 => ("SunPointerModel", "cells", "[I", true)
  | _ => ("SunPointerModel", "torn", "I", false)
def tyX4 : Nat → FieldType := fun k => match k with
  | 0 => .array .int
  | 1 => .int
  | 2 => .array .int
  | 3 => .int
  | 4 => .int
  | 5 => .int
  | 6 => .int
  | 7 => .array .int
  | 8 => .int
  | 9 => .int
  | 10 => .int
  | 11 => .int
  | 12 => .int
  | 13 => .int
  | 14 => .int
  | 15 => .int
  | 16 => .array .int
  | 17 => .array .int
  | 18 => .array .int
  | 19 => .int
  | 20 => .array .int
  | 21 => .int
  | 22 => .array .int
  | 23 => .int
  | 24 => .array .boolean
  | 25 => .array .int
  | 26 => .array .int
  | 27 => .array .int
  | _ => .int
theorem nmX4 : ∀ a, a < 29 → ∀ b, b < 29 → a ≠ b → (TX4 a).2.1 ≠ (TX4 b).2.1 := by decide +kernel
theorem tyX4_ok : ∀ k, k < 29 → parseFieldDescriptor (TX4 k).2.2.1 = some (tyX4 k) := by decide +kernel
abbrev cX4_init : ByteArray := prog_6_method_1_code
def yX4_init : MethodName := ⟨RX4, "<init>", "()V"⟩
abbrev cX4_in : ByteArray := prog_6_method_3_code
def yX4_in : MethodName := ⟨RX4, "in", "(JJJ)Z"⟩
abbrev cX4_feed : ByteArray := prog_6_method_4_code
def yX4_feed : MethodName := ⟨RX4, "feed", "(I)I"⟩
abbrev cX4_end : ByteArray := prog_6_method_5_code
def yX4_end : MethodName := ⟨RX4, "end", "(I)I"⟩
abbrev cX4_byteAt : ByteArray := prog_6_method_6_code
def yX4_byteAt : MethodName := ⟨RX4, "byteAt", "(I)I"⟩
abbrev cX4_fails : ByteArray := prog_6_method_7_code
def yX4_fails : MethodName := ⟨RX4, "fails", "(I)V"⟩
abbrev cX4_nameHere : ByteArray := prog_6_method_8_code
def yX4_nameHere : MethodName := ⟨RX4, "nameHere", "()I"⟩
abbrev cX4_step : ByteArray := prog_6_method_9_code
def yX4_step : MethodName := ⟨RX4, "step", "()V"⟩
abbrev cX4_other : ByteArray := prog_6_method_10_code
def yX4_other : MethodName := ⟨RX4, "other", "(III)I"⟩
abbrev cX4_readRota : ByteArray := prog_6_method_11_code
def yX4_readRota : MethodName := ⟨RX4, "readRota", "()V"⟩
abbrev cX4_readMore : ByteArray := prog_6_method_12_code
def yX4_readMore : MethodName := ⟨RX4, "readMore", "(I)V"⟩
abbrev cX4_readLine : ByteArray := prog_6_method_13_code
def yX4_readLine : MethodName := ⟨RX4, "readLine", "()V"⟩
abbrev cX4_text : ByteArray := prog_6_method_14_code
def yX4_text : MethodName := ⟨RX4, "text", "()I"⟩
abbrev cX4_fault : ByteArray := prog_6_method_15_code
def yX4_fault : MethodName := ⟨RX4, "fault", "()I"⟩
abbrev cX4_isMan : ByteArray := prog_6_method_16_code
def yX4_isMan : MethodName := ⟨RX4, "isMan", "(I)Z"⟩
abbrev cX4_isHour : ByteArray := prog_6_method_17_code
def yX4_isHour : MethodName := ⟨RX4, "isHour", "(I)Z"⟩
abbrev cX4_isDeed : ByteArray := prog_6_method_18_code
def yX4_isDeed : MethodName := ⟨RX4, "isDeed", "(I)Z"⟩
abbrev cX4_standsIn : ByteArray := prog_6_method_19_code
def yX4_standsIn : MethodName := ⟨RX4, "standsIn", "(I)I"⟩
abbrev cX4_stoodIn : ByteArray := prog_6_method_20_code
def yX4_stoodIn : MethodName := ⟨RX4, "stoodIn", "(I)I"⟩
abbrev cX4_slipIn : ByteArray := prog_6_method_21_code
def yX4_slipIn : MethodName := ⟨RX4, "slipIn", "(II)I"⟩
abbrev cX4_laysReads : ByteArray := prog_6_method_22_code
def yX4_laysReads : MethodName := ⟨RX4, "laysReads", "()V"⟩
abbrev cX4_doneIn : ByteArray := prog_6_method_23_code
def yX4_doneIn : MethodName := ⟨RX4, "doneIn", "(I)I"⟩
abbrev cX4_harmOf : ByteArray := prog_6_method_24_code
def yX4_harmOf : MethodName := ⟨RX4, "harmOf", "(I)I"⟩
abbrev cX4_harm : ByteArray := prog_6_method_25_code
def yX4_harm : MethodName := ⟨RX4, "harm", "()I"⟩
abbrev cX4_hoursOf : ByteArray := prog_6_method_26_code
def yX4_hoursOf : MethodName := ⟨RX4, "hoursOf", "(I)I"⟩
abbrev cX4_rule : ByteArray := prog_6_method_27_code
def yX4_rule : MethodName := ⟨RX4, "rule", "(I)I"⟩
abbrev cX4_man : ByteArray := prog_6_method_28_code
def yX4_man : MethodName := ⟨RX4, "man", "(II)I"⟩
abbrev cX4_orNone : ByteArray := prog_6_method_29_code
def yX4_orNone : MethodName := ⟨RX4, "orNone", "(I)I"⟩
abbrev cX4_rota : ByteArray := prog_6_method_30_code
def yX4_rota : MethodName := ⟨RX4, "rota", "(I)I"⟩
abbrev cX4_deed : ByteArray := prog_6_method_31_code
def yX4_deed : MethodName := ⟨RX4, "deed", "(II)I"⟩
abbrev cX4_puts : ByteArray := prog_6_method_32_code
def yX4_puts : MethodName := ⟨RX4, "puts", "(ZIII)I"⟩
abbrev cX4_alter : ByteArray := prog_6_method_33_code
def yX4_alter : MethodName := ⟨RX4, "alter", "(III)I"⟩
abbrev cX4_move : ByteArray := prog_6_method_34_code
def yX4_move : MethodName := ⟨RX4, "move", "(III)I"⟩
abbrev cX4_shifts : ByteArray := prog_6_method_35_code
def yX4_shifts : MethodName := ⟨RX4, "shifts", "(II)I"⟩
abbrev cX4_shift : ByteArray := prog_6_method_36_code
def yX4_shift : MethodName := ⟨RX4, "shift", "(II)I"⟩
abbrev cX4_cloud : ByteArray := prog_6_method_37_code
def yX4_cloud : MethodName := ⟨RX4, "cloud", "(IZ)I"⟩
abbrev cX4_paint : ByteArray := prog_6_method_38_code
def yX4_paint : MethodName := ⟨RX4, "paint", "(I)I"⟩
abbrev cX4_want : ByteArray := prog_6_method_39_code
def yX4_want : MethodName := ⟨RX4, "want", "(II)I"⟩
abbrev cX4_drop : ByteArray := prog_6_method_40_code
def yX4_drop : MethodName := ⟨RX4, "drop", "(I)I"⟩
abbrev cX4_shows : ByteArray := prog_6_method_41_code
def yX4_shows : MethodName := ⟨RX4, "shows", "(I)I"⟩
abbrev cX4_lost : ByteArray := prog_6_method_42_code
def yX4_lost : MethodName := ⟨RX4, "lost", "(I)I"⟩
abbrev cX4_worst : ByteArray := prog_6_method_43_code
def yX4_worst : MethodName := ⟨RX4, "worst", "(I)I"⟩
abbrev cX4_done : ByteArray := prog_6_method_44_code
def yX4_done : MethodName := ⟨RX4, "done", "(I)I"⟩
abbrev cX4_lean : ByteArray := prog_6_method_45_code
def yX4_lean : MethodName := ⟨RX4, "lean", "(III)I"⟩
abbrev cX4_isLess : ByteArray := prog_6_method_46_code
def yX4_isLess : MethodName := ⟨RX4, "isLess", "(I)Z"⟩
abbrev cX4_mark : ByteArray := prog_6_method_47_code
def yX4_mark : MethodName := ⟨RX4, "mark", "(I)I"⟩
abbrev cX4_give : ByteArray := prog_6_method_48_code
def yX4_give : MethodName := ⟨RX4, "give", "(I)I"⟩
abbrev cX4_swap : ByteArray := prog_6_method_49_code
def yX4_swap : MethodName := ⟨RX4, "swap", "(I)I"⟩
abbrev cX4_copies : ByteArray := prog_6_method_50_code
def yX4_copies : MethodName := ⟨RX4, "copies", "(II)V"⟩
abbrev cX4_sole : ByteArray := prog_6_method_51_code
def yX4_sole : MethodName := ⟨RX4, "sole", "(I)I"⟩
abbrev cX4_lowest : ByteArray := prog_6_method_52_code
def yX4_lowest : MethodName := ⟨RX4, "lowest", "(JJI)J"⟩
abbrev cX4_byClouds : ByteArray := prog_6_method_53_code
def yX4_byClouds : MethodName := ⟨RX4, "byClouds", "(III)J"⟩
abbrev cX4_mean : ByteArray := prog_6_method_54_code
def yX4_mean : MethodName := ⟨RX4, "mean", "(II)J"⟩
abbrev cX4_luck : ByteArray := prog_6_method_55_code
def yX4_luck : MethodName := ⟨RX4, "luck", "(III)J"⟩
abbrev cX4_see : ByteArray := prog_6_method_56_code
def yX4_see : MethodName := ⟨RX4, "see", "(II)I"⟩
abbrev cX4_forget : ByteArray := prog_6_method_57_code
def yX4_forget : MethodName := ⟨RX4, "forget", "(I)I"⟩
abbrev cX4_isAsSeen : ByteArray := prog_6_method_58_code
def yX4_isAsSeen : MethodName := ⟨RX4, "isAsSeen", "()Z"⟩
abbrev cX4_leansOf : ByteArray := prog_6_method_59_code
def yX4_leansOf : MethodName := ⟨RX4, "leansOf", "(I)I"⟩
abbrev cX4_leans : ByteArray := prog_6_method_60_code
def yX4_leans : MethodName := ⟨RX4, "leans", "(I)I"⟩
abbrev cX4_kinds : ByteArray := prog_6_method_61_code
def yX4_kinds : MethodName := ⟨RX4, "kinds", "(I)I"⟩
abbrev cX4_bitsOf : ByteArray := prog_6_method_62_code
def yX4_bitsOf : MethodName := ⟨RX4, "bitsOf", "(I)I"⟩
abbrev cX4_ask : ByteArray := prog_6_method_63_code
def yX4_ask : MethodName := ⟨RX4, "ask", "(II)I"⟩
abbrev cX4_draws : ByteArray := prog_6_method_64_code
def yX4_draws : MethodName := ⟨RX4, "draws", "(I)I"⟩
abbrev cX4_drift : ByteArray := prog_6_method_65_code
def yX4_drift : MethodName := ⟨RX4, "drift", "(III)I"⟩
abbrev cX4_keep : ByteArray := prog_6_method_66_code
def yX4_keep : MethodName := ⟨RX4, "keep", "(I)I"⟩
abbrev cX4_back : ByteArray := prog_6_method_67_code
def yX4_back : MethodName := ⟨RX4, "back", "(I)I"⟩
abbrev cX4_sheet : ByteArray := prog_6_method_68_code
def yX4_sheet : MethodName := ⟨RX4, "sheet", "(III)I"⟩
abbrev cX4_lay : ByteArray := prog_6_method_69_code
def yX4_lay : MethodName := ⟨RX4, "lay", "(III)I"⟩
abbrev cX4_read : ByteArray := prog_6_method_70_code
def yX4_read : MethodName := ⟨RX4, "read", "(IIII)I"⟩
abbrev cX4_torn : ByteArray := prog_6_method_71_code
def yX4_torn : MethodName := ⟨RX4, "torn", "()I"⟩
abbrev cX4_count : ByteArray := prog_6_method_72_code
def yX4_count : MethodName := ⟨RX4, "count", "(I)I"⟩
def RJ6 : String := "java/lang/Integer"
def TJ6 : u_T := fun k => match k with
  | _ => ("", "", "", false)
def tyJ6 : Nat → FieldType := fun k => match k with
  | _ => .int
theorem nmJ6 : ∀ a, a < 0 → ∀ b, b < 0 → a ≠ b → (TJ6 a).2.1 ≠ (TJ6 b).2.1 := by decide +kernel
theorem tyJ6_ok : ∀ k, k < 0 → parseFieldDescriptor (TJ6 k).2.2.1 = some (tyJ6 k) := by decide +kernel
abbrev cJ6_bitCount_0f7a4 : ByteArray := prog_7_method_49_code
def yJ6_bitCount_0f7a4 : MethodName := ⟨RJ6, "bitCount", "(I)I"⟩
def RJ9 : String := "java/lang/Math"
def TJ9 : u_T := fun k => match k with
  | _ => ("", "", "", false)
def tyJ9 : Nat → FieldType := fun k => match k with
  | _ => .int
theorem nmJ9 : ∀ a, a < 0 → ∀ b, b < 0 → a ≠ b → (TJ9 a).2.1 ≠ (TJ9 b).2.1 := by decide +kernel
theorem tyJ9_ok : ∀ k, k < 0 → parseFieldDescriptor (TJ9 k).2.2.1 = some (tyJ9 k) := by decide +kernel
abbrev cJ9_abs_0f7a4 : ByteArray := prog_8_method_59_code
def yJ9_abs_0f7a4 : MethodName := ⟨RJ9, "abs", "(I)I"⟩
abbrev cJ9_max_7cf53 : ByteArray := prog_8_method_65_code
def yJ9_max_7cf53 : MethodName := ⟨RJ9, "max", "(II)I"⟩
abbrev cJ9_min_7cf53 : ByteArray := prog_8_method_69_code
def yJ9_min_7cf53 : MethodName := ⟨RJ9, "min", "(II)I"⟩
def RJ0 : String := "java/lang/String"
def TJ0 : u_T := fun k => match k with
  | _ => ("", "", "", false)
def tyJ0 : Nat → FieldType := fun k => match k with
  | _ => .int
theorem nmJ0 : ∀ a, a < 0 → ∀ b, b < 0 → a ≠ b → (TJ0 a).2.1 ≠ (TJ0 b).2.1 := by decide +kernel
theorem tyJ0_ok : ∀ k, k < 0 → parseFieldDescriptor (TJ0 k).2.2.1 = some (tyJ0 k) := by decide +kernel
abbrev cJ0_length_8abf5 : ByteArray := prog_9_method_54_code
def yJ0_length_8abf5 : MethodName := ⟨RJ0, "length", "()I"⟩
abbrev cJ0_charAt_5068e : ByteArray := prog_9_method_56_code
def yJ0_charAt_5068e : MethodName := ⟨RJ0, "charAt", "(I)C"⟩
abbrev cJ0_coder_7d493 : ByteArray := prog_9_method_152_code
def yJ0_coder_7d493 : MethodName := ⟨RJ0, "coder", "()B"⟩
abbrev cJ0_isLatin1_aae02 : ByteArray := prog_9_method_154_code
def yJ0_isLatin1_aae02 : MethodName := ⟨RJ0, "isLatin1", "()Z"⟩
abbrev cJ0_checkIndex_df160 : ByteArray := prog_9_method_155_code
def yJ0_checkIndex_df160 : MethodName := ⟨RJ0, "checkIndex", "(II)V"⟩
def RJ1 : String := "java/lang/StringLatin1"
def TJ1 : u_T := fun k => match k with
  | _ => ("", "", "", false)
def tyJ1 : Nat → FieldType := fun k => match k with
  | _ => .int
theorem nmJ1 : ∀ a, a < 0 → ∀ b, b < 0 → a ≠ b → (TJ1 a).2.1 ≠ (TJ1 b).2.1 := by decide +kernel
theorem tyJ1_ok : ∀ k, k < 0 → parseFieldDescriptor (TJ1 k).2.2.1 = some (tyJ1 k) := by decide +kernel
abbrev cJ1_charAt_3b067 : ByteArray := prog_10_method_2_code
def yJ1_charAt_3b067 : MethodName := ⟨RJ1, "charAt", "([BI)C"⟩
def RJ2 : String := "java/lang/StringUTF16"
def TJ2 : u_T := fun k => match k with
  | _ => ("", "", "", false)
def tyJ2 : Nat → FieldType := fun k => match k with
  | _ => .int
theorem nmJ2 : ∀ a, a < 0 → ∀ b, b < 0 → a ≠ b → (TJ2 a).2.1 ≠ (TJ2 b).2.1 := by decide +kernel
theorem tyJ2_ok : ∀ k, k < 0 → parseFieldDescriptor (TJ2 k).2.2.1 = some (tyJ2 k) := by decide +kernel
abbrev cJ2_getChar_3b067 : ByteArray := prog_11_method_5_code
def yJ2_getChar_3b067 : MethodName := ⟨RJ2, "getChar", "([BI)C"⟩
abbrev cJ2_length_9d52b : ByteArray := prog_11_method_6_code
def yJ2_length_9d52b : MethodName := ⟨RJ2, "length", "([B)I"⟩
abbrev cJ2_charAt_3b067 : ByteArray := prog_11_method_83_code
def yJ2_charAt_3b067 : MethodName := ⟨RJ2, "charAt", "([BI)C"⟩
abbrev cJ2_checkIndex_2214a : ByteArray := prog_11_method_91_code
def yJ2_checkIndex_2214a : MethodName := ⟨RJ2, "checkIndex", "(I[B)V"⟩
def RJ10 : String := "java/lang/System"
def TJ10 : u_T := fun k => match k with
  | _ => ("", "", "", false)
def tyJ10 : Nat → FieldType := fun k => match k with
  | _ => .int
theorem nmJ10 : ∀ a, a < 0 → ∀ b, b < 0 → a ≠ b → (TJ10 a).2.1 ≠ (TJ10 b).2.1 := by decide +kernel
theorem tyJ10_ok : ∀ k, k < 0 → parseFieldDescriptor (TJ10 k).2.2.1 = some (tyJ10 k) := by decide +kernel
def RJ3 : String := "jdk/internal/util/Preconditions"
def TJ3 : u_T := fun k => match k with
  | _ => ("", "", "", false)
def tyJ3 : Nat → FieldType := fun k => match k with
  | _ => .int
theorem nmJ3 : ∀ a, a < 0 → ∀ b, b < 0 → a ≠ b → (TJ3 a).2.1 ≠ (TJ3 b).2.1 := by decide +kernel
theorem tyJ3_ok : ∀ k, k < 0 → parseFieldDescriptor (TJ3 k).2.2.1 = some (tyJ3 k) := by decide +kernel
abbrev cJ3_checkIndex_8e157 : ByteArray := prog_13_method_11_code
def yJ3_checkIndex_8e157 : MethodName := ⟨RJ3, "checkIndex", "(IILjava/util/function/BiFunction;)I"⟩
def RL : String := "SunPointerLaw"
abbrev cL_law : ByteArray := code
def yL_law : MethodName := ⟨RL, "law", "([I)Z"⟩
abbrev vwCl : List vw_C := [(RX0, TX0, 3), (RX1, TX1, 10), (RX2, TX2, 10), (RX3, TX3, 11), (RX4, TX4, 29)]
end
section
theorem dX0_init_0 : decode cX0_init 0 = .ok (.aload_n 0, 1) := by decide +kernel
theorem dX0_init_1 : decode cX0_init 1 = .ok (.invokespecial 3, 3) := by decide +kernel
theorem dX0_init_4 : decode cX0_init 4 = .ok (.aload_n 0, 1) := by decide +kernel
theorem dX0_init_5 : decode cX0_init 5 = .ok (.bipush 40, 2) := by decide +kernel
theorem dX0_init_7 : decode cX0_init 7 = .ok (.newarray .int, 2) := by decide +kernel
theorem dX0_init_9 : decode cX0_init 9 = .ok (.putfield 9, 3) := by decide +kernel
theorem dX0_init_12 : decode cX0_init 12 = .ok (.aload_n 0, 1) := by decide +kernel
theorem dX0_init_13 : decode cX0_init 13 = .ok (.iconst (-1), 1) := by decide +kernel
theorem dX0_init_14 : decode cX0_init 14 = .ok (.putfield 15, 3) := by decide +kernel
theorem dX0_init_17 : decode cX0_init 17 = .ok (.return_, 1) := by decide +kernel
theorem dX0_renew_0 : decode cX0_renew 0 = .ok (.aload_n 0, 1) := by decide +kernel
theorem dX0_renew_1 : decode cX0_renew 1 = .ok (.iload_n 1, 1) := by decide +kernel
theorem dX0_renew_2 : decode cX0_renew 2 = .ok (.putfield 15, 3) := by decide +kernel
theorem dX0_renew_5 : decode cX0_renew 5 = .ok (.aload_n 0, 1) := by decide +kernel
theorem dX0_renew_6 : decode cX0_renew 6 = .ok (.iload_n 2, 1) := by decide +kernel
theorem dX0_renew_7 : decode cX0_renew 7 = .ok (.putfield 19, 3) := by decide +kernel
theorem dX0_renew_10 : decode cX0_renew 10 = .ok (.iconst 0, 1) := by decide +kernel
theorem dX0_renew_11 : decode cX0_renew 11 = .ok (.istore_n 3, 1) := by decide +kernel
theorem dX0_renew_12 : decode cX0_renew 12 = .ok (.iload_n 3, 1) := by decide +kernel
theorem dX0_renew_13 : decode cX0_renew 13 = .ok (.bipush 40, 2) := by decide +kernel
theorem dX0_renew_15 : decode cX0_renew 15 = .ok (.if_icmp .ge 16, 3) := by decide +kernel
theorem dX0_renew_18 : decode cX0_renew 18 = .ok (.aload_n 0, 1) := by decide +kernel
theorem dX0_renew_19 : decode cX0_renew 19 = .ok (.getfield 9, 3) := by decide +kernel
theorem dX0_renew_22 : decode cX0_renew 22 = .ok (.iload_n 3, 1) := by decide +kernel
theorem dX0_renew_23 : decode cX0_renew 23 = .ok (.iconst 0, 1) := by decide +kernel
theorem dX0_renew_24 : decode cX0_renew 24 = .ok (.iastore, 1) := by decide +kernel
theorem dX0_renew_25 : decode cX0_renew 25 = .ok (.iinc 3 1, 3) := by decide +kernel
theorem dX0_renew_28 : decode cX0_renew 28 = .ok (.goto (-16), 3) := by decide +kernel
theorem dX0_renew_31 : decode cX0_renew 31 = .ok (.return_, 1) := by decide +kernel
theorem dX0_refusal_0 : decode cX0_refusal 0 = .ok (.aload_n 0, 1) := by decide +kernel
theorem dX0_refusal_1 : decode cX0_refusal 1 = .ok (.getfield 15, 3) := by decide +kernel
theorem dX0_refusal_4 : decode cX0_refusal 4 = .ok (.iconst (-1), 1) := by decide +kernel
theorem dX0_refusal_5 : decode cX0_refusal 5 = .ok (.if_icmp .ne 5, 3) := by decide +kernel
theorem dX0_refusal_8 : decode cX0_refusal 8 = .ok (.iconst 1, 1) := by decide +kernel
theorem dX0_refusal_9 : decode cX0_refusal 9 = .ok (.ireturn, 1) := by decide +kernel
theorem dX0_refusal_10 : decode cX0_refusal 10 = .ok (.aload_n 0, 1) := by decide +kernel
theorem dX0_refusal_11 : decode cX0_refusal 11 = .ok (.getfield 15, 3) := by decide +kernel
theorem dX0_refusal_14 : decode cX0_refusal 14 = .ok (.iload_n 1, 1) := by decide +kernel
theorem dX0_refusal_15 : decode cX0_refusal 15 = .ok (.if_icmp .eq 5, 3) := by decide +kernel
theorem dX0_refusal_18 : decode cX0_refusal 18 = .ok (.iconst 3, 1) := by decide +kernel
theorem dX0_refusal_19 : decode cX0_refusal 19 = .ok (.ireturn, 1) := by decide +kernel
theorem dX0_refusal_20 : decode cX0_refusal 20 = .ok (.iload_n 2, 1) := by decide +kernel
theorem dX0_refusal_21 : decode cX0_refusal 21 = .ok (.ifCond .lt 11, 3) := by decide +kernel
theorem dX0_refusal_24 : decode cX0_refusal 24 = .ok (.iload_n 2, 1) := by decide +kernel
theorem dX0_refusal_25 : decode cX0_refusal 25 = .ok (.aload_n 0, 1) := by decide +kernel
theorem dX0_refusal_26 : decode cX0_refusal 26 = .ok (.getfield 19, 3) := by decide +kernel
theorem dX0_refusal_29 : decode cX0_refusal 29 = .ok (.if_icmp .lt 7, 3) := by decide +kernel
theorem dX0_refusal_32 : decode cX0_refusal 32 = .ok (.iconst 2, 1) := by decide +kernel
theorem dX0_refusal_33 : decode cX0_refusal 33 = .ok (.goto 4, 3) := by decide +kernel
theorem dX0_refusal_36 : decode cX0_refusal 36 = .ok (.iconst 0, 1) := by decide +kernel
theorem dX0_refusal_37 : decode cX0_refusal 37 = .ok (.ireturn, 1) := by decide +kernel
theorem dX0_refusalOfPair_0 : decode cX0_refusalOfPair 0 = .ok (.aload_n 0, 1) := by decide +kernel
theorem dX0_refusalOfPair_1 : decode cX0_refusalOfPair 1 = .ok (.iload_n 1, 1) := by decide +kernel
theorem dX0_refusalOfPair_2 : decode cX0_refusalOfPair 2 = .ok (.iload_n 2, 1) := by decide +kernel
theorem dX0_refusalOfPair_3 : decode cX0_refusalOfPair 3 = .ok (.invokevirtual 22, 3) := by decide +kernel
theorem dX0_refusalOfPair_6 : decode cX0_refusalOfPair 6 = .ok (.istore_n 3, 1) := by decide +kernel
theorem dX0_refusalOfPair_7 : decode cX0_refusalOfPair 7 = .ok (.iload_n 3, 1) := by decide +kernel
theorem dX0_refusalOfPair_8 : decode cX0_refusalOfPair 8 = .ok (.ifCond .eq 7, 3) := by decide +kernel
theorem dX0_refusalOfPair_11 : decode cX0_refusalOfPair 11 = .ok (.iload_n 3, 1) := by decide +kernel
theorem dX0_refusalOfPair_12 : decode cX0_refusalOfPair 12 = .ok (.goto 11, 3) := by decide +kernel
theorem dX0_refusalOfPair_15 : decode cX0_refusalOfPair 15 = .ok (.aload_n 0, 1) := by decide +kernel
theorem dX0_refusalOfPair_16 : decode cX0_refusalOfPair 16 = .ok (.iload_n 1, 1) := by decide +kernel
theorem dX0_refusalOfPair_17 : decode cX0_refusalOfPair 17 = .ok (.iload_n 2, 1) := by decide +kernel
theorem dX0_refusalOfPair_18 : decode cX0_refusalOfPair 18 = .ok (.iconst 1, 1) := by decide +kernel
theorem dX0_refusalOfPair_19 : decode cX0_refusalOfPair 19 = .ok (.iadd, 1) := by decide +kernel
theorem dX0_refusalOfPair_20 : decode cX0_refusalOfPair 20 = .ok (.invokevirtual 22, 3) := by decide +kernel
theorem dX0_refusalOfPair_23 : decode cX0_refusalOfPair 23 = .ok (.ireturn, 1) := by decide +kernel
theorem dX0_put_0 : decode cX0_put 0 = .ok (.aload_n 0, 1) := by decide +kernel
theorem dX0_put_1 : decode cX0_put 1 = .ok (.getfield 15, 3) := by decide +kernel
theorem dX0_put_4 : decode cX0_put 4 = .ok (.ifCond .ne 14, 3) := by decide +kernel
theorem dX0_put_7 : decode cX0_put 7 = .ok (.aload_n 0, 1) := by decide +kernel
theorem dX0_put_8 : decode cX0_put 8 = .ok (.getfield 9, 3) := by decide +kernel
theorem dX0_put_11 : decode cX0_put 11 = .ok (.iload_n 1, 1) := by decide +kernel
theorem dX0_put_12 : decode cX0_put 12 = .ok (.iload_n 2, 1) := by decide +kernel
theorem dX0_put_13 : decode cX0_put 13 = .ok (.i2b, 1) := by decide +kernel
theorem dX0_put_14 : decode cX0_put 14 = .ok (.iastore, 1) := by decide +kernel
theorem dX0_put_15 : decode cX0_put 15 = .ok (.goto 29, 3) := by decide +kernel
theorem dX0_put_18 : decode cX0_put 18 = .ok (.aload_n 0, 1) := by decide +kernel
theorem dX0_put_19 : decode cX0_put 19 = .ok (.getfield 15, 3) := by decide +kernel
theorem dX0_put_22 : decode cX0_put 22 = .ok (.iconst 1, 1) := by decide +kernel
theorem dX0_put_23 : decode cX0_put 23 = .ok (.if_icmp .ne 14, 3) := by decide +kernel
theorem dX0_put_26 : decode cX0_put 26 = .ok (.aload_n 0, 1) := by decide +kernel
theorem dX0_put_27 : decode cX0_put 27 = .ok (.getfield 9, 3) := by decide +kernel
theorem dX0_put_30 : decode cX0_put 30 = .ok (.iload_n 1, 1) := by decide +kernel
theorem dX0_put_31 : decode cX0_put 31 = .ok (.iload_n 2, 1) := by decide +kernel
theorem dX0_put_32 : decode cX0_put 32 = .ok (.i2s, 1) := by decide +kernel
theorem dX0_put_33 : decode cX0_put 33 = .ok (.iastore, 1) := by decide +kernel
theorem dX0_put_34 : decode cX0_put 34 = .ok (.goto 10, 3) := by decide +kernel
theorem dX0_put_37 : decode cX0_put 37 = .ok (.aload_n 0, 1) := by decide +kernel
theorem dX0_put_38 : decode cX0_put 38 = .ok (.getfield 9, 3) := by decide +kernel
theorem dX0_put_41 : decode cX0_put 41 = .ok (.iload_n 1, 1) := by decide +kernel
theorem dX0_put_42 : decode cX0_put 42 = .ok (.iload_n 2, 1) := by decide +kernel
theorem dX0_put_43 : decode cX0_put 43 = .ok (.iastore, 1) := by decide +kernel
theorem dX0_put_44 : decode cX0_put 44 = .ok (.return_, 1) := by decide +kernel
theorem dX1_init_0 : decode cX1_init 0 = .ok (.aload_n 0, 1) := by decide +kernel
theorem dX1_init_1 : decode cX1_init 1 = .ok (.invokespecial 3, 3) := by decide +kernel
theorem dX1_init_4 : decode cX1_init 4 = .ok (.aload_n 0, 1) := by decide +kernel
theorem dX1_init_5 : decode cX1_init 5 = .ok (.sipush 160, 3) := by decide +kernel
theorem dX1_init_8 : decode cX1_init 8 = .ok (.newarray .byte, 2) := by decide +kernel
theorem dX1_init_10 : decode cX1_init 10 = .ok (.putfield 11, 3) := by decide +kernel
theorem dX1_init_13 : decode cX1_init 13 = .ok (.return_, 1) := by decide +kernel
theorem dX1_add_0 : decode cX1_add 0 = .ok (.aload_n 0, 1) := by decide +kernel
theorem dX1_add_1 : decode cX1_add 1 = .ok (.getfield 15, 3) := by decide +kernel
theorem dX1_add_4 : decode cX1_add 4 = .ok (.sipush 160, 3) := by decide +kernel
theorem dX1_add_7 : decode cX1_add 7 = .ok (.if_icmp .lt 5, 3) := by decide +kernel
theorem dX1_add_10 : decode cX1_add 10 = .ok (.iconst 0, 1) := by decide +kernel
theorem dX1_add_11 : decode cX1_add 11 = .ok (.ireturn, 1) := by decide +kernel
theorem dX1_add_12 : decode cX1_add 12 = .ok (.aload_n 0, 1) := by decide +kernel
theorem dX1_add_13 : decode cX1_add 13 = .ok (.getfield 11, 3) := by decide +kernel
theorem dX1_add_16 : decode cX1_add 16 = .ok (.aload_n 0, 1) := by decide +kernel
theorem dX1_add_17 : decode cX1_add 17 = .ok (.getfield 15, 3) := by decide +kernel
theorem dX1_add_20 : decode cX1_add 20 = .ok (.iload_n 1, 1) := by decide +kernel
theorem dX1_add_21 : decode cX1_add 21 = .ok (.i2b, 1) := by decide +kernel
theorem dX1_add_22 : decode cX1_add 22 = .ok (.bastore, 1) := by decide +kernel
theorem dX1_add_23 : decode cX1_add 23 = .ok (.aload_n 0, 1) := by decide +kernel
theorem dX1_add_24 : decode cX1_add 24 = .ok (.dup, 1) := by decide +kernel
theorem dX1_add_25 : decode cX1_add 25 = .ok (.getfield 15, 3) := by decide +kernel
theorem dX1_add_28 : decode cX1_add 28 = .ok (.iconst 1, 1) := by decide +kernel
theorem dX1_add_29 : decode cX1_add 29 = .ok (.iadd, 1) := by decide +kernel
theorem dX1_add_30 : decode cX1_add 30 = .ok (.putfield 15, 3) := by decide +kernel
theorem dX1_add_33 : decode cX1_add 33 = .ok (.iconst 1, 1) := by decide +kernel
theorem dX1_add_34 : decode cX1_add 34 = .ok (.ireturn, 1) := by decide +kernel
theorem dX1_tell_0 : decode cX1_tell 0 = .ok (.aload_n 1, 1) := by decide +kernel
theorem dX1_tell_1 : decode cX1_tell 1 = .ok (.invokevirtual 19, 3) := by decide +kernel
theorem dX1_tell_4 : decode cX1_tell 4 = .ok (.aload_n 0, 1) := by decide +kernel
theorem dX1_tell_5 : decode cX1_tell 5 = .ok (.iconst 0, 1) := by decide +kernel
theorem dX1_tell_6 : decode cX1_tell 6 = .ok (.putfield 24, 3) := by decide +kernel
theorem dX1_tell_9 : decode cX1_tell 9 = .ok (.aload_n 0, 1) := by decide +kernel
theorem dX1_tell_10 : decode cX1_tell 10 = .ok (.iconst 0, 1) := by decide +kernel
theorem dX1_tell_11 : decode cX1_tell 11 = .ok (.putfield 27, 3) := by decide +kernel
theorem dX1_tell_14 : decode cX1_tell 14 = .ok (.aload_n 0, 1) := by decide +kernel
theorem dX1_tell_15 : decode cX1_tell 15 = .ok (.iconst 0, 1) := by decide +kernel
theorem dX1_tell_16 : decode cX1_tell 16 = .ok (.putfield 30, 3) := by decide +kernel
theorem dX1_tell_19 : decode cX1_tell 19 = .ok (.aload_n 0, 1) := by decide +kernel
theorem dX1_tell_20 : decode cX1_tell 20 = .ok (.iconst 0, 1) := by decide +kernel
theorem dX1_tell_21 : decode cX1_tell 21 = .ok (.putfield 33, 3) := by decide +kernel
theorem dX1_tell_24 : decode cX1_tell 24 = .ok (.aload_n 0, 1) := by decide +kernel
theorem dX1_tell_25 : decode cX1_tell 25 = .ok (.iconst 0, 1) := by decide +kernel
theorem dX1_tell_26 : decode cX1_tell 26 = .ok (.putfield 37, 3) := by decide +kernel
theorem dX1_tell_29 : decode cX1_tell 29 = .ok (.iconst 0, 1) := by decide +kernel
theorem dX1_tell_30 : decode cX1_tell 30 = .ok (.istore_n 2, 1) := by decide +kernel
theorem dX1_tell_31 : decode cX1_tell 31 = .ok (.aload_n 0, 1) := by decide +kernel
theorem dX1_tell_32 : decode cX1_tell 32 = .ok (.invokevirtual 40, 3) := by decide +kernel
theorem dX1_tell_35 : decode cX1_tell 35 = .ok (.iconst 0, 1) := by decide +kernel
theorem dX1_tell_36 : decode cX1_tell 36 = .ok (.istore_n 3, 1) := by decide +kernel
theorem dX1_tell_37 : decode cX1_tell 37 = .ok (.iload_n 3, 1) := by decide +kernel
theorem dX1_tell_38 : decode cX1_tell 38 = .ok (.sipush 160, 3) := by decide +kernel
theorem dX1_tell_41 : decode cX1_tell 41 = .ok (.if_icmp .ge 42, 3) := by decide +kernel
theorem dX1_tell_44 : decode cX1_tell 44 = .ok (.aload_n 0, 1) := by decide +kernel
theorem dX1_tell_45 : decode cX1_tell 45 = .ok (.invokevirtual 43, 3) := by decide +kernel
theorem dX1_tell_48 : decode cX1_tell 48 = .ok (.ifCond .eq 35, 3) := by decide +kernel
theorem dX1_tell_51 : decode cX1_tell 51 = .ok (.aload_n 0, 1) := by decide +kernel
theorem dX1_tell_52 : decode cX1_tell 52 = .ok (.getfield 47, 3) := by decide +kernel
theorem dX1_tell_55 : decode cX1_tell 55 = .ok (.ifCond .eq 28, 3) := by decide +kernel
theorem dX1_tell_58 : decode cX1_tell 58 = .ok (.aload_n 0, 1) := by decide +kernel
theorem dX1_tell_59 : decode cX1_tell 59 = .ok (.aload_n 1, 1) := by decide +kernel
theorem dX1_tell_60 : decode cX1_tell 60 = .ok (.invokevirtual 50, 3) := by decide +kernel
theorem dX1_tell_63 : decode cX1_tell 63 = .ok (.iinc 2 1, 3) := by decide +kernel
theorem dX1_tell_66 : decode cX1_tell 66 = .ok (.aload_n 0, 1) := by decide +kernel
theorem dX1_tell_67 : decode cX1_tell 67 = .ok (.invokevirtual 43, 3) := by decide +kernel
theorem dX1_tell_70 : decode cX1_tell 70 = .ok (.ifCond .eq 7, 3) := by decide +kernel
theorem dX1_tell_73 : decode cX1_tell 73 = .ok (.aload_n 0, 1) := by decide +kernel
theorem dX1_tell_74 : decode cX1_tell 74 = .ok (.invokevirtual 40, 3) := by decide +kernel
theorem dX1_tell_77 : decode cX1_tell 77 = .ok (.iinc 3 1, 3) := by decide +kernel
theorem dX1_tell_80 : decode cX1_tell 80 = .ok (.goto (-43), 3) := by decide +kernel
theorem dX1_tell_83 : decode cX1_tell 83 = .ok (.aload_n 0, 1) := by decide +kernel
theorem dX1_tell_84 : decode cX1_tell 84 = .ok (.invokevirtual 43, 3) := by decide +kernel
theorem dX1_tell_87 : decode cX1_tell 87 = .ok (.ifCond .eq 20, 3) := by decide +kernel
theorem dX1_tell_90 : decode cX1_tell 90 = .ok (.aload_n 1, 1) := by decide +kernel
theorem dX1_tell_91 : decode cX1_tell 91 = .ok (.invokevirtual 54, 3) := by decide +kernel
theorem dX1_tell_94 : decode cX1_tell 94 = .ok (.ifCond .ne 13, 3) := by decide +kernel
theorem dX1_tell_97 : decode cX1_tell 97 = .ok (.aload_n 0, 1) := by decide +kernel
theorem dX1_tell_98 : decode cX1_tell 98 = .ok (.bipush 6, 2) := by decide +kernel
theorem dX1_tell_100 : decode cX1_tell 100 = .ok (.aload_n 0, 1) := by decide +kernel
theorem dX1_tell_101 : decode cX1_tell 101 = .ok (.getfield 15, 3) := by decide +kernel
theorem dX1_tell_104 : decode cX1_tell 104 = .ok (.invokevirtual 57, 3) := by decide +kernel
theorem dX1_tell_107 : decode cX1_tell 107 = .ok (.iload_n 2, 1) := by decide +kernel
theorem dX1_tell_108 : decode cX1_tell 108 = .ok (.ireturn, 1) := by decide +kernel
theorem dX1_isGood_0 : decode cX1_isGood 0 = .ok (.aload_n 0, 1) := by decide +kernel
theorem dX1_isGood_1 : decode cX1_isGood 1 = .ok (.getfield 24, 3) := by decide +kernel
theorem dX1_isGood_4 : decode cX1_isGood 4 = .ok (.ifCond .ne 7, 3) := by decide +kernel
theorem dX1_isGood_7 : decode cX1_isGood 7 = .ok (.iconst 1, 1) := by decide +kernel
theorem dX1_isGood_8 : decode cX1_isGood 8 = .ok (.goto 4, 3) := by decide +kernel
theorem dX1_isGood_11 : decode cX1_isGood 11 = .ok (.iconst 0, 1) := by decide +kernel
theorem dX1_isGood_12 : decode cX1_isGood 12 = .ok (.ireturn, 1) := by decide +kernel
theorem dX1_fail_0 : decode cX1_fail 0 = .ok (.aload_n 0, 1) := by decide +kernel
theorem dX1_fail_1 : decode cX1_fail 1 = .ok (.iload_n 1, 1) := by decide +kernel
theorem dX1_fail_2 : decode cX1_fail 2 = .ok (.putfield 24, 3) := by decide +kernel
theorem dX1_fail_5 : decode cX1_fail 5 = .ok (.aload_n 0, 1) := by decide +kernel
theorem dX1_fail_6 : decode cX1_fail 6 = .ok (.iload_n 2, 1) := by decide +kernel
theorem dX1_fail_7 : decode cX1_fail 7 = .ok (.putfield 27, 3) := by decide +kernel
theorem dX1_fail_10 : decode cX1_fail 10 = .ok (.return_, 1) := by decide +kernel
theorem dX1_takeLine_0 : decode cX1_takeLine 0 = .ok (.aload_n 0, 1) := by decide +kernel
theorem dX1_takeLine_1 : decode cX1_takeLine 1 = .ok (.getfield 47, 3) := by decide +kernel
theorem dX1_takeLine_4 : decode cX1_takeLine 4 = .ok (.iconst 1, 1) := by decide +kernel
theorem dX1_takeLine_5 : decode cX1_takeLine 5 = .ok (.if_icmp .ne 10, 3) := by decide +kernel
theorem dX1_takeLine_8 : decode cX1_takeLine 8 = .ok (.aload_n 0, 1) := by decide +kernel
theorem dX1_takeLine_9 : decode cX1_takeLine 9 = .ok (.invokevirtual 61, 3) := by decide +kernel
theorem dX1_takeLine_12 : decode cX1_takeLine 12 = .ok (.goto 5, 3) := by decide +kernel
theorem dX1_takeLine_15 : decode cX1_takeLine 15 = .ok (.bipush 8, 2) := by decide +kernel
theorem dX1_takeLine_17 : decode cX1_takeLine 17 = .ok (.istore_n 2, 1) := by decide +kernel
theorem dX1_takeLine_18 : decode cX1_takeLine 18 = .ok (.iload_n 2, 1) := by decide +kernel
theorem dX1_takeLine_19 : decode cX1_takeLine 19 = .ok (.tableswitch 77 4 8 #[45, 53, 61, 69, 33], 33) := by decide +kernel
theorem dX1_takeLine_52 : decode cX1_takeLine 52 = .ok (.aload_n 0, 1) := by decide +kernel
theorem dX1_takeLine_53 : decode cX1_takeLine 53 = .ok (.iconst 2, 1) := by decide +kernel
theorem dX1_takeLine_54 : decode cX1_takeLine 54 = .ok (.aload_n 0, 1) := by decide +kernel
theorem dX1_takeLine_55 : decode cX1_takeLine 55 = .ok (.getfield 65, 3) := by decide +kernel
theorem dX1_takeLine_58 : decode cX1_takeLine 58 = .ok (.invokevirtual 57, 3) := by decide +kernel
theorem dX1_takeLine_61 : decode cX1_takeLine 61 = .ok (.goto 41, 3) := by decide +kernel
theorem dX1_takeLine_64 : decode cX1_takeLine 64 = .ok (.aload_n 0, 1) := by decide +kernel
theorem dX1_takeLine_65 : decode cX1_takeLine 65 = .ok (.aload_n 1, 1) := by decide +kernel
theorem dX1_takeLine_66 : decode cX1_takeLine 66 = .ok (.invokevirtual 68, 3) := by decide +kernel
theorem dX1_takeLine_69 : decode cX1_takeLine 69 = .ok (.goto 33, 3) := by decide +kernel
theorem dX1_takeLine_72 : decode cX1_takeLine 72 = .ok (.aload_n 0, 1) := by decide +kernel
theorem dX1_takeLine_73 : decode cX1_takeLine 73 = .ok (.aload_n 1, 1) := by decide +kernel
theorem dX1_takeLine_74 : decode cX1_takeLine 74 = .ok (.invokevirtual 71, 3) := by decide +kernel
theorem dX1_takeLine_77 : decode cX1_takeLine 77 = .ok (.goto 25, 3) := by decide +kernel
theorem dX1_takeLine_80 : decode cX1_takeLine 80 = .ok (.aload_n 0, 1) := by decide +kernel
theorem dX1_takeLine_81 : decode cX1_takeLine 81 = .ok (.aload_n 1, 1) := by decide +kernel
theorem dX1_takeLine_82 : decode cX1_takeLine 82 = .ok (.invokevirtual 74, 3) := by decide +kernel
theorem dX1_takeLine_85 : decode cX1_takeLine 85 = .ok (.goto 17, 3) := by decide +kernel
theorem dX1_takeLine_88 : decode cX1_takeLine 88 = .ok (.aload_n 0, 1) := by decide +kernel
theorem dX1_takeLine_89 : decode cX1_takeLine 89 = .ok (.aload_n 1, 1) := by decide +kernel
theorem dX1_takeLine_90 : decode cX1_takeLine 90 = .ok (.invokevirtual 77, 3) := by decide +kernel
theorem dX1_takeLine_93 : decode cX1_takeLine 93 = .ok (.goto 9, 3) := by decide +kernel
theorem dX1_takeLine_96 : decode cX1_takeLine 96 = .ok (.aload_n 0, 1) := by decide +kernel
theorem dX1_takeLine_97 : decode cX1_takeLine 97 = .ok (.aload_n 1, 1) := by decide +kernel
theorem dX1_takeLine_98 : decode cX1_takeLine 98 = .ok (.iload_n 2, 1) := by decide +kernel
theorem dX1_takeLine_99 : decode cX1_takeLine 99 = .ok (.invokevirtual 80, 3) := by decide +kernel
theorem dX1_takeLine_102 : decode cX1_takeLine 102 = .ok (.return_, 1) := by decide +kernel
theorem dX1_takeMan_0 : decode cX1_takeMan 0 = .ok (.aload_n 1, 1) := by decide +kernel
theorem dX1_takeMan_1 : decode cX1_takeMan 1 = .ok (.getfield 84, 3) := by decide +kernel
theorem dX1_takeMan_4 : decode cX1_takeMan 4 = .ok (.iconst 4, 1) := by decide +kernel
theorem dX1_takeMan_5 : decode cX1_takeMan 5 = .ok (.if_icmp .lt 13, 3) := by decide +kernel
theorem dX1_takeMan_8 : decode cX1_takeMan 8 = .ok (.aload_n 0, 1) := by decide +kernel
theorem dX1_takeMan_9 : decode cX1_takeMan 9 = .ok (.iconst 5, 1) := by decide +kernel
theorem dX1_takeMan_10 : decode cX1_takeMan 10 = .ok (.aload_n 0, 1) := by decide +kernel
theorem dX1_takeMan_11 : decode cX1_takeMan 11 = .ok (.getfield 65, 3) := by decide +kernel
theorem dX1_takeMan_14 : decode cX1_takeMan 14 = .ok (.invokevirtual 57, 3) := by decide +kernel
theorem dX1_takeMan_17 : decode cX1_takeMan 17 = .ok (.return_, 1) := by decide +kernel
theorem dX1_takeMan_18 : decode cX1_takeMan 18 = .ok (.aload_n 0, 1) := by decide +kernel
theorem dX1_takeMan_19 : decode cX1_takeMan 19 = .ok (.iconst 0, 1) := by decide +kernel
theorem dX1_takeMan_20 : decode cX1_takeMan 20 = .ok (.bipush 6, 2) := by decide +kernel
theorem dX1_takeMan_22 : decode cX1_takeMan 22 = .ok (.invokevirtual 87, 3) := by decide +kernel
theorem dX1_takeMan_25 : decode cX1_takeMan 25 = .ok (.istore_n 3, 1) := by decide +kernel
theorem dX1_takeMan_26 : decode cX1_takeMan 26 = .ok (.aload_n 0, 1) := by decide +kernel
theorem dX1_takeMan_27 : decode cX1_takeMan 27 = .ok (.invokevirtual 43, 3) := by decide +kernel
theorem dX1_takeMan_30 : decode cX1_takeMan 30 = .ok (.ifCond .eq 14, 3) := by decide +kernel
theorem dX1_takeMan_33 : decode cX1_takeMan 33 = .ok (.aload_n 1, 1) := by decide +kernel
theorem dX1_takeMan_34 : decode cX1_takeMan 34 = .ok (.iload_n 2, 1) := by decide +kernel
theorem dX1_takeMan_35 : decode cX1_takeMan 35 = .ok (.iload_n 3, 1) := by decide +kernel
theorem dX1_takeMan_36 : decode cX1_takeMan 36 = .ok (.invokevirtual 91, 3) := by decide +kernel
theorem dX1_takeMan_39 : decode cX1_takeMan 39 = .ok (.pop, 1) := by decide +kernel
theorem dX1_takeMan_40 : decode cX1_takeMan 40 = .ok (.aload_n 0, 1) := by decide +kernel
theorem dX1_takeMan_41 : decode cX1_takeMan 41 = .ok (.invokevirtual 95, 3) := by decide +kernel
theorem dX1_takeMan_44 : decode cX1_takeMan 44 = .ok (.return_, 1) := by decide +kernel
theorem dX1_takeRota_0 : decode cX1_takeRota 0 = .ok (.aload_n 0, 1) := by decide +kernel
theorem dX1_takeRota_1 : decode cX1_takeRota 1 = .ok (.getfield 33, 3) := by decide +kernel
theorem dX1_takeRota_4 : decode cX1_takeRota 4 = .ok (.ifCond .eq 13, 3) := by decide +kernel
theorem dX1_takeRota_7 : decode cX1_takeRota 7 = .ok (.aload_n 0, 1) := by decide +kernel
theorem dX1_takeRota_8 : decode cX1_takeRota 8 = .ok (.iconst 4, 1) := by decide +kernel
theorem dX1_takeRota_9 : decode cX1_takeRota 9 = .ok (.aload_n 0, 1) := by decide +kernel
theorem dX1_takeRota_10 : decode cX1_takeRota 10 = .ok (.getfield 65, 3) := by decide +kernel
theorem dX1_takeRota_13 : decode cX1_takeRota 13 = .ok (.invokevirtual 57, 3) := by decide +kernel
theorem dX1_takeRota_16 : decode cX1_takeRota 16 = .ok (.return_, 1) := by decide +kernel
theorem dX1_takeRota_17 : decode cX1_takeRota 17 = .ok (.aload_n 0, 1) := by decide +kernel
theorem dX1_takeRota_18 : decode cX1_takeRota 18 = .ok (.iconst 1, 1) := by decide +kernel
theorem dX1_takeRota_19 : decode cX1_takeRota 19 = .ok (.putfield 33, 3) := by decide +kernel
theorem dX1_takeRota_22 : decode cX1_takeRota 22 = .ok (.iconst 0, 1) := by decide +kernel
theorem dX1_takeRota_23 : decode cX1_takeRota 23 = .ok (.istore_n 2, 1) := by decide +kernel
theorem dX1_takeRota_24 : decode cX1_takeRota 24 = .ok (.iload_n 2, 1) := by decide +kernel
theorem dX1_takeRota_25 : decode cX1_takeRota 25 = .ok (.bipush 12, 2) := by decide +kernel
theorem dX1_takeRota_27 : decode cX1_takeRota 27 = .ok (.if_icmp .gt 92, 3) := by decide +kernel
theorem dX1_takeRota_30 : decode cX1_takeRota 30 = .ok (.aload_n 0, 1) := by decide +kernel
theorem dX1_takeRota_31 : decode cX1_takeRota 31 = .ok (.invokevirtual 40, 3) := by decide +kernel
theorem dX1_takeRota_34 : decode cX1_takeRota 34 = .ok (.aload_n 0, 1) := by decide +kernel
theorem dX1_takeRota_35 : decode cX1_takeRota 35 = .ok (.invokevirtual 43, 3) := by decide +kernel
theorem dX1_takeRota_38 : decode cX1_takeRota 38 = .ok (.ifCond .eq 11, 3) := by decide +kernel
theorem dX1_takeRota_41 : decode cX1_takeRota 41 = .ok (.aload_n 0, 1) := by decide +kernel
theorem dX1_takeRota_42 : decode cX1_takeRota 42 = .ok (.getfield 47, 3) := by decide +kernel
theorem dX1_takeRota_45 : decode cX1_takeRota 45 = .ok (.iconst 3, 1) := by decide +kernel
theorem dX1_takeRota_46 : decode cX1_takeRota 46 = .ok (.if_icmp .ne 4, 3) := by decide +kernel
theorem dX1_takeRota_49 : decode cX1_takeRota 49 = .ok (.return_, 1) := by decide +kernel
theorem dX1_takeRota_50 : decode cX1_takeRota 50 = .ok (.iload_n 2, 1) := by decide +kernel
theorem dX1_takeRota_51 : decode cX1_takeRota 51 = .ok (.bipush 12, 2) := by decide +kernel
theorem dX1_takeRota_53 : decode cX1_takeRota 53 = .ok (.if_icmp .ne 24, 3) := by decide +kernel
theorem dX1_takeRota_56 : decode cX1_takeRota 56 = .ok (.aload_n 0, 1) := by decide +kernel
theorem dX1_takeRota_57 : decode cX1_takeRota 57 = .ok (.aload_n 0, 1) := by decide +kernel
theorem dX1_takeRota_58 : decode cX1_takeRota 58 = .ok (.getfield 47, 3) := by decide +kernel
theorem dX1_takeRota_61 : decode cX1_takeRota 61 = .ok (.ifCond .ne 7, 3) := by decide +kernel
theorem dX1_takeRota_64 : decode cX1_takeRota 64 = .ok (.iconst 2, 1) := by decide +kernel
theorem dX1_takeRota_65 : decode cX1_takeRota 65 = .ok (.goto 4, 3) := by decide +kernel
theorem dX1_takeRota_68 : decode cX1_takeRota 68 = .ok (.iconst 5, 1) := by decide +kernel
theorem dX1_takeRota_69 : decode cX1_takeRota 69 = .ok (.aload_n 0, 1) := by decide +kernel
theorem dX1_takeRota_70 : decode cX1_takeRota 70 = .ok (.getfield 65, 3) := by decide +kernel
theorem dX1_takeRota_73 : decode cX1_takeRota 73 = .ok (.invokevirtual 57, 3) := by decide +kernel
theorem dX1_takeRota_76 : decode cX1_takeRota 76 = .ok (.return_, 1) := by decide +kernel
theorem dX1_takeRota_77 : decode cX1_takeRota 77 = .ok (.aload_n 0, 1) := by decide +kernel
theorem dX1_takeRota_78 : decode cX1_takeRota 78 = .ok (.iconst 0, 1) := by decide +kernel
theorem dX1_takeRota_79 : decode cX1_takeRota 79 = .ok (.iconst 4, 1) := by decide +kernel
theorem dX1_takeRota_80 : decode cX1_takeRota 80 = .ok (.invokevirtual 98, 3) := by decide +kernel
theorem dX1_takeRota_83 : decode cX1_takeRota 83 = .ok (.aload_n 0, 1) := by decide +kernel
theorem dX1_takeRota_84 : decode cX1_takeRota 84 = .ok (.invokevirtual 43, 3) := by decide +kernel
theorem dX1_takeRota_87 : decode cX1_takeRota 87 = .ok (.ifCond .ne 4, 3) := by decide +kernel
theorem dX1_takeRota_90 : decode cX1_takeRota 90 = .ok (.return_, 1) := by decide +kernel
theorem dX1_takeRota_91 : decode cX1_takeRota 91 = .ok (.aload_n 1, 1) := by decide +kernel
theorem dX1_takeRota_92 : decode cX1_takeRota 92 = .ok (.iload_n 2, 1) := by decide +kernel
theorem dX1_takeRota_93 : decode cX1_takeRota 93 = .ok (.aload_n 0, 1) := by decide +kernel
theorem dX1_takeRota_94 : decode cX1_takeRota 94 = .ok (.getfield 101, 3) := by decide +kernel
theorem dX1_takeRota_97 : decode cX1_takeRota 97 = .ok (.iconst 4, 1) := by decide +kernel
theorem dX1_takeRota_98 : decode cX1_takeRota 98 = .ok (.if_icmp .ne 8, 3) := by decide +kernel
theorem dX1_takeRota_101 : decode cX1_takeRota 101 = .ok (.bipush (-4), 2) := by decide +kernel
theorem dX1_takeRota_103 : decode cX1_takeRota 103 = .ok (.goto 7, 3) := by decide +kernel
theorem dX1_takeRota_106 : decode cX1_takeRota 106 = .ok (.aload_n 0, 1) := by decide +kernel
theorem dX1_takeRota_107 : decode cX1_takeRota 107 = .ok (.getfield 101, 3) := by decide +kernel
theorem dX1_takeRota_110 : decode cX1_takeRota 110 = .ok (.invokevirtual 104, 3) := by decide +kernel
theorem dX1_takeRota_113 : decode cX1_takeRota 113 = .ok (.iinc 2 1, 3) := by decide +kernel
theorem dX1_takeRota_116 : decode cX1_takeRota 116 = .ok (.goto (-92), 3) := by decide +kernel
theorem dX1_takeRota_119 : decode cX1_takeRota 119 = .ok (.return_, 1) := by decide +kernel
theorem dX1_takeCloud_0 : decode cX1_takeCloud 0 = .ok (.aload_n 0, 1) := by decide +kernel
theorem dX1_takeCloud_1 : decode cX1_takeCloud 1 = .ok (.iconst 0, 1) := by decide +kernel
theorem dX1_takeCloud_2 : decode cX1_takeCloud 2 = .ok (.bipush 11, 2) := by decide +kernel
theorem dX1_takeCloud_4 : decode cX1_takeCloud 4 = .ok (.invokevirtual 87, 3) := by decide +kernel
theorem dX1_takeCloud_7 : decode cX1_takeCloud 7 = .ok (.istore_n 2, 1) := by decide +kernel
theorem dX1_takeCloud_8 : decode cX1_takeCloud 8 = .ok (.aload_n 0, 1) := by decide +kernel
theorem dX1_takeCloud_9 : decode cX1_takeCloud 9 = .ok (.invokevirtual 43, 3) := by decide +kernel
theorem dX1_takeCloud_12 : decode cX1_takeCloud 12 = .ok (.ifCond .ne 4, 3) := by decide +kernel
theorem dX1_takeCloud_15 : decode cX1_takeCloud 15 = .ok (.return_, 1) := by decide +kernel
theorem dX1_takeCloud_16 : decode cX1_takeCloud 16 = .ok (.aload_n 1, 1) := by decide +kernel
theorem dX1_takeCloud_17 : decode cX1_takeCloud 17 = .ok (.iload_n 2, 1) := by decide +kernel
theorem dX1_takeCloud_18 : decode cX1_takeCloud 18 = .ok (.invokevirtual 107, 3) := by decide +kernel
theorem dX1_takeCloud_21 : decode cX1_takeCloud 21 = .ok (.ifCond .eq 13, 3) := by decide +kernel
theorem dX1_takeCloud_24 : decode cX1_takeCloud 24 = .ok (.aload_n 0, 1) := by decide +kernel
theorem dX1_takeCloud_25 : decode cX1_takeCloud 25 = .ok (.iconst 4, 1) := by decide +kernel
theorem dX1_takeCloud_26 : decode cX1_takeCloud 26 = .ok (.aload_n 0, 1) := by decide +kernel
theorem dX1_takeCloud_27 : decode cX1_takeCloud 27 = .ok (.getfield 65, 3) := by decide +kernel
theorem dX1_takeCloud_30 : decode cX1_takeCloud 30 = .ok (.invokevirtual 57, 3) := by decide +kernel
theorem dX1_takeCloud_33 : decode cX1_takeCloud 33 = .ok (.return_, 1) := by decide +kernel
theorem dX1_takeCloud_34 : decode cX1_takeCloud 34 = .ok (.aload_n 1, 1) := by decide +kernel
theorem dX1_takeCloud_35 : decode cX1_takeCloud 35 = .ok (.iload_n 2, 1) := by decide +kernel
theorem dX1_takeCloud_36 : decode cX1_takeCloud 36 = .ok (.iconst 1, 1) := by decide +kernel
theorem dX1_takeCloud_37 : decode cX1_takeCloud 37 = .ok (.invokevirtual 111, 3) := by decide +kernel
theorem dX1_takeCloud_40 : decode cX1_takeCloud 40 = .ok (.aload_n 0, 1) := by decide +kernel
theorem dX1_takeCloud_41 : decode cX1_takeCloud 41 = .ok (.invokevirtual 95, 3) := by decide +kernel
theorem dX1_takeCloud_44 : decode cX1_takeCloud 44 = .ok (.return_, 1) := by decide +kernel
theorem dX1_takePaint_0 : decode cX1_takePaint 0 = .ok (.aload_n 0, 1) := by decide +kernel
theorem dX1_takePaint_1 : decode cX1_takePaint 1 = .ok (.getfield 37, 3) := by decide +kernel
theorem dX1_takePaint_4 : decode cX1_takePaint 4 = .ok (.ifCond .eq 13, 3) := by decide +kernel
theorem dX1_takePaint_7 : decode cX1_takePaint 7 = .ok (.aload_n 0, 1) := by decide +kernel
theorem dX1_takePaint_8 : decode cX1_takePaint 8 = .ok (.iconst 4, 1) := by decide +kernel
theorem dX1_takePaint_9 : decode cX1_takePaint 9 = .ok (.aload_n 0, 1) := by decide +kernel
theorem dX1_takePaint_10 : decode cX1_takePaint 10 = .ok (.getfield 65, 3) := by decide +kernel
theorem dX1_takePaint_13 : decode cX1_takePaint 13 = .ok (.invokevirtual 57, 3) := by decide +kernel
theorem dX1_takePaint_16 : decode cX1_takePaint 16 = .ok (.return_, 1) := by decide +kernel
theorem dX1_takePaint_17 : decode cX1_takePaint 17 = .ok (.aload_n 0, 1) := by decide +kernel
theorem dX1_takePaint_18 : decode cX1_takePaint 18 = .ok (.iconst 1, 1) := by decide +kernel
theorem dX1_takePaint_19 : decode cX1_takePaint 19 = .ok (.putfield 37, 3) := by decide +kernel
theorem dX1_takePaint_22 : decode cX1_takePaint 22 = .ok (.aload_n 0, 1) := by decide +kernel
theorem dX1_takePaint_23 : decode cX1_takePaint 23 = .ok (.iconst 0, 1) := by decide +kernel
theorem dX1_takePaint_24 : decode cX1_takePaint 24 = .ok (.bipush 6, 2) := by decide +kernel
theorem dX1_takePaint_26 : decode cX1_takePaint 26 = .ok (.invokevirtual 87, 3) := by decide +kernel
theorem dX1_takePaint_29 : decode cX1_takePaint 29 = .ok (.istore_n 2, 1) := by decide +kernel
theorem dX1_takePaint_30 : decode cX1_takePaint 30 = .ok (.aload_n 0, 1) := by decide +kernel
theorem dX1_takePaint_31 : decode cX1_takePaint 31 = .ok (.invokevirtual 43, 3) := by decide +kernel
theorem dX1_takePaint_34 : decode cX1_takePaint 34 = .ok (.ifCond .eq 12, 3) := by decide +kernel
theorem dX1_takePaint_37 : decode cX1_takePaint 37 = .ok (.aload_n 1, 1) := by decide +kernel
theorem dX1_takePaint_38 : decode cX1_takePaint 38 = .ok (.iload_n 2, 1) := by decide +kernel
theorem dX1_takePaint_39 : decode cX1_takePaint 39 = .ok (.invokevirtual 115, 3) := by decide +kernel
theorem dX1_takePaint_42 : decode cX1_takePaint 42 = .ok (.aload_n 0, 1) := by decide +kernel
theorem dX1_takePaint_43 : decode cX1_takePaint 43 = .ok (.invokevirtual 95, 3) := by decide +kernel
theorem dX1_takePaint_46 : decode cX1_takePaint 46 = .ok (.return_, 1) := by decide +kernel
theorem dX1_takeDeed_0 : decode cX1_takeDeed 0 = .ok (.aload_n 1, 1) := by decide +kernel
theorem dX1_takeDeed_1 : decode cX1_takeDeed 1 = .ok (.getfield 119, 3) := by decide +kernel
theorem dX1_takeDeed_4 : decode cX1_takeDeed 4 = .ok (.iconst 5, 1) := by decide +kernel
theorem dX1_takeDeed_5 : decode cX1_takeDeed 5 = .ok (.if_icmp .lt 13, 3) := by decide +kernel
theorem dX1_takeDeed_8 : decode cX1_takeDeed 8 = .ok (.aload_n 0, 1) := by decide +kernel
theorem dX1_takeDeed_9 : decode cX1_takeDeed 9 = .ok (.iconst 5, 1) := by decide +kernel
theorem dX1_takeDeed_10 : decode cX1_takeDeed 10 = .ok (.aload_n 0, 1) := by decide +kernel
theorem dX1_takeDeed_11 : decode cX1_takeDeed 11 = .ok (.getfield 65, 3) := by decide +kernel
theorem dX1_takeDeed_14 : decode cX1_takeDeed 14 = .ok (.invokevirtual 57, 3) := by decide +kernel
theorem dX1_takeDeed_17 : decode cX1_takeDeed 17 = .ok (.return_, 1) := by decide +kernel
theorem dX1_takeDeed_18 : decode cX1_takeDeed 18 = .ok (.aload_n 0, 1) := by decide +kernel
theorem dX1_takeDeed_19 : decode cX1_takeDeed 19 = .ok (.iconst 0, 1) := by decide +kernel
theorem dX1_takeDeed_20 : decode cX1_takeDeed 20 = .ok (.bipush 47, 2) := by decide +kernel
theorem dX1_takeDeed_22 : decode cX1_takeDeed 22 = .ok (.invokevirtual 87, 3) := by decide +kernel
theorem dX1_takeDeed_25 : decode cX1_takeDeed 25 = .ok (.istore_n 2, 1) := by decide +kernel
theorem dX1_takeDeed_26 : decode cX1_takeDeed 26 = .ok (.aload_n 0, 1) := by decide +kernel
theorem dX1_takeDeed_27 : decode cX1_takeDeed 27 = .ok (.invokevirtual 43, 3) := by decide +kernel
theorem dX1_takeDeed_30 : decode cX1_takeDeed 30 = .ok (.ifCond .ne 4, 3) := by decide +kernel
theorem dX1_takeDeed_33 : decode cX1_takeDeed 33 = .ok (.return_, 1) := by decide +kernel
theorem dX1_takeDeed_34 : decode cX1_takeDeed 34 = .ok (.aload_n 0, 1) := by decide +kernel
theorem dX1_takeDeed_35 : decode cX1_takeDeed 35 = .ok (.iconst 1, 1) := by decide +kernel
theorem dX1_takeDeed_36 : decode cX1_takeDeed 36 = .ok (.bipush 9, 2) := by decide +kernel
theorem dX1_takeDeed_38 : decode cX1_takeDeed 38 = .ok (.invokevirtual 87, 3) := by decide +kernel
theorem dX1_takeDeed_41 : decode cX1_takeDeed 41 = .ok (.istore_n 3, 1) := by decide +kernel
theorem dX1_takeDeed_42 : decode cX1_takeDeed 42 = .ok (.aload_n 0, 1) := by decide +kernel
theorem dX1_takeDeed_43 : decode cX1_takeDeed 43 = .ok (.invokevirtual 43, 3) := by decide +kernel
theorem dX1_takeDeed_46 : decode cX1_takeDeed 46 = .ok (.ifCond .eq 14, 3) := by decide +kernel
theorem dX1_takeDeed_49 : decode cX1_takeDeed 49 = .ok (.aload_n 1, 1) := by decide +kernel
theorem dX1_takeDeed_50 : decode cX1_takeDeed 50 = .ok (.iload_n 2, 1) := by decide +kernel
theorem dX1_takeDeed_51 : decode cX1_takeDeed 51 = .ok (.iload_n 3, 1) := by decide +kernel
theorem dX1_takeDeed_52 : decode cX1_takeDeed 52 = .ok (.invokevirtual 122, 3) := by decide +kernel
theorem dX1_takeDeed_55 : decode cX1_takeDeed 55 = .ok (.pop, 1) := by decide +kernel
theorem dX1_takeDeed_56 : decode cX1_takeDeed 56 = .ok (.aload_n 0, 1) := by decide +kernel
theorem dX1_takeDeed_57 : decode cX1_takeDeed 57 = .ok (.invokevirtual 95, 3) := by decide +kernel
theorem dX1_takeDeed_60 : decode cX1_takeDeed 60 = .ok (.return_, 1) := by decide +kernel
theorem dX1_takeNumber_0 : decode cX1_takeNumber 0 = .ok (.aload_n 0, 1) := by decide +kernel
theorem dX1_takeNumber_1 : decode cX1_takeNumber 1 = .ok (.invokevirtual 40, 3) := by decide +kernel
theorem dX1_takeNumber_4 : decode cX1_takeNumber 4 = .ok (.aload_n 0, 1) := by decide +kernel
theorem dX1_takeNumber_5 : decode cX1_takeNumber 5 = .ok (.invokevirtual 43, 3) := by decide +kernel
theorem dX1_takeNumber_8 : decode cX1_takeNumber 8 = .ok (.ifCond .eq 9, 3) := by decide +kernel
theorem dX1_takeNumber_11 : decode cX1_takeNumber 11 = .ok (.aload_n 0, 1) := by decide +kernel
theorem dX1_takeNumber_12 : decode cX1_takeNumber 12 = .ok (.iload_n 1, 1) := by decide +kernel
theorem dX1_takeNumber_13 : decode cX1_takeNumber 13 = .ok (.iload_n 2, 1) := by decide +kernel
theorem dX1_takeNumber_14 : decode cX1_takeNumber 14 = .ok (.invokevirtual 98, 3) := by decide +kernel
theorem dX1_takeNumber_17 : decode cX1_takeNumber 17 = .ok (.aload_n 0, 1) := by decide +kernel
theorem dX1_takeNumber_18 : decode cX1_takeNumber 18 = .ok (.invokevirtual 43, 3) := by decide +kernel
theorem dX1_takeNumber_21 : decode cX1_takeNumber 21 = .ok (.ifCond .eq 10, 3) := by decide +kernel
theorem dX1_takeNumber_24 : decode cX1_takeNumber 24 = .ok (.aload_n 0, 1) := by decide +kernel
theorem dX1_takeNumber_25 : decode cX1_takeNumber 25 = .ok (.getfield 101, 3) := by decide +kernel
theorem dX1_takeNumber_28 : decode cX1_takeNumber 28 = .ok (.goto 4, 3) := by decide +kernel
theorem dX1_takeNumber_31 : decode cX1_takeNumber 31 = .ok (.iconst 0, 1) := by decide +kernel
theorem dX1_takeNumber_32 : decode cX1_takeNumber 32 = .ok (.ireturn, 1) := by decide +kernel
theorem dX1_judgeNumber_0 : decode cX1_judgeNumber 0 = .ok (.aload_n 0, 1) := by decide +kernel
theorem dX1_judgeNumber_1 : decode cX1_judgeNumber 1 = .ok (.getfield 47, 3) := by decide +kernel
theorem dX1_judgeNumber_4 : decode cX1_judgeNumber 4 = .ok (.iconst 2, 1) := by decide +kernel
theorem dX1_judgeNumber_5 : decode cX1_judgeNumber 5 = .ok (.if_icmp .eq 15, 3) := by decide +kernel
theorem dX1_judgeNumber_8 : decode cX1_judgeNumber 8 = .ok (.aload_n 0, 1) := by decide +kernel
theorem dX1_judgeNumber_9 : decode cX1_judgeNumber 9 = .ok (.iconst 2, 1) := by decide +kernel
theorem dX1_judgeNumber_10 : decode cX1_judgeNumber 10 = .ok (.aload_n 0, 1) := by decide +kernel
theorem dX1_judgeNumber_11 : decode cX1_judgeNumber 11 = .ok (.getfield 65, 3) := by decide +kernel
theorem dX1_judgeNumber_14 : decode cX1_judgeNumber 14 = .ok (.invokevirtual 57, 3) := by decide +kernel
theorem dX1_judgeNumber_17 : decode cX1_judgeNumber 17 = .ok (.goto 28, 3) := by decide +kernel
theorem dX1_judgeNumber_20 : decode cX1_judgeNumber 20 = .ok (.aload_n 0, 1) := by decide +kernel
theorem dX1_judgeNumber_21 : decode cX1_judgeNumber 21 = .ok (.getfield 101, 3) := by decide +kernel
theorem dX1_judgeNumber_24 : decode cX1_judgeNumber 24 = .ok (.iload_n 1, 1) := by decide +kernel
theorem dX1_judgeNumber_25 : decode cX1_judgeNumber 25 = .ok (.if_icmp .lt 11, 3) := by decide +kernel
theorem dX1_judgeNumber_28 : decode cX1_judgeNumber 28 = .ok (.aload_n 0, 1) := by decide +kernel
theorem dX1_judgeNumber_29 : decode cX1_judgeNumber 29 = .ok (.getfield 101, 3) := by decide +kernel
theorem dX1_judgeNumber_32 : decode cX1_judgeNumber 32 = .ok (.iload_n 2, 1) := by decide +kernel
theorem dX1_judgeNumber_33 : decode cX1_judgeNumber 33 = .ok (.if_icmp .le 12, 3) := by decide +kernel
theorem dX1_judgeNumber_36 : decode cX1_judgeNumber 36 = .ok (.aload_n 0, 1) := by decide +kernel
theorem dX1_judgeNumber_37 : decode cX1_judgeNumber 37 = .ok (.iconst 3, 1) := by decide +kernel
theorem dX1_judgeNumber_38 : decode cX1_judgeNumber 38 = .ok (.aload_n 0, 1) := by decide +kernel
theorem dX1_judgeNumber_39 : decode cX1_judgeNumber 39 = .ok (.getfield 65, 3) := by decide +kernel
theorem dX1_judgeNumber_42 : decode cX1_judgeNumber 42 = .ok (.invokevirtual 57, 3) := by decide +kernel
theorem dX1_judgeNumber_45 : decode cX1_judgeNumber 45 = .ok (.return_, 1) := by decide +kernel
theorem dX1_takeStop_0 : decode cX1_takeStop 0 = .ok (.aload_n 0, 1) := by decide +kernel
theorem dX1_takeStop_1 : decode cX1_takeStop 1 = .ok (.invokevirtual 40, 3) := by decide +kernel
theorem dX1_takeStop_4 : decode cX1_takeStop 4 = .ok (.aload_n 0, 1) := by decide +kernel
theorem dX1_takeStop_5 : decode cX1_takeStop 5 = .ok (.invokevirtual 43, 3) := by decide +kernel
theorem dX1_takeStop_8 : decode cX1_takeStop 8 = .ok (.ifCond .eq 20, 3) := by decide +kernel
theorem dX1_takeStop_11 : decode cX1_takeStop 11 = .ok (.aload_n 0, 1) := by decide +kernel
theorem dX1_takeStop_12 : decode cX1_takeStop 12 = .ok (.getfield 47, 3) := by decide +kernel
theorem dX1_takeStop_15 : decode cX1_takeStop 15 = .ok (.iconst 3, 1) := by decide +kernel
theorem dX1_takeStop_16 : decode cX1_takeStop 16 = .ok (.if_icmp .eq 12, 3) := by decide +kernel
theorem dX1_takeStop_19 : decode cX1_takeStop 19 = .ok (.aload_n 0, 1) := by decide +kernel
theorem dX1_takeStop_20 : decode cX1_takeStop 20 = .ok (.iconst 2, 1) := by decide +kernel
theorem dX1_takeStop_21 : decode cX1_takeStop 21 = .ok (.aload_n 0, 1) := by decide +kernel
theorem dX1_takeStop_22 : decode cX1_takeStop 22 = .ok (.getfield 65, 3) := by decide +kernel
theorem dX1_takeStop_25 : decode cX1_takeStop 25 = .ok (.invokevirtual 57, 3) := by decide +kernel
theorem dX1_takeStop_28 : decode cX1_takeStop 28 = .ok (.return_, 1) := by decide +kernel
theorem dX1_next_0 : decode cX1_next 0 = .ok (.aload_n 0, 1) := by decide +kernel
theorem dX1_next_1 : decode cX1_next 1 = .ok (.aload_n 0, 1) := by decide +kernel
theorem dX1_next_2 : decode cX1_next 2 = .ok (.aload_n 0, 1) := by decide +kernel
theorem dX1_next_3 : decode cX1_next 3 = .ok (.getfield 30, 3) := by decide +kernel
theorem dX1_next_6 : decode cX1_next 6 = .ok (.invokevirtual 125, 3) := by decide +kernel
theorem dX1_next_9 : decode cX1_next 9 = .ok (.putfield 65, 3) := by decide +kernel
theorem dX1_next_12 : decode cX1_next 12 = .ok (.aload_n 0, 1) := by decide +kernel
theorem dX1_next_13 : decode cX1_next 13 = .ok (.aload_n 0, 1) := by decide +kernel
theorem dX1_next_14 : decode cX1_next 14 = .ok (.getfield 65, 3) := by decide +kernel
theorem dX1_next_17 : decode cX1_next 17 = .ok (.putfield 30, 3) := by decide +kernel
theorem dX1_next_20 : decode cX1_next 20 = .ok (.aload_n 0, 1) := by decide +kernel
theorem dX1_next_21 : decode cX1_next 21 = .ok (.getfield 65, 3) := by decide +kernel
theorem dX1_next_24 : decode cX1_next 24 = .ok (.aload_n 0, 1) := by decide +kernel
theorem dX1_next_25 : decode cX1_next 25 = .ok (.getfield 15, 3) := by decide +kernel
theorem dX1_next_28 : decode cX1_next 28 = .ok (.if_icmp .lt 9, 3) := by decide +kernel
theorem dX1_next_31 : decode cX1_next 31 = .ok (.aload_n 0, 1) := by decide +kernel
theorem dX1_next_32 : decode cX1_next 32 = .ok (.iconst 0, 1) := by decide +kernel
theorem dX1_next_33 : decode cX1_next 33 = .ok (.putfield 47, 3) := by decide +kernel
theorem dX1_next_36 : decode cX1_next 36 = .ok (.return_, 1) := by decide +kernel
theorem dX1_next_37 : decode cX1_next 37 = .ok (.aload_n 0, 1) := by decide +kernel
theorem dX1_next_38 : decode cX1_next 38 = .ok (.getfield 11, 3) := by decide +kernel
theorem dX1_next_41 : decode cX1_next 41 = .ok (.aload_n 0, 1) := by decide +kernel
theorem dX1_next_42 : decode cX1_next 42 = .ok (.getfield 65, 3) := by decide +kernel
theorem dX1_next_45 : decode cX1_next 45 = .ok (.baload, 1) := by decide +kernel
theorem dX1_next_46 : decode cX1_next 46 = .ok (.istore_n 1, 1) := by decide +kernel
theorem dX1_next_47 : decode cX1_next 47 = .ok (.iload_n 1, 1) := by decide +kernel
theorem dX1_next_48 : decode cX1_next 48 = .ok (.bipush 59, 2) := by decide +kernel
theorem dX1_next_50 : decode cX1_next 50 = .ok (.if_icmp .ne 21, 3) := by decide +kernel
theorem dX1_next_53 : decode cX1_next 53 = .ok (.aload_n 0, 1) := by decide +kernel
theorem dX1_next_54 : decode cX1_next 54 = .ok (.iconst 3, 1) := by decide +kernel
theorem dX1_next_55 : decode cX1_next 55 = .ok (.putfield 47, 3) := by decide +kernel
theorem dX1_next_58 : decode cX1_next 58 = .ok (.aload_n 0, 1) := by decide +kernel
theorem dX1_next_59 : decode cX1_next 59 = .ok (.aload_n 0, 1) := by decide +kernel
theorem dX1_next_60 : decode cX1_next 60 = .ok (.getfield 65, 3) := by decide +kernel
theorem dX1_next_63 : decode cX1_next 63 = .ok (.iconst 1, 1) := by decide +kernel
theorem dX1_next_64 : decode cX1_next 64 = .ok (.iadd, 1) := by decide +kernel
theorem dX1_next_65 : decode cX1_next 65 = .ok (.putfield 30, 3) := by decide +kernel
theorem dX1_next_68 : decode cX1_next 68 = .ok (.goto 62, 3) := by decide +kernel
theorem dX1_next_71 : decode cX1_next 71 = .ok (.iload_n 1, 1) := by decide +kernel
theorem dX1_next_72 : decode cX1_next 72 = .ok (.invokestatic 129, 3) := by decide +kernel
theorem dX1_next_75 : decode cX1_next 75 = .ok (.ifCond .eq 23, 3) := by decide +kernel
theorem dX1_next_78 : decode cX1_next 78 = .ok (.aload_n 0, 1) := by decide +kernel
theorem dX1_next_79 : decode cX1_next 79 = .ok (.iconst 1, 1) := by decide +kernel
theorem dX1_next_80 : decode cX1_next 80 = .ok (.putfield 47, 3) := by decide +kernel
theorem dX1_next_83 : decode cX1_next 83 = .ok (.aload_n 0, 1) := by decide +kernel
theorem dX1_next_84 : decode cX1_next 84 = .ok (.aload_n 0, 1) := by decide +kernel
theorem dX1_next_85 : decode cX1_next 85 = .ok (.aload_n 0, 1) := by decide +kernel
theorem dX1_next_86 : decode cX1_next 86 = .ok (.getfield 65, 3) := by decide +kernel
theorem dX1_next_89 : decode cX1_next 89 = .ok (.invokevirtual 132, 3) := by decide +kernel
theorem dX1_next_92 : decode cX1_next 92 = .ok (.putfield 30, 3) := by decide +kernel
theorem dX1_next_95 : decode cX1_next 95 = .ok (.goto 35, 3) := by decide +kernel
theorem dX1_next_98 : decode cX1_next 98 = .ok (.iload_n 1, 1) := by decide +kernel
theorem dX1_next_99 : decode cX1_next 99 = .ok (.invokestatic 135, 3) := by decide +kernel
theorem dX1_next_102 : decode cX1_next 102 = .ok (.ifCond .eq 28, 3) := by decide +kernel
theorem dX1_next_105 : decode cX1_next 105 = .ok (.aload_n 0, 1) := by decide +kernel
theorem dX1_next_106 : decode cX1_next 106 = .ok (.iconst 2, 1) := by decide +kernel
theorem dX1_next_107 : decode cX1_next 107 = .ok (.putfield 47, 3) := by decide +kernel
theorem dX1_next_110 : decode cX1_next 110 = .ok (.aload_n 0, 1) := by decide +kernel
theorem dX1_next_111 : decode cX1_next 111 = .ok (.aload_n 0, 1) := by decide +kernel
theorem dX1_next_112 : decode cX1_next 112 = .ok (.aload_n 0, 1) := by decide +kernel
theorem dX1_next_113 : decode cX1_next 113 = .ok (.getfield 65, 3) := by decide +kernel
theorem dX1_next_116 : decode cX1_next 116 = .ok (.invokevirtual 138, 3) := by decide +kernel
theorem dX1_next_119 : decode cX1_next 119 = .ok (.putfield 30, 3) := by decide +kernel
theorem dX1_next_122 : decode cX1_next 122 = .ok (.aload_n 0, 1) := by decide +kernel
theorem dX1_next_123 : decode cX1_next 123 = .ok (.aload_n 0, 1) := by decide +kernel
theorem dX1_next_124 : decode cX1_next 124 = .ok (.invokevirtual 141, 3) := by decide +kernel
theorem dX1_next_127 : decode cX1_next 127 = .ok (.putfield 101, 3) := by decide +kernel
theorem dX1_next_130 : decode cX1_next 130 = .ok (.aload_n 0, 1) := by decide +kernel
theorem dX1_next_131 : decode cX1_next 131 = .ok (.getfield 30, 3) := by decide +kernel
theorem dX1_next_134 : decode cX1_next 134 = .ok (.aload_n 0, 1) := by decide +kernel
theorem dX1_next_135 : decode cX1_next 135 = .ok (.getfield 65, 3) := by decide +kernel
theorem dX1_next_138 : decode cX1_next 138 = .ok (.if_icmp .ne 7, 3) := by decide +kernel
theorem dX1_next_141 : decode cX1_next 141 = .ok (.iconst 1, 1) := by decide +kernel
theorem dX1_next_142 : decode cX1_next 142 = .ok (.goto 4, 3) := by decide +kernel
theorem dX1_next_145 : decode cX1_next 145 = .ok (.iconst 0, 1) := by decide +kernel
theorem dX1_next_146 : decode cX1_next 146 = .ok (.istore_n 2, 1) := by decide +kernel
theorem dX1_next_147 : decode cX1_next 147 = .ok (.iload_n 2, 1) := by decide +kernel
theorem dX1_next_148 : decode cX1_next 148 = .ok (.ifCond .ne 24, 3) := by decide +kernel
theorem dX1_next_151 : decode cX1_next 151 = .ok (.aload_n 0, 1) := by decide +kernel
theorem dX1_next_152 : decode cX1_next 152 = .ok (.getfield 47, 3) := by decide +kernel
theorem dX1_next_155 : decode cX1_next 155 = .ok (.iconst 2, 1) := by decide +kernel
theorem dX1_next_156 : decode cX1_next 156 = .ok (.if_icmp .ne 25, 3) := by decide +kernel
theorem dX1_next_159 : decode cX1_next 159 = .ok (.aload_n 0, 1) := by decide +kernel
theorem dX1_next_160 : decode cX1_next 160 = .ok (.getfield 30, 3) := by decide +kernel
theorem dX1_next_163 : decode cX1_next 163 = .ok (.aload_n 0, 1) := by decide +kernel
theorem dX1_next_164 : decode cX1_next 164 = .ok (.getfield 65, 3) := by decide +kernel
theorem dX1_next_167 : decode cX1_next 167 = .ok (.isub, 1) := by decide +kernel
theorem dX1_next_168 : decode cX1_next 168 = .ok (.iconst 2, 1) := by decide +kernel
theorem dX1_next_169 : decode cX1_next 169 = .ok (.if_icmp .le 12, 3) := by decide +kernel
theorem dX1_next_172 : decode cX1_next 172 = .ok (.aload_n 0, 1) := by decide +kernel
theorem dX1_next_173 : decode cX1_next 173 = .ok (.iconst 1, 1) := by decide +kernel
theorem dX1_next_174 : decode cX1_next 174 = .ok (.aload_n 0, 1) := by decide +kernel
theorem dX1_next_175 : decode cX1_next 175 = .ok (.getfield 65, 3) := by decide +kernel
theorem dX1_next_178 : decode cX1_next 178 = .ok (.invokevirtual 57, 3) := by decide +kernel
theorem dX1_next_181 : decode cX1_next 181 = .ok (.return_, 1) := by decide +kernel
theorem dX1_numberOfToken_0 : decode cX1_numberOfToken 0 = .ok (.iconst 0, 1) := by decide +kernel
theorem dX1_numberOfToken_1 : decode cX1_numberOfToken 1 = .ok (.istore_n 1, 1) := by decide +kernel
theorem dX1_numberOfToken_2 : decode cX1_numberOfToken 2 = .ok (.aload_n 0, 1) := by decide +kernel
theorem dX1_numberOfToken_3 : decode cX1_numberOfToken 3 = .ok (.getfield 65, 3) := by decide +kernel
theorem dX1_numberOfToken_6 : decode cX1_numberOfToken 6 = .ok (.istore_n 2, 1) := by decide +kernel
theorem dX1_numberOfToken_7 : decode cX1_numberOfToken 7 = .ok (.iload_n 2, 1) := by decide +kernel
theorem dX1_numberOfToken_8 : decode cX1_numberOfToken 8 = .ok (.aload_n 0, 1) := by decide +kernel
theorem dX1_numberOfToken_9 : decode cX1_numberOfToken 9 = .ok (.getfield 30, 3) := by decide +kernel
theorem dX1_numberOfToken_12 : decode cX1_numberOfToken 12 = .ok (.if_icmp .ge 24, 3) := by decide +kernel
theorem dX1_numberOfToken_15 : decode cX1_numberOfToken 15 = .ok (.bipush 10, 2) := by decide +kernel
theorem dX1_numberOfToken_17 : decode cX1_numberOfToken 17 = .ok (.iload_n 1, 1) := by decide +kernel
theorem dX1_numberOfToken_18 : decode cX1_numberOfToken 18 = .ok (.imul, 1) := by decide +kernel
theorem dX1_numberOfToken_19 : decode cX1_numberOfToken 19 = .ok (.aload_n 0, 1) := by decide +kernel
theorem dX1_numberOfToken_20 : decode cX1_numberOfToken 20 = .ok (.getfield 11, 3) := by decide +kernel
theorem dX1_numberOfToken_23 : decode cX1_numberOfToken 23 = .ok (.iload_n 2, 1) := by decide +kernel
theorem dX1_numberOfToken_24 : decode cX1_numberOfToken 24 = .ok (.baload, 1) := by decide +kernel
theorem dX1_numberOfToken_25 : decode cX1_numberOfToken 25 = .ok (.iadd, 1) := by decide +kernel
theorem dX1_numberOfToken_26 : decode cX1_numberOfToken 26 = .ok (.bipush 48, 2) := by decide +kernel
theorem dX1_numberOfToken_28 : decode cX1_numberOfToken 28 = .ok (.isub, 1) := by decide +kernel
theorem dX1_numberOfToken_29 : decode cX1_numberOfToken 29 = .ok (.istore_n 1, 1) := by decide +kernel
theorem dX1_numberOfToken_30 : decode cX1_numberOfToken 30 = .ok (.iinc 2 1, 3) := by decide +kernel
theorem dX1_numberOfToken_33 : decode cX1_numberOfToken 33 = .ok (.goto (-26), 3) := by decide +kernel
theorem dX1_numberOfToken_36 : decode cX1_numberOfToken 36 = .ok (.iload_n 1, 1) := by decide +kernel
theorem dX1_numberOfToken_37 : decode cX1_numberOfToken 37 = .ok (.ireturn, 1) := by decide +kernel
theorem dX1_behindBlanks_0 : decode cX1_behindBlanks 0 = .ok (.iload_n 1, 1) := by decide +kernel
theorem dX1_behindBlanks_1 : decode cX1_behindBlanks 1 = .ok (.istore_n 2, 1) := by decide +kernel
theorem dX1_behindBlanks_2 : decode cX1_behindBlanks 2 = .ok (.iload_n 2, 1) := by decide +kernel
theorem dX1_behindBlanks_3 : decode cX1_behindBlanks 3 = .ok (.aload_n 0, 1) := by decide +kernel
theorem dX1_behindBlanks_4 : decode cX1_behindBlanks 4 = .ok (.getfield 15, 3) := by decide +kernel
theorem dX1_behindBlanks_7 : decode cX1_behindBlanks 7 = .ok (.if_icmp .ge 20, 3) := by decide +kernel
theorem dX1_behindBlanks_10 : decode cX1_behindBlanks 10 = .ok (.aload_n 0, 1) := by decide +kernel
theorem dX1_behindBlanks_11 : decode cX1_behindBlanks 11 = .ok (.getfield 11, 3) := by decide +kernel
theorem dX1_behindBlanks_14 : decode cX1_behindBlanks 14 = .ok (.iload_n 2, 1) := by decide +kernel
theorem dX1_behindBlanks_15 : decode cX1_behindBlanks 15 = .ok (.baload, 1) := by decide +kernel
theorem dX1_behindBlanks_16 : decode cX1_behindBlanks 16 = .ok (.bipush 32, 2) := by decide +kernel
theorem dX1_behindBlanks_18 : decode cX1_behindBlanks 18 = .ok (.if_icmp .ne 9, 3) := by decide +kernel
theorem dX1_behindBlanks_21 : decode cX1_behindBlanks 21 = .ok (.iinc 2 1, 3) := by decide +kernel
theorem dX1_behindBlanks_24 : decode cX1_behindBlanks 24 = .ok (.goto (-22), 3) := by decide +kernel
theorem dX1_behindBlanks_27 : decode cX1_behindBlanks 27 = .ok (.iload_n 2, 1) := by decide +kernel
theorem dX1_behindBlanks_28 : decode cX1_behindBlanks 28 = .ok (.ireturn, 1) := by decide +kernel
theorem dX1_behindLetters_0 : decode cX1_behindLetters 0 = .ok (.iload_n 1, 1) := by decide +kernel
theorem dX1_behindLetters_1 : decode cX1_behindLetters 1 = .ok (.istore_n 2, 1) := by decide +kernel
theorem dX1_behindLetters_2 : decode cX1_behindLetters 2 = .ok (.iload_n 2, 1) := by decide +kernel
theorem dX1_behindLetters_3 : decode cX1_behindLetters 3 = .ok (.aload_n 0, 1) := by decide +kernel
theorem dX1_behindLetters_4 : decode cX1_behindLetters 4 = .ok (.getfield 15, 3) := by decide +kernel
theorem dX1_behindLetters_7 : decode cX1_behindLetters 7 = .ok (.if_icmp .ge 21, 3) := by decide +kernel
theorem dX1_behindLetters_10 : decode cX1_behindLetters 10 = .ok (.aload_n 0, 1) := by decide +kernel
theorem dX1_behindLetters_11 : decode cX1_behindLetters 11 = .ok (.getfield 11, 3) := by decide +kernel
theorem dX1_behindLetters_14 : decode cX1_behindLetters 14 = .ok (.iload_n 2, 1) := by decide +kernel
theorem dX1_behindLetters_15 : decode cX1_behindLetters 15 = .ok (.baload, 1) := by decide +kernel
theorem dX1_behindLetters_16 : decode cX1_behindLetters 16 = .ok (.invokestatic 129, 3) := by decide +kernel
theorem dX1_behindLetters_19 : decode cX1_behindLetters 19 = .ok (.ifCond .eq 9, 3) := by decide +kernel
theorem dX1_behindLetters_22 : decode cX1_behindLetters 22 = .ok (.iinc 2 1, 3) := by decide +kernel
theorem dX1_behindLetters_25 : decode cX1_behindLetters 25 = .ok (.goto (-23), 3) := by decide +kernel
theorem dX1_behindLetters_28 : decode cX1_behindLetters 28 = .ok (.iload_n 2, 1) := by decide +kernel
theorem dX1_behindLetters_29 : decode cX1_behindLetters 29 = .ok (.ireturn, 1) := by decide +kernel
theorem dX1_behindFigures_0 : decode cX1_behindFigures 0 = .ok (.iload_n 1, 1) := by decide +kernel
theorem dX1_behindFigures_1 : decode cX1_behindFigures 1 = .ok (.istore_n 2, 1) := by decide +kernel
theorem dX1_behindFigures_2 : decode cX1_behindFigures 2 = .ok (.iload_n 2, 1) := by decide +kernel
theorem dX1_behindFigures_3 : decode cX1_behindFigures 3 = .ok (.aload_n 0, 1) := by decide +kernel
theorem dX1_behindFigures_4 : decode cX1_behindFigures 4 = .ok (.getfield 15, 3) := by decide +kernel
theorem dX1_behindFigures_7 : decode cX1_behindFigures 7 = .ok (.if_icmp .ge 21, 3) := by decide +kernel
theorem dX1_behindFigures_10 : decode cX1_behindFigures 10 = .ok (.aload_n 0, 1) := by decide +kernel
theorem dX1_behindFigures_11 : decode cX1_behindFigures 11 = .ok (.getfield 11, 3) := by decide +kernel
theorem dX1_behindFigures_14 : decode cX1_behindFigures 14 = .ok (.iload_n 2, 1) := by decide +kernel
theorem dX1_behindFigures_15 : decode cX1_behindFigures 15 = .ok (.baload, 1) := by decide +kernel
theorem dX1_behindFigures_16 : decode cX1_behindFigures 16 = .ok (.invokestatic 135, 3) := by decide +kernel
theorem dX1_behindFigures_19 : decode cX1_behindFigures 19 = .ok (.ifCond .eq 9, 3) := by decide +kernel
theorem dX1_behindFigures_22 : decode cX1_behindFigures 22 = .ok (.iinc 2 1, 3) := by decide +kernel
theorem dX1_behindFigures_25 : decode cX1_behindFigures 25 = .ok (.goto (-23), 3) := by decide +kernel
theorem dX1_behindFigures_28 : decode cX1_behindFigures 28 = .ok (.iload_n 2, 1) := by decide +kernel
theorem dX1_behindFigures_29 : decode cX1_behindFigures 29 = .ok (.ireturn, 1) := by decide +kernel
theorem dX1_isLetter_0 : decode cX1_isLetter 0 = .ok (.iload_n 0, 1) := by decide +kernel
theorem dX1_isLetter_1 : decode cX1_isLetter 1 = .ok (.bipush 97, 2) := by decide +kernel
theorem dX1_isLetter_3 : decode cX1_isLetter 3 = .ok (.if_icmp .lt 13, 3) := by decide +kernel
theorem dX1_isLetter_6 : decode cX1_isLetter 6 = .ok (.iload_n 0, 1) := by decide +kernel
theorem dX1_isLetter_7 : decode cX1_isLetter 7 = .ok (.bipush 122, 2) := by decide +kernel
theorem dX1_isLetter_9 : decode cX1_isLetter 9 = .ok (.if_icmp .gt 7, 3) := by decide +kernel
theorem dX1_isLetter_12 : decode cX1_isLetter 12 = .ok (.iconst 1, 1) := by decide +kernel
theorem dX1_isLetter_13 : decode cX1_isLetter 13 = .ok (.goto 4, 3) := by decide +kernel
theorem dX1_isLetter_16 : decode cX1_isLetter 16 = .ok (.iconst 0, 1) := by decide +kernel
theorem dX1_isLetter_17 : decode cX1_isLetter 17 = .ok (.ireturn, 1) := by decide +kernel
theorem dX1_isFigure_0 : decode cX1_isFigure 0 = .ok (.iload_n 0, 1) := by decide +kernel
theorem dX1_isFigure_1 : decode cX1_isFigure 1 = .ok (.bipush 48, 2) := by decide +kernel
theorem dX1_isFigure_3 : decode cX1_isFigure 3 = .ok (.if_icmp .lt 13, 3) := by decide +kernel
theorem dX1_isFigure_6 : decode cX1_isFigure 6 = .ok (.iload_n 0, 1) := by decide +kernel
theorem dX1_isFigure_7 : decode cX1_isFigure 7 = .ok (.bipush 57, 2) := by decide +kernel
theorem dX1_isFigure_9 : decode cX1_isFigure 9 = .ok (.if_icmp .gt 7, 3) := by decide +kernel
theorem dX1_isFigure_12 : decode cX1_isFigure 12 = .ok (.iconst 1, 1) := by decide +kernel
theorem dX1_isFigure_13 : decode cX1_isFigure 13 = .ok (.goto 4, 3) := by decide +kernel
theorem dX1_isFigure_16 : decode cX1_isFigure 16 = .ok (.iconst 0, 1) := by decide +kernel
theorem dX1_isFigure_17 : decode cX1_isFigure 17 = .ok (.ireturn, 1) := by decide +kernel
theorem dX1_lineOfName_0 : decode cX1_lineOfName 0 = .ok (.iconst 0, 1) := by decide +kernel
theorem dX1_lineOfName_1 : decode cX1_lineOfName 1 = .ok (.istore_n 1, 1) := by decide +kernel
theorem dX1_lineOfName_2 : decode cX1_lineOfName 2 = .ok (.iload_n 1, 1) := by decide +kernel
theorem dX1_lineOfName_3 : decode cX1_lineOfName 3 = .ok (.bipush 8, 2) := by decide +kernel
theorem dX1_lineOfName_5 : decode cX1_lineOfName 5 = .ok (.if_icmp .ge 22, 3) := by decide +kernel
theorem dX1_lineOfName_8 : decode cX1_lineOfName 8 = .ok (.aload_n 0, 1) := by decide +kernel
theorem dX1_lineOfName_9 : decode cX1_lineOfName 9 = .ok (.iload_n 1, 1) := by decide +kernel
theorem dX1_lineOfName_10 : decode cX1_lineOfName 10 = .ok (.invokestatic 144, 3) := by decide +kernel
theorem dX1_lineOfName_13 : decode cX1_lineOfName 13 = .ok (.invokevirtual 148, 3) := by decide +kernel
theorem dX1_lineOfName_16 : decode cX1_lineOfName 16 = .ok (.ifCond .eq 5, 3) := by decide +kernel
theorem dX1_lineOfName_19 : decode cX1_lineOfName 19 = .ok (.iload_n 1, 1) := by decide +kernel
theorem dX1_lineOfName_20 : decode cX1_lineOfName 20 = .ok (.ireturn, 1) := by decide +kernel
theorem dX1_lineOfName_21 : decode cX1_lineOfName 21 = .ok (.iinc 1 1, 3) := by decide +kernel
theorem dX1_lineOfName_24 : decode cX1_lineOfName 24 = .ok (.goto (-22), 3) := by decide +kernel
theorem dX1_lineOfName_27 : decode cX1_lineOfName 27 = .ok (.bipush 8, 2) := by decide +kernel
theorem dX1_lineOfName_29 : decode cX1_lineOfName 29 = .ok (.ireturn, 1) := by decide +kernel
theorem dX1_nameOfLine_0 : decode cX1_nameOfLine 0 = .ok (.iload_n 0, 1) := by decide +kernel
theorem dX1_nameOfLine_1 : decode cX1_nameOfLine 1 = .ok (.tableswitch 64 0 6 #[43, 46, 49, 52, 55, 58, 61], 43) := by decide +kernel
theorem dX1_nameOfLine_44 : decode cX1_nameOfLine 44 = .ok (.ldc 152, 2) := by decide +kernel
theorem dX1_nameOfLine_46 : decode cX1_nameOfLine 46 = .ok (.areturn, 1) := by decide +kernel
theorem dX1_nameOfLine_47 : decode cX1_nameOfLine 47 = .ok (.ldc 154, 2) := by decide +kernel
theorem dX1_nameOfLine_49 : decode cX1_nameOfLine 49 = .ok (.areturn, 1) := by decide +kernel
theorem dX1_nameOfLine_50 : decode cX1_nameOfLine 50 = .ok (.ldc 156, 2) := by decide +kernel
theorem dX1_nameOfLine_52 : decode cX1_nameOfLine 52 = .ok (.areturn, 1) := by decide +kernel
theorem dX1_nameOfLine_53 : decode cX1_nameOfLine 53 = .ok (.ldc 158, 2) := by decide +kernel
theorem dX1_nameOfLine_55 : decode cX1_nameOfLine 55 = .ok (.areturn, 1) := by decide +kernel
theorem dX1_nameOfLine_56 : decode cX1_nameOfLine 56 = .ok (.ldc 160, 2) := by decide +kernel
theorem dX1_nameOfLine_58 : decode cX1_nameOfLine 58 = .ok (.areturn, 1) := by decide +kernel
theorem dX1_nameOfLine_59 : decode cX1_nameOfLine 59 = .ok (.ldc 162, 2) := by decide +kernel
theorem dX1_nameOfLine_61 : decode cX1_nameOfLine 61 = .ok (.areturn, 1) := by decide +kernel
theorem dX1_nameOfLine_62 : decode cX1_nameOfLine 62 = .ok (.ldc 164, 2) := by decide +kernel
theorem dX1_nameOfLine_64 : decode cX1_nameOfLine 64 = .ok (.areturn, 1) := by decide +kernel
theorem dX1_nameOfLine_65 : decode cX1_nameOfLine 65 = .ok (.ldc 166, 2) := by decide +kernel
theorem dX1_nameOfLine_67 : decode cX1_nameOfLine 67 = .ok (.areturn, 1) := by decide +kernel
theorem dX1_tokenSpells_0 : decode cX1_tokenSpells 0 = .ok (.aload_n 0, 1) := by decide +kernel
theorem dX1_tokenSpells_1 : decode cX1_tokenSpells 1 = .ok (.getfield 30, 3) := by decide +kernel
theorem dX1_tokenSpells_4 : decode cX1_tokenSpells 4 = .ok (.aload_n 0, 1) := by decide +kernel
theorem dX1_tokenSpells_5 : decode cX1_tokenSpells 5 = .ok (.getfield 65, 3) := by decide +kernel
theorem dX1_tokenSpells_8 : decode cX1_tokenSpells 8 = .ok (.isub, 1) := by decide +kernel
theorem dX1_tokenSpells_9 : decode cX1_tokenSpells 9 = .ok (.aload_n 1, 1) := by decide +kernel
theorem dX1_tokenSpells_10 : decode cX1_tokenSpells 10 = .ok (.invokevirtual 168, 3) := by decide +kernel
theorem dX1_tokenSpells_13 : decode cX1_tokenSpells 13 = .ok (.if_icmp .eq 5, 3) := by decide +kernel
theorem dX1_tokenSpells_16 : decode cX1_tokenSpells 16 = .ok (.iconst 0, 1) := by decide +kernel
theorem dX1_tokenSpells_17 : decode cX1_tokenSpells 17 = .ok (.ireturn, 1) := by decide +kernel
theorem dX1_tokenSpells_18 : decode cX1_tokenSpells 18 = .ok (.iconst 0, 1) := by decide +kernel
theorem dX1_tokenSpells_19 : decode cX1_tokenSpells 19 = .ok (.istore_n 2, 1) := by decide +kernel
theorem dX1_tokenSpells_20 : decode cX1_tokenSpells 20 = .ok (.iload_n 2, 1) := by decide +kernel
theorem dX1_tokenSpells_21 : decode cX1_tokenSpells 21 = .ok (.aload_n 1, 1) := by decide +kernel
theorem dX1_tokenSpells_22 : decode cX1_tokenSpells 22 = .ok (.invokevirtual 168, 3) := by decide +kernel
theorem dX1_tokenSpells_25 : decode cX1_tokenSpells 25 = .ok (.if_icmp .ge 30, 3) := by decide +kernel
theorem dX1_tokenSpells_28 : decode cX1_tokenSpells 28 = .ok (.aload_n 0, 1) := by decide +kernel
theorem dX1_tokenSpells_29 : decode cX1_tokenSpells 29 = .ok (.getfield 11, 3) := by decide +kernel
theorem dX1_tokenSpells_32 : decode cX1_tokenSpells 32 = .ok (.aload_n 0, 1) := by decide +kernel
theorem dX1_tokenSpells_33 : decode cX1_tokenSpells 33 = .ok (.getfield 65, 3) := by decide +kernel
theorem dX1_tokenSpells_36 : decode cX1_tokenSpells 36 = .ok (.iload_n 2, 1) := by decide +kernel
theorem dX1_tokenSpells_37 : decode cX1_tokenSpells 37 = .ok (.iadd, 1) := by decide +kernel
theorem dX1_tokenSpells_38 : decode cX1_tokenSpells 38 = .ok (.baload, 1) := by decide +kernel
theorem dX1_tokenSpells_39 : decode cX1_tokenSpells 39 = .ok (.aload_n 1, 1) := by decide +kernel
theorem dX1_tokenSpells_40 : decode cX1_tokenSpells 40 = .ok (.iload_n 2, 1) := by decide +kernel
theorem dX1_tokenSpells_41 : decode cX1_tokenSpells 41 = .ok (.invokevirtual 172, 3) := by decide +kernel
theorem dX1_tokenSpells_44 : decode cX1_tokenSpells 44 = .ok (.if_icmp .eq 5, 3) := by decide +kernel
theorem dX1_tokenSpells_47 : decode cX1_tokenSpells 47 = .ok (.iconst 0, 1) := by decide +kernel
theorem dX1_tokenSpells_48 : decode cX1_tokenSpells 48 = .ok (.ireturn, 1) := by decide +kernel
theorem dX1_tokenSpells_49 : decode cX1_tokenSpells 49 = .ok (.iinc 2 1, 3) := by decide +kernel
theorem dX1_tokenSpells_52 : decode cX1_tokenSpells 52 = .ok (.goto (-32), 3) := by decide +kernel
theorem dX1_tokenSpells_55 : decode cX1_tokenSpells 55 = .ok (.iconst 1, 1) := by decide +kernel
theorem dX1_tokenSpells_56 : decode cX1_tokenSpells 56 = .ok (.ireturn, 1) := by decide +kernel
theorem dX2_init_0 : decode cX2_init 0 = .ok (.aload_n 0, 1) := by decide +kernel
theorem dX2_init_1 : decode cX2_init 1 = .ok (.invokespecial 3, 3) := by decide +kernel
theorem dX2_init_4 : decode cX2_init 4 = .ok (.aload_n 0, 1) := by decide +kernel
theorem dX2_init_5 : decode cX2_init 5 = .ok (.iconst 4, 1) := by decide +kernel
theorem dX2_init_6 : decode cX2_init 6 = .ok (.newarray .int, 2) := by decide +kernel
theorem dX2_init_8 : decode cX2_init 8 = .ok (.putfield 9, 3) := by decide +kernel
theorem dX2_init_11 : decode cX2_init 11 = .ok (.aload_n 0, 1) := by decide +kernel
theorem dX2_init_12 : decode cX2_init 12 = .ok (.iconst 4, 1) := by decide +kernel
theorem dX2_init_13 : decode cX2_init 13 = .ok (.newarray .int, 2) := by decide +kernel
theorem dX2_init_15 : decode cX2_init 15 = .ok (.putfield 15, 3) := by decide +kernel
theorem dX2_init_18 : decode cX2_init 18 = .ok (.aload_n 0, 1) := by decide +kernel
theorem dX2_init_19 : decode cX2_init 19 = .ok (.bipush 12, 2) := by decide +kernel
theorem dX2_init_21 : decode cX2_init 21 = .ok (.newarray .int, 2) := by decide +kernel
theorem dX2_init_23 : decode cX2_init 23 = .ok (.putfield 18, 3) := by decide +kernel
theorem dX2_init_26 : decode cX2_init 26 = .ok (.aload_n 0, 1) := by decide +kernel
theorem dX2_init_27 : decode cX2_init 27 = .ok (.iconst 5, 1) := by decide +kernel
theorem dX2_init_28 : decode cX2_init 28 = .ok (.newarray .int, 2) := by decide +kernel
theorem dX2_init_30 : decode cX2_init 30 = .ok (.putfield 21, 3) := by decide +kernel
theorem dX2_init_33 : decode cX2_init 33 = .ok (.aload_n 0, 1) := by decide +kernel
theorem dX2_init_34 : decode cX2_init 34 = .ok (.iconst 5, 1) := by decide +kernel
theorem dX2_init_35 : decode cX2_init 35 = .ok (.newarray .int, 2) := by decide +kernel
theorem dX2_init_37 : decode cX2_init 37 = .ok (.putfield 24, 3) := by decide +kernel
theorem dX2_init_40 : decode cX2_init 40 = .ok (.aload_n 0, 1) := by decide +kernel
theorem dX2_init_41 : decode cX2_init 41 = .ok (.bipush 12, 2) := by decide +kernel
theorem dX2_init_43 : decode cX2_init 43 = .ok (.newarray .int, 2) := by decide +kernel
theorem dX2_init_45 : decode cX2_init 45 = .ok (.putfield 27, 3) := by decide +kernel
theorem dX2_init_48 : decode cX2_init 48 = .ok (.aload_n 0, 1) := by decide +kernel
theorem dX2_init_49 : decode cX2_init 49 = .ok (.invokevirtual 30, 3) := by decide +kernel
theorem dX2_init_52 : decode cX2_init 52 = .ok (.return_, 1) := by decide +kernel
theorem dX2_clear_0 : decode cX2_clear 0 = .ok (.aload_n 0, 1) := by decide +kernel
theorem dX2_clear_1 : decode cX2_clear 1 = .ok (.iconst 0, 1) := by decide +kernel
theorem dX2_clear_2 : decode cX2_clear 2 = .ok (.putfield 33, 3) := by decide +kernel
theorem dX2_clear_5 : decode cX2_clear 5 = .ok (.aload_n 0, 1) := by decide +kernel
theorem dX2_clear_6 : decode cX2_clear 6 = .ok (.iconst 0, 1) := by decide +kernel
theorem dX2_clear_7 : decode cX2_clear 7 = .ok (.putfield 37, 3) := by decide +kernel
theorem dX2_clear_10 : decode cX2_clear 10 = .ok (.aload_n 0, 1) := by decide +kernel
theorem dX2_clear_11 : decode cX2_clear 11 = .ok (.iconst 0, 1) := by decide +kernel
theorem dX2_clear_12 : decode cX2_clear 12 = .ok (.putfield 40, 3) := by decide +kernel
theorem dX2_clear_15 : decode cX2_clear 15 = .ok (.aload_n 0, 1) := by decide +kernel
theorem dX2_clear_16 : decode cX2_clear 16 = .ok (.iconst 3, 1) := by decide +kernel
theorem dX2_clear_17 : decode cX2_clear 17 = .ok (.putfield 43, 3) := by decide +kernel
theorem dX2_clear_20 : decode cX2_clear 20 = .ok (.aload_n 0, 1) := by decide +kernel
theorem dX2_clear_21 : decode cX2_clear 21 = .ok (.bipush (-4), 2) := by decide +kernel
theorem dX2_clear_23 : decode cX2_clear 23 = .ok (.invokevirtual 46, 3) := by decide +kernel
theorem dX2_clear_26 : decode cX2_clear 26 = .ok (.return_, 1) := by decide +kernel
theorem dX2_copyOf_0 : decode cX2_copyOf 0 = .ok (.aload_n 1, 1) := by decide +kernel
theorem dX2_copyOf_1 : decode cX2_copyOf 1 = .ok (.getfield 9, 3) := by decide +kernel
theorem dX2_copyOf_4 : decode cX2_copyOf 4 = .ok (.iconst 0, 1) := by decide +kernel
theorem dX2_copyOf_5 : decode cX2_copyOf 5 = .ok (.aload_n 0, 1) := by decide +kernel
theorem dX2_copyOf_6 : decode cX2_copyOf 6 = .ok (.getfield 9, 3) := by decide +kernel
theorem dX2_copyOf_9 : decode cX2_copyOf 9 = .ok (.iconst 0, 1) := by decide +kernel
theorem dX2_copyOf_10 : decode cX2_copyOf 10 = .ok (.iconst 4, 1) := by decide +kernel
theorem dX2_copyOf_11 : decode cX2_copyOf 11 = .ok (.invokestatic 50, 3) := by decide +kernel
theorem dX2_copyOf_14 : decode cX2_copyOf 14 = .ok (.aload_n 1, 1) := by decide +kernel
theorem dX2_copyOf_15 : decode cX2_copyOf 15 = .ok (.getfield 15, 3) := by decide +kernel
theorem dX2_copyOf_18 : decode cX2_copyOf 18 = .ok (.iconst 0, 1) := by decide +kernel
theorem dX2_copyOf_19 : decode cX2_copyOf 19 = .ok (.aload_n 0, 1) := by decide +kernel
theorem dX2_copyOf_20 : decode cX2_copyOf 20 = .ok (.getfield 15, 3) := by decide +kernel
theorem dX2_copyOf_23 : decode cX2_copyOf 23 = .ok (.iconst 0, 1) := by decide +kernel
theorem dX2_copyOf_24 : decode cX2_copyOf 24 = .ok (.iconst 4, 1) := by decide +kernel
theorem dX2_copyOf_25 : decode cX2_copyOf 25 = .ok (.invokestatic 50, 3) := by decide +kernel
theorem dX2_copyOf_28 : decode cX2_copyOf 28 = .ok (.aload_n 1, 1) := by decide +kernel
theorem dX2_copyOf_29 : decode cX2_copyOf 29 = .ok (.getfield 18, 3) := by decide +kernel
theorem dX2_copyOf_32 : decode cX2_copyOf 32 = .ok (.iconst 0, 1) := by decide +kernel
theorem dX2_copyOf_33 : decode cX2_copyOf 33 = .ok (.aload_n 0, 1) := by decide +kernel
theorem dX2_copyOf_34 : decode cX2_copyOf 34 = .ok (.getfield 18, 3) := by decide +kernel
theorem dX2_copyOf_37 : decode cX2_copyOf 37 = .ok (.iconst 0, 1) := by decide +kernel
theorem dX2_copyOf_38 : decode cX2_copyOf 38 = .ok (.bipush 12, 2) := by decide +kernel
theorem dX2_copyOf_40 : decode cX2_copyOf 40 = .ok (.invokestatic 50, 3) := by decide +kernel
theorem dX2_copyOf_43 : decode cX2_copyOf 43 = .ok (.aload_n 1, 1) := by decide +kernel
theorem dX2_copyOf_44 : decode cX2_copyOf 44 = .ok (.getfield 21, 3) := by decide +kernel
theorem dX2_copyOf_47 : decode cX2_copyOf 47 = .ok (.iconst 0, 1) := by decide +kernel
theorem dX2_copyOf_48 : decode cX2_copyOf 48 = .ok (.aload_n 0, 1) := by decide +kernel
theorem dX2_copyOf_49 : decode cX2_copyOf 49 = .ok (.getfield 21, 3) := by decide +kernel
theorem dX2_copyOf_52 : decode cX2_copyOf 52 = .ok (.iconst 0, 1) := by decide +kernel
theorem dX2_copyOf_53 : decode cX2_copyOf 53 = .ok (.iconst 5, 1) := by decide +kernel
theorem dX2_copyOf_54 : decode cX2_copyOf 54 = .ok (.invokestatic 50, 3) := by decide +kernel
theorem dX2_copyOf_57 : decode cX2_copyOf 57 = .ok (.aload_n 1, 1) := by decide +kernel
theorem dX2_copyOf_58 : decode cX2_copyOf 58 = .ok (.getfield 24, 3) := by decide +kernel
theorem dX2_copyOf_61 : decode cX2_copyOf 61 = .ok (.iconst 0, 1) := by decide +kernel
theorem dX2_copyOf_62 : decode cX2_copyOf 62 = .ok (.aload_n 0, 1) := by decide +kernel
theorem dX2_copyOf_63 : decode cX2_copyOf 63 = .ok (.getfield 24, 3) := by decide +kernel
theorem dX2_copyOf_66 : decode cX2_copyOf 66 = .ok (.iconst 0, 1) := by decide +kernel
theorem dX2_copyOf_67 : decode cX2_copyOf 67 = .ok (.iconst 5, 1) := by decide +kernel
theorem dX2_copyOf_68 : decode cX2_copyOf 68 = .ok (.invokestatic 50, 3) := by decide +kernel
theorem dX2_copyOf_71 : decode cX2_copyOf 71 = .ok (.aload_n 1, 1) := by decide +kernel
theorem dX2_copyOf_72 : decode cX2_copyOf 72 = .ok (.getfield 27, 3) := by decide +kernel
theorem dX2_copyOf_75 : decode cX2_copyOf 75 = .ok (.iconst 0, 1) := by decide +kernel
theorem dX2_copyOf_76 : decode cX2_copyOf 76 = .ok (.aload_n 0, 1) := by decide +kernel
theorem dX2_copyOf_77 : decode cX2_copyOf 77 = .ok (.getfield 27, 3) := by decide +kernel
theorem dX2_copyOf_80 : decode cX2_copyOf 80 = .ok (.iconst 0, 1) := by decide +kernel
theorem dX2_copyOf_81 : decode cX2_copyOf 81 = .ok (.bipush 12, 2) := by decide +kernel
theorem dX2_copyOf_83 : decode cX2_copyOf 83 = .ok (.invokestatic 50, 3) := by decide +kernel
theorem dX2_copyOf_86 : decode cX2_copyOf 86 = .ok (.aload_n 0, 1) := by decide +kernel
theorem dX2_copyOf_87 : decode cX2_copyOf 87 = .ok (.aload_n 1, 1) := by decide +kernel
theorem dX2_copyOf_88 : decode cX2_copyOf 88 = .ok (.getfield 33, 3) := by decide +kernel
theorem dX2_copyOf_91 : decode cX2_copyOf 91 = .ok (.putfield 33, 3) := by decide +kernel
theorem dX2_copyOf_94 : decode cX2_copyOf 94 = .ok (.aload_n 0, 1) := by decide +kernel
theorem dX2_copyOf_95 : decode cX2_copyOf 95 = .ok (.aload_n 1, 1) := by decide +kernel
theorem dX2_copyOf_96 : decode cX2_copyOf 96 = .ok (.getfield 37, 3) := by decide +kernel
theorem dX2_copyOf_99 : decode cX2_copyOf 99 = .ok (.putfield 37, 3) := by decide +kernel
theorem dX2_copyOf_102 : decode cX2_copyOf 102 = .ok (.aload_n 0, 1) := by decide +kernel
theorem dX2_copyOf_103 : decode cX2_copyOf 103 = .ok (.aload_n 1, 1) := by decide +kernel
theorem dX2_copyOf_104 : decode cX2_copyOf 104 = .ok (.getfield 40, 3) := by decide +kernel
theorem dX2_copyOf_107 : decode cX2_copyOf 107 = .ok (.putfield 40, 3) := by decide +kernel
theorem dX2_copyOf_110 : decode cX2_copyOf 110 = .ok (.aload_n 0, 1) := by decide +kernel
theorem dX2_copyOf_111 : decode cX2_copyOf 111 = .ok (.aload_n 1, 1) := by decide +kernel
theorem dX2_copyOf_112 : decode cX2_copyOf 112 = .ok (.getfield 43, 3) := by decide +kernel
theorem dX2_copyOf_115 : decode cX2_copyOf 115 = .ok (.putfield 43, 3) := by decide +kernel
theorem dX2_copyOf_118 : decode cX2_copyOf 118 = .ok (.return_, 1) := by decide +kernel
theorem dX2_hasMan_0 : decode cX2_hasMan 0 = .ok (.iload_n 1, 1) := by decide +kernel
theorem dX2_hasMan_1 : decode cX2_hasMan 1 = .ok (.ifCond .lt 15, 3) := by decide +kernel
theorem dX2_hasMan_4 : decode cX2_hasMan 4 = .ok (.iload_n 1, 1) := by decide +kernel
theorem dX2_hasMan_5 : decode cX2_hasMan 5 = .ok (.aload_n 0, 1) := by decide +kernel
theorem dX2_hasMan_6 : decode cX2_hasMan 6 = .ok (.getfield 33, 3) := by decide +kernel
theorem dX2_hasMan_9 : decode cX2_hasMan 9 = .ok (.if_icmp .ge 7, 3) := by decide +kernel
theorem dX2_hasMan_12 : decode cX2_hasMan 12 = .ok (.iconst 1, 1) := by decide +kernel
theorem dX2_hasMan_13 : decode cX2_hasMan 13 = .ok (.goto 4, 3) := by decide +kernel
theorem dX2_hasMan_16 : decode cX2_hasMan 16 = .ok (.iconst 0, 1) := by decide +kernel
theorem dX2_hasMan_17 : decode cX2_hasMan 17 = .ok (.ireturn, 1) := by decide +kernel
theorem dX2_hasDeed_0 : decode cX2_hasDeed 0 = .ok (.iload_n 1, 1) := by decide +kernel
theorem dX2_hasDeed_1 : decode cX2_hasDeed 1 = .ok (.ifCond .lt 15, 3) := by decide +kernel
theorem dX2_hasDeed_4 : decode cX2_hasDeed 4 = .ok (.iload_n 1, 1) := by decide +kernel
theorem dX2_hasDeed_5 : decode cX2_hasDeed 5 = .ok (.aload_n 0, 1) := by decide +kernel
theorem dX2_hasDeed_6 : decode cX2_hasDeed 6 = .ok (.getfield 37, 3) := by decide +kernel
theorem dX2_hasDeed_9 : decode cX2_hasDeed 9 = .ok (.if_icmp .ge 7, 3) := by decide +kernel
theorem dX2_hasDeed_12 : decode cX2_hasDeed 12 = .ok (.iconst 1, 1) := by decide +kernel
theorem dX2_hasDeed_13 : decode cX2_hasDeed 13 = .ok (.goto 4, 3) := by decide +kernel
theorem dX2_hasDeed_16 : decode cX2_hasDeed 16 = .ok (.iconst 0, 1) := by decide +kernel
theorem dX2_hasDeed_17 : decode cX2_hasDeed 17 = .ok (.ireturn, 1) := by decide +kernel
theorem dX2_isCloudy_0 : decode cX2_isCloudy 0 = .ok (.aload_n 0, 1) := by decide +kernel
theorem dX2_isCloudy_1 : decode cX2_isCloudy 1 = .ok (.getfield 40, 3) := by decide +kernel
theorem dX2_isCloudy_4 : decode cX2_isCloudy 4 = .ok (.iload_n 1, 1) := by decide +kernel
theorem dX2_isCloudy_5 : decode cX2_isCloudy 5 = .ok (.ishr, 1) := by decide +kernel
theorem dX2_isCloudy_6 : decode cX2_isCloudy 6 = .ok (.iconst 1, 1) := by decide +kernel
theorem dX2_isCloudy_7 : decode cX2_isCloudy 7 = .ok (.iand, 1) := by decide +kernel
theorem dX2_isCloudy_8 : decode cX2_isCloudy 8 = .ok (.iconst 1, 1) := by decide +kernel
theorem dX2_isCloudy_9 : decode cX2_isCloudy 9 = .ok (.if_icmp .ne 7, 3) := by decide +kernel
theorem dX2_isCloudy_12 : decode cX2_isCloudy 12 = .ok (.iconst 1, 1) := by decide +kernel
theorem dX2_isCloudy_13 : decode cX2_isCloudy 13 = .ok (.goto 4, 3) := by decide +kernel
theorem dX2_isCloudy_16 : decode cX2_isCloudy 16 = .ok (.iconst 0, 1) := by decide +kernel
theorem dX2_isCloudy_17 : decode cX2_isCloudy 17 = .ok (.ireturn, 1) := by decide +kernel
theorem dX2_setCloudy_0 : decode cX2_setCloudy 0 = .ok (.aload_n 0, 1) := by decide +kernel
theorem dX2_setCloudy_1 : decode cX2_setCloudy 1 = .ok (.iload_n 2, 1) := by decide +kernel
theorem dX2_setCloudy_2 : decode cX2_setCloudy 2 = .ok (.ifCond .eq 14, 3) := by decide +kernel
theorem dX2_setCloudy_5 : decode cX2_setCloudy 5 = .ok (.aload_n 0, 1) := by decide +kernel
theorem dX2_setCloudy_6 : decode cX2_setCloudy 6 = .ok (.getfield 40, 3) := by decide +kernel
theorem dX2_setCloudy_9 : decode cX2_setCloudy 9 = .ok (.iconst 1, 1) := by decide +kernel
theorem dX2_setCloudy_10 : decode cX2_setCloudy 10 = .ok (.iload_n 1, 1) := by decide +kernel
theorem dX2_setCloudy_11 : decode cX2_setCloudy 11 = .ok (.ishl, 1) := by decide +kernel
theorem dX2_setCloudy_12 : decode cX2_setCloudy 12 = .ok (.ior, 1) := by decide +kernel
theorem dX2_setCloudy_13 : decode cX2_setCloudy 13 = .ok (.goto 13, 3) := by decide +kernel
theorem dX2_setCloudy_16 : decode cX2_setCloudy 16 = .ok (.aload_n 0, 1) := by decide +kernel
theorem dX2_setCloudy_17 : decode cX2_setCloudy 17 = .ok (.getfield 40, 3) := by decide +kernel
theorem dX2_setCloudy_20 : decode cX2_setCloudy 20 = .ok (.iconst 1, 1) := by decide +kernel
theorem dX2_setCloudy_21 : decode cX2_setCloudy 21 = .ok (.iload_n 1, 1) := by decide +kernel
theorem dX2_setCloudy_22 : decode cX2_setCloudy 22 = .ok (.ishl, 1) := by decide +kernel
theorem dX2_setCloudy_23 : decode cX2_setCloudy 23 = .ok (.iconst (-1), 1) := by decide +kernel
theorem dX2_setCloudy_24 : decode cX2_setCloudy 24 = .ok (.ixor, 1) := by decide +kernel
theorem dX2_setCloudy_25 : decode cX2_setCloudy 25 = .ok (.iand, 1) := by decide +kernel
theorem dX2_setCloudy_26 : decode cX2_setCloudy 26 = .ok (.putfield 40, 3) := by decide +kernel
theorem dX2_setCloudy_29 : decode cX2_setCloudy 29 = .ok (.return_, 1) := by decide +kernel
theorem dX2_setKind_0 : decode cX2_setKind 0 = .ok (.aload_n 0, 1) := by decide +kernel
theorem dX2_setKind_1 : decode cX2_setKind 1 = .ok (.getfield 9, 3) := by decide +kernel
theorem dX2_setKind_4 : decode cX2_setKind 4 = .ok (.iload_n 1, 1) := by decide +kernel
theorem dX2_setKind_5 : decode cX2_setKind 5 = .ok (.iload_n 2, 1) := by decide +kernel
theorem dX2_setKind_6 : decode cX2_setKind 6 = .ok (.iastore, 1) := by decide +kernel
theorem dX2_setKind_7 : decode cX2_setKind 7 = .ok (.aload_n 0, 1) := by decide +kernel
theorem dX2_setKind_8 : decode cX2_setKind 8 = .ok (.invokevirtual 56, 3) := by decide +kernel
theorem dX2_setKind_11 : decode cX2_setKind 11 = .ok (.return_, 1) := by decide +kernel
theorem dX2_setLean_0 : decode cX2_setLean 0 = .ok (.aload_n 0, 1) := by decide +kernel
theorem dX2_setLean_1 : decode cX2_setLean 1 = .ok (.getfield 15, 3) := by decide +kernel
theorem dX2_setLean_4 : decode cX2_setLean 4 = .ok (.iload_n 1, 1) := by decide +kernel
theorem dX2_setLean_5 : decode cX2_setLean 5 = .ok (.iload_n 2, 1) := by decide +kernel
theorem dX2_setLean_6 : decode cX2_setLean 6 = .ok (.iastore, 1) := by decide +kernel
theorem dX2_setLean_7 : decode cX2_setLean 7 = .ok (.aload_n 0, 1) := by decide +kernel
theorem dX2_setLean_8 : decode cX2_setLean 8 = .ok (.invokevirtual 56, 3) := by decide +kernel
theorem dX2_setLean_11 : decode cX2_setLean 11 = .ok (.return_, 1) := by decide +kernel
theorem dX2_setPainted_0 : decode cX2_setPainted 0 = .ok (.aload_n 0, 1) := by decide +kernel
theorem dX2_setPainted_1 : decode cX2_setPainted 1 = .ok (.iload_n 1, 1) := by decide +kernel
theorem dX2_setPainted_2 : decode cX2_setPainted 2 = .ok (.putfield 43, 3) := by decide +kernel
theorem dX2_setPainted_5 : decode cX2_setPainted 5 = .ok (.aload_n 0, 1) := by decide +kernel
theorem dX2_setPainted_6 : decode cX2_setPainted 6 = .ok (.invokevirtual 56, 3) := by decide +kernel
theorem dX2_setPainted_9 : decode cX2_setPainted 9 = .ok (.return_, 1) := by decide +kernel
theorem dX2_setStands_0 : decode cX2_setStands 0 = .ok (.aload_n 0, 1) := by decide +kernel
theorem dX2_setStands_1 : decode cX2_setStands 1 = .ok (.getfield 18, 3) := by decide +kernel
theorem dX2_setStands_4 : decode cX2_setStands 4 = .ok (.iload_n 1, 1) := by decide +kernel
theorem dX2_setStands_5 : decode cX2_setStands 5 = .ok (.iload_n 2, 1) := by decide +kernel
theorem dX2_setStands_6 : decode cX2_setStands 6 = .ok (.iastore, 1) := by decide +kernel
theorem dX2_setStands_7 : decode cX2_setStands 7 = .ok (.aload_n 0, 1) := by decide +kernel
theorem dX2_setStands_8 : decode cX2_setStands 8 = .ok (.invokevirtual 56, 3) := by decide +kernel
theorem dX2_setStands_11 : decode cX2_setStands 11 = .ok (.return_, 1) := by decide +kernel
theorem dX2_exchange_0 : decode cX2_exchange 0 = .ok (.aload_n 0, 1) := by decide +kernel
theorem dX2_exchange_1 : decode cX2_exchange 1 = .ok (.getfield 18, 3) := by decide +kernel
theorem dX2_exchange_4 : decode cX2_exchange 4 = .ok (.iload_n 1, 1) := by decide +kernel
theorem dX2_exchange_5 : decode cX2_exchange 5 = .ok (.iaload, 1) := by decide +kernel
theorem dX2_exchange_6 : decode cX2_exchange 6 = .ok (.istore_n 3, 1) := by decide +kernel
theorem dX2_exchange_7 : decode cX2_exchange 7 = .ok (.aload_n 0, 1) := by decide +kernel
theorem dX2_exchange_8 : decode cX2_exchange 8 = .ok (.getfield 18, 3) := by decide +kernel
theorem dX2_exchange_11 : decode cX2_exchange 11 = .ok (.iload_n 1, 1) := by decide +kernel
theorem dX2_exchange_12 : decode cX2_exchange 12 = .ok (.aload_n 0, 1) := by decide +kernel
theorem dX2_exchange_13 : decode cX2_exchange 13 = .ok (.getfield 18, 3) := by decide +kernel
theorem dX2_exchange_16 : decode cX2_exchange 16 = .ok (.iload_n 2, 1) := by decide +kernel
theorem dX2_exchange_17 : decode cX2_exchange 17 = .ok (.iaload, 1) := by decide +kernel
theorem dX2_exchange_18 : decode cX2_exchange 18 = .ok (.iastore, 1) := by decide +kernel
theorem dX2_exchange_19 : decode cX2_exchange 19 = .ok (.aload_n 0, 1) := by decide +kernel
theorem dX2_exchange_20 : decode cX2_exchange 20 = .ok (.getfield 18, 3) := by decide +kernel
theorem dX2_exchange_23 : decode cX2_exchange 23 = .ok (.iload_n 2, 1) := by decide +kernel
theorem dX2_exchange_24 : decode cX2_exchange 24 = .ok (.iload_n 3, 1) := by decide +kernel
theorem dX2_exchange_25 : decode cX2_exchange 25 = .ok (.iastore, 1) := by decide +kernel
theorem dX2_exchange_26 : decode cX2_exchange 26 = .ok (.aload_n 0, 1) := by decide +kernel
theorem dX2_exchange_27 : decode cX2_exchange 27 = .ok (.invokevirtual 56, 3) := by decide +kernel
theorem dX2_exchange_30 : decode cX2_exchange 30 = .ok (.return_, 1) := by decide +kernel
theorem dX2_setAllStand_0 : decode cX2_setAllStand 0 = .ok (.iconst 0, 1) := by decide +kernel
theorem dX2_setAllStand_1 : decode cX2_setAllStand 1 = .ok (.istore_n 2, 1) := by decide +kernel
theorem dX2_setAllStand_2 : decode cX2_setAllStand 2 = .ok (.iload_n 2, 1) := by decide +kernel
theorem dX2_setAllStand_3 : decode cX2_setAllStand 3 = .ok (.bipush 12, 2) := by decide +kernel
theorem dX2_setAllStand_5 : decode cX2_setAllStand 5 = .ok (.if_icmp .ge 16, 3) := by decide +kernel
theorem dX2_setAllStand_8 : decode cX2_setAllStand 8 = .ok (.aload_n 0, 1) := by decide +kernel
theorem dX2_setAllStand_9 : decode cX2_setAllStand 9 = .ok (.getfield 18, 3) := by decide +kernel
theorem dX2_setAllStand_12 : decode cX2_setAllStand 12 = .ok (.iload_n 2, 1) := by decide +kernel
theorem dX2_setAllStand_13 : decode cX2_setAllStand 13 = .ok (.iload_n 1, 1) := by decide +kernel
theorem dX2_setAllStand_14 : decode cX2_setAllStand 14 = .ok (.iastore, 1) := by decide +kernel
theorem dX2_setAllStand_15 : decode cX2_setAllStand 15 = .ok (.iinc 2 1, 3) := by decide +kernel
theorem dX2_setAllStand_18 : decode cX2_setAllStand 18 = .ok (.goto (-16), 3) := by decide +kernel
theorem dX2_setAllStand_21 : decode cX2_setAllStand 21 = .ok (.aload_n 0, 1) := by decide +kernel
theorem dX2_setAllStand_22 : decode cX2_setAllStand 22 = .ok (.invokevirtual 56, 3) := by decide +kernel
theorem dX2_setAllStand_25 : decode cX2_setAllStand 25 = .ok (.return_, 1) := by decide +kernel
theorem dX2_addMan_0 : decode cX2_addMan 0 = .ok (.aload_n 0, 1) := by decide +kernel
theorem dX2_addMan_1 : decode cX2_addMan 1 = .ok (.getfield 33, 3) := by decide +kernel
theorem dX2_addMan_4 : decode cX2_addMan 4 = .ok (.iconst 4, 1) := by decide +kernel
theorem dX2_addMan_5 : decode cX2_addMan 5 = .ok (.if_icmp .lt 5, 3) := by decide +kernel
theorem dX2_addMan_8 : decode cX2_addMan 8 = .ok (.iconst 0, 1) := by decide +kernel
theorem dX2_addMan_9 : decode cX2_addMan 9 = .ok (.ireturn, 1) := by decide +kernel
theorem dX2_addMan_10 : decode cX2_addMan 10 = .ok (.aload_n 0, 1) := by decide +kernel
theorem dX2_addMan_11 : decode cX2_addMan 11 = .ok (.getfield 9, 3) := by decide +kernel
theorem dX2_addMan_14 : decode cX2_addMan 14 = .ok (.aload_n 0, 1) := by decide +kernel
theorem dX2_addMan_15 : decode cX2_addMan 15 = .ok (.getfield 33, 3) := by decide +kernel
theorem dX2_addMan_18 : decode cX2_addMan 18 = .ok (.iload_n 1, 1) := by decide +kernel
theorem dX2_addMan_19 : decode cX2_addMan 19 = .ok (.iastore, 1) := by decide +kernel
theorem dX2_addMan_20 : decode cX2_addMan 20 = .ok (.aload_n 0, 1) := by decide +kernel
theorem dX2_addMan_21 : decode cX2_addMan 21 = .ok (.getfield 15, 3) := by decide +kernel
theorem dX2_addMan_24 : decode cX2_addMan 24 = .ok (.aload_n 0, 1) := by decide +kernel
theorem dX2_addMan_25 : decode cX2_addMan 25 = .ok (.getfield 33, 3) := by decide +kernel
theorem dX2_addMan_28 : decode cX2_addMan 28 = .ok (.iload_n 2, 1) := by decide +kernel
theorem dX2_addMan_29 : decode cX2_addMan 29 = .ok (.iastore, 1) := by decide +kernel
theorem dX2_addMan_30 : decode cX2_addMan 30 = .ok (.aload_n 0, 1) := by decide +kernel
theorem dX2_addMan_31 : decode cX2_addMan 31 = .ok (.dup, 1) := by decide +kernel
theorem dX2_addMan_32 : decode cX2_addMan 32 = .ok (.getfield 33, 3) := by decide +kernel
theorem dX2_addMan_35 : decode cX2_addMan 35 = .ok (.iconst 1, 1) := by decide +kernel
theorem dX2_addMan_36 : decode cX2_addMan 36 = .ok (.iadd, 1) := by decide +kernel
theorem dX2_addMan_37 : decode cX2_addMan 37 = .ok (.putfield 33, 3) := by decide +kernel
theorem dX2_addMan_40 : decode cX2_addMan 40 = .ok (.aload_n 0, 1) := by decide +kernel
theorem dX2_addMan_41 : decode cX2_addMan 41 = .ok (.invokevirtual 56, 3) := by decide +kernel
theorem dX2_addMan_44 : decode cX2_addMan 44 = .ok (.iconst 1, 1) := by decide +kernel
theorem dX2_addMan_45 : decode cX2_addMan 45 = .ok (.ireturn, 1) := by decide +kernel
theorem dX2_addDeed_0 : decode cX2_addDeed 0 = .ok (.aload_n 0, 1) := by decide +kernel
theorem dX2_addDeed_1 : decode cX2_addDeed 1 = .ok (.getfield 37, 3) := by decide +kernel
theorem dX2_addDeed_4 : decode cX2_addDeed 4 = .ok (.iconst 5, 1) := by decide +kernel
theorem dX2_addDeed_5 : decode cX2_addDeed 5 = .ok (.if_icmp .lt 5, 3) := by decide +kernel
theorem dX2_addDeed_8 : decode cX2_addDeed 8 = .ok (.iconst 0, 1) := by decide +kernel
theorem dX2_addDeed_9 : decode cX2_addDeed 9 = .ok (.ireturn, 1) := by decide +kernel
theorem dX2_addDeed_10 : decode cX2_addDeed 10 = .ok (.aload_n 0, 1) := by decide +kernel
theorem dX2_addDeed_11 : decode cX2_addDeed 11 = .ok (.getfield 21, 3) := by decide +kernel
theorem dX2_addDeed_14 : decode cX2_addDeed 14 = .ok (.aload_n 0, 1) := by decide +kernel
theorem dX2_addDeed_15 : decode cX2_addDeed 15 = .ok (.getfield 37, 3) := by decide +kernel
theorem dX2_addDeed_18 : decode cX2_addDeed 18 = .ok (.iload_n 1, 1) := by decide +kernel
theorem dX2_addDeed_19 : decode cX2_addDeed 19 = .ok (.iastore, 1) := by decide +kernel
theorem dX2_addDeed_20 : decode cX2_addDeed 20 = .ok (.aload_n 0, 1) := by decide +kernel
theorem dX2_addDeed_21 : decode cX2_addDeed 21 = .ok (.getfield 24, 3) := by decide +kernel
theorem dX2_addDeed_24 : decode cX2_addDeed 24 = .ok (.aload_n 0, 1) := by decide +kernel
theorem dX2_addDeed_25 : decode cX2_addDeed 25 = .ok (.getfield 37, 3) := by decide +kernel
theorem dX2_addDeed_28 : decode cX2_addDeed 28 = .ok (.iload_n 2, 1) := by decide +kernel
theorem dX2_addDeed_29 : decode cX2_addDeed 29 = .ok (.iastore, 1) := by decide +kernel
theorem dX2_addDeed_30 : decode cX2_addDeed 30 = .ok (.aload_n 0, 1) := by decide +kernel
theorem dX2_addDeed_31 : decode cX2_addDeed 31 = .ok (.dup, 1) := by decide +kernel
theorem dX2_addDeed_32 : decode cX2_addDeed 32 = .ok (.getfield 37, 3) := by decide +kernel
theorem dX2_addDeed_35 : decode cX2_addDeed 35 = .ok (.iconst 1, 1) := by decide +kernel
theorem dX2_addDeed_36 : decode cX2_addDeed 36 = .ok (.iadd, 1) := by decide +kernel
theorem dX2_addDeed_37 : decode cX2_addDeed 37 = .ok (.putfield 37, 3) := by decide +kernel
theorem dX2_addDeed_40 : decode cX2_addDeed 40 = .ok (.iconst 1, 1) := by decide +kernel
theorem dX2_addDeed_41 : decode cX2_addDeed 41 = .ok (.ireturn, 1) := by decide +kernel
theorem dX2_reckonBends_0 : decode cX2_reckonBends 0 = .ok (.iconst 0, 1) := by decide +kernel
theorem dX2_reckonBends_1 : decode cX2_reckonBends 1 = .ok (.istore_n 1, 1) := by decide +kernel
theorem dX2_reckonBends_2 : decode cX2_reckonBends 2 = .ok (.iconst 0, 1) := by decide +kernel
theorem dX2_reckonBends_3 : decode cX2_reckonBends 3 = .ok (.istore_n 2, 1) := by decide +kernel
theorem dX2_reckonBends_4 : decode cX2_reckonBends 4 = .ok (.iload_n 2, 1) := by decide +kernel
theorem dX2_reckonBends_5 : decode cX2_reckonBends 5 = .ok (.bipush 12, 2) := by decide +kernel
theorem dX2_reckonBends_7 : decode cX2_reckonBends 7 = .ok (.if_icmp .ge 96, 3) := by decide +kernel
theorem dX2_reckonBends_10 : decode cX2_reckonBends 10 = .ok (.aload_n 0, 1) := by decide +kernel
theorem dX2_reckonBends_11 : decode cX2_reckonBends 11 = .ok (.getfield 18, 3) := by decide +kernel
theorem dX2_reckonBends_14 : decode cX2_reckonBends 14 = .ok (.iload_n 2, 1) := by decide +kernel
theorem dX2_reckonBends_15 : decode cX2_reckonBends 15 = .ok (.iaload, 1) := by decide +kernel
theorem dX2_reckonBends_16 : decode cX2_reckonBends 16 = .ok (.istore_n 3, 1) := by decide +kernel
theorem dX2_reckonBends_17 : decode cX2_reckonBends 17 = .ok (.iload_n 2, 1) := by decide +kernel
theorem dX2_reckonBends_18 : decode cX2_reckonBends 18 = .ok (.ifCond .le 19, 3) := by decide +kernel
theorem dX2_reckonBends_21 : decode cX2_reckonBends 21 = .ok (.iload_n 3, 1) := by decide +kernel
theorem dX2_reckonBends_22 : decode cX2_reckonBends 22 = .ok (.aload_n 0, 1) := by decide +kernel
theorem dX2_reckonBends_23 : decode cX2_reckonBends 23 = .ok (.getfield 18, 3) := by decide +kernel
theorem dX2_reckonBends_26 : decode cX2_reckonBends 26 = .ok (.iload_n 2, 1) := by decide +kernel
theorem dX2_reckonBends_27 : decode cX2_reckonBends 27 = .ok (.iconst 1, 1) := by decide +kernel
theorem dX2_reckonBends_28 : decode cX2_reckonBends 28 = .ok (.isub, 1) := by decide +kernel
theorem dX2_reckonBends_29 : decode cX2_reckonBends 29 = .ok (.iaload, 1) := by decide +kernel
theorem dX2_reckonBends_30 : decode cX2_reckonBends 30 = .ok (.if_icmp .ne 7, 3) := by decide +kernel
theorem dX2_reckonBends_33 : decode cX2_reckonBends 33 = .ok (.iconst 1, 1) := by decide +kernel
theorem dX2_reckonBends_34 : decode cX2_reckonBends 34 = .ok (.goto 4, 3) := by decide +kernel
theorem dX2_reckonBends_37 : decode cX2_reckonBends 37 = .ok (.iconst 0, 1) := by decide +kernel
theorem dX2_reckonBends_38 : decode cX2_reckonBends 38 = .ok (.istore 4, 2) := by decide +kernel
theorem dX2_reckonBends_40 : decode cX2_reckonBends 40 = .ok (.iload 4, 2) := by decide +kernel
theorem dX2_reckonBends_42 : decode cX2_reckonBends 42 = .ok (.ifCond .eq 9, 3) := by decide +kernel
theorem dX2_reckonBends_45 : decode cX2_reckonBends 45 = .ok (.iload_n 1, 1) := by decide +kernel
theorem dX2_reckonBends_46 : decode cX2_reckonBends 46 = .ok (.iconst 4, 1) := by decide +kernel
theorem dX2_reckonBends_47 : decode cX2_reckonBends 47 = .ok (.iadd, 1) := by decide +kernel
theorem dX2_reckonBends_48 : decode cX2_reckonBends 48 = .ok (.goto 4, 3) := by decide +kernel
theorem dX2_reckonBends_51 : decode cX2_reckonBends 51 = .ok (.iconst 0, 1) := by decide +kernel
theorem dX2_reckonBends_52 : decode cX2_reckonBends 52 = .ok (.istore_n 1, 1) := by decide +kernel
theorem dX2_reckonBends_53 : decode cX2_reckonBends 53 = .ok (.aload_n 0, 1) := by decide +kernel
theorem dX2_reckonBends_54 : decode cX2_reckonBends 54 = .ok (.getfield 27, 3) := by decide +kernel
theorem dX2_reckonBends_57 : decode cX2_reckonBends 57 = .ok (.iload_n 2, 1) := by decide +kernel
theorem dX2_reckonBends_58 : decode cX2_reckonBends 58 = .ok (.aload_n 0, 1) := by decide +kernel
theorem dX2_reckonBends_59 : decode cX2_reckonBends 59 = .ok (.iload_n 3, 1) := by decide +kernel
theorem dX2_reckonBends_60 : decode cX2_reckonBends 60 = .ok (.invokevirtual 59, 3) := by decide +kernel
theorem dX2_reckonBends_63 : decode cX2_reckonBends 63 = .ok (.ifCond .eq 32, 3) := by decide +kernel
theorem dX2_reckonBends_66 : decode cX2_reckonBends 66 = .ok (.aload_n 0, 1) := by decide +kernel
theorem dX2_reckonBends_67 : decode cX2_reckonBends 67 = .ok (.getfield 9, 3) := by decide +kernel
theorem dX2_reckonBends_70 : decode cX2_reckonBends 70 = .ok (.iload_n 3, 1) := by decide +kernel
theorem dX2_reckonBends_71 : decode cX2_reckonBends 71 = .ok (.iaload, 1) := by decide +kernel
theorem dX2_reckonBends_72 : decode cX2_reckonBends 72 = .ok (.iload_n 2, 1) := by decide +kernel
theorem dX2_reckonBends_73 : decode cX2_reckonBends 73 = .ok (.iload_n 1, 1) := by decide +kernel
theorem dX2_reckonBends_74 : decode cX2_reckonBends 74 = .ok (.invokestatic 63, 3) := by decide +kernel
theorem dX2_reckonBends_77 : decode cX2_reckonBends 77 = .ok (.aload_n 0, 1) := by decide +kernel
theorem dX2_reckonBends_78 : decode cX2_reckonBends 78 = .ok (.getfield 15, 3) := by decide +kernel
theorem dX2_reckonBends_81 : decode cX2_reckonBends 81 = .ok (.iload_n 3, 1) := by decide +kernel
theorem dX2_reckonBends_82 : decode cX2_reckonBends 82 = .ok (.iaload, 1) := by decide +kernel
theorem dX2_reckonBends_83 : decode cX2_reckonBends 83 = .ok (.iadd, 1) := by decide +kernel
theorem dX2_reckonBends_84 : decode cX2_reckonBends 84 = .ok (.aload_n 0, 1) := by decide +kernel
theorem dX2_reckonBends_85 : decode cX2_reckonBends 85 = .ok (.getfield 43, 3) := by decide +kernel
theorem dX2_reckonBends_88 : decode cX2_reckonBends 88 = .ok (.iadd, 1) := by decide +kernel
theorem dX2_reckonBends_89 : decode cX2_reckonBends 89 = .ok (.bipush 6, 2) := by decide +kernel
theorem dX2_reckonBends_91 : decode cX2_reckonBends 91 = .ok (.isub, 1) := by decide +kernel
theorem dX2_reckonBends_92 : decode cX2_reckonBends 92 = .ok (.goto 4, 3) := by decide +kernel
theorem dX2_reckonBends_95 : decode cX2_reckonBends 95 = .ok (.iconst 0, 1) := by decide +kernel
theorem dX2_reckonBends_96 : decode cX2_reckonBends 96 = .ok (.iastore, 1) := by decide +kernel
theorem dX2_reckonBends_97 : decode cX2_reckonBends 97 = .ok (.iinc 2 1, 3) := by decide +kernel
theorem dX2_reckonBends_100 : decode cX2_reckonBends 100 = .ok (.goto (-96), 3) := by decide +kernel
theorem dX2_reckonBends_103 : decode cX2_reckonBends 103 = .ok (.return_, 1) := by decide +kernel
theorem dX2_slip_0 : decode cX2_slip 0 = .ok (.iload_n 0, 1) := by decide +kernel
theorem dX2_slip_1 : decode cX2_slip 1 = .ok (.tableswitch 48 1 3 #[27, 29, 36], 27) := by decide +kernel
theorem dX2_slip_28 : decode cX2_slip 28 = .ok (.iconst (-1), 1) := by decide +kernel
theorem dX2_slip_29 : decode cX2_slip 29 = .ok (.ireturn, 1) := by decide +kernel
theorem dX2_slip_30 : decode cX2_slip 30 = .ok (.iconst (-1), 1) := by decide +kernel
theorem dX2_slip_31 : decode cX2_slip 31 = .ok (.iload_n 2, 1) := by decide +kernel
theorem dX2_slip_32 : decode cX2_slip 32 = .ok (.bipush 8, 2) := by decide +kernel
theorem dX2_slip_34 : decode cX2_slip 34 = .ok (.idiv, 1) := by decide +kernel
theorem dX2_slip_35 : decode cX2_slip 35 = .ok (.isub, 1) := by decide +kernel
theorem dX2_slip_36 : decode cX2_slip 36 = .ok (.ireturn, 1) := by decide +kernel
theorem dX2_slip_37 : decode cX2_slip 37 = .ok (.iload_n 1, 1) := by decide +kernel
theorem dX2_slip_38 : decode cX2_slip 38 = .ok (.iconst 2, 1) := by decide +kernel
theorem dX2_slip_39 : decode cX2_slip 39 = .ok (.irem, 1) := by decide +kernel
theorem dX2_slip_40 : decode cX2_slip 40 = .ok (.ifCond .ne 7, 3) := by decide +kernel
theorem dX2_slip_43 : decode cX2_slip 43 = .ok (.iconst 1, 1) := by decide +kernel
theorem dX2_slip_44 : decode cX2_slip 44 = .ok (.goto 4, 3) := by decide +kernel
theorem dX2_slip_47 : decode cX2_slip 47 = .ok (.iconst (-1), 1) := by decide +kernel
theorem dX2_slip_48 : decode cX2_slip 48 = .ok (.ireturn, 1) := by decide +kernel
theorem dX2_slip_49 : decode cX2_slip 49 = .ok (.iconst 0, 1) := by decide +kernel
theorem dX2_slip_50 : decode cX2_slip 50 = .ok (.ireturn, 1) := by decide +kernel
theorem dX2_readsIn_0 : decode cX2_readsIn 0 = .ok (.aload_n 0, 1) := by decide +kernel
theorem dX2_readsIn_1 : decode cX2_readsIn 1 = .ok (.getfield 18, 3) := by decide +kernel
theorem dX2_readsIn_4 : decode cX2_readsIn 4 = .ok (.iload_n 1, 1) := by decide +kernel
theorem dX2_readsIn_5 : decode cX2_readsIn 5 = .ok (.iaload, 1) := by decide +kernel
theorem dX2_readsIn_6 : decode cX2_readsIn 6 = .ok (.bipush (-4), 2) := by decide +kernel
theorem dX2_readsIn_8 : decode cX2_readsIn 8 = .ok (.if_icmp .eq 15, 3) := by decide +kernel
theorem dX2_readsIn_11 : decode cX2_readsIn 11 = .ok (.aload_n 0, 1) := by decide +kernel
theorem dX2_readsIn_12 : decode cX2_readsIn 12 = .ok (.iload_n 1, 1) := by decide +kernel
theorem dX2_readsIn_13 : decode cX2_readsIn 13 = .ok (.invokevirtual 67, 3) := by decide +kernel
theorem dX2_readsIn_16 : decode cX2_readsIn 16 = .ok (.ifCond .ne 7, 3) := by decide +kernel
theorem dX2_readsIn_19 : decode cX2_readsIn 19 = .ok (.iconst 1, 1) := by decide +kernel
theorem dX2_readsIn_20 : decode cX2_readsIn 20 = .ok (.goto 4, 3) := by decide +kernel
theorem dX2_readsIn_23 : decode cX2_readsIn 23 = .ok (.iconst 0, 1) := by decide +kernel
theorem dX2_readsIn_24 : decode cX2_readsIn 24 = .ok (.ireturn, 1) := by decide +kernel
theorem dX2_reading_0 : decode cX2_reading 0 = .ok (.iload_n 1, 1) := by decide +kernel
theorem dX2_reading_1 : decode cX2_reading 1 = .ok (.iconst 4, 1) := by decide +kernel
theorem dX2_reading_2 : decode cX2_reading 2 = .ok (.idiv, 1) := by decide +kernel
theorem dX2_reading_3 : decode cX2_reading 3 = .ok (.istore_n 2, 1) := by decide +kernel
theorem dX2_reading_4 : decode cX2_reading 4 = .ok (.aload_n 0, 1) := by decide +kernel
theorem dX2_reading_5 : decode cX2_reading 5 = .ok (.iload_n 2, 1) := by decide +kernel
theorem dX2_reading_6 : decode cX2_reading 6 = .ok (.invokevirtual 70, 3) := by decide +kernel
theorem dX2_reading_9 : decode cX2_reading 9 = .ok (.ifCond .ne 6, 3) := by decide +kernel
theorem dX2_reading_12 : decode cX2_reading 12 = .ok (.bipush (-4), 2) := by decide +kernel
theorem dX2_reading_14 : decode cX2_reading 14 = .ok (.ireturn, 1) := by decide +kernel
theorem dX2_reading_15 : decode cX2_reading 15 = .ok (.iconst 0, 1) := by decide +kernel
theorem dX2_reading_16 : decode cX2_reading 16 = .ok (.bipush 47, 2) := by decide +kernel
theorem dX2_reading_18 : decode cX2_reading 18 = .ok (.iload_n 1, 1) := by decide +kernel
theorem dX2_reading_19 : decode cX2_reading 19 = .ok (.aload_n 0, 1) := by decide +kernel
theorem dX2_reading_20 : decode cX2_reading 20 = .ok (.getfield 27, 3) := by decide +kernel
theorem dX2_reading_23 : decode cX2_reading 23 = .ok (.iload_n 2, 1) := by decide +kernel
theorem dX2_reading_24 : decode cX2_reading 24 = .ok (.iaload, 1) := by decide +kernel
theorem dX2_reading_25 : decode cX2_reading 25 = .ok (.iadd, 1) := by decide +kernel
theorem dX2_reading_26 : decode cX2_reading 26 = .ok (.invokestatic 73, 3) := by decide +kernel
theorem dX2_reading_29 : decode cX2_reading 29 = .ok (.invokestatic 79, 3) := by decide +kernel
theorem dX2_reading_32 : decode cX2_reading 32 = .ok (.ireturn, 1) := by decide +kernel
theorem dX2_firstIn_0 : decode cX2_firstIn 0 = .ok (.aload_n 0, 1) := by decide +kernel
theorem dX2_firstIn_1 : decode cX2_firstIn 1 = .ok (.iload_n 1, 1) := by decide +kernel
theorem dX2_firstIn_2 : decode cX2_firstIn 2 = .ok (.invokevirtual 70, 3) := by decide +kernel
theorem dX2_firstIn_5 : decode cX2_firstIn 5 = .ok (.ifCond .ne 6, 3) := by decide +kernel
theorem dX2_firstIn_8 : decode cX2_firstIn 8 = .ok (.bipush (-4), 2) := by decide +kernel
theorem dX2_firstIn_10 : decode cX2_firstIn 10 = .ok (.ireturn, 1) := by decide +kernel
theorem dX2_firstIn_11 : decode cX2_firstIn 11 = .ok (.iload_n 1, 1) := by decide +kernel
theorem dX2_firstIn_12 : decode cX2_firstIn 12 = .ok (.iconst 4, 1) := by decide +kernel
theorem dX2_firstIn_13 : decode cX2_firstIn 13 = .ok (.imul, 1) := by decide +kernel
theorem dX2_firstIn_14 : decode cX2_firstIn 14 = .ok (.istore_n 3, 1) := by decide +kernel
theorem dX2_firstIn_15 : decode cX2_firstIn 15 = .ok (.iload_n 2, 1) := by decide +kernel
theorem dX2_firstIn_16 : decode cX2_firstIn 16 = .ok (.ifCond .ne 7, 3) := by decide +kernel
theorem dX2_firstIn_19 : decode cX2_firstIn 19 = .ok (.iload_n 3, 1) := by decide +kernel
theorem dX2_firstIn_20 : decode cX2_firstIn 20 = .ok (.goto 15, 3) := by decide +kernel
theorem dX2_firstIn_23 : decode cX2_firstIn 23 = .ok (.iload_n 3, 1) := by decide +kernel
theorem dX2_firstIn_24 : decode cX2_firstIn 24 = .ok (.iload_n 2, 1) := by decide +kernel
theorem dX2_firstIn_25 : decode cX2_firstIn 25 = .ok (.aload_n 0, 1) := by decide +kernel
theorem dX2_firstIn_26 : decode cX2_firstIn 26 = .ok (.getfield 27, 3) := by decide +kernel
theorem dX2_firstIn_29 : decode cX2_firstIn 29 = .ok (.iload_n 1, 1) := by decide +kernel
theorem dX2_firstIn_30 : decode cX2_firstIn 30 = .ok (.iaload, 1) := by decide +kernel
theorem dX2_firstIn_31 : decode cX2_firstIn 31 = .ok (.isub, 1) := by decide +kernel
theorem dX2_firstIn_32 : decode cX2_firstIn 32 = .ok (.invokestatic 79, 3) := by decide +kernel
theorem dX2_firstIn_35 : decode cX2_firstIn 35 = .ok (.istore 4, 2) := by decide +kernel
theorem dX2_firstIn_37 : decode cX2_firstIn 37 = .ok (.iload 4, 2) := by decide +kernel
theorem dX2_firstIn_39 : decode cX2_firstIn 39 = .ok (.iload_n 3, 1) := by decide +kernel
theorem dX2_firstIn_40 : decode cX2_firstIn 40 = .ok (.iconst 4, 1) := by decide +kernel
theorem dX2_firstIn_41 : decode cX2_firstIn 41 = .ok (.iadd, 1) := by decide +kernel
theorem dX2_firstIn_42 : decode cX2_firstIn 42 = .ok (.if_icmp .ge 8, 3) := by decide +kernel
theorem dX2_firstIn_45 : decode cX2_firstIn 45 = .ok (.iload 4, 2) := by decide +kernel
theorem dX2_firstIn_47 : decode cX2_firstIn 47 = .ok (.goto 5, 3) := by decide +kernel
theorem dX2_firstIn_50 : decode cX2_firstIn 50 = .ok (.bipush (-4), 2) := by decide +kernel
theorem dX2_firstIn_52 : decode cX2_firstIn 52 = .ok (.ireturn, 1) := by decide +kernel
theorem dX2_doneAt_0 : decode cX2_doneAt 0 = .ok (.iconst 0, 1) := by decide +kernel
theorem dX2_doneAt_1 : decode cX2_doneAt 1 = .ok (.istore_n 2, 1) := by decide +kernel
theorem dX2_doneAt_2 : decode cX2_doneAt 2 = .ok (.iload_n 2, 1) := by decide +kernel
theorem dX2_doneAt_3 : decode cX2_doneAt 3 = .ok (.bipush 12, 2) := by decide +kernel
theorem dX2_doneAt_5 : decode cX2_doneAt 5 = .ok (.if_icmp .ge 29, 3) := by decide +kernel
theorem dX2_doneAt_8 : decode cX2_doneAt 8 = .ok (.aload_n 0, 1) := by decide +kernel
theorem dX2_doneAt_9 : decode cX2_doneAt 9 = .ok (.iload_n 2, 1) := by decide +kernel
theorem dX2_doneAt_10 : decode cX2_doneAt 10 = .ok (.aload_n 0, 1) := by decide +kernel
theorem dX2_doneAt_11 : decode cX2_doneAt 11 = .ok (.getfield 21, 3) := by decide +kernel
theorem dX2_doneAt_14 : decode cX2_doneAt 14 = .ok (.iload_n 1, 1) := by decide +kernel
theorem dX2_doneAt_15 : decode cX2_doneAt 15 = .ok (.iaload, 1) := by decide +kernel
theorem dX2_doneAt_16 : decode cX2_doneAt 16 = .ok (.invokevirtual 82, 3) := by decide +kernel
theorem dX2_doneAt_19 : decode cX2_doneAt 19 = .ok (.istore_n 3, 1) := by decide +kernel
theorem dX2_doneAt_20 : decode cX2_doneAt 20 = .ok (.iload_n 3, 1) := by decide +kernel
theorem dX2_doneAt_21 : decode cX2_doneAt 21 = .ok (.bipush (-4), 2) := by decide +kernel
theorem dX2_doneAt_23 : decode cX2_doneAt 23 = .ok (.if_icmp .eq 5, 3) := by decide +kernel
theorem dX2_doneAt_26 : decode cX2_doneAt 26 = .ok (.iload_n 3, 1) := by decide +kernel
theorem dX2_doneAt_27 : decode cX2_doneAt 27 = .ok (.ireturn, 1) := by decide +kernel
theorem dX2_doneAt_28 : decode cX2_doneAt 28 = .ok (.iinc 2 1, 3) := by decide +kernel
theorem dX2_doneAt_31 : decode cX2_doneAt 31 = .ok (.goto (-29), 3) := by decide +kernel
theorem dX2_doneAt_34 : decode cX2_doneAt 34 = .ok (.bipush (-4), 2) := by decide +kernel
theorem dX2_doneAt_36 : decode cX2_doneAt 36 = .ok (.ireturn, 1) := by decide +kernel
theorem dX2_harmAt_0 : decode cX2_harmAt 0 = .ok (.aload_n 0, 1) := by decide +kernel
theorem dX2_harmAt_1 : decode cX2_harmAt 1 = .ok (.getfield 24, 3) := by decide +kernel
theorem dX2_harmAt_4 : decode cX2_harmAt 4 = .ok (.iload_n 1, 1) := by decide +kernel
theorem dX2_harmAt_5 : decode cX2_harmAt 5 = .ok (.iaload, 1) := by decide +kernel
theorem dX2_harmAt_6 : decode cX2_harmAt 6 = .ok (.iload_n 2, 1) := by decide +kernel
theorem dX2_harmAt_7 : decode cX2_harmAt 7 = .ok (.bipush (-4), 2) := by decide +kernel
theorem dX2_harmAt_9 : decode cX2_harmAt 9 = .ok (.if_icmp .ne 8, 3) := by decide +kernel
theorem dX2_harmAt_12 : decode cX2_harmAt 12 = .ok (.bipush 48, 2) := by decide +kernel
theorem dX2_harmAt_14 : decode cX2_harmAt 14 = .ok (.goto 14, 3) := by decide +kernel
theorem dX2_harmAt_17 : decode cX2_harmAt 17 = .ok (.iload_n 2, 1) := by decide +kernel
theorem dX2_harmAt_18 : decode cX2_harmAt 18 = .ok (.aload_n 0, 1) := by decide +kernel
theorem dX2_harmAt_19 : decode cX2_harmAt 19 = .ok (.getfield 21, 3) := by decide +kernel
theorem dX2_harmAt_22 : decode cX2_harmAt 22 = .ok (.iload_n 1, 1) := by decide +kernel
theorem dX2_harmAt_23 : decode cX2_harmAt 23 = .ok (.iaload, 1) := by decide +kernel
theorem dX2_harmAt_24 : decode cX2_harmAt 24 = .ok (.isub, 1) := by decide +kernel
theorem dX2_harmAt_25 : decode cX2_harmAt 25 = .ok (.invokestatic 85, 3) := by decide +kernel
theorem dX2_harmAt_28 : decode cX2_harmAt 28 = .ok (.imul, 1) := by decide +kernel
theorem dX2_harmAt_29 : decode cX2_harmAt 29 = .ok (.ireturn, 1) := by decide +kernel
theorem dX2_harm_0 : decode cX2_harm 0 = .ok (.iconst 0, 1) := by decide +kernel
theorem dX2_harm_1 : decode cX2_harm 1 = .ok (.istore_n 1, 1) := by decide +kernel
theorem dX2_harm_2 : decode cX2_harm 2 = .ok (.iconst 0, 1) := by decide +kernel
theorem dX2_harm_3 : decode cX2_harm 3 = .ok (.istore_n 2, 1) := by decide +kernel
theorem dX2_harm_4 : decode cX2_harm 4 = .ok (.iload_n 2, 1) := by decide +kernel
theorem dX2_harm_5 : decode cX2_harm 5 = .ok (.aload_n 0, 1) := by decide +kernel
theorem dX2_harm_6 : decode cX2_harm 6 = .ok (.getfield 37, 3) := by decide +kernel
theorem dX2_harm_9 : decode cX2_harm 9 = .ok (.if_icmp .ge 22, 3) := by decide +kernel
theorem dX2_harm_12 : decode cX2_harm 12 = .ok (.iload_n 1, 1) := by decide +kernel
theorem dX2_harm_13 : decode cX2_harm 13 = .ok (.aload_n 0, 1) := by decide +kernel
theorem dX2_harm_14 : decode cX2_harm 14 = .ok (.iload_n 2, 1) := by decide +kernel
theorem dX2_harm_15 : decode cX2_harm 15 = .ok (.aload_n 0, 1) := by decide +kernel
theorem dX2_harm_16 : decode cX2_harm 16 = .ok (.iload_n 2, 1) := by decide +kernel
theorem dX2_harm_17 : decode cX2_harm 17 = .ok (.invokevirtual 89, 3) := by decide +kernel
theorem dX2_harm_20 : decode cX2_harm 20 = .ok (.invokevirtual 92, 3) := by decide +kernel
theorem dX2_harm_23 : decode cX2_harm 23 = .ok (.iadd, 1) := by decide +kernel
theorem dX2_harm_24 : decode cX2_harm 24 = .ok (.istore_n 1, 1) := by decide +kernel
theorem dX2_harm_25 : decode cX2_harm 25 = .ok (.iinc 2 1, 3) := by decide +kernel
theorem dX2_harm_28 : decode cX2_harm 28 = .ok (.goto (-24), 3) := by decide +kernel
theorem dX2_harm_31 : decode cX2_harm 31 = .ok (.iload_n 1, 1) := by decide +kernel
theorem dX2_harm_32 : decode cX2_harm 32 = .ok (.ireturn, 1) := by decide +kernel
theorem dX2_hoursStood_0 : decode cX2_hoursStood 0 = .ok (.iconst 0, 1) := by decide +kernel
theorem dX2_hoursStood_1 : decode cX2_hoursStood 1 = .ok (.istore_n 1, 1) := by decide +kernel
theorem dX2_hoursStood_2 : decode cX2_hoursStood 2 = .ok (.iconst 0, 1) := by decide +kernel
theorem dX2_hoursStood_3 : decode cX2_hoursStood 3 = .ok (.istore_n 2, 1) := by decide +kernel
theorem dX2_hoursStood_4 : decode cX2_hoursStood 4 = .ok (.iload_n 2, 1) := by decide +kernel
theorem dX2_hoursStood_5 : decode cX2_hoursStood 5 = .ok (.bipush 12, 2) := by decide +kernel
theorem dX2_hoursStood_7 : decode cX2_hoursStood 7 = .ok (.if_icmp .ge 26, 3) := by decide +kernel
theorem dX2_hoursStood_10 : decode cX2_hoursStood 10 = .ok (.aload_n 0, 1) := by decide +kernel
theorem dX2_hoursStood_11 : decode cX2_hoursStood 11 = .ok (.getfield 18, 3) := by decide +kernel
theorem dX2_hoursStood_14 : decode cX2_hoursStood 14 = .ok (.iload_n 2, 1) := by decide +kernel
theorem dX2_hoursStood_15 : decode cX2_hoursStood 15 = .ok (.iaload, 1) := by decide +kernel
theorem dX2_hoursStood_16 : decode cX2_hoursStood 16 = .ok (.bipush (-4), 2) := by decide +kernel
theorem dX2_hoursStood_18 : decode cX2_hoursStood 18 = .ok (.if_icmp .eq 9, 3) := by decide +kernel
theorem dX2_hoursStood_21 : decode cX2_hoursStood 21 = .ok (.iload_n 1, 1) := by decide +kernel
theorem dX2_hoursStood_22 : decode cX2_hoursStood 22 = .ok (.iconst 1, 1) := by decide +kernel
theorem dX2_hoursStood_23 : decode cX2_hoursStood 23 = .ok (.iload_n 2, 1) := by decide +kernel
theorem dX2_hoursStood_24 : decode cX2_hoursStood 24 = .ok (.ishl, 1) := by decide +kernel
theorem dX2_hoursStood_25 : decode cX2_hoursStood 25 = .ok (.ior, 1) := by decide +kernel
theorem dX2_hoursStood_26 : decode cX2_hoursStood 26 = .ok (.istore_n 1, 1) := by decide +kernel
theorem dX2_hoursStood_27 : decode cX2_hoursStood 27 = .ok (.iinc 2 1, 3) := by decide +kernel
theorem dX2_hoursStood_30 : decode cX2_hoursStood 30 = .ok (.goto (-26), 3) := by decide +kernel
theorem dX2_hoursStood_33 : decode cX2_hoursStood 33 = .ok (.iload_n 1, 1) := by decide +kernel
theorem dX2_hoursStood_34 : decode cX2_hoursStood 34 = .ok (.ireturn, 1) := by decide +kernel
theorem dX2_hoursOf_0 : decode cX2_hoursOf 0 = .ok (.iconst 0, 1) := by decide +kernel
theorem dX2_hoursOf_1 : decode cX2_hoursOf 1 = .ok (.istore_n 2, 1) := by decide +kernel
theorem dX2_hoursOf_2 : decode cX2_hoursOf 2 = .ok (.iconst 0, 1) := by decide +kernel
theorem dX2_hoursOf_3 : decode cX2_hoursOf 3 = .ok (.istore_n 3, 1) := by decide +kernel
theorem dX2_hoursOf_4 : decode cX2_hoursOf 4 = .ok (.iload_n 3, 1) := by decide +kernel
theorem dX2_hoursOf_5 : decode cX2_hoursOf 5 = .ok (.bipush 12, 2) := by decide +kernel
theorem dX2_hoursOf_7 : decode cX2_hoursOf 7 = .ok (.if_icmp .ge 25, 3) := by decide +kernel
theorem dX2_hoursOf_10 : decode cX2_hoursOf 10 = .ok (.aload_n 0, 1) := by decide +kernel
theorem dX2_hoursOf_11 : decode cX2_hoursOf 11 = .ok (.getfield 18, 3) := by decide +kernel
theorem dX2_hoursOf_14 : decode cX2_hoursOf 14 = .ok (.iload_n 3, 1) := by decide +kernel
theorem dX2_hoursOf_15 : decode cX2_hoursOf 15 = .ok (.iaload, 1) := by decide +kernel
theorem dX2_hoursOf_16 : decode cX2_hoursOf 16 = .ok (.iload_n 1, 1) := by decide +kernel
theorem dX2_hoursOf_17 : decode cX2_hoursOf 17 = .ok (.if_icmp .ne 9, 3) := by decide +kernel
theorem dX2_hoursOf_20 : decode cX2_hoursOf 20 = .ok (.iload_n 2, 1) := by decide +kernel
theorem dX2_hoursOf_21 : decode cX2_hoursOf 21 = .ok (.iconst 1, 1) := by decide +kernel
theorem dX2_hoursOf_22 : decode cX2_hoursOf 22 = .ok (.iload_n 3, 1) := by decide +kernel
theorem dX2_hoursOf_23 : decode cX2_hoursOf 23 = .ok (.ishl, 1) := by decide +kernel
theorem dX2_hoursOf_24 : decode cX2_hoursOf 24 = .ok (.ior, 1) := by decide +kernel
theorem dX2_hoursOf_25 : decode cX2_hoursOf 25 = .ok (.istore_n 2, 1) := by decide +kernel
theorem dX2_hoursOf_26 : decode cX2_hoursOf 26 = .ok (.iinc 3 1, 3) := by decide +kernel
theorem dX2_hoursOf_29 : decode cX2_hoursOf 29 = .ok (.goto (-25), 3) := by decide +kernel
theorem dX2_hoursOf_32 : decode cX2_hoursOf 32 = .ok (.iload_n 2, 1) := by decide +kernel
theorem dX2_hoursOf_33 : decode cX2_hoursOf 33 = .ok (.ireturn, 1) := by decide +kernel
theorem dX2_longestStood_0 : decode cX2_longestStood 0 = .ok (.iconst 0, 1) := by decide +kernel
theorem dX2_longestStood_1 : decode cX2_longestStood 1 = .ok (.istore_n 2, 1) := by decide +kernel
theorem dX2_longestStood_2 : decode cX2_longestStood 2 = .ok (.iconst 0, 1) := by decide +kernel
theorem dX2_longestStood_3 : decode cX2_longestStood 3 = .ok (.istore_n 3, 1) := by decide +kernel
theorem dX2_longestStood_4 : decode cX2_longestStood 4 = .ok (.iconst 0, 1) := by decide +kernel
theorem dX2_longestStood_5 : decode cX2_longestStood 5 = .ok (.istore 4, 2) := by decide +kernel
theorem dX2_longestStood_7 : decode cX2_longestStood 7 = .ok (.iload 4, 2) := by decide +kernel
theorem dX2_longestStood_9 : decode cX2_longestStood 9 = .ok (.bipush 12, 2) := by decide +kernel
theorem dX2_longestStood_11 : decode cX2_longestStood 11 = .ok (.if_icmp .ge 34, 3) := by decide +kernel
theorem dX2_longestStood_14 : decode cX2_longestStood 14 = .ok (.aload_n 0, 1) := by decide +kernel
theorem dX2_longestStood_15 : decode cX2_longestStood 15 = .ok (.getfield 18, 3) := by decide +kernel
theorem dX2_longestStood_18 : decode cX2_longestStood 18 = .ok (.iload 4, 2) := by decide +kernel
theorem dX2_longestStood_20 : decode cX2_longestStood 20 = .ok (.iaload, 1) := by decide +kernel
theorem dX2_longestStood_21 : decode cX2_longestStood 21 = .ok (.iload_n 1, 1) := by decide +kernel
theorem dX2_longestStood_22 : decode cX2_longestStood 22 = .ok (.if_icmp .ne 9, 3) := by decide +kernel
theorem dX2_longestStood_25 : decode cX2_longestStood 25 = .ok (.iload_n 2, 1) := by decide +kernel
theorem dX2_longestStood_26 : decode cX2_longestStood 26 = .ok (.iconst 1, 1) := by decide +kernel
theorem dX2_longestStood_27 : decode cX2_longestStood 27 = .ok (.iadd, 1) := by decide +kernel
theorem dX2_longestStood_28 : decode cX2_longestStood 28 = .ok (.goto 4, 3) := by decide +kernel
theorem dX2_longestStood_31 : decode cX2_longestStood 31 = .ok (.iconst 0, 1) := by decide +kernel
theorem dX2_longestStood_32 : decode cX2_longestStood 32 = .ok (.istore_n 2, 1) := by decide +kernel
theorem dX2_longestStood_33 : decode cX2_longestStood 33 = .ok (.iload_n 3, 1) := by decide +kernel
theorem dX2_longestStood_34 : decode cX2_longestStood 34 = .ok (.iload_n 2, 1) := by decide +kernel
theorem dX2_longestStood_35 : decode cX2_longestStood 35 = .ok (.invokestatic 79, 3) := by decide +kernel
theorem dX2_longestStood_38 : decode cX2_longestStood 38 = .ok (.istore_n 3, 1) := by decide +kernel
theorem dX2_longestStood_39 : decode cX2_longestStood 39 = .ok (.iinc 4 1, 3) := by decide +kernel
theorem dX2_longestStood_42 : decode cX2_longestStood 42 = .ok (.goto (-35), 3) := by decide +kernel
theorem dX2_longestStood_45 : decode cX2_longestStood 45 = .ok (.iload_n 3, 1) := by decide +kernel
theorem dX2_longestStood_46 : decode cX2_longestStood 46 = .ok (.ifCond .ne 8, 3) := by decide +kernel
theorem dX2_longestStood_49 : decode cX2_longestStood 49 = .ok (.bipush (-4), 2) := by decide +kernel
theorem dX2_longestStood_51 : decode cX2_longestStood 51 = .ok (.goto 8, 3) := by decide +kernel
theorem dX2_longestStood_54 : decode cX2_longestStood 54 = .ok (.iload_n 3, 1) := by decide +kernel
theorem dX2_longestStood_55 : decode cX2_longestStood 55 = .ok (.iconst 4, 1) := by decide +kernel
theorem dX2_longestStood_56 : decode cX2_longestStood 56 = .ok (.imul, 1) := by decide +kernel
theorem dX2_longestStood_57 : decode cX2_longestStood 57 = .ok (.iconst 1, 1) := by decide +kernel
theorem dX2_longestStood_58 : decode cX2_longestStood 58 = .ok (.isub, 1) := by decide +kernel
theorem dX2_longestStood_59 : decode cX2_longestStood 59 = .ok (.ireturn, 1) := by decide +kernel
theorem dX2_allWhoStandAreThere_0 : decode cX2_allWhoStandAreThere 0 = .ok (.iconst 0, 1) := by decide +kernel
theorem dX2_allWhoStandAreThere_1 : decode cX2_allWhoStandAreThere 1 = .ok (.istore_n 1, 1) := by decide +kernel
theorem dX2_allWhoStandAreThere_2 : decode cX2_allWhoStandAreThere 2 = .ok (.iload_n 1, 1) := by decide +kernel
theorem dX2_allWhoStandAreThere_3 : decode cX2_allWhoStandAreThere 3 = .ok (.bipush 12, 2) := by decide +kernel
theorem dX2_allWhoStandAreThere_5 : decode cX2_allWhoStandAreThere 5 = .ok (.if_icmp .ge 35, 3) := by decide +kernel
theorem dX2_allWhoStandAreThere_8 : decode cX2_allWhoStandAreThere 8 = .ok (.aload_n 0, 1) := by decide +kernel
theorem dX2_allWhoStandAreThere_9 : decode cX2_allWhoStandAreThere 9 = .ok (.getfield 18, 3) := by decide +kernel
theorem dX2_allWhoStandAreThere_12 : decode cX2_allWhoStandAreThere 12 = .ok (.iload_n 1, 1) := by decide +kernel
theorem dX2_allWhoStandAreThere_13 : decode cX2_allWhoStandAreThere 13 = .ok (.iaload, 1) := by decide +kernel
theorem dX2_allWhoStandAreThere_14 : decode cX2_allWhoStandAreThere 14 = .ok (.bipush (-4), 2) := by decide +kernel
theorem dX2_allWhoStandAreThere_16 : decode cX2_allWhoStandAreThere 16 = .ok (.if_icmp .eq 18, 3) := by decide +kernel
theorem dX2_allWhoStandAreThere_19 : decode cX2_allWhoStandAreThere 19 = .ok (.aload_n 0, 1) := by decide +kernel
theorem dX2_allWhoStandAreThere_20 : decode cX2_allWhoStandAreThere 20 = .ok (.aload_n 0, 1) := by decide +kernel
theorem dX2_allWhoStandAreThere_21 : decode cX2_allWhoStandAreThere 21 = .ok (.getfield 18, 3) := by decide +kernel
theorem dX2_allWhoStandAreThere_24 : decode cX2_allWhoStandAreThere 24 = .ok (.iload_n 1, 1) := by decide +kernel
theorem dX2_allWhoStandAreThere_25 : decode cX2_allWhoStandAreThere 25 = .ok (.iaload, 1) := by decide +kernel
theorem dX2_allWhoStandAreThere_26 : decode cX2_allWhoStandAreThere 26 = .ok (.invokevirtual 59, 3) := by decide +kernel
theorem dX2_allWhoStandAreThere_29 : decode cX2_allWhoStandAreThere 29 = .ok (.ifCond .ne 5, 3) := by decide +kernel
theorem dX2_allWhoStandAreThere_32 : decode cX2_allWhoStandAreThere 32 = .ok (.iconst 0, 1) := by decide +kernel
theorem dX2_allWhoStandAreThere_33 : decode cX2_allWhoStandAreThere 33 = .ok (.ireturn, 1) := by decide +kernel
theorem dX2_allWhoStandAreThere_34 : decode cX2_allWhoStandAreThere 34 = .ok (.iinc 1 1, 3) := by decide +kernel
theorem dX2_allWhoStandAreThere_37 : decode cX2_allWhoStandAreThere 37 = .ok (.goto (-35), 3) := by decide +kernel
theorem dX2_allWhoStandAreThere_40 : decode cX2_allWhoStandAreThere 40 = .ok (.iconst 1, 1) := by decide +kernel
theorem dX2_allWhoStandAreThere_41 : decode cX2_allWhoStandAreThere 41 = .ok (.ireturn, 1) := by decide +kernel
theorem dX2_allWorth_0 : decode cX2_allWorth 0 = .ok (.iconst 0, 1) := by decide +kernel
theorem dX2_allWorth_1 : decode cX2_allWorth 1 = .ok (.istore_n 1, 1) := by decide +kernel
theorem dX2_allWorth_2 : decode cX2_allWorth 2 = .ok (.iconst 0, 1) := by decide +kernel
theorem dX2_allWorth_3 : decode cX2_allWorth 3 = .ok (.istore_n 2, 1) := by decide +kernel
theorem dX2_allWorth_4 : decode cX2_allWorth 4 = .ok (.iload_n 2, 1) := by decide +kernel
theorem dX2_allWorth_5 : decode cX2_allWorth 5 = .ok (.aload_n 0, 1) := by decide +kernel
theorem dX2_allWorth_6 : decode cX2_allWorth 6 = .ok (.getfield 37, 3) := by decide +kernel
theorem dX2_allWorth_9 : decode cX2_allWorth 9 = .ok (.if_icmp .ge 18, 3) := by decide +kernel
theorem dX2_allWorth_12 : decode cX2_allWorth 12 = .ok (.iload_n 1, 1) := by decide +kernel
theorem dX2_allWorth_13 : decode cX2_allWorth 13 = .ok (.aload_n 0, 1) := by decide +kernel
theorem dX2_allWorth_14 : decode cX2_allWorth 14 = .ok (.getfield 24, 3) := by decide +kernel
theorem dX2_allWorth_17 : decode cX2_allWorth 17 = .ok (.iload_n 2, 1) := by decide +kernel
theorem dX2_allWorth_18 : decode cX2_allWorth 18 = .ok (.iaload, 1) := by decide +kernel
theorem dX2_allWorth_19 : decode cX2_allWorth 19 = .ok (.iadd, 1) := by decide +kernel
theorem dX2_allWorth_20 : decode cX2_allWorth 20 = .ok (.istore_n 1, 1) := by decide +kernel
theorem dX2_allWorth_21 : decode cX2_allWorth 21 = .ok (.iinc 2 1, 3) := by decide +kernel
theorem dX2_allWorth_24 : decode cX2_allWorth 24 = .ok (.goto (-20), 3) := by decide +kernel
theorem dX2_allWorth_27 : decode cX2_allWorth 27 = .ok (.iload_n 1, 1) := by decide +kernel
theorem dX2_allWorth_28 : decode cX2_allWorth 28 = .ok (.ireturn, 1) := by decide +kernel
theorem dX2_quartersRead_0 : decode cX2_quartersRead 0 = .ok (.iconst 0, 1) := by decide +kernel
theorem dX2_quartersRead_1 : decode cX2_quartersRead 1 = .ok (.istore_n 1, 1) := by decide +kernel
theorem dX2_quartersRead_2 : decode cX2_quartersRead 2 = .ok (.iconst 0, 1) := by decide +kernel
theorem dX2_quartersRead_3 : decode cX2_quartersRead 3 = .ok (.istore_n 2, 1) := by decide +kernel
theorem dX2_quartersRead_4 : decode cX2_quartersRead 4 = .ok (.iload_n 2, 1) := by decide +kernel
theorem dX2_quartersRead_5 : decode cX2_quartersRead 5 = .ok (.bipush 12, 2) := by decide +kernel
theorem dX2_quartersRead_7 : decode cX2_quartersRead 7 = .ok (.if_icmp .ge 25, 3) := by decide +kernel
theorem dX2_quartersRead_10 : decode cX2_quartersRead 10 = .ok (.iload_n 1, 1) := by decide +kernel
theorem dX2_quartersRead_11 : decode cX2_quartersRead 11 = .ok (.aload_n 0, 1) := by decide +kernel
theorem dX2_quartersRead_12 : decode cX2_quartersRead 12 = .ok (.iload_n 2, 1) := by decide +kernel
theorem dX2_quartersRead_13 : decode cX2_quartersRead 13 = .ok (.invokevirtual 70, 3) := by decide +kernel
theorem dX2_quartersRead_16 : decode cX2_quartersRead 16 = .ok (.ifCond .eq 7, 3) := by decide +kernel
theorem dX2_quartersRead_19 : decode cX2_quartersRead 19 = .ok (.iconst 4, 1) := by decide +kernel
theorem dX2_quartersRead_20 : decode cX2_quartersRead 20 = .ok (.goto 4, 3) := by decide +kernel
theorem dX2_quartersRead_23 : decode cX2_quartersRead 23 = .ok (.iconst 0, 1) := by decide +kernel
theorem dX2_quartersRead_24 : decode cX2_quartersRead 24 = .ok (.iadd, 1) := by decide +kernel
theorem dX2_quartersRead_25 : decode cX2_quartersRead 25 = .ok (.istore_n 1, 1) := by decide +kernel
theorem dX2_quartersRead_26 : decode cX2_quartersRead 26 = .ok (.iinc 2 1, 3) := by decide +kernel
theorem dX2_quartersRead_29 : decode cX2_quartersRead 29 = .ok (.goto (-25), 3) := by decide +kernel
theorem dX2_quartersRead_32 : decode cX2_quartersRead 32 = .ok (.iload_n 1, 1) := by decide +kernel
theorem dX2_quartersRead_33 : decode cX2_quartersRead 33 = .ok (.ireturn, 1) := by decide +kernel
end
section
theorem dX3_init_0 : decode cX3_init 0 = .ok (.aload_n 0, 1) := by decide +kernel
theorem dX3_init_1 : decode cX3_init 1 = .ok (.invokespecial 1, 3) := by decide +kernel
theorem dX3_init_4 : decode cX3_init 4 = .ok (.aload_n 0, 1) := by decide +kernel
theorem dX3_init_5 : decode cX3_init 5 = .ok (.new 7, 3) := by decide +kernel
theorem dX3_init_8 : decode cX3_init 8 = .ok (.dup, 1) := by decide +kernel
theorem dX3_init_9 : decode cX3_init 9 = .ok (.invokespecial 9, 3) := by decide +kernel
theorem dX3_init_12 : decode cX3_init 12 = .ok (.putfield 10, 3) := by decide +kernel
theorem dX3_init_15 : decode cX3_init 15 = .ok (.aload_n 0, 1) := by decide +kernel
theorem dX3_init_16 : decode cX3_init 16 = .ok (.new 7, 3) := by decide +kernel
theorem dX3_init_19 : decode cX3_init 19 = .ok (.dup, 1) := by decide +kernel
theorem dX3_init_20 : decode cX3_init 20 = .ok (.invokespecial 9, 3) := by decide +kernel
theorem dX3_init_23 : decode cX3_init 23 = .ok (.putfield 16, 3) := by decide +kernel
theorem dX3_init_26 : decode cX3_init 26 = .ok (.aload_n 0, 1) := by decide +kernel
theorem dX3_init_27 : decode cX3_init 27 = .ok (.iconst 2, 1) := by decide +kernel
theorem dX3_init_28 : decode cX3_init 28 = .ok (.anewarray 7, 3) := by decide +kernel
theorem dX3_init_31 : decode cX3_init 31 = .ok (.putfield 19, 3) := by decide +kernel
theorem dX3_init_34 : decode cX3_init 34 = .ok (.aload_n 0, 1) := by decide +kernel
theorem dX3_init_35 : decode cX3_init 35 = .ok (.iconst 2, 1) := by decide +kernel
theorem dX3_init_36 : decode cX3_init 36 = .ok (.newarray .boolean, 2) := by decide +kernel
theorem dX3_init_38 : decode cX3_init 38 = .ok (.putfield 23, 3) := by decide +kernel
theorem dX3_init_41 : decode cX3_init 41 = .ok (.aload_n 0, 1) := by decide +kernel
theorem dX3_init_42 : decode cX3_init 42 = .ok (.new 27, 3) := by decide +kernel
theorem dX3_init_45 : decode cX3_init 45 = .ok (.dup, 1) := by decide +kernel
theorem dX3_init_46 : decode cX3_init 46 = .ok (.invokespecial 29, 3) := by decide +kernel
theorem dX3_init_49 : decode cX3_init 49 = .ok (.putfield 30, 3) := by decide +kernel
theorem dX3_init_52 : decode cX3_init 52 = .ok (.aload_n 0, 1) := by decide +kernel
theorem dX3_init_53 : decode cX3_init 53 = .ok (.iconst 4, 1) := by decide +kernel
theorem dX3_init_54 : decode cX3_init 54 = .ok (.anewarray 34, 3) := by decide +kernel
theorem dX3_init_57 : decode cX3_init 57 = .ok (.putfield 36, 3) := by decide +kernel
theorem dX3_init_60 : decode cX3_init 60 = .ok (.aload_n 0, 1) := by decide +kernel
theorem dX3_init_61 : decode cX3_init 61 = .ok (.bipush 6, 2) := by decide +kernel
theorem dX3_init_63 : decode cX3_init 63 = .ok (.newarray .int, 2) := by decide +kernel
theorem dX3_init_65 : decode cX3_init 65 = .ok (.putfield 40, 3) := by decide +kernel
theorem dX3_init_68 : decode cX3_init 68 = .ok (.aload_n 0, 1) := by decide +kernel
theorem dX3_init_69 : decode cX3_init 69 = .ok (.bipush 6, 2) := by decide +kernel
theorem dX3_init_71 : decode cX3_init 71 = .ok (.newarray .int, 2) := by decide +kernel
theorem dX3_init_73 : decode cX3_init 73 = .ok (.putfield 44, 3) := by decide +kernel
theorem dX3_init_76 : decode cX3_init 76 = .ok (.aload_n 0, 1) := by decide +kernel
theorem dX3_init_77 : decode cX3_init 77 = .ok (.bipush 7, 2) := by decide +kernel
theorem dX3_init_79 : decode cX3_init 79 = .ok (.newarray .int, 2) := by decide +kernel
theorem dX3_init_81 : decode cX3_init 81 = .ok (.putfield 47, 3) := by decide +kernel
theorem dX3_init_84 : decode cX3_init 84 = .ok (.iconst 0, 1) := by decide +kernel
theorem dX3_init_85 : decode cX3_init 85 = .ok (.istore_n 1, 1) := by decide +kernel
theorem dX3_init_86 : decode cX3_init 86 = .ok (.iload_n 1, 1) := by decide +kernel
theorem dX3_init_87 : decode cX3_init 87 = .ok (.iconst 2, 1) := by decide +kernel
theorem dX3_init_88 : decode cX3_init 88 = .ok (.if_icmp .ge 22, 3) := by decide +kernel
theorem dX3_init_91 : decode cX3_init 91 = .ok (.aload_n 0, 1) := by decide +kernel
theorem dX3_init_92 : decode cX3_init 92 = .ok (.getfield 19, 3) := by decide +kernel
theorem dX3_init_95 : decode cX3_init 95 = .ok (.iload_n 1, 1) := by decide +kernel
theorem dX3_init_96 : decode cX3_init 96 = .ok (.new 7, 3) := by decide +kernel
theorem dX3_init_99 : decode cX3_init 99 = .ok (.dup, 1) := by decide +kernel
theorem dX3_init_100 : decode cX3_init 100 = .ok (.invokespecial 9, 3) := by decide +kernel
theorem dX3_init_103 : decode cX3_init 103 = .ok (.aastore, 1) := by decide +kernel
theorem dX3_init_104 : decode cX3_init 104 = .ok (.iinc 1 1, 3) := by decide +kernel
theorem dX3_init_107 : decode cX3_init 107 = .ok (.goto (-21), 3) := by decide +kernel
theorem dX3_init_110 : decode cX3_init 110 = .ok (.iconst 0, 1) := by decide +kernel
theorem dX3_init_111 : decode cX3_init 111 = .ok (.istore_n 1, 1) := by decide +kernel
theorem dX3_init_112 : decode cX3_init 112 = .ok (.iload_n 1, 1) := by decide +kernel
theorem dX3_init_113 : decode cX3_init 113 = .ok (.iconst 4, 1) := by decide +kernel
theorem dX3_init_114 : decode cX3_init 114 = .ok (.if_icmp .ge 22, 3) := by decide +kernel
theorem dX3_init_117 : decode cX3_init 117 = .ok (.aload_n 0, 1) := by decide +kernel
theorem dX3_init_118 : decode cX3_init 118 = .ok (.getfield 36, 3) := by decide +kernel
theorem dX3_init_121 : decode cX3_init 121 = .ok (.iload_n 1, 1) := by decide +kernel
theorem dX3_init_122 : decode cX3_init 122 = .ok (.new 34, 3) := by decide +kernel
theorem dX3_init_125 : decode cX3_init 125 = .ok (.dup, 1) := by decide +kernel
theorem dX3_init_126 : decode cX3_init 126 = .ok (.invokespecial 50, 3) := by decide +kernel
theorem dX3_init_129 : decode cX3_init 129 = .ok (.aastore, 1) := by decide +kernel
theorem dX3_init_130 : decode cX3_init 130 = .ok (.iinc 1 1, 3) := by decide +kernel
theorem dX3_init_133 : decode cX3_init 133 = .ok (.goto (-21), 3) := by decide +kernel
theorem dX3_init_136 : decode cX3_init 136 = .ok (.return_, 1) := by decide +kernel
theorem dX3_feed_0 : decode cX3_feed 0 = .ok (.iload_n 1, 1) := by decide +kernel
theorem dX3_feed_1 : decode cX3_feed 1 = .ok (.ifCond .lt 9, 3) := by decide +kernel
theorem dX3_feed_4 : decode cX3_feed 4 = .ok (.iload_n 1, 1) := by decide +kernel
theorem dX3_feed_5 : decode cX3_feed 5 = .ok (.bipush 127, 2) := by decide +kernel
theorem dX3_feed_7 : decode cX3_feed 7 = .ok (.if_icmp .le 5, 3) := by decide +kernel
theorem dX3_feed_10 : decode cX3_feed 10 = .ok (.iconst (-1), 1) := by decide +kernel
theorem dX3_feed_11 : decode cX3_feed 11 = .ok (.ireturn, 1) := by decide +kernel
theorem dX3_feed_12 : decode cX3_feed 12 = .ok (.aload_n 0, 1) := by decide +kernel
theorem dX3_feed_13 : decode cX3_feed 13 = .ok (.getfield 30, 3) := by decide +kernel
theorem dX3_feed_16 : decode cX3_feed 16 = .ok (.iload_n 1, 1) := by decide +kernel
theorem dX3_feed_17 : decode cX3_feed 17 = .ok (.invokevirtual 51, 3) := by decide +kernel
theorem dX3_feed_20 : decode cX3_feed 20 = .ok (.ifCond .eq 13, 3) := by decide +kernel
theorem dX3_feed_23 : decode cX3_feed 23 = .ok (.aload_n 0, 1) := by decide +kernel
theorem dX3_feed_24 : decode cX3_feed 24 = .ok (.getfield 30, 3) := by decide +kernel
theorem dX3_feed_27 : decode cX3_feed 27 = .ok (.getfield 55, 3) := by decide +kernel
theorem dX3_feed_30 : decode cX3_feed 30 = .ok (.goto 5, 3) := by decide +kernel
theorem dX3_feed_33 : decode cX3_feed 33 = .ok (.bipush (-3), 2) := by decide +kernel
theorem dX3_feed_35 : decode cX3_feed 35 = .ok (.ireturn, 1) := by decide +kernel
theorem dX3_end_0 : decode cX3_end 0 = .ok (.iload_n 1, 1) := by decide +kernel
theorem dX3_end_1 : decode cX3_end 1 = .ok (.ifCond .lt 14, 3) := by decide +kernel
theorem dX3_end_4 : decode cX3_end 4 = .ok (.iload_n 1, 1) := by decide +kernel
theorem dX3_end_5 : decode cX3_end 5 = .ok (.aload_n 0, 1) := by decide +kernel
theorem dX3_end_6 : decode cX3_end 6 = .ok (.getfield 30, 3) := by decide +kernel
theorem dX3_end_9 : decode cX3_end 9 = .ok (.getfield 55, 3) := by decide +kernel
theorem dX3_end_12 : decode cX3_end 12 = .ok (.if_icmp .le 5, 3) := by decide +kernel
theorem dX3_end_15 : decode cX3_end 15 = .ok (.iconst (-1), 1) := by decide +kernel
theorem dX3_end_16 : decode cX3_end 16 = .ok (.ireturn, 1) := by decide +kernel
theorem dX3_end_17 : decode cX3_end 17 = .ok (.aload_n 0, 1) := by decide +kernel
theorem dX3_end_18 : decode cX3_end 18 = .ok (.getfield 30, 3) := by decide +kernel
theorem dX3_end_21 : decode cX3_end 21 = .ok (.getfield 55, 3) := by decide +kernel
theorem dX3_end_24 : decode cX3_end 24 = .ok (.istore_n 2, 1) := by decide +kernel
theorem dX3_end_25 : decode cX3_end 25 = .ok (.aload_n 0, 1) := by decide +kernel
theorem dX3_end_26 : decode cX3_end 26 = .ok (.getfield 30, 3) := by decide +kernel
theorem dX3_end_29 : decode cX3_end 29 = .ok (.iload_n 1, 1) := by decide +kernel
theorem dX3_end_30 : decode cX3_end 30 = .ok (.putfield 55, 3) := by decide +kernel
theorem dX3_end_33 : decode cX3_end 33 = .ok (.iload_n 2, 1) := by decide +kernel
theorem dX3_end_34 : decode cX3_end 34 = .ok (.ireturn, 1) := by decide +kernel
theorem dX3_text_0 : decode cX3_text 0 = .ok (.aload_n 0, 1) := by decide +kernel
theorem dX3_text_1 : decode cX3_text 1 = .ok (.getfield 30, 3) := by decide +kernel
theorem dX3_text_4 : decode cX3_text 4 = .ok (.aload_n 0, 1) := by decide +kernel
theorem dX3_text_5 : decode cX3_text 5 = .ok (.getfield 16, 3) := by decide +kernel
theorem dX3_text_8 : decode cX3_text 8 = .ok (.invokevirtual 59, 3) := by decide +kernel
theorem dX3_text_11 : decode cX3_text 11 = .ok (.istore_n 1, 1) := by decide +kernel
theorem dX3_text_12 : decode cX3_text 12 = .ok (.aload_n 0, 1) := by decide +kernel
theorem dX3_text_13 : decode cX3_text 13 = .ok (.getfield 30, 3) := by decide +kernel
theorem dX3_text_16 : decode cX3_text 16 = .ok (.iconst 0, 1) := by decide +kernel
theorem dX3_text_17 : decode cX3_text 17 = .ok (.putfield 55, 3) := by decide +kernel
theorem dX3_text_20 : decode cX3_text 20 = .ok (.aload_n 0, 1) := by decide +kernel
theorem dX3_text_21 : decode cX3_text 21 = .ok (.getfield 30, 3) := by decide +kernel
theorem dX3_text_24 : decode cX3_text 24 = .ok (.getfield 63, 3) := by decide +kernel
theorem dX3_text_27 : decode cX3_text 27 = .ok (.ifCond .eq 14, 3) := by decide +kernel
theorem dX3_text_30 : decode cX3_text 30 = .ok (.bipush (-10), 2) := by decide +kernel
theorem dX3_text_32 : decode cX3_text 32 = .ok (.aload_n 0, 1) := by decide +kernel
theorem dX3_text_33 : decode cX3_text 33 = .ok (.getfield 30, 3) := by decide +kernel
theorem dX3_text_36 : decode cX3_text 36 = .ok (.getfield 66, 3) := by decide +kernel
theorem dX3_text_39 : decode cX3_text 39 = .ok (.isub, 1) := by decide +kernel
theorem dX3_text_40 : decode cX3_text 40 = .ok (.ireturn, 1) := by decide +kernel
theorem dX3_text_41 : decode cX3_text 41 = .ok (.aload_n 0, 1) := by decide +kernel
theorem dX3_text_42 : decode cX3_text 42 = .ok (.getfield 10, 3) := by decide +kernel
theorem dX3_text_45 : decode cX3_text 45 = .ok (.aload_n 0, 1) := by decide +kernel
theorem dX3_text_46 : decode cX3_text 46 = .ok (.getfield 16, 3) := by decide +kernel
theorem dX3_text_49 : decode cX3_text 49 = .ok (.invokevirtual 69, 3) := by decide +kernel
theorem dX3_text_52 : decode cX3_text 52 = .ok (.aload_n 0, 1) := by decide +kernel
theorem dX3_text_53 : decode cX3_text 53 = .ok (.iconst 0, 1) := by decide +kernel
theorem dX3_text_54 : decode cX3_text 54 = .ok (.putfield 73, 3) := by decide +kernel
theorem dX3_text_57 : decode cX3_text 57 = .ok (.iconst 0, 1) := by decide +kernel
theorem dX3_text_58 : decode cX3_text 58 = .ok (.istore_n 2, 1) := by decide +kernel
theorem dX3_text_59 : decode cX3_text 59 = .ok (.iload_n 2, 1) := by decide +kernel
theorem dX3_text_60 : decode cX3_text 60 = .ok (.iconst 2, 1) := by decide +kernel
theorem dX3_text_61 : decode cX3_text 61 = .ok (.if_icmp .ge 16, 3) := by decide +kernel
theorem dX3_text_64 : decode cX3_text 64 = .ok (.aload_n 0, 1) := by decide +kernel
theorem dX3_text_65 : decode cX3_text 65 = .ok (.getfield 23, 3) := by decide +kernel
theorem dX3_text_68 : decode cX3_text 68 = .ok (.iload_n 2, 1) := by decide +kernel
theorem dX3_text_69 : decode cX3_text 69 = .ok (.iconst 0, 1) := by decide +kernel
theorem dX3_text_70 : decode cX3_text 70 = .ok (.bastore, 1) := by decide +kernel
theorem dX3_text_71 : decode cX3_text 71 = .ok (.iinc 2 1, 3) := by decide +kernel
theorem dX3_text_74 : decode cX3_text 74 = .ok (.goto (-15), 3) := by decide +kernel
theorem dX3_text_77 : decode cX3_text 77 = .ok (.iload_n 1, 1) := by decide +kernel
theorem dX3_text_78 : decode cX3_text 78 = .ok (.ireturn, 1) := by decide +kernel
theorem dX3_fault_0 : decode cX3_fault 0 = .ok (.aload_n 0, 1) := by decide +kernel
theorem dX3_fault_1 : decode cX3_fault 1 = .ok (.getfield 30, 3) := by decide +kernel
theorem dX3_fault_4 : decode cX3_fault 4 = .ok (.getfield 63, 3) := by decide +kernel
theorem dX3_fault_7 : decode cX3_fault 7 = .ok (.ireturn, 1) := by decide +kernel
theorem dX3_rule_0 : decode cX3_rule 0 = .ok (.iload_n 1, 1) := by decide +kernel
theorem dX3_rule_1 : decode cX3_rule 1 = .ok (.tableswitch 87 0 5 #[39, 47, 55, 63, 71, 79], 39) := by decide +kernel
theorem dX3_rule_40 : decode cX3_rule 40 = .ok (.aload_n 0, 1) := by decide +kernel
theorem dX3_rule_41 : decode cX3_rule 41 = .ok (.getfield 10, 3) := by decide +kernel
theorem dX3_rule_44 : decode cX3_rule 44 = .ok (.getfield 76, 3) := by decide +kernel
theorem dX3_rule_47 : decode cX3_rule 47 = .ok (.ireturn, 1) := by decide +kernel
theorem dX3_rule_48 : decode cX3_rule 48 = .ok (.aload_n 0, 1) := by decide +kernel
theorem dX3_rule_49 : decode cX3_rule 49 = .ok (.getfield 10, 3) := by decide +kernel
theorem dX3_rule_52 : decode cX3_rule 52 = .ok (.getfield 79, 3) := by decide +kernel
theorem dX3_rule_55 : decode cX3_rule 55 = .ok (.ireturn, 1) := by decide +kernel
theorem dX3_rule_56 : decode cX3_rule 56 = .ok (.aload_n 0, 1) := by decide +kernel
theorem dX3_rule_57 : decode cX3_rule 57 = .ok (.getfield 10, 3) := by decide +kernel
theorem dX3_rule_60 : decode cX3_rule 60 = .ok (.getfield 82, 3) := by decide +kernel
theorem dX3_rule_63 : decode cX3_rule 63 = .ok (.ireturn, 1) := by decide +kernel
theorem dX3_rule_64 : decode cX3_rule 64 = .ok (.aload_n 0, 1) := by decide +kernel
theorem dX3_rule_65 : decode cX3_rule 65 = .ok (.getfield 10, 3) := by decide +kernel
theorem dX3_rule_68 : decode cX3_rule 68 = .ok (.getfield 85, 3) := by decide +kernel
theorem dX3_rule_71 : decode cX3_rule 71 = .ok (.ireturn, 1) := by decide +kernel
theorem dX3_rule_72 : decode cX3_rule 72 = .ok (.aload_n 0, 1) := by decide +kernel
theorem dX3_rule_73 : decode cX3_rule 73 = .ok (.getfield 10, 3) := by decide +kernel
theorem dX3_rule_76 : decode cX3_rule 76 = .ok (.invokevirtual 88, 3) := by decide +kernel
theorem dX3_rule_79 : decode cX3_rule 79 = .ok (.ireturn, 1) := by decide +kernel
theorem dX3_rule_80 : decode cX3_rule 80 = .ok (.aload_n 0, 1) := by decide +kernel
theorem dX3_rule_81 : decode cX3_rule 81 = .ok (.getfield 10, 3) := by decide +kernel
theorem dX3_rule_84 : decode cX3_rule 84 = .ok (.invokevirtual 92, 3) := by decide +kernel
theorem dX3_rule_87 : decode cX3_rule 87 = .ok (.ireturn, 1) := by decide +kernel
theorem dX3_rule_88 : decode cX3_rule 88 = .ok (.iconst (-1), 1) := by decide +kernel
theorem dX3_rule_89 : decode cX3_rule 89 = .ok (.ireturn, 1) := by decide +kernel
theorem dX3_man_0 : decode cX3_man 0 = .ok (.aload_n 0, 1) := by decide +kernel
theorem dX3_man_1 : decode cX3_man 1 = .ok (.getfield 10, 3) := by decide +kernel
theorem dX3_man_4 : decode cX3_man 4 = .ok (.iload_n 1, 1) := by decide +kernel
theorem dX3_man_5 : decode cX3_man 5 = .ok (.invokevirtual 95, 3) := by decide +kernel
theorem dX3_man_8 : decode cX3_man 8 = .ok (.ifCond .ne 5, 3) := by decide +kernel
theorem dX3_man_11 : decode cX3_man 11 = .ok (.iconst (-1), 1) := by decide +kernel
theorem dX3_man_12 : decode cX3_man 12 = .ok (.ireturn, 1) := by decide +kernel
theorem dX3_man_13 : decode cX3_man 13 = .ok (.iload_n 2, 1) := by decide +kernel
theorem dX3_man_14 : decode cX3_man 14 = .ok (.tableswitch 68 0 3 #[30, 40, 50, 59], 30) := by decide +kernel
theorem dX3_man_44 : decode cX3_man 44 = .ok (.aload_n 0, 1) := by decide +kernel
theorem dX3_man_45 : decode cX3_man 45 = .ok (.getfield 10, 3) := by decide +kernel
theorem dX3_man_48 : decode cX3_man 48 = .ok (.getfield 98, 3) := by decide +kernel
theorem dX3_man_51 : decode cX3_man 51 = .ok (.iload_n 1, 1) := by decide +kernel
theorem dX3_man_52 : decode cX3_man 52 = .ok (.iaload, 1) := by decide +kernel
theorem dX3_man_53 : decode cX3_man 53 = .ok (.ireturn, 1) := by decide +kernel
theorem dX3_man_54 : decode cX3_man 54 = .ok (.aload_n 0, 1) := by decide +kernel
theorem dX3_man_55 : decode cX3_man 55 = .ok (.getfield 10, 3) := by decide +kernel
theorem dX3_man_58 : decode cX3_man 58 = .ok (.getfield 101, 3) := by decide +kernel
theorem dX3_man_61 : decode cX3_man 61 = .ok (.iload_n 1, 1) := by decide +kernel
theorem dX3_man_62 : decode cX3_man 62 = .ok (.iaload, 1) := by decide +kernel
theorem dX3_man_63 : decode cX3_man 63 = .ok (.ireturn, 1) := by decide +kernel
theorem dX3_man_64 : decode cX3_man 64 = .ok (.aload_n 0, 1) := by decide +kernel
theorem dX3_man_65 : decode cX3_man 65 = .ok (.getfield 10, 3) := by decide +kernel
theorem dX3_man_68 : decode cX3_man 68 = .ok (.iload_n 1, 1) := by decide +kernel
theorem dX3_man_69 : decode cX3_man 69 = .ok (.invokevirtual 104, 3) := by decide +kernel
theorem dX3_man_72 : decode cX3_man 72 = .ok (.ireturn, 1) := by decide +kernel
theorem dX3_man_73 : decode cX3_man 73 = .ok (.aload_n 0, 1) := by decide +kernel
theorem dX3_man_74 : decode cX3_man 74 = .ok (.getfield 10, 3) := by decide +kernel
theorem dX3_man_77 : decode cX3_man 77 = .ok (.iload_n 1, 1) := by decide +kernel
theorem dX3_man_78 : decode cX3_man 78 = .ok (.invokevirtual 108, 3) := by decide +kernel
theorem dX3_man_81 : decode cX3_man 81 = .ok (.ireturn, 1) := by decide +kernel
theorem dX3_man_82 : decode cX3_man 82 = .ok (.iconst (-1), 1) := by decide +kernel
theorem dX3_man_83 : decode cX3_man 83 = .ok (.ireturn, 1) := by decide +kernel
theorem dX3_rota_0 : decode cX3_rota 0 = .ok (.iload_n 1, 1) := by decide +kernel
theorem dX3_rota_1 : decode cX3_rota 1 = .ok (.invokestatic 111, 3) := by decide +kernel
theorem dX3_rota_4 : decode cX3_rota 4 = .ok (.ifCond .eq 15, 3) := by decide +kernel
theorem dX3_rota_7 : decode cX3_rota 7 = .ok (.aload_n 0, 1) := by decide +kernel
theorem dX3_rota_8 : decode cX3_rota 8 = .ok (.getfield 10, 3) := by decide +kernel
theorem dX3_rota_11 : decode cX3_rota 11 = .ok (.getfield 114, 3) := by decide +kernel
theorem dX3_rota_14 : decode cX3_rota 14 = .ok (.iload_n 1, 1) := by decide +kernel
theorem dX3_rota_15 : decode cX3_rota 15 = .ok (.iaload, 1) := by decide +kernel
theorem dX3_rota_16 : decode cX3_rota 16 = .ok (.goto 4, 3) := by decide +kernel
theorem dX3_rota_19 : decode cX3_rota 19 = .ok (.iconst (-1), 1) := by decide +kernel
theorem dX3_rota_20 : decode cX3_rota 20 = .ok (.ireturn, 1) := by decide +kernel
theorem dX3_deed_0 : decode cX3_deed 0 = .ok (.aload_n 0, 1) := by decide +kernel
theorem dX3_deed_1 : decode cX3_deed 1 = .ok (.getfield 10, 3) := by decide +kernel
theorem dX3_deed_4 : decode cX3_deed 4 = .ok (.iload_n 1, 1) := by decide +kernel
theorem dX3_deed_5 : decode cX3_deed 5 = .ok (.invokevirtual 117, 3) := by decide +kernel
theorem dX3_deed_8 : decode cX3_deed 8 = .ok (.ifCond .ne 5, 3) := by decide +kernel
theorem dX3_deed_11 : decode cX3_deed 11 = .ok (.iconst (-1), 1) := by decide +kernel
theorem dX3_deed_12 : decode cX3_deed 12 = .ok (.ireturn, 1) := by decide +kernel
theorem dX3_deed_13 : decode cX3_deed 13 = .ok (.iload_n 2, 1) := by decide +kernel
theorem dX3_deed_14 : decode cX3_deed 14 = .ok (.tableswitch 76 0 3 #[30, 40, 50, 59], 30) := by decide +kernel
theorem dX3_deed_44 : decode cX3_deed 44 = .ok (.aload_n 0, 1) := by decide +kernel
theorem dX3_deed_45 : decode cX3_deed 45 = .ok (.getfield 10, 3) := by decide +kernel
theorem dX3_deed_48 : decode cX3_deed 48 = .ok (.getfield 120, 3) := by decide +kernel
theorem dX3_deed_51 : decode cX3_deed 51 = .ok (.iload_n 1, 1) := by decide +kernel
theorem dX3_deed_52 : decode cX3_deed 52 = .ok (.iaload, 1) := by decide +kernel
theorem dX3_deed_53 : decode cX3_deed 53 = .ok (.ireturn, 1) := by decide +kernel
theorem dX3_deed_54 : decode cX3_deed 54 = .ok (.aload_n 0, 1) := by decide +kernel
theorem dX3_deed_55 : decode cX3_deed 55 = .ok (.getfield 10, 3) := by decide +kernel
theorem dX3_deed_58 : decode cX3_deed 58 = .ok (.getfield 123, 3) := by decide +kernel
theorem dX3_deed_61 : decode cX3_deed 61 = .ok (.iload_n 1, 1) := by decide +kernel
theorem dX3_deed_62 : decode cX3_deed 62 = .ok (.iaload, 1) := by decide +kernel
theorem dX3_deed_63 : decode cX3_deed 63 = .ok (.ireturn, 1) := by decide +kernel
theorem dX3_deed_64 : decode cX3_deed 64 = .ok (.aload_n 0, 1) := by decide +kernel
theorem dX3_deed_65 : decode cX3_deed 65 = .ok (.getfield 10, 3) := by decide +kernel
theorem dX3_deed_68 : decode cX3_deed 68 = .ok (.iload_n 1, 1) := by decide +kernel
theorem dX3_deed_69 : decode cX3_deed 69 = .ok (.invokevirtual 126, 3) := by decide +kernel
theorem dX3_deed_72 : decode cX3_deed 72 = .ok (.ireturn, 1) := by decide +kernel
theorem dX3_deed_73 : decode cX3_deed 73 = .ok (.aload_n 0, 1) := by decide +kernel
theorem dX3_deed_74 : decode cX3_deed 74 = .ok (.getfield 10, 3) := by decide +kernel
theorem dX3_deed_77 : decode cX3_deed 77 = .ok (.iload_n 1, 1) := by decide +kernel
theorem dX3_deed_78 : decode cX3_deed 78 = .ok (.aload_n 0, 1) := by decide +kernel
theorem dX3_deed_79 : decode cX3_deed 79 = .ok (.getfield 10, 3) := by decide +kernel
theorem dX3_deed_82 : decode cX3_deed 82 = .ok (.iload_n 1, 1) := by decide +kernel
theorem dX3_deed_83 : decode cX3_deed 83 = .ok (.invokevirtual 126, 3) := by decide +kernel
theorem dX3_deed_86 : decode cX3_deed 86 = .ok (.invokevirtual 129, 3) := by decide +kernel
theorem dX3_deed_89 : decode cX3_deed 89 = .ok (.ireturn, 1) := by decide +kernel
theorem dX3_deed_90 : decode cX3_deed 90 = .ok (.iconst (-1), 1) := by decide +kernel
theorem dX3_deed_91 : decode cX3_deed 91 = .ok (.ireturn, 1) := by decide +kernel
theorem dX3_alter_0 : decode cX3_alter 0 = .ok (.aload_n 0, 1) := by decide +kernel
theorem dX3_alter_1 : decode cX3_alter 1 = .ok (.getfield 10, 3) := by decide +kernel
theorem dX3_alter_4 : decode cX3_alter 4 = .ok (.iload_n 1, 1) := by decide +kernel
theorem dX3_alter_5 : decode cX3_alter 5 = .ok (.invokevirtual 95, 3) := by decide +kernel
theorem dX3_alter_8 : decode cX3_alter 8 = .ok (.ifCond .eq 10, 3) := by decide +kernel
theorem dX3_alter_11 : decode cX3_alter 11 = .ok (.iload_n 2, 1) := by decide +kernel
theorem dX3_alter_12 : decode cX3_alter 12 = .ok (.invokestatic 133, 3) := by decide +kernel
theorem dX3_alter_15 : decode cX3_alter 15 = .ok (.ifCond .ne 5, 3) := by decide +kernel
theorem dX3_alter_18 : decode cX3_alter 18 = .ok (.iconst (-1), 1) := by decide +kernel
theorem dX3_alter_19 : decode cX3_alter 19 = .ok (.ireturn, 1) := by decide +kernel
theorem dX3_alter_20 : decode cX3_alter 20 = .ok (.iload_n 3, 1) := by decide +kernel
theorem dX3_alter_21 : decode cX3_alter 21 = .ok (.ifCond .lt 17, 3) := by decide +kernel
theorem dX3_alter_24 : decode cX3_alter 24 = .ok (.iload_n 3, 1) := by decide +kernel
theorem dX3_alter_25 : decode cX3_alter 25 = .ok (.iload_n 2, 1) := by decide +kernel
theorem dX3_alter_26 : decode cX3_alter 26 = .ok (.ifCond .ne 7, 3) := by decide +kernel
theorem dX3_alter_29 : decode cX3_alter 29 = .ok (.iconst 4, 1) := by decide +kernel
theorem dX3_alter_30 : decode cX3_alter 30 = .ok (.goto 5, 3) := by decide +kernel
theorem dX3_alter_33 : decode cX3_alter 33 = .ok (.bipush 7, 2) := by decide +kernel
theorem dX3_alter_35 : decode cX3_alter 35 = .ok (.if_icmp .lt 5, 3) := by decide +kernel
theorem dX3_alter_38 : decode cX3_alter 38 = .ok (.iconst (-1), 1) := by decide +kernel
theorem dX3_alter_39 : decode cX3_alter 39 = .ok (.ireturn, 1) := by decide +kernel
theorem dX3_alter_40 : decode cX3_alter 40 = .ok (.iload_n 2, 1) := by decide +kernel
theorem dX3_alter_41 : decode cX3_alter 41 = .ok (.ifCond .ne 15, 3) := by decide +kernel
theorem dX3_alter_44 : decode cX3_alter 44 = .ok (.aload_n 0, 1) := by decide +kernel
theorem dX3_alter_45 : decode cX3_alter 45 = .ok (.getfield 10, 3) := by decide +kernel
theorem dX3_alter_48 : decode cX3_alter 48 = .ok (.getfield 98, 3) := by decide +kernel
theorem dX3_alter_51 : decode cX3_alter 51 = .ok (.iload_n 1, 1) := by decide +kernel
theorem dX3_alter_52 : decode cX3_alter 52 = .ok (.iaload, 1) := by decide +kernel
theorem dX3_alter_53 : decode cX3_alter 53 = .ok (.goto 12, 3) := by decide +kernel
theorem dX3_alter_56 : decode cX3_alter 56 = .ok (.aload_n 0, 1) := by decide +kernel
theorem dX3_alter_57 : decode cX3_alter 57 = .ok (.getfield 10, 3) := by decide +kernel
theorem dX3_alter_60 : decode cX3_alter 60 = .ok (.getfield 101, 3) := by decide +kernel
theorem dX3_alter_63 : decode cX3_alter 63 = .ok (.iload_n 1, 1) := by decide +kernel
theorem dX3_alter_64 : decode cX3_alter 64 = .ok (.iaload, 1) := by decide +kernel
theorem dX3_alter_65 : decode cX3_alter 65 = .ok (.istore 4, 2) := by decide +kernel
theorem dX3_alter_67 : decode cX3_alter 67 = .ok (.iload_n 2, 1) := by decide +kernel
theorem dX3_alter_68 : decode cX3_alter 68 = .ok (.ifCond .ne 15, 3) := by decide +kernel
theorem dX3_alter_71 : decode cX3_alter 71 = .ok (.aload_n 0, 1) := by decide +kernel
theorem dX3_alter_72 : decode cX3_alter 72 = .ok (.getfield 10, 3) := by decide +kernel
theorem dX3_alter_75 : decode cX3_alter 75 = .ok (.iload_n 1, 1) := by decide +kernel
theorem dX3_alter_76 : decode cX3_alter 76 = .ok (.iload_n 3, 1) := by decide +kernel
theorem dX3_alter_77 : decode cX3_alter 77 = .ok (.invokevirtual 136, 3) := by decide +kernel
theorem dX3_alter_80 : decode cX3_alter 80 = .ok (.goto 12, 3) := by decide +kernel
theorem dX3_alter_83 : decode cX3_alter 83 = .ok (.aload_n 0, 1) := by decide +kernel
theorem dX3_alter_84 : decode cX3_alter 84 = .ok (.getfield 10, 3) := by decide +kernel
theorem dX3_alter_87 : decode cX3_alter 87 = .ok (.iload_n 1, 1) := by decide +kernel
theorem dX3_alter_88 : decode cX3_alter 88 = .ok (.iload_n 3, 1) := by decide +kernel
theorem dX3_alter_89 : decode cX3_alter 89 = .ok (.invokevirtual 140, 3) := by decide +kernel
theorem dX3_alter_92 : decode cX3_alter 92 = .ok (.iload 4, 2) := by decide +kernel
theorem dX3_alter_94 : decode cX3_alter 94 = .ok (.ireturn, 1) := by decide +kernel
theorem dX3_move_0 : decode cX3_move 0 = .ok (.aload_n 0, 1) := by decide +kernel
theorem dX3_move_1 : decode cX3_move 1 = .ok (.getfield 10, 3) := by decide +kernel
theorem dX3_move_4 : decode cX3_move 4 = .ok (.iload_n 1, 1) := by decide +kernel
theorem dX3_move_5 : decode cX3_move 5 = .ok (.invokevirtual 117, 3) := by decide +kernel
theorem dX3_move_8 : decode cX3_move 8 = .ok (.ifCond .eq 10, 3) := by decide +kernel
theorem dX3_move_11 : decode cX3_move 11 = .ok (.iload_n 2, 1) := by decide +kernel
theorem dX3_move_12 : decode cX3_move 12 = .ok (.invokestatic 133, 3) := by decide +kernel
theorem dX3_move_15 : decode cX3_move 15 = .ok (.ifCond .ne 5, 3) := by decide +kernel
theorem dX3_move_18 : decode cX3_move 18 = .ok (.iconst (-1), 1) := by decide +kernel
theorem dX3_move_19 : decode cX3_move 19 = .ok (.ireturn, 1) := by decide +kernel
theorem dX3_move_20 : decode cX3_move 20 = .ok (.iload_n 2, 1) := by decide +kernel
theorem dX3_move_21 : decode cX3_move 21 = .ok (.ifCond .ne 13, 3) := by decide +kernel
theorem dX3_move_24 : decode cX3_move 24 = .ok (.iload_n 3, 1) := by decide +kernel
theorem dX3_move_25 : decode cX3_move 25 = .ok (.invokestatic 143, 3) := by decide +kernel
theorem dX3_move_28 : decode cX3_move 28 = .ok (.ifCond .ne 15, 3) := by decide +kernel
theorem dX3_move_31 : decode cX3_move 31 = .ok (.goto 10, 3) := by decide +kernel
theorem dX3_move_34 : decode cX3_move 34 = .ok (.iload_n 3, 1) := by decide +kernel
theorem dX3_move_35 : decode cX3_move 35 = .ok (.invokestatic 146, 3) := by decide +kernel
theorem dX3_move_38 : decode cX3_move 38 = .ok (.ifCond .ne 5, 3) := by decide +kernel
theorem dX3_move_41 : decode cX3_move 41 = .ok (.iconst (-1), 1) := by decide +kernel
theorem dX3_move_42 : decode cX3_move 42 = .ok (.ireturn, 1) := by decide +kernel
theorem dX3_move_43 : decode cX3_move 43 = .ok (.iload_n 2, 1) := by decide +kernel
theorem dX3_move_44 : decode cX3_move 44 = .ok (.ifCond .ne 15, 3) := by decide +kernel
theorem dX3_move_47 : decode cX3_move 47 = .ok (.aload_n 0, 1) := by decide +kernel
theorem dX3_move_48 : decode cX3_move 48 = .ok (.getfield 10, 3) := by decide +kernel
theorem dX3_move_51 : decode cX3_move 51 = .ok (.getfield 120, 3) := by decide +kernel
theorem dX3_move_54 : decode cX3_move 54 = .ok (.iload_n 1, 1) := by decide +kernel
theorem dX3_move_55 : decode cX3_move 55 = .ok (.iaload, 1) := by decide +kernel
theorem dX3_move_56 : decode cX3_move 56 = .ok (.goto 12, 3) := by decide +kernel
theorem dX3_move_59 : decode cX3_move 59 = .ok (.aload_n 0, 1) := by decide +kernel
theorem dX3_move_60 : decode cX3_move 60 = .ok (.getfield 10, 3) := by decide +kernel
theorem dX3_move_63 : decode cX3_move 63 = .ok (.getfield 123, 3) := by decide +kernel
theorem dX3_move_66 : decode cX3_move 66 = .ok (.iload_n 1, 1) := by decide +kernel
theorem dX3_move_67 : decode cX3_move 67 = .ok (.iaload, 1) := by decide +kernel
theorem dX3_move_68 : decode cX3_move 68 = .ok (.istore 4, 2) := by decide +kernel
theorem dX3_move_70 : decode cX3_move 70 = .ok (.iload_n 2, 1) := by decide +kernel
theorem dX3_move_71 : decode cX3_move 71 = .ok (.ifCond .ne 16, 3) := by decide +kernel
theorem dX3_move_74 : decode cX3_move 74 = .ok (.aload_n 0, 1) := by decide +kernel
theorem dX3_move_75 : decode cX3_move 75 = .ok (.getfield 10, 3) := by decide +kernel
theorem dX3_move_78 : decode cX3_move 78 = .ok (.getfield 120, 3) := by decide +kernel
theorem dX3_move_81 : decode cX3_move 81 = .ok (.iload_n 1, 1) := by decide +kernel
theorem dX3_move_82 : decode cX3_move 82 = .ok (.iload_n 3, 1) := by decide +kernel
theorem dX3_move_83 : decode cX3_move 83 = .ok (.iastore, 1) := by decide +kernel
theorem dX3_move_84 : decode cX3_move 84 = .ok (.goto 13, 3) := by decide +kernel
theorem dX3_move_87 : decode cX3_move 87 = .ok (.aload_n 0, 1) := by decide +kernel
theorem dX3_move_88 : decode cX3_move 88 = .ok (.getfield 10, 3) := by decide +kernel
theorem dX3_move_91 : decode cX3_move 91 = .ok (.getfield 123, 3) := by decide +kernel
theorem dX3_move_94 : decode cX3_move 94 = .ok (.iload_n 1, 1) := by decide +kernel
theorem dX3_move_95 : decode cX3_move 95 = .ok (.iload_n 3, 1) := by decide +kernel
theorem dX3_move_96 : decode cX3_move 96 = .ok (.iastore, 1) := by decide +kernel
theorem dX3_move_97 : decode cX3_move 97 = .ok (.iload 4, 2) := by decide +kernel
theorem dX3_move_99 : decode cX3_move 99 = .ok (.ireturn, 1) := by decide +kernel
theorem dX3_shift_0 : decode cX3_shift 0 = .ok (.aload_n 0, 1) := by decide +kernel
theorem dX3_shift_1 : decode cX3_shift 1 = .ok (.iload_n 1, 1) := by decide +kernel
theorem dX3_shift_2 : decode cX3_shift 2 = .ok (.iload_n 2, 1) := by decide +kernel
theorem dX3_shift_3 : decode cX3_shift 3 = .ok (.invokevirtual 149, 3) := by decide +kernel
theorem dX3_shift_6 : decode cX3_shift 6 = .ok (.ifCond .ne 5, 3) := by decide +kernel
theorem dX3_shift_9 : decode cX3_shift 9 = .ok (.iconst (-1), 1) := by decide +kernel
theorem dX3_shift_10 : decode cX3_shift 10 = .ok (.ireturn, 1) := by decide +kernel
theorem dX3_shift_11 : decode cX3_shift 11 = .ok (.aload_n 0, 1) := by decide +kernel
theorem dX3_shift_12 : decode cX3_shift 12 = .ok (.getfield 10, 3) := by decide +kernel
theorem dX3_shift_15 : decode cX3_shift 15 = .ok (.getfield 114, 3) := by decide +kernel
theorem dX3_shift_18 : decode cX3_shift 18 = .ok (.iload_n 1, 1) := by decide +kernel
theorem dX3_shift_19 : decode cX3_shift 19 = .ok (.iaload, 1) := by decide +kernel
theorem dX3_shift_20 : decode cX3_shift 20 = .ok (.istore_n 3, 1) := by decide +kernel
theorem dX3_shift_21 : decode cX3_shift 21 = .ok (.aload_n 0, 1) := by decide +kernel
theorem dX3_shift_22 : decode cX3_shift 22 = .ok (.getfield 10, 3) := by decide +kernel
theorem dX3_shift_25 : decode cX3_shift 25 = .ok (.iload_n 1, 1) := by decide +kernel
theorem dX3_shift_26 : decode cX3_shift 26 = .ok (.iload_n 2, 1) := by decide +kernel
theorem dX3_shift_27 : decode cX3_shift 27 = .ok (.invokevirtual 153, 3) := by decide +kernel
theorem dX3_shift_30 : decode cX3_shift 30 = .ok (.iload_n 3, 1) := by decide +kernel
theorem dX3_shift_31 : decode cX3_shift 31 = .ok (.ireturn, 1) := by decide +kernel
theorem dX3_cloud_0 : decode cX3_cloud 0 = .ok (.iload_n 1, 1) := by decide +kernel
theorem dX3_cloud_1 : decode cX3_cloud 1 = .ok (.invokestatic 111, 3) := by decide +kernel
theorem dX3_cloud_4 : decode cX3_cloud 4 = .ok (.ifCond .ne 5, 3) := by decide +kernel
theorem dX3_cloud_7 : decode cX3_cloud 7 = .ok (.iconst (-1), 1) := by decide +kernel
theorem dX3_cloud_8 : decode cX3_cloud 8 = .ok (.ireturn, 1) := by decide +kernel
theorem dX3_cloud_9 : decode cX3_cloud 9 = .ok (.aload_n 0, 1) := by decide +kernel
theorem dX3_cloud_10 : decode cX3_cloud 10 = .ok (.getfield 10, 3) := by decide +kernel
theorem dX3_cloud_13 : decode cX3_cloud 13 = .ok (.iload_n 1, 1) := by decide +kernel
theorem dX3_cloud_14 : decode cX3_cloud 14 = .ok (.invokevirtual 156, 3) := by decide +kernel
theorem dX3_cloud_17 : decode cX3_cloud 17 = .ok (.ifCond .eq 7, 3) := by decide +kernel
theorem dX3_cloud_20 : decode cX3_cloud 20 = .ok (.iconst 1, 1) := by decide +kernel
theorem dX3_cloud_21 : decode cX3_cloud 21 = .ok (.goto 4, 3) := by decide +kernel
theorem dX3_cloud_24 : decode cX3_cloud 24 = .ok (.iconst 0, 1) := by decide +kernel
theorem dX3_cloud_25 : decode cX3_cloud 25 = .ok (.istore_n 3, 1) := by decide +kernel
theorem dX3_cloud_26 : decode cX3_cloud 26 = .ok (.aload_n 0, 1) := by decide +kernel
theorem dX3_cloud_27 : decode cX3_cloud 27 = .ok (.getfield 10, 3) := by decide +kernel
theorem dX3_cloud_30 : decode cX3_cloud 30 = .ok (.iload_n 1, 1) := by decide +kernel
theorem dX3_cloud_31 : decode cX3_cloud 31 = .ok (.iload_n 2, 1) := by decide +kernel
theorem dX3_cloud_32 : decode cX3_cloud 32 = .ok (.invokevirtual 159, 3) := by decide +kernel
theorem dX3_cloud_35 : decode cX3_cloud 35 = .ok (.iload_n 3, 1) := by decide +kernel
theorem dX3_cloud_36 : decode cX3_cloud 36 = .ok (.ireturn, 1) := by decide +kernel
theorem dX3_paint_0 : decode cX3_paint 0 = .ok (.iload_n 1, 1) := by decide +kernel
theorem dX3_paint_1 : decode cX3_paint 1 = .ok (.ifCond .lt 9, 3) := by decide +kernel
theorem dX3_paint_4 : decode cX3_paint 4 = .ok (.iload_n 1, 1) := by decide +kernel
theorem dX3_paint_5 : decode cX3_paint 5 = .ok (.bipush 7, 2) := by decide +kernel
theorem dX3_paint_7 : decode cX3_paint 7 = .ok (.if_icmp .lt 5, 3) := by decide +kernel
theorem dX3_paint_10 : decode cX3_paint 10 = .ok (.iconst (-1), 1) := by decide +kernel
theorem dX3_paint_11 : decode cX3_paint 11 = .ok (.ireturn, 1) := by decide +kernel
theorem dX3_paint_12 : decode cX3_paint 12 = .ok (.aload_n 0, 1) := by decide +kernel
theorem dX3_paint_13 : decode cX3_paint 13 = .ok (.getfield 10, 3) := by decide +kernel
theorem dX3_paint_16 : decode cX3_paint 16 = .ok (.getfield 82, 3) := by decide +kernel
theorem dX3_paint_19 : decode cX3_paint 19 = .ok (.istore_n 2, 1) := by decide +kernel
theorem dX3_paint_20 : decode cX3_paint 20 = .ok (.aload_n 0, 1) := by decide +kernel
theorem dX3_paint_21 : decode cX3_paint 21 = .ok (.getfield 10, 3) := by decide +kernel
theorem dX3_paint_24 : decode cX3_paint 24 = .ok (.iload_n 1, 1) := by decide +kernel
theorem dX3_paint_25 : decode cX3_paint 25 = .ok (.invokevirtual 163, 3) := by decide +kernel
theorem dX3_paint_28 : decode cX3_paint 28 = .ok (.iload_n 2, 1) := by decide +kernel
theorem dX3_paint_29 : decode cX3_paint 29 = .ok (.ireturn, 1) := by decide +kernel
theorem dX3_want_0 : decode cX3_want 0 = .ok (.iload_n 1, 1) := by decide +kernel
theorem dX3_want_1 : decode cX3_want 1 = .ok (.invokestatic 143, 3) := by decide +kernel
theorem dX3_want_4 : decode cX3_want 4 = .ok (.ifCond .eq 10, 3) := by decide +kernel
theorem dX3_want_7 : decode cX3_want 7 = .ok (.iload_n 2, 1) := by decide +kernel
theorem dX3_want_8 : decode cX3_want 8 = .ok (.invokestatic 146, 3) := by decide +kernel
theorem dX3_want_11 : decode cX3_want 11 = .ok (.ifCond .ne 5, 3) := by decide +kernel
theorem dX3_want_14 : decode cX3_want 14 = .ok (.iconst (-1), 1) := by decide +kernel
theorem dX3_want_15 : decode cX3_want 15 = .ok (.ireturn, 1) := by decide +kernel
theorem dX3_want_16 : decode cX3_want 16 = .ok (.aload_n 0, 1) := by decide +kernel
theorem dX3_want_17 : decode cX3_want 17 = .ok (.getfield 10, 3) := by decide +kernel
theorem dX3_want_20 : decode cX3_want 20 = .ok (.iload_n 1, 1) := by decide +kernel
theorem dX3_want_21 : decode cX3_want 21 = .ok (.iload_n 2, 1) := by decide +kernel
theorem dX3_want_22 : decode cX3_want 22 = .ok (.invokevirtual 167, 3) := by decide +kernel
theorem dX3_want_25 : decode cX3_want 25 = .ok (.ifCond .eq 13, 3) := by decide +kernel
theorem dX3_want_28 : decode cX3_want 28 = .ok (.aload_n 0, 1) := by decide +kernel
theorem dX3_want_29 : decode cX3_want 29 = .ok (.getfield 10, 3) := by decide +kernel
theorem dX3_want_32 : decode cX3_want 32 = .ok (.getfield 79, 3) := by decide +kernel
theorem dX3_want_35 : decode cX3_want 35 = .ok (.goto 5, 3) := by decide +kernel
theorem dX3_want_38 : decode cX3_want 38 = .ok (.bipush (-3), 2) := by decide +kernel
theorem dX3_want_40 : decode cX3_want 40 = .ok (.ireturn, 1) := by decide +kernel
theorem dX3_drop_0 : decode cX3_drop 0 = .ok (.iload_n 1, 1) := by decide +kernel
theorem dX3_drop_1 : decode cX3_drop 1 = .ok (.ifCond .lt 14, 3) := by decide +kernel
theorem dX3_drop_4 : decode cX3_drop 4 = .ok (.iload_n 1, 1) := by decide +kernel
theorem dX3_drop_5 : decode cX3_drop 5 = .ok (.aload_n 0, 1) := by decide +kernel
theorem dX3_drop_6 : decode cX3_drop 6 = .ok (.getfield 10, 3) := by decide +kernel
theorem dX3_drop_9 : decode cX3_drop 9 = .ok (.getfield 79, 3) := by decide +kernel
theorem dX3_drop_12 : decode cX3_drop 12 = .ok (.if_icmp .le 5, 3) := by decide +kernel
theorem dX3_drop_15 : decode cX3_drop 15 = .ok (.iconst (-1), 1) := by decide +kernel
theorem dX3_drop_16 : decode cX3_drop 16 = .ok (.ireturn, 1) := by decide +kernel
theorem dX3_drop_17 : decode cX3_drop 17 = .ok (.aload_n 0, 1) := by decide +kernel
theorem dX3_drop_18 : decode cX3_drop 18 = .ok (.getfield 10, 3) := by decide +kernel
theorem dX3_drop_21 : decode cX3_drop 21 = .ok (.getfield 79, 3) := by decide +kernel
theorem dX3_drop_24 : decode cX3_drop 24 = .ok (.istore_n 2, 1) := by decide +kernel
theorem dX3_drop_25 : decode cX3_drop 25 = .ok (.aload_n 0, 1) := by decide +kernel
theorem dX3_drop_26 : decode cX3_drop 26 = .ok (.getfield 10, 3) := by decide +kernel
theorem dX3_drop_29 : decode cX3_drop 29 = .ok (.iload_n 1, 1) := by decide +kernel
theorem dX3_drop_30 : decode cX3_drop 30 = .ok (.putfield 79, 3) := by decide +kernel
theorem dX3_drop_33 : decode cX3_drop 33 = .ok (.iload_n 2, 1) := by decide +kernel
theorem dX3_drop_34 : decode cX3_drop 34 = .ok (.ireturn, 1) := by decide +kernel
theorem dX3_shows_0 : decode cX3_shows 0 = .ok (.iload_n 1, 1) := by decide +kernel
theorem dX3_shows_1 : decode cX3_shows 1 = .ok (.invokestatic 143, 3) := by decide +kernel
theorem dX3_shows_4 : decode cX3_shows 4 = .ok (.ifCond .eq 14, 3) := by decide +kernel
theorem dX3_shows_7 : decode cX3_shows 7 = .ok (.aload_n 0, 1) := by decide +kernel
theorem dX3_shows_8 : decode cX3_shows 8 = .ok (.getfield 10, 3) := by decide +kernel
theorem dX3_shows_11 : decode cX3_shows 11 = .ok (.iload_n 1, 1) := by decide +kernel
theorem dX3_shows_12 : decode cX3_shows 12 = .ok (.invokevirtual 170, 3) := by decide +kernel
theorem dX3_shows_15 : decode cX3_shows 15 = .ok (.goto 4, 3) := by decide +kernel
theorem dX3_shows_18 : decode cX3_shows 18 = .ok (.iconst (-1), 1) := by decide +kernel
theorem dX3_shows_19 : decode cX3_shows 19 = .ok (.ireturn, 1) := by decide +kernel
theorem dX3_lost_0 : decode cX3_lost 0 = .ok (.iload_n 1, 1) := by decide +kernel
theorem dX3_lost_1 : decode cX3_lost 1 = .ok (.invokestatic 133, 3) := by decide +kernel
theorem dX3_lost_4 : decode cX3_lost 4 = .ok (.ifCond .ne 5, 3) := by decide +kernel
theorem dX3_lost_7 : decode cX3_lost 7 = .ok (.iconst (-1), 1) := by decide +kernel
theorem dX3_lost_8 : decode cX3_lost 8 = .ok (.ireturn, 1) := by decide +kernel
theorem dX3_lost_9 : decode cX3_lost 9 = .ok (.iconst 0, 1) := by decide +kernel
theorem dX3_lost_10 : decode cX3_lost 10 = .ok (.istore_n 2, 1) := by decide +kernel
theorem dX3_lost_11 : decode cX3_lost 11 = .ok (.bipush (-4), 2) := by decide +kernel
theorem dX3_lost_13 : decode cX3_lost 13 = .ok (.istore_n 3, 1) := by decide +kernel
theorem dX3_lost_14 : decode cX3_lost 14 = .ok (.bipush (-4), 2) := by decide +kernel
theorem dX3_lost_16 : decode cX3_lost 16 = .ok (.istore 4, 2) := by decide +kernel
theorem dX3_lost_18 : decode cX3_lost 18 = .ok (.iconst 0, 1) := by decide +kernel
theorem dX3_lost_19 : decode cX3_lost 19 = .ok (.istore 5, 2) := by decide +kernel
theorem dX3_lost_21 : decode cX3_lost 21 = .ok (.iload 5, 2) := by decide +kernel
theorem dX3_lost_23 : decode cX3_lost 23 = .ok (.bipush 48, 2) := by decide +kernel
theorem dX3_lost_25 : decode cX3_lost 25 = .ok (.if_icmp .ge 57, 3) := by decide +kernel
theorem dX3_lost_28 : decode cX3_lost 28 = .ok (.aload_n 0, 1) := by decide +kernel
theorem dX3_lost_29 : decode cX3_lost 29 = .ok (.getfield 10, 3) := by decide +kernel
theorem dX3_lost_32 : decode cX3_lost 32 = .ok (.iload 5, 2) := by decide +kernel
theorem dX3_lost_34 : decode cX3_lost 34 = .ok (.invokevirtual 170, 3) := by decide +kernel
theorem dX3_lost_37 : decode cX3_lost 37 = .ok (.istore 6, 2) := by decide +kernel
theorem dX3_lost_39 : decode cX3_lost 39 = .ok (.iload 6, 2) := by decide +kernel
theorem dX3_lost_41 : decode cX3_lost 41 = .ok (.bipush (-4), 2) := by decide +kernel
theorem dX3_lost_43 : decode cX3_lost 43 = .ok (.if_icmp .ne 6, 3) := by decide +kernel
theorem dX3_lost_46 : decode cX3_lost 46 = .ok (.goto 30, 3) := by decide +kernel
theorem dX3_lost_49 : decode cX3_lost 49 = .ok (.iload 6, 2) := by decide +kernel
theorem dX3_lost_51 : decode cX3_lost 51 = .ok (.iload 4, 2) := by decide +kernel
theorem dX3_lost_53 : decode cX3_lost 53 = .ok (.if_icmp .ge 19, 3) := by decide +kernel
theorem dX3_lost_56 : decode cX3_lost 56 = .ok (.iinc 2 1, 3) := by decide +kernel
theorem dX3_lost_59 : decode cX3_lost 59 = .ok (.iload_n 3, 1) := by decide +kernel
theorem dX3_lost_60 : decode cX3_lost 60 = .ok (.bipush (-4), 2) := by decide +kernel
theorem dX3_lost_62 : decode cX3_lost 62 = .ok (.if_icmp .ne 8, 3) := by decide +kernel
theorem dX3_lost_65 : decode cX3_lost 65 = .ok (.iload 5, 2) := by decide +kernel
theorem dX3_lost_67 : decode cX3_lost 67 = .ok (.goto 4, 3) := by decide +kernel
theorem dX3_lost_70 : decode cX3_lost 70 = .ok (.iload_n 3, 1) := by decide +kernel
theorem dX3_lost_71 : decode cX3_lost 71 = .ok (.istore_n 3, 1) := by decide +kernel
theorem dX3_lost_72 : decode cX3_lost 72 = .ok (.iload 6, 2) := by decide +kernel
theorem dX3_lost_74 : decode cX3_lost 74 = .ok (.istore 4, 2) := by decide +kernel
theorem dX3_lost_76 : decode cX3_lost 76 = .ok (.iinc 5 1, 3) := by decide +kernel
theorem dX3_lost_79 : decode cX3_lost 79 = .ok (.goto (-58), 3) := by decide +kernel
theorem dX3_lost_82 : decode cX3_lost 82 = .ok (.iload_n 1, 1) := by decide +kernel
theorem dX3_lost_83 : decode cX3_lost 83 = .ok (.ifCond .ne 7, 3) := by decide +kernel
theorem dX3_lost_86 : decode cX3_lost 86 = .ok (.iload_n 2, 1) := by decide +kernel
theorem dX3_lost_87 : decode cX3_lost 87 = .ok (.goto 4, 3) := by decide +kernel
theorem dX3_lost_90 : decode cX3_lost 90 = .ok (.iload_n 3, 1) := by decide +kernel
theorem dX3_lost_91 : decode cX3_lost 91 = .ok (.ireturn, 1) := by decide +kernel
theorem dX3_worst_0 : decode cX3_worst 0 = .ok (.iload_n 1, 1) := by decide +kernel
theorem dX3_worst_1 : decode cX3_worst 1 = .ok (.invokestatic 133, 3) := by decide +kernel
theorem dX3_worst_4 : decode cX3_worst 4 = .ok (.ifCond .ne 5, 3) := by decide +kernel
theorem dX3_worst_7 : decode cX3_worst 7 = .ok (.iconst (-1), 1) := by decide +kernel
theorem dX3_worst_8 : decode cX3_worst 8 = .ok (.ireturn, 1) := by decide +kernel
theorem dX3_worst_9 : decode cX3_worst 9 = .ok (.bipush (-4), 2) := by decide +kernel
theorem dX3_worst_11 : decode cX3_worst 11 = .ok (.istore_n 2, 1) := by decide +kernel
theorem dX3_worst_12 : decode cX3_worst 12 = .ok (.bipush (-4), 2) := by decide +kernel
theorem dX3_worst_14 : decode cX3_worst 14 = .ok (.istore_n 3, 1) := by decide +kernel
theorem dX3_worst_15 : decode cX3_worst 15 = .ok (.iconst 0, 1) := by decide +kernel
theorem dX3_worst_16 : decode cX3_worst 16 = .ok (.istore 4, 2) := by decide +kernel
theorem dX3_worst_18 : decode cX3_worst 18 = .ok (.iload 4, 2) := by decide +kernel
theorem dX3_worst_20 : decode cX3_worst 20 = .ok (.bipush 48, 2) := by decide +kernel
theorem dX3_worst_22 : decode cX3_worst 22 = .ok (.if_icmp .ge 51, 3) := by decide +kernel
theorem dX3_worst_25 : decode cX3_worst 25 = .ok (.aload_n 0, 1) := by decide +kernel
theorem dX3_worst_26 : decode cX3_worst 26 = .ok (.getfield 10, 3) := by decide +kernel
theorem dX3_worst_29 : decode cX3_worst 29 = .ok (.iload 4, 2) := by decide +kernel
theorem dX3_worst_31 : decode cX3_worst 31 = .ok (.invokevirtual 170, 3) := by decide +kernel
theorem dX3_worst_34 : decode cX3_worst 34 = .ok (.istore 5, 2) := by decide +kernel
theorem dX3_worst_36 : decode cX3_worst 36 = .ok (.iload 5, 2) := by decide +kernel
theorem dX3_worst_38 : decode cX3_worst 38 = .ok (.bipush (-4), 2) := by decide +kernel
theorem dX3_worst_40 : decode cX3_worst 40 = .ok (.if_icmp .eq 27, 3) := by decide +kernel
theorem dX3_worst_43 : decode cX3_worst 43 = .ok (.iload 5, 2) := by decide +kernel
theorem dX3_worst_45 : decode cX3_worst 45 = .ok (.iload 4, 2) := by decide +kernel
theorem dX3_worst_47 : decode cX3_worst 47 = .ok (.isub, 1) := by decide +kernel
theorem dX3_worst_48 : decode cX3_worst 48 = .ok (.invokestatic 173, 3) := by decide +kernel
theorem dX3_worst_51 : decode cX3_worst 51 = .ok (.iload_n 2, 1) := by decide +kernel
theorem dX3_worst_52 : decode cX3_worst 52 = .ok (.if_icmp .le 15, 3) := by decide +kernel
theorem dX3_worst_55 : decode cX3_worst 55 = .ok (.iload 5, 2) := by decide +kernel
theorem dX3_worst_57 : decode cX3_worst 57 = .ok (.iload 4, 2) := by decide +kernel
theorem dX3_worst_59 : decode cX3_worst 59 = .ok (.isub, 1) := by decide +kernel
theorem dX3_worst_60 : decode cX3_worst 60 = .ok (.invokestatic 173, 3) := by decide +kernel
theorem dX3_worst_63 : decode cX3_worst 63 = .ok (.istore_n 2, 1) := by decide +kernel
theorem dX3_worst_64 : decode cX3_worst 64 = .ok (.iload 4, 2) := by decide +kernel
theorem dX3_worst_66 : decode cX3_worst 66 = .ok (.istore_n 3, 1) := by decide +kernel
theorem dX3_worst_67 : decode cX3_worst 67 = .ok (.iinc 4 1, 3) := by decide +kernel
theorem dX3_worst_70 : decode cX3_worst 70 = .ok (.goto (-52), 3) := by decide +kernel
theorem dX3_worst_73 : decode cX3_worst 73 = .ok (.iload_n 1, 1) := by decide +kernel
theorem dX3_worst_74 : decode cX3_worst 74 = .ok (.ifCond .ne 7, 3) := by decide +kernel
theorem dX3_worst_77 : decode cX3_worst 77 = .ok (.iload_n 2, 1) := by decide +kernel
theorem dX3_worst_78 : decode cX3_worst 78 = .ok (.goto 4, 3) := by decide +kernel
theorem dX3_worst_81 : decode cX3_worst 81 = .ok (.iload_n 3, 1) := by decide +kernel
theorem dX3_worst_82 : decode cX3_worst 82 = .ok (.ireturn, 1) := by decide +kernel
theorem dX3_done_0 : decode cX3_done 0 = .ok (.iload_n 1, 1) := by decide +kernel
theorem dX3_done_1 : decode cX3_done 1 = .ok (.ifCond .lt 8, 3) := by decide +kernel
theorem dX3_done_4 : decode cX3_done 4 = .ok (.iload_n 1, 1) := by decide +kernel
theorem dX3_done_5 : decode cX3_done 5 = .ok (.iconst 3, 1) := by decide +kernel
theorem dX3_done_6 : decode cX3_done 6 = .ok (.if_icmp .le 5, 3) := by decide +kernel
theorem dX3_done_9 : decode cX3_done 9 = .ok (.iconst (-1), 1) := by decide +kernel
theorem dX3_done_10 : decode cX3_done 10 = .ok (.ireturn, 1) := by decide +kernel
theorem dX3_done_11 : decode cX3_done 11 = .ok (.iconst 0, 1) := by decide +kernel
theorem dX3_done_12 : decode cX3_done 12 = .ok (.istore_n 2, 1) := by decide +kernel
theorem dX3_done_13 : decode cX3_done 13 = .ok (.iconst 0, 1) := by decide +kernel
theorem dX3_done_14 : decode cX3_done 14 = .ok (.istore_n 3, 1) := by decide +kernel
theorem dX3_done_15 : decode cX3_done 15 = .ok (.iload_n 3, 1) := by decide +kernel
theorem dX3_done_16 : decode cX3_done 16 = .ok (.aload_n 0, 1) := by decide +kernel
theorem dX3_done_17 : decode cX3_done 17 = .ok (.getfield 10, 3) := by decide +kernel
theorem dX3_done_20 : decode cX3_done 20 = .ok (.getfield 79, 3) := by decide +kernel
theorem dX3_done_23 : decode cX3_done 23 = .ok (.if_icmp .ge 24, 3) := by decide +kernel
theorem dX3_done_26 : decode cX3_done 26 = .ok (.aload_n 0, 1) := by decide +kernel
theorem dX3_done_27 : decode cX3_done 27 = .ok (.iload_n 3, 1) := by decide +kernel
theorem dX3_done_28 : decode cX3_done 28 = .ok (.invokevirtual 178, 3) := by decide +kernel
theorem dX3_done_31 : decode cX3_done 31 = .ok (.iload_n 1, 1) := by decide +kernel
theorem dX3_done_32 : decode cX3_done 32 = .ok (.if_icmp .ne 9, 3) := by decide +kernel
theorem dX3_done_35 : decode cX3_done 35 = .ok (.iload_n 2, 1) := by decide +kernel
theorem dX3_done_36 : decode cX3_done 36 = .ok (.iconst 1, 1) := by decide +kernel
theorem dX3_done_37 : decode cX3_done 37 = .ok (.iload_n 3, 1) := by decide +kernel
theorem dX3_done_38 : decode cX3_done 38 = .ok (.ishl, 1) := by decide +kernel
theorem dX3_done_39 : decode cX3_done 39 = .ok (.ior, 1) := by decide +kernel
theorem dX3_done_40 : decode cX3_done 40 = .ok (.istore_n 2, 1) := by decide +kernel
theorem dX3_done_41 : decode cX3_done 41 = .ok (.iinc 3 1, 3) := by decide +kernel
theorem dX3_done_44 : decode cX3_done 44 = .ok (.goto (-29), 3) := by decide +kernel
theorem dX3_done_47 : decode cX3_done 47 = .ok (.iload_n 2, 1) := by decide +kernel
theorem dX3_done_48 : decode cX3_done 48 = .ok (.ireturn, 1) := by decide +kernel
theorem dX3_timelinessOf_0 : decode cX3_timelinessOf 0 = .ok (.aload_n 0, 1) := by decide +kernel
theorem dX3_timelinessOf_1 : decode cX3_timelinessOf 1 = .ok (.getfield 10, 3) := by decide +kernel
theorem dX3_timelinessOf_4 : decode cX3_timelinessOf 4 = .ok (.iload_n 1, 1) := by decide +kernel
theorem dX3_timelinessOf_5 : decode cX3_timelinessOf 5 = .ok (.invokevirtual 126, 3) := by decide +kernel
theorem dX3_timelinessOf_8 : decode cX3_timelinessOf 8 = .ok (.istore_n 2, 1) := by decide +kernel
theorem dX3_timelinessOf_9 : decode cX3_timelinessOf 9 = .ok (.iload_n 2, 1) := by decide +kernel
theorem dX3_timelinessOf_10 : decode cX3_timelinessOf 10 = .ok (.bipush (-4), 2) := by decide +kernel
theorem dX3_timelinessOf_12 : decode cX3_timelinessOf 12 = .ok (.if_icmp .ne 5, 3) := by decide +kernel
theorem dX3_timelinessOf_15 : decode cX3_timelinessOf 15 = .ok (.iconst 3, 1) := by decide +kernel
theorem dX3_timelinessOf_16 : decode cX3_timelinessOf 16 = .ok (.ireturn, 1) := by decide +kernel
theorem dX3_timelinessOf_17 : decode cX3_timelinessOf 17 = .ok (.iload_n 2, 1) := by decide +kernel
theorem dX3_timelinessOf_18 : decode cX3_timelinessOf 18 = .ok (.aload_n 0, 1) := by decide +kernel
theorem dX3_timelinessOf_19 : decode cX3_timelinessOf 19 = .ok (.getfield 10, 3) := by decide +kernel
theorem dX3_timelinessOf_22 : decode cX3_timelinessOf 22 = .ok (.getfield 120, 3) := by decide +kernel
theorem dX3_timelinessOf_25 : decode cX3_timelinessOf 25 = .ok (.iload_n 1, 1) := by decide +kernel
theorem dX3_timelinessOf_26 : decode cX3_timelinessOf 26 = .ok (.iaload, 1) := by decide +kernel
theorem dX3_timelinessOf_27 : decode cX3_timelinessOf 27 = .ok (.if_icmp .ne 5, 3) := by decide +kernel
theorem dX3_timelinessOf_30 : decode cX3_timelinessOf 30 = .ok (.iconst 1, 1) := by decide +kernel
theorem dX3_timelinessOf_31 : decode cX3_timelinessOf 31 = .ok (.ireturn, 1) := by decide +kernel
theorem dX3_timelinessOf_32 : decode cX3_timelinessOf 32 = .ok (.iload_n 2, 1) := by decide +kernel
theorem dX3_timelinessOf_33 : decode cX3_timelinessOf 33 = .ok (.aload_n 0, 1) := by decide +kernel
theorem dX3_timelinessOf_34 : decode cX3_timelinessOf 34 = .ok (.getfield 10, 3) := by decide +kernel
theorem dX3_timelinessOf_37 : decode cX3_timelinessOf 37 = .ok (.getfield 120, 3) := by decide +kernel
theorem dX3_timelinessOf_40 : decode cX3_timelinessOf 40 = .ok (.iload_n 1, 1) := by decide +kernel
theorem dX3_timelinessOf_41 : decode cX3_timelinessOf 41 = .ok (.iaload, 1) := by decide +kernel
theorem dX3_timelinessOf_42 : decode cX3_timelinessOf 42 = .ok (.if_icmp .ge 7, 3) := by decide +kernel
theorem dX3_timelinessOf_45 : decode cX3_timelinessOf 45 = .ok (.iconst 0, 1) := by decide +kernel
theorem dX3_timelinessOf_46 : decode cX3_timelinessOf 46 = .ok (.goto 4, 3) := by decide +kernel
theorem dX3_timelinessOf_49 : decode cX3_timelinessOf 49 = .ok (.iconst 2, 1) := by decide +kernel
theorem dX3_timelinessOf_50 : decode cX3_timelinessOf 50 = .ok (.ireturn, 1) := by decide +kernel
theorem dX3_lean_0 : decode cX3_lean 0 = .ok (.aload_n 0, 1) := by decide +kernel
theorem dX3_lean_1 : decode cX3_lean 1 = .ok (.getfield 10, 3) := by decide +kernel
theorem dX3_lean_4 : decode cX3_lean 4 = .ok (.iload_n 1, 1) := by decide +kernel
theorem dX3_lean_5 : decode cX3_lean 5 = .ok (.invokevirtual 95, 3) := by decide +kernel
theorem dX3_lean_8 : decode cX3_lean 8 = .ok (.ifCond .eq 21, 3) := by decide +kernel
theorem dX3_lean_11 : decode cX3_lean 11 = .ok (.aload_n 0, 1) := by decide +kernel
theorem dX3_lean_12 : decode cX3_lean 12 = .ok (.getfield 10, 3) := by decide +kernel
theorem dX3_lean_15 : decode cX3_lean 15 = .ok (.iload_n 2, 1) := by decide +kernel
theorem dX3_lean_16 : decode cX3_lean 16 = .ok (.invokevirtual 117, 3) := by decide +kernel
theorem dX3_lean_19 : decode cX3_lean 19 = .ok (.ifCond .eq 10, 3) := by decide +kernel
theorem dX3_lean_22 : decode cX3_lean 22 = .ok (.iload_n 3, 1) := by decide +kernel
theorem dX3_lean_23 : decode cX3_lean 23 = .ok (.invokestatic 143, 3) := by decide +kernel
theorem dX3_lean_26 : decode cX3_lean 26 = .ok (.ifCond .ne 5, 3) := by decide +kernel
theorem dX3_lean_29 : decode cX3_lean 29 = .ok (.iconst (-1), 1) := by decide +kernel
theorem dX3_lean_30 : decode cX3_lean 30 = .ok (.ireturn, 1) := by decide +kernel
theorem dX3_lean_31 : decode cX3_lean 31 = .ok (.aload_n 0, 1) := by decide +kernel
theorem dX3_lean_32 : decode cX3_lean 32 = .ok (.getfield 16, 3) := by decide +kernel
theorem dX3_lean_35 : decode cX3_lean 35 = .ok (.aload_n 0, 1) := by decide +kernel
theorem dX3_lean_36 : decode cX3_lean 36 = .ok (.getfield 10, 3) := by decide +kernel
theorem dX3_lean_39 : decode cX3_lean 39 = .ok (.invokevirtual 69, 3) := by decide +kernel
theorem dX3_lean_42 : decode cX3_lean 42 = .ok (.getstatic 181, 3) := by decide +kernel
theorem dX3_lean_45 : decode cX3_lean 45 = .ok (.astore 4, 2) := by decide +kernel
theorem dX3_lean_47 : decode cX3_lean 47 = .ok (.aload 4, 2) := by decide +kernel
theorem dX3_lean_49 : decode cX3_lean 49 = .ok (.arraylength, 1) := by decide +kernel
theorem dX3_lean_50 : decode cX3_lean 50 = .ok (.istore 5, 2) := by decide +kernel
theorem dX3_lean_52 : decode cX3_lean 52 = .ok (.iconst 0, 1) := by decide +kernel
theorem dX3_lean_53 : decode cX3_lean 53 = .ok (.istore 6, 2) := by decide +kernel
theorem dX3_lean_55 : decode cX3_lean 55 = .ok (.iload 6, 2) := by decide +kernel
theorem dX3_lean_57 : decode cX3_lean 57 = .ok (.iload 5, 2) := by decide +kernel
theorem dX3_lean_59 : decode cX3_lean 59 = .ok (.if_icmp .ge 52, 3) := by decide +kernel
theorem dX3_lean_62 : decode cX3_lean 62 = .ok (.aload 4, 2) := by decide +kernel
theorem dX3_lean_64 : decode cX3_lean 64 = .ok (.iload 6, 2) := by decide +kernel
theorem dX3_lean_66 : decode cX3_lean 66 = .ok (.iaload, 1) := by decide +kernel
theorem dX3_lean_67 : decode cX3_lean 67 = .ok (.istore 7, 2) := by decide +kernel
theorem dX3_lean_69 : decode cX3_lean 69 = .ok (.aload_n 0, 1) := by decide +kernel
theorem dX3_lean_70 : decode cX3_lean 70 = .ok (.getfield 16, 3) := by decide +kernel
theorem dX3_lean_73 : decode cX3_lean 73 = .ok (.iload_n 1, 1) := by decide +kernel
theorem dX3_lean_74 : decode cX3_lean 74 = .ok (.iload 7, 2) := by decide +kernel
theorem dX3_lean_76 : decode cX3_lean 76 = .ok (.invokevirtual 140, 3) := by decide +kernel
theorem dX3_lean_79 : decode cX3_lean 79 = .ok (.aload_n 0, 1) := by decide +kernel
theorem dX3_lean_80 : decode cX3_lean 80 = .ok (.getfield 16, 3) := by decide +kernel
theorem dX3_lean_83 : decode cX3_lean 83 = .ok (.iload_n 2, 1) := by decide +kernel
theorem dX3_lean_84 : decode cX3_lean 84 = .ok (.invokevirtual 126, 3) := by decide +kernel
theorem dX3_lean_87 : decode cX3_lean 87 = .ok (.istore 8, 2) := by decide +kernel
theorem dX3_lean_89 : decode cX3_lean 89 = .ok (.iload 8, 2) := by decide +kernel
theorem dX3_lean_91 : decode cX3_lean 91 = .ok (.bipush (-4), 2) := by decide +kernel
theorem dX3_lean_93 : decode cX3_lean 93 = .ok (.if_icmp .eq 12, 3) := by decide +kernel
theorem dX3_lean_96 : decode cX3_lean 96 = .ok (.iload 8, 2) := by decide +kernel
theorem dX3_lean_98 : decode cX3_lean 98 = .ok (.iload_n 3, 1) := by decide +kernel
theorem dX3_lean_99 : decode cX3_lean 99 = .ok (.if_icmp .gt 6, 3) := by decide +kernel
theorem dX3_lean_102 : decode cX3_lean 102 = .ok (.iload 7, 2) := by decide +kernel
theorem dX3_lean_104 : decode cX3_lean 104 = .ok (.ireturn, 1) := by decide +kernel
theorem dX3_lean_105 : decode cX3_lean 105 = .ok (.iinc 6 1, 3) := by decide +kernel
theorem dX3_lean_108 : decode cX3_lean 108 = .ok (.goto (-53), 3) := by decide +kernel
theorem dX3_lean_111 : decode cX3_lean 111 = .ok (.bipush (-4), 2) := by decide +kernel
theorem dX3_lean_113 : decode cX3_lean 113 = .ok (.ireturn, 1) := by decide +kernel
theorem dX3_mark_0 : decode cX3_mark 0 = .ok (.iload_n 1, 1) := by decide +kernel
theorem dX3_mark_1 : decode cX3_mark 1 = .ok (.invokestatic 133, 3) := by decide +kernel
theorem dX3_mark_4 : decode cX3_mark 4 = .ok (.ifCond .ne 5, 3) := by decide +kernel
theorem dX3_mark_7 : decode cX3_mark 7 = .ok (.iconst (-1), 1) := by decide +kernel
theorem dX3_mark_8 : decode cX3_mark 8 = .ok (.ireturn, 1) := by decide +kernel
theorem dX3_mark_9 : decode cX3_mark 9 = .ok (.aload_n 0, 1) := by decide +kernel
theorem dX3_mark_10 : decode cX3_mark 10 = .ok (.getfield 16, 3) := by decide +kernel
theorem dX3_mark_13 : decode cX3_mark 13 = .ok (.aload_n 0, 1) := by decide +kernel
theorem dX3_mark_14 : decode cX3_mark 14 = .ok (.getfield 10, 3) := by decide +kernel
theorem dX3_mark_17 : decode cX3_mark 17 = .ok (.invokevirtual 69, 3) := by decide +kernel
theorem dX3_mark_20 : decode cX3_mark 20 = .ok (.bipush (-4), 2) := by decide +kernel
theorem dX3_mark_22 : decode cX3_mark 22 = .ok (.istore_n 2, 1) := by decide +kernel
theorem dX3_mark_23 : decode cX3_mark 23 = .ok (.ldc 186, 2) := by decide +kernel
theorem dX3_mark_25 : decode cX3_mark 25 = .ok (.istore_n 3, 1) := by decide +kernel
theorem dX3_mark_26 : decode cX3_mark 26 = .ok (.iconst 0, 1) := by decide +kernel
theorem dX3_mark_27 : decode cX3_mark 27 = .ok (.istore 4, 2) := by decide +kernel
theorem dX3_mark_29 : decode cX3_mark 29 = .ok (.iload 4, 2) := by decide +kernel
theorem dX3_mark_31 : decode cX3_mark 31 = .ok (.bipush 7, 2) := by decide +kernel
theorem dX3_mark_33 : decode cX3_mark 33 = .ok (.if_icmp .ge 39, 3) := by decide +kernel
theorem dX3_mark_36 : decode cX3_mark 36 = .ok (.aload_n 0, 1) := by decide +kernel
theorem dX3_mark_37 : decode cX3_mark 37 = .ok (.getfield 16, 3) := by decide +kernel
theorem dX3_mark_40 : decode cX3_mark 40 = .ok (.iload 4, 2) := by decide +kernel
theorem dX3_mark_42 : decode cX3_mark 42 = .ok (.invokevirtual 163, 3) := by decide +kernel
theorem dX3_mark_45 : decode cX3_mark 45 = .ok (.aload_n 0, 1) := by decide +kernel
theorem dX3_mark_46 : decode cX3_mark 46 = .ok (.getfield 16, 3) := by decide +kernel
theorem dX3_mark_49 : decode cX3_mark 49 = .ok (.invokevirtual 92, 3) := by decide +kernel
theorem dX3_mark_52 : decode cX3_mark 52 = .ok (.istore 5, 2) := by decide +kernel
theorem dX3_mark_54 : decode cX3_mark 54 = .ok (.iload 5, 2) := by decide +kernel
theorem dX3_mark_56 : decode cX3_mark 56 = .ok (.iload_n 3, 1) := by decide +kernel
theorem dX3_mark_57 : decode cX3_mark 57 = .ok (.if_icmp .ge 9, 3) := by decide +kernel
theorem dX3_mark_60 : decode cX3_mark 60 = .ok (.iload 5, 2) := by decide +kernel
theorem dX3_mark_62 : decode cX3_mark 62 = .ok (.istore_n 3, 1) := by decide +kernel
theorem dX3_mark_63 : decode cX3_mark 63 = .ok (.iload 4, 2) := by decide +kernel
theorem dX3_mark_65 : decode cX3_mark 65 = .ok (.istore_n 2, 1) := by decide +kernel
theorem dX3_mark_66 : decode cX3_mark 66 = .ok (.iinc 4 1, 3) := by decide +kernel
theorem dX3_mark_69 : decode cX3_mark 69 = .ok (.goto (-40), 3) := by decide +kernel
theorem dX3_mark_72 : decode cX3_mark 72 = .ok (.iload_n 1, 1) := by decide +kernel
theorem dX3_mark_73 : decode cX3_mark 73 = .ok (.ifCond .ne 7, 3) := by decide +kernel
theorem dX3_mark_76 : decode cX3_mark 76 = .ok (.iload_n 2, 1) := by decide +kernel
theorem dX3_mark_77 : decode cX3_mark 77 = .ok (.goto 4, 3) := by decide +kernel
theorem dX3_mark_80 : decode cX3_mark 80 = .ok (.iload_n 3, 1) := by decide +kernel
theorem dX3_mark_81 : decode cX3_mark 81 = .ok (.ireturn, 1) := by decide +kernel
theorem dX3_give_0 : decode cX3_give 0 = .ok (.iload_n 1, 1) := by decide +kernel
theorem dX3_give_1 : decode cX3_give 1 = .ok (.invokestatic 133, 3) := by decide +kernel
theorem dX3_give_4 : decode cX3_give 4 = .ok (.ifCond .ne 5, 3) := by decide +kernel
theorem dX3_give_7 : decode cX3_give 7 = .ok (.iconst (-1), 1) := by decide +kernel
theorem dX3_give_8 : decode cX3_give 8 = .ok (.ireturn, 1) := by decide +kernel
theorem dX3_give_9 : decode cX3_give 9 = .ok (.aload_n 0, 1) := by decide +kernel
theorem dX3_give_10 : decode cX3_give 10 = .ok (.getfield 16, 3) := by decide +kernel
theorem dX3_give_13 : decode cX3_give 13 = .ok (.aload_n 0, 1) := by decide +kernel
theorem dX3_give_14 : decode cX3_give 14 = .ok (.getfield 10, 3) := by decide +kernel
theorem dX3_give_17 : decode cX3_give 17 = .ok (.invokevirtual 69, 3) := by decide +kernel
theorem dX3_give_20 : decode cX3_give 20 = .ok (.bipush (-4), 2) := by decide +kernel
theorem dX3_give_22 : decode cX3_give 22 = .ok (.istore_n 2, 1) := by decide +kernel
theorem dX3_give_23 : decode cX3_give 23 = .ok (.aload_n 0, 1) := by decide +kernel
theorem dX3_give_24 : decode cX3_give 24 = .ok (.getfield 10, 3) := by decide +kernel
theorem dX3_give_27 : decode cX3_give 27 = .ok (.invokevirtual 92, 3) := by decide +kernel
theorem dX3_give_30 : decode cX3_give 30 = .ok (.istore_n 3, 1) := by decide +kernel
theorem dX3_give_31 : decode cX3_give 31 = .ok (.iconst 0, 1) := by decide +kernel
theorem dX3_give_32 : decode cX3_give 32 = .ok (.istore 4, 2) := by decide +kernel
theorem dX3_give_34 : decode cX3_give 34 = .ok (.iload 4, 2) := by decide +kernel
theorem dX3_give_36 : decode cX3_give 36 = .ok (.bipush 12, 2) := by decide +kernel
theorem dX3_give_38 : decode cX3_give 38 = .ok (.if_icmp .ge 87, 3) := by decide +kernel
theorem dX3_give_41 : decode cX3_give 41 = .ok (.iconst 0, 1) := by decide +kernel
theorem dX3_give_42 : decode cX3_give 42 = .ok (.istore 5, 2) := by decide +kernel
theorem dX3_give_44 : decode cX3_give 44 = .ok (.iload 5, 2) := by decide +kernel
theorem dX3_give_46 : decode cX3_give 46 = .ok (.aload_n 0, 1) := by decide +kernel
theorem dX3_give_47 : decode cX3_give 47 = .ok (.getfield 10, 3) := by decide +kernel
theorem dX3_give_50 : decode cX3_give 50 = .ok (.getfield 76, 3) := by decide +kernel
theorem dX3_give_53 : decode cX3_give 53 = .ok (.if_icmp .ge 47, 3) := by decide +kernel
theorem dX3_give_56 : decode cX3_give 56 = .ok (.aload_n 0, 1) := by decide +kernel
theorem dX3_give_57 : decode cX3_give 57 = .ok (.getfield 16, 3) := by decide +kernel
theorem dX3_give_60 : decode cX3_give 60 = .ok (.iload 4, 2) := by decide +kernel
theorem dX3_give_62 : decode cX3_give 62 = .ok (.iload 5, 2) := by decide +kernel
theorem dX3_give_64 : decode cX3_give 64 = .ok (.invokevirtual 153, 3) := by decide +kernel
theorem dX3_give_67 : decode cX3_give 67 = .ok (.aload_n 0, 1) := by decide +kernel
theorem dX3_give_68 : decode cX3_give 68 = .ok (.getfield 16, 3) := by decide +kernel
theorem dX3_give_71 : decode cX3_give 71 = .ok (.invokevirtual 92, 3) := by decide +kernel
theorem dX3_give_74 : decode cX3_give 74 = .ok (.istore 6, 2) := by decide +kernel
theorem dX3_give_76 : decode cX3_give 76 = .ok (.iload 6, 2) := by decide +kernel
theorem dX3_give_78 : decode cX3_give 78 = .ok (.iload_n 3, 1) := by decide +kernel
theorem dX3_give_79 : decode cX3_give 79 = .ok (.if_icmp .ge 15, 3) := by decide +kernel
theorem dX3_give_82 : decode cX3_give 82 = .ok (.iload 6, 2) := by decide +kernel
theorem dX3_give_84 : decode cX3_give 84 = .ok (.istore_n 3, 1) := by decide +kernel
theorem dX3_give_85 : decode cX3_give 85 = .ok (.bipush 10, 2) := by decide +kernel
theorem dX3_give_87 : decode cX3_give 87 = .ok (.iload 4, 2) := by decide +kernel
theorem dX3_give_89 : decode cX3_give 89 = .ok (.imul, 1) := by decide +kernel
theorem dX3_give_90 : decode cX3_give 90 = .ok (.iload 5, 2) := by decide +kernel
theorem dX3_give_92 : decode cX3_give 92 = .ok (.iadd, 1) := by decide +kernel
theorem dX3_give_93 : decode cX3_give 93 = .ok (.istore_n 2, 1) := by decide +kernel
theorem dX3_give_94 : decode cX3_give 94 = .ok (.iinc 5 1, 3) := by decide +kernel
theorem dX3_give_97 : decode cX3_give 97 = .ok (.goto (-53), 3) := by decide +kernel
theorem dX3_give_100 : decode cX3_give 100 = .ok (.aload_n 0, 1) := by decide +kernel
theorem dX3_give_101 : decode cX3_give 101 = .ok (.getfield 16, 3) := by decide +kernel
theorem dX3_give_104 : decode cX3_give 104 = .ok (.iload 4, 2) := by decide +kernel
theorem dX3_give_106 : decode cX3_give 106 = .ok (.aload_n 0, 1) := by decide +kernel
theorem dX3_give_107 : decode cX3_give 107 = .ok (.getfield 10, 3) := by decide +kernel
theorem dX3_give_110 : decode cX3_give 110 = .ok (.getfield 114, 3) := by decide +kernel
theorem dX3_give_113 : decode cX3_give 113 = .ok (.iload 4, 2) := by decide +kernel
theorem dX3_give_115 : decode cX3_give 115 = .ok (.iaload, 1) := by decide +kernel
theorem dX3_give_116 : decode cX3_give 116 = .ok (.invokevirtual 153, 3) := by decide +kernel
theorem dX3_give_119 : decode cX3_give 119 = .ok (.iinc 4 1, 3) := by decide +kernel
theorem dX3_give_122 : decode cX3_give 122 = .ok (.goto (-88), 3) := by decide +kernel
theorem dX3_give_125 : decode cX3_give 125 = .ok (.iload_n 1, 1) := by decide +kernel
theorem dX3_give_126 : decode cX3_give 126 = .ok (.ifCond .eq 9, 3) := by decide +kernel
theorem dX3_give_129 : decode cX3_give 129 = .ok (.iload_n 2, 1) := by decide +kernel
theorem dX3_give_130 : decode cX3_give 130 = .ok (.bipush (-4), 2) := by decide +kernel
theorem dX3_give_132 : decode cX3_give 132 = .ok (.if_icmp .ne 7, 3) := by decide +kernel
theorem dX3_give_135 : decode cX3_give 135 = .ok (.iload_n 2, 1) := by decide +kernel
theorem dX3_give_136 : decode cX3_give 136 = .ok (.goto 4, 3) := by decide +kernel
theorem dX3_give_139 : decode cX3_give 139 = .ok (.iload_n 3, 1) := by decide +kernel
theorem dX3_give_140 : decode cX3_give 140 = .ok (.ireturn, 1) := by decide +kernel
theorem dX3_swap_0 : decode cX3_swap 0 = .ok (.iload_n 1, 1) := by decide +kernel
theorem dX3_swap_1 : decode cX3_swap 1 = .ok (.invokestatic 133, 3) := by decide +kernel
theorem dX3_swap_4 : decode cX3_swap 4 = .ok (.ifCond .ne 5, 3) := by decide +kernel
theorem dX3_swap_7 : decode cX3_swap 7 = .ok (.iconst (-1), 1) := by decide +kernel
theorem dX3_swap_8 : decode cX3_swap 8 = .ok (.ireturn, 1) := by decide +kernel
theorem dX3_swap_9 : decode cX3_swap 9 = .ok (.aload_n 0, 1) := by decide +kernel
theorem dX3_swap_10 : decode cX3_swap 10 = .ok (.getfield 16, 3) := by decide +kernel
theorem dX3_swap_13 : decode cX3_swap 13 = .ok (.aload_n 0, 1) := by decide +kernel
theorem dX3_swap_14 : decode cX3_swap 14 = .ok (.getfield 10, 3) := by decide +kernel
theorem dX3_swap_17 : decode cX3_swap 17 = .ok (.invokevirtual 69, 3) := by decide +kernel
theorem dX3_swap_20 : decode cX3_swap 20 = .ok (.bipush (-4), 2) := by decide +kernel
theorem dX3_swap_22 : decode cX3_swap 22 = .ok (.istore_n 2, 1) := by decide +kernel
theorem dX3_swap_23 : decode cX3_swap 23 = .ok (.aload_n 0, 1) := by decide +kernel
theorem dX3_swap_24 : decode cX3_swap 24 = .ok (.getfield 10, 3) := by decide +kernel
theorem dX3_swap_27 : decode cX3_swap 27 = .ok (.invokevirtual 92, 3) := by decide +kernel
theorem dX3_swap_30 : decode cX3_swap 30 = .ok (.istore_n 3, 1) := by decide +kernel
theorem dX3_swap_31 : decode cX3_swap 31 = .ok (.iconst 0, 1) := by decide +kernel
theorem dX3_swap_32 : decode cX3_swap 32 = .ok (.istore 4, 2) := by decide +kernel
theorem dX3_swap_34 : decode cX3_swap 34 = .ok (.iload 4, 2) := by decide +kernel
theorem dX3_swap_36 : decode cX3_swap 36 = .ok (.bipush 12, 2) := by decide +kernel
theorem dX3_swap_38 : decode cX3_swap 38 = .ok (.if_icmp .ge 56, 3) := by decide +kernel
theorem dX3_swap_41 : decode cX3_swap 41 = .ok (.iload 4, 2) := by decide +kernel
theorem dX3_swap_43 : decode cX3_swap 43 = .ok (.iconst 1, 1) := by decide +kernel
theorem dX3_swap_44 : decode cX3_swap 44 = .ok (.iadd, 1) := by decide +kernel
theorem dX3_swap_45 : decode cX3_swap 45 = .ok (.istore 5, 2) := by decide +kernel
theorem dX3_swap_47 : decode cX3_swap 47 = .ok (.iload 5, 2) := by decide +kernel
theorem dX3_swap_49 : decode cX3_swap 49 = .ok (.bipush 12, 2) := by decide +kernel
theorem dX3_swap_51 : decode cX3_swap 51 = .ok (.if_icmp .ge 37, 3) := by decide +kernel
theorem dX3_swap_54 : decode cX3_swap 54 = .ok (.aload_n 0, 1) := by decide +kernel
theorem dX3_swap_55 : decode cX3_swap 55 = .ok (.iload 4, 2) := by decide +kernel
theorem dX3_swap_57 : decode cX3_swap 57 = .ok (.iload 5, 2) := by decide +kernel
theorem dX3_swap_59 : decode cX3_swap 59 = .ok (.invokevirtual 187, 3) := by decide +kernel
theorem dX3_swap_62 : decode cX3_swap 62 = .ok (.istore 6, 2) := by decide +kernel
theorem dX3_swap_64 : decode cX3_swap 64 = .ok (.iload 6, 2) := by decide +kernel
theorem dX3_swap_66 : decode cX3_swap 66 = .ok (.iload_n 3, 1) := by decide +kernel
theorem dX3_swap_67 : decode cX3_swap 67 = .ok (.if_icmp .ge 15, 3) := by decide +kernel
theorem dX3_swap_70 : decode cX3_swap 70 = .ok (.iload 6, 2) := by decide +kernel
theorem dX3_swap_72 : decode cX3_swap 72 = .ok (.istore_n 3, 1) := by decide +kernel
theorem dX3_swap_73 : decode cX3_swap 73 = .ok (.bipush 100, 2) := by decide +kernel
theorem dX3_swap_75 : decode cX3_swap 75 = .ok (.iload 4, 2) := by decide +kernel
theorem dX3_swap_77 : decode cX3_swap 77 = .ok (.imul, 1) := by decide +kernel
theorem dX3_swap_78 : decode cX3_swap 78 = .ok (.iload 5, 2) := by decide +kernel
theorem dX3_swap_80 : decode cX3_swap 80 = .ok (.iadd, 1) := by decide +kernel
theorem dX3_swap_81 : decode cX3_swap 81 = .ok (.istore_n 2, 1) := by decide +kernel
theorem dX3_swap_82 : decode cX3_swap 82 = .ok (.iinc 5 1, 3) := by decide +kernel
theorem dX3_swap_85 : decode cX3_swap 85 = .ok (.goto (-38), 3) := by decide +kernel
theorem dX3_swap_88 : decode cX3_swap 88 = .ok (.iinc 4 1, 3) := by decide +kernel
theorem dX3_swap_91 : decode cX3_swap 91 = .ok (.goto (-57), 3) := by decide +kernel
theorem dX3_swap_94 : decode cX3_swap 94 = .ok (.iload_n 1, 1) := by decide +kernel
theorem dX3_swap_95 : decode cX3_swap 95 = .ok (.ifCond .eq 9, 3) := by decide +kernel
theorem dX3_swap_98 : decode cX3_swap 98 = .ok (.iload_n 2, 1) := by decide +kernel
theorem dX3_swap_99 : decode cX3_swap 99 = .ok (.bipush (-4), 2) := by decide +kernel
theorem dX3_swap_101 : decode cX3_swap 101 = .ok (.if_icmp .ne 7, 3) := by decide +kernel
theorem dX3_swap_104 : decode cX3_swap 104 = .ok (.iload_n 2, 1) := by decide +kernel
theorem dX3_swap_105 : decode cX3_swap 105 = .ok (.goto 4, 3) := by decide +kernel
theorem dX3_swap_108 : decode cX3_swap 108 = .ok (.iload_n 3, 1) := by decide +kernel
theorem dX3_swap_109 : decode cX3_swap 109 = .ok (.ireturn, 1) := by decide +kernel
theorem dX3_harmOfSwapped_0 : decode cX3_harmOfSwapped 0 = .ok (.aload_n 0, 1) := by decide +kernel
theorem dX3_harmOfSwapped_1 : decode cX3_harmOfSwapped 1 = .ok (.getfield 16, 3) := by decide +kernel
theorem dX3_harmOfSwapped_4 : decode cX3_harmOfSwapped 4 = .ok (.iload_n 1, 1) := by decide +kernel
theorem dX3_harmOfSwapped_5 : decode cX3_harmOfSwapped 5 = .ok (.iload_n 2, 1) := by decide +kernel
theorem dX3_harmOfSwapped_6 : decode cX3_harmOfSwapped 6 = .ok (.invokevirtual 190, 3) := by decide +kernel
theorem dX3_harmOfSwapped_9 : decode cX3_harmOfSwapped 9 = .ok (.aload_n 0, 1) := by decide +kernel
theorem dX3_harmOfSwapped_10 : decode cX3_harmOfSwapped 10 = .ok (.getfield 16, 3) := by decide +kernel
theorem dX3_harmOfSwapped_13 : decode cX3_harmOfSwapped 13 = .ok (.invokevirtual 92, 3) := by decide +kernel
theorem dX3_harmOfSwapped_16 : decode cX3_harmOfSwapped 16 = .ok (.istore_n 3, 1) := by decide +kernel
theorem dX3_harmOfSwapped_17 : decode cX3_harmOfSwapped 17 = .ok (.aload_n 0, 1) := by decide +kernel
theorem dX3_harmOfSwapped_18 : decode cX3_harmOfSwapped 18 = .ok (.getfield 16, 3) := by decide +kernel
theorem dX3_harmOfSwapped_21 : decode cX3_harmOfSwapped 21 = .ok (.iload_n 1, 1) := by decide +kernel
theorem dX3_harmOfSwapped_22 : decode cX3_harmOfSwapped 22 = .ok (.iload_n 2, 1) := by decide +kernel
theorem dX3_harmOfSwapped_23 : decode cX3_harmOfSwapped 23 = .ok (.invokevirtual 190, 3) := by decide +kernel
theorem dX3_harmOfSwapped_26 : decode cX3_harmOfSwapped 26 = .ok (.iload_n 3, 1) := by decide +kernel
theorem dX3_harmOfSwapped_27 : decode cX3_harmOfSwapped 27 = .ok (.ireturn, 1) := by decide +kernel
theorem dX3_sole_0 : decode cX3_sole 0 = .ok (.iload_n 1, 1) := by decide +kernel
theorem dX3_sole_1 : decode cX3_sole 1 = .ok (.invokestatic 133, 3) := by decide +kernel
theorem dX3_sole_4 : decode cX3_sole 4 = .ok (.ifCond .ne 5, 3) := by decide +kernel
theorem dX3_sole_7 : decode cX3_sole 7 = .ok (.iconst (-1), 1) := by decide +kernel
theorem dX3_sole_8 : decode cX3_sole 8 = .ok (.ireturn, 1) := by decide +kernel
theorem dX3_sole_9 : decode cX3_sole 9 = .ok (.aload_n 0, 1) := by decide +kernel
theorem dX3_sole_10 : decode cX3_sole 10 = .ok (.getfield 16, 3) := by decide +kernel
theorem dX3_sole_13 : decode cX3_sole 13 = .ok (.aload_n 0, 1) := by decide +kernel
theorem dX3_sole_14 : decode cX3_sole 14 = .ok (.getfield 10, 3) := by decide +kernel
theorem dX3_sole_17 : decode cX3_sole 17 = .ok (.invokevirtual 69, 3) := by decide +kernel
theorem dX3_sole_20 : decode cX3_sole 20 = .ok (.bipush (-4), 2) := by decide +kernel
theorem dX3_sole_22 : decode cX3_sole 22 = .ok (.istore_n 2, 1) := by decide +kernel
theorem dX3_sole_23 : decode cX3_sole 23 = .ok (.ldc 186, 2) := by decide +kernel
theorem dX3_sole_25 : decode cX3_sole 25 = .ok (.istore_n 3, 1) := by decide +kernel
theorem dX3_sole_26 : decode cX3_sole 26 = .ok (.iconst 0, 1) := by decide +kernel
theorem dX3_sole_27 : decode cX3_sole 27 = .ok (.istore 4, 2) := by decide +kernel
theorem dX3_sole_29 : decode cX3_sole 29 = .ok (.iload 4, 2) := by decide +kernel
theorem dX3_sole_31 : decode cX3_sole 31 = .ok (.aload_n 0, 1) := by decide +kernel
theorem dX3_sole_32 : decode cX3_sole 32 = .ok (.getfield 10, 3) := by decide +kernel
theorem dX3_sole_35 : decode cX3_sole 35 = .ok (.getfield 76, 3) := by decide +kernel
theorem dX3_sole_38 : decode cX3_sole 38 = .ok (.if_icmp .ge 39, 3) := by decide +kernel
theorem dX3_sole_41 : decode cX3_sole 41 = .ok (.aload_n 0, 1) := by decide +kernel
theorem dX3_sole_42 : decode cX3_sole 42 = .ok (.getfield 16, 3) := by decide +kernel
theorem dX3_sole_45 : decode cX3_sole 45 = .ok (.iload 4, 2) := by decide +kernel
theorem dX3_sole_47 : decode cX3_sole 47 = .ok (.invokevirtual 193, 3) := by decide +kernel
theorem dX3_sole_50 : decode cX3_sole 50 = .ok (.aload_n 0, 1) := by decide +kernel
theorem dX3_sole_51 : decode cX3_sole 51 = .ok (.getfield 16, 3) := by decide +kernel
theorem dX3_sole_54 : decode cX3_sole 54 = .ok (.invokevirtual 92, 3) := by decide +kernel
theorem dX3_sole_57 : decode cX3_sole 57 = .ok (.istore 5, 2) := by decide +kernel
theorem dX3_sole_59 : decode cX3_sole 59 = .ok (.iload 5, 2) := by decide +kernel
theorem dX3_sole_61 : decode cX3_sole 61 = .ok (.iload_n 3, 1) := by decide +kernel
theorem dX3_sole_62 : decode cX3_sole 62 = .ok (.if_icmp .ge 9, 3) := by decide +kernel
theorem dX3_sole_65 : decode cX3_sole 65 = .ok (.iload 5, 2) := by decide +kernel
theorem dX3_sole_67 : decode cX3_sole 67 = .ok (.istore_n 3, 1) := by decide +kernel
theorem dX3_sole_68 : decode cX3_sole 68 = .ok (.iload 4, 2) := by decide +kernel
theorem dX3_sole_70 : decode cX3_sole 70 = .ok (.istore_n 2, 1) := by decide +kernel
theorem dX3_sole_71 : decode cX3_sole 71 = .ok (.iinc 4 1, 3) := by decide +kernel
theorem dX3_sole_74 : decode cX3_sole 74 = .ok (.goto (-45), 3) := by decide +kernel
theorem dX3_sole_77 : decode cX3_sole 77 = .ok (.iload_n 1, 1) := by decide +kernel
theorem dX3_sole_78 : decode cX3_sole 78 = .ok (.ifCond .eq 9, 3) := by decide +kernel
theorem dX3_sole_81 : decode cX3_sole 81 = .ok (.iload_n 2, 1) := by decide +kernel
theorem dX3_sole_82 : decode cX3_sole 82 = .ok (.bipush (-4), 2) := by decide +kernel
theorem dX3_sole_84 : decode cX3_sole 84 = .ok (.if_icmp .ne 7, 3) := by decide +kernel
theorem dX3_sole_87 : decode cX3_sole 87 = .ok (.iload_n 2, 1) := by decide +kernel
theorem dX3_sole_88 : decode cX3_sole 88 = .ok (.goto 4, 3) := by decide +kernel
theorem dX3_sole_91 : decode cX3_sole 91 = .ok (.iload_n 3, 1) := by decide +kernel
theorem dX3_sole_92 : decode cX3_sole 92 = .ok (.ireturn, 1) := by decide +kernel
theorem dX3_mean_0 : decode cX3_mean 0 = .ok (.iload_n 1, 1) := by decide +kernel
theorem dX3_mean_1 : decode cX3_mean 1 = .ok (.ifCond .lt 16, 3) := by decide +kernel
theorem dX3_mean_4 : decode cX3_mean 4 = .ok (.iload_n 1, 1) := by decide +kernel
theorem dX3_mean_5 : decode cX3_mean 5 = .ok (.bipush 10, 2) := by decide +kernel
theorem dX3_mean_7 : decode cX3_mean 7 = .ok (.if_icmp .gt 10, 3) := by decide +kernel
theorem dX3_mean_10 : decode cX3_mean 10 = .ok (.iload_n 2, 1) := by decide +kernel
theorem dX3_mean_11 : decode cX3_mean 11 = .ok (.invokestatic 133, 3) := by decide +kernel
theorem dX3_mean_14 : decode cX3_mean 14 = .ok (.ifCond .ne 7, 3) := by decide +kernel
theorem dX3_mean_17 : decode cX3_mean 17 = .ok (.ldc2_w 196, 3) := by decide +kernel
theorem dX3_mean_20 : decode cX3_mean 20 = .ok (.lreturn, 1) := by decide +kernel
theorem dX3_mean_21 : decode cX3_mean 21 = .ok (.lconst 0, 1) := by decide +kernel
theorem dX3_mean_22 : decode cX3_mean 22 = .ok (.lstore_n 3, 1) := by decide +kernel
theorem dX3_mean_23 : decode cX3_mean 23 = .ok (.iconst 0, 1) := by decide +kernel
theorem dX3_mean_24 : decode cX3_mean 24 = .ok (.istore 5, 2) := by decide +kernel
theorem dX3_mean_26 : decode cX3_mean 26 = .ok (.iload 5, 2) := by decide +kernel
theorem dX3_mean_28 : decode cX3_mean 28 = .ok (.aload_n 0, 1) := by decide +kernel
theorem dX3_mean_29 : decode cX3_mean 29 = .ok (.getfield 10, 3) := by decide +kernel
theorem dX3_mean_32 : decode cX3_mean 32 = .ok (.getfield 79, 3) := by decide +kernel
theorem dX3_mean_35 : decode cX3_mean 35 = .ok (.if_icmp .ge 19, 3) := by decide +kernel
theorem dX3_mean_38 : decode cX3_mean 38 = .ok (.lload_n 3, 1) := by decide +kernel
theorem dX3_mean_39 : decode cX3_mean 39 = .ok (.aload_n 0, 1) := by decide +kernel
theorem dX3_mean_40 : decode cX3_mean 40 = .ok (.iload 5, 2) := by decide +kernel
theorem dX3_mean_42 : decode cX3_mean 42 = .ok (.iload_n 1, 1) := by decide +kernel
theorem dX3_mean_43 : decode cX3_mean 43 = .ok (.invokevirtual 198, 3) := by decide +kernel
theorem dX3_mean_46 : decode cX3_mean 46 = .ok (.ladd, 1) := by decide +kernel
theorem dX3_mean_47 : decode cX3_mean 47 = .ok (.lstore_n 3, 1) := by decide +kernel
theorem dX3_mean_48 : decode cX3_mean 48 = .ok (.iinc 5 1, 3) := by decide +kernel
theorem dX3_mean_51 : decode cX3_mean 51 = .ok (.goto (-25), 3) := by decide +kernel
theorem dX3_mean_54 : decode cX3_mean 54 = .ok (.lload_n 3, 1) := by decide +kernel
theorem dX3_mean_55 : decode cX3_mean 55 = .ok (.iload_n 2, 1) := by decide +kernel
theorem dX3_mean_56 : decode cX3_mean 56 = .ok (.invokestatic 202, 3) := by decide +kernel
theorem dX3_mean_59 : decode cX3_mean 59 = .ok (.lreturn, 1) := by decide +kernel
theorem dX3_luck_0 : decode cX3_luck 0 = .ok (.iload_n 1, 1) := by decide +kernel
theorem dX3_luck_1 : decode cX3_luck 1 = .ok (.ifCond .lt 27, 3) := by decide +kernel
theorem dX3_luck_4 : decode cX3_luck 4 = .ok (.iload_n 1, 1) := by decide +kernel
theorem dX3_luck_5 : decode cX3_luck 5 = .ok (.bipush 10, 2) := by decide +kernel
theorem dX3_luck_7 : decode cX3_luck 7 = .ok (.if_icmp .gt 21, 3) := by decide +kernel
theorem dX3_luck_10 : decode cX3_luck 10 = .ok (.aload_n 0, 1) := by decide +kernel
theorem dX3_luck_11 : decode cX3_luck 11 = .ok (.getfield 10, 3) := by decide +kernel
theorem dX3_luck_14 : decode cX3_luck 14 = .ok (.iload_n 2, 1) := by decide +kernel
theorem dX3_luck_15 : decode cX3_luck 15 = .ok (.invokevirtual 117, 3) := by decide +kernel
theorem dX3_luck_18 : decode cX3_luck 18 = .ok (.ifCond .eq 10, 3) := by decide +kernel
theorem dX3_luck_21 : decode cX3_luck 21 = .ok (.iload_n 3, 1) := by decide +kernel
theorem dX3_luck_22 : decode cX3_luck 22 = .ok (.invokestatic 133, 3) := by decide +kernel
theorem dX3_luck_25 : decode cX3_luck 25 = .ok (.ifCond .ne 7, 3) := by decide +kernel
theorem dX3_luck_28 : decode cX3_luck 28 = .ok (.ldc2_w 196, 3) := by decide +kernel
theorem dX3_luck_31 : decode cX3_luck 31 = .ok (.lreturn, 1) := by decide +kernel
theorem dX3_luck_32 : decode cX3_luck 32 = .ok (.ldc2_w 206, 3) := by decide +kernel
theorem dX3_luck_35 : decode cX3_luck 35 = .ok (.aload_n 0, 1) := by decide +kernel
theorem dX3_luck_36 : decode cX3_luck 36 = .ok (.iload_n 2, 1) := by decide +kernel
theorem dX3_luck_37 : decode cX3_luck 37 = .ok (.iload_n 1, 1) := by decide +kernel
theorem dX3_luck_38 : decode cX3_luck 38 = .ok (.invokevirtual 208, 3) := by decide +kernel
theorem dX3_luck_41 : decode cX3_luck 41 = .ok (.lsub, 1) := by decide +kernel
theorem dX3_luck_42 : decode cX3_luck 42 = .ok (.iload_n 3, 1) := by decide +kernel
theorem dX3_luck_43 : decode cX3_luck 43 = .ok (.invokestatic 202, 3) := by decide +kernel
theorem dX3_luck_46 : decode cX3_luck 46 = .ok (.lreturn, 1) := by decide +kernel
theorem dX3_weighedHarm_0 : decode cX3_weighedHarm 0 = .ok (.lconst 0, 1) := by decide +kernel
theorem dX3_weighedHarm_1 : decode cX3_weighedHarm 1 = .ok (.lstore_n 3, 1) := by decide +kernel
theorem dX3_weighedHarm_2 : decode cX3_weighedHarm 2 = .ok (.ldc2_w 206, 3) := by decide +kernel
theorem dX3_weighedHarm_5 : decode cX3_weighedHarm 5 = .ok (.lstore 5, 2) := by decide +kernel
theorem dX3_weighedHarm_7 : decode cX3_weighedHarm 7 = .ok (.iconst 0, 1) := by decide +kernel
theorem dX3_weighedHarm_8 : decode cX3_weighedHarm 8 = .ok (.istore 7, 2) := by decide +kernel
theorem dX3_weighedHarm_10 : decode cX3_weighedHarm 10 = .ok (.iload 7, 2) := by decide +kernel
theorem dX3_weighedHarm_12 : decode cX3_weighedHarm 12 = .ok (.bipush 12, 2) := by decide +kernel
theorem dX3_weighedHarm_14 : decode cX3_weighedHarm 14 = .ok (.if_icmp .ge 74, 3) := by decide +kernel
theorem dX3_weighedHarm_17 : decode cX3_weighedHarm 17 = .ok (.aload_n 0, 1) := by decide +kernel
theorem dX3_weighedHarm_18 : decode cX3_weighedHarm 18 = .ok (.getfield 10, 3) := by decide +kernel
theorem dX3_weighedHarm_21 : decode cX3_weighedHarm 21 = .ok (.iload 7, 2) := by decide +kernel
theorem dX3_weighedHarm_23 : decode cX3_weighedHarm 23 = .ok (.aload_n 0, 1) := by decide +kernel
theorem dX3_weighedHarm_24 : decode cX3_weighedHarm 24 = .ok (.getfield 10, 3) := by decide +kernel
theorem dX3_weighedHarm_27 : decode cX3_weighedHarm 27 = .ok (.getfield 120, 3) := by decide +kernel
theorem dX3_weighedHarm_30 : decode cX3_weighedHarm 30 = .ok (.iload_n 1, 1) := by decide +kernel
theorem dX3_weighedHarm_31 : decode cX3_weighedHarm 31 = .ok (.iaload, 1) := by decide +kernel
theorem dX3_weighedHarm_32 : decode cX3_weighedHarm 32 = .ok (.invokevirtual 211, 3) := by decide +kernel
theorem dX3_weighedHarm_35 : decode cX3_weighedHarm 35 = .ok (.istore 8, 2) := by decide +kernel
theorem dX3_weighedHarm_37 : decode cX3_weighedHarm 37 = .ok (.iload 8, 2) := by decide +kernel
theorem dX3_weighedHarm_39 : decode cX3_weighedHarm 39 = .ok (.bipush (-4), 2) := by decide +kernel
theorem dX3_weighedHarm_41 : decode cX3_weighedHarm 41 = .ok (.if_icmp .eq 41, 3) := by decide +kernel
theorem dX3_weighedHarm_44 : decode cX3_weighedHarm 44 = .ok (.lload_n 3, 1) := by decide +kernel
theorem dX3_weighedHarm_45 : decode cX3_weighedHarm 45 = .ok (.lload 5, 2) := by decide +kernel
theorem dX3_weighedHarm_47 : decode cX3_weighedHarm 47 = .ok (.ldc2_w 214, 3) := by decide +kernel
theorem dX3_weighedHarm_50 : decode cX3_weighedHarm 50 = .ok (.ldiv, 1) := by decide +kernel
theorem dX3_weighedHarm_51 : decode cX3_weighedHarm 51 = .ok (.bipush 10, 2) := by decide +kernel
theorem dX3_weighedHarm_53 : decode cX3_weighedHarm 53 = .ok (.iload_n 2, 1) := by decide +kernel
theorem dX3_weighedHarm_54 : decode cX3_weighedHarm 54 = .ok (.isub, 1) := by decide +kernel
theorem dX3_weighedHarm_55 : decode cX3_weighedHarm 55 = .ok (.i2l, 1) := by decide +kernel
theorem dX3_weighedHarm_56 : decode cX3_weighedHarm 56 = .ok (.lmul, 1) := by decide +kernel
theorem dX3_weighedHarm_57 : decode cX3_weighedHarm 57 = .ok (.aload_n 0, 1) := by decide +kernel
theorem dX3_weighedHarm_58 : decode cX3_weighedHarm 58 = .ok (.getfield 10, 3) := by decide +kernel
theorem dX3_weighedHarm_61 : decode cX3_weighedHarm 61 = .ok (.iload_n 1, 1) := by decide +kernel
theorem dX3_weighedHarm_62 : decode cX3_weighedHarm 62 = .ok (.iload 8, 2) := by decide +kernel
theorem dX3_weighedHarm_64 : decode cX3_weighedHarm 64 = .ok (.invokevirtual 129, 3) := by decide +kernel
theorem dX3_weighedHarm_67 : decode cX3_weighedHarm 67 = .ok (.i2l, 1) := by decide +kernel
theorem dX3_weighedHarm_68 : decode cX3_weighedHarm 68 = .ok (.lmul, 1) := by decide +kernel
theorem dX3_weighedHarm_69 : decode cX3_weighedHarm 69 = .ok (.ladd, 1) := by decide +kernel
theorem dX3_weighedHarm_70 : decode cX3_weighedHarm 70 = .ok (.lstore_n 3, 1) := by decide +kernel
theorem dX3_weighedHarm_71 : decode cX3_weighedHarm 71 = .ok (.lload 5, 2) := by decide +kernel
theorem dX3_weighedHarm_73 : decode cX3_weighedHarm 73 = .ok (.ldc2_w 214, 3) := by decide +kernel
theorem dX3_weighedHarm_76 : decode cX3_weighedHarm 76 = .ok (.ldiv, 1) := by decide +kernel
theorem dX3_weighedHarm_77 : decode cX3_weighedHarm 77 = .ok (.iload_n 2, 1) := by decide +kernel
theorem dX3_weighedHarm_78 : decode cX3_weighedHarm 78 = .ok (.i2l, 1) := by decide +kernel
theorem dX3_weighedHarm_79 : decode cX3_weighedHarm 79 = .ok (.lmul, 1) := by decide +kernel
theorem dX3_weighedHarm_80 : decode cX3_weighedHarm 80 = .ok (.lstore 5, 2) := by decide +kernel
theorem dX3_weighedHarm_82 : decode cX3_weighedHarm 82 = .ok (.iinc 7 1, 3) := by decide +kernel
theorem dX3_weighedHarm_85 : decode cX3_weighedHarm 85 = .ok (.goto (-75), 3) := by decide +kernel
theorem dX3_weighedHarm_88 : decode cX3_weighedHarm 88 = .ok (.lload_n 3, 1) := by decide +kernel
theorem dX3_weighedHarm_89 : decode cX3_weighedHarm 89 = .ok (.lload 5, 2) := by decide +kernel
theorem dX3_weighedHarm_91 : decode cX3_weighedHarm 91 = .ok (.aload_n 0, 1) := by decide +kernel
theorem dX3_weighedHarm_92 : decode cX3_weighedHarm 92 = .ok (.getfield 10, 3) := by decide +kernel
theorem dX3_weighedHarm_95 : decode cX3_weighedHarm 95 = .ok (.iload_n 1, 1) := by decide +kernel
theorem dX3_weighedHarm_96 : decode cX3_weighedHarm 96 = .ok (.bipush (-4), 2) := by decide +kernel
theorem dX3_weighedHarm_98 : decode cX3_weighedHarm 98 = .ok (.invokevirtual 129, 3) := by decide +kernel
theorem dX3_weighedHarm_101 : decode cX3_weighedHarm 101 = .ok (.i2l, 1) := by decide +kernel
theorem dX3_weighedHarm_102 : decode cX3_weighedHarm 102 = .ok (.lmul, 1) := by decide +kernel
theorem dX3_weighedHarm_103 : decode cX3_weighedHarm 103 = .ok (.ladd, 1) := by decide +kernel
theorem dX3_weighedHarm_104 : decode cX3_weighedHarm 104 = .ok (.lreturn, 1) := by decide +kernel
theorem dX3_oddsOfNever_0 : decode cX3_oddsOfNever 0 = .ok (.ldc2_w 206, 3) := by decide +kernel
theorem dX3_oddsOfNever_3 : decode cX3_oddsOfNever 3 = .ok (.lstore_n 3, 1) := by decide +kernel
theorem dX3_oddsOfNever_4 : decode cX3_oddsOfNever 4 = .ok (.iconst 0, 1) := by decide +kernel
theorem dX3_oddsOfNever_5 : decode cX3_oddsOfNever 5 = .ok (.istore 5, 2) := by decide +kernel
theorem dX3_oddsOfNever_7 : decode cX3_oddsOfNever 7 = .ok (.iload 5, 2) := by decide +kernel
theorem dX3_oddsOfNever_9 : decode cX3_oddsOfNever 9 = .ok (.bipush 12, 2) := by decide +kernel
theorem dX3_oddsOfNever_11 : decode cX3_oddsOfNever 11 = .ok (.if_icmp .ge 41, 3) := by decide +kernel
theorem dX3_oddsOfNever_14 : decode cX3_oddsOfNever 14 = .ok (.aload_n 0, 1) := by decide +kernel
theorem dX3_oddsOfNever_15 : decode cX3_oddsOfNever 15 = .ok (.getfield 10, 3) := by decide +kernel
theorem dX3_oddsOfNever_18 : decode cX3_oddsOfNever 18 = .ok (.iload 5, 2) := by decide +kernel
theorem dX3_oddsOfNever_20 : decode cX3_oddsOfNever 20 = .ok (.aload_n 0, 1) := by decide +kernel
theorem dX3_oddsOfNever_21 : decode cX3_oddsOfNever 21 = .ok (.getfield 10, 3) := by decide +kernel
theorem dX3_oddsOfNever_24 : decode cX3_oddsOfNever 24 = .ok (.getfield 120, 3) := by decide +kernel
theorem dX3_oddsOfNever_27 : decode cX3_oddsOfNever 27 = .ok (.iload_n 1, 1) := by decide +kernel
theorem dX3_oddsOfNever_28 : decode cX3_oddsOfNever 28 = .ok (.iaload, 1) := by decide +kernel
theorem dX3_oddsOfNever_29 : decode cX3_oddsOfNever 29 = .ok (.invokevirtual 211, 3) := by decide +kernel
theorem dX3_oddsOfNever_32 : decode cX3_oddsOfNever 32 = .ok (.bipush (-4), 2) := by decide +kernel
theorem dX3_oddsOfNever_34 : decode cX3_oddsOfNever 34 = .ok (.if_icmp .eq 12, 3) := by decide +kernel
theorem dX3_oddsOfNever_37 : decode cX3_oddsOfNever 37 = .ok (.lload_n 3, 1) := by decide +kernel
theorem dX3_oddsOfNever_38 : decode cX3_oddsOfNever 38 = .ok (.ldc2_w 214, 3) := by decide +kernel
theorem dX3_oddsOfNever_41 : decode cX3_oddsOfNever 41 = .ok (.ldiv, 1) := by decide +kernel
theorem dX3_oddsOfNever_42 : decode cX3_oddsOfNever 42 = .ok (.iload_n 2, 1) := by decide +kernel
theorem dX3_oddsOfNever_43 : decode cX3_oddsOfNever 43 = .ok (.i2l, 1) := by decide +kernel
theorem dX3_oddsOfNever_44 : decode cX3_oddsOfNever 44 = .ok (.lmul, 1) := by decide +kernel
theorem dX3_oddsOfNever_45 : decode cX3_oddsOfNever 45 = .ok (.lstore_n 3, 1) := by decide +kernel
theorem dX3_oddsOfNever_46 : decode cX3_oddsOfNever 46 = .ok (.iinc 5 1, 3) := by decide +kernel
theorem dX3_oddsOfNever_49 : decode cX3_oddsOfNever 49 = .ok (.goto (-42), 3) := by decide +kernel
theorem dX3_oddsOfNever_52 : decode cX3_oddsOfNever 52 = .ok (.lload_n 3, 1) := by decide +kernel
theorem dX3_oddsOfNever_53 : decode cX3_oddsOfNever 53 = .ok (.lreturn, 1) := by decide +kernel
theorem dX3_partOfFraction_0 : decode cX3_partOfFraction 0 = .ok (.ldc2_w 206, 3) := by decide +kernel
theorem dX3_partOfFraction_3 : decode cX3_partOfFraction 3 = .ok (.lstore_n 3, 1) := by decide +kernel
theorem dX3_partOfFraction_4 : decode cX3_partOfFraction 4 = .ok (.lload_n 0, 1) := by decide +kernel
theorem dX3_partOfFraction_5 : decode cX3_partOfFraction 5 = .ok (.lstore 5, 2) := by decide +kernel
theorem dX3_partOfFraction_7 : decode cX3_partOfFraction 7 = .ok (.iconst 0, 1) := by decide +kernel
theorem dX3_partOfFraction_8 : decode cX3_partOfFraction 8 = .ok (.istore 7, 2) := by decide +kernel
theorem dX3_partOfFraction_10 : decode cX3_partOfFraction 10 = .ok (.iload 7, 2) := by decide +kernel
theorem dX3_partOfFraction_12 : decode cX3_partOfFraction 12 = .ok (.bipush 100, 2) := by decide +kernel
theorem dX3_partOfFraction_14 : decode cX3_partOfFraction 14 = .ok (.if_icmp .ge 29, 3) := by decide +kernel
theorem dX3_partOfFraction_17 : decode cX3_partOfFraction 17 = .ok (.lload 5, 2) := by decide +kernel
theorem dX3_partOfFraction_19 : decode cX3_partOfFraction 19 = .ok (.lconst 0, 1) := by decide +kernel
theorem dX3_partOfFraction_20 : decode cX3_partOfFraction 20 = .ok (.lcmp, 1) := by decide +kernel
theorem dX3_partOfFraction_21 : decode cX3_partOfFraction 21 = .ok (.ifCond .le 22, 3) := by decide +kernel
theorem dX3_partOfFraction_24 : decode cX3_partOfFraction 24 = .ok (.lload_n 3, 1) := by decide +kernel
theorem dX3_partOfFraction_25 : decode cX3_partOfFraction 25 = .ok (.lload 5, 2) := by decide +kernel
theorem dX3_partOfFraction_27 : decode cX3_partOfFraction 27 = .ok (.lrem, 1) := by decide +kernel
theorem dX3_partOfFraction_28 : decode cX3_partOfFraction 28 = .ok (.lstore 8, 2) := by decide +kernel
theorem dX3_partOfFraction_30 : decode cX3_partOfFraction 30 = .ok (.lload 5, 2) := by decide +kernel
theorem dX3_partOfFraction_32 : decode cX3_partOfFraction 32 = .ok (.lstore_n 3, 1) := by decide +kernel
theorem dX3_partOfFraction_33 : decode cX3_partOfFraction 33 = .ok (.lload 8, 2) := by decide +kernel
theorem dX3_partOfFraction_35 : decode cX3_partOfFraction 35 = .ok (.lstore 5, 2) := by decide +kernel
theorem dX3_partOfFraction_37 : decode cX3_partOfFraction 37 = .ok (.iinc 7 1, 3) := by decide +kernel
theorem dX3_partOfFraction_40 : decode cX3_partOfFraction 40 = .ok (.goto (-30), 3) := by decide +kernel
theorem dX3_partOfFraction_43 : decode cX3_partOfFraction 43 = .ok (.lload_n 3, 1) := by decide +kernel
theorem dX3_partOfFraction_44 : decode cX3_partOfFraction 44 = .ok (.lconst 0, 1) := by decide +kernel
theorem dX3_partOfFraction_45 : decode cX3_partOfFraction 45 = .ok (.lcmp, 1) := by decide +kernel
theorem dX3_partOfFraction_46 : decode cX3_partOfFraction 46 = .ok (.ifCond .gt 7, 3) := by decide +kernel
theorem dX3_partOfFraction_49 : decode cX3_partOfFraction 49 = .ok (.ldc2_w 196, 3) := by decide +kernel
theorem dX3_partOfFraction_52 : decode cX3_partOfFraction 52 = .ok (.lreturn, 1) := by decide +kernel
theorem dX3_partOfFraction_53 : decode cX3_partOfFraction 53 = .ok (.iload_n 2, 1) := by decide +kernel
theorem dX3_partOfFraction_54 : decode cX3_partOfFraction 54 = .ok (.ifCond .ne 7, 3) := by decide +kernel
theorem dX3_partOfFraction_57 : decode cX3_partOfFraction 57 = .ok (.lload_n 0, 1) := by decide +kernel
theorem dX3_partOfFraction_58 : decode cX3_partOfFraction 58 = .ok (.goto 6, 3) := by decide +kernel
theorem dX3_partOfFraction_61 : decode cX3_partOfFraction 61 = .ok (.ldc2_w 206, 3) := by decide +kernel
theorem dX3_partOfFraction_64 : decode cX3_partOfFraction 64 = .ok (.lload_n 3, 1) := by decide +kernel
theorem dX3_partOfFraction_65 : decode cX3_partOfFraction 65 = .ok (.ldiv, 1) := by decide +kernel
theorem dX3_partOfFraction_66 : decode cX3_partOfFraction 66 = .ok (.lreturn, 1) := by decide +kernel
theorem dX3_see_0 : decode cX3_see 0 = .ok (.aload_n 0, 1) := by decide +kernel
theorem dX3_see_1 : decode cX3_see 1 = .ok (.getfield 10, 3) := by decide +kernel
theorem dX3_see_4 : decode cX3_see 4 = .ok (.iload_n 1, 1) := by decide +kernel
theorem dX3_see_5 : decode cX3_see 5 = .ok (.invokevirtual 117, 3) := by decide +kernel
theorem dX3_see_8 : decode cX3_see 8 = .ok (.ifCond .eq 16, 3) := by decide +kernel
theorem dX3_see_11 : decode cX3_see 11 = .ok (.iload_n 2, 1) := by decide +kernel
theorem dX3_see_12 : decode cX3_see 12 = .ok (.invokestatic 143, 3) := by decide +kernel
theorem dX3_see_15 : decode cX3_see 15 = .ok (.ifCond .ne 11, 3) := by decide +kernel
theorem dX3_see_18 : decode cX3_see 18 = .ok (.iload_n 2, 1) := by decide +kernel
theorem dX3_see_19 : decode cX3_see 19 = .ok (.bipush (-4), 2) := by decide +kernel
theorem dX3_see_21 : decode cX3_see 21 = .ok (.if_icmp .eq 5, 3) := by decide +kernel
theorem dX3_see_24 : decode cX3_see 24 = .ok (.iconst (-1), 1) := by decide +kernel
theorem dX3_see_25 : decode cX3_see 25 = .ok (.ireturn, 1) := by decide +kernel
theorem dX3_see_26 : decode cX3_see 26 = .ok (.aload_n 0, 1) := by decide +kernel
theorem dX3_see_27 : decode cX3_see 27 = .ok (.getfield 73, 3) := by decide +kernel
theorem dX3_see_30 : decode cX3_see 30 = .ok (.bipush 6, 2) := by decide +kernel
theorem dX3_see_32 : decode cX3_see 32 = .ok (.if_icmp .lt 6, 3) := by decide +kernel
theorem dX3_see_35 : decode cX3_see 35 = .ok (.bipush (-3), 2) := by decide +kernel
theorem dX3_see_37 : decode cX3_see 37 = .ok (.ireturn, 1) := by decide +kernel
theorem dX3_see_38 : decode cX3_see 38 = .ok (.aload_n 0, 1) := by decide +kernel
theorem dX3_see_39 : decode cX3_see 39 = .ok (.getfield 40, 3) := by decide +kernel
theorem dX3_see_42 : decode cX3_see 42 = .ok (.aload_n 0, 1) := by decide +kernel
theorem dX3_see_43 : decode cX3_see 43 = .ok (.getfield 73, 3) := by decide +kernel
theorem dX3_see_46 : decode cX3_see 46 = .ok (.iload_n 1, 1) := by decide +kernel
theorem dX3_see_47 : decode cX3_see 47 = .ok (.iastore, 1) := by decide +kernel
theorem dX3_see_48 : decode cX3_see 48 = .ok (.aload_n 0, 1) := by decide +kernel
theorem dX3_see_49 : decode cX3_see 49 = .ok (.getfield 44, 3) := by decide +kernel
theorem dX3_see_52 : decode cX3_see 52 = .ok (.aload_n 0, 1) := by decide +kernel
theorem dX3_see_53 : decode cX3_see 53 = .ok (.getfield 73, 3) := by decide +kernel
theorem dX3_see_56 : decode cX3_see 56 = .ok (.iload_n 2, 1) := by decide +kernel
theorem dX3_see_57 : decode cX3_see 57 = .ok (.iastore, 1) := by decide +kernel
theorem dX3_see_58 : decode cX3_see 58 = .ok (.aload_n 0, 1) := by decide +kernel
theorem dX3_see_59 : decode cX3_see 59 = .ok (.dup, 1) := by decide +kernel
theorem dX3_see_60 : decode cX3_see 60 = .ok (.getfield 73, 3) := by decide +kernel
theorem dX3_see_63 : decode cX3_see 63 = .ok (.iconst 1, 1) := by decide +kernel
theorem dX3_see_64 : decode cX3_see 64 = .ok (.iadd, 1) := by decide +kernel
theorem dX3_see_65 : decode cX3_see 65 = .ok (.putfield 73, 3) := by decide +kernel
theorem dX3_see_68 : decode cX3_see 68 = .ok (.aload_n 0, 1) := by decide +kernel
theorem dX3_see_69 : decode cX3_see 69 = .ok (.getfield 73, 3) := by decide +kernel
theorem dX3_see_72 : decode cX3_see 72 = .ok (.ireturn, 1) := by decide +kernel
theorem dX3_forget_0 : decode cX3_forget 0 = .ok (.iload_n 1, 1) := by decide +kernel
theorem dX3_forget_1 : decode cX3_forget 1 = .ok (.ifCond .lt 11, 3) := by decide +kernel
theorem dX3_forget_4 : decode cX3_forget 4 = .ok (.iload_n 1, 1) := by decide +kernel
theorem dX3_forget_5 : decode cX3_forget 5 = .ok (.aload_n 0, 1) := by decide +kernel
theorem dX3_forget_6 : decode cX3_forget 6 = .ok (.getfield 73, 3) := by decide +kernel
theorem dX3_forget_9 : decode cX3_forget 9 = .ok (.if_icmp .le 5, 3) := by decide +kernel
theorem dX3_forget_12 : decode cX3_forget 12 = .ok (.iconst (-1), 1) := by decide +kernel
theorem dX3_forget_13 : decode cX3_forget 13 = .ok (.ireturn, 1) := by decide +kernel
theorem dX3_forget_14 : decode cX3_forget 14 = .ok (.aload_n 0, 1) := by decide +kernel
theorem dX3_forget_15 : decode cX3_forget 15 = .ok (.getfield 73, 3) := by decide +kernel
theorem dX3_forget_18 : decode cX3_forget 18 = .ok (.istore_n 2, 1) := by decide +kernel
theorem dX3_forget_19 : decode cX3_forget 19 = .ok (.aload_n 0, 1) := by decide +kernel
theorem dX3_forget_20 : decode cX3_forget 20 = .ok (.iload_n 1, 1) := by decide +kernel
theorem dX3_forget_21 : decode cX3_forget 21 = .ok (.putfield 73, 3) := by decide +kernel
theorem dX3_forget_24 : decode cX3_forget 24 = .ok (.iload_n 2, 1) := by decide +kernel
theorem dX3_forget_25 : decode cX3_forget 25 = .ok (.ireturn, 1) := by decide +kernel
theorem dX3_leans_0 : decode cX3_leans 0 = .ok (.aload_n 0, 1) := by decide +kernel
theorem dX3_leans_1 : decode cX3_leans 1 = .ok (.getfield 10, 3) := by decide +kernel
theorem dX3_leans_4 : decode cX3_leans 4 = .ok (.iload_n 1, 1) := by decide +kernel
theorem dX3_leans_5 : decode cX3_leans 5 = .ok (.invokevirtual 95, 3) := by decide +kernel
theorem dX3_leans_8 : decode cX3_leans 8 = .ok (.ifCond .eq 11, 3) := by decide +kernel
theorem dX3_leans_11 : decode cX3_leans 11 = .ok (.aload_n 0, 1) := by decide +kernel
theorem dX3_leans_12 : decode cX3_leans 12 = .ok (.iload_n 1, 1) := by decide +kernel
theorem dX3_leans_13 : decode cX3_leans 13 = .ok (.invokevirtual 216, 3) := by decide +kernel
theorem dX3_leans_16 : decode cX3_leans 16 = .ok (.goto 4, 3) := by decide +kernel
theorem dX3_leans_19 : decode cX3_leans 19 = .ok (.iconst (-1), 1) := by decide +kernel
theorem dX3_leans_20 : decode cX3_leans 20 = .ok (.ireturn, 1) := by decide +kernel
theorem dX3_kinds_0 : decode cX3_kinds 0 = .ok (.aload_n 0, 1) := by decide +kernel
theorem dX3_kinds_1 : decode cX3_kinds 1 = .ok (.getfield 10, 3) := by decide +kernel
theorem dX3_kinds_4 : decode cX3_kinds 4 = .ok (.iload_n 1, 1) := by decide +kernel
theorem dX3_kinds_5 : decode cX3_kinds 5 = .ok (.invokevirtual 95, 3) := by decide +kernel
theorem dX3_kinds_8 : decode cX3_kinds 8 = .ok (.ifCond .ne 5, 3) := by decide +kernel
theorem dX3_kinds_11 : decode cX3_kinds 11 = .ok (.iconst (-1), 1) := by decide +kernel
theorem dX3_kinds_12 : decode cX3_kinds 12 = .ok (.ireturn, 1) := by decide +kernel
theorem dX3_kinds_13 : decode cX3_kinds 13 = .ok (.aload_n 0, 1) := by decide +kernel
theorem dX3_kinds_14 : decode cX3_kinds 14 = .ok (.getfield 16, 3) := by decide +kernel
theorem dX3_kinds_17 : decode cX3_kinds 17 = .ok (.aload_n 0, 1) := by decide +kernel
theorem dX3_kinds_18 : decode cX3_kinds 18 = .ok (.getfield 10, 3) := by decide +kernel
theorem dX3_kinds_21 : decode cX3_kinds 21 = .ok (.invokevirtual 69, 3) := by decide +kernel
theorem dX3_kinds_24 : decode cX3_kinds 24 = .ok (.iconst 0, 1) := by decide +kernel
theorem dX3_kinds_25 : decode cX3_kinds 25 = .ok (.istore_n 2, 1) := by decide +kernel
theorem dX3_kinds_26 : decode cX3_kinds 26 = .ok (.iconst 0, 1) := by decide +kernel
theorem dX3_kinds_27 : decode cX3_kinds 27 = .ok (.istore_n 3, 1) := by decide +kernel
theorem dX3_kinds_28 : decode cX3_kinds 28 = .ok (.iload_n 3, 1) := by decide +kernel
theorem dX3_kinds_29 : decode cX3_kinds 29 = .ok (.iconst 4, 1) := by decide +kernel
theorem dX3_kinds_30 : decode cX3_kinds 30 = .ok (.if_icmp .ge 31, 3) := by decide +kernel
theorem dX3_kinds_33 : decode cX3_kinds 33 = .ok (.aload_n 0, 1) := by decide +kernel
theorem dX3_kinds_34 : decode cX3_kinds 34 = .ok (.getfield 16, 3) := by decide +kernel
theorem dX3_kinds_37 : decode cX3_kinds 37 = .ok (.iload_n 1, 1) := by decide +kernel
theorem dX3_kinds_38 : decode cX3_kinds 38 = .ok (.iload_n 3, 1) := by decide +kernel
theorem dX3_kinds_39 : decode cX3_kinds 39 = .ok (.invokevirtual 136, 3) := by decide +kernel
theorem dX3_kinds_42 : decode cX3_kinds 42 = .ok (.aload_n 0, 1) := by decide +kernel
theorem dX3_kinds_43 : decode cX3_kinds 43 = .ok (.invokevirtual 219, 3) := by decide +kernel
theorem dX3_kinds_46 : decode cX3_kinds 46 = .ok (.ifCond .eq 9, 3) := by decide +kernel
theorem dX3_kinds_49 : decode cX3_kinds 49 = .ok (.iload_n 2, 1) := by decide +kernel
theorem dX3_kinds_50 : decode cX3_kinds 50 = .ok (.iconst 1, 1) := by decide +kernel
theorem dX3_kinds_51 : decode cX3_kinds 51 = .ok (.iload_n 3, 1) := by decide +kernel
theorem dX3_kinds_52 : decode cX3_kinds 52 = .ok (.ishl, 1) := by decide +kernel
theorem dX3_kinds_53 : decode cX3_kinds 53 = .ok (.ior, 1) := by decide +kernel
theorem dX3_kinds_54 : decode cX3_kinds 54 = .ok (.istore_n 2, 1) := by decide +kernel
theorem dX3_kinds_55 : decode cX3_kinds 55 = .ok (.iinc 3 1, 3) := by decide +kernel
theorem dX3_kinds_58 : decode cX3_kinds 58 = .ok (.goto (-30), 3) := by decide +kernel
theorem dX3_kinds_61 : decode cX3_kinds 61 = .ok (.iload_n 2, 1) := by decide +kernel
theorem dX3_kinds_62 : decode cX3_kinds 62 = .ok (.ireturn, 1) := by decide +kernel
theorem dX3_ask_0 : decode cX3_ask 0 = .ok (.aload_n 0, 1) := by decide +kernel
theorem dX3_ask_1 : decode cX3_ask 1 = .ok (.getfield 10, 3) := by decide +kernel
theorem dX3_ask_4 : decode cX3_ask 4 = .ok (.iload_n 1, 1) := by decide +kernel
theorem dX3_ask_5 : decode cX3_ask 5 = .ok (.invokevirtual 95, 3) := by decide +kernel
theorem dX3_ask_8 : decode cX3_ask 8 = .ok (.ifCond .eq 10, 3) := by decide +kernel
theorem dX3_ask_11 : decode cX3_ask 11 = .ok (.iload_n 2, 1) := by decide +kernel
theorem dX3_ask_12 : decode cX3_ask 12 = .ok (.invokestatic 133, 3) := by decide +kernel
theorem dX3_ask_15 : decode cX3_ask 15 = .ok (.ifCond .ne 5, 3) := by decide +kernel
theorem dX3_ask_18 : decode cX3_ask 18 = .ok (.iconst (-1), 1) := by decide +kernel
theorem dX3_ask_19 : decode cX3_ask 19 = .ok (.ireturn, 1) := by decide +kernel
theorem dX3_ask_20 : decode cX3_ask 20 = .ok (.aload_n 0, 1) := by decide +kernel
theorem dX3_ask_21 : decode cX3_ask 21 = .ok (.iload_n 1, 1) := by decide +kernel
theorem dX3_ask_22 : decode cX3_ask 22 = .ok (.invokevirtual 216, 3) := by decide +kernel
theorem dX3_ask_25 : decode cX3_ask 25 = .ok (.istore_n 3, 1) := by decide +kernel
theorem dX3_ask_26 : decode cX3_ask 26 = .ok (.bipush (-4), 2) := by decide +kernel
theorem dX3_ask_28 : decode cX3_ask 28 = .ok (.istore 4, 2) := by decide +kernel
theorem dX3_ask_30 : decode cX3_ask 30 = .ok (.iload_n 3, 1) := by decide +kernel
theorem dX3_ask_31 : decode cX3_ask 31 = .ok (.invokestatic 223, 3) := by decide +kernel
theorem dX3_ask_34 : decode cX3_ask 34 = .ok (.istore 5, 2) := by decide +kernel
theorem dX3_ask_36 : decode cX3_ask 36 = .ok (.iconst 0, 1) := by decide +kernel
theorem dX3_ask_37 : decode cX3_ask 37 = .ok (.istore 6, 2) := by decide +kernel
theorem dX3_ask_39 : decode cX3_ask 39 = .ok (.iload 6, 2) := by decide +kernel
theorem dX3_ask_41 : decode cX3_ask 41 = .ok (.aload_n 0, 1) := by decide +kernel
theorem dX3_ask_42 : decode cX3_ask 42 = .ok (.getfield 10, 3) := by decide +kernel
theorem dX3_ask_45 : decode cX3_ask 45 = .ok (.getfield 79, 3) := by decide +kernel
theorem dX3_ask_48 : decode cX3_ask 48 = .ok (.if_icmp .ge 34, 3) := by decide +kernel
theorem dX3_ask_51 : decode cX3_ask 51 = .ok (.aload_n 0, 1) := by decide +kernel
theorem dX3_ask_52 : decode cX3_ask 52 = .ok (.iload_n 1, 1) := by decide +kernel
theorem dX3_ask_53 : decode cX3_ask 53 = .ok (.iload 6, 2) := by decide +kernel
theorem dX3_ask_55 : decode cX3_ask 55 = .ok (.iload_n 3, 1) := by decide +kernel
theorem dX3_ask_56 : decode cX3_ask 56 = .ok (.invokevirtual 226, 3) := by decide +kernel
theorem dX3_ask_59 : decode cX3_ask 59 = .ok (.istore 7, 2) := by decide +kernel
theorem dX3_ask_61 : decode cX3_ask 61 = .ok (.iload 7, 2) := by decide +kernel
theorem dX3_ask_63 : decode cX3_ask 63 = .ok (.iload 5, 2) := by decide +kernel
theorem dX3_ask_65 : decode cX3_ask 65 = .ok (.if_icmp .ge 11, 3) := by decide +kernel
theorem dX3_ask_68 : decode cX3_ask 68 = .ok (.iload 7, 2) := by decide +kernel
theorem dX3_ask_70 : decode cX3_ask 70 = .ok (.istore 5, 2) := by decide +kernel
theorem dX3_ask_72 : decode cX3_ask 72 = .ok (.iload 6, 2) := by decide +kernel
theorem dX3_ask_74 : decode cX3_ask 74 = .ok (.istore 4, 2) := by decide +kernel
theorem dX3_ask_76 : decode cX3_ask 76 = .ok (.iinc 6 1, 3) := by decide +kernel
theorem dX3_ask_79 : decode cX3_ask 79 = .ok (.goto (-40), 3) := by decide +kernel
theorem dX3_ask_82 : decode cX3_ask 82 = .ok (.iload_n 2, 1) := by decide +kernel
theorem dX3_ask_83 : decode cX3_ask 83 = .ok (.ifCond .eq 10, 3) := by decide +kernel
theorem dX3_ask_86 : decode cX3_ask 86 = .ok (.iload 4, 2) := by decide +kernel
theorem dX3_ask_88 : decode cX3_ask 88 = .ok (.bipush (-4), 2) := by decide +kernel
theorem dX3_ask_90 : decode cX3_ask 90 = .ok (.if_icmp .ne 8, 3) := by decide +kernel
theorem dX3_ask_93 : decode cX3_ask 93 = .ok (.iload 4, 2) := by decide +kernel
theorem dX3_ask_95 : decode cX3_ask 95 = .ok (.goto 5, 3) := by decide +kernel
theorem dX3_ask_98 : decode cX3_ask 98 = .ok (.iload 5, 2) := by decide +kernel
theorem dX3_ask_100 : decode cX3_ask 100 = .ok (.ireturn, 1) := by decide +kernel
theorem dX3_leansAsSeen_0 : decode cX3_leansAsSeen 0 = .ok (.aload_n 0, 1) := by decide +kernel
theorem dX3_leansAsSeen_1 : decode cX3_leansAsSeen 1 = .ok (.getfield 16, 3) := by decide +kernel
theorem dX3_leansAsSeen_4 : decode cX3_leansAsSeen 4 = .ok (.aload_n 0, 1) := by decide +kernel
theorem dX3_leansAsSeen_5 : decode cX3_leansAsSeen 5 = .ok (.getfield 10, 3) := by decide +kernel
theorem dX3_leansAsSeen_8 : decode cX3_leansAsSeen 8 = .ok (.invokevirtual 69, 3) := by decide +kernel
theorem dX3_leansAsSeen_11 : decode cX3_leansAsSeen 11 = .ok (.iconst 0, 1) := by decide +kernel
theorem dX3_leansAsSeen_12 : decode cX3_leansAsSeen 12 = .ok (.istore_n 2, 1) := by decide +kernel
theorem dX3_leansAsSeen_13 : decode cX3_leansAsSeen 13 = .ok (.iconst 0, 1) := by decide +kernel
theorem dX3_leansAsSeen_14 : decode cX3_leansAsSeen 14 = .ok (.istore_n 3, 1) := by decide +kernel
theorem dX3_leansAsSeen_15 : decode cX3_leansAsSeen 15 = .ok (.iload_n 3, 1) := by decide +kernel
theorem dX3_leansAsSeen_16 : decode cX3_leansAsSeen 16 = .ok (.bipush 7, 2) := by decide +kernel
theorem dX3_leansAsSeen_18 : decode cX3_leansAsSeen 18 = .ok (.if_icmp .ge 31, 3) := by decide +kernel
theorem dX3_leansAsSeen_21 : decode cX3_leansAsSeen 21 = .ok (.aload_n 0, 1) := by decide +kernel
theorem dX3_leansAsSeen_22 : decode cX3_leansAsSeen 22 = .ok (.getfield 16, 3) := by decide +kernel
theorem dX3_leansAsSeen_25 : decode cX3_leansAsSeen 25 = .ok (.iload_n 1, 1) := by decide +kernel
theorem dX3_leansAsSeen_26 : decode cX3_leansAsSeen 26 = .ok (.iload_n 3, 1) := by decide +kernel
theorem dX3_leansAsSeen_27 : decode cX3_leansAsSeen 27 = .ok (.invokevirtual 140, 3) := by decide +kernel
theorem dX3_leansAsSeen_30 : decode cX3_leansAsSeen 30 = .ok (.aload_n 0, 1) := by decide +kernel
theorem dX3_leansAsSeen_31 : decode cX3_leansAsSeen 31 = .ok (.invokevirtual 219, 3) := by decide +kernel
theorem dX3_leansAsSeen_34 : decode cX3_leansAsSeen 34 = .ok (.ifCond .eq 9, 3) := by decide +kernel
theorem dX3_leansAsSeen_37 : decode cX3_leansAsSeen 37 = .ok (.iload_n 2, 1) := by decide +kernel
theorem dX3_leansAsSeen_38 : decode cX3_leansAsSeen 38 = .ok (.iconst 1, 1) := by decide +kernel
theorem dX3_leansAsSeen_39 : decode cX3_leansAsSeen 39 = .ok (.iload_n 3, 1) := by decide +kernel
theorem dX3_leansAsSeen_40 : decode cX3_leansAsSeen 40 = .ok (.ishl, 1) := by decide +kernel
theorem dX3_leansAsSeen_41 : decode cX3_leansAsSeen 41 = .ok (.ior, 1) := by decide +kernel
theorem dX3_leansAsSeen_42 : decode cX3_leansAsSeen 42 = .ok (.istore_n 2, 1) := by decide +kernel
theorem dX3_leansAsSeen_43 : decode cX3_leansAsSeen 43 = .ok (.iinc 3 1, 3) := by decide +kernel
theorem dX3_leansAsSeen_46 : decode cX3_leansAsSeen 46 = .ok (.goto (-31), 3) := by decide +kernel
theorem dX3_leansAsSeen_49 : decode cX3_leansAsSeen 49 = .ok (.iload_n 2, 1) := by decide +kernel
theorem dX3_leansAsSeen_50 : decode cX3_leansAsSeen 50 = .ok (.ireturn, 1) := by decide +kernel
theorem dX3_trialIsAsSeen_0 : decode cX3_trialIsAsSeen 0 = .ok (.iconst 0, 1) := by decide +kernel
theorem dX3_trialIsAsSeen_1 : decode cX3_trialIsAsSeen 1 = .ok (.istore_n 1, 1) := by decide +kernel
theorem dX3_trialIsAsSeen_2 : decode cX3_trialIsAsSeen 2 = .ok (.iload_n 1, 1) := by decide +kernel
theorem dX3_trialIsAsSeen_3 : decode cX3_trialIsAsSeen 3 = .ok (.aload_n 0, 1) := by decide +kernel
theorem dX3_trialIsAsSeen_4 : decode cX3_trialIsAsSeen 4 = .ok (.getfield 73, 3) := by decide +kernel
theorem dX3_trialIsAsSeen_7 : decode cX3_trialIsAsSeen 7 = .ok (.if_icmp .ge 46, 3) := by decide +kernel
theorem dX3_trialIsAsSeen_10 : decode cX3_trialIsAsSeen 10 = .ok (.aload_n 0, 1) := by decide +kernel
theorem dX3_trialIsAsSeen_11 : decode cX3_trialIsAsSeen 11 = .ok (.getfield 40, 3) := by decide +kernel
theorem dX3_trialIsAsSeen_14 : decode cX3_trialIsAsSeen 14 = .ok (.iload_n 1, 1) := by decide +kernel
theorem dX3_trialIsAsSeen_15 : decode cX3_trialIsAsSeen 15 = .ok (.iaload, 1) := by decide +kernel
theorem dX3_trialIsAsSeen_16 : decode cX3_trialIsAsSeen 16 = .ok (.istore_n 2, 1) := by decide +kernel
theorem dX3_trialIsAsSeen_17 : decode cX3_trialIsAsSeen 17 = .ok (.aload_n 0, 1) := by decide +kernel
theorem dX3_trialIsAsSeen_18 : decode cX3_trialIsAsSeen 18 = .ok (.getfield 16, 3) := by decide +kernel
theorem dX3_trialIsAsSeen_21 : decode cX3_trialIsAsSeen 21 = .ok (.iload_n 2, 1) := by decide +kernel
theorem dX3_trialIsAsSeen_22 : decode cX3_trialIsAsSeen 22 = .ok (.invokevirtual 117, 3) := by decide +kernel
theorem dX3_trialIsAsSeen_25 : decode cX3_trialIsAsSeen 25 = .ok (.ifCond .eq 20, 3) := by decide +kernel
theorem dX3_trialIsAsSeen_28 : decode cX3_trialIsAsSeen 28 = .ok (.aload_n 0, 1) := by decide +kernel
theorem dX3_trialIsAsSeen_29 : decode cX3_trialIsAsSeen 29 = .ok (.getfield 16, 3) := by decide +kernel
theorem dX3_trialIsAsSeen_32 : decode cX3_trialIsAsSeen 32 = .ok (.iload_n 2, 1) := by decide +kernel
theorem dX3_trialIsAsSeen_33 : decode cX3_trialIsAsSeen 33 = .ok (.invokevirtual 126, 3) := by decide +kernel
theorem dX3_trialIsAsSeen_36 : decode cX3_trialIsAsSeen 36 = .ok (.aload_n 0, 1) := by decide +kernel
theorem dX3_trialIsAsSeen_37 : decode cX3_trialIsAsSeen 37 = .ok (.getfield 44, 3) := by decide +kernel
theorem dX3_trialIsAsSeen_40 : decode cX3_trialIsAsSeen 40 = .ok (.iload_n 1, 1) := by decide +kernel
theorem dX3_trialIsAsSeen_41 : decode cX3_trialIsAsSeen 41 = .ok (.iaload, 1) := by decide +kernel
theorem dX3_trialIsAsSeen_42 : decode cX3_trialIsAsSeen 42 = .ok (.if_icmp .eq 5, 3) := by decide +kernel
theorem dX3_trialIsAsSeen_45 : decode cX3_trialIsAsSeen 45 = .ok (.iconst 0, 1) := by decide +kernel
theorem dX3_trialIsAsSeen_46 : decode cX3_trialIsAsSeen 46 = .ok (.ireturn, 1) := by decide +kernel
theorem dX3_trialIsAsSeen_47 : decode cX3_trialIsAsSeen 47 = .ok (.iinc 1 1, 3) := by decide +kernel
theorem dX3_trialIsAsSeen_50 : decode cX3_trialIsAsSeen 50 = .ok (.goto (-48), 3) := by decide +kernel
theorem dX3_trialIsAsSeen_53 : decode cX3_trialIsAsSeen 53 = .ok (.iconst 1, 1) := by decide +kernel
theorem dX3_trialIsAsSeen_54 : decode cX3_trialIsAsSeen 54 = .ok (.ireturn, 1) := by decide +kernel
theorem dX3_mostLeft_0 : decode cX3_mostLeft 0 = .ok (.aload_n 0, 1) := by decide +kernel
theorem dX3_mostLeft_1 : decode cX3_mostLeft 1 = .ok (.getfield 16, 3) := by decide +kernel
theorem dX3_mostLeft_4 : decode cX3_mostLeft 4 = .ok (.aload_n 0, 1) := by decide +kernel
theorem dX3_mostLeft_5 : decode cX3_mostLeft 5 = .ok (.getfield 10, 3) := by decide +kernel
theorem dX3_mostLeft_8 : decode cX3_mostLeft 8 = .ok (.invokevirtual 69, 3) := by decide +kernel
theorem dX3_mostLeft_11 : decode cX3_mostLeft 11 = .ok (.iconst 0, 1) := by decide +kernel
theorem dX3_mostLeft_12 : decode cX3_mostLeft 12 = .ok (.istore 4, 2) := by decide +kernel
theorem dX3_mostLeft_14 : decode cX3_mostLeft 14 = .ok (.iconst 0, 1) := by decide +kernel
theorem dX3_mostLeft_15 : decode cX3_mostLeft 15 = .ok (.istore 5, 2) := by decide +kernel
theorem dX3_mostLeft_17 : decode cX3_mostLeft 17 = .ok (.iload 5, 2) := by decide +kernel
theorem dX3_mostLeft_19 : decode cX3_mostLeft 19 = .ok (.bipush 7, 2) := by decide +kernel
theorem dX3_mostLeft_21 : decode cX3_mostLeft 21 = .ok (.if_icmp .ge 104, 3) := by decide +kernel
theorem dX3_mostLeft_24 : decode cX3_mostLeft 24 = .ok (.iload_n 3, 1) := by decide +kernel
theorem dX3_mostLeft_25 : decode cX3_mostLeft 25 = .ok (.iload 5, 2) := by decide +kernel
theorem dX3_mostLeft_27 : decode cX3_mostLeft 27 = .ok (.ishr, 1) := by decide +kernel
theorem dX3_mostLeft_28 : decode cX3_mostLeft 28 = .ok (.iconst 1, 1) := by decide +kernel
theorem dX3_mostLeft_29 : decode cX3_mostLeft 29 = .ok (.iand, 1) := by decide +kernel
theorem dX3_mostLeft_30 : decode cX3_mostLeft 30 = .ok (.ifCond .ne 6, 3) := by decide +kernel
theorem dX3_mostLeft_33 : decode cX3_mostLeft 33 = .ok (.goto 86, 3) := by decide +kernel
theorem dX3_mostLeft_36 : decode cX3_mostLeft 36 = .ok (.aload_n 0, 1) := by decide +kernel
theorem dX3_mostLeft_37 : decode cX3_mostLeft 37 = .ok (.getfield 16, 3) := by decide +kernel
theorem dX3_mostLeft_40 : decode cX3_mostLeft 40 = .ok (.iload_n 1, 1) := by decide +kernel
theorem dX3_mostLeft_41 : decode cX3_mostLeft 41 = .ok (.iload 5, 2) := by decide +kernel
theorem dX3_mostLeft_43 : decode cX3_mostLeft 43 = .ok (.invokevirtual 140, 3) := by decide +kernel
theorem dX3_mostLeft_46 : decode cX3_mostLeft 46 = .ok (.aload_n 0, 1) := by decide +kernel
theorem dX3_mostLeft_47 : decode cX3_mostLeft 47 = .ok (.getfield 47, 3) := by decide +kernel
theorem dX3_mostLeft_50 : decode cX3_mostLeft 50 = .ok (.iload 5, 2) := by decide +kernel
theorem dX3_mostLeft_52 : decode cX3_mostLeft 52 = .ok (.aload_n 0, 1) := by decide +kernel
theorem dX3_mostLeft_53 : decode cX3_mostLeft 53 = .ok (.getfield 16, 3) := by decide +kernel
theorem dX3_mostLeft_56 : decode cX3_mostLeft 56 = .ok (.iload_n 2, 1) := by decide +kernel
theorem dX3_mostLeft_57 : decode cX3_mostLeft 57 = .ok (.invokevirtual 126, 3) := by decide +kernel
theorem dX3_mostLeft_60 : decode cX3_mostLeft 60 = .ok (.iastore, 1) := by decide +kernel
theorem dX3_mostLeft_61 : decode cX3_mostLeft 61 = .ok (.iconst 1, 1) := by decide +kernel
theorem dX3_mostLeft_62 : decode cX3_mostLeft 62 = .ok (.istore 6, 2) := by decide +kernel
theorem dX3_mostLeft_64 : decode cX3_mostLeft 64 = .ok (.iconst 0, 1) := by decide +kernel
theorem dX3_mostLeft_65 : decode cX3_mostLeft 65 = .ok (.istore 7, 2) := by decide +kernel
theorem dX3_mostLeft_67 : decode cX3_mostLeft 67 = .ok (.iload 7, 2) := by decide +kernel
theorem dX3_mostLeft_69 : decode cX3_mostLeft 69 = .ok (.iload 5, 2) := by decide +kernel
theorem dX3_mostLeft_71 : decode cX3_mostLeft 71 = .ok (.if_icmp .ge 39, 3) := by decide +kernel
theorem dX3_mostLeft_74 : decode cX3_mostLeft 74 = .ok (.iload_n 3, 1) := by decide +kernel
theorem dX3_mostLeft_75 : decode cX3_mostLeft 75 = .ok (.iload 7, 2) := by decide +kernel
theorem dX3_mostLeft_77 : decode cX3_mostLeft 77 = .ok (.ishr, 1) := by decide +kernel
theorem dX3_mostLeft_78 : decode cX3_mostLeft 78 = .ok (.iconst 1, 1) := by decide +kernel
theorem dX3_mostLeft_79 : decode cX3_mostLeft 79 = .ok (.iand, 1) := by decide +kernel
theorem dX3_mostLeft_80 : decode cX3_mostLeft 80 = .ok (.iconst 1, 1) := by decide +kernel
theorem dX3_mostLeft_81 : decode cX3_mostLeft 81 = .ok (.if_icmp .ne 23, 3) := by decide +kernel
theorem dX3_mostLeft_84 : decode cX3_mostLeft 84 = .ok (.aload_n 0, 1) := by decide +kernel
theorem dX3_mostLeft_85 : decode cX3_mostLeft 85 = .ok (.getfield 47, 3) := by decide +kernel
theorem dX3_mostLeft_88 : decode cX3_mostLeft 88 = .ok (.iload 7, 2) := by decide +kernel
theorem dX3_mostLeft_90 : decode cX3_mostLeft 90 = .ok (.iaload, 1) := by decide +kernel
theorem dX3_mostLeft_91 : decode cX3_mostLeft 91 = .ok (.aload_n 0, 1) := by decide +kernel
theorem dX3_mostLeft_92 : decode cX3_mostLeft 92 = .ok (.getfield 47, 3) := by decide +kernel
theorem dX3_mostLeft_95 : decode cX3_mostLeft 95 = .ok (.iload 5, 2) := by decide +kernel
theorem dX3_mostLeft_97 : decode cX3_mostLeft 97 = .ok (.iaload, 1) := by decide +kernel
theorem dX3_mostLeft_98 : decode cX3_mostLeft 98 = .ok (.if_icmp .ne 6, 3) := by decide +kernel
theorem dX3_mostLeft_101 : decode cX3_mostLeft 101 = .ok (.iinc 6 1, 3) := by decide +kernel
theorem dX3_mostLeft_104 : decode cX3_mostLeft 104 = .ok (.iinc 7 1, 3) := by decide +kernel
theorem dX3_mostLeft_107 : decode cX3_mostLeft 107 = .ok (.goto (-40), 3) := by decide +kernel
theorem dX3_mostLeft_110 : decode cX3_mostLeft 110 = .ok (.iload 4, 2) := by decide +kernel
theorem dX3_mostLeft_112 : decode cX3_mostLeft 112 = .ok (.iload 6, 2) := by decide +kernel
theorem dX3_mostLeft_114 : decode cX3_mostLeft 114 = .ok (.invokestatic 230, 3) := by decide +kernel
theorem dX3_mostLeft_117 : decode cX3_mostLeft 117 = .ok (.istore 4, 2) := by decide +kernel
theorem dX3_mostLeft_119 : decode cX3_mostLeft 119 = .ok (.iinc 5 1, 3) := by decide +kernel
theorem dX3_mostLeft_122 : decode cX3_mostLeft 122 = .ok (.goto (-105), 3) := by decide +kernel
theorem dX3_mostLeft_125 : decode cX3_mostLeft 125 = .ok (.iload 4, 2) := by decide +kernel
theorem dX3_mostLeft_127 : decode cX3_mostLeft 127 = .ok (.ireturn, 1) := by decide +kernel
theorem dX3_drift_0 : decode cX3_drift 0 = .ok (.iload_n 2, 1) := by decide +kernel
theorem dX3_drift_1 : decode cX3_drift 1 = .ok (.iconst 1, 1) := by decide +kernel
theorem dX3_drift_2 : decode cX3_drift 2 = .ok (.if_icmp .lt 16, 3) := by decide +kernel
theorem dX3_drift_5 : decode cX3_drift 5 = .ok (.iload_n 2, 1) := by decide +kernel
theorem dX3_drift_6 : decode cX3_drift 6 = .ok (.bipush 40, 2) := by decide +kernel
theorem dX3_drift_8 : decode cX3_drift 8 = .ok (.if_icmp .gt 10, 3) := by decide +kernel
theorem dX3_drift_11 : decode cX3_drift 11 = .ok (.iload_n 3, 1) := by decide +kernel
theorem dX3_drift_12 : decode cX3_drift 12 = .ok (.invokestatic 133, 3) := by decide +kernel
theorem dX3_drift_15 : decode cX3_drift 15 = .ok (.ifCond .ne 5, 3) := by decide +kernel
theorem dX3_drift_18 : decode cX3_drift 18 = .ok (.iconst (-1), 1) := by decide +kernel
theorem dX3_drift_19 : decode cX3_drift 19 = .ok (.ireturn, 1) := by decide +kernel
theorem dX3_drift_20 : decode cX3_drift 20 = .ok (.aload_n 0, 1) := by decide +kernel
theorem dX3_drift_21 : decode cX3_drift 21 = .ok (.getfield 10, 3) := by decide +kernel
theorem dX3_drift_24 : decode cX3_drift 24 = .ok (.getfield 76, 3) := by decide +kernel
theorem dX3_drift_27 : decode cX3_drift 27 = .ok (.ifCond .ne 6, 3) := by decide +kernel
theorem dX3_drift_30 : decode cX3_drift 30 = .ok (.bipush (-2), 2) := by decide +kernel
theorem dX3_drift_32 : decode cX3_drift 32 = .ok (.ireturn, 1) := by decide +kernel
theorem dX3_drift_33 : decode cX3_drift 33 = .ok (.aload_n 0, 1) := by decide +kernel
theorem dX3_drift_34 : decode cX3_drift 34 = .ok (.getfield 16, 3) := by decide +kernel
theorem dX3_drift_37 : decode cX3_drift 37 = .ok (.aload_n 0, 1) := by decide +kernel
theorem dX3_drift_38 : decode cX3_drift 38 = .ok (.getfield 10, 3) := by decide +kernel
theorem dX3_drift_41 : decode cX3_drift 41 = .ok (.invokevirtual 69, 3) := by decide +kernel
theorem dX3_drift_44 : decode cX3_drift 44 = .ok (.iload_n 1, 1) := by decide +kernel
theorem dX3_drift_45 : decode cX3_drift 45 = .ok (.istore 4, 2) := by decide +kernel
theorem dX3_drift_47 : decode cX3_drift 47 = .ok (.iconst 0, 1) := by decide +kernel
theorem dX3_drift_48 : decode cX3_drift 48 = .ok (.istore 5, 2) := by decide +kernel
theorem dX3_drift_50 : decode cX3_drift 50 = .ok (.iconst 0, 1) := by decide +kernel
theorem dX3_drift_51 : decode cX3_drift 51 = .ok (.istore 6, 2) := by decide +kernel
theorem dX3_drift_53 : decode cX3_drift 53 = .ok (.iload 6, 2) := by decide +kernel
theorem dX3_drift_55 : decode cX3_drift 55 = .ok (.iload_n 2, 1) := by decide +kernel
theorem dX3_drift_56 : decode cX3_drift 56 = .ok (.if_icmp .ge 88, 3) := by decide +kernel
theorem dX3_drift_59 : decode cX3_drift 59 = .ok (.iload 4, 2) := by decide +kernel
theorem dX3_drift_61 : decode cX3_drift 61 = .ok (.invokestatic 233, 3) := by decide +kernel
theorem dX3_drift_64 : decode cX3_drift 64 = .ok (.istore 4, 2) := by decide +kernel
theorem dX3_drift_66 : decode cX3_drift 66 = .ok (.iload 4, 2) := by decide +kernel
theorem dX3_drift_68 : decode cX3_drift 68 = .ok (.bipush 12, 2) := by decide +kernel
theorem dX3_drift_70 : decode cX3_drift 70 = .ok (.invokestatic 236, 3) := by decide +kernel
theorem dX3_drift_73 : decode cX3_drift 73 = .ok (.istore 7, 2) := by decide +kernel
theorem dX3_drift_75 : decode cX3_drift 75 = .ok (.iload 4, 2) := by decide +kernel
theorem dX3_drift_77 : decode cX3_drift 77 = .ok (.invokestatic 233, 3) := by decide +kernel
theorem dX3_drift_80 : decode cX3_drift 80 = .ok (.istore 4, 2) := by decide +kernel
theorem dX3_drift_82 : decode cX3_drift 82 = .ok (.iload 4, 2) := by decide +kernel
theorem dX3_drift_84 : decode cX3_drift 84 = .ok (.aload_n 0, 1) := by decide +kernel
theorem dX3_drift_85 : decode cX3_drift 85 = .ok (.getfield 10, 3) := by decide +kernel
theorem dX3_drift_88 : decode cX3_drift 88 = .ok (.getfield 76, 3) := by decide +kernel
theorem dX3_drift_91 : decode cX3_drift 91 = .ok (.iconst 1, 1) := by decide +kernel
theorem dX3_drift_92 : decode cX3_drift 92 = .ok (.iadd, 1) := by decide +kernel
theorem dX3_drift_93 : decode cX3_drift 93 = .ok (.invokestatic 236, 3) := by decide +kernel
theorem dX3_drift_96 : decode cX3_drift 96 = .ok (.istore 8, 2) := by decide +kernel
theorem dX3_drift_98 : decode cX3_drift 98 = .ok (.aload_n 0, 1) := by decide +kernel
theorem dX3_drift_99 : decode cX3_drift 99 = .ok (.getfield 16, 3) := by decide +kernel
theorem dX3_drift_102 : decode cX3_drift 102 = .ok (.iload 7, 2) := by decide +kernel
theorem dX3_drift_104 : decode cX3_drift 104 = .ok (.iload 8, 2) := by decide +kernel
theorem dX3_drift_106 : decode cX3_drift 106 = .ok (.aload_n 0, 1) := by decide +kernel
theorem dX3_drift_107 : decode cX3_drift 107 = .ok (.getfield 10, 3) := by decide +kernel
theorem dX3_drift_110 : decode cX3_drift 110 = .ok (.getfield 76, 3) := by decide +kernel
theorem dX3_drift_113 : decode cX3_drift 113 = .ok (.if_icmp .ne 8, 3) := by decide +kernel
theorem dX3_drift_116 : decode cX3_drift 116 = .ok (.bipush (-4), 2) := by decide +kernel
theorem dX3_drift_118 : decode cX3_drift 118 = .ok (.goto 5, 3) := by decide +kernel
theorem dX3_drift_121 : decode cX3_drift 121 = .ok (.iload 8, 2) := by decide +kernel
theorem dX3_drift_123 : decode cX3_drift 123 = .ok (.invokevirtual 153, 3) := by decide +kernel
theorem dX3_drift_126 : decode cX3_drift 126 = .ok (.iload 5, 2) := by decide +kernel
theorem dX3_drift_128 : decode cX3_drift 128 = .ok (.aload_n 0, 1) := by decide +kernel
theorem dX3_drift_129 : decode cX3_drift 129 = .ok (.getfield 16, 3) := by decide +kernel
theorem dX3_drift_132 : decode cX3_drift 132 = .ok (.invokevirtual 92, 3) := by decide +kernel
theorem dX3_drift_135 : decode cX3_drift 135 = .ok (.iadd, 1) := by decide +kernel
theorem dX3_drift_136 : decode cX3_drift 136 = .ok (.istore 5, 2) := by decide +kernel
theorem dX3_drift_138 : decode cX3_drift 138 = .ok (.iinc 6 1, 3) := by decide +kernel
theorem dX3_drift_141 : decode cX3_drift 141 = .ok (.goto (-88), 3) := by decide +kernel
theorem dX3_drift_144 : decode cX3_drift 144 = .ok (.iload_n 3, 1) := by decide +kernel
theorem dX3_drift_145 : decode cX3_drift 145 = .ok (.ifCond .ne 8, 3) := by decide +kernel
theorem dX3_drift_148 : decode cX3_drift 148 = .ok (.iload 5, 2) := by decide +kernel
theorem dX3_drift_150 : decode cX3_drift 150 = .ok (.goto 10, 3) := by decide +kernel
theorem dX3_drift_153 : decode cX3_drift 153 = .ok (.aload_n 0, 1) := by decide +kernel
theorem dX3_drift_154 : decode cX3_drift 154 = .ok (.getfield 16, 3) := by decide +kernel
theorem dX3_drift_157 : decode cX3_drift 157 = .ok (.invokevirtual 88, 3) := by decide +kernel
theorem dX3_drift_160 : decode cX3_drift 160 = .ok (.ireturn, 1) := by decide +kernel
theorem dX3_nextSeed_0 : decode cX3_nextSeed 0 = .ok (.iload_n 0, 1) := by decide +kernel
theorem dX3_nextSeed_1 : decode cX3_nextSeed 1 = .ok (.ldc 239, 2) := by decide +kernel
theorem dX3_nextSeed_3 : decode cX3_nextSeed 3 = .ok (.imul, 1) := by decide +kernel
theorem dX3_nextSeed_4 : decode cX3_nextSeed 4 = .ok (.sipush 12345, 3) := by decide +kernel
theorem dX3_nextSeed_7 : decode cX3_nextSeed 7 = .ok (.iadd, 1) := by decide +kernel
theorem dX3_nextSeed_8 : decode cX3_nextSeed 8 = .ok (.ireturn, 1) := by decide +kernel
theorem dX3_drawn_0 : decode cX3_drawn 0 = .ok (.iload_n 1, 1) := by decide +kernel
theorem dX3_drawn_1 : decode cX3_drawn 1 = .ok (.iconst 1, 1) := by decide +kernel
theorem dX3_drawn_2 : decode cX3_drawn 2 = .ok (.if_icmp .ge 7, 3) := by decide +kernel
theorem dX3_drawn_5 : decode cX3_drawn 5 = .ok (.iconst 0, 1) := by decide +kernel
theorem dX3_drawn_6 : decode cX3_drawn 6 = .ok (.goto 13, 3) := by decide +kernel
theorem dX3_drawn_9 : decode cX3_drawn 9 = .ok (.iload_n 0, 1) := by decide +kernel
theorem dX3_drawn_10 : decode cX3_drawn 10 = .ok (.bipush 16, 2) := by decide +kernel
theorem dX3_drawn_12 : decode cX3_drawn 12 = .ok (.ishr, 1) := by decide +kernel
theorem dX3_drawn_13 : decode cX3_drawn 13 = .ok (.sipush 32767, 3) := by decide +kernel
theorem dX3_drawn_16 : decode cX3_drawn 16 = .ok (.iand, 1) := by decide +kernel
theorem dX3_drawn_17 : decode cX3_drawn 17 = .ok (.iload_n 1, 1) := by decide +kernel
theorem dX3_drawn_18 : decode cX3_drawn 18 = .ok (.irem, 1) := by decide +kernel
theorem dX3_drawn_19 : decode cX3_drawn 19 = .ok (.ireturn, 1) := by decide +kernel
theorem dX3_keep_0 : decode cX3_keep 0 = .ok (.iload_n 1, 1) := by decide +kernel
theorem dX3_keep_1 : decode cX3_keep 1 = .ok (.ifCond .lt 8, 3) := by decide +kernel
theorem dX3_keep_4 : decode cX3_keep 4 = .ok (.iload_n 1, 1) := by decide +kernel
theorem dX3_keep_5 : decode cX3_keep 5 = .ok (.iconst 2, 1) := by decide +kernel
theorem dX3_keep_6 : decode cX3_keep 6 = .ok (.if_icmp .lt 5, 3) := by decide +kernel
theorem dX3_keep_9 : decode cX3_keep 9 = .ok (.iconst (-1), 1) := by decide +kernel
theorem dX3_keep_10 : decode cX3_keep 10 = .ok (.ireturn, 1) := by decide +kernel
theorem dX3_keep_11 : decode cX3_keep 11 = .ok (.aload_n 0, 1) := by decide +kernel
theorem dX3_keep_12 : decode cX3_keep 12 = .ok (.getfield 23, 3) := by decide +kernel
theorem dX3_keep_15 : decode cX3_keep 15 = .ok (.iload_n 1, 1) := by decide +kernel
theorem dX3_keep_16 : decode cX3_keep 16 = .ok (.baload, 1) := by decide +kernel
theorem dX3_keep_17 : decode cX3_keep 17 = .ok (.ifCond .eq 7, 3) := by decide +kernel
theorem dX3_keep_20 : decode cX3_keep 20 = .ok (.iconst 1, 1) := by decide +kernel
theorem dX3_keep_21 : decode cX3_keep 21 = .ok (.goto 4, 3) := by decide +kernel
theorem dX3_keep_24 : decode cX3_keep 24 = .ok (.iconst 0, 1) := by decide +kernel
theorem dX3_keep_25 : decode cX3_keep 25 = .ok (.istore_n 2, 1) := by decide +kernel
theorem dX3_keep_26 : decode cX3_keep 26 = .ok (.aload_n 0, 1) := by decide +kernel
theorem dX3_keep_27 : decode cX3_keep 27 = .ok (.getfield 19, 3) := by decide +kernel
theorem dX3_keep_30 : decode cX3_keep 30 = .ok (.iload_n 1, 1) := by decide +kernel
theorem dX3_keep_31 : decode cX3_keep 31 = .ok (.aaload, 1) := by decide +kernel
theorem dX3_keep_32 : decode cX3_keep 32 = .ok (.aload_n 0, 1) := by decide +kernel
theorem dX3_keep_33 : decode cX3_keep 33 = .ok (.getfield 10, 3) := by decide +kernel
theorem dX3_keep_36 : decode cX3_keep 36 = .ok (.invokevirtual 69, 3) := by decide +kernel
theorem dX3_keep_39 : decode cX3_keep 39 = .ok (.aload_n 0, 1) := by decide +kernel
theorem dX3_keep_40 : decode cX3_keep 40 = .ok (.getfield 23, 3) := by decide +kernel
theorem dX3_keep_43 : decode cX3_keep 43 = .ok (.iload_n 1, 1) := by decide +kernel
theorem dX3_keep_44 : decode cX3_keep 44 = .ok (.iconst 1, 1) := by decide +kernel
theorem dX3_keep_45 : decode cX3_keep 45 = .ok (.bastore, 1) := by decide +kernel
theorem dX3_keep_46 : decode cX3_keep 46 = .ok (.iload_n 2, 1) := by decide +kernel
theorem dX3_keep_47 : decode cX3_keep 47 = .ok (.ireturn, 1) := by decide +kernel
theorem dX3_back_0 : decode cX3_back 0 = .ok (.iload_n 1, 1) := by decide +kernel
theorem dX3_back_1 : decode cX3_back 1 = .ok (.ifCond .lt 8, 3) := by decide +kernel
theorem dX3_back_4 : decode cX3_back 4 = .ok (.iload_n 1, 1) := by decide +kernel
theorem dX3_back_5 : decode cX3_back 5 = .ok (.iconst 2, 1) := by decide +kernel
theorem dX3_back_6 : decode cX3_back 6 = .ok (.if_icmp .lt 5, 3) := by decide +kernel
theorem dX3_back_9 : decode cX3_back 9 = .ok (.iconst (-1), 1) := by decide +kernel
theorem dX3_back_10 : decode cX3_back 10 = .ok (.ireturn, 1) := by decide +kernel
theorem dX3_back_11 : decode cX3_back 11 = .ok (.aload_n 0, 1) := by decide +kernel
theorem dX3_back_12 : decode cX3_back 12 = .ok (.getfield 23, 3) := by decide +kernel
theorem dX3_back_15 : decode cX3_back 15 = .ok (.iload_n 1, 1) := by decide +kernel
theorem dX3_back_16 : decode cX3_back 16 = .ok (.baload, 1) := by decide +kernel
theorem dX3_back_17 : decode cX3_back 17 = .ok (.ifCond .ne 6, 3) := by decide +kernel
theorem dX3_back_20 : decode cX3_back 20 = .ok (.bipush (-2), 2) := by decide +kernel
theorem dX3_back_22 : decode cX3_back 22 = .ok (.ireturn, 1) := by decide +kernel
theorem dX3_back_23 : decode cX3_back 23 = .ok (.aload_n 0, 1) := by decide +kernel
theorem dX3_back_24 : decode cX3_back 24 = .ok (.getfield 10, 3) := by decide +kernel
theorem dX3_back_27 : decode cX3_back 27 = .ok (.aload_n 0, 1) := by decide +kernel
theorem dX3_back_28 : decode cX3_back 28 = .ok (.getfield 19, 3) := by decide +kernel
theorem dX3_back_31 : decode cX3_back 31 = .ok (.iload_n 1, 1) := by decide +kernel
theorem dX3_back_32 : decode cX3_back 32 = .ok (.aaload, 1) := by decide +kernel
theorem dX3_back_33 : decode cX3_back 33 = .ok (.invokevirtual 69, 3) := by decide +kernel
theorem dX3_back_36 : decode cX3_back 36 = .ok (.aload_n 0, 1) := by decide +kernel
theorem dX3_back_37 : decode cX3_back 37 = .ok (.getfield 10, 3) := by decide +kernel
theorem dX3_back_40 : decode cX3_back 40 = .ok (.invokevirtual 92, 3) := by decide +kernel
theorem dX3_back_43 : decode cX3_back 43 = .ok (.ireturn, 1) := by decide +kernel
theorem dX3_sheet_0 : decode cX3_sheet 0 = .ok (.iload_n 1, 1) := by decide +kernel
theorem dX3_sheet_1 : decode cX3_sheet 1 = .ok (.invokestatic 240, 3) := by decide +kernel
theorem dX3_sheet_4 : decode cX3_sheet 4 = .ok (.ifCond .eq 16, 3) := by decide +kernel
theorem dX3_sheet_7 : decode cX3_sheet 7 = .ok (.iload_n 2, 1) := by decide +kernel
theorem dX3_sheet_8 : decode cX3_sheet 8 = .ok (.invokestatic 243, 3) := by decide +kernel
theorem dX3_sheet_11 : decode cX3_sheet 11 = .ok (.ifCond .eq 9, 3) := by decide +kernel
theorem dX3_sheet_14 : decode cX3_sheet 14 = .ok (.iload_n 3, 1) := by decide +kernel
theorem dX3_sheet_15 : decode cX3_sheet 15 = .ok (.bipush 40, 2) := by decide +kernel
theorem dX3_sheet_17 : decode cX3_sheet 17 = .ok (.if_icmp .le 5, 3) := by decide +kernel
theorem dX3_sheet_20 : decode cX3_sheet 20 = .ok (.iconst (-1), 1) := by decide +kernel
theorem dX3_sheet_21 : decode cX3_sheet 21 = .ok (.ireturn, 1) := by decide +kernel
theorem dX3_sheet_22 : decode cX3_sheet 22 = .ok (.iload_n 3, 1) := by decide +kernel
theorem dX3_sheet_23 : decode cX3_sheet 23 = .ok (.ifCond .ge 6, 3) := by decide +kernel
theorem dX3_sheet_26 : decode cX3_sheet 26 = .ok (.bipush (-14), 2) := by decide +kernel
theorem dX3_sheet_28 : decode cX3_sheet 28 = .ok (.ireturn, 1) := by decide +kernel
theorem dX3_sheet_29 : decode cX3_sheet 29 = .ok (.aload_n 0, 1) := by decide +kernel
theorem dX3_sheet_30 : decode cX3_sheet 30 = .ok (.getfield 36, 3) := by decide +kernel
theorem dX3_sheet_33 : decode cX3_sheet 33 = .ok (.iload_n 1, 1) := by decide +kernel
theorem dX3_sheet_34 : decode cX3_sheet 34 = .ok (.aaload, 1) := by decide +kernel
theorem dX3_sheet_35 : decode cX3_sheet 35 = .ok (.iload_n 2, 1) := by decide +kernel
theorem dX3_sheet_36 : decode cX3_sheet 36 = .ok (.iload_n 3, 1) := by decide +kernel
theorem dX3_sheet_37 : decode cX3_sheet 37 = .ok (.invokevirtual 246, 3) := by decide +kernel
theorem dX3_sheet_40 : decode cX3_sheet 40 = .ok (.iconst 1, 1) := by decide +kernel
theorem dX3_sheet_41 : decode cX3_sheet 41 = .ok (.ireturn, 1) := by decide +kernel
theorem dX3_lay_0 : decode cX3_lay 0 = .ok (.iload_n 1, 1) := by decide +kernel
theorem dX3_lay_1 : decode cX3_lay 1 = .ok (.invokestatic 240, 3) := by decide +kernel
theorem dX3_lay_4 : decode cX3_lay 4 = .ok (.ifCond .ne 5, 3) := by decide +kernel
theorem dX3_lay_7 : decode cX3_lay 7 = .ok (.iconst (-1), 1) := by decide +kernel
theorem dX3_lay_8 : decode cX3_lay 8 = .ok (.ireturn, 1) := by decide +kernel
theorem dX3_lay_9 : decode cX3_lay 9 = .ok (.aload_n 0, 1) := by decide +kernel
theorem dX3_lay_10 : decode cX3_lay 10 = .ok (.getfield 36, 3) := by decide +kernel
theorem dX3_lay_13 : decode cX3_lay 13 = .ok (.iload_n 1, 1) := by decide +kernel
theorem dX3_lay_14 : decode cX3_lay 14 = .ok (.aaload, 1) := by decide +kernel
theorem dX3_lay_15 : decode cX3_lay 15 = .ok (.astore 4, 2) := by decide +kernel
theorem dX3_lay_17 : decode cX3_lay 17 = .ok (.aload 4, 2) := by decide +kernel
theorem dX3_lay_19 : decode cX3_lay 19 = .ok (.aload 4, 2) := by decide +kernel
theorem dX3_lay_21 : decode cX3_lay 21 = .ok (.getfield 249, 3) := by decide +kernel
theorem dX3_lay_24 : decode cX3_lay 24 = .ok (.iload_n 2, 1) := by decide +kernel
theorem dX3_lay_25 : decode cX3_lay 25 = .ok (.invokevirtual 252, 3) := by decide +kernel
theorem dX3_lay_28 : decode cX3_lay 28 = .ok (.istore 5, 2) := by decide +kernel
theorem dX3_lay_30 : decode cX3_lay 30 = .ok (.iload 5, 2) := by decide +kernel
theorem dX3_lay_32 : decode cX3_lay 32 = .ok (.ifCond .eq 9, 3) := by decide +kernel
theorem dX3_lay_35 : decode cX3_lay 35 = .ok (.bipush (-10), 2) := by decide +kernel
theorem dX3_lay_37 : decode cX3_lay 37 = .ok (.iload 5, 2) := by decide +kernel
theorem dX3_lay_39 : decode cX3_lay 39 = .ok (.isub, 1) := by decide +kernel
theorem dX3_lay_40 : decode cX3_lay 40 = .ok (.ireturn, 1) := by decide +kernel
theorem dX3_lay_41 : decode cX3_lay 41 = .ok (.aload 4, 2) := by decide +kernel
theorem dX3_lay_43 : decode cX3_lay 43 = .ok (.iload_n 2, 1) := by decide +kernel
theorem dX3_lay_44 : decode cX3_lay 44 = .ok (.iload_n 3, 1) := by decide +kernel
theorem dX3_lay_45 : decode cX3_lay 45 = .ok (.invokevirtual 255, 3) := by decide +kernel
theorem dX3_lay_48 : decode cX3_lay 48 = .ok (.iconst 1, 1) := by decide +kernel
theorem dX3_lay_49 : decode cX3_lay 49 = .ok (.ireturn, 1) := by decide +kernel
theorem dX3_read_0 : decode cX3_read 0 = .ok (.iload_n 1, 1) := by decide +kernel
theorem dX3_read_1 : decode cX3_read 1 = .ok (.invokestatic 240, 3) := by decide +kernel
theorem dX3_read_4 : decode cX3_read 4 = .ok (.ifCond .eq 22, 3) := by decide +kernel
theorem dX3_read_7 : decode cX3_read 7 = .ok (.iload_n 2, 1) := by decide +kernel
theorem dX3_read_8 : decode cX3_read 8 = .ok (.invokestatic 243, 3) := by decide +kernel
theorem dX3_read_11 : decode cX3_read 11 = .ok (.ifCond .eq 15, 3) := by decide +kernel
theorem dX3_read_14 : decode cX3_read 14 = .ok (.iload 4, 2) := by decide +kernel
theorem dX3_read_16 : decode cX3_read 16 = .ok (.ifCond .lt 10, 3) := by decide +kernel
theorem dX3_read_19 : decode cX3_read 19 = .ok (.iload 4, 2) := by decide +kernel
theorem dX3_read_21 : decode cX3_read 21 = .ok (.bipush 20, 2) := by decide +kernel
theorem dX3_read_23 : decode cX3_read 23 = .ok (.if_icmp .le 5, 3) := by decide +kernel
theorem dX3_read_26 : decode cX3_read 26 = .ok (.iconst (-1), 1) := by decide +kernel
theorem dX3_read_27 : decode cX3_read 27 = .ok (.ireturn, 1) := by decide +kernel
theorem dX3_read_28 : decode cX3_read 28 = .ok (.aload_n 0, 1) := by decide +kernel
theorem dX3_read_29 : decode cX3_read 29 = .ok (.getfield 36, 3) := by decide +kernel
theorem dX3_read_32 : decode cX3_read 32 = .ok (.iload_n 1, 1) := by decide +kernel
theorem dX3_read_33 : decode cX3_read 33 = .ok (.aaload, 1) := by decide +kernel
theorem dX3_read_34 : decode cX3_read 34 = .ok (.astore 5, 2) := by decide +kernel
theorem dX3_read_36 : decode cX3_read 36 = .ok (.iconst 0, 1) := by decide +kernel
theorem dX3_read_37 : decode cX3_read 37 = .ok (.istore 6, 2) := by decide +kernel
theorem dX3_read_39 : decode cX3_read 39 = .ok (.iconst 0, 1) := by decide +kernel
theorem dX3_read_40 : decode cX3_read 40 = .ok (.istore 7, 2) := by decide +kernel
theorem dX3_read_42 : decode cX3_read 42 = .ok (.iconst 0, 1) := by decide +kernel
theorem dX3_read_43 : decode cX3_read 43 = .ok (.istore 8, 2) := by decide +kernel
theorem dX3_read_45 : decode cX3_read 45 = .ok (.iload 8, 2) := by decide +kernel
theorem dX3_read_47 : decode cX3_read 47 = .ok (.iload 4, 2) := by decide +kernel
theorem dX3_read_49 : decode cX3_read 49 = .ok (.if_icmp .ge 71, 3) := by decide +kernel
theorem dX3_read_52 : decode cX3_read 52 = .ok (.iload 6, 2) := by decide +kernel
theorem dX3_read_54 : decode cX3_read 54 = .ok (.ifCond .ne 66, 3) := by decide +kernel
theorem dX3_read_57 : decode cX3_read 57 = .ok (.iload_n 3, 1) := by decide +kernel
theorem dX3_read_58 : decode cX3_read 58 = .ok (.iconst 2, 1) := by decide +kernel
theorem dX3_read_59 : decode cX3_read 59 = .ok (.iload 8, 2) := by decide +kernel
theorem dX3_read_61 : decode cX3_read 61 = .ok (.imul, 1) := by decide +kernel
theorem dX3_read_62 : decode cX3_read 62 = .ok (.iadd, 1) := by decide +kernel
theorem dX3_read_63 : decode cX3_read 63 = .ok (.istore 9, 2) := by decide +kernel
theorem dX3_read_65 : decode cX3_read 65 = .ok (.aload 5, 2) := by decide +kernel
theorem dX3_read_67 : decode cX3_read 67 = .ok (.iload_n 2, 1) := by decide +kernel
theorem dX3_read_68 : decode cX3_read 68 = .ok (.iload 9, 2) := by decide +kernel
theorem dX3_read_70 : decode cX3_read 70 = .ok (.invokevirtual 258, 3) := by decide +kernel
theorem dX3_read_73 : decode cX3_read 73 = .ok (.istore 6, 2) := by decide +kernel
theorem dX3_read_75 : decode cX3_read 75 = .ok (.iload 6, 2) := by decide +kernel
theorem dX3_read_77 : decode cX3_read 77 = .ok (.ifCond .ne 37, 3) := by decide +kernel
theorem dX3_read_80 : decode cX3_read 80 = .ok (.aload_n 0, 1) := by decide +kernel
theorem dX3_read_81 : decode cX3_read 81 = .ok (.aload 5, 2) := by decide +kernel
theorem dX3_read_83 : decode cX3_read 83 = .ok (.getfield 261, 3) := by decide +kernel
theorem dX3_read_86 : decode cX3_read 86 = .ok (.iload 9, 2) := by decide +kernel
theorem dX3_read_88 : decode cX3_read 88 = .ok (.iaload, 1) := by decide +kernel
theorem dX3_read_89 : decode cX3_read 89 = .ok (.aload 5, 2) := by decide +kernel
theorem dX3_read_91 : decode cX3_read 91 = .ok (.getfield 261, 3) := by decide +kernel
theorem dX3_read_94 : decode cX3_read 94 = .ok (.iload 9, 2) := by decide +kernel
theorem dX3_read_96 : decode cX3_read 96 = .ok (.iconst 1, 1) := by decide +kernel
theorem dX3_read_97 : decode cX3_read 97 = .ok (.iadd, 1) := by decide +kernel
theorem dX3_read_98 : decode cX3_read 98 = .ok (.iaload, 1) := by decide +kernel
theorem dX3_read_99 : decode cX3_read 99 = .ok (.invokevirtual 149, 3) := by decide +kernel
theorem dX3_read_102 : decode cX3_read 102 = .ok (.ifCond .ne 9, 3) := by decide +kernel
theorem dX3_read_105 : decode cX3_read 105 = .ok (.bipush (-20), 2) := by decide +kernel
theorem dX3_read_107 : decode cX3_read 107 = .ok (.iload 8, 2) := by decide +kernel
theorem dX3_read_109 : decode cX3_read 109 = .ok (.isub, 1) := by decide +kernel
theorem dX3_read_110 : decode cX3_read 110 = .ok (.ireturn, 1) := by decide +kernel
theorem dX3_read_111 : decode cX3_read 111 = .ok (.iinc 7 1, 3) := by decide +kernel
theorem dX3_read_114 : decode cX3_read 114 = .ok (.iinc 8 1, 3) := by decide +kernel
theorem dX3_read_117 : decode cX3_read 117 = .ok (.goto (-72), 3) := by decide +kernel
theorem dX3_read_120 : decode cX3_read 120 = .ok (.iconst 0, 1) := by decide +kernel
theorem dX3_read_121 : decode cX3_read 121 = .ok (.istore 8, 2) := by decide +kernel
theorem dX3_read_123 : decode cX3_read 123 = .ok (.iload 8, 2) := by decide +kernel
theorem dX3_read_125 : decode cX3_read 125 = .ok (.iload 7, 2) := by decide +kernel
theorem dX3_read_127 : decode cX3_read 127 = .ok (.if_icmp .ge 42, 3) := by decide +kernel
theorem dX3_read_130 : decode cX3_read 130 = .ok (.aload_n 0, 1) := by decide +kernel
theorem dX3_read_131 : decode cX3_read 131 = .ok (.getfield 10, 3) := by decide +kernel
theorem dX3_read_134 : decode cX3_read 134 = .ok (.aload 5, 2) := by decide +kernel
theorem dX3_read_136 : decode cX3_read 136 = .ok (.getfield 261, 3) := by decide +kernel
theorem dX3_read_139 : decode cX3_read 139 = .ok (.iload_n 3, 1) := by decide +kernel
theorem dX3_read_140 : decode cX3_read 140 = .ok (.iconst 2, 1) := by decide +kernel
theorem dX3_read_141 : decode cX3_read 141 = .ok (.iload 8, 2) := by decide +kernel
theorem dX3_read_143 : decode cX3_read 143 = .ok (.imul, 1) := by decide +kernel
theorem dX3_read_144 : decode cX3_read 144 = .ok (.iadd, 1) := by decide +kernel
theorem dX3_read_145 : decode cX3_read 145 = .ok (.iaload, 1) := by decide +kernel
theorem dX3_read_146 : decode cX3_read 146 = .ok (.aload 5, 2) := by decide +kernel
theorem dX3_read_148 : decode cX3_read 148 = .ok (.getfield 261, 3) := by decide +kernel
theorem dX3_read_151 : decode cX3_read 151 = .ok (.iload_n 3, 1) := by decide +kernel
theorem dX3_read_152 : decode cX3_read 152 = .ok (.iconst 2, 1) := by decide +kernel
theorem dX3_read_153 : decode cX3_read 153 = .ok (.iload 8, 2) := by decide +kernel
theorem dX3_read_155 : decode cX3_read 155 = .ok (.imul, 1) := by decide +kernel
theorem dX3_read_156 : decode cX3_read 156 = .ok (.iadd, 1) := by decide +kernel
theorem dX3_read_157 : decode cX3_read 157 = .ok (.iconst 1, 1) := by decide +kernel
theorem dX3_read_158 : decode cX3_read 158 = .ok (.iadd, 1) := by decide +kernel
theorem dX3_read_159 : decode cX3_read 159 = .ok (.iaload, 1) := by decide +kernel
theorem dX3_read_160 : decode cX3_read 160 = .ok (.invokevirtual 153, 3) := by decide +kernel
theorem dX3_read_163 : decode cX3_read 163 = .ok (.iinc 8 1, 3) := by decide +kernel
theorem dX3_read_166 : decode cX3_read 166 = .ok (.goto (-43), 3) := by decide +kernel
theorem dX3_read_169 : decode cX3_read 169 = .ok (.aload_n 0, 1) := by decide +kernel
theorem dX3_read_170 : decode cX3_read 170 = .ok (.iload 6, 2) := by decide +kernel
theorem dX3_read_172 : decode cX3_read 172 = .ok (.putfield 264, 3) := by decide +kernel
theorem dX3_read_175 : decode cX3_read 175 = .ok (.iload 7, 2) := by decide +kernel
theorem dX3_read_177 : decode cX3_read 177 = .ok (.ireturn, 1) := by decide +kernel
theorem dX3_torn_0 : decode cX3_torn 0 = .ok (.aload_n 0, 1) := by decide +kernel
theorem dX3_torn_1 : decode cX3_torn 1 = .ok (.getfield 264, 3) := by decide +kernel
theorem dX3_torn_4 : decode cX3_torn 4 = .ok (.ireturn, 1) := by decide +kernel
theorem dX3_count_0 : decode cX3_count 0 = .ok (.iload_n 1, 1) := by decide +kernel
theorem dX3_count_1 : decode cX3_count 1 = .ok (.tableswitch 101 0 5 #[39, 44, 49, 57, 85, 93], 39) := by decide +kernel
theorem dX3_count_40 : decode cX3_count 40 = .ok (.aload_n 0, 1) := by decide +kernel
theorem dX3_count_41 : decode cX3_count 41 = .ok (.getfield 73, 3) := by decide +kernel
theorem dX3_count_44 : decode cX3_count 44 = .ok (.ireturn, 1) := by decide +kernel
theorem dX3_count_45 : decode cX3_count 45 = .ok (.aload_n 0, 1) := by decide +kernel
theorem dX3_count_46 : decode cX3_count 46 = .ok (.invokevirtual 267, 3) := by decide +kernel
theorem dX3_count_49 : decode cX3_count 49 = .ok (.ireturn, 1) := by decide +kernel
theorem dX3_count_50 : decode cX3_count 50 = .ok (.aload_n 0, 1) := by decide +kernel
theorem dX3_count_51 : decode cX3_count 51 = .ok (.getfield 30, 3) := by decide +kernel
theorem dX3_count_54 : decode cX3_count 54 = .ok (.getfield 55, 3) := by decide +kernel
theorem dX3_count_57 : decode cX3_count 57 = .ok (.ireturn, 1) := by decide +kernel
theorem dX3_count_58 : decode cX3_count 58 = .ok (.aload_n 0, 1) := by decide +kernel
theorem dX3_count_59 : decode cX3_count 59 = .ok (.getfield 36, 3) := by decide +kernel
theorem dX3_count_62 : decode cX3_count 62 = .ok (.iconst 0, 1) := by decide +kernel
theorem dX3_count_63 : decode cX3_count 63 = .ok (.aaload, 1) := by decide +kernel
theorem dX3_count_64 : decode cX3_count 64 = .ok (.getfield 249, 3) := by decide +kernel
theorem dX3_count_67 : decode cX3_count 67 = .ok (.iconst (-1), 1) := by decide +kernel
theorem dX3_count_68 : decode cX3_count 68 = .ok (.if_icmp .ne 8, 3) := by decide +kernel
theorem dX3_count_71 : decode cX3_count 71 = .ok (.bipush (-4), 2) := by decide +kernel
theorem dX3_count_73 : decode cX3_count 73 = .ok (.goto 12, 3) := by decide +kernel
theorem dX3_count_76 : decode cX3_count 76 = .ok (.aload_n 0, 1) := by decide +kernel
theorem dX3_count_77 : decode cX3_count 77 = .ok (.getfield 36, 3) := by decide +kernel
theorem dX3_count_80 : decode cX3_count 80 = .ok (.iconst 0, 1) := by decide +kernel
theorem dX3_count_81 : decode cX3_count 81 = .ok (.aaload, 1) := by decide +kernel
theorem dX3_count_82 : decode cX3_count 82 = .ok (.getfield 270, 3) := by decide +kernel
theorem dX3_count_85 : decode cX3_count 85 = .ok (.ireturn, 1) := by decide +kernel
theorem dX3_count_86 : decode cX3_count 86 = .ok (.aload_n 0, 1) := by decide +kernel
theorem dX3_count_87 : decode cX3_count 87 = .ok (.getfield 10, 3) := by decide +kernel
theorem dX3_count_90 : decode cX3_count 90 = .ok (.invokevirtual 273, 3) := by decide +kernel
theorem dX3_count_93 : decode cX3_count 93 = .ok (.ireturn, 1) := by decide +kernel
theorem dX3_count_94 : decode cX3_count 94 = .ok (.aload_n 0, 1) := by decide +kernel
theorem dX3_count_95 : decode cX3_count 95 = .ok (.getfield 10, 3) := by decide +kernel
theorem dX3_count_98 : decode cX3_count 98 = .ok (.invokevirtual 276, 3) := by decide +kernel
theorem dX3_count_101 : decode cX3_count 101 = .ok (.ireturn, 1) := by decide +kernel
theorem dX3_count_102 : decode cX3_count 102 = .ok (.iconst (-1), 1) := by decide +kernel
theorem dX3_count_103 : decode cX3_count 103 = .ok (.ireturn, 1) := by decide +kernel
theorem dX3_imagesKept_0 : decode cX3_imagesKept 0 = .ok (.iconst 0, 1) := by decide +kernel
theorem dX3_imagesKept_1 : decode cX3_imagesKept 1 = .ok (.istore_n 1, 1) := by decide +kernel
theorem dX3_imagesKept_2 : decode cX3_imagesKept 2 = .ok (.iconst 0, 1) := by decide +kernel
theorem dX3_imagesKept_3 : decode cX3_imagesKept 3 = .ok (.istore_n 2, 1) := by decide +kernel
theorem dX3_imagesKept_4 : decode cX3_imagesKept 4 = .ok (.iload_n 2, 1) := by decide +kernel
theorem dX3_imagesKept_5 : decode cX3_imagesKept 5 = .ok (.iconst 2, 1) := by decide +kernel
theorem dX3_imagesKept_6 : decode cX3_imagesKept 6 = .ok (.if_icmp .ge 26, 3) := by decide +kernel
theorem dX3_imagesKept_9 : decode cX3_imagesKept 9 = .ok (.iload_n 1, 1) := by decide +kernel
theorem dX3_imagesKept_10 : decode cX3_imagesKept 10 = .ok (.aload_n 0, 1) := by decide +kernel
theorem dX3_imagesKept_11 : decode cX3_imagesKept 11 = .ok (.getfield 23, 3) := by decide +kernel
theorem dX3_imagesKept_14 : decode cX3_imagesKept 14 = .ok (.iload_n 2, 1) := by decide +kernel
theorem dX3_imagesKept_15 : decode cX3_imagesKept 15 = .ok (.baload, 1) := by decide +kernel
theorem dX3_imagesKept_16 : decode cX3_imagesKept 16 = .ok (.ifCond .eq 7, 3) := by decide +kernel
theorem dX3_imagesKept_19 : decode cX3_imagesKept 19 = .ok (.iconst 1, 1) := by decide +kernel
theorem dX3_imagesKept_20 : decode cX3_imagesKept 20 = .ok (.goto 4, 3) := by decide +kernel
theorem dX3_imagesKept_23 : decode cX3_imagesKept 23 = .ok (.iconst 0, 1) := by decide +kernel
theorem dX3_imagesKept_24 : decode cX3_imagesKept 24 = .ok (.iadd, 1) := by decide +kernel
theorem dX3_imagesKept_25 : decode cX3_imagesKept 25 = .ok (.istore_n 1, 1) := by decide +kernel
theorem dX3_imagesKept_26 : decode cX3_imagesKept 26 = .ok (.iinc 2 1, 3) := by decide +kernel
theorem dX3_imagesKept_29 : decode cX3_imagesKept 29 = .ok (.goto (-25), 3) := by decide +kernel
theorem dX3_imagesKept_32 : decode cX3_imagesKept 32 = .ok (.iload_n 1, 1) := by decide +kernel
theorem dX3_imagesKept_33 : decode cX3_imagesKept 33 = .ok (.ireturn, 1) := by decide +kernel
theorem dX3_mayStand_0 : decode cX3_mayStand 0 = .ok (.iload_n 1, 1) := by decide +kernel
theorem dX3_mayStand_1 : decode cX3_mayStand 1 = .ok (.invokestatic 111, 3) := by decide +kernel
theorem dX3_mayStand_4 : decode cX3_mayStand 4 = .ok (.ifCond .eq 24, 3) := by decide +kernel
theorem dX3_mayStand_7 : decode cX3_mayStand 7 = .ok (.iload_n 2, 1) := by decide +kernel
theorem dX3_mayStand_8 : decode cX3_mayStand 8 = .ok (.bipush (-4), 2) := by decide +kernel
theorem dX3_mayStand_10 : decode cX3_mayStand 10 = .ok (.if_icmp .eq 14, 3) := by decide +kernel
theorem dX3_mayStand_13 : decode cX3_mayStand 13 = .ok (.aload_n 0, 1) := by decide +kernel
theorem dX3_mayStand_14 : decode cX3_mayStand 14 = .ok (.getfield 10, 3) := by decide +kernel
theorem dX3_mayStand_17 : decode cX3_mayStand 17 = .ok (.iload_n 2, 1) := by decide +kernel
theorem dX3_mayStand_18 : decode cX3_mayStand 18 = .ok (.invokevirtual 95, 3) := by decide +kernel
theorem dX3_mayStand_21 : decode cX3_mayStand 21 = .ok (.ifCond .eq 7, 3) := by decide +kernel
theorem dX3_mayStand_24 : decode cX3_mayStand 24 = .ok (.iconst 1, 1) := by decide +kernel
theorem dX3_mayStand_25 : decode cX3_mayStand 25 = .ok (.goto 4, 3) := by decide +kernel
theorem dX3_mayStand_28 : decode cX3_mayStand 28 = .ok (.iconst 0, 1) := by decide +kernel
theorem dX3_mayStand_29 : decode cX3_mayStand 29 = .ok (.ireturn, 1) := by decide +kernel
theorem dX3_isFirstOrSecond_0 : decode cX3_isFirstOrSecond 0 = .ok (.iload_n 0, 1) := by decide +kernel
theorem dX3_isFirstOrSecond_1 : decode cX3_isFirstOrSecond 1 = .ok (.ifCond .eq 8, 3) := by decide +kernel
theorem dX3_isFirstOrSecond_4 : decode cX3_isFirstOrSecond 4 = .ok (.iload_n 0, 1) := by decide +kernel
theorem dX3_isFirstOrSecond_5 : decode cX3_isFirstOrSecond 5 = .ok (.iconst 1, 1) := by decide +kernel
theorem dX3_isFirstOrSecond_6 : decode cX3_isFirstOrSecond 6 = .ok (.if_icmp .ne 7, 3) := by decide +kernel
theorem dX3_isFirstOrSecond_9 : decode cX3_isFirstOrSecond 9 = .ok (.iconst 1, 1) := by decide +kernel
theorem dX3_isFirstOrSecond_10 : decode cX3_isFirstOrSecond 10 = .ok (.goto 4, 3) := by decide +kernel
theorem dX3_isFirstOrSecond_13 : decode cX3_isFirstOrSecond 13 = .ok (.iconst 0, 1) := by decide +kernel
theorem dX3_isFirstOrSecond_14 : decode cX3_isFirstOrSecond 14 = .ok (.ireturn, 1) := by decide +kernel
theorem dX3_isHour_0 : decode cX3_isHour 0 = .ok (.iload_n 0, 1) := by decide +kernel
theorem dX3_isHour_1 : decode cX3_isHour 1 = .ok (.ifCond .lt 13, 3) := by decide +kernel
theorem dX3_isHour_4 : decode cX3_isHour 4 = .ok (.iload_n 0, 1) := by decide +kernel
theorem dX3_isHour_5 : decode cX3_isHour 5 = .ok (.bipush 12, 2) := by decide +kernel
theorem dX3_isHour_7 : decode cX3_isHour 7 = .ok (.if_icmp .ge 7, 3) := by decide +kernel
theorem dX3_isHour_10 : decode cX3_isHour 10 = .ok (.iconst 1, 1) := by decide +kernel
theorem dX3_isHour_11 : decode cX3_isHour 11 = .ok (.goto 4, 3) := by decide +kernel
theorem dX3_isHour_14 : decode cX3_isHour 14 = .ok (.iconst 0, 1) := by decide +kernel
theorem dX3_isHour_15 : decode cX3_isHour 15 = .ok (.ireturn, 1) := by decide +kernel
theorem dX3_isQuarter_0 : decode cX3_isQuarter 0 = .ok (.iload_n 0, 1) := by decide +kernel
theorem dX3_isQuarter_1 : decode cX3_isQuarter 1 = .ok (.ifCond .lt 13, 3) := by decide +kernel
theorem dX3_isQuarter_4 : decode cX3_isQuarter 4 = .ok (.iload_n 0, 1) := by decide +kernel
theorem dX3_isQuarter_5 : decode cX3_isQuarter 5 = .ok (.bipush 48, 2) := by decide +kernel
theorem dX3_isQuarter_7 : decode cX3_isQuarter 7 = .ok (.if_icmp .ge 7, 3) := by decide +kernel
theorem dX3_isQuarter_10 : decode cX3_isQuarter 10 = .ok (.iconst 1, 1) := by decide +kernel
theorem dX3_isQuarter_11 : decode cX3_isQuarter 11 = .ok (.goto 4, 3) := by decide +kernel
theorem dX3_isQuarter_14 : decode cX3_isQuarter 14 = .ok (.iconst 0, 1) := by decide +kernel
theorem dX3_isQuarter_15 : decode cX3_isQuarter 15 = .ok (.ireturn, 1) := by decide +kernel
theorem dX3_isWorth_0 : decode cX3_isWorth 0 = .ok (.iload_n 0, 1) := by decide +kernel
theorem dX3_isWorth_1 : decode cX3_isWorth 1 = .ok (.iconst 1, 1) := by decide +kernel
theorem dX3_isWorth_2 : decode cX3_isWorth 2 = .ok (.if_icmp .lt 13, 3) := by decide +kernel
theorem dX3_isWorth_5 : decode cX3_isWorth 5 = .ok (.iload_n 0, 1) := by decide +kernel
theorem dX3_isWorth_6 : decode cX3_isWorth 6 = .ok (.bipush 9, 2) := by decide +kernel
theorem dX3_isWorth_8 : decode cX3_isWorth 8 = .ok (.if_icmp .gt 7, 3) := by decide +kernel
theorem dX3_isWorth_11 : decode cX3_isWorth 11 = .ok (.iconst 1, 1) := by decide +kernel
theorem dX3_isWorth_12 : decode cX3_isWorth 12 = .ok (.goto 4, 3) := by decide +kernel
theorem dX3_isWorth_15 : decode cX3_isWorth 15 = .ok (.iconst 0, 1) := by decide +kernel
theorem dX3_isWorth_16 : decode cX3_isWorth 16 = .ok (.ireturn, 1) := by decide +kernel
theorem dX3_isSheet_0 : decode cX3_isSheet 0 = .ok (.iload_n 0, 1) := by decide +kernel
theorem dX3_isSheet_1 : decode cX3_isSheet 1 = .ok (.ifCond .lt 12, 3) := by decide +kernel
theorem dX3_isSheet_4 : decode cX3_isSheet 4 = .ok (.iload_n 0, 1) := by decide +kernel
theorem dX3_isSheet_5 : decode cX3_isSheet 5 = .ok (.iconst 4, 1) := by decide +kernel
theorem dX3_isSheet_6 : decode cX3_isSheet 6 = .ok (.if_icmp .ge 7, 3) := by decide +kernel
theorem dX3_isSheet_9 : decode cX3_isSheet 9 = .ok (.iconst 1, 1) := by decide +kernel
theorem dX3_isSheet_10 : decode cX3_isSheet 10 = .ok (.goto 4, 3) := by decide +kernel
theorem dX3_isSheet_13 : decode cX3_isSheet 13 = .ok (.iconst 0, 1) := by decide +kernel
theorem dX3_isSheet_14 : decode cX3_isSheet 14 = .ok (.ireturn, 1) := by decide +kernel
theorem dX3_isLane_0 : decode cX3_isLane 0 = .ok (.iload_n 0, 1) := by decide +kernel
theorem dX3_isLane_1 : decode cX3_isLane 1 = .ok (.ifCond .lt 12, 3) := by decide +kernel
theorem dX3_isLane_4 : decode cX3_isLane 4 = .ok (.iload_n 0, 1) := by decide +kernel
theorem dX3_isLane_5 : decode cX3_isLane 5 = .ok (.iconst 3, 1) := by decide +kernel
theorem dX3_isLane_6 : decode cX3_isLane 6 = .ok (.if_icmp .ge 7, 3) := by decide +kernel
theorem dX3_isLane_9 : decode cX3_isLane 9 = .ok (.iconst 1, 1) := by decide +kernel
theorem dX3_isLane_10 : decode cX3_isLane 10 = .ok (.goto 4, 3) := by decide +kernel
theorem dX3_isLane_13 : decode cX3_isLane 13 = .ok (.iconst 0, 1) := by decide +kernel
theorem dX3_isLane_14 : decode cX3_isLane 14 = .ok (.ireturn, 1) := by decide +kernel
end
section
theorem dX4_init_0 : decode cX4_init 0 = .ok (.aload_n 0, 1) := by decide +kernel
theorem dX4_init_1 : decode cX4_init 1 = .ok (.invokespecial 1, 3) := by decide +kernel
theorem dX4_init_4 : decode cX4_init 4 = .ok (.aload_n 0, 1) := by decide +kernel
theorem dX4_init_5 : decode cX4_init 5 = .ok (.sipush 132, 3) := by decide +kernel
theorem dX4_init_8 : decode cX4_init 8 = .ok (.newarray .int, 2) := by decide +kernel
theorem dX4_init_10 : decode cX4_init 10 = .ok (.putfield 7, 3) := by decide +kernel
theorem dX4_init_13 : decode cX4_init 13 = .ok (.aload_n 0, 1) := by decide +kernel
theorem dX4_init_14 : decode cX4_init 14 = .ok (.bipush 33, 2) := by decide +kernel
theorem dX4_init_16 : decode cX4_init 16 = .ok (.newarray .int, 2) := by decide +kernel
theorem dX4_init_18 : decode cX4_init 18 = .ok (.putfield 13, 3) := by decide +kernel
theorem dX4_init_21 : decode cX4_init 21 = .ok (.aload_n 0, 1) := by decide +kernel
theorem dX4_init_22 : decode cX4_init 22 = .ok (.sipush 160, 3) := by decide +kernel
theorem dX4_init_25 : decode cX4_init 25 = .ok (.newarray .int, 2) := by decide +kernel
theorem dX4_init_27 : decode cX4_init 27 = .ok (.putfield 16, 3) := by decide +kernel
theorem dX4_init_30 : decode cX4_init 30 = .ok (.aload_n 0, 1) := by decide +kernel
theorem dX4_init_31 : decode cX4_init 31 = .ok (.bipush 9, 2) := by decide +kernel
theorem dX4_init_33 : decode cX4_init 33 = .ok (.newarray .int, 2) := by decide +kernel
theorem dX4_init_35 : decode cX4_init 35 = .ok (.dup, 1) := by decide +kernel
theorem dX4_init_36 : decode cX4_init 36 = .ok (.iconst 0, 1) := by decide +kernel
theorem dX4_init_37 : decode cX4_init 37 = .ok (.iconst 0, 1) := by decide +kernel
theorem dX4_init_38 : decode cX4_init 38 = .ok (.iastore, 1) := by decide +kernel
theorem dX4_init_39 : decode cX4_init 39 = .ok (.dup, 1) := by decide +kernel
theorem dX4_init_40 : decode cX4_init 40 = .ok (.iconst 1, 1) := by decide +kernel
theorem dX4_init_41 : decode cX4_init 41 = .ok (.bipush 7, 2) := by decide +kernel
theorem dX4_init_43 : decode cX4_init 43 = .ok (.iastore, 1) := by decide +kernel
theorem dX4_init_44 : decode cX4_init 44 = .ok (.dup, 1) := by decide +kernel
theorem dX4_init_45 : decode cX4_init 45 = .ok (.iconst 2, 1) := by decide +kernel
theorem dX4_init_46 : decode cX4_init 46 = .ok (.bipush 14, 2) := by decide +kernel
theorem dX4_init_48 : decode cX4_init 48 = .ok (.iastore, 1) := by decide +kernel
theorem dX4_init_49 : decode cX4_init 49 = .ok (.dup, 1) := by decide +kernel
theorem dX4_init_50 : decode cX4_init 50 = .ok (.iconst 3, 1) := by decide +kernel
theorem dX4_init_51 : decode cX4_init 51 = .ok (.bipush 19, 2) := by decide +kernel
theorem dX4_init_53 : decode cX4_init 53 = .ok (.iastore, 1) := by decide +kernel
theorem dX4_init_54 : decode cX4_init 54 = .ok (.dup, 1) := by decide +kernel
theorem dX4_init_55 : decode cX4_init 55 = .ok (.iconst 4, 1) := by decide +kernel
theorem dX4_init_56 : decode cX4_init 56 = .ok (.bipush 24, 2) := by decide +kernel
theorem dX4_init_58 : decode cX4_init 58 = .ok (.iastore, 1) := by decide +kernel
theorem dX4_init_59 : decode cX4_init 59 = .ok (.dup, 1) := by decide +kernel
theorem dX4_init_60 : decode cX4_init 60 = .ok (.iconst 5, 1) := by decide +kernel
theorem dX4_init_61 : decode cX4_init 61 = .ok (.bipush 29, 2) := by decide +kernel
theorem dX4_init_63 : decode cX4_init 63 = .ok (.iastore, 1) := by decide +kernel
theorem dX4_init_64 : decode cX4_init 64 = .ok (.dup, 1) := by decide +kernel
theorem dX4_init_65 : decode cX4_init 65 = .ok (.bipush 6, 2) := by decide +kernel
theorem dX4_init_67 : decode cX4_init 67 = .ok (.bipush 33, 2) := by decide +kernel
theorem dX4_init_69 : decode cX4_init 69 = .ok (.iastore, 1) := by decide +kernel
theorem dX4_init_70 : decode cX4_init 70 = .ok (.dup, 1) := by decide +kernel
theorem dX4_init_71 : decode cX4_init 71 = .ok (.bipush 7, 2) := by decide +kernel
theorem dX4_init_73 : decode cX4_init 73 = .ok (.bipush 37, 2) := by decide +kernel
theorem dX4_init_75 : decode cX4_init 75 = .ok (.iastore, 1) := by decide +kernel
theorem dX4_init_76 : decode cX4_init 76 = .ok (.dup, 1) := by decide +kernel
theorem dX4_init_77 : decode cX4_init 77 = .ok (.bipush 8, 2) := by decide +kernel
theorem dX4_init_79 : decode cX4_init 79 = .ok (.bipush 42, 2) := by decide +kernel
theorem dX4_init_81 : decode cX4_init 81 = .ok (.iastore, 1) := by decide +kernel
theorem dX4_init_82 : decode cX4_init 82 = .ok (.putfield 19, 3) := by decide +kernel
theorem dX4_init_85 : decode cX4_init 85 = .ok (.aload_n 0, 1) := by decide +kernel
theorem dX4_init_86 : decode cX4_init 86 = .ok (.bipush 42, 2) := by decide +kernel
theorem dX4_init_88 : decode cX4_init 88 = .ok (.newarray .int, 2) := by decide +kernel
theorem dX4_init_90 : decode cX4_init 90 = .ok (.dup, 1) := by decide +kernel
theorem dX4_init_91 : decode cX4_init 91 = .ok (.iconst 0, 1) := by decide +kernel
theorem dX4_init_92 : decode cX4_init 92 = .ok (.bipush 117, 2) := by decide +kernel
theorem dX4_init_94 : decode cX4_init 94 = .ok (.iastore, 1) := by decide +kernel
theorem dX4_init_95 : decode cX4_init 95 = .ok (.dup, 1) := by decide +kernel
theorem dX4_init_96 : decode cX4_init 96 = .ok (.iconst 1, 1) := by decide +kernel
theorem dX4_init_97 : decode cX4_init 97 = .ok (.bipush 112, 2) := by decide +kernel
theorem dX4_init_99 : decode cX4_init 99 = .ok (.iastore, 1) := by decide +kernel
theorem dX4_init_100 : decode cX4_init 100 = .ok (.dup, 1) := by decide +kernel
theorem dX4_init_101 : decode cX4_init 101 = .ok (.iconst 2, 1) := by decide +kernel
theorem dX4_init_102 : decode cX4_init 102 = .ok (.bipush 114, 2) := by decide +kernel
theorem dX4_init_104 : decode cX4_init 104 = .ok (.iastore, 1) := by decide +kernel
theorem dX4_init_105 : decode cX4_init 105 = .ok (.dup, 1) := by decide +kernel
theorem dX4_init_106 : decode cX4_init 106 = .ok (.iconst 3, 1) := by decide +kernel
theorem dX4_init_107 : decode cX4_init 107 = .ok (.bipush 105, 2) := by decide +kernel
theorem dX4_init_109 : decode cX4_init 109 = .ok (.iastore, 1) := by decide +kernel
theorem dX4_init_110 : decode cX4_init 110 = .ok (.dup, 1) := by decide +kernel
theorem dX4_init_111 : decode cX4_init 111 = .ok (.iconst 4, 1) := by decide +kernel
theorem dX4_init_112 : decode cX4_init 112 = .ok (.bipush 103, 2) := by decide +kernel
theorem dX4_init_114 : decode cX4_init 114 = .ok (.iastore, 1) := by decide +kernel
theorem dX4_init_115 : decode cX4_init 115 = .ok (.dup, 1) := by decide +kernel
theorem dX4_init_116 : decode cX4_init 116 = .ok (.iconst 5, 1) := by decide +kernel
theorem dX4_init_117 : decode cX4_init 117 = .ok (.bipush 104, 2) := by decide +kernel
theorem dX4_init_119 : decode cX4_init 119 = .ok (.iastore, 1) := by decide +kernel
theorem dX4_init_120 : decode cX4_init 120 = .ok (.dup, 1) := by decide +kernel
theorem dX4_init_121 : decode cX4_init 121 = .ok (.bipush 6, 2) := by decide +kernel
theorem dX4_init_123 : decode cX4_init 123 = .ok (.bipush 116, 2) := by decide +kernel
theorem dX4_init_125 : decode cX4_init 125 = .ok (.iastore, 1) := by decide +kernel
theorem dX4_init_126 : decode cX4_init 126 = .ok (.dup, 1) := by decide +kernel
theorem dX4_init_127 : decode cX4_init 127 = .ok (.bipush 7, 2) := by decide +kernel
theorem dX4_init_129 : decode cX4_init 129 = .ok (.bipush 115, 2) := by decide +kernel
theorem dX4_init_131 : decode cX4_init 131 = .ok (.iastore, 1) := by decide +kernel
theorem dX4_init_132 : decode cX4_init 132 = .ok (.dup, 1) := by decide +kernel
theorem dX4_init_133 : decode cX4_init 133 = .ok (.bipush 8, 2) := by decide +kernel
theorem dX4_init_135 : decode cX4_init 135 = .ok (.bipush 116, 2) := by decide +kernel
theorem dX4_init_137 : decode cX4_init 137 = .ok (.iastore, 1) := by decide +kernel
theorem dX4_init_138 : decode cX4_init 138 = .ok (.dup, 1) := by decide +kernel
theorem dX4_init_139 : decode cX4_init 139 = .ok (.bipush 9, 2) := by decide +kernel
theorem dX4_init_141 : decode cX4_init 141 = .ok (.bipush 111, 2) := by decide +kernel
theorem dX4_init_143 : decode cX4_init 143 = .ok (.iastore, 1) := by decide +kernel
theorem dX4_init_144 : decode cX4_init 144 = .ok (.dup, 1) := by decide +kernel
theorem dX4_init_145 : decode cX4_init 145 = .ok (.bipush 10, 2) := by decide +kernel
theorem dX4_init_147 : decode cX4_init 147 = .ok (.bipush 111, 2) := by decide +kernel
theorem dX4_init_149 : decode cX4_init 149 = .ok (.iastore, 1) := by decide +kernel
theorem dX4_init_150 : decode cX4_init 150 = .ok (.dup, 1) := by decide +kernel
theorem dX4_init_151 : decode cX4_init 151 = .ok (.bipush 11, 2) := by decide +kernel
theorem dX4_init_153 : decode cX4_init 153 = .ok (.bipush 112, 2) := by decide +kernel
theorem dX4_init_155 : decode cX4_init 155 = .ok (.iastore, 1) := by decide +kernel
theorem dX4_init_156 : decode cX4_init 156 = .ok (.dup, 1) := by decide +kernel
theorem dX4_init_157 : decode cX4_init 157 = .ok (.bipush 12, 2) := by decide +kernel
theorem dX4_init_159 : decode cX4_init 159 = .ok (.bipush 101, 2) := by decide +kernel
theorem dX4_init_161 : decode cX4_init 161 = .ok (.iastore, 1) := by decide +kernel
theorem dX4_init_162 : decode cX4_init 162 = .ok (.dup, 1) := by decide +kernel
theorem dX4_init_163 : decode cX4_init 163 = .ok (.bipush 13, 2) := by decide +kernel
theorem dX4_init_165 : decode cX4_init 165 = .ok (.bipush 100, 2) := by decide +kernel
theorem dX4_init_167 : decode cX4_init 167 = .ok (.iastore, 1) := by decide +kernel
theorem dX4_init_168 : decode cX4_init 168 = .ok (.dup, 1) := by decide +kernel
theorem dX4_init_169 : decode cX4_init 169 = .ok (.bipush 14, 2) := by decide +kernel
theorem dX4_init_171 : decode cX4_init 171 = .ok (.bipush 116, 2) := by decide +kernel
theorem dX4_init_173 : decode cX4_init 173 = .ok (.iastore, 1) := by decide +kernel
theorem dX4_init_174 : decode cX4_init 174 = .ok (.dup, 1) := by decide +kernel
theorem dX4_init_175 : decode cX4_init 175 = .ok (.bipush 15, 2) := by decide +kernel
theorem dX4_init_177 : decode cX4_init 177 = .ok (.bipush 105, 2) := by decide +kernel
theorem dX4_init_179 : decode cX4_init 179 = .ok (.iastore, 1) := by decide +kernel
theorem dX4_init_180 : decode cX4_init 180 = .ok (.dup, 1) := by decide +kernel
theorem dX4_init_181 : decode cX4_init 181 = .ok (.bipush 16, 2) := by decide +kernel
theorem dX4_init_183 : decode cX4_init 183 = .ok (.bipush 114, 2) := by decide +kernel
theorem dX4_init_185 : decode cX4_init 185 = .ok (.iastore, 1) := by decide +kernel
theorem dX4_init_186 : decode cX4_init 186 = .ok (.dup, 1) := by decide +kernel
theorem dX4_init_187 : decode cX4_init 187 = .ok (.bipush 17, 2) := by decide +kernel
theorem dX4_init_189 : decode cX4_init 189 = .ok (.bipush 101, 2) := by decide +kernel
theorem dX4_init_191 : decode cX4_init 191 = .ok (.iastore, 1) := by decide +kernel
theorem dX4_init_192 : decode cX4_init 192 = .ok (.dup, 1) := by decide +kernel
theorem dX4_init_193 : decode cX4_init 193 = .ok (.bipush 18, 2) := by decide +kernel
theorem dX4_init_195 : decode cX4_init 195 = .ok (.bipush 100, 2) := by decide +kernel
theorem dX4_init_197 : decode cX4_init 197 = .ok (.iastore, 1) := by decide +kernel
theorem dX4_init_198 : decode cX4_init 198 = .ok (.dup, 1) := by decide +kernel
theorem dX4_init_199 : decode cX4_init 199 = .ok (.bipush 19, 2) := by decide +kernel
theorem dX4_init_201 : decode cX4_init 201 = .ok (.bipush 108, 2) := by decide +kernel
theorem dX4_init_203 : decode cX4_init 203 = .ok (.iastore, 1) := by decide +kernel
theorem dX4_init_204 : decode cX4_init 204 = .ok (.dup, 1) := by decide +kernel
theorem dX4_init_205 : decode cX4_init 205 = .ok (.bipush 20, 2) := by decide +kernel
theorem dX4_init_207 : decode cX4_init 207 = .ok (.bipush 111, 2) := by decide +kernel
theorem dX4_init_209 : decode cX4_init 209 = .ok (.iastore, 1) := by decide +kernel
theorem dX4_init_210 : decode cX4_init 210 = .ok (.dup, 1) := by decide +kernel
theorem dX4_init_211 : decode cX4_init 211 = .ok (.bipush 21, 2) := by decide +kernel
theorem dX4_init_213 : decode cX4_init 213 = .ok (.bipush 118, 2) := by decide +kernel
theorem dX4_init_215 : decode cX4_init 215 = .ok (.iastore, 1) := by decide +kernel
theorem dX4_init_216 : decode cX4_init 216 = .ok (.dup, 1) := by decide +kernel
theorem dX4_init_217 : decode cX4_init 217 = .ok (.bipush 22, 2) := by decide +kernel
theorem dX4_init_219 : decode cX4_init 219 = .ok (.bipush 101, 2) := by decide +kernel
theorem dX4_init_221 : decode cX4_init 221 = .ok (.iastore, 1) := by decide +kernel
theorem dX4_init_222 : decode cX4_init 222 = .ok (.dup, 1) := by decide +kernel
theorem dX4_init_223 : decode cX4_init 223 = .ok (.bipush 23, 2) := by decide +kernel
theorem dX4_init_225 : decode cX4_init 225 = .ok (.bipush 114, 2) := by decide +kernel
theorem dX4_init_227 : decode cX4_init 227 = .ok (.iastore, 1) := by decide +kernel
theorem dX4_init_228 : decode cX4_init 228 = .ok (.dup, 1) := by decide +kernel
theorem dX4_init_229 : decode cX4_init 229 = .ok (.bipush 24, 2) := by decide +kernel
theorem dX4_init_231 : decode cX4_init 231 = .ok (.bipush 99, 2) := by decide +kernel
theorem dX4_init_233 : decode cX4_init 233 = .ok (.iastore, 1) := by decide +kernel
theorem dX4_init_234 : decode cX4_init 234 = .ok (.dup, 1) := by decide +kernel
theorem dX4_init_235 : decode cX4_init 235 = .ok (.bipush 25, 2) := by decide +kernel
theorem dX4_init_237 : decode cX4_init 237 = .ok (.bipush 108, 2) := by decide +kernel
theorem dX4_init_239 : decode cX4_init 239 = .ok (.iastore, 1) := by decide +kernel
theorem dX4_init_240 : decode cX4_init 240 = .ok (.dup, 1) := by decide +kernel
theorem dX4_init_241 : decode cX4_init 241 = .ok (.bipush 26, 2) := by decide +kernel
theorem dX4_init_243 : decode cX4_init 243 = .ok (.bipush 111, 2) := by decide +kernel
theorem dX4_init_245 : decode cX4_init 245 = .ok (.iastore, 1) := by decide +kernel
theorem dX4_init_246 : decode cX4_init 246 = .ok (.dup, 1) := by decide +kernel
theorem dX4_init_247 : decode cX4_init 247 = .ok (.bipush 27, 2) := by decide +kernel
theorem dX4_init_249 : decode cX4_init 249 = .ok (.bipush 117, 2) := by decide +kernel
theorem dX4_init_251 : decode cX4_init 251 = .ok (.iastore, 1) := by decide +kernel
theorem dX4_init_252 : decode cX4_init 252 = .ok (.dup, 1) := by decide +kernel
theorem dX4_init_253 : decode cX4_init 253 = .ok (.bipush 28, 2) := by decide +kernel
theorem dX4_init_255 : decode cX4_init 255 = .ok (.bipush 100, 2) := by decide +kernel
theorem dX4_init_257 : decode cX4_init 257 = .ok (.iastore, 1) := by decide +kernel
theorem dX4_init_258 : decode cX4_init 258 = .ok (.dup, 1) := by decide +kernel
theorem dX4_init_259 : decode cX4_init 259 = .ok (.bipush 29, 2) := by decide +kernel
theorem dX4_init_261 : decode cX4_init 261 = .ok (.bipush 100, 2) := by decide +kernel
theorem dX4_init_263 : decode cX4_init 263 = .ok (.iastore, 1) := by decide +kernel
theorem dX4_init_264 : decode cX4_init 264 = .ok (.dup, 1) := by decide +kernel
theorem dX4_init_265 : decode cX4_init 265 = .ok (.bipush 30, 2) := by decide +kernel
theorem dX4_init_267 : decode cX4_init 267 = .ok (.bipush 101, 2) := by decide +kernel
theorem dX4_init_269 : decode cX4_init 269 = .ok (.iastore, 1) := by decide +kernel
theorem dX4_init_270 : decode cX4_init 270 = .ok (.dup, 1) := by decide +kernel
theorem dX4_init_271 : decode cX4_init 271 = .ok (.bipush 31, 2) := by decide +kernel
theorem dX4_init_273 : decode cX4_init 273 = .ok (.bipush 101, 2) := by decide +kernel
theorem dX4_init_275 : decode cX4_init 275 = .ok (.iastore, 1) := by decide +kernel
theorem dX4_init_276 : decode cX4_init 276 = .ok (.dup, 1) := by decide +kernel
theorem dX4_init_277 : decode cX4_init 277 = .ok (.bipush 32, 2) := by decide +kernel
theorem dX4_init_279 : decode cX4_init 279 = .ok (.bipush 100, 2) := by decide +kernel
theorem dX4_init_281 : decode cX4_init 281 = .ok (.iastore, 1) := by decide +kernel
theorem dX4_init_282 : decode cX4_init 282 = .ok (.dup, 1) := by decide +kernel
theorem dX4_init_283 : decode cX4_init 283 = .ok (.bipush 33, 2) := by decide +kernel
theorem dX4_init_285 : decode cX4_init 285 = .ok (.bipush 114, 2) := by decide +kernel
theorem dX4_init_287 : decode cX4_init 287 = .ok (.iastore, 1) := by decide +kernel
theorem dX4_init_288 : decode cX4_init 288 = .ok (.dup, 1) := by decide +kernel
theorem dX4_init_289 : decode cX4_init 289 = .ok (.bipush 34, 2) := by decide +kernel
theorem dX4_init_291 : decode cX4_init 291 = .ok (.bipush 111, 2) := by decide +kernel
theorem dX4_init_293 : decode cX4_init 293 = .ok (.iastore, 1) := by decide +kernel
theorem dX4_init_294 : decode cX4_init 294 = .ok (.dup, 1) := by decide +kernel
theorem dX4_init_295 : decode cX4_init 295 = .ok (.bipush 35, 2) := by decide +kernel
theorem dX4_init_297 : decode cX4_init 297 = .ok (.bipush 116, 2) := by decide +kernel
theorem dX4_init_299 : decode cX4_init 299 = .ok (.iastore, 1) := by decide +kernel
theorem dX4_init_300 : decode cX4_init 300 = .ok (.dup, 1) := by decide +kernel
theorem dX4_init_301 : decode cX4_init 301 = .ok (.bipush 36, 2) := by decide +kernel
theorem dX4_init_303 : decode cX4_init 303 = .ok (.bipush 97, 2) := by decide +kernel
theorem dX4_init_305 : decode cX4_init 305 = .ok (.iastore, 1) := by decide +kernel
theorem dX4_init_306 : decode cX4_init 306 = .ok (.dup, 1) := by decide +kernel
theorem dX4_init_307 : decode cX4_init 307 = .ok (.bipush 37, 2) := by decide +kernel
theorem dX4_init_309 : decode cX4_init 309 = .ok (.bipush 112, 2) := by decide +kernel
theorem dX4_init_311 : decode cX4_init 311 = .ok (.iastore, 1) := by decide +kernel
theorem dX4_init_312 : decode cX4_init 312 = .ok (.dup, 1) := by decide +kernel
theorem dX4_init_313 : decode cX4_init 313 = .ok (.bipush 38, 2) := by decide +kernel
theorem dX4_init_315 : decode cX4_init 315 = .ok (.bipush 97, 2) := by decide +kernel
theorem dX4_init_317 : decode cX4_init 317 = .ok (.iastore, 1) := by decide +kernel
theorem dX4_init_318 : decode cX4_init 318 = .ok (.dup, 1) := by decide +kernel
theorem dX4_init_319 : decode cX4_init 319 = .ok (.bipush 39, 2) := by decide +kernel
theorem dX4_init_321 : decode cX4_init 321 = .ok (.bipush 105, 2) := by decide +kernel
theorem dX4_init_323 : decode cX4_init 323 = .ok (.iastore, 1) := by decide +kernel
theorem dX4_init_324 : decode cX4_init 324 = .ok (.dup, 1) := by decide +kernel
theorem dX4_init_325 : decode cX4_init 325 = .ok (.bipush 40, 2) := by decide +kernel
theorem dX4_init_327 : decode cX4_init 327 = .ok (.bipush 110, 2) := by decide +kernel
theorem dX4_init_329 : decode cX4_init 329 = .ok (.iastore, 1) := by decide +kernel
theorem dX4_init_330 : decode cX4_init 330 = .ok (.dup, 1) := by decide +kernel
theorem dX4_init_331 : decode cX4_init 331 = .ok (.bipush 41, 2) := by decide +kernel
theorem dX4_init_333 : decode cX4_init 333 = .ok (.bipush 116, 2) := by decide +kernel
theorem dX4_init_335 : decode cX4_init 335 = .ok (.iastore, 1) := by decide +kernel
theorem dX4_init_336 : decode cX4_init 336 = .ok (.putfield 22, 3) := by decide +kernel
theorem dX4_init_339 : decode cX4_init 339 = .ok (.aload_n 0, 1) := by decide +kernel
theorem dX4_init_340 : decode cX4_init 340 = .ok (.bipush 48, 2) := by decide +kernel
theorem dX4_init_342 : decode cX4_init 342 = .ok (.newarray .int, 2) := by decide +kernel
theorem dX4_init_344 : decode cX4_init 344 = .ok (.putfield 25, 3) := by decide +kernel
theorem dX4_init_347 : decode cX4_init 347 = .ok (.aload_n 0, 1) := by decide +kernel
theorem dX4_init_348 : decode cX4_init 348 = .ok (.bipush 12, 2) := by decide +kernel
theorem dX4_init_350 : decode cX4_init 350 = .ok (.newarray .int, 2) := by decide +kernel
theorem dX4_init_352 : decode cX4_init 352 = .ok (.putfield 28, 3) := by decide +kernel
theorem dX4_init_355 : decode cX4_init 355 = .ok (.aload_n 0, 1) := by decide +kernel
theorem dX4_init_356 : decode cX4_init 356 = .ok (.bipush 35, 2) := by decide +kernel
theorem dX4_init_358 : decode cX4_init 358 = .ok (.newarray .int, 2) := by decide +kernel
theorem dX4_init_360 : decode cX4_init 360 = .ok (.putfield 31, 3) := by decide +kernel
theorem dX4_init_363 : decode cX4_init 363 = .ok (.aload_n 0, 1) := by decide +kernel
theorem dX4_init_364 : decode cX4_init 364 = .ok (.iconst 2, 1) := by decide +kernel
theorem dX4_init_365 : decode cX4_init 365 = .ok (.newarray .boolean, 2) := by decide +kernel
theorem dX4_init_367 : decode cX4_init 367 = .ok (.putfield 34, 3) := by decide +kernel
theorem dX4_init_370 : decode cX4_init 370 = .ok (.aload_n 0, 1) := by decide +kernel
theorem dX4_init_371 : decode cX4_init 371 = .ok (.iconst 4, 1) := by decide +kernel
theorem dX4_init_372 : decode cX4_init 372 = .ok (.newarray .int, 2) := by decide +kernel
theorem dX4_init_374 : decode cX4_init 374 = .ok (.dup, 1) := by decide +kernel
theorem dX4_init_375 : decode cX4_init 375 = .ok (.iconst 0, 1) := by decide +kernel
theorem dX4_init_376 : decode cX4_init 376 = .ok (.bipush (-4), 2) := by decide +kernel
theorem dX4_init_378 : decode cX4_init 378 = .ok (.iastore, 1) := by decide +kernel
theorem dX4_init_379 : decode cX4_init 379 = .ok (.dup, 1) := by decide +kernel
theorem dX4_init_380 : decode cX4_init 380 = .ok (.iconst 1, 1) := by decide +kernel
theorem dX4_init_381 : decode cX4_init 381 = .ok (.bipush (-4), 2) := by decide +kernel
theorem dX4_init_383 : decode cX4_init 383 = .ok (.iastore, 1) := by decide +kernel
theorem dX4_init_384 : decode cX4_init 384 = .ok (.dup, 1) := by decide +kernel
theorem dX4_init_385 : decode cX4_init 385 = .ok (.iconst 2, 1) := by decide +kernel
theorem dX4_init_386 : decode cX4_init 386 = .ok (.bipush (-4), 2) := by decide +kernel
theorem dX4_init_388 : decode cX4_init 388 = .ok (.iastore, 1) := by decide +kernel
theorem dX4_init_389 : decode cX4_init 389 = .ok (.dup, 1) := by decide +kernel
theorem dX4_init_390 : decode cX4_init 390 = .ok (.iconst 3, 1) := by decide +kernel
theorem dX4_init_391 : decode cX4_init 391 = .ok (.bipush (-4), 2) := by decide +kernel
theorem dX4_init_393 : decode cX4_init 393 = .ok (.iastore, 1) := by decide +kernel
theorem dX4_init_394 : decode cX4_init 394 = .ok (.putfield 38, 3) := by decide +kernel
theorem dX4_init_397 : decode cX4_init 397 = .ok (.aload_n 0, 1) := by decide +kernel
theorem dX4_init_398 : decode cX4_init 398 = .ok (.iconst 4, 1) := by decide +kernel
theorem dX4_init_399 : decode cX4_init 399 = .ok (.newarray .int, 2) := by decide +kernel
theorem dX4_init_401 : decode cX4_init 401 = .ok (.putfield 41, 3) := by decide +kernel
theorem dX4_init_404 : decode cX4_init 404 = .ok (.aload_n 0, 1) := by decide +kernel
theorem dX4_init_405 : decode cX4_init 405 = .ok (.sipush 160, 3) := by decide +kernel
theorem dX4_init_408 : decode cX4_init 408 = .ok (.newarray .int, 2) := by decide +kernel
theorem dX4_init_410 : decode cX4_init 410 = .ok (.putfield 44, 3) := by decide +kernel
theorem dX4_init_413 : decode cX4_init 413 = .ok (.return_, 1) := by decide +kernel
theorem dX4_in_0 : decode cX4_in 0 = .ok (.lload_n 0, 1) := by decide +kernel
theorem dX4_in_1 : decode cX4_in 1 = .ok (.lload_n 2, 1) := by decide +kernel
theorem dX4_in_2 : decode cX4_in 2 = .ok (.lcmp, 1) := by decide +kernel
theorem dX4_in_3 : decode cX4_in 3 = .ok (.ifCond .lt 14, 3) := by decide +kernel
theorem dX4_in_6 : decode cX4_in 6 = .ok (.lload_n 0, 1) := by decide +kernel
theorem dX4_in_7 : decode cX4_in 7 = .ok (.lload 4, 2) := by decide +kernel
theorem dX4_in_9 : decode cX4_in 9 = .ok (.lcmp, 1) := by decide +kernel
theorem dX4_in_10 : decode cX4_in 10 = .ok (.ifCond .gt 7, 3) := by decide +kernel
theorem dX4_in_13 : decode cX4_in 13 = .ok (.iconst 1, 1) := by decide +kernel
theorem dX4_in_14 : decode cX4_in 14 = .ok (.goto 4, 3) := by decide +kernel
theorem dX4_in_17 : decode cX4_in 17 = .ok (.iconst 0, 1) := by decide +kernel
theorem dX4_in_18 : decode cX4_in 18 = .ok (.ireturn, 1) := by decide +kernel
theorem dX4_feed_0 : decode cX4_feed 0 = .ok (.iload_n 1, 1) := by decide +kernel
theorem dX4_feed_1 : decode cX4_feed 1 = .ok (.i2l, 1) := by decide +kernel
theorem dX4_feed_2 : decode cX4_feed 2 = .ok (.lconst 0, 1) := by decide +kernel
theorem dX4_feed_3 : decode cX4_feed 3 = .ok (.ldc2_w 47, 3) := by decide +kernel
theorem dX4_feed_6 : decode cX4_feed 6 = .ok (.invokestatic 49, 3) := by decide +kernel
theorem dX4_feed_9 : decode cX4_feed 9 = .ok (.ifCond .ne 5, 3) := by decide +kernel
theorem dX4_feed_12 : decode cX4_feed 12 = .ok (.iconst (-1), 1) := by decide +kernel
theorem dX4_feed_13 : decode cX4_feed 13 = .ok (.ireturn, 1) := by decide +kernel
theorem dX4_feed_14 : decode cX4_feed 14 = .ok (.aload_n 0, 1) := by decide +kernel
theorem dX4_feed_15 : decode cX4_feed 15 = .ok (.getfield 53, 3) := by decide +kernel
theorem dX4_feed_18 : decode cX4_feed 18 = .ok (.sipush 160, 3) := by decide +kernel
theorem dX4_feed_21 : decode cX4_feed 21 = .ok (.if_icmp .ne 6, 3) := by decide +kernel
theorem dX4_feed_24 : decode cX4_feed 24 = .ok (.bipush (-3), 2) := by decide +kernel
theorem dX4_feed_26 : decode cX4_feed 26 = .ok (.ireturn, 1) := by decide +kernel
theorem dX4_feed_27 : decode cX4_feed 27 = .ok (.aload_n 0, 1) := by decide +kernel
theorem dX4_feed_28 : decode cX4_feed 28 = .ok (.getfield 16, 3) := by decide +kernel
theorem dX4_feed_31 : decode cX4_feed 31 = .ok (.aload_n 0, 1) := by decide +kernel
theorem dX4_feed_32 : decode cX4_feed 32 = .ok (.getfield 53, 3) := by decide +kernel
theorem dX4_feed_35 : decode cX4_feed 35 = .ok (.iload_n 1, 1) := by decide +kernel
theorem dX4_feed_36 : decode cX4_feed 36 = .ok (.iastore, 1) := by decide +kernel
theorem dX4_feed_37 : decode cX4_feed 37 = .ok (.aload_n 0, 1) := by decide +kernel
theorem dX4_feed_38 : decode cX4_feed 38 = .ok (.dup, 1) := by decide +kernel
theorem dX4_feed_39 : decode cX4_feed 39 = .ok (.getfield 53, 3) := by decide +kernel
theorem dX4_feed_42 : decode cX4_feed 42 = .ok (.iconst 1, 1) := by decide +kernel
theorem dX4_feed_43 : decode cX4_feed 43 = .ok (.iadd, 1) := by decide +kernel
theorem dX4_feed_44 : decode cX4_feed 44 = .ok (.putfield 53, 3) := by decide +kernel
theorem dX4_feed_47 : decode cX4_feed 47 = .ok (.aload_n 0, 1) := by decide +kernel
theorem dX4_feed_48 : decode cX4_feed 48 = .ok (.getfield 53, 3) := by decide +kernel
theorem dX4_feed_51 : decode cX4_feed 51 = .ok (.ireturn, 1) := by decide +kernel
theorem dX4_end_0 : decode cX4_end 0 = .ok (.iload_n 1, 1) := by decide +kernel
theorem dX4_end_1 : decode cX4_end 1 = .ok (.i2l, 1) := by decide +kernel
theorem dX4_end_2 : decode cX4_end 2 = .ok (.lconst 0, 1) := by decide +kernel
theorem dX4_end_3 : decode cX4_end 3 = .ok (.aload_n 0, 1) := by decide +kernel
theorem dX4_end_4 : decode cX4_end 4 = .ok (.getfield 53, 3) := by decide +kernel
theorem dX4_end_7 : decode cX4_end 7 = .ok (.i2l, 1) := by decide +kernel
theorem dX4_end_8 : decode cX4_end 8 = .ok (.invokestatic 49, 3) := by decide +kernel
theorem dX4_end_11 : decode cX4_end 11 = .ok (.ifCond .ne 5, 3) := by decide +kernel
theorem dX4_end_14 : decode cX4_end 14 = .ok (.iconst (-1), 1) := by decide +kernel
theorem dX4_end_15 : decode cX4_end 15 = .ok (.ireturn, 1) := by decide +kernel
theorem dX4_end_16 : decode cX4_end 16 = .ok (.aload_n 0, 1) := by decide +kernel
theorem dX4_end_17 : decode cX4_end 17 = .ok (.getfield 53, 3) := by decide +kernel
theorem dX4_end_20 : decode cX4_end 20 = .ok (.istore_n 2, 1) := by decide +kernel
theorem dX4_end_21 : decode cX4_end 21 = .ok (.aload_n 0, 1) := by decide +kernel
theorem dX4_end_22 : decode cX4_end 22 = .ok (.iload_n 1, 1) := by decide +kernel
theorem dX4_end_23 : decode cX4_end 23 = .ok (.putfield 53, 3) := by decide +kernel
theorem dX4_end_26 : decode cX4_end 26 = .ok (.iload_n 2, 1) := by decide +kernel
theorem dX4_end_27 : decode cX4_end 27 = .ok (.ireturn, 1) := by decide +kernel
theorem dX4_byteAt_0 : decode cX4_byteAt 0 = .ok (.iload_n 1, 1) := by decide +kernel
theorem dX4_byteAt_1 : decode cX4_byteAt 1 = .ok (.aload_n 0, 1) := by decide +kernel
theorem dX4_byteAt_2 : decode cX4_byteAt 2 = .ok (.getfield 53, 3) := by decide +kernel
theorem dX4_byteAt_5 : decode cX4_byteAt 5 = .ok (.if_icmp .ge 12, 3) := by decide +kernel
theorem dX4_byteAt_8 : decode cX4_byteAt 8 = .ok (.aload_n 0, 1) := by decide +kernel
theorem dX4_byteAt_9 : decode cX4_byteAt 9 = .ok (.getfield 16, 3) := by decide +kernel
theorem dX4_byteAt_12 : decode cX4_byteAt 12 = .ok (.iload_n 1, 1) := by decide +kernel
theorem dX4_byteAt_13 : decode cX4_byteAt 13 = .ok (.iaload, 1) := by decide +kernel
theorem dX4_byteAt_14 : decode cX4_byteAt 14 = .ok (.goto 5, 3) := by decide +kernel
theorem dX4_byteAt_17 : decode cX4_byteAt 17 = .ok (.bipush (-4), 2) := by decide +kernel
theorem dX4_byteAt_19 : decode cX4_byteAt 19 = .ok (.ireturn, 1) := by decide +kernel
theorem dX4_fails_0 : decode cX4_fails 0 = .ok (.aload_n 0, 1) := by decide +kernel
theorem dX4_fails_1 : decode cX4_fails 1 = .ok (.getfield 57, 3) := by decide +kernel
theorem dX4_fails_4 : decode cX4_fails 4 = .ok (.ifCond .ne 16, 3) := by decide +kernel
theorem dX4_fails_7 : decode cX4_fails 7 = .ok (.aload_n 0, 1) := by decide +kernel
theorem dX4_fails_8 : decode cX4_fails 8 = .ok (.iload_n 1, 1) := by decide +kernel
theorem dX4_fails_9 : decode cX4_fails 9 = .ok (.putfield 57, 3) := by decide +kernel
theorem dX4_fails_12 : decode cX4_fails 12 = .ok (.aload_n 0, 1) := by decide +kernel
theorem dX4_fails_13 : decode cX4_fails 13 = .ok (.aload_n 0, 1) := by decide +kernel
theorem dX4_fails_14 : decode cX4_fails 14 = .ok (.getfield 60, 3) := by decide +kernel
theorem dX4_fails_17 : decode cX4_fails 17 = .ok (.putfield 63, 3) := by decide +kernel
theorem dX4_fails_20 : decode cX4_fails 20 = .ok (.return_, 1) := by decide +kernel
theorem dX4_nameHere_0 : decode cX4_nameHere 0 = .ok (.iconst 0, 1) := by decide +kernel
theorem dX4_nameHere_1 : decode cX4_nameHere 1 = .ok (.istore_n 1, 1) := by decide +kernel
theorem dX4_nameHere_2 : decode cX4_nameHere 2 = .ok (.iload_n 1, 1) := by decide +kernel
theorem dX4_nameHere_3 : decode cX4_nameHere 3 = .ok (.bipush 8, 2) := by decide +kernel
theorem dX4_nameHere_5 : decode cX4_nameHere 5 = .ok (.if_icmp .ge 113, 3) := by decide +kernel
theorem dX4_nameHere_8 : decode cX4_nameHere 8 = .ok (.aload_n 0, 1) := by decide +kernel
theorem dX4_nameHere_9 : decode cX4_nameHere 9 = .ok (.getfield 66, 3) := by decide +kernel
theorem dX4_nameHere_12 : decode cX4_nameHere 12 = .ok (.iconst 1, 1) := by decide +kernel
theorem dX4_nameHere_13 : decode cX4_nameHere 13 = .ok (.if_icmp .ne 105, 3) := by decide +kernel
theorem dX4_nameHere_16 : decode cX4_nameHere 16 = .ok (.aload_n 0, 1) := by decide +kernel
theorem dX4_nameHere_17 : decode cX4_nameHere 17 = .ok (.getfield 69, 3) := by decide +kernel
theorem dX4_nameHere_20 : decode cX4_nameHere 20 = .ok (.aload_n 0, 1) := by decide +kernel
theorem dX4_nameHere_21 : decode cX4_nameHere 21 = .ok (.getfield 60, 3) := by decide +kernel
theorem dX4_nameHere_24 : decode cX4_nameHere 24 = .ok (.isub, 1) := by decide +kernel
theorem dX4_nameHere_25 : decode cX4_nameHere 25 = .ok (.aload_n 0, 1) := by decide +kernel
theorem dX4_nameHere_26 : decode cX4_nameHere 26 = .ok (.getfield 19, 3) := by decide +kernel
theorem dX4_nameHere_29 : decode cX4_nameHere 29 = .ok (.iload_n 1, 1) := by decide +kernel
theorem dX4_nameHere_30 : decode cX4_nameHere 30 = .ok (.iconst 1, 1) := by decide +kernel
theorem dX4_nameHere_31 : decode cX4_nameHere 31 = .ok (.iadd, 1) := by decide +kernel
theorem dX4_nameHere_32 : decode cX4_nameHere 32 = .ok (.iaload, 1) := by decide +kernel
theorem dX4_nameHere_33 : decode cX4_nameHere 33 = .ok (.aload_n 0, 1) := by decide +kernel
theorem dX4_nameHere_34 : decode cX4_nameHere 34 = .ok (.getfield 19, 3) := by decide +kernel
theorem dX4_nameHere_37 : decode cX4_nameHere 37 = .ok (.iload_n 1, 1) := by decide +kernel
theorem dX4_nameHere_38 : decode cX4_nameHere 38 = .ok (.iaload, 1) := by decide +kernel
theorem dX4_nameHere_39 : decode cX4_nameHere 39 = .ok (.isub, 1) := by decide +kernel
theorem dX4_nameHere_40 : decode cX4_nameHere 40 = .ok (.if_icmp .ne 7, 3) := by decide +kernel
theorem dX4_nameHere_43 : decode cX4_nameHere 43 = .ok (.iconst 1, 1) := by decide +kernel
theorem dX4_nameHere_44 : decode cX4_nameHere 44 = .ok (.goto 4, 3) := by decide +kernel
theorem dX4_nameHere_47 : decode cX4_nameHere 47 = .ok (.iconst 0, 1) := by decide +kernel
theorem dX4_nameHere_48 : decode cX4_nameHere 48 = .ok (.istore_n 2, 1) := by decide +kernel
theorem dX4_nameHere_49 : decode cX4_nameHere 49 = .ok (.iconst 0, 1) := by decide +kernel
theorem dX4_nameHere_50 : decode cX4_nameHere 50 = .ok (.istore_n 3, 1) := by decide +kernel
theorem dX4_nameHere_51 : decode cX4_nameHere 51 = .ok (.iload_n 2, 1) := by decide +kernel
theorem dX4_nameHere_52 : decode cX4_nameHere 52 = .ok (.ifCond .eq 54, 3) := by decide +kernel
theorem dX4_nameHere_55 : decode cX4_nameHere 55 = .ok (.iload_n 3, 1) := by decide +kernel
theorem dX4_nameHere_56 : decode cX4_nameHere 56 = .ok (.aload_n 0, 1) := by decide +kernel
theorem dX4_nameHere_57 : decode cX4_nameHere 57 = .ok (.getfield 69, 3) := by decide +kernel
theorem dX4_nameHere_60 : decode cX4_nameHere 60 = .ok (.aload_n 0, 1) := by decide +kernel
theorem dX4_nameHere_61 : decode cX4_nameHere 61 = .ok (.getfield 60, 3) := by decide +kernel
theorem dX4_nameHere_64 : decode cX4_nameHere 64 = .ok (.isub, 1) := by decide +kernel
theorem dX4_nameHere_65 : decode cX4_nameHere 65 = .ok (.if_icmp .ge 41, 3) := by decide +kernel
theorem dX4_nameHere_68 : decode cX4_nameHere 68 = .ok (.aload_n 0, 1) := by decide +kernel
theorem dX4_nameHere_69 : decode cX4_nameHere 69 = .ok (.aload_n 0, 1) := by decide +kernel
theorem dX4_nameHere_70 : decode cX4_nameHere 70 = .ok (.getfield 60, 3) := by decide +kernel
theorem dX4_nameHere_73 : decode cX4_nameHere 73 = .ok (.iload_n 3, 1) := by decide +kernel
theorem dX4_nameHere_74 : decode cX4_nameHere 74 = .ok (.iadd, 1) := by decide +kernel
theorem dX4_nameHere_75 : decode cX4_nameHere 75 = .ok (.invokevirtual 72, 3) := by decide +kernel
theorem dX4_nameHere_78 : decode cX4_nameHere 78 = .ok (.aload_n 0, 1) := by decide +kernel
theorem dX4_nameHere_79 : decode cX4_nameHere 79 = .ok (.getfield 22, 3) := by decide +kernel
theorem dX4_nameHere_82 : decode cX4_nameHere 82 = .ok (.aload_n 0, 1) := by decide +kernel
theorem dX4_nameHere_83 : decode cX4_nameHere 83 = .ok (.getfield 19, 3) := by decide +kernel
theorem dX4_nameHere_86 : decode cX4_nameHere 86 = .ok (.iload_n 1, 1) := by decide +kernel
theorem dX4_nameHere_87 : decode cX4_nameHere 87 = .ok (.iaload, 1) := by decide +kernel
theorem dX4_nameHere_88 : decode cX4_nameHere 88 = .ok (.iload_n 3, 1) := by decide +kernel
theorem dX4_nameHere_89 : decode cX4_nameHere 89 = .ok (.iadd, 1) := by decide +kernel
theorem dX4_nameHere_90 : decode cX4_nameHere 90 = .ok (.iaload, 1) := by decide +kernel
theorem dX4_nameHere_91 : decode cX4_nameHere 91 = .ok (.if_icmp .ne 7, 3) := by decide +kernel
theorem dX4_nameHere_94 : decode cX4_nameHere 94 = .ok (.iconst 1, 1) := by decide +kernel
theorem dX4_nameHere_95 : decode cX4_nameHere 95 = .ok (.goto 4, 3) := by decide +kernel
theorem dX4_nameHere_98 : decode cX4_nameHere 98 = .ok (.iconst 0, 1) := by decide +kernel
theorem dX4_nameHere_99 : decode cX4_nameHere 99 = .ok (.istore_n 2, 1) := by decide +kernel
theorem dX4_nameHere_100 : decode cX4_nameHere 100 = .ok (.iinc 3 1, 3) := by decide +kernel
theorem dX4_nameHere_103 : decode cX4_nameHere 103 = .ok (.goto (-52), 3) := by decide +kernel
theorem dX4_nameHere_106 : decode cX4_nameHere 106 = .ok (.iload_n 2, 1) := by decide +kernel
theorem dX4_nameHere_107 : decode cX4_nameHere 107 = .ok (.ifCond .eq 5, 3) := by decide +kernel
theorem dX4_nameHere_110 : decode cX4_nameHere 110 = .ok (.iload_n 1, 1) := by decide +kernel
theorem dX4_nameHere_111 : decode cX4_nameHere 111 = .ok (.ireturn, 1) := by decide +kernel
theorem dX4_nameHere_112 : decode cX4_nameHere 112 = .ok (.iinc 1 1, 3) := by decide +kernel
theorem dX4_nameHere_115 : decode cX4_nameHere 115 = .ok (.goto (-113), 3) := by decide +kernel
theorem dX4_nameHere_118 : decode cX4_nameHere 118 = .ok (.bipush (-4), 2) := by decide +kernel
theorem dX4_nameHere_120 : decode cX4_nameHere 120 = .ok (.ireturn, 1) := by decide +kernel
theorem dX4_step_0 : decode cX4_step 0 = .ok (.aload_n 0, 1) := by decide +kernel
theorem dX4_step_1 : decode cX4_step 1 = .ok (.getfield 57, 3) := by decide +kernel
theorem dX4_step_4 : decode cX4_step 4 = .ok (.ifCond .le 4, 3) := by decide +kernel
theorem dX4_step_7 : decode cX4_step 7 = .ok (.return_, 1) := by decide +kernel
theorem dX4_step_8 : decode cX4_step 8 = .ok (.aload_n 0, 1) := by decide +kernel
theorem dX4_step_9 : decode cX4_step 9 = .ok (.aload_n 0, 1) := by decide +kernel
theorem dX4_step_10 : decode cX4_step 10 = .ok (.getfield 69, 3) := by decide +kernel
theorem dX4_step_13 : decode cX4_step 13 = .ok (.invokevirtual 72, 3) := by decide +kernel
theorem dX4_step_16 : decode cX4_step 16 = .ok (.bipush 32, 2) := by decide +kernel
theorem dX4_step_18 : decode cX4_step 18 = .ok (.if_icmp .ne 16, 3) := by decide +kernel
theorem dX4_step_21 : decode cX4_step 21 = .ok (.aload_n 0, 1) := by decide +kernel
theorem dX4_step_22 : decode cX4_step 22 = .ok (.dup, 1) := by decide +kernel
theorem dX4_step_23 : decode cX4_step 23 = .ok (.getfield 69, 3) := by decide +kernel
theorem dX4_step_26 : decode cX4_step 26 = .ok (.iconst 1, 1) := by decide +kernel
theorem dX4_step_27 : decode cX4_step 27 = .ok (.iadd, 1) := by decide +kernel
theorem dX4_step_28 : decode cX4_step 28 = .ok (.putfield 69, 3) := by decide +kernel
theorem dX4_step_31 : decode cX4_step 31 = .ok (.goto (-23), 3) := by decide +kernel
theorem dX4_step_34 : decode cX4_step 34 = .ok (.aload_n 0, 1) := by decide +kernel
theorem dX4_step_35 : decode cX4_step 35 = .ok (.aload_n 0, 1) := by decide +kernel
theorem dX4_step_36 : decode cX4_step 36 = .ok (.getfield 69, 3) := by decide +kernel
theorem dX4_step_39 : decode cX4_step 39 = .ok (.putfield 60, 3) := by decide +kernel
theorem dX4_step_42 : decode cX4_step 42 = .ok (.aload_n 0, 1) := by decide +kernel
theorem dX4_step_43 : decode cX4_step 43 = .ok (.aload_n 0, 1) := by decide +kernel
theorem dX4_step_44 : decode cX4_step 44 = .ok (.getfield 69, 3) := by decide +kernel
theorem dX4_step_47 : decode cX4_step 47 = .ok (.invokevirtual 72, 3) := by decide +kernel
theorem dX4_step_50 : decode cX4_step 50 = .ok (.istore_n 1, 1) := by decide +kernel
theorem dX4_step_51 : decode cX4_step 51 = .ok (.aload_n 0, 1) := by decide +kernel
theorem dX4_step_52 : decode cX4_step 52 = .ok (.iconst 0, 1) := by decide +kernel
theorem dX4_step_53 : decode cX4_step 53 = .ok (.putfield 76, 3) := by decide +kernel
theorem dX4_step_56 : decode cX4_step 56 = .ok (.iload_n 1, 1) := by decide +kernel
theorem dX4_step_57 : decode cX4_step 57 = .ok (.bipush (-4), 2) := by decide +kernel
theorem dX4_step_59 : decode cX4_step 59 = .ok (.if_icmp .ne 11, 3) := by decide +kernel
theorem dX4_step_62 : decode cX4_step 62 = .ok (.aload_n 0, 1) := by decide +kernel
theorem dX4_step_63 : decode cX4_step 63 = .ok (.iconst 0, 1) := by decide +kernel
theorem dX4_step_64 : decode cX4_step 64 = .ok (.putfield 66, 3) := by decide +kernel
theorem dX4_step_67 : decode cX4_step 67 = .ok (.goto 202, 3) := by decide +kernel
theorem dX4_step_70 : decode cX4_step 70 = .ok (.iload_n 1, 1) := by decide +kernel
theorem dX4_step_71 : decode cX4_step 71 = .ok (.i2l, 1) := by decide +kernel
theorem dX4_step_72 : decode cX4_step 72 = .ok (.ldc2_w 79, 3) := by decide +kernel
theorem dX4_step_75 : decode cX4_step 75 = .ok (.ldc2_w 81, 3) := by decide +kernel
theorem dX4_step_78 : decode cX4_step 78 = .ok (.invokestatic 49, 3) := by decide +kernel
theorem dX4_step_81 : decode cX4_step 81 = .ok (.ifCond .eq 45, 3) := by decide +kernel
theorem dX4_step_84 : decode cX4_step 84 = .ok (.aload_n 0, 1) := by decide +kernel
theorem dX4_step_85 : decode cX4_step 85 = .ok (.aload_n 0, 1) := by decide +kernel
theorem dX4_step_86 : decode cX4_step 86 = .ok (.getfield 69, 3) := by decide +kernel
theorem dX4_step_89 : decode cX4_step 89 = .ok (.invokevirtual 72, 3) := by decide +kernel
theorem dX4_step_92 : decode cX4_step 92 = .ok (.i2l, 1) := by decide +kernel
theorem dX4_step_93 : decode cX4_step 93 = .ok (.ldc2_w 79, 3) := by decide +kernel
theorem dX4_step_96 : decode cX4_step 96 = .ok (.ldc2_w 81, 3) := by decide +kernel
theorem dX4_step_99 : decode cX4_step 99 = .ok (.invokestatic 49, 3) := by decide +kernel
theorem dX4_step_102 : decode cX4_step 102 = .ok (.ifCond .eq 16, 3) := by decide +kernel
theorem dX4_step_105 : decode cX4_step 105 = .ok (.aload_n 0, 1) := by decide +kernel
theorem dX4_step_106 : decode cX4_step 106 = .ok (.dup, 1) := by decide +kernel
theorem dX4_step_107 : decode cX4_step 107 = .ok (.getfield 69, 3) := by decide +kernel
theorem dX4_step_110 : decode cX4_step 110 = .ok (.iconst 1, 1) := by decide +kernel
theorem dX4_step_111 : decode cX4_step 111 = .ok (.iadd, 1) := by decide +kernel
theorem dX4_step_112 : decode cX4_step 112 = .ok (.putfield 69, 3) := by decide +kernel
theorem dX4_step_115 : decode cX4_step 115 = .ok (.goto (-31), 3) := by decide +kernel
theorem dX4_step_118 : decode cX4_step 118 = .ok (.aload_n 0, 1) := by decide +kernel
theorem dX4_step_119 : decode cX4_step 119 = .ok (.iconst 1, 1) := by decide +kernel
theorem dX4_step_120 : decode cX4_step 120 = .ok (.putfield 66, 3) := by decide +kernel
theorem dX4_step_123 : decode cX4_step 123 = .ok (.goto 146, 3) := by decide +kernel
theorem dX4_step_126 : decode cX4_step 126 = .ok (.iload_n 1, 1) := by decide +kernel
theorem dX4_step_127 : decode cX4_step 127 = .ok (.i2l, 1) := by decide +kernel
theorem dX4_step_128 : decode cX4_step 128 = .ok (.ldc2_w 83, 3) := by decide +kernel
theorem dX4_step_131 : decode cX4_step 131 = .ok (.ldc2_w 85, 3) := by decide +kernel
theorem dX4_step_134 : decode cX4_step 134 = .ok (.invokestatic 49, 3) := by decide +kernel
theorem dX4_step_137 : decode cX4_step 137 = .ok (.ifCond .eq 106, 3) := by decide +kernel
theorem dX4_step_140 : decode cX4_step 140 = .ok (.aload_n 0, 1) := by decide +kernel
theorem dX4_step_141 : decode cX4_step 141 = .ok (.aload_n 0, 1) := by decide +kernel
theorem dX4_step_142 : decode cX4_step 142 = .ok (.getfield 69, 3) := by decide +kernel
theorem dX4_step_145 : decode cX4_step 145 = .ok (.invokevirtual 72, 3) := by decide +kernel
theorem dX4_step_148 : decode cX4_step 148 = .ok (.i2l, 1) := by decide +kernel
theorem dX4_step_149 : decode cX4_step 149 = .ok (.ldc2_w 83, 3) := by decide +kernel
theorem dX4_step_152 : decode cX4_step 152 = .ok (.ldc2_w 85, 3) := by decide +kernel
theorem dX4_step_155 : decode cX4_step 155 = .ok (.invokestatic 49, 3) := by decide +kernel
theorem dX4_step_158 : decode cX4_step 158 = .ok (.ifCond .eq 59, 3) := by decide +kernel
theorem dX4_step_161 : decode cX4_step 161 = .ok (.aload_n 0, 1) := by decide +kernel
theorem dX4_step_162 : decode cX4_step 162 = .ok (.aload_n 0, 1) := by decide +kernel
theorem dX4_step_163 : decode cX4_step 163 = .ok (.getfield 69, 3) := by decide +kernel
theorem dX4_step_166 : decode cX4_step 166 = .ok (.aload_n 0, 1) := by decide +kernel
theorem dX4_step_167 : decode cX4_step 167 = .ok (.getfield 60, 3) := by decide +kernel
theorem dX4_step_170 : decode cX4_step 170 = .ok (.isub, 1) := by decide +kernel
theorem dX4_step_171 : decode cX4_step 171 = .ok (.iconst 2, 1) := by decide +kernel
theorem dX4_step_172 : decode cX4_step 172 = .ok (.if_icmp .ge 25, 3) := by decide +kernel
theorem dX4_step_175 : decode cX4_step 175 = .ok (.bipush 10, 2) := by decide +kernel
theorem dX4_step_177 : decode cX4_step 177 = .ok (.aload_n 0, 1) := by decide +kernel
theorem dX4_step_178 : decode cX4_step 178 = .ok (.getfield 76, 3) := by decide +kernel
theorem dX4_step_181 : decode cX4_step 181 = .ok (.imul, 1) := by decide +kernel
theorem dX4_step_182 : decode cX4_step 182 = .ok (.aload_n 0, 1) := by decide +kernel
theorem dX4_step_183 : decode cX4_step 183 = .ok (.aload_n 0, 1) := by decide +kernel
theorem dX4_step_184 : decode cX4_step 184 = .ok (.getfield 69, 3) := by decide +kernel
theorem dX4_step_187 : decode cX4_step 187 = .ok (.invokevirtual 72, 3) := by decide +kernel
theorem dX4_step_190 : decode cX4_step 190 = .ok (.iadd, 1) := by decide +kernel
theorem dX4_step_191 : decode cX4_step 191 = .ok (.bipush 48, 2) := by decide +kernel
theorem dX4_step_193 : decode cX4_step 193 = .ok (.isub, 1) := by decide +kernel
theorem dX4_step_194 : decode cX4_step 194 = .ok (.goto 7, 3) := by decide +kernel
theorem dX4_step_197 : decode cX4_step 197 = .ok (.aload_n 0, 1) := by decide +kernel
theorem dX4_step_198 : decode cX4_step 198 = .ok (.getfield 76, 3) := by decide +kernel
theorem dX4_step_201 : decode cX4_step 201 = .ok (.putfield 76, 3) := by decide +kernel
theorem dX4_step_204 : decode cX4_step 204 = .ok (.aload_n 0, 1) := by decide +kernel
theorem dX4_step_205 : decode cX4_step 205 = .ok (.dup, 1) := by decide +kernel
theorem dX4_step_206 : decode cX4_step 206 = .ok (.getfield 69, 3) := by decide +kernel
theorem dX4_step_209 : decode cX4_step 209 = .ok (.iconst 1, 1) := by decide +kernel
theorem dX4_step_210 : decode cX4_step 210 = .ok (.iadd, 1) := by decide +kernel
theorem dX4_step_211 : decode cX4_step 211 = .ok (.putfield 69, 3) := by decide +kernel
theorem dX4_step_214 : decode cX4_step 214 = .ok (.goto (-74), 3) := by decide +kernel
theorem dX4_step_217 : decode cX4_step 217 = .ok (.aload_n 0, 1) := by decide +kernel
theorem dX4_step_218 : decode cX4_step 218 = .ok (.iconst 2, 1) := by decide +kernel
theorem dX4_step_219 : decode cX4_step 219 = .ok (.putfield 66, 3) := by decide +kernel
theorem dX4_step_222 : decode cX4_step 222 = .ok (.aload_n 0, 1) := by decide +kernel
theorem dX4_step_223 : decode cX4_step 223 = .ok (.getfield 69, 3) := by decide +kernel
theorem dX4_step_226 : decode cX4_step 226 = .ok (.aload_n 0, 1) := by decide +kernel
theorem dX4_step_227 : decode cX4_step 227 = .ok (.getfield 60, 3) := by decide +kernel
theorem dX4_step_230 : decode cX4_step 230 = .ok (.isub, 1) := by decide +kernel
theorem dX4_step_231 : decode cX4_step 231 = .ok (.iconst 2, 1) := by decide +kernel
theorem dX4_step_232 : decode cX4_step 232 = .ok (.if_icmp .le 37, 3) := by decide +kernel
theorem dX4_step_235 : decode cX4_step 235 = .ok (.aload_n 0, 1) := by decide +kernel
theorem dX4_step_236 : decode cX4_step 236 = .ok (.iconst 1, 1) := by decide +kernel
theorem dX4_step_237 : decode cX4_step 237 = .ok (.invokevirtual 87, 3) := by decide +kernel
theorem dX4_step_240 : decode cX4_step 240 = .ok (.goto 29, 3) := by decide +kernel
theorem dX4_step_243 : decode cX4_step 243 = .ok (.aload_n 0, 1) := by decide +kernel
theorem dX4_step_244 : decode cX4_step 244 = .ok (.iconst 3, 1) := by decide +kernel
theorem dX4_step_245 : decode cX4_step 245 = .ok (.putfield 66, 3) := by decide +kernel
theorem dX4_step_248 : decode cX4_step 248 = .ok (.aload_n 0, 1) := by decide +kernel
theorem dX4_step_249 : decode cX4_step 249 = .ok (.dup, 1) := by decide +kernel
theorem dX4_step_250 : decode cX4_step 250 = .ok (.getfield 69, 3) := by decide +kernel
theorem dX4_step_253 : decode cX4_step 253 = .ok (.iconst 1, 1) := by decide +kernel
theorem dX4_step_254 : decode cX4_step 254 = .ok (.iadd, 1) := by decide +kernel
theorem dX4_step_255 : decode cX4_step 255 = .ok (.putfield 69, 3) := by decide +kernel
theorem dX4_step_258 : decode cX4_step 258 = .ok (.iload_n 1, 1) := by decide +kernel
theorem dX4_step_259 : decode cX4_step 259 = .ok (.bipush 59, 2) := by decide +kernel
theorem dX4_step_261 : decode cX4_step 261 = .ok (.if_icmp .eq 8, 3) := by decide +kernel
theorem dX4_step_264 : decode cX4_step 264 = .ok (.aload_n 0, 1) := by decide +kernel
theorem dX4_step_265 : decode cX4_step 265 = .ok (.iconst 1, 1) := by decide +kernel
theorem dX4_step_266 : decode cX4_step 266 = .ok (.invokevirtual 87, 3) := by decide +kernel
theorem dX4_step_269 : decode cX4_step 269 = .ok (.return_, 1) := by decide +kernel
theorem dX4_other_0 : decode cX4_other 0 = .ok (.aload_n 0, 1) := by decide +kernel
theorem dX4_other_1 : decode cX4_other 1 = .ok (.getfield 57, 3) := by decide +kernel
theorem dX4_other_4 : decode cX4_other 4 = .ok (.ifCond .ne 16, 3) := by decide +kernel
theorem dX4_other_7 : decode cX4_other 7 = .ok (.aload_n 0, 1) := by decide +kernel
theorem dX4_other_8 : decode cX4_other 8 = .ok (.getfield 66, 3) := by decide +kernel
theorem dX4_other_11 : decode cX4_other 11 = .ok (.iconst 2, 1) := by decide +kernel
theorem dX4_other_12 : decode cX4_other 12 = .ok (.if_icmp .eq 8, 3) := by decide +kernel
theorem dX4_other_15 : decode cX4_other 15 = .ok (.aload_n 0, 1) := by decide +kernel
theorem dX4_other_16 : decode cX4_other 16 = .ok (.iconst 2, 1) := by decide +kernel
theorem dX4_other_17 : decode cX4_other 17 = .ok (.invokevirtual 87, 3) := by decide +kernel
theorem dX4_other_20 : decode cX4_other 20 = .ok (.aload_n 0, 1) := by decide +kernel
theorem dX4_other_21 : decode cX4_other 21 = .ok (.getfield 57, 3) := by decide +kernel
theorem dX4_other_24 : decode cX4_other 24 = .ok (.ifCond .ne 23, 3) := by decide +kernel
theorem dX4_other_27 : decode cX4_other 27 = .ok (.aload_n 0, 1) := by decide +kernel
theorem dX4_other_28 : decode cX4_other 28 = .ok (.getfield 76, 3) := by decide +kernel
theorem dX4_other_31 : decode cX4_other 31 = .ok (.i2l, 1) := by decide +kernel
theorem dX4_other_32 : decode cX4_other 32 = .ok (.iload_n 1, 1) := by decide +kernel
theorem dX4_other_33 : decode cX4_other 33 = .ok (.i2l, 1) := by decide +kernel
theorem dX4_other_34 : decode cX4_other 34 = .ok (.iload_n 2, 1) := by decide +kernel
theorem dX4_other_35 : decode cX4_other 35 = .ok (.i2l, 1) := by decide +kernel
theorem dX4_other_36 : decode cX4_other 36 = .ok (.invokestatic 49, 3) := by decide +kernel
theorem dX4_other_39 : decode cX4_other 39 = .ok (.ifCond .ne 8, 3) := by decide +kernel
theorem dX4_other_42 : decode cX4_other 42 = .ok (.aload_n 0, 1) := by decide +kernel
theorem dX4_other_43 : decode cX4_other 43 = .ok (.iconst 3, 1) := by decide +kernel
theorem dX4_other_44 : decode cX4_other 44 = .ok (.invokevirtual 87, 3) := by decide +kernel
theorem dX4_other_47 : decode cX4_other 47 = .ok (.aload_n 0, 1) := by decide +kernel
theorem dX4_other_48 : decode cX4_other 48 = .ok (.getfield 57, 3) := by decide +kernel
theorem dX4_other_51 : decode cX4_other 51 = .ok (.ifCond .ne 24, 3) := by decide +kernel
theorem dX4_other_54 : decode cX4_other 54 = .ok (.iload_n 3, 1) := by decide +kernel
theorem dX4_other_55 : decode cX4_other 55 = .ok (.ifCond .eq 20, 3) := by decide +kernel
theorem dX4_other_58 : decode cX4_other 58 = .ok (.iload_n 3, 1) := by decide +kernel
theorem dX4_other_59 : decode cX4_other 59 = .ok (.aload_n 0, 1) := by decide +kernel
theorem dX4_other_60 : decode cX4_other 60 = .ok (.getfield 76, 3) := by decide +kernel
theorem dX4_other_63 : decode cX4_other 63 = .ok (.ishr, 1) := by decide +kernel
theorem dX4_other_64 : decode cX4_other 64 = .ok (.iconst 1, 1) := by decide +kernel
theorem dX4_other_65 : decode cX4_other 65 = .ok (.iand, 1) := by decide +kernel
theorem dX4_other_66 : decode cX4_other 66 = .ok (.iconst 1, 1) := by decide +kernel
theorem dX4_other_67 : decode cX4_other 67 = .ok (.if_icmp .ne 8, 3) := by decide +kernel
theorem dX4_other_70 : decode cX4_other 70 = .ok (.aload_n 0, 1) := by decide +kernel
theorem dX4_other_71 : decode cX4_other 71 = .ok (.iconst 4, 1) := by decide +kernel
theorem dX4_other_72 : decode cX4_other 72 = .ok (.invokevirtual 87, 3) := by decide +kernel
theorem dX4_other_75 : decode cX4_other 75 = .ok (.aload_n 0, 1) := by decide +kernel
theorem dX4_other_76 : decode cX4_other 76 = .ok (.getfield 57, 3) := by decide +kernel
theorem dX4_other_79 : decode cX4_other 79 = .ok (.ifCond .ne 10, 3) := by decide +kernel
theorem dX4_other_82 : decode cX4_other 82 = .ok (.aload_n 0, 1) := by decide +kernel
theorem dX4_other_83 : decode cX4_other 83 = .ok (.getfield 76, 3) := by decide +kernel
theorem dX4_other_86 : decode cX4_other 86 = .ok (.goto 4, 3) := by decide +kernel
theorem dX4_other_89 : decode cX4_other 89 = .ok (.iload_n 1, 1) := by decide +kernel
theorem dX4_other_90 : decode cX4_other 90 = .ok (.istore 4, 2) := by decide +kernel
theorem dX4_other_92 : decode cX4_other 92 = .ok (.aload_n 0, 1) := by decide +kernel
theorem dX4_other_93 : decode cX4_other 93 = .ok (.invokevirtual 91, 3) := by decide +kernel
theorem dX4_other_96 : decode cX4_other 96 = .ok (.iload 4, 2) := by decide +kernel
theorem dX4_other_98 : decode cX4_other 98 = .ok (.ireturn, 1) := by decide +kernel
theorem dX4_readRota_0 : decode cX4_readRota 0 = .ok (.aload_n 0, 1) := by decide +kernel
theorem dX4_readRota_1 : decode cX4_readRota 1 = .ok (.getfield 57, 3) := by decide +kernel
theorem dX4_readRota_4 : decode cX4_readRota 4 = .ok (.ifCond .ne 98, 3) := by decide +kernel
theorem dX4_readRota_7 : decode cX4_readRota 7 = .ok (.aload_n 0, 1) := by decide +kernel
theorem dX4_readRota_8 : decode cX4_readRota 8 = .ok (.getfield 66, 3) := by decide +kernel
theorem dX4_readRota_11 : decode cX4_readRota 11 = .ok (.iconst 2, 1) := by decide +kernel
theorem dX4_readRota_12 : decode cX4_readRota 12 = .ok (.if_icmp .ne 90, 3) := by decide +kernel
theorem dX4_readRota_15 : decode cX4_readRota 15 = .ok (.aload_n 0, 1) := by decide +kernel
theorem dX4_readRota_16 : decode cX4_readRota 16 = .ok (.getfield 94, 3) := by decide +kernel
theorem dX4_readRota_19 : decode cX4_readRota 19 = .ok (.bipush 12, 2) := by decide +kernel
theorem dX4_readRota_21 : decode cX4_readRota 21 = .ok (.if_icmp .ne 11, 3) := by decide +kernel
theorem dX4_readRota_24 : decode cX4_readRota 24 = .ok (.aload_n 0, 1) := by decide +kernel
theorem dX4_readRota_25 : decode cX4_readRota 25 = .ok (.iconst 5, 1) := by decide +kernel
theorem dX4_readRota_26 : decode cX4_readRota 26 = .ok (.invokevirtual 87, 3) := by decide +kernel
theorem dX4_readRota_29 : decode cX4_readRota 29 = .ok (.goto (-29), 3) := by decide +kernel
theorem dX4_readRota_32 : decode cX4_readRota 32 = .ok (.aload_n 0, 1) := by decide +kernel
theorem dX4_readRota_33 : decode cX4_readRota 33 = .ok (.iconst 0, 1) := by decide +kernel
theorem dX4_readRota_34 : decode cX4_readRota 34 = .ok (.iconst 4, 1) := by decide +kernel
theorem dX4_readRota_35 : decode cX4_readRota 35 = .ok (.iconst 0, 1) := by decide +kernel
theorem dX4_readRota_36 : decode cX4_readRota 36 = .ok (.invokevirtual 97, 3) := by decide +kernel
theorem dX4_readRota_39 : decode cX4_readRota 39 = .ok (.istore_n 1, 1) := by decide +kernel
theorem dX4_readRota_40 : decode cX4_readRota 40 = .ok (.aload_n 0, 1) := by decide +kernel
theorem dX4_readRota_41 : decode cX4_readRota 41 = .ok (.iload_n 1, 1) := by decide +kernel
theorem dX4_readRota_42 : decode cX4_readRota 42 = .ok (.iconst 4, 1) := by decide +kernel
theorem dX4_readRota_43 : decode cX4_readRota 43 = .ok (.if_icmp .ge 15, 3) := by decide +kernel
theorem dX4_readRota_46 : decode cX4_readRota 46 = .ok (.iload_n 1, 1) := by decide +kernel
theorem dX4_readRota_47 : decode cX4_readRota 47 = .ok (.aload_n 0, 1) := by decide +kernel
theorem dX4_readRota_48 : decode cX4_readRota 48 = .ok (.getfield 101, 3) := by decide +kernel
theorem dX4_readRota_51 : decode cX4_readRota 51 = .ok (.if_icmp .le 7, 3) := by decide +kernel
theorem dX4_readRota_54 : decode cX4_readRota 54 = .ok (.iload_n 1, 1) := by decide +kernel
theorem dX4_readRota_55 : decode cX4_readRota 55 = .ok (.goto 7, 3) := by decide +kernel
theorem dX4_readRota_58 : decode cX4_readRota 58 = .ok (.aload_n 0, 1) := by decide +kernel
theorem dX4_readRota_59 : decode cX4_readRota 59 = .ok (.getfield 101, 3) := by decide +kernel
theorem dX4_readRota_62 : decode cX4_readRota 62 = .ok (.putfield 101, 3) := by decide +kernel
theorem dX4_readRota_65 : decode cX4_readRota 65 = .ok (.aload_n 0, 1) := by decide +kernel
theorem dX4_readRota_66 : decode cX4_readRota 66 = .ok (.getfield 13, 3) := by decide +kernel
theorem dX4_readRota_69 : decode cX4_readRota 69 = .ok (.bipush 8, 2) := by decide +kernel
theorem dX4_readRota_71 : decode cX4_readRota 71 = .ok (.aload_n 0, 1) := by decide +kernel
theorem dX4_readRota_72 : decode cX4_readRota 72 = .ok (.getfield 94, 3) := by decide +kernel
theorem dX4_readRota_75 : decode cX4_readRota 75 = .ok (.iadd, 1) := by decide +kernel
theorem dX4_readRota_76 : decode cX4_readRota 76 = .ok (.iload_n 1, 1) := by decide +kernel
theorem dX4_readRota_77 : decode cX4_readRota 77 = .ok (.iconst 4, 1) := by decide +kernel
theorem dX4_readRota_78 : decode cX4_readRota 78 = .ok (.if_icmp .ge 9, 3) := by decide +kernel
theorem dX4_readRota_81 : decode cX4_readRota 81 = .ok (.iload_n 1, 1) := by decide +kernel
theorem dX4_readRota_82 : decode cX4_readRota 82 = .ok (.iconst 1, 1) := by decide +kernel
theorem dX4_readRota_83 : decode cX4_readRota 83 = .ok (.iadd, 1) := by decide +kernel
theorem dX4_readRota_84 : decode cX4_readRota 84 = .ok (.goto 4, 3) := by decide +kernel
theorem dX4_readRota_87 : decode cX4_readRota 87 = .ok (.iconst 0, 1) := by decide +kernel
theorem dX4_readRota_88 : decode cX4_readRota 88 = .ok (.iastore, 1) := by decide +kernel
theorem dX4_readRota_89 : decode cX4_readRota 89 = .ok (.aload_n 0, 1) := by decide +kernel
theorem dX4_readRota_90 : decode cX4_readRota 90 = .ok (.dup, 1) := by decide +kernel
theorem dX4_readRota_91 : decode cX4_readRota 91 = .ok (.getfield 94, 3) := by decide +kernel
theorem dX4_readRota_94 : decode cX4_readRota 94 = .ok (.iconst 1, 1) := by decide +kernel
theorem dX4_readRota_95 : decode cX4_readRota 95 = .ok (.iadd, 1) := by decide +kernel
theorem dX4_readRota_96 : decode cX4_readRota 96 = .ok (.putfield 94, 3) := by decide +kernel
theorem dX4_readRota_99 : decode cX4_readRota 99 = .ok (.goto (-99), 3) := by decide +kernel
theorem dX4_readRota_102 : decode cX4_readRota 102 = .ok (.return_, 1) := by decide +kernel
theorem dX4_readMore_0 : decode cX4_readMore 0 = .ok (.iload_n 1, 1) := by decide +kernel
theorem dX4_readMore_1 : decode cX4_readMore 1 = .ok (.iconst 3, 1) := by decide +kernel
theorem dX4_readMore_2 : decode cX4_readMore 2 = .ok (.if_icmp .gt 45, 3) := by decide +kernel
theorem dX4_readMore_5 : decode cX4_readMore 5 = .ok (.aload_n 0, 1) := by decide +kernel
theorem dX4_readMore_6 : decode cX4_readMore 6 = .ok (.getfield 13, 3) := by decide +kernel
theorem dX4_readMore_9 : decode cX4_readMore 9 = .ok (.aload_n 0, 1) := by decide +kernel
theorem dX4_readMore_10 : decode cX4_readMore 10 = .ok (.getfield 104, 3) := by decide +kernel
theorem dX4_readMore_13 : decode cX4_readMore 13 = .ok (.iload_n 1, 1) := by decide +kernel
theorem dX4_readMore_14 : decode cX4_readMore 14 = .ok (.iastore, 1) := by decide +kernel
theorem dX4_readMore_15 : decode cX4_readMore 15 = .ok (.aload_n 0, 1) := by decide +kernel
theorem dX4_readMore_16 : decode cX4_readMore 16 = .ok (.getfield 13, 3) := by decide +kernel
theorem dX4_readMore_19 : decode cX4_readMore 19 = .ok (.iconst 4, 1) := by decide +kernel
theorem dX4_readMore_20 : decode cX4_readMore 20 = .ok (.aload_n 0, 1) := by decide +kernel
theorem dX4_readMore_21 : decode cX4_readMore 21 = .ok (.getfield 104, 3) := by decide +kernel
theorem dX4_readMore_24 : decode cX4_readMore 24 = .ok (.iadd, 1) := by decide +kernel
theorem dX4_readMore_25 : decode cX4_readMore 25 = .ok (.aload_n 0, 1) := by decide +kernel
theorem dX4_readMore_26 : decode cX4_readMore 26 = .ok (.iconst 0, 1) := by decide +kernel
theorem dX4_readMore_27 : decode cX4_readMore 27 = .ok (.bipush 6, 2) := by decide +kernel
theorem dX4_readMore_29 : decode cX4_readMore 29 = .ok (.iconst 0, 1) := by decide +kernel
theorem dX4_readMore_30 : decode cX4_readMore 30 = .ok (.invokevirtual 97, 3) := by decide +kernel
theorem dX4_readMore_33 : decode cX4_readMore 33 = .ok (.iastore, 1) := by decide +kernel
theorem dX4_readMore_34 : decode cX4_readMore 34 = .ok (.aload_n 0, 1) := by decide +kernel
theorem dX4_readMore_35 : decode cX4_readMore 35 = .ok (.dup, 1) := by decide +kernel
theorem dX4_readMore_36 : decode cX4_readMore 36 = .ok (.getfield 104, 3) := by decide +kernel
theorem dX4_readMore_39 : decode cX4_readMore 39 = .ok (.iconst 1, 1) := by decide +kernel
theorem dX4_readMore_40 : decode cX4_readMore 40 = .ok (.iadd, 1) := by decide +kernel
theorem dX4_readMore_41 : decode cX4_readMore 41 = .ok (.putfield 104, 3) := by decide +kernel
theorem dX4_readMore_44 : decode cX4_readMore 44 = .ok (.goto 132, 3) := by decide +kernel
theorem dX4_readMore_47 : decode cX4_readMore 47 = .ok (.iload_n 1, 1) := by decide +kernel
theorem dX4_readMore_48 : decode cX4_readMore 48 = .ok (.iconst 4, 1) := by decide +kernel
theorem dX4_readMore_49 : decode cX4_readMore 49 = .ok (.if_icmp .ne 32, 3) := by decide +kernel
theorem dX4_readMore_52 : decode cX4_readMore 52 = .ok (.aload_n 0, 1) := by decide +kernel
theorem dX4_readMore_53 : decode cX4_readMore 53 = .ok (.getfield 13, 3) := by decide +kernel
theorem dX4_readMore_56 : decode cX4_readMore 56 = .ok (.bipush 20, 2) := by decide +kernel
theorem dX4_readMore_58 : decode cX4_readMore 58 = .ok (.dup2, 1) := by decide +kernel
theorem dX4_readMore_59 : decode cX4_readMore 59 = .ok (.iaload, 1) := by decide +kernel
theorem dX4_readMore_60 : decode cX4_readMore 60 = .ok (.iconst 1, 1) := by decide +kernel
theorem dX4_readMore_61 : decode cX4_readMore 61 = .ok (.aload_n 0, 1) := by decide +kernel
theorem dX4_readMore_62 : decode cX4_readMore 62 = .ok (.iconst 0, 1) := by decide +kernel
theorem dX4_readMore_63 : decode cX4_readMore 63 = .ok (.bipush 11, 2) := by decide +kernel
theorem dX4_readMore_65 : decode cX4_readMore 65 = .ok (.aload_n 0, 1) := by decide +kernel
theorem dX4_readMore_66 : decode cX4_readMore 66 = .ok (.getfield 13, 3) := by decide +kernel
theorem dX4_readMore_69 : decode cX4_readMore 69 = .ok (.bipush 20, 2) := by decide +kernel
theorem dX4_readMore_71 : decode cX4_readMore 71 = .ok (.iaload, 1) := by decide +kernel
theorem dX4_readMore_72 : decode cX4_readMore 72 = .ok (.invokevirtual 97, 3) := by decide +kernel
theorem dX4_readMore_75 : decode cX4_readMore 75 = .ok (.ishl, 1) := by decide +kernel
theorem dX4_readMore_76 : decode cX4_readMore 76 = .ok (.ior, 1) := by decide +kernel
theorem dX4_readMore_77 : decode cX4_readMore 77 = .ok (.iastore, 1) := by decide +kernel
theorem dX4_readMore_78 : decode cX4_readMore 78 = .ok (.goto 98, 3) := by decide +kernel
theorem dX4_readMore_81 : decode cX4_readMore 81 = .ok (.iload_n 1, 1) := by decide +kernel
theorem dX4_readMore_82 : decode cX4_readMore 82 = .ok (.iconst 5, 1) := by decide +kernel
theorem dX4_readMore_83 : decode cX4_readMore 83 = .ok (.if_icmp .ne 63, 3) := by decide +kernel
theorem dX4_readMore_86 : decode cX4_readMore 86 = .ok (.aload_n 0, 1) := by decide +kernel
theorem dX4_readMore_87 : decode cX4_readMore 87 = .ok (.getfield 13, 3) := by decide +kernel
theorem dX4_readMore_90 : decode cX4_readMore 90 = .ok (.bipush 22, 2) := by decide +kernel
theorem dX4_readMore_92 : decode cX4_readMore 92 = .ok (.aload_n 0, 1) := by decide +kernel
theorem dX4_readMore_93 : decode cX4_readMore 93 = .ok (.getfield 13, 3) := by decide +kernel
theorem dX4_readMore_96 : decode cX4_readMore 96 = .ok (.bipush 32, 2) := by decide +kernel
theorem dX4_readMore_98 : decode cX4_readMore 98 = .ok (.iaload, 1) := by decide +kernel
theorem dX4_readMore_99 : decode cX4_readMore 99 = .ok (.iadd, 1) := by decide +kernel
theorem dX4_readMore_100 : decode cX4_readMore 100 = .ok (.aload_n 0, 1) := by decide +kernel
theorem dX4_readMore_101 : decode cX4_readMore 101 = .ok (.iconst 0, 1) := by decide +kernel
theorem dX4_readMore_102 : decode cX4_readMore 102 = .ok (.bipush 47, 2) := by decide +kernel
theorem dX4_readMore_104 : decode cX4_readMore 104 = .ok (.iconst 0, 1) := by decide +kernel
theorem dX4_readMore_105 : decode cX4_readMore 105 = .ok (.invokevirtual 97, 3) := by decide +kernel
theorem dX4_readMore_108 : decode cX4_readMore 108 = .ok (.iastore, 1) := by decide +kernel
theorem dX4_readMore_109 : decode cX4_readMore 109 = .ok (.aload_n 0, 1) := by decide +kernel
theorem dX4_readMore_110 : decode cX4_readMore 110 = .ok (.getfield 13, 3) := by decide +kernel
theorem dX4_readMore_113 : decode cX4_readMore 113 = .ok (.bipush 27, 2) := by decide +kernel
theorem dX4_readMore_115 : decode cX4_readMore 115 = .ok (.aload_n 0, 1) := by decide +kernel
theorem dX4_readMore_116 : decode cX4_readMore 116 = .ok (.getfield 13, 3) := by decide +kernel
theorem dX4_readMore_119 : decode cX4_readMore 119 = .ok (.bipush 32, 2) := by decide +kernel
theorem dX4_readMore_121 : decode cX4_readMore 121 = .ok (.iaload, 1) := by decide +kernel
theorem dX4_readMore_122 : decode cX4_readMore 122 = .ok (.iadd, 1) := by decide +kernel
theorem dX4_readMore_123 : decode cX4_readMore 123 = .ok (.aload_n 0, 1) := by decide +kernel
theorem dX4_readMore_124 : decode cX4_readMore 124 = .ok (.iconst 1, 1) := by decide +kernel
theorem dX4_readMore_125 : decode cX4_readMore 125 = .ok (.bipush 9, 2) := by decide +kernel
theorem dX4_readMore_127 : decode cX4_readMore 127 = .ok (.iconst 0, 1) := by decide +kernel
theorem dX4_readMore_128 : decode cX4_readMore 128 = .ok (.invokevirtual 97, 3) := by decide +kernel
theorem dX4_readMore_131 : decode cX4_readMore 131 = .ok (.iastore, 1) := by decide +kernel
theorem dX4_readMore_132 : decode cX4_readMore 132 = .ok (.aload_n 0, 1) := by decide +kernel
theorem dX4_readMore_133 : decode cX4_readMore 133 = .ok (.getfield 13, 3) := by decide +kernel
theorem dX4_readMore_136 : decode cX4_readMore 136 = .ok (.bipush 32, 2) := by decide +kernel
theorem dX4_readMore_138 : decode cX4_readMore 138 = .ok (.dup2, 1) := by decide +kernel
theorem dX4_readMore_139 : decode cX4_readMore 139 = .ok (.iaload, 1) := by decide +kernel
theorem dX4_readMore_140 : decode cX4_readMore 140 = .ok (.iconst 1, 1) := by decide +kernel
theorem dX4_readMore_141 : decode cX4_readMore 141 = .ok (.iadd, 1) := by decide +kernel
theorem dX4_readMore_142 : decode cX4_readMore 142 = .ok (.iastore, 1) := by decide +kernel
theorem dX4_readMore_143 : decode cX4_readMore 143 = .ok (.goto 33, 3) := by decide +kernel
theorem dX4_readMore_146 : decode cX4_readMore 146 = .ok (.iload_n 1, 1) := by decide +kernel
theorem dX4_readMore_147 : decode cX4_readMore 147 = .ok (.bipush 6, 2) := by decide +kernel
theorem dX4_readMore_149 : decode cX4_readMore 149 = .ok (.if_icmp .ne 10, 3) := by decide +kernel
theorem dX4_readMore_152 : decode cX4_readMore 152 = .ok (.aload_n 0, 1) := by decide +kernel
theorem dX4_readMore_153 : decode cX4_readMore 153 = .ok (.invokevirtual 107, 3) := by decide +kernel
theorem dX4_readMore_156 : decode cX4_readMore 156 = .ok (.goto 20, 3) := by decide +kernel
theorem dX4_readMore_159 : decode cX4_readMore 159 = .ok (.aload_n 0, 1) := by decide +kernel
theorem dX4_readMore_160 : decode cX4_readMore 160 = .ok (.getfield 13, 3) := by decide +kernel
theorem dX4_readMore_163 : decode cX4_readMore 163 = .ok (.bipush 21, 2) := by decide +kernel
theorem dX4_readMore_165 : decode cX4_readMore 165 = .ok (.aload_n 0, 1) := by decide +kernel
theorem dX4_readMore_166 : decode cX4_readMore 166 = .ok (.iconst 0, 1) := by decide +kernel
theorem dX4_readMore_167 : decode cX4_readMore 167 = .ok (.bipush 6, 2) := by decide +kernel
theorem dX4_readMore_169 : decode cX4_readMore 169 = .ok (.iconst 0, 1) := by decide +kernel
theorem dX4_readMore_170 : decode cX4_readMore 170 = .ok (.invokevirtual 97, 3) := by decide +kernel
theorem dX4_readMore_173 : decode cX4_readMore 173 = .ok (.iconst 3, 1) := by decide +kernel
theorem dX4_readMore_174 : decode cX4_readMore 174 = .ok (.isub, 1) := by decide +kernel
theorem dX4_readMore_175 : decode cX4_readMore 175 = .ok (.iastore, 1) := by decide +kernel
theorem dX4_readMore_176 : decode cX4_readMore 176 = .ok (.return_, 1) := by decide +kernel
theorem dX4_readLine_0 : decode cX4_readLine 0 = .ok (.aload_n 0, 1) := by decide +kernel
theorem dX4_readLine_1 : decode cX4_readLine 1 = .ok (.invokevirtual 110, 3) := by decide +kernel
theorem dX4_readLine_4 : decode cX4_readLine 4 = .ok (.istore_n 1, 1) := by decide +kernel
theorem dX4_readLine_5 : decode cX4_readLine 5 = .ok (.iload_n 1, 1) := by decide +kernel
theorem dX4_readLine_6 : decode cX4_readLine 6 = .ok (.i2l, 1) := by decide +kernel
theorem dX4_readLine_7 : decode cX4_readLine 7 = .ok (.lconst 0, 1) := by decide +kernel
theorem dX4_readLine_8 : decode cX4_readLine 8 = .ok (.ldc2_w 114, 3) := by decide +kernel
theorem dX4_readLine_11 : decode cX4_readLine 11 = .ok (.invokestatic 49, 3) := by decide +kernel
theorem dX4_readLine_14 : decode cX4_readLine 14 = .ok (.ifCond .ne 9, 3) := by decide +kernel
theorem dX4_readLine_17 : decode cX4_readLine 17 = .ok (.aload_n 0, 1) := by decide +kernel
theorem dX4_readLine_18 : decode cX4_readLine 18 = .ok (.iconst 2, 1) := by decide +kernel
theorem dX4_readLine_19 : decode cX4_readLine 19 = .ok (.invokevirtual 87, 3) := by decide +kernel
theorem dX4_readLine_22 : decode cX4_readLine 22 = .ok (.return_, 1) := by decide +kernel
theorem dX4_readLine_23 : decode cX4_readLine 23 = .ok (.iload_n 1, 1) := by decide +kernel
theorem dX4_readLine_24 : decode cX4_readLine 24 = .ok (.iconst 3, 1) := by decide +kernel
theorem dX4_readLine_25 : decode cX4_readLine 25 = .ok (.if_icmp .gt 11, 3) := by decide +kernel
theorem dX4_readLine_28 : decode cX4_readLine 28 = .ok (.aload_n 0, 1) := by decide +kernel
theorem dX4_readLine_29 : decode cX4_readLine 29 = .ok (.getfield 104, 3) := by decide +kernel
theorem dX4_readLine_32 : decode cX4_readLine 32 = .ok (.iconst 4, 1) := by decide +kernel
theorem dX4_readLine_33 : decode cX4_readLine 33 = .ok (.if_icmp .eq 19, 3) := by decide +kernel
theorem dX4_readLine_36 : decode cX4_readLine 36 = .ok (.iload_n 1, 1) := by decide +kernel
theorem dX4_readLine_37 : decode cX4_readLine 37 = .ok (.iconst 5, 1) := by decide +kernel
theorem dX4_readLine_38 : decode cX4_readLine 38 = .ok (.if_icmp .ne 19, 3) := by decide +kernel
theorem dX4_readLine_41 : decode cX4_readLine 41 = .ok (.aload_n 0, 1) := by decide +kernel
theorem dX4_readLine_42 : decode cX4_readLine 42 = .ok (.getfield 13, 3) := by decide +kernel
theorem dX4_readLine_45 : decode cX4_readLine 45 = .ok (.bipush 32, 2) := by decide +kernel
theorem dX4_readLine_47 : decode cX4_readLine 47 = .ok (.iaload, 1) := by decide +kernel
theorem dX4_readLine_48 : decode cX4_readLine 48 = .ok (.iconst 5, 1) := by decide +kernel
theorem dX4_readLine_49 : decode cX4_readLine 49 = .ok (.if_icmp .ne 8, 3) := by decide +kernel
theorem dX4_readLine_52 : decode cX4_readLine 52 = .ok (.aload_n 0, 1) := by decide +kernel
theorem dX4_readLine_53 : decode cX4_readLine 53 = .ok (.iconst 5, 1) := by decide +kernel
theorem dX4_readLine_54 : decode cX4_readLine 54 = .ok (.invokevirtual 87, 3) := by decide +kernel
theorem dX4_readLine_57 : decode cX4_readLine 57 = .ok (.iload_n 1, 1) := by decide +kernel
theorem dX4_readLine_58 : decode cX4_readLine 58 = .ok (.bipush 6, 2) := by decide +kernel
theorem dX4_readLine_60 : decode cX4_readLine 60 = .ok (.if_icmp .lt 20, 3) := by decide +kernel
theorem dX4_readLine_63 : decode cX4_readLine 63 = .ok (.aload_n 0, 1) := by decide +kernel
theorem dX4_readLine_64 : decode cX4_readLine 64 = .ok (.getfield 116, 3) := by decide +kernel
theorem dX4_readLine_67 : decode cX4_readLine 67 = .ok (.iload_n 1, 1) := by decide +kernel
theorem dX4_readLine_68 : decode cX4_readLine 68 = .ok (.ishr, 1) := by decide +kernel
theorem dX4_readLine_69 : decode cX4_readLine 69 = .ok (.iconst 1, 1) := by decide +kernel
theorem dX4_readLine_70 : decode cX4_readLine 70 = .ok (.iand, 1) := by decide +kernel
theorem dX4_readLine_71 : decode cX4_readLine 71 = .ok (.iconst 1, 1) := by decide +kernel
theorem dX4_readLine_72 : decode cX4_readLine 72 = .ok (.if_icmp .ne 8, 3) := by decide +kernel
theorem dX4_readLine_75 : decode cX4_readLine 75 = .ok (.aload_n 0, 1) := by decide +kernel
theorem dX4_readLine_76 : decode cX4_readLine 76 = .ok (.iconst 4, 1) := by decide +kernel
theorem dX4_readLine_77 : decode cX4_readLine 77 = .ok (.invokevirtual 87, 3) := by decide +kernel
theorem dX4_readLine_80 : decode cX4_readLine 80 = .ok (.aload_n 0, 1) := by decide +kernel
theorem dX4_readLine_81 : decode cX4_readLine 81 = .ok (.dup, 1) := by decide +kernel
theorem dX4_readLine_82 : decode cX4_readLine 82 = .ok (.getfield 116, 3) := by decide +kernel
theorem dX4_readLine_85 : decode cX4_readLine 85 = .ok (.iconst 1, 1) := by decide +kernel
theorem dX4_readLine_86 : decode cX4_readLine 86 = .ok (.iload_n 1, 1) := by decide +kernel
theorem dX4_readLine_87 : decode cX4_readLine 87 = .ok (.ishl, 1) := by decide +kernel
theorem dX4_readLine_88 : decode cX4_readLine 88 = .ok (.ior, 1) := by decide +kernel
theorem dX4_readLine_89 : decode cX4_readLine 89 = .ok (.putfield 116, 3) := by decide +kernel
theorem dX4_readLine_92 : decode cX4_readLine 92 = .ok (.aload_n 0, 1) := by decide +kernel
theorem dX4_readLine_93 : decode cX4_readLine 93 = .ok (.invokevirtual 91, 3) := by decide +kernel
theorem dX4_readLine_96 : decode cX4_readLine 96 = .ok (.aload_n 0, 1) := by decide +kernel
theorem dX4_readLine_97 : decode cX4_readLine 97 = .ok (.getfield 57, 3) := by decide +kernel
theorem dX4_readLine_100 : decode cX4_readLine 100 = .ok (.ifCond .le 4, 3) := by decide +kernel
theorem dX4_readLine_103 : decode cX4_readLine 103 = .ok (.return_, 1) := by decide +kernel
theorem dX4_readLine_104 : decode cX4_readLine 104 = .ok (.aload_n 0, 1) := by decide +kernel
theorem dX4_readLine_105 : decode cX4_readLine 105 = .ok (.iload_n 1, 1) := by decide +kernel
theorem dX4_readLine_106 : decode cX4_readLine 106 = .ok (.invokevirtual 119, 3) := by decide +kernel
theorem dX4_readLine_109 : decode cX4_readLine 109 = .ok (.aload_n 0, 1) := by decide +kernel
theorem dX4_readLine_110 : decode cX4_readLine 110 = .ok (.getfield 57, 3) := by decide +kernel
theorem dX4_readLine_113 : decode cX4_readLine 113 = .ok (.ifCond .ne 16, 3) := by decide +kernel
theorem dX4_readLine_116 : decode cX4_readLine 116 = .ok (.aload_n 0, 1) := by decide +kernel
theorem dX4_readLine_117 : decode cX4_readLine 117 = .ok (.getfield 66, 3) := by decide +kernel
theorem dX4_readLine_120 : decode cX4_readLine 120 = .ok (.iconst 3, 1) := by decide +kernel
theorem dX4_readLine_121 : decode cX4_readLine 121 = .ok (.if_icmp .eq 8, 3) := by decide +kernel
theorem dX4_readLine_124 : decode cX4_readLine 124 = .ok (.aload_n 0, 1) := by decide +kernel
theorem dX4_readLine_125 : decode cX4_readLine 125 = .ok (.iconst 2, 1) := by decide +kernel
theorem dX4_readLine_126 : decode cX4_readLine 126 = .ok (.invokevirtual 87, 3) := by decide +kernel
theorem dX4_readLine_129 : decode cX4_readLine 129 = .ok (.aload_n 0, 1) := by decide +kernel
theorem dX4_readLine_130 : decode cX4_readLine 130 = .ok (.invokevirtual 91, 3) := by decide +kernel
theorem dX4_readLine_133 : decode cX4_readLine 133 = .ok (.return_, 1) := by decide +kernel
theorem dX4_text_0 : decode cX4_text 0 = .ok (.aload_n 0, 1) := by decide +kernel
theorem dX4_text_1 : decode cX4_text 1 = .ok (.iconst 0, 1) := by decide +kernel
theorem dX4_text_2 : decode cX4_text 2 = .ok (.putfield 57, 3) := by decide +kernel
theorem dX4_text_5 : decode cX4_text 5 = .ok (.aload_n 0, 1) := by decide +kernel
theorem dX4_text_6 : decode cX4_text 6 = .ok (.iconst 0, 1) := by decide +kernel
theorem dX4_text_7 : decode cX4_text 7 = .ok (.putfield 69, 3) := by decide +kernel
theorem dX4_text_10 : decode cX4_text 10 = .ok (.aload_n 0, 1) := by decide +kernel
theorem dX4_text_11 : decode cX4_text 11 = .ok (.iconst 0, 1) := by decide +kernel
theorem dX4_text_12 : decode cX4_text 12 = .ok (.putfield 104, 3) := by decide +kernel
theorem dX4_text_15 : decode cX4_text 15 = .ok (.aload_n 0, 1) := by decide +kernel
theorem dX4_text_16 : decode cX4_text 16 = .ok (.iconst 0, 1) := by decide +kernel
theorem dX4_text_17 : decode cX4_text 17 = .ok (.putfield 94, 3) := by decide +kernel
theorem dX4_text_20 : decode cX4_text 20 = .ok (.aload_n 0, 1) := by decide +kernel
theorem dX4_text_21 : decode cX4_text 21 = .ok (.iconst 0, 1) := by decide +kernel
theorem dX4_text_22 : decode cX4_text 22 = .ok (.putfield 116, 3) := by decide +kernel
theorem dX4_text_25 : decode cX4_text 25 = .ok (.aload_n 0, 1) := by decide +kernel
theorem dX4_text_26 : decode cX4_text 26 = .ok (.iconst (-1), 1) := by decide +kernel
theorem dX4_text_27 : decode cX4_text 27 = .ok (.putfield 101, 3) := by decide +kernel
theorem dX4_text_30 : decode cX4_text 30 = .ok (.iconst 0, 1) := by decide +kernel
theorem dX4_text_31 : decode cX4_text 31 = .ok (.istore_n 1, 1) := by decide +kernel
theorem dX4_text_32 : decode cX4_text 32 = .ok (.iconst 0, 1) := by decide +kernel
theorem dX4_text_33 : decode cX4_text 33 = .ok (.istore_n 2, 1) := by decide +kernel
theorem dX4_text_34 : decode cX4_text 34 = .ok (.iload_n 2, 1) := by decide +kernel
theorem dX4_text_35 : decode cX4_text 35 = .ok (.bipush 33, 2) := by decide +kernel
theorem dX4_text_37 : decode cX4_text 37 = .ok (.if_icmp .ge 16, 3) := by decide +kernel
theorem dX4_text_40 : decode cX4_text 40 = .ok (.aload_n 0, 1) := by decide +kernel
theorem dX4_text_41 : decode cX4_text 41 = .ok (.getfield 13, 3) := by decide +kernel
theorem dX4_text_44 : decode cX4_text 44 = .ok (.iload_n 2, 1) := by decide +kernel
theorem dX4_text_45 : decode cX4_text 45 = .ok (.iconst 0, 1) := by decide +kernel
theorem dX4_text_46 : decode cX4_text 46 = .ok (.iastore, 1) := by decide +kernel
theorem dX4_text_47 : decode cX4_text 47 = .ok (.iinc 2 1, 3) := by decide +kernel
theorem dX4_text_50 : decode cX4_text 50 = .ok (.goto (-16), 3) := by decide +kernel
theorem dX4_text_53 : decode cX4_text 53 = .ok (.aload_n 0, 1) := by decide +kernel
theorem dX4_text_54 : decode cX4_text 54 = .ok (.invokevirtual 91, 3) := by decide +kernel
theorem dX4_text_57 : decode cX4_text 57 = .ok (.aload_n 0, 1) := by decide +kernel
theorem dX4_text_58 : decode cX4_text 58 = .ok (.getfield 57, 3) := by decide +kernel
theorem dX4_text_61 : decode cX4_text 61 = .ok (.ifCond .ne 20, 3) := by decide +kernel
theorem dX4_text_64 : decode cX4_text 64 = .ok (.aload_n 0, 1) := by decide +kernel
theorem dX4_text_65 : decode cX4_text 65 = .ok (.getfield 66, 3) := by decide +kernel
theorem dX4_text_68 : decode cX4_text 68 = .ok (.ifCond .eq 13, 3) := by decide +kernel
theorem dX4_text_71 : decode cX4_text 71 = .ok (.aload_n 0, 1) := by decide +kernel
theorem dX4_text_72 : decode cX4_text 72 = .ok (.invokevirtual 122, 3) := by decide +kernel
theorem dX4_text_75 : decode cX4_text 75 = .ok (.iinc 1 1, 3) := by decide +kernel
theorem dX4_text_78 : decode cX4_text 78 = .ok (.goto (-21), 3) := by decide +kernel
theorem dX4_text_81 : decode cX4_text 81 = .ok (.aload_n 0, 1) := by decide +kernel
theorem dX4_text_82 : decode cX4_text 82 = .ok (.getfield 57, 3) := by decide +kernel
theorem dX4_text_85 : decode cX4_text 85 = .ok (.ifCond .ne 20, 3) := by decide +kernel
theorem dX4_text_88 : decode cX4_text 88 = .ok (.aload_n 0, 1) := by decide +kernel
theorem dX4_text_89 : decode cX4_text 89 = .ok (.getfield 101, 3) := by decide +kernel
theorem dX4_text_92 : decode cX4_text 92 = .ok (.aload_n 0, 1) := by decide +kernel
theorem dX4_text_93 : decode cX4_text 93 = .ok (.getfield 104, 3) := by decide +kernel
theorem dX4_text_96 : decode cX4_text 96 = .ok (.if_icmp .lt 9, 3) := by decide +kernel
theorem dX4_text_99 : decode cX4_text 99 = .ok (.aload_n 0, 1) := by decide +kernel
theorem dX4_text_100 : decode cX4_text 100 = .ok (.bipush 6, 2) := by decide +kernel
theorem dX4_text_102 : decode cX4_text 102 = .ok (.invokevirtual 87, 3) := by decide +kernel
theorem dX4_text_105 : decode cX4_text 105 = .ok (.aload_n 0, 1) := by decide +kernel
theorem dX4_text_106 : decode cX4_text 106 = .ok (.iconst 0, 1) := by decide +kernel
theorem dX4_text_107 : decode cX4_text 107 = .ok (.putfield 53, 3) := by decide +kernel
theorem dX4_text_110 : decode cX4_text 110 = .ok (.aload_n 0, 1) := by decide +kernel
theorem dX4_text_111 : decode cX4_text 111 = .ok (.aload_n 0, 1) := by decide +kernel
theorem dX4_text_112 : decode cX4_text 112 = .ok (.getfield 57, 3) := by decide +kernel
theorem dX4_text_115 : decode cX4_text 115 = .ok (.putfield 125, 3) := by decide +kernel
theorem dX4_text_118 : decode cX4_text 118 = .ok (.aload_n 0, 1) := by decide +kernel
theorem dX4_text_119 : decode cX4_text 119 = .ok (.getfield 57, 3) := by decide +kernel
theorem dX4_text_122 : decode cX4_text 122 = .ok (.ifCond .le 11, 3) := by decide +kernel
theorem dX4_text_125 : decode cX4_text 125 = .ok (.bipush (-10), 2) := by decide +kernel
theorem dX4_text_127 : decode cX4_text 127 = .ok (.aload_n 0, 1) := by decide +kernel
theorem dX4_text_128 : decode cX4_text 128 = .ok (.getfield 63, 3) := by decide +kernel
theorem dX4_text_131 : decode cX4_text 131 = .ok (.isub, 1) := by decide +kernel
theorem dX4_text_132 : decode cX4_text 132 = .ok (.ireturn, 1) := by decide +kernel
theorem dX4_text_133 : decode cX4_text 133 = .ok (.iconst 0, 1) := by decide +kernel
theorem dX4_text_134 : decode cX4_text 134 = .ok (.istore_n 2, 1) := by decide +kernel
theorem dX4_text_135 : decode cX4_text 135 = .ok (.iload_n 2, 1) := by decide +kernel
theorem dX4_text_136 : decode cX4_text 136 = .ok (.bipush 33, 2) := by decide +kernel
theorem dX4_text_138 : decode cX4_text 138 = .ok (.if_icmp .ge 21, 3) := by decide +kernel
theorem dX4_text_141 : decode cX4_text 141 = .ok (.aload_n 0, 1) := by decide +kernel
theorem dX4_text_142 : decode cX4_text 142 = .ok (.getfield 7, 3) := by decide +kernel
theorem dX4_text_145 : decode cX4_text 145 = .ok (.iload_n 2, 1) := by decide +kernel
theorem dX4_text_146 : decode cX4_text 146 = .ok (.aload_n 0, 1) := by decide +kernel
theorem dX4_text_147 : decode cX4_text 147 = .ok (.getfield 13, 3) := by decide +kernel
theorem dX4_text_150 : decode cX4_text 150 = .ok (.iload_n 2, 1) := by decide +kernel
theorem dX4_text_151 : decode cX4_text 151 = .ok (.iaload, 1) := by decide +kernel
theorem dX4_text_152 : decode cX4_text 152 = .ok (.iastore, 1) := by decide +kernel
theorem dX4_text_153 : decode cX4_text 153 = .ok (.iinc 2 1, 3) := by decide +kernel
theorem dX4_text_156 : decode cX4_text 156 = .ok (.goto (-21), 3) := by decide +kernel
theorem dX4_text_159 : decode cX4_text 159 = .ok (.aload_n 0, 1) := by decide +kernel
theorem dX4_text_160 : decode cX4_text 160 = .ok (.aload_n 0, 1) := by decide +kernel
theorem dX4_text_161 : decode cX4_text 161 = .ok (.getfield 104, 3) := by decide +kernel
theorem dX4_text_164 : decode cX4_text 164 = .ok (.putfield 128, 3) := by decide +kernel
theorem dX4_text_167 : decode cX4_text 167 = .ok (.aload_n 0, 1) := by decide +kernel
theorem dX4_text_168 : decode cX4_text 168 = .ok (.iconst 0, 1) := by decide +kernel
theorem dX4_text_169 : decode cX4_text 169 = .ok (.putfield 131, 3) := by decide +kernel
theorem dX4_text_172 : decode cX4_text 172 = .ok (.aload_n 0, 1) := by decide +kernel
theorem dX4_text_173 : decode cX4_text 173 = .ok (.getfield 34, 3) := by decide +kernel
theorem dX4_text_176 : decode cX4_text 176 = .ok (.iconst 0, 1) := by decide +kernel
theorem dX4_text_177 : decode cX4_text 177 = .ok (.iconst 0, 1) := by decide +kernel
theorem dX4_text_178 : decode cX4_text 178 = .ok (.bastore, 1) := by decide +kernel
theorem dX4_text_179 : decode cX4_text 179 = .ok (.aload_n 0, 1) := by decide +kernel
theorem dX4_text_180 : decode cX4_text 180 = .ok (.getfield 34, 3) := by decide +kernel
theorem dX4_text_183 : decode cX4_text 183 = .ok (.iconst 1, 1) := by decide +kernel
theorem dX4_text_184 : decode cX4_text 184 = .ok (.iconst 0, 1) := by decide +kernel
theorem dX4_text_185 : decode cX4_text 185 = .ok (.bastore, 1) := by decide +kernel
theorem dX4_text_186 : decode cX4_text 186 = .ok (.iload_n 1, 1) := by decide +kernel
theorem dX4_text_187 : decode cX4_text 187 = .ok (.ireturn, 1) := by decide +kernel
theorem dX4_fault_0 : decode cX4_fault 0 = .ok (.aload_n 0, 1) := by decide +kernel
theorem dX4_fault_1 : decode cX4_fault 1 = .ok (.getfield 125, 3) := by decide +kernel
theorem dX4_fault_4 : decode cX4_fault 4 = .ok (.ireturn, 1) := by decide +kernel
theorem dX4_isMan_0 : decode cX4_isMan 0 = .ok (.iload_n 1, 1) := by decide +kernel
theorem dX4_isMan_1 : decode cX4_isMan 1 = .ok (.i2l, 1) := by decide +kernel
theorem dX4_isMan_2 : decode cX4_isMan 2 = .ok (.lconst 0, 1) := by decide +kernel
theorem dX4_isMan_3 : decode cX4_isMan 3 = .ok (.aload_n 0, 1) := by decide +kernel
theorem dX4_isMan_4 : decode cX4_isMan 4 = .ok (.getfield 128, 3) := by decide +kernel
theorem dX4_isMan_7 : decode cX4_isMan 7 = .ok (.iconst 1, 1) := by decide +kernel
theorem dX4_isMan_8 : decode cX4_isMan 8 = .ok (.isub, 1) := by decide +kernel
theorem dX4_isMan_9 : decode cX4_isMan 9 = .ok (.i2l, 1) := by decide +kernel
theorem dX4_isMan_10 : decode cX4_isMan 10 = .ok (.invokestatic 49, 3) := by decide +kernel
theorem dX4_isMan_13 : decode cX4_isMan 13 = .ok (.ireturn, 1) := by decide +kernel
theorem dX4_isHour_0 : decode cX4_isHour 0 = .ok (.iload_n 0, 1) := by decide +kernel
theorem dX4_isHour_1 : decode cX4_isHour 1 = .ok (.i2l, 1) := by decide +kernel
theorem dX4_isHour_2 : decode cX4_isHour 2 = .ok (.lconst 0, 1) := by decide +kernel
theorem dX4_isHour_3 : decode cX4_isHour 3 = .ok (.ldc2_w 134, 3) := by decide +kernel
theorem dX4_isHour_6 : decode cX4_isHour 6 = .ok (.invokestatic 49, 3) := by decide +kernel
theorem dX4_isHour_9 : decode cX4_isHour 9 = .ok (.ireturn, 1) := by decide +kernel
theorem dX4_isDeed_0 : decode cX4_isDeed 0 = .ok (.iload_n 1, 1) := by decide +kernel
theorem dX4_isDeed_1 : decode cX4_isDeed 1 = .ok (.i2l, 1) := by decide +kernel
theorem dX4_isDeed_2 : decode cX4_isDeed 2 = .ok (.lconst 0, 1) := by decide +kernel
theorem dX4_isDeed_3 : decode cX4_isDeed 3 = .ok (.aload_n 0, 1) := by decide +kernel
theorem dX4_isDeed_4 : decode cX4_isDeed 4 = .ok (.getfield 7, 3) := by decide +kernel
theorem dX4_isDeed_7 : decode cX4_isDeed 7 = .ok (.bipush 32, 2) := by decide +kernel
theorem dX4_isDeed_9 : decode cX4_isDeed 9 = .ok (.iaload, 1) := by decide +kernel
theorem dX4_isDeed_10 : decode cX4_isDeed 10 = .ok (.iconst 1, 1) := by decide +kernel
theorem dX4_isDeed_11 : decode cX4_isDeed 11 = .ok (.isub, 1) := by decide +kernel
theorem dX4_isDeed_12 : decode cX4_isDeed 12 = .ok (.i2l, 1) := by decide +kernel
theorem dX4_isDeed_13 : decode cX4_isDeed 13 = .ok (.invokestatic 49, 3) := by decide +kernel
theorem dX4_isDeed_16 : decode cX4_isDeed 16 = .ok (.ireturn, 1) := by decide +kernel
theorem dX4_standsIn_0 : decode cX4_standsIn 0 = .ok (.aload_n 0, 1) := by decide +kernel
theorem dX4_standsIn_1 : decode cX4_standsIn 1 = .ok (.getfield 7, 3) := by decide +kernel
theorem dX4_standsIn_4 : decode cX4_standsIn 4 = .ok (.bipush 8, 2) := by decide +kernel
theorem dX4_standsIn_6 : decode cX4_standsIn 6 = .ok (.iload_n 1, 1) := by decide +kernel
theorem dX4_standsIn_7 : decode cX4_standsIn 7 = .ok (.iadd, 1) := by decide +kernel
theorem dX4_standsIn_8 : decode cX4_standsIn 8 = .ok (.iaload, 1) := by decide +kernel
theorem dX4_standsIn_9 : decode cX4_standsIn 9 = .ok (.iconst 1, 1) := by decide +kernel
theorem dX4_standsIn_10 : decode cX4_standsIn 10 = .ok (.isub, 1) := by decide +kernel
theorem dX4_standsIn_11 : decode cX4_standsIn 11 = .ok (.ireturn, 1) := by decide +kernel
theorem dX4_stoodIn_0 : decode cX4_stoodIn 0 = .ok (.iload_n 1, 1) := by decide +kernel
theorem dX4_stoodIn_1 : decode cX4_stoodIn 1 = .ok (.iconst 4, 1) := by decide +kernel
theorem dX4_stoodIn_2 : decode cX4_stoodIn 2 = .ok (.idiv, 1) := by decide +kernel
theorem dX4_stoodIn_3 : decode cX4_stoodIn 3 = .ok (.istore_n 2, 1) := by decide +kernel
theorem dX4_stoodIn_4 : decode cX4_stoodIn 4 = .ok (.iload_n 1, 1) := by decide +kernel
theorem dX4_stoodIn_5 : decode cX4_stoodIn 5 = .ok (.iconst 4, 1) := by decide +kernel
theorem dX4_stoodIn_6 : decode cX4_stoodIn 6 = .ok (.idiv, 1) := by decide +kernel
theorem dX4_stoodIn_7 : decode cX4_stoodIn 7 = .ok (.istore_n 3, 1) := by decide +kernel
theorem dX4_stoodIn_8 : decode cX4_stoodIn 8 = .ok (.iload_n 3, 1) := by decide +kernel
theorem dX4_stoodIn_9 : decode cX4_stoodIn 9 = .ok (.ifCond .le 28, 3) := by decide +kernel
theorem dX4_stoodIn_12 : decode cX4_stoodIn 12 = .ok (.aload_n 0, 1) := by decide +kernel
theorem dX4_stoodIn_13 : decode cX4_stoodIn 13 = .ok (.iload_n 3, 1) := by decide +kernel
theorem dX4_stoodIn_14 : decode cX4_stoodIn 14 = .ok (.iconst 1, 1) := by decide +kernel
theorem dX4_stoodIn_15 : decode cX4_stoodIn 15 = .ok (.isub, 1) := by decide +kernel
theorem dX4_stoodIn_16 : decode cX4_stoodIn 16 = .ok (.invokevirtual 136, 3) := by decide +kernel
theorem dX4_stoodIn_19 : decode cX4_stoodIn 19 = .ok (.aload_n 0, 1) := by decide +kernel
theorem dX4_stoodIn_20 : decode cX4_stoodIn 20 = .ok (.iload_n 3, 1) := by decide +kernel
theorem dX4_stoodIn_21 : decode cX4_stoodIn 21 = .ok (.invokevirtual 136, 3) := by decide +kernel
theorem dX4_stoodIn_24 : decode cX4_stoodIn 24 = .ok (.if_icmp .ne 13, 3) := by decide +kernel
theorem dX4_stoodIn_27 : decode cX4_stoodIn 27 = .ok (.iload_n 3, 1) := by decide +kernel
theorem dX4_stoodIn_28 : decode cX4_stoodIn 28 = .ok (.iconst 1, 1) := by decide +kernel
theorem dX4_stoodIn_29 : decode cX4_stoodIn 29 = .ok (.isub, 1) := by decide +kernel
theorem dX4_stoodIn_30 : decode cX4_stoodIn 30 = .ok (.istore_n 2, 1) := by decide +kernel
theorem dX4_stoodIn_31 : decode cX4_stoodIn 31 = .ok (.iinc 3 (-1), 3) := by decide +kernel
theorem dX4_stoodIn_34 : decode cX4_stoodIn 34 = .ok (.goto (-26), 3) := by decide +kernel
theorem dX4_stoodIn_37 : decode cX4_stoodIn 37 = .ok (.iload_n 1, 1) := by decide +kernel
theorem dX4_stoodIn_38 : decode cX4_stoodIn 38 = .ok (.iconst 4, 1) := by decide +kernel
theorem dX4_stoodIn_39 : decode cX4_stoodIn 39 = .ok (.iload_n 2, 1) := by decide +kernel
theorem dX4_stoodIn_40 : decode cX4_stoodIn 40 = .ok (.imul, 1) := by decide +kernel
theorem dX4_stoodIn_41 : decode cX4_stoodIn 41 = .ok (.isub, 1) := by decide +kernel
theorem dX4_stoodIn_42 : decode cX4_stoodIn 42 = .ok (.ireturn, 1) := by decide +kernel
theorem dX4_slipIn_0 : decode cX4_slipIn 0 = .ok (.aload_n 0, 1) := by decide +kernel
theorem dX4_slipIn_1 : decode cX4_slipIn 1 = .ok (.getfield 7, 3) := by decide +kernel
theorem dX4_slipIn_4 : decode cX4_slipIn 4 = .ok (.iload_n 1, 1) := by decide +kernel
theorem dX4_slipIn_5 : decode cX4_slipIn 5 = .ok (.iaload, 1) := by decide +kernel
theorem dX4_slipIn_6 : decode cX4_slipIn 6 = .ok (.tableswitch 41 0 2 #[26, 28, 30], 26) := by decide +kernel
theorem dX4_slipIn_32 : decode cX4_slipIn 32 = .ok (.iconst 0, 1) := by decide +kernel
theorem dX4_slipIn_33 : decode cX4_slipIn 33 = .ok (.ireturn, 1) := by decide +kernel
theorem dX4_slipIn_34 : decode cX4_slipIn 34 = .ok (.iconst (-1), 1) := by decide +kernel
theorem dX4_slipIn_35 : decode cX4_slipIn 35 = .ok (.ireturn, 1) := by decide +kernel
theorem dX4_slipIn_36 : decode cX4_slipIn 36 = .ok (.iconst (-1), 1) := by decide +kernel
theorem dX4_slipIn_37 : decode cX4_slipIn 37 = .ok (.aload_n 0, 1) := by decide +kernel
theorem dX4_slipIn_38 : decode cX4_slipIn 38 = .ok (.iload_n 2, 1) := by decide +kernel
theorem dX4_slipIn_39 : decode cX4_slipIn 39 = .ok (.invokevirtual 139, 3) := by decide +kernel
theorem dX4_slipIn_42 : decode cX4_slipIn 42 = .ok (.bipush 8, 2) := by decide +kernel
theorem dX4_slipIn_44 : decode cX4_slipIn 44 = .ok (.idiv, 1) := by decide +kernel
theorem dX4_slipIn_45 : decode cX4_slipIn 45 = .ok (.isub, 1) := by decide +kernel
theorem dX4_slipIn_46 : decode cX4_slipIn 46 = .ok (.ireturn, 1) := by decide +kernel
theorem dX4_slipIn_47 : decode cX4_slipIn 47 = .ok (.iload_n 2, 1) := by decide +kernel
theorem dX4_slipIn_48 : decode cX4_slipIn 48 = .ok (.iconst 4, 1) := by decide +kernel
theorem dX4_slipIn_49 : decode cX4_slipIn 49 = .ok (.idiv, 1) := by decide +kernel
theorem dX4_slipIn_50 : decode cX4_slipIn 50 = .ok (.iconst 2, 1) := by decide +kernel
theorem dX4_slipIn_51 : decode cX4_slipIn 51 = .ok (.irem, 1) := by decide +kernel
theorem dX4_slipIn_52 : decode cX4_slipIn 52 = .ok (.ifCond .ne 7, 3) := by decide +kernel
theorem dX4_slipIn_55 : decode cX4_slipIn 55 = .ok (.iconst 1, 1) := by decide +kernel
theorem dX4_slipIn_56 : decode cX4_slipIn 56 = .ok (.goto 4, 3) := by decide +kernel
theorem dX4_slipIn_59 : decode cX4_slipIn 59 = .ok (.iconst (-1), 1) := by decide +kernel
theorem dX4_slipIn_60 : decode cX4_slipIn 60 = .ok (.ireturn, 1) := by decide +kernel
theorem dX4_laysReads_0 : decode cX4_laysReads 0 = .ok (.iconst 0, 1) := by decide +kernel
theorem dX4_laysReads_1 : decode cX4_laysReads 1 = .ok (.istore_n 1, 1) := by decide +kernel
theorem dX4_laysReads_2 : decode cX4_laysReads 2 = .ok (.iload_n 1, 1) := by decide +kernel
theorem dX4_laysReads_3 : decode cX4_laysReads 3 = .ok (.bipush 48, 2) := by decide +kernel
theorem dX4_laysReads_5 : decode cX4_laysReads 5 = .ok (.if_icmp .ge 122, 3) := by decide +kernel
theorem dX4_laysReads_8 : decode cX4_laysReads 8 = .ok (.aload_n 0, 1) := by decide +kernel
theorem dX4_laysReads_9 : decode cX4_laysReads 9 = .ok (.iload_n 1, 1) := by decide +kernel
theorem dX4_laysReads_10 : decode cX4_laysReads 10 = .ok (.iconst 4, 1) := by decide +kernel
theorem dX4_laysReads_11 : decode cX4_laysReads 11 = .ok (.idiv, 1) := by decide +kernel
theorem dX4_laysReads_12 : decode cX4_laysReads 12 = .ok (.invokevirtual 136, 3) := by decide +kernel
theorem dX4_laysReads_15 : decode cX4_laysReads 15 = .ok (.istore_n 2, 1) := by decide +kernel
theorem dX4_laysReads_16 : decode cX4_laysReads 16 = .ok (.iload_n 2, 1) := by decide +kernel
theorem dX4_laysReads_17 : decode cX4_laysReads 17 = .ok (.ifCond .lt 20, 3) := by decide +kernel
theorem dX4_laysReads_20 : decode cX4_laysReads 20 = .ok (.aload_n 0, 1) := by decide +kernel
theorem dX4_laysReads_21 : decode cX4_laysReads 21 = .ok (.getfield 7, 3) := by decide +kernel
theorem dX4_laysReads_24 : decode cX4_laysReads 24 = .ok (.bipush 20, 2) := by decide +kernel
theorem dX4_laysReads_26 : decode cX4_laysReads 26 = .ok (.iaload, 1) := by decide +kernel
theorem dX4_laysReads_27 : decode cX4_laysReads 27 = .ok (.iload_n 1, 1) := by decide +kernel
theorem dX4_laysReads_28 : decode cX4_laysReads 28 = .ok (.iconst 4, 1) := by decide +kernel
theorem dX4_laysReads_29 : decode cX4_laysReads 29 = .ok (.idiv, 1) := by decide +kernel
theorem dX4_laysReads_30 : decode cX4_laysReads 30 = .ok (.ishr, 1) := by decide +kernel
theorem dX4_laysReads_31 : decode cX4_laysReads 31 = .ok (.iconst 1, 1) := by decide +kernel
theorem dX4_laysReads_32 : decode cX4_laysReads 32 = .ok (.iand, 1) := by decide +kernel
theorem dX4_laysReads_33 : decode cX4_laysReads 33 = .ok (.iconst 1, 1) := by decide +kernel
theorem dX4_laysReads_34 : decode cX4_laysReads 34 = .ok (.if_icmp .ne 7, 3) := by decide +kernel
theorem dX4_laysReads_37 : decode cX4_laysReads 37 = .ok (.iconst 1, 1) := by decide +kernel
theorem dX4_laysReads_38 : decode cX4_laysReads 38 = .ok (.goto 4, 3) := by decide +kernel
theorem dX4_laysReads_41 : decode cX4_laysReads 41 = .ok (.iconst 0, 1) := by decide +kernel
theorem dX4_laysReads_42 : decode cX4_laysReads 42 = .ok (.istore_n 3, 1) := by decide +kernel
theorem dX4_laysReads_43 : decode cX4_laysReads 43 = .ok (.iload_n 3, 1) := by decide +kernel
theorem dX4_laysReads_44 : decode cX4_laysReads 44 = .ok (.ifCond .eq 7, 3) := by decide +kernel
theorem dX4_laysReads_47 : decode cX4_laysReads 47 = .ok (.iconst 0, 1) := by decide +kernel
theorem dX4_laysReads_48 : decode cX4_laysReads 48 = .ok (.goto 33, 3) := by decide +kernel
theorem dX4_laysReads_51 : decode cX4_laysReads 51 = .ok (.iload_n 1, 1) := by decide +kernel
theorem dX4_laysReads_52 : decode cX4_laysReads 52 = .ok (.aload_n 0, 1) := by decide +kernel
theorem dX4_laysReads_53 : decode cX4_laysReads 53 = .ok (.iload_n 2, 1) := by decide +kernel
theorem dX4_laysReads_54 : decode cX4_laysReads 54 = .ok (.iload_n 1, 1) := by decide +kernel
theorem dX4_laysReads_55 : decode cX4_laysReads 55 = .ok (.invokevirtual 142, 3) := by decide +kernel
theorem dX4_laysReads_58 : decode cX4_laysReads 58 = .ok (.iadd, 1) := by decide +kernel
theorem dX4_laysReads_59 : decode cX4_laysReads 59 = .ok (.aload_n 0, 1) := by decide +kernel
theorem dX4_laysReads_60 : decode cX4_laysReads 60 = .ok (.getfield 7, 3) := by decide +kernel
theorem dX4_laysReads_63 : decode cX4_laysReads 63 = .ok (.iconst 4, 1) := by decide +kernel
theorem dX4_laysReads_64 : decode cX4_laysReads 64 = .ok (.iload_n 2, 1) := by decide +kernel
theorem dX4_laysReads_65 : decode cX4_laysReads 65 = .ok (.iadd, 1) := by decide +kernel
theorem dX4_laysReads_66 : decode cX4_laysReads 66 = .ok (.iaload, 1) := by decide +kernel
theorem dX4_laysReads_67 : decode cX4_laysReads 67 = .ok (.iadd, 1) := by decide +kernel
theorem dX4_laysReads_68 : decode cX4_laysReads 68 = .ok (.aload_n 0, 1) := by decide +kernel
theorem dX4_laysReads_69 : decode cX4_laysReads 69 = .ok (.getfield 7, 3) := by decide +kernel
theorem dX4_laysReads_72 : decode cX4_laysReads 72 = .ok (.bipush 21, 2) := by decide +kernel
theorem dX4_laysReads_74 : decode cX4_laysReads 74 = .ok (.iaload, 1) := by decide +kernel
theorem dX4_laysReads_75 : decode cX4_laysReads 75 = .ok (.iadd, 1) := by decide +kernel
theorem dX4_laysReads_76 : decode cX4_laysReads 76 = .ok (.iconst 3, 1) := by decide +kernel
theorem dX4_laysReads_77 : decode cX4_laysReads 77 = .ok (.iadd, 1) := by decide +kernel
theorem dX4_laysReads_78 : decode cX4_laysReads 78 = .ok (.bipush 6, 2) := by decide +kernel
theorem dX4_laysReads_80 : decode cX4_laysReads 80 = .ok (.isub, 1) := by decide +kernel
theorem dX4_laysReads_81 : decode cX4_laysReads 81 = .ok (.istore 4, 2) := by decide +kernel
theorem dX4_laysReads_83 : decode cX4_laysReads 83 = .ok (.aload_n 0, 1) := by decide +kernel
theorem dX4_laysReads_84 : decode cX4_laysReads 84 = .ok (.getfield 25, 3) := by decide +kernel
theorem dX4_laysReads_87 : decode cX4_laysReads 87 = .ok (.iload_n 1, 1) := by decide +kernel
theorem dX4_laysReads_88 : decode cX4_laysReads 88 = .ok (.iload_n 3, 1) := by decide +kernel
theorem dX4_laysReads_89 : decode cX4_laysReads 89 = .ok (.ifCond .eq 8, 3) := by decide +kernel
theorem dX4_laysReads_92 : decode cX4_laysReads 92 = .ok (.bipush (-4), 2) := by decide +kernel
theorem dX4_laysReads_94 : decode cX4_laysReads 94 = .ok (.goto 26, 3) := by decide +kernel
theorem dX4_laysReads_97 : decode cX4_laysReads 97 = .ok (.iload 4, 2) := by decide +kernel
theorem dX4_laysReads_99 : decode cX4_laysReads 99 = .ok (.ifCond .ge 7, 3) := by decide +kernel
theorem dX4_laysReads_102 : decode cX4_laysReads 102 = .ok (.iconst 0, 1) := by decide +kernel
theorem dX4_laysReads_103 : decode cX4_laysReads 103 = .ok (.goto 17, 3) := by decide +kernel
theorem dX4_laysReads_106 : decode cX4_laysReads 106 = .ok (.iload 4, 2) := by decide +kernel
theorem dX4_laysReads_108 : decode cX4_laysReads 108 = .ok (.bipush 47, 2) := by decide +kernel
theorem dX4_laysReads_110 : decode cX4_laysReads 110 = .ok (.if_icmp .le 8, 3) := by decide +kernel
theorem dX4_laysReads_113 : decode cX4_laysReads 113 = .ok (.bipush 47, 2) := by decide +kernel
theorem dX4_laysReads_115 : decode cX4_laysReads 115 = .ok (.goto 5, 3) := by decide +kernel
theorem dX4_laysReads_118 : decode cX4_laysReads 118 = .ok (.iload 4, 2) := by decide +kernel
theorem dX4_laysReads_120 : decode cX4_laysReads 120 = .ok (.iastore, 1) := by decide +kernel
theorem dX4_laysReads_121 : decode cX4_laysReads 121 = .ok (.iinc 1 1, 3) := by decide +kernel
theorem dX4_laysReads_124 : decode cX4_laysReads 124 = .ok (.goto (-122), 3) := by decide +kernel
theorem dX4_laysReads_127 : decode cX4_laysReads 127 = .ok (.return_, 1) := by decide +kernel
theorem dX4_doneIn_0 : decode cX4_doneIn 0 = .ok (.iconst 0, 1) := by decide +kernel
theorem dX4_doneIn_1 : decode cX4_doneIn 1 = .ok (.istore_n 2, 1) := by decide +kernel
theorem dX4_doneIn_2 : decode cX4_doneIn 2 = .ok (.iload_n 2, 1) := by decide +kernel
theorem dX4_doneIn_3 : decode cX4_doneIn 3 = .ok (.bipush 48, 2) := by decide +kernel
theorem dX4_doneIn_5 : decode cX4_doneIn 5 = .ok (.if_icmp .ge 40, 3) := by decide +kernel
theorem dX4_doneIn_8 : decode cX4_doneIn 8 = .ok (.aload_n 0, 1) := by decide +kernel
theorem dX4_doneIn_9 : decode cX4_doneIn 9 = .ok (.getfield 25, 3) := by decide +kernel
theorem dX4_doneIn_12 : decode cX4_doneIn 12 = .ok (.iload_n 2, 1) := by decide +kernel
theorem dX4_doneIn_13 : decode cX4_doneIn 13 = .ok (.iaload, 1) := by decide +kernel
theorem dX4_doneIn_14 : decode cX4_doneIn 14 = .ok (.bipush (-4), 2) := by decide +kernel
theorem dX4_doneIn_16 : decode cX4_doneIn 16 = .ok (.if_icmp .eq 23, 3) := by decide +kernel
theorem dX4_doneIn_19 : decode cX4_doneIn 19 = .ok (.aload_n 0, 1) := by decide +kernel
theorem dX4_doneIn_20 : decode cX4_doneIn 20 = .ok (.getfield 25, 3) := by decide +kernel
theorem dX4_doneIn_23 : decode cX4_doneIn 23 = .ok (.iload_n 2, 1) := by decide +kernel
theorem dX4_doneIn_24 : decode cX4_doneIn 24 = .ok (.iaload, 1) := by decide +kernel
theorem dX4_doneIn_25 : decode cX4_doneIn 25 = .ok (.aload_n 0, 1) := by decide +kernel
theorem dX4_doneIn_26 : decode cX4_doneIn 26 = .ok (.getfield 7, 3) := by decide +kernel
theorem dX4_doneIn_29 : decode cX4_doneIn 29 = .ok (.bipush 22, 2) := by decide +kernel
theorem dX4_doneIn_31 : decode cX4_doneIn 31 = .ok (.iload_n 1, 1) := by decide +kernel
theorem dX4_doneIn_32 : decode cX4_doneIn 32 = .ok (.iadd, 1) := by decide +kernel
theorem dX4_doneIn_33 : decode cX4_doneIn 33 = .ok (.iaload, 1) := by decide +kernel
theorem dX4_doneIn_34 : decode cX4_doneIn 34 = .ok (.if_icmp .lt 5, 3) := by decide +kernel
theorem dX4_doneIn_37 : decode cX4_doneIn 37 = .ok (.iload_n 2, 1) := by decide +kernel
theorem dX4_doneIn_38 : decode cX4_doneIn 38 = .ok (.ireturn, 1) := by decide +kernel
theorem dX4_doneIn_39 : decode cX4_doneIn 39 = .ok (.iinc 2 1, 3) := by decide +kernel
theorem dX4_doneIn_42 : decode cX4_doneIn 42 = .ok (.goto (-40), 3) := by decide +kernel
theorem dX4_doneIn_45 : decode cX4_doneIn 45 = .ok (.bipush (-4), 2) := by decide +kernel
theorem dX4_doneIn_47 : decode cX4_doneIn 47 = .ok (.ireturn, 1) := by decide +kernel
theorem dX4_harmOf_0 : decode cX4_harmOf 0 = .ok (.aload_n 0, 1) := by decide +kernel
theorem dX4_harmOf_1 : decode cX4_harmOf 1 = .ok (.iload_n 1, 1) := by decide +kernel
theorem dX4_harmOf_2 : decode cX4_harmOf 2 = .ok (.invokevirtual 146, 3) := by decide +kernel
theorem dX4_harmOf_5 : decode cX4_harmOf 5 = .ok (.istore_n 2, 1) := by decide +kernel
theorem dX4_harmOf_6 : decode cX4_harmOf 6 = .ok (.iload_n 2, 1) := by decide +kernel
theorem dX4_harmOf_7 : decode cX4_harmOf 7 = .ok (.aload_n 0, 1) := by decide +kernel
theorem dX4_harmOf_8 : decode cX4_harmOf 8 = .ok (.getfield 7, 3) := by decide +kernel
theorem dX4_harmOf_11 : decode cX4_harmOf 11 = .ok (.bipush 22, 2) := by decide +kernel
theorem dX4_harmOf_13 : decode cX4_harmOf 13 = .ok (.iload_n 1, 1) := by decide +kernel
theorem dX4_harmOf_14 : decode cX4_harmOf 14 = .ok (.iadd, 1) := by decide +kernel
theorem dX4_harmOf_15 : decode cX4_harmOf 15 = .ok (.iaload, 1) := by decide +kernel
theorem dX4_harmOf_16 : decode cX4_harmOf 16 = .ok (.if_icmp .le 17, 3) := by decide +kernel
theorem dX4_harmOf_19 : decode cX4_harmOf 19 = .ok (.iload_n 2, 1) := by decide +kernel
theorem dX4_harmOf_20 : decode cX4_harmOf 20 = .ok (.aload_n 0, 1) := by decide +kernel
theorem dX4_harmOf_21 : decode cX4_harmOf 21 = .ok (.getfield 7, 3) := by decide +kernel
theorem dX4_harmOf_24 : decode cX4_harmOf 24 = .ok (.bipush 22, 2) := by decide +kernel
theorem dX4_harmOf_26 : decode cX4_harmOf 26 = .ok (.iload_n 1, 1) := by decide +kernel
theorem dX4_harmOf_27 : decode cX4_harmOf 27 = .ok (.iadd, 1) := by decide +kernel
theorem dX4_harmOf_28 : decode cX4_harmOf 28 = .ok (.iaload, 1) := by decide +kernel
theorem dX4_harmOf_29 : decode cX4_harmOf 29 = .ok (.isub, 1) := by decide +kernel
theorem dX4_harmOf_30 : decode cX4_harmOf 30 = .ok (.goto 14, 3) := by decide +kernel
theorem dX4_harmOf_33 : decode cX4_harmOf 33 = .ok (.aload_n 0, 1) := by decide +kernel
theorem dX4_harmOf_34 : decode cX4_harmOf 34 = .ok (.getfield 7, 3) := by decide +kernel
theorem dX4_harmOf_37 : decode cX4_harmOf 37 = .ok (.bipush 22, 2) := by decide +kernel
theorem dX4_harmOf_39 : decode cX4_harmOf 39 = .ok (.iload_n 1, 1) := by decide +kernel
theorem dX4_harmOf_40 : decode cX4_harmOf 40 = .ok (.iadd, 1) := by decide +kernel
theorem dX4_harmOf_41 : decode cX4_harmOf 41 = .ok (.iaload, 1) := by decide +kernel
theorem dX4_harmOf_42 : decode cX4_harmOf 42 = .ok (.iload_n 2, 1) := by decide +kernel
theorem dX4_harmOf_43 : decode cX4_harmOf 43 = .ok (.isub, 1) := by decide +kernel
theorem dX4_harmOf_44 : decode cX4_harmOf 44 = .ok (.istore_n 3, 1) := by decide +kernel
theorem dX4_harmOf_45 : decode cX4_harmOf 45 = .ok (.aload_n 0, 1) := by decide +kernel
theorem dX4_harmOf_46 : decode cX4_harmOf 46 = .ok (.getfield 7, 3) := by decide +kernel
theorem dX4_harmOf_49 : decode cX4_harmOf 49 = .ok (.bipush 27, 2) := by decide +kernel
theorem dX4_harmOf_51 : decode cX4_harmOf 51 = .ok (.iload_n 1, 1) := by decide +kernel
theorem dX4_harmOf_52 : decode cX4_harmOf 52 = .ok (.iadd, 1) := by decide +kernel
theorem dX4_harmOf_53 : decode cX4_harmOf 53 = .ok (.iaload, 1) := by decide +kernel
theorem dX4_harmOf_54 : decode cX4_harmOf 54 = .ok (.iload_n 2, 1) := by decide +kernel
theorem dX4_harmOf_55 : decode cX4_harmOf 55 = .ok (.bipush (-4), 2) := by decide +kernel
theorem dX4_harmOf_57 : decode cX4_harmOf 57 = .ok (.if_icmp .ne 8, 3) := by decide +kernel
theorem dX4_harmOf_60 : decode cX4_harmOf 60 = .ok (.bipush 48, 2) := by decide +kernel
theorem dX4_harmOf_62 : decode cX4_harmOf 62 = .ok (.goto 4, 3) := by decide +kernel
theorem dX4_harmOf_65 : decode cX4_harmOf 65 = .ok (.iload_n 3, 1) := by decide +kernel
theorem dX4_harmOf_66 : decode cX4_harmOf 66 = .ok (.imul, 1) := by decide +kernel
theorem dX4_harmOf_67 : decode cX4_harmOf 67 = .ok (.ireturn, 1) := by decide +kernel
theorem dX4_harm_0 : decode cX4_harm 0 = .ok (.aload_n 0, 1) := by decide +kernel
theorem dX4_harm_1 : decode cX4_harm 1 = .ok (.invokevirtual 149, 3) := by decide +kernel
theorem dX4_harm_4 : decode cX4_harm 4 = .ok (.iconst 0, 1) := by decide +kernel
theorem dX4_harm_5 : decode cX4_harm 5 = .ok (.istore_n 1, 1) := by decide +kernel
theorem dX4_harm_6 : decode cX4_harm 6 = .ok (.iconst 0, 1) := by decide +kernel
theorem dX4_harm_7 : decode cX4_harm 7 = .ok (.istore_n 2, 1) := by decide +kernel
theorem dX4_harm_8 : decode cX4_harm 8 = .ok (.iload_n 2, 1) := by decide +kernel
theorem dX4_harm_9 : decode cX4_harm 9 = .ok (.aload_n 0, 1) := by decide +kernel
theorem dX4_harm_10 : decode cX4_harm 10 = .ok (.getfield 7, 3) := by decide +kernel
theorem dX4_harm_13 : decode cX4_harm 13 = .ok (.bipush 32, 2) := by decide +kernel
theorem dX4_harm_15 : decode cX4_harm 15 = .ok (.iaload, 1) := by decide +kernel
theorem dX4_harm_16 : decode cX4_harm 16 = .ok (.if_icmp .ge 17, 3) := by decide +kernel
theorem dX4_harm_19 : decode cX4_harm 19 = .ok (.iload_n 1, 1) := by decide +kernel
theorem dX4_harm_20 : decode cX4_harm 20 = .ok (.aload_n 0, 1) := by decide +kernel
theorem dX4_harm_21 : decode cX4_harm 21 = .ok (.iload_n 2, 1) := by decide +kernel
theorem dX4_harm_22 : decode cX4_harm 22 = .ok (.invokevirtual 152, 3) := by decide +kernel
theorem dX4_harm_25 : decode cX4_harm 25 = .ok (.iadd, 1) := by decide +kernel
theorem dX4_harm_26 : decode cX4_harm 26 = .ok (.istore_n 1, 1) := by decide +kernel
theorem dX4_harm_27 : decode cX4_harm 27 = .ok (.iinc 2 1, 3) := by decide +kernel
theorem dX4_harm_30 : decode cX4_harm 30 = .ok (.goto (-22), 3) := by decide +kernel
theorem dX4_harm_33 : decode cX4_harm 33 = .ok (.iload_n 1, 1) := by decide +kernel
theorem dX4_harm_34 : decode cX4_harm 34 = .ok (.ireturn, 1) := by decide +kernel
theorem dX4_hoursOf_0 : decode cX4_hoursOf 0 = .ok (.iconst 0, 1) := by decide +kernel
theorem dX4_hoursOf_1 : decode cX4_hoursOf 1 = .ok (.istore_n 2, 1) := by decide +kernel
theorem dX4_hoursOf_2 : decode cX4_hoursOf 2 = .ok (.iconst 0, 1) := by decide +kernel
theorem dX4_hoursOf_3 : decode cX4_hoursOf 3 = .ok (.istore_n 3, 1) := by decide +kernel
theorem dX4_hoursOf_4 : decode cX4_hoursOf 4 = .ok (.iload_n 3, 1) := by decide +kernel
theorem dX4_hoursOf_5 : decode cX4_hoursOf 5 = .ok (.bipush 12, 2) := by decide +kernel
theorem dX4_hoursOf_7 : decode cX4_hoursOf 7 = .ok (.if_icmp .ge 42, 3) := by decide +kernel
theorem dX4_hoursOf_10 : decode cX4_hoursOf 10 = .ok (.iload_n 2, 1) := by decide +kernel
theorem dX4_hoursOf_11 : decode cX4_hoursOf 11 = .ok (.aload_n 0, 1) := by decide +kernel
theorem dX4_hoursOf_12 : decode cX4_hoursOf 12 = .ok (.iload_n 3, 1) := by decide +kernel
theorem dX4_hoursOf_13 : decode cX4_hoursOf 13 = .ok (.invokevirtual 136, 3) := by decide +kernel
theorem dX4_hoursOf_16 : decode cX4_hoursOf 16 = .ok (.ifCond .lt 24, 3) := by decide +kernel
theorem dX4_hoursOf_19 : decode cX4_hoursOf 19 = .ok (.iload_n 1, 1) := by decide +kernel
theorem dX4_hoursOf_20 : decode cX4_hoursOf 20 = .ok (.bipush (-4), 2) := by decide +kernel
theorem dX4_hoursOf_22 : decode cX4_hoursOf 22 = .ok (.if_icmp .eq 12, 3) := by decide +kernel
theorem dX4_hoursOf_25 : decode cX4_hoursOf 25 = .ok (.aload_n 0, 1) := by decide +kernel
theorem dX4_hoursOf_26 : decode cX4_hoursOf 26 = .ok (.iload_n 3, 1) := by decide +kernel
theorem dX4_hoursOf_27 : decode cX4_hoursOf 27 = .ok (.invokevirtual 136, 3) := by decide +kernel
theorem dX4_hoursOf_30 : decode cX4_hoursOf 30 = .ok (.iload_n 1, 1) := by decide +kernel
theorem dX4_hoursOf_31 : decode cX4_hoursOf 31 = .ok (.if_icmp .ne 9, 3) := by decide +kernel
theorem dX4_hoursOf_34 : decode cX4_hoursOf 34 = .ok (.iconst 1, 1) := by decide +kernel
theorem dX4_hoursOf_35 : decode cX4_hoursOf 35 = .ok (.iload_n 3, 1) := by decide +kernel
theorem dX4_hoursOf_36 : decode cX4_hoursOf 36 = .ok (.ishl, 1) := by decide +kernel
theorem dX4_hoursOf_37 : decode cX4_hoursOf 37 = .ok (.goto 4, 3) := by decide +kernel
theorem dX4_hoursOf_40 : decode cX4_hoursOf 40 = .ok (.iconst 0, 1) := by decide +kernel
theorem dX4_hoursOf_41 : decode cX4_hoursOf 41 = .ok (.ior, 1) := by decide +kernel
theorem dX4_hoursOf_42 : decode cX4_hoursOf 42 = .ok (.istore_n 2, 1) := by decide +kernel
theorem dX4_hoursOf_43 : decode cX4_hoursOf 43 = .ok (.iinc 3 1, 3) := by decide +kernel
theorem dX4_hoursOf_46 : decode cX4_hoursOf 46 = .ok (.goto (-42), 3) := by decide +kernel
theorem dX4_hoursOf_49 : decode cX4_hoursOf 49 = .ok (.iload_n 2, 1) := by decide +kernel
theorem dX4_hoursOf_50 : decode cX4_hoursOf 50 = .ok (.ireturn, 1) := by decide +kernel
theorem dX4_rule_0 : decode cX4_rule 0 = .ok (.iload_n 1, 1) := by decide +kernel
theorem dX4_rule_1 : decode cX4_rule 1 = .ok (.tableswitch 82 0 5 #[39, 44, 52, 62, 70, 77], 39) := by decide +kernel
theorem dX4_rule_40 : decode cX4_rule 40 = .ok (.aload_n 0, 1) := by decide +kernel
theorem dX4_rule_41 : decode cX4_rule 41 = .ok (.getfield 128, 3) := by decide +kernel
theorem dX4_rule_44 : decode cX4_rule 44 = .ok (.ireturn, 1) := by decide +kernel
theorem dX4_rule_45 : decode cX4_rule 45 = .ok (.aload_n 0, 1) := by decide +kernel
theorem dX4_rule_46 : decode cX4_rule 46 = .ok (.getfield 7, 3) := by decide +kernel
theorem dX4_rule_49 : decode cX4_rule 49 = .ok (.bipush 32, 2) := by decide +kernel
theorem dX4_rule_51 : decode cX4_rule 51 = .ok (.iaload, 1) := by decide +kernel
theorem dX4_rule_52 : decode cX4_rule 52 = .ok (.ireturn, 1) := by decide +kernel
theorem dX4_rule_53 : decode cX4_rule 53 = .ok (.aload_n 0, 1) := by decide +kernel
theorem dX4_rule_54 : decode cX4_rule 54 = .ok (.getfield 7, 3) := by decide +kernel
theorem dX4_rule_57 : decode cX4_rule 57 = .ok (.bipush 21, 2) := by decide +kernel
theorem dX4_rule_59 : decode cX4_rule 59 = .ok (.iaload, 1) := by decide +kernel
theorem dX4_rule_60 : decode cX4_rule 60 = .ok (.iconst 3, 1) := by decide +kernel
theorem dX4_rule_61 : decode cX4_rule 61 = .ok (.iadd, 1) := by decide +kernel
theorem dX4_rule_62 : decode cX4_rule 62 = .ok (.ireturn, 1) := by decide +kernel
theorem dX4_rule_63 : decode cX4_rule 63 = .ok (.aload_n 0, 1) := by decide +kernel
theorem dX4_rule_64 : decode cX4_rule 64 = .ok (.getfield 7, 3) := by decide +kernel
theorem dX4_rule_67 : decode cX4_rule 67 = .ok (.bipush 20, 2) := by decide +kernel
theorem dX4_rule_69 : decode cX4_rule 69 = .ok (.iaload, 1) := by decide +kernel
theorem dX4_rule_70 : decode cX4_rule 70 = .ok (.ireturn, 1) := by decide +kernel
theorem dX4_rule_71 : decode cX4_rule 71 = .ok (.aload_n 0, 1) := by decide +kernel
theorem dX4_rule_72 : decode cX4_rule 72 = .ok (.bipush (-4), 2) := by decide +kernel
theorem dX4_rule_74 : decode cX4_rule 74 = .ok (.invokevirtual 155, 3) := by decide +kernel
theorem dX4_rule_77 : decode cX4_rule 77 = .ok (.ireturn, 1) := by decide +kernel
theorem dX4_rule_78 : decode cX4_rule 78 = .ok (.aload_n 0, 1) := by decide +kernel
theorem dX4_rule_79 : decode cX4_rule 79 = .ok (.invokevirtual 158, 3) := by decide +kernel
theorem dX4_rule_82 : decode cX4_rule 82 = .ok (.ireturn, 1) := by decide +kernel
theorem dX4_rule_83 : decode cX4_rule 83 = .ok (.iconst (-1), 1) := by decide +kernel
theorem dX4_rule_84 : decode cX4_rule 84 = .ok (.ireturn, 1) := by decide +kernel
theorem dX4_man_0 : decode cX4_man 0 = .ok (.aload_n 0, 1) := by decide +kernel
theorem dX4_man_1 : decode cX4_man 1 = .ok (.iload_n 1, 1) := by decide +kernel
theorem dX4_man_2 : decode cX4_man 2 = .ok (.invokevirtual 161, 3) := by decide +kernel
theorem dX4_man_5 : decode cX4_man 5 = .ok (.ifCond .eq 15, 3) := by decide +kernel
theorem dX4_man_8 : decode cX4_man 8 = .ok (.iload_n 2, 1) := by decide +kernel
theorem dX4_man_9 : decode cX4_man 9 = .ok (.i2l, 1) := by decide +kernel
theorem dX4_man_10 : decode cX4_man 10 = .ok (.lconst 0, 1) := by decide +kernel
theorem dX4_man_11 : decode cX4_man 11 = .ok (.ldc2_w 165, 3) := by decide +kernel
theorem dX4_man_14 : decode cX4_man 14 = .ok (.invokestatic 49, 3) := by decide +kernel
theorem dX4_man_17 : decode cX4_man 17 = .ok (.ifCond .ne 5, 3) := by decide +kernel
theorem dX4_man_20 : decode cX4_man 20 = .ok (.iconst (-1), 1) := by decide +kernel
theorem dX4_man_21 : decode cX4_man 21 = .ok (.ireturn, 1) := by decide +kernel
theorem dX4_man_22 : decode cX4_man 22 = .ok (.bipush (-4), 2) := by decide +kernel
theorem dX4_man_24 : decode cX4_man 24 = .ok (.istore_n 3, 1) := by decide +kernel
theorem dX4_man_25 : decode cX4_man 25 = .ok (.iconst 0, 1) := by decide +kernel
theorem dX4_man_26 : decode cX4_man 26 = .ok (.istore 4, 2) := by decide +kernel
theorem dX4_man_28 : decode cX4_man 28 = .ok (.iload 4, 2) := by decide +kernel
theorem dX4_man_30 : decode cX4_man 30 = .ok (.bipush 48, 2) := by decide +kernel
theorem dX4_man_32 : decode cX4_man 32 = .ok (.if_icmp .ge 42, 3) := by decide +kernel
theorem dX4_man_35 : decode cX4_man 35 = .ok (.aload_n 0, 1) := by decide +kernel
theorem dX4_man_36 : decode cX4_man 36 = .ok (.iload 4, 2) := by decide +kernel
theorem dX4_man_38 : decode cX4_man 38 = .ok (.iconst 4, 1) := by decide +kernel
theorem dX4_man_39 : decode cX4_man 39 = .ok (.idiv, 1) := by decide +kernel
theorem dX4_man_40 : decode cX4_man 40 = .ok (.invokevirtual 136, 3) := by decide +kernel
theorem dX4_man_43 : decode cX4_man 43 = .ok (.iload_n 1, 1) := by decide +kernel
theorem dX4_man_44 : decode cX4_man 44 = .ok (.if_icmp .ne 22, 3) := by decide +kernel
theorem dX4_man_47 : decode cX4_man 47 = .ok (.aload_n 0, 1) := by decide +kernel
theorem dX4_man_48 : decode cX4_man 48 = .ok (.iload 4, 2) := by decide +kernel
theorem dX4_man_50 : decode cX4_man 50 = .ok (.invokevirtual 139, 3) := by decide +kernel
theorem dX4_man_53 : decode cX4_man 53 = .ok (.iload_n 3, 1) := by decide +kernel
theorem dX4_man_54 : decode cX4_man 54 = .ok (.if_icmp .le 12, 3) := by decide +kernel
theorem dX4_man_57 : decode cX4_man 57 = .ok (.aload_n 0, 1) := by decide +kernel
theorem dX4_man_58 : decode cX4_man 58 = .ok (.iload 4, 2) := by decide +kernel
theorem dX4_man_60 : decode cX4_man 60 = .ok (.invokevirtual 139, 3) := by decide +kernel
theorem dX4_man_63 : decode cX4_man 63 = .ok (.goto 4, 3) := by decide +kernel
theorem dX4_man_66 : decode cX4_man 66 = .ok (.iload_n 3, 1) := by decide +kernel
theorem dX4_man_67 : decode cX4_man 67 = .ok (.istore_n 3, 1) := by decide +kernel
theorem dX4_man_68 : decode cX4_man 68 = .ok (.iinc 4 1, 3) := by decide +kernel
theorem dX4_man_71 : decode cX4_man 71 = .ok (.goto (-43), 3) := by decide +kernel
theorem dX4_man_74 : decode cX4_man 74 = .ok (.iload_n 2, 1) := by decide +kernel
theorem dX4_man_75 : decode cX4_man 75 = .ok (.iconst 2, 1) := by decide +kernel
theorem dX4_man_76 : decode cX4_man 76 = .ok (.if_icmp .ge 16, 3) := by decide +kernel
theorem dX4_man_79 : decode cX4_man 79 = .ok (.aload_n 0, 1) := by decide +kernel
theorem dX4_man_80 : decode cX4_man 80 = .ok (.getfield 7, 3) := by decide +kernel
theorem dX4_man_83 : decode cX4_man 83 = .ok (.iconst 4, 1) := by decide +kernel
theorem dX4_man_84 : decode cX4_man 84 = .ok (.iload_n 2, 1) := by decide +kernel
theorem dX4_man_85 : decode cX4_man 85 = .ok (.imul, 1) := by decide +kernel
theorem dX4_man_86 : decode cX4_man 86 = .ok (.iload_n 1, 1) := by decide +kernel
theorem dX4_man_87 : decode cX4_man 87 = .ok (.iadd, 1) := by decide +kernel
theorem dX4_man_88 : decode cX4_man 88 = .ok (.iaload, 1) := by decide +kernel
theorem dX4_man_89 : decode cX4_man 89 = .ok (.goto 17, 3) := by decide +kernel
theorem dX4_man_92 : decode cX4_man 92 = .ok (.iload_n 2, 1) := by decide +kernel
theorem dX4_man_93 : decode cX4_man 93 = .ok (.iconst 2, 1) := by decide +kernel
theorem dX4_man_94 : decode cX4_man 94 = .ok (.if_icmp .ne 11, 3) := by decide +kernel
theorem dX4_man_97 : decode cX4_man 97 = .ok (.aload_n 0, 1) := by decide +kernel
theorem dX4_man_98 : decode cX4_man 98 = .ok (.iload_n 1, 1) := by decide +kernel
theorem dX4_man_99 : decode cX4_man 99 = .ok (.invokevirtual 155, 3) := by decide +kernel
theorem dX4_man_102 : decode cX4_man 102 = .ok (.goto 4, 3) := by decide +kernel
theorem dX4_man_105 : decode cX4_man 105 = .ok (.iload_n 3, 1) := by decide +kernel
theorem dX4_man_106 : decode cX4_man 106 = .ok (.ireturn, 1) := by decide +kernel
theorem dX4_orNone_0 : decode cX4_orNone 0 = .ok (.iload_n 0, 1) := by decide +kernel
theorem dX4_orNone_1 : decode cX4_orNone 1 = .ok (.ifCond .ge 8, 3) := by decide +kernel
theorem dX4_orNone_4 : decode cX4_orNone 4 = .ok (.bipush (-4), 2) := by decide +kernel
theorem dX4_orNone_6 : decode cX4_orNone 6 = .ok (.goto 4, 3) := by decide +kernel
theorem dX4_orNone_9 : decode cX4_orNone 9 = .ok (.iload_n 0, 1) := by decide +kernel
theorem dX4_orNone_10 : decode cX4_orNone 10 = .ok (.ireturn, 1) := by decide +kernel
theorem dX4_rota_0 : decode cX4_rota 0 = .ok (.iload_n 1, 1) := by decide +kernel
theorem dX4_rota_1 : decode cX4_rota 1 = .ok (.invokestatic 167, 3) := by decide +kernel
theorem dX4_rota_4 : decode cX4_rota 4 = .ok (.ifCond .eq 14, 3) := by decide +kernel
theorem dX4_rota_7 : decode cX4_rota 7 = .ok (.aload_n 0, 1) := by decide +kernel
theorem dX4_rota_8 : decode cX4_rota 8 = .ok (.iload_n 1, 1) := by decide +kernel
theorem dX4_rota_9 : decode cX4_rota 9 = .ok (.invokevirtual 136, 3) := by decide +kernel
theorem dX4_rota_12 : decode cX4_rota 12 = .ok (.invokestatic 170, 3) := by decide +kernel
theorem dX4_rota_15 : decode cX4_rota 15 = .ok (.goto 4, 3) := by decide +kernel
theorem dX4_rota_18 : decode cX4_rota 18 = .ok (.iconst (-1), 1) := by decide +kernel
theorem dX4_rota_19 : decode cX4_rota 19 = .ok (.ireturn, 1) := by decide +kernel
theorem dX4_deed_0 : decode cX4_deed 0 = .ok (.aload_n 0, 1) := by decide +kernel
theorem dX4_deed_1 : decode cX4_deed 1 = .ok (.iload_n 1, 1) := by decide +kernel
theorem dX4_deed_2 : decode cX4_deed 2 = .ok (.invokevirtual 173, 3) := by decide +kernel
theorem dX4_deed_5 : decode cX4_deed 5 = .ok (.ifCond .eq 15, 3) := by decide +kernel
theorem dX4_deed_8 : decode cX4_deed 8 = .ok (.iload_n 2, 1) := by decide +kernel
theorem dX4_deed_9 : decode cX4_deed 9 = .ok (.i2l, 1) := by decide +kernel
theorem dX4_deed_10 : decode cX4_deed 10 = .ok (.lconst 0, 1) := by decide +kernel
theorem dX4_deed_11 : decode cX4_deed 11 = .ok (.ldc2_w 165, 3) := by decide +kernel
theorem dX4_deed_14 : decode cX4_deed 14 = .ok (.invokestatic 49, 3) := by decide +kernel
theorem dX4_deed_17 : decode cX4_deed 17 = .ok (.ifCond .ne 5, 3) := by decide +kernel
theorem dX4_deed_20 : decode cX4_deed 20 = .ok (.iconst (-1), 1) := by decide +kernel
theorem dX4_deed_21 : decode cX4_deed 21 = .ok (.ireturn, 1) := by decide +kernel
theorem dX4_deed_22 : decode cX4_deed 22 = .ok (.aload_n 0, 1) := by decide +kernel
theorem dX4_deed_23 : decode cX4_deed 23 = .ok (.invokevirtual 149, 3) := by decide +kernel
theorem dX4_deed_26 : decode cX4_deed 26 = .ok (.iload_n 2, 1) := by decide +kernel
theorem dX4_deed_27 : decode cX4_deed 27 = .ok (.iconst 2, 1) := by decide +kernel
theorem dX4_deed_28 : decode cX4_deed 28 = .ok (.if_icmp .ge 19, 3) := by decide +kernel
theorem dX4_deed_31 : decode cX4_deed 31 = .ok (.aload_n 0, 1) := by decide +kernel
theorem dX4_deed_32 : decode cX4_deed 32 = .ok (.getfield 7, 3) := by decide +kernel
theorem dX4_deed_35 : decode cX4_deed 35 = .ok (.bipush 22, 2) := by decide +kernel
theorem dX4_deed_37 : decode cX4_deed 37 = .ok (.iconst 5, 1) := by decide +kernel
theorem dX4_deed_38 : decode cX4_deed 38 = .ok (.iload_n 2, 1) := by decide +kernel
theorem dX4_deed_39 : decode cX4_deed 39 = .ok (.imul, 1) := by decide +kernel
theorem dX4_deed_40 : decode cX4_deed 40 = .ok (.iadd, 1) := by decide +kernel
theorem dX4_deed_41 : decode cX4_deed 41 = .ok (.iload_n 1, 1) := by decide +kernel
theorem dX4_deed_42 : decode cX4_deed 42 = .ok (.iadd, 1) := by decide +kernel
theorem dX4_deed_43 : decode cX4_deed 43 = .ok (.iaload, 1) := by decide +kernel
theorem dX4_deed_44 : decode cX4_deed 44 = .ok (.goto 21, 3) := by decide +kernel
theorem dX4_deed_47 : decode cX4_deed 47 = .ok (.iload_n 2, 1) := by decide +kernel
theorem dX4_deed_48 : decode cX4_deed 48 = .ok (.iconst 2, 1) := by decide +kernel
theorem dX4_deed_49 : decode cX4_deed 49 = .ok (.if_icmp .ne 11, 3) := by decide +kernel
theorem dX4_deed_52 : decode cX4_deed 52 = .ok (.aload_n 0, 1) := by decide +kernel
theorem dX4_deed_53 : decode cX4_deed 53 = .ok (.iload_n 1, 1) := by decide +kernel
theorem dX4_deed_54 : decode cX4_deed 54 = .ok (.invokevirtual 146, 3) := by decide +kernel
theorem dX4_deed_57 : decode cX4_deed 57 = .ok (.goto 8, 3) := by decide +kernel
theorem dX4_deed_60 : decode cX4_deed 60 = .ok (.aload_n 0, 1) := by decide +kernel
theorem dX4_deed_61 : decode cX4_deed 61 = .ok (.iload_n 1, 1) := by decide +kernel
theorem dX4_deed_62 : decode cX4_deed 62 = .ok (.invokevirtual 152, 3) := by decide +kernel
theorem dX4_deed_65 : decode cX4_deed 65 = .ok (.ireturn, 1) := by decide +kernel
theorem dX4_puts_0 : decode cX4_puts 0 = .ok (.iload_n 1, 1) := by decide +kernel
theorem dX4_puts_1 : decode cX4_puts 1 = .ok (.ifCond .ne 5, 3) := by decide +kernel
theorem dX4_puts_4 : decode cX4_puts 4 = .ok (.iconst (-1), 1) := by decide +kernel
theorem dX4_puts_5 : decode cX4_puts 5 = .ok (.ireturn, 1) := by decide +kernel
theorem dX4_puts_6 : decode cX4_puts 6 = .ok (.aload_n 0, 1) := by decide +kernel
theorem dX4_puts_7 : decode cX4_puts 7 = .ok (.getfield 7, 3) := by decide +kernel
theorem dX4_puts_10 : decode cX4_puts 10 = .ok (.iload_n 2, 1) := by decide +kernel
theorem dX4_puts_11 : decode cX4_puts 11 = .ok (.iaload, 1) := by decide +kernel
theorem dX4_puts_12 : decode cX4_puts 12 = .ok (.iload 4, 2) := by decide +kernel
theorem dX4_puts_14 : decode cX4_puts 14 = .ok (.iadd, 1) := by decide +kernel
theorem dX4_puts_15 : decode cX4_puts 15 = .ok (.istore 5, 2) := by decide +kernel
theorem dX4_puts_17 : decode cX4_puts 17 = .ok (.aload_n 0, 1) := by decide +kernel
theorem dX4_puts_18 : decode cX4_puts 18 = .ok (.getfield 7, 3) := by decide +kernel
theorem dX4_puts_21 : decode cX4_puts 21 = .ok (.iload_n 2, 1) := by decide +kernel
theorem dX4_puts_22 : decode cX4_puts 22 = .ok (.iload_n 3, 1) := by decide +kernel
theorem dX4_puts_23 : decode cX4_puts 23 = .ok (.iload 4, 2) := by decide +kernel
theorem dX4_puts_25 : decode cX4_puts 25 = .ok (.isub, 1) := by decide +kernel
theorem dX4_puts_26 : decode cX4_puts 26 = .ok (.iastore, 1) := by decide +kernel
theorem dX4_puts_27 : decode cX4_puts 27 = .ok (.iload 5, 2) := by decide +kernel
theorem dX4_puts_29 : decode cX4_puts 29 = .ok (.ireturn, 1) := by decide +kernel
theorem dX4_alter_0 : decode cX4_alter 0 = .ok (.aload_n 0, 1) := by decide +kernel
theorem dX4_alter_1 : decode cX4_alter 1 = .ok (.aload_n 0, 1) := by decide +kernel
theorem dX4_alter_2 : decode cX4_alter 2 = .ok (.iload_n 1, 1) := by decide +kernel
theorem dX4_alter_3 : decode cX4_alter 3 = .ok (.invokevirtual 161, 3) := by decide +kernel
theorem dX4_alter_6 : decode cX4_alter 6 = .ok (.ifCond .eq 40, 3) := by decide +kernel
theorem dX4_alter_9 : decode cX4_alter 9 = .ok (.iload_n 2, 1) := by decide +kernel
theorem dX4_alter_10 : decode cX4_alter 10 = .ok (.ifCond .ne 15, 3) := by decide +kernel
theorem dX4_alter_13 : decode cX4_alter 13 = .ok (.iload_n 3, 1) := by decide +kernel
theorem dX4_alter_14 : decode cX4_alter 14 = .ok (.i2l, 1) := by decide +kernel
theorem dX4_alter_15 : decode cX4_alter 15 = .ok (.lconst 0, 1) := by decide +kernel
theorem dX4_alter_16 : decode cX4_alter 16 = .ok (.ldc2_w 165, 3) := by decide +kernel
theorem dX4_alter_19 : decode cX4_alter 19 = .ok (.invokestatic 49, 3) := by decide +kernel
theorem dX4_alter_22 : decode cX4_alter 22 = .ok (.ifCond .ne 20, 3) := by decide +kernel
theorem dX4_alter_25 : decode cX4_alter 25 = .ok (.iload_n 2, 1) := by decide +kernel
theorem dX4_alter_26 : decode cX4_alter 26 = .ok (.iconst 1, 1) := by decide +kernel
theorem dX4_alter_27 : decode cX4_alter 27 = .ok (.if_icmp .ne 19, 3) := by decide +kernel
theorem dX4_alter_30 : decode cX4_alter 30 = .ok (.iload_n 3, 1) := by decide +kernel
theorem dX4_alter_31 : decode cX4_alter 31 = .ok (.i2l, 1) := by decide +kernel
theorem dX4_alter_32 : decode cX4_alter 32 = .ok (.lconst 0, 1) := by decide +kernel
theorem dX4_alter_33 : decode cX4_alter 33 = .ok (.ldc2_w 176, 3) := by decide +kernel
theorem dX4_alter_36 : decode cX4_alter 36 = .ok (.invokestatic 49, 3) := by decide +kernel
theorem dX4_alter_39 : decode cX4_alter 39 = .ok (.ifCond .eq 7, 3) := by decide +kernel
theorem dX4_alter_42 : decode cX4_alter 42 = .ok (.iconst 1, 1) := by decide +kernel
theorem dX4_alter_43 : decode cX4_alter 43 = .ok (.goto 4, 3) := by decide +kernel
theorem dX4_alter_46 : decode cX4_alter 46 = .ok (.iconst 0, 1) := by decide +kernel
theorem dX4_alter_47 : decode cX4_alter 47 = .ok (.iconst 4, 1) := by decide +kernel
theorem dX4_alter_48 : decode cX4_alter 48 = .ok (.iload_n 2, 1) := by decide +kernel
theorem dX4_alter_49 : decode cX4_alter 49 = .ok (.imul, 1) := by decide +kernel
theorem dX4_alter_50 : decode cX4_alter 50 = .ok (.iload_n 1, 1) := by decide +kernel
theorem dX4_alter_51 : decode cX4_alter 51 = .ok (.iadd, 1) := by decide +kernel
theorem dX4_alter_52 : decode cX4_alter 52 = .ok (.iload_n 3, 1) := by decide +kernel
theorem dX4_alter_53 : decode cX4_alter 53 = .ok (.iconst 0, 1) := by decide +kernel
theorem dX4_alter_54 : decode cX4_alter 54 = .ok (.invokevirtual 178, 3) := by decide +kernel
theorem dX4_alter_57 : decode cX4_alter 57 = .ok (.ireturn, 1) := by decide +kernel
theorem dX4_move_0 : decode cX4_move 0 = .ok (.aload_n 0, 1) := by decide +kernel
theorem dX4_move_1 : decode cX4_move 1 = .ok (.aload_n 0, 1) := by decide +kernel
theorem dX4_move_2 : decode cX4_move 2 = .ok (.iload_n 1, 1) := by decide +kernel
theorem dX4_move_3 : decode cX4_move 3 = .ok (.invokevirtual 173, 3) := by decide +kernel
theorem dX4_move_6 : decode cX4_move 6 = .ok (.ifCond .eq 40, 3) := by decide +kernel
theorem dX4_move_9 : decode cX4_move 9 = .ok (.iload_n 2, 1) := by decide +kernel
theorem dX4_move_10 : decode cX4_move 10 = .ok (.ifCond .ne 15, 3) := by decide +kernel
theorem dX4_move_13 : decode cX4_move 13 = .ok (.iload_n 3, 1) := by decide +kernel
theorem dX4_move_14 : decode cX4_move 14 = .ok (.i2l, 1) := by decide +kernel
theorem dX4_move_15 : decode cX4_move 15 = .ok (.lconst 0, 1) := by decide +kernel
theorem dX4_move_16 : decode cX4_move 16 = .ok (.ldc2_w 182, 3) := by decide +kernel
theorem dX4_move_19 : decode cX4_move 19 = .ok (.invokestatic 49, 3) := by decide +kernel
theorem dX4_move_22 : decode cX4_move 22 = .ok (.ifCond .ne 20, 3) := by decide +kernel
theorem dX4_move_25 : decode cX4_move 25 = .ok (.iload_n 2, 1) := by decide +kernel
theorem dX4_move_26 : decode cX4_move 26 = .ok (.iconst 1, 1) := by decide +kernel
theorem dX4_move_27 : decode cX4_move 27 = .ok (.if_icmp .ne 19, 3) := by decide +kernel
theorem dX4_move_30 : decode cX4_move 30 = .ok (.iload_n 3, 1) := by decide +kernel
theorem dX4_move_31 : decode cX4_move 31 = .ok (.i2l, 1) := by decide +kernel
theorem dX4_move_32 : decode cX4_move 32 = .ok (.lconst 1, 1) := by decide +kernel
theorem dX4_move_33 : decode cX4_move 33 = .ok (.ldc2_w 184, 3) := by decide +kernel
theorem dX4_move_36 : decode cX4_move 36 = .ok (.invokestatic 49, 3) := by decide +kernel
theorem dX4_move_39 : decode cX4_move 39 = .ok (.ifCond .eq 7, 3) := by decide +kernel
theorem dX4_move_42 : decode cX4_move 42 = .ok (.iconst 1, 1) := by decide +kernel
theorem dX4_move_43 : decode cX4_move 43 = .ok (.goto 4, 3) := by decide +kernel
theorem dX4_move_46 : decode cX4_move 46 = .ok (.iconst 0, 1) := by decide +kernel
theorem dX4_move_47 : decode cX4_move 47 = .ok (.bipush 22, 2) := by decide +kernel
theorem dX4_move_49 : decode cX4_move 49 = .ok (.iconst 5, 1) := by decide +kernel
theorem dX4_move_50 : decode cX4_move 50 = .ok (.iload_n 2, 1) := by decide +kernel
theorem dX4_move_51 : decode cX4_move 51 = .ok (.imul, 1) := by decide +kernel
theorem dX4_move_52 : decode cX4_move 52 = .ok (.iadd, 1) := by decide +kernel
theorem dX4_move_53 : decode cX4_move 53 = .ok (.iload_n 1, 1) := by decide +kernel
theorem dX4_move_54 : decode cX4_move 54 = .ok (.iadd, 1) := by decide +kernel
theorem dX4_move_55 : decode cX4_move 55 = .ok (.iload_n 3, 1) := by decide +kernel
theorem dX4_move_56 : decode cX4_move 56 = .ok (.iconst 0, 1) := by decide +kernel
theorem dX4_move_57 : decode cX4_move 57 = .ok (.invokevirtual 178, 3) := by decide +kernel
theorem dX4_move_60 : decode cX4_move 60 = .ok (.ireturn, 1) := by decide +kernel
theorem dX4_shifts_0 : decode cX4_shifts 0 = .ok (.iload_n 1, 1) := by decide +kernel
theorem dX4_shifts_1 : decode cX4_shifts 1 = .ok (.invokestatic 167, 3) := by decide +kernel
theorem dX4_shifts_4 : decode cX4_shifts 4 = .ok (.ifCond .eq 17, 3) := by decide +kernel
theorem dX4_shifts_7 : decode cX4_shifts 7 = .ok (.iload_n 2, 1) := by decide +kernel
theorem dX4_shifts_8 : decode cX4_shifts 8 = .ok (.bipush (-4), 2) := by decide +kernel
theorem dX4_shifts_10 : decode cX4_shifts 10 = .ok (.if_icmp .eq 13, 3) := by decide +kernel
theorem dX4_shifts_13 : decode cX4_shifts 13 = .ok (.aload_n 0, 1) := by decide +kernel
theorem dX4_shifts_14 : decode cX4_shifts 14 = .ok (.iload_n 2, 1) := by decide +kernel
theorem dX4_shifts_15 : decode cX4_shifts 15 = .ok (.invokevirtual 161, 3) := by decide +kernel
theorem dX4_shifts_18 : decode cX4_shifts 18 = .ok (.ifCond .ne 5, 3) := by decide +kernel
theorem dX4_shifts_21 : decode cX4_shifts 21 = .ok (.iconst (-1), 1) := by decide +kernel
theorem dX4_shifts_22 : decode cX4_shifts 22 = .ok (.ireturn, 1) := by decide +kernel
theorem dX4_shifts_23 : decode cX4_shifts 23 = .ok (.aload_n 0, 1) := by decide +kernel
theorem dX4_shifts_24 : decode cX4_shifts 24 = .ok (.iload_n 1, 1) := by decide +kernel
theorem dX4_shifts_25 : decode cX4_shifts 25 = .ok (.invokevirtual 136, 3) := by decide +kernel
theorem dX4_shifts_28 : decode cX4_shifts 28 = .ok (.istore_n 3, 1) := by decide +kernel
theorem dX4_shifts_29 : decode cX4_shifts 29 = .ok (.aload_n 0, 1) := by decide +kernel
theorem dX4_shifts_30 : decode cX4_shifts 30 = .ok (.getfield 7, 3) := by decide +kernel
theorem dX4_shifts_33 : decode cX4_shifts 33 = .ok (.bipush 8, 2) := by decide +kernel
theorem dX4_shifts_35 : decode cX4_shifts 35 = .ok (.iload_n 1, 1) := by decide +kernel
theorem dX4_shifts_36 : decode cX4_shifts 36 = .ok (.iadd, 1) := by decide +kernel
theorem dX4_shifts_37 : decode cX4_shifts 37 = .ok (.iload_n 2, 1) := by decide +kernel
theorem dX4_shifts_38 : decode cX4_shifts 38 = .ok (.bipush (-4), 2) := by decide +kernel
theorem dX4_shifts_40 : decode cX4_shifts 40 = .ok (.if_icmp .ne 7, 3) := by decide +kernel
theorem dX4_shifts_43 : decode cX4_shifts 43 = .ok (.iconst 0, 1) := by decide +kernel
theorem dX4_shifts_44 : decode cX4_shifts 44 = .ok (.goto 6, 3) := by decide +kernel
theorem dX4_shifts_47 : decode cX4_shifts 47 = .ok (.iload_n 2, 1) := by decide +kernel
theorem dX4_shifts_48 : decode cX4_shifts 48 = .ok (.iconst 1, 1) := by decide +kernel
theorem dX4_shifts_49 : decode cX4_shifts 49 = .ok (.iadd, 1) := by decide +kernel
theorem dX4_shifts_50 : decode cX4_shifts 50 = .ok (.iastore, 1) := by decide +kernel
theorem dX4_shifts_51 : decode cX4_shifts 51 = .ok (.iload_n 3, 1) := by decide +kernel
theorem dX4_shifts_52 : decode cX4_shifts 52 = .ok (.invokestatic 170, 3) := by decide +kernel
theorem dX4_shifts_55 : decode cX4_shifts 55 = .ok (.ireturn, 1) := by decide +kernel
theorem dX4_shift_0 : decode cX4_shift 0 = .ok (.aload_n 0, 1) := by decide +kernel
theorem dX4_shift_1 : decode cX4_shift 1 = .ok (.iload_n 1, 1) := by decide +kernel
theorem dX4_shift_2 : decode cX4_shift 2 = .ok (.iload_n 2, 1) := by decide +kernel
theorem dX4_shift_3 : decode cX4_shift 3 = .ok (.invokevirtual 186, 3) := by decide +kernel
theorem dX4_shift_6 : decode cX4_shift 6 = .ok (.ireturn, 1) := by decide +kernel
theorem dX4_cloud_0 : decode cX4_cloud 0 = .ok (.iload_n 1, 1) := by decide +kernel
theorem dX4_cloud_1 : decode cX4_cloud 1 = .ok (.invokestatic 167, 3) := by decide +kernel
theorem dX4_cloud_4 : decode cX4_cloud 4 = .ok (.ifCond .ne 5, 3) := by decide +kernel
theorem dX4_cloud_7 : decode cX4_cloud 7 = .ok (.iconst (-1), 1) := by decide +kernel
theorem dX4_cloud_8 : decode cX4_cloud 8 = .ok (.ireturn, 1) := by decide +kernel
theorem dX4_cloud_9 : decode cX4_cloud 9 = .ok (.aload_n 0, 1) := by decide +kernel
theorem dX4_cloud_10 : decode cX4_cloud 10 = .ok (.getfield 7, 3) := by decide +kernel
theorem dX4_cloud_13 : decode cX4_cloud 13 = .ok (.bipush 20, 2) := by decide +kernel
theorem dX4_cloud_15 : decode cX4_cloud 15 = .ok (.iaload, 1) := by decide +kernel
theorem dX4_cloud_16 : decode cX4_cloud 16 = .ok (.iload_n 1, 1) := by decide +kernel
theorem dX4_cloud_17 : decode cX4_cloud 17 = .ok (.ishr, 1) := by decide +kernel
theorem dX4_cloud_18 : decode cX4_cloud 18 = .ok (.iconst 1, 1) := by decide +kernel
theorem dX4_cloud_19 : decode cX4_cloud 19 = .ok (.iand, 1) := by decide +kernel
theorem dX4_cloud_20 : decode cX4_cloud 20 = .ok (.istore_n 3, 1) := by decide +kernel
theorem dX4_cloud_21 : decode cX4_cloud 21 = .ok (.aload_n 0, 1) := by decide +kernel
theorem dX4_cloud_22 : decode cX4_cloud 22 = .ok (.getfield 7, 3) := by decide +kernel
theorem dX4_cloud_25 : decode cX4_cloud 25 = .ok (.bipush 20, 2) := by decide +kernel
theorem dX4_cloud_27 : decode cX4_cloud 27 = .ok (.aload_n 0, 1) := by decide +kernel
theorem dX4_cloud_28 : decode cX4_cloud 28 = .ok (.getfield 7, 3) := by decide +kernel
theorem dX4_cloud_31 : decode cX4_cloud 31 = .ok (.bipush 20, 2) := by decide +kernel
theorem dX4_cloud_33 : decode cX4_cloud 33 = .ok (.iaload, 1) := by decide +kernel
theorem dX4_cloud_34 : decode cX4_cloud 34 = .ok (.iconst 1, 1) := by decide +kernel
theorem dX4_cloud_35 : decode cX4_cloud 35 = .ok (.iload_n 1, 1) := by decide +kernel
theorem dX4_cloud_36 : decode cX4_cloud 36 = .ok (.ishl, 1) := by decide +kernel
theorem dX4_cloud_37 : decode cX4_cloud 37 = .ok (.iconst (-1), 1) := by decide +kernel
theorem dX4_cloud_38 : decode cX4_cloud 38 = .ok (.ixor, 1) := by decide +kernel
theorem dX4_cloud_39 : decode cX4_cloud 39 = .ok (.iand, 1) := by decide +kernel
theorem dX4_cloud_40 : decode cX4_cloud 40 = .ok (.iload_n 2, 1) := by decide +kernel
theorem dX4_cloud_41 : decode cX4_cloud 41 = .ok (.ifCond .eq 9, 3) := by decide +kernel
theorem dX4_cloud_44 : decode cX4_cloud 44 = .ok (.iconst 1, 1) := by decide +kernel
theorem dX4_cloud_45 : decode cX4_cloud 45 = .ok (.iload_n 1, 1) := by decide +kernel
theorem dX4_cloud_46 : decode cX4_cloud 46 = .ok (.ishl, 1) := by decide +kernel
theorem dX4_cloud_47 : decode cX4_cloud 47 = .ok (.goto 4, 3) := by decide +kernel
theorem dX4_cloud_50 : decode cX4_cloud 50 = .ok (.iconst 0, 1) := by decide +kernel
theorem dX4_cloud_51 : decode cX4_cloud 51 = .ok (.ior, 1) := by decide +kernel
theorem dX4_cloud_52 : decode cX4_cloud 52 = .ok (.iastore, 1) := by decide +kernel
theorem dX4_cloud_53 : decode cX4_cloud 53 = .ok (.iload_n 3, 1) := by decide +kernel
theorem dX4_cloud_54 : decode cX4_cloud 54 = .ok (.ireturn, 1) := by decide +kernel
theorem dX4_paint_0 : decode cX4_paint 0 = .ok (.aload_n 0, 1) := by decide +kernel
theorem dX4_paint_1 : decode cX4_paint 1 = .ok (.iload_n 1, 1) := by decide +kernel
theorem dX4_paint_2 : decode cX4_paint 2 = .ok (.i2l, 1) := by decide +kernel
theorem dX4_paint_3 : decode cX4_paint 3 = .ok (.lconst 0, 1) := by decide +kernel
theorem dX4_paint_4 : decode cX4_paint 4 = .ok (.ldc2_w 176, 3) := by decide +kernel
theorem dX4_paint_7 : decode cX4_paint 7 = .ok (.invokestatic 49, 3) := by decide +kernel
theorem dX4_paint_10 : decode cX4_paint 10 = .ok (.bipush 21, 2) := by decide +kernel
theorem dX4_paint_12 : decode cX4_paint 12 = .ok (.iload_n 1, 1) := by decide +kernel
theorem dX4_paint_13 : decode cX4_paint 13 = .ok (.iconst 3, 1) := by decide +kernel
theorem dX4_paint_14 : decode cX4_paint 14 = .ok (.invokevirtual 178, 3) := by decide +kernel
theorem dX4_paint_17 : decode cX4_paint 17 = .ok (.ireturn, 1) := by decide +kernel
theorem dX4_want_0 : decode cX4_want 0 = .ok (.iload_n 1, 1) := by decide +kernel
theorem dX4_want_1 : decode cX4_want 1 = .ok (.i2l, 1) := by decide +kernel
theorem dX4_want_2 : decode cX4_want 2 = .ok (.lconst 0, 1) := by decide +kernel
theorem dX4_want_3 : decode cX4_want 3 = .ok (.ldc2_w 182, 3) := by decide +kernel
theorem dX4_want_6 : decode cX4_want 6 = .ok (.invokestatic 49, 3) := by decide +kernel
theorem dX4_want_9 : decode cX4_want 9 = .ok (.ifCond .eq 15, 3) := by decide +kernel
theorem dX4_want_12 : decode cX4_want 12 = .ok (.iload_n 2, 1) := by decide +kernel
theorem dX4_want_13 : decode cX4_want 13 = .ok (.i2l, 1) := by decide +kernel
theorem dX4_want_14 : decode cX4_want 14 = .ok (.lconst 1, 1) := by decide +kernel
theorem dX4_want_15 : decode cX4_want 15 = .ok (.ldc2_w 184, 3) := by decide +kernel
theorem dX4_want_18 : decode cX4_want 18 = .ok (.invokestatic 49, 3) := by decide +kernel
theorem dX4_want_21 : decode cX4_want 21 = .ok (.ifCond .ne 5, 3) := by decide +kernel
theorem dX4_want_24 : decode cX4_want 24 = .ok (.iconst (-1), 1) := by decide +kernel
theorem dX4_want_25 : decode cX4_want 25 = .ok (.ireturn, 1) := by decide +kernel
theorem dX4_want_26 : decode cX4_want 26 = .ok (.aload_n 0, 1) := by decide +kernel
theorem dX4_want_27 : decode cX4_want 27 = .ok (.getfield 7, 3) := by decide +kernel
theorem dX4_want_30 : decode cX4_want 30 = .ok (.bipush 32, 2) := by decide +kernel
theorem dX4_want_32 : decode cX4_want 32 = .ok (.iaload, 1) := by decide +kernel
theorem dX4_want_33 : decode cX4_want 33 = .ok (.iconst 5, 1) := by decide +kernel
theorem dX4_want_34 : decode cX4_want 34 = .ok (.if_icmp .ne 6, 3) := by decide +kernel
theorem dX4_want_37 : decode cX4_want 37 = .ok (.bipush (-3), 2) := by decide +kernel
theorem dX4_want_39 : decode cX4_want 39 = .ok (.ireturn, 1) := by decide +kernel
theorem dX4_want_40 : decode cX4_want 40 = .ok (.aload_n 0, 1) := by decide +kernel
theorem dX4_want_41 : decode cX4_want 41 = .ok (.getfield 7, 3) := by decide +kernel
theorem dX4_want_44 : decode cX4_want 44 = .ok (.bipush 22, 2) := by decide +kernel
theorem dX4_want_46 : decode cX4_want 46 = .ok (.aload_n 0, 1) := by decide +kernel
theorem dX4_want_47 : decode cX4_want 47 = .ok (.getfield 7, 3) := by decide +kernel
theorem dX4_want_50 : decode cX4_want 50 = .ok (.bipush 32, 2) := by decide +kernel
theorem dX4_want_52 : decode cX4_want 52 = .ok (.iaload, 1) := by decide +kernel
theorem dX4_want_53 : decode cX4_want 53 = .ok (.iadd, 1) := by decide +kernel
theorem dX4_want_54 : decode cX4_want 54 = .ok (.iload_n 1, 1) := by decide +kernel
theorem dX4_want_55 : decode cX4_want 55 = .ok (.iastore, 1) := by decide +kernel
theorem dX4_want_56 : decode cX4_want 56 = .ok (.aload_n 0, 1) := by decide +kernel
theorem dX4_want_57 : decode cX4_want 57 = .ok (.getfield 7, 3) := by decide +kernel
theorem dX4_want_60 : decode cX4_want 60 = .ok (.bipush 27, 2) := by decide +kernel
theorem dX4_want_62 : decode cX4_want 62 = .ok (.aload_n 0, 1) := by decide +kernel
theorem dX4_want_63 : decode cX4_want 63 = .ok (.getfield 7, 3) := by decide +kernel
theorem dX4_want_66 : decode cX4_want 66 = .ok (.bipush 32, 2) := by decide +kernel
theorem dX4_want_68 : decode cX4_want 68 = .ok (.iaload, 1) := by decide +kernel
theorem dX4_want_69 : decode cX4_want 69 = .ok (.iadd, 1) := by decide +kernel
theorem dX4_want_70 : decode cX4_want 70 = .ok (.iload_n 2, 1) := by decide +kernel
theorem dX4_want_71 : decode cX4_want 71 = .ok (.iastore, 1) := by decide +kernel
theorem dX4_want_72 : decode cX4_want 72 = .ok (.aload_n 0, 1) := by decide +kernel
theorem dX4_want_73 : decode cX4_want 73 = .ok (.getfield 7, 3) := by decide +kernel
theorem dX4_want_76 : decode cX4_want 76 = .ok (.bipush 32, 2) := by decide +kernel
theorem dX4_want_78 : decode cX4_want 78 = .ok (.dup2, 1) := by decide +kernel
theorem dX4_want_79 : decode cX4_want 79 = .ok (.iaload, 1) := by decide +kernel
theorem dX4_want_80 : decode cX4_want 80 = .ok (.iconst 1, 1) := by decide +kernel
theorem dX4_want_81 : decode cX4_want 81 = .ok (.iadd, 1) := by decide +kernel
theorem dX4_want_82 : decode cX4_want 82 = .ok (.iastore, 1) := by decide +kernel
theorem dX4_want_83 : decode cX4_want 83 = .ok (.aload_n 0, 1) := by decide +kernel
theorem dX4_want_84 : decode cX4_want 84 = .ok (.getfield 7, 3) := by decide +kernel
theorem dX4_want_87 : decode cX4_want 87 = .ok (.bipush 32, 2) := by decide +kernel
theorem dX4_want_89 : decode cX4_want 89 = .ok (.iaload, 1) := by decide +kernel
theorem dX4_want_90 : decode cX4_want 90 = .ok (.ireturn, 1) := by decide +kernel
theorem dX4_drop_0 : decode cX4_drop 0 = .ok (.aload_n 0, 1) := by decide +kernel
theorem dX4_drop_1 : decode cX4_drop 1 = .ok (.iload_n 1, 1) := by decide +kernel
theorem dX4_drop_2 : decode cX4_drop 2 = .ok (.i2l, 1) := by decide +kernel
theorem dX4_drop_3 : decode cX4_drop 3 = .ok (.lconst 0, 1) := by decide +kernel
theorem dX4_drop_4 : decode cX4_drop 4 = .ok (.aload_n 0, 1) := by decide +kernel
theorem dX4_drop_5 : decode cX4_drop 5 = .ok (.getfield 7, 3) := by decide +kernel
theorem dX4_drop_8 : decode cX4_drop 8 = .ok (.bipush 32, 2) := by decide +kernel
theorem dX4_drop_10 : decode cX4_drop 10 = .ok (.iaload, 1) := by decide +kernel
theorem dX4_drop_11 : decode cX4_drop 11 = .ok (.i2l, 1) := by decide +kernel
theorem dX4_drop_12 : decode cX4_drop 12 = .ok (.invokestatic 49, 3) := by decide +kernel
theorem dX4_drop_15 : decode cX4_drop 15 = .ok (.bipush 32, 2) := by decide +kernel
theorem dX4_drop_17 : decode cX4_drop 17 = .ok (.iload_n 1, 1) := by decide +kernel
theorem dX4_drop_18 : decode cX4_drop 18 = .ok (.iconst 0, 1) := by decide +kernel
theorem dX4_drop_19 : decode cX4_drop 19 = .ok (.invokevirtual 178, 3) := by decide +kernel
theorem dX4_drop_22 : decode cX4_drop 22 = .ok (.ireturn, 1) := by decide +kernel
theorem dX4_shows_0 : decode cX4_shows 0 = .ok (.iload_n 1, 1) := by decide +kernel
theorem dX4_shows_1 : decode cX4_shows 1 = .ok (.i2l, 1) := by decide +kernel
theorem dX4_shows_2 : decode cX4_shows 2 = .ok (.lconst 0, 1) := by decide +kernel
theorem dX4_shows_3 : decode cX4_shows 3 = .ok (.ldc2_w 182, 3) := by decide +kernel
theorem dX4_shows_6 : decode cX4_shows 6 = .ok (.invokestatic 49, 3) := by decide +kernel
theorem dX4_shows_9 : decode cX4_shows 9 = .ok (.ifCond .ne 5, 3) := by decide +kernel
theorem dX4_shows_12 : decode cX4_shows 12 = .ok (.iconst (-1), 1) := by decide +kernel
theorem dX4_shows_13 : decode cX4_shows 13 = .ok (.ireturn, 1) := by decide +kernel
theorem dX4_shows_14 : decode cX4_shows 14 = .ok (.aload_n 0, 1) := by decide +kernel
theorem dX4_shows_15 : decode cX4_shows 15 = .ok (.invokevirtual 149, 3) := by decide +kernel
theorem dX4_shows_18 : decode cX4_shows 18 = .ok (.aload_n 0, 1) := by decide +kernel
theorem dX4_shows_19 : decode cX4_shows 19 = .ok (.getfield 25, 3) := by decide +kernel
theorem dX4_shows_22 : decode cX4_shows 22 = .ok (.iload_n 1, 1) := by decide +kernel
theorem dX4_shows_23 : decode cX4_shows 23 = .ok (.iaload, 1) := by decide +kernel
theorem dX4_shows_24 : decode cX4_shows 24 = .ok (.ireturn, 1) := by decide +kernel
theorem dX4_lost_0 : decode cX4_lost 0 = .ok (.iload_n 1, 1) := by decide +kernel
theorem dX4_lost_1 : decode cX4_lost 1 = .ok (.i2l, 1) := by decide +kernel
theorem dX4_lost_2 : decode cX4_lost 2 = .ok (.lconst 0, 1) := by decide +kernel
theorem dX4_lost_3 : decode cX4_lost 3 = .ok (.lconst 1, 1) := by decide +kernel
theorem dX4_lost_4 : decode cX4_lost 4 = .ok (.invokestatic 49, 3) := by decide +kernel
theorem dX4_lost_7 : decode cX4_lost 7 = .ok (.ifCond .ne 5, 3) := by decide +kernel
theorem dX4_lost_10 : decode cX4_lost 10 = .ok (.iconst (-1), 1) := by decide +kernel
theorem dX4_lost_11 : decode cX4_lost 11 = .ok (.ireturn, 1) := by decide +kernel
theorem dX4_lost_12 : decode cX4_lost 12 = .ok (.aload_n 0, 1) := by decide +kernel
theorem dX4_lost_13 : decode cX4_lost 13 = .ok (.invokevirtual 149, 3) := by decide +kernel
theorem dX4_lost_16 : decode cX4_lost 16 = .ok (.bipush (-4), 2) := by decide +kernel
theorem dX4_lost_18 : decode cX4_lost 18 = .ok (.istore_n 2, 1) := by decide +kernel
theorem dX4_lost_19 : decode cX4_lost 19 = .ok (.iconst 0, 1) := by decide +kernel
theorem dX4_lost_20 : decode cX4_lost 20 = .ok (.istore_n 3, 1) := by decide +kernel
theorem dX4_lost_21 : decode cX4_lost 21 = .ok (.bipush (-4), 2) := by decide +kernel
theorem dX4_lost_23 : decode cX4_lost 23 = .ok (.istore 4, 2) := by decide +kernel
theorem dX4_lost_25 : decode cX4_lost 25 = .ok (.iconst 0, 1) := by decide +kernel
theorem dX4_lost_26 : decode cX4_lost 26 = .ok (.istore 5, 2) := by decide +kernel
theorem dX4_lost_28 : decode cX4_lost 28 = .ok (.iload 5, 2) := by decide +kernel
theorem dX4_lost_30 : decode cX4_lost 30 = .ok (.bipush 48, 2) := by decide +kernel
theorem dX4_lost_32 : decode cX4_lost 32 = .ok (.if_icmp .ge 94, 3) := by decide +kernel
theorem dX4_lost_35 : decode cX4_lost 35 = .ok (.aload_n 0, 1) := by decide +kernel
theorem dX4_lost_36 : decode cX4_lost 36 = .ok (.getfield 25, 3) := by decide +kernel
theorem dX4_lost_39 : decode cX4_lost 39 = .ok (.iload 5, 2) := by decide +kernel
theorem dX4_lost_41 : decode cX4_lost 41 = .ok (.iaload, 1) := by decide +kernel
theorem dX4_lost_42 : decode cX4_lost 42 = .ok (.bipush (-4), 2) := by decide +kernel
theorem dX4_lost_44 : decode cX4_lost 44 = .ok (.if_icmp .eq 18, 3) := by decide +kernel
theorem dX4_lost_47 : decode cX4_lost 47 = .ok (.aload_n 0, 1) := by decide +kernel
theorem dX4_lost_48 : decode cX4_lost 48 = .ok (.getfield 25, 3) := by decide +kernel
theorem dX4_lost_51 : decode cX4_lost 51 = .ok (.iload 5, 2) := by decide +kernel
theorem dX4_lost_53 : decode cX4_lost 53 = .ok (.iaload, 1) := by decide +kernel
theorem dX4_lost_54 : decode cX4_lost 54 = .ok (.iload_n 2, 1) := by decide +kernel
theorem dX4_lost_55 : decode cX4_lost 55 = .ok (.if_icmp .ge 7, 3) := by decide +kernel
theorem dX4_lost_58 : decode cX4_lost 58 = .ok (.iconst 1, 1) := by decide +kernel
theorem dX4_lost_59 : decode cX4_lost 59 = .ok (.goto 4, 3) := by decide +kernel
theorem dX4_lost_62 : decode cX4_lost 62 = .ok (.iconst 0, 1) := by decide +kernel
theorem dX4_lost_63 : decode cX4_lost 63 = .ok (.istore 6, 2) := by decide +kernel
theorem dX4_lost_65 : decode cX4_lost 65 = .ok (.iload 6, 2) := by decide +kernel
theorem dX4_lost_67 : decode cX4_lost 67 = .ok (.ifCond .eq 12, 3) := by decide +kernel
theorem dX4_lost_70 : decode cX4_lost 70 = .ok (.iload_n 3, 1) := by decide +kernel
theorem dX4_lost_71 : decode cX4_lost 71 = .ok (.ifCond .ne 8, 3) := by decide +kernel
theorem dX4_lost_74 : decode cX4_lost 74 = .ok (.iload 5, 2) := by decide +kernel
theorem dX4_lost_76 : decode cX4_lost 76 = .ok (.goto 5, 3) := by decide +kernel
theorem dX4_lost_79 : decode cX4_lost 79 = .ok (.iload 4, 2) := by decide +kernel
theorem dX4_lost_81 : decode cX4_lost 81 = .ok (.istore 4, 2) := by decide +kernel
theorem dX4_lost_83 : decode cX4_lost 83 = .ok (.iload_n 3, 1) := by decide +kernel
theorem dX4_lost_84 : decode cX4_lost 84 = .ok (.iload 6, 2) := by decide +kernel
theorem dX4_lost_86 : decode cX4_lost 86 = .ok (.ifCond .eq 7, 3) := by decide +kernel
theorem dX4_lost_89 : decode cX4_lost 89 = .ok (.iconst 1, 1) := by decide +kernel
theorem dX4_lost_90 : decode cX4_lost 90 = .ok (.goto 4, 3) := by decide +kernel
theorem dX4_lost_93 : decode cX4_lost 93 = .ok (.iconst 0, 1) := by decide +kernel
theorem dX4_lost_94 : decode cX4_lost 94 = .ok (.iadd, 1) := by decide +kernel
theorem dX4_lost_95 : decode cX4_lost 95 = .ok (.istore_n 3, 1) := by decide +kernel
theorem dX4_lost_96 : decode cX4_lost 96 = .ok (.aload_n 0, 1) := by decide +kernel
theorem dX4_lost_97 : decode cX4_lost 97 = .ok (.getfield 25, 3) := by decide +kernel
theorem dX4_lost_100 : decode cX4_lost 100 = .ok (.iload 5, 2) := by decide +kernel
theorem dX4_lost_102 : decode cX4_lost 102 = .ok (.iaload, 1) := by decide +kernel
theorem dX4_lost_103 : decode cX4_lost 103 = .ok (.bipush (-4), 2) := by decide +kernel
theorem dX4_lost_105 : decode cX4_lost 105 = .ok (.if_icmp .ne 7, 3) := by decide +kernel
theorem dX4_lost_108 : decode cX4_lost 108 = .ok (.iload_n 2, 1) := by decide +kernel
theorem dX4_lost_109 : decode cX4_lost 109 = .ok (.goto 10, 3) := by decide +kernel
theorem dX4_lost_112 : decode cX4_lost 112 = .ok (.aload_n 0, 1) := by decide +kernel
theorem dX4_lost_113 : decode cX4_lost 113 = .ok (.getfield 25, 3) := by decide +kernel
theorem dX4_lost_116 : decode cX4_lost 116 = .ok (.iload 5, 2) := by decide +kernel
theorem dX4_lost_118 : decode cX4_lost 118 = .ok (.iaload, 1) := by decide +kernel
theorem dX4_lost_119 : decode cX4_lost 119 = .ok (.istore_n 2, 1) := by decide +kernel
theorem dX4_lost_120 : decode cX4_lost 120 = .ok (.iinc 5 1, 3) := by decide +kernel
theorem dX4_lost_123 : decode cX4_lost 123 = .ok (.goto (-95), 3) := by decide +kernel
theorem dX4_lost_126 : decode cX4_lost 126 = .ok (.iload_n 1, 1) := by decide +kernel
theorem dX4_lost_127 : decode cX4_lost 127 = .ok (.ifCond .ne 7, 3) := by decide +kernel
theorem dX4_lost_130 : decode cX4_lost 130 = .ok (.iload_n 3, 1) := by decide +kernel
theorem dX4_lost_131 : decode cX4_lost 131 = .ok (.goto 5, 3) := by decide +kernel
theorem dX4_lost_134 : decode cX4_lost 134 = .ok (.iload 4, 2) := by decide +kernel
theorem dX4_lost_136 : decode cX4_lost 136 = .ok (.ireturn, 1) := by decide +kernel
theorem dX4_worst_0 : decode cX4_worst 0 = .ok (.iload_n 1, 1) := by decide +kernel
theorem dX4_worst_1 : decode cX4_worst 1 = .ok (.i2l, 1) := by decide +kernel
theorem dX4_worst_2 : decode cX4_worst 2 = .ok (.lconst 0, 1) := by decide +kernel
theorem dX4_worst_3 : decode cX4_worst 3 = .ok (.lconst 1, 1) := by decide +kernel
theorem dX4_worst_4 : decode cX4_worst 4 = .ok (.invokestatic 49, 3) := by decide +kernel
theorem dX4_worst_7 : decode cX4_worst 7 = .ok (.ifCond .ne 5, 3) := by decide +kernel
theorem dX4_worst_10 : decode cX4_worst 10 = .ok (.iconst (-1), 1) := by decide +kernel
theorem dX4_worst_11 : decode cX4_worst 11 = .ok (.ireturn, 1) := by decide +kernel
theorem dX4_worst_12 : decode cX4_worst 12 = .ok (.aload_n 0, 1) := by decide +kernel
theorem dX4_worst_13 : decode cX4_worst 13 = .ok (.invokevirtual 149, 3) := by decide +kernel
theorem dX4_worst_16 : decode cX4_worst 16 = .ok (.bipush (-4), 2) := by decide +kernel
theorem dX4_worst_18 : decode cX4_worst 18 = .ok (.istore_n 2, 1) := by decide +kernel
theorem dX4_worst_19 : decode cX4_worst 19 = .ok (.bipush (-4), 2) := by decide +kernel
theorem dX4_worst_21 : decode cX4_worst 21 = .ok (.istore_n 3, 1) := by decide +kernel
theorem dX4_worst_22 : decode cX4_worst 22 = .ok (.iconst 0, 1) := by decide +kernel
theorem dX4_worst_23 : decode cX4_worst 23 = .ok (.istore 4, 2) := by decide +kernel
theorem dX4_worst_25 : decode cX4_worst 25 = .ok (.iload 4, 2) := by decide +kernel
theorem dX4_worst_27 : decode cX4_worst 27 = .ok (.bipush 48, 2) := by decide +kernel
theorem dX4_worst_29 : decode cX4_worst 29 = .ok (.if_icmp .ge 89, 3) := by decide +kernel
theorem dX4_worst_32 : decode cX4_worst 32 = .ok (.aload_n 0, 1) := by decide +kernel
theorem dX4_worst_33 : decode cX4_worst 33 = .ok (.getfield 25, 3) := by decide +kernel
theorem dX4_worst_36 : decode cX4_worst 36 = .ok (.iload 4, 2) := by decide +kernel
theorem dX4_worst_38 : decode cX4_worst 38 = .ok (.iaload, 1) := by decide +kernel
theorem dX4_worst_39 : decode cX4_worst 39 = .ok (.bipush (-4), 2) := by decide +kernel
theorem dX4_worst_41 : decode cX4_worst 41 = .ok (.if_icmp .ne 8, 3) := by decide +kernel
theorem dX4_worst_44 : decode cX4_worst 44 = .ok (.bipush (-4), 2) := by decide +kernel
theorem dX4_worst_46 : decode cX4_worst 46 = .ok (.goto 38, 3) := by decide +kernel
theorem dX4_worst_49 : decode cX4_worst 49 = .ok (.aload_n 0, 1) := by decide +kernel
theorem dX4_worst_50 : decode cX4_worst 50 = .ok (.getfield 25, 3) := by decide +kernel
theorem dX4_worst_53 : decode cX4_worst 53 = .ok (.iload 4, 2) := by decide +kernel
theorem dX4_worst_55 : decode cX4_worst 55 = .ok (.iaload, 1) := by decide +kernel
theorem dX4_worst_56 : decode cX4_worst 56 = .ok (.iload 4, 2) := by decide +kernel
theorem dX4_worst_58 : decode cX4_worst 58 = .ok (.if_icmp .le 16, 3) := by decide +kernel
theorem dX4_worst_61 : decode cX4_worst 61 = .ok (.aload_n 0, 1) := by decide +kernel
theorem dX4_worst_62 : decode cX4_worst 62 = .ok (.getfield 25, 3) := by decide +kernel
theorem dX4_worst_65 : decode cX4_worst 65 = .ok (.iload 4, 2) := by decide +kernel
theorem dX4_worst_67 : decode cX4_worst 67 = .ok (.iaload, 1) := by decide +kernel
theorem dX4_worst_68 : decode cX4_worst 68 = .ok (.iload 4, 2) := by decide +kernel
theorem dX4_worst_70 : decode cX4_worst 70 = .ok (.isub, 1) := by decide +kernel
theorem dX4_worst_71 : decode cX4_worst 71 = .ok (.goto 13, 3) := by decide +kernel
theorem dX4_worst_74 : decode cX4_worst 74 = .ok (.iload 4, 2) := by decide +kernel
theorem dX4_worst_76 : decode cX4_worst 76 = .ok (.aload_n 0, 1) := by decide +kernel
theorem dX4_worst_77 : decode cX4_worst 77 = .ok (.getfield 25, 3) := by decide +kernel
theorem dX4_worst_80 : decode cX4_worst 80 = .ok (.iload 4, 2) := by decide +kernel
theorem dX4_worst_82 : decode cX4_worst 82 = .ok (.iaload, 1) := by decide +kernel
theorem dX4_worst_83 : decode cX4_worst 83 = .ok (.isub, 1) := by decide +kernel
theorem dX4_worst_84 : decode cX4_worst 84 = .ok (.istore 5, 2) := by decide +kernel
theorem dX4_worst_86 : decode cX4_worst 86 = .ok (.iload 5, 2) := by decide +kernel
theorem dX4_worst_88 : decode cX4_worst 88 = .ok (.iload_n 2, 1) := by decide +kernel
theorem dX4_worst_89 : decode cX4_worst 89 = .ok (.if_icmp .le 8, 3) := by decide +kernel
theorem dX4_worst_92 : decode cX4_worst 92 = .ok (.iload 4, 2) := by decide +kernel
theorem dX4_worst_94 : decode cX4_worst 94 = .ok (.goto 4, 3) := by decide +kernel
theorem dX4_worst_97 : decode cX4_worst 97 = .ok (.iload_n 3, 1) := by decide +kernel
theorem dX4_worst_98 : decode cX4_worst 98 = .ok (.istore_n 3, 1) := by decide +kernel
theorem dX4_worst_99 : decode cX4_worst 99 = .ok (.iload 5, 2) := by decide +kernel
theorem dX4_worst_101 : decode cX4_worst 101 = .ok (.iload_n 2, 1) := by decide +kernel
theorem dX4_worst_102 : decode cX4_worst 102 = .ok (.if_icmp .le 8, 3) := by decide +kernel
theorem dX4_worst_105 : decode cX4_worst 105 = .ok (.iload 5, 2) := by decide +kernel
theorem dX4_worst_107 : decode cX4_worst 107 = .ok (.goto 4, 3) := by decide +kernel
theorem dX4_worst_110 : decode cX4_worst 110 = .ok (.iload_n 2, 1) := by decide +kernel
theorem dX4_worst_111 : decode cX4_worst 111 = .ok (.istore_n 2, 1) := by decide +kernel
theorem dX4_worst_112 : decode cX4_worst 112 = .ok (.iinc 4 1, 3) := by decide +kernel
theorem dX4_worst_115 : decode cX4_worst 115 = .ok (.goto (-90), 3) := by decide +kernel
theorem dX4_worst_118 : decode cX4_worst 118 = .ok (.iload_n 1, 1) := by decide +kernel
theorem dX4_worst_119 : decode cX4_worst 119 = .ok (.ifCond .ne 7, 3) := by decide +kernel
theorem dX4_worst_122 : decode cX4_worst 122 = .ok (.iload_n 2, 1) := by decide +kernel
theorem dX4_worst_123 : decode cX4_worst 123 = .ok (.goto 4, 3) := by decide +kernel
theorem dX4_worst_126 : decode cX4_worst 126 = .ok (.iload_n 3, 1) := by decide +kernel
theorem dX4_worst_127 : decode cX4_worst 127 = .ok (.ireturn, 1) := by decide +kernel
theorem dX4_done_0 : decode cX4_done 0 = .ok (.iload_n 1, 1) := by decide +kernel
theorem dX4_done_1 : decode cX4_done 1 = .ok (.i2l, 1) := by decide +kernel
theorem dX4_done_2 : decode cX4_done 2 = .ok (.lconst 0, 1) := by decide +kernel
theorem dX4_done_3 : decode cX4_done 3 = .ok (.ldc2_w 165, 3) := by decide +kernel
theorem dX4_done_6 : decode cX4_done 6 = .ok (.invokestatic 49, 3) := by decide +kernel
theorem dX4_done_9 : decode cX4_done 9 = .ok (.ifCond .ne 5, 3) := by decide +kernel
theorem dX4_done_12 : decode cX4_done 12 = .ok (.iconst (-1), 1) := by decide +kernel
theorem dX4_done_13 : decode cX4_done 13 = .ok (.ireturn, 1) := by decide +kernel
theorem dX4_done_14 : decode cX4_done 14 = .ok (.aload_n 0, 1) := by decide +kernel
theorem dX4_done_15 : decode cX4_done 15 = .ok (.invokevirtual 149, 3) := by decide +kernel
theorem dX4_done_18 : decode cX4_done 18 = .ok (.iconst 0, 1) := by decide +kernel
theorem dX4_done_19 : decode cX4_done 19 = .ok (.istore_n 2, 1) := by decide +kernel
theorem dX4_done_20 : decode cX4_done 20 = .ok (.iconst 0, 1) := by decide +kernel
theorem dX4_done_21 : decode cX4_done 21 = .ok (.istore_n 3, 1) := by decide +kernel
theorem dX4_done_22 : decode cX4_done 22 = .ok (.iload_n 3, 1) := by decide +kernel
theorem dX4_done_23 : decode cX4_done 23 = .ok (.aload_n 0, 1) := by decide +kernel
theorem dX4_done_24 : decode cX4_done 24 = .ok (.getfield 7, 3) := by decide +kernel
theorem dX4_done_27 : decode cX4_done 27 = .ok (.bipush 32, 2) := by decide +kernel
theorem dX4_done_29 : decode cX4_done 29 = .ok (.iaload, 1) := by decide +kernel
theorem dX4_done_30 : decode cX4_done 30 = .ok (.if_icmp .ge 79, 3) := by decide +kernel
theorem dX4_done_33 : decode cX4_done 33 = .ok (.aload_n 0, 1) := by decide +kernel
theorem dX4_done_34 : decode cX4_done 34 = .ok (.iload_n 3, 1) := by decide +kernel
theorem dX4_done_35 : decode cX4_done 35 = .ok (.invokevirtual 146, 3) := by decide +kernel
theorem dX4_done_38 : decode cX4_done 38 = .ok (.istore 4, 2) := by decide +kernel
theorem dX4_done_40 : decode cX4_done 40 = .ok (.aload_n 0, 1) := by decide +kernel
theorem dX4_done_41 : decode cX4_done 41 = .ok (.getfield 7, 3) := by decide +kernel
theorem dX4_done_44 : decode cX4_done 44 = .ok (.bipush 22, 2) := by decide +kernel
theorem dX4_done_46 : decode cX4_done 46 = .ok (.iload_n 3, 1) := by decide +kernel
theorem dX4_done_47 : decode cX4_done 47 = .ok (.iadd, 1) := by decide +kernel
theorem dX4_done_48 : decode cX4_done 48 = .ok (.iaload, 1) := by decide +kernel
theorem dX4_done_49 : decode cX4_done 49 = .ok (.istore 5, 2) := by decide +kernel
theorem dX4_done_51 : decode cX4_done 51 = .ok (.iload 4, 2) := by decide +kernel
theorem dX4_done_53 : decode cX4_done 53 = .ok (.bipush (-4), 2) := by decide +kernel
theorem dX4_done_55 : decode cX4_done 55 = .ok (.if_icmp .ne 7, 3) := by decide +kernel
theorem dX4_done_58 : decode cX4_done 58 = .ok (.iconst 3, 1) := by decide +kernel
theorem dX4_done_59 : decode cX4_done 59 = .ok (.goto 26, 3) := by decide +kernel
theorem dX4_done_62 : decode cX4_done 62 = .ok (.iload 4, 2) := by decide +kernel
theorem dX4_done_64 : decode cX4_done 64 = .ok (.iload 5, 2) := by decide +kernel
theorem dX4_done_66 : decode cX4_done 66 = .ok (.if_icmp .ge 7, 3) := by decide +kernel
theorem dX4_done_69 : decode cX4_done 69 = .ok (.iconst 0, 1) := by decide +kernel
theorem dX4_done_70 : decode cX4_done 70 = .ok (.goto 15, 3) := by decide +kernel
theorem dX4_done_73 : decode cX4_done 73 = .ok (.iload 4, 2) := by decide +kernel
theorem dX4_done_75 : decode cX4_done 75 = .ok (.iload 5, 2) := by decide +kernel
theorem dX4_done_77 : decode cX4_done 77 = .ok (.if_icmp .ne 7, 3) := by decide +kernel
theorem dX4_done_80 : decode cX4_done 80 = .ok (.iconst 1, 1) := by decide +kernel
theorem dX4_done_81 : decode cX4_done 81 = .ok (.goto 4, 3) := by decide +kernel
theorem dX4_done_84 : decode cX4_done 84 = .ok (.iconst 2, 1) := by decide +kernel
theorem dX4_done_85 : decode cX4_done 85 = .ok (.istore 6, 2) := by decide +kernel
theorem dX4_done_87 : decode cX4_done 87 = .ok (.iload_n 2, 1) := by decide +kernel
theorem dX4_done_88 : decode cX4_done 88 = .ok (.iload 6, 2) := by decide +kernel
theorem dX4_done_90 : decode cX4_done 90 = .ok (.iload_n 1, 1) := by decide +kernel
theorem dX4_done_91 : decode cX4_done 91 = .ok (.if_icmp .ne 9, 3) := by decide +kernel
theorem dX4_done_94 : decode cX4_done 94 = .ok (.iconst 1, 1) := by decide +kernel
theorem dX4_done_95 : decode cX4_done 95 = .ok (.iload_n 3, 1) := by decide +kernel
theorem dX4_done_96 : decode cX4_done 96 = .ok (.ishl, 1) := by decide +kernel
theorem dX4_done_97 : decode cX4_done 97 = .ok (.goto 4, 3) := by decide +kernel
theorem dX4_done_100 : decode cX4_done 100 = .ok (.iconst 0, 1) := by decide +kernel
theorem dX4_done_101 : decode cX4_done 101 = .ok (.ior, 1) := by decide +kernel
theorem dX4_done_102 : decode cX4_done 102 = .ok (.istore_n 2, 1) := by decide +kernel
theorem dX4_done_103 : decode cX4_done 103 = .ok (.iinc 3 1, 3) := by decide +kernel
theorem dX4_done_106 : decode cX4_done 106 = .ok (.goto (-84), 3) := by decide +kernel
theorem dX4_done_109 : decode cX4_done 109 = .ok (.iload_n 2, 1) := by decide +kernel
theorem dX4_done_110 : decode cX4_done 110 = .ok (.ireturn, 1) := by decide +kernel
theorem dX4_lean_0 : decode cX4_lean 0 = .ok (.aload_n 0, 1) := by decide +kernel
theorem dX4_lean_1 : decode cX4_lean 1 = .ok (.iload_n 1, 1) := by decide +kernel
theorem dX4_lean_2 : decode cX4_lean 2 = .ok (.invokevirtual 161, 3) := by decide +kernel
theorem dX4_lean_5 : decode cX4_lean 5 = .ok (.ifCond .eq 23, 3) := by decide +kernel
theorem dX4_lean_8 : decode cX4_lean 8 = .ok (.aload_n 0, 1) := by decide +kernel
theorem dX4_lean_9 : decode cX4_lean 9 = .ok (.iload_n 2, 1) := by decide +kernel
theorem dX4_lean_10 : decode cX4_lean 10 = .ok (.invokevirtual 173, 3) := by decide +kernel
theorem dX4_lean_13 : decode cX4_lean 13 = .ok (.ifCond .eq 15, 3) := by decide +kernel
theorem dX4_lean_16 : decode cX4_lean 16 = .ok (.iload_n 3, 1) := by decide +kernel
theorem dX4_lean_17 : decode cX4_lean 17 = .ok (.i2l, 1) := by decide +kernel
theorem dX4_lean_18 : decode cX4_lean 18 = .ok (.lconst 0, 1) := by decide +kernel
theorem dX4_lean_19 : decode cX4_lean 19 = .ok (.ldc2_w 182, 3) := by decide +kernel
theorem dX4_lean_22 : decode cX4_lean 22 = .ok (.invokestatic 49, 3) := by decide +kernel
theorem dX4_lean_25 : decode cX4_lean 25 = .ok (.ifCond .ne 5, 3) := by decide +kernel
theorem dX4_lean_28 : decode cX4_lean 28 = .ok (.iconst (-1), 1) := by decide +kernel
theorem dX4_lean_29 : decode cX4_lean 29 = .ok (.ireturn, 1) := by decide +kernel
theorem dX4_lean_30 : decode cX4_lean 30 = .ok (.aload_n 0, 1) := by decide +kernel
theorem dX4_lean_31 : decode cX4_lean 31 = .ok (.getfield 7, 3) := by decide +kernel
theorem dX4_lean_34 : decode cX4_lean 34 = .ok (.iconst 4, 1) := by decide +kernel
theorem dX4_lean_35 : decode cX4_lean 35 = .ok (.iload_n 1, 1) := by decide +kernel
theorem dX4_lean_36 : decode cX4_lean 36 = .ok (.iadd, 1) := by decide +kernel
theorem dX4_lean_37 : decode cX4_lean 37 = .ok (.iaload, 1) := by decide +kernel
theorem dX4_lean_38 : decode cX4_lean 38 = .ok (.istore 4, 2) := by decide +kernel
theorem dX4_lean_40 : decode cX4_lean 40 = .ok (.bipush (-4), 2) := by decide +kernel
theorem dX4_lean_42 : decode cX4_lean 42 = .ok (.istore 5, 2) := by decide +kernel
theorem dX4_lean_44 : decode cX4_lean 44 = .ok (.iconst 0, 1) := by decide +kernel
theorem dX4_lean_45 : decode cX4_lean 45 = .ok (.istore 6, 2) := by decide +kernel
theorem dX4_lean_47 : decode cX4_lean 47 = .ok (.iload 6, 2) := by decide +kernel
theorem dX4_lean_49 : decode cX4_lean 49 = .ok (.bipush 6, 2) := by decide +kernel
theorem dX4_lean_51 : decode cX4_lean 51 = .ok (.if_icmp .gt 109, 3) := by decide +kernel
theorem dX4_lean_54 : decode cX4_lean 54 = .ok (.aload_n 0, 1) := by decide +kernel
theorem dX4_lean_55 : decode cX4_lean 55 = .ok (.getfield 7, 3) := by decide +kernel
theorem dX4_lean_58 : decode cX4_lean 58 = .ok (.iconst 4, 1) := by decide +kernel
theorem dX4_lean_59 : decode cX4_lean 59 = .ok (.iload_n 1, 1) := by decide +kernel
theorem dX4_lean_60 : decode cX4_lean 60 = .ok (.iadd, 1) := by decide +kernel
theorem dX4_lean_61 : decode cX4_lean 61 = .ok (.iload 6, 2) := by decide +kernel
theorem dX4_lean_63 : decode cX4_lean 63 = .ok (.iastore, 1) := by decide +kernel
theorem dX4_lean_64 : decode cX4_lean 64 = .ok (.aload_n 0, 1) := by decide +kernel
theorem dX4_lean_65 : decode cX4_lean 65 = .ok (.invokevirtual 149, 3) := by decide +kernel
theorem dX4_lean_68 : decode cX4_lean 68 = .ok (.aload_n 0, 1) := by decide +kernel
theorem dX4_lean_69 : decode cX4_lean 69 = .ok (.iload_n 2, 1) := by decide +kernel
theorem dX4_lean_70 : decode cX4_lean 70 = .ok (.invokevirtual 146, 3) := by decide +kernel
theorem dX4_lean_73 : decode cX4_lean 73 = .ok (.istore 7, 2) := by decide +kernel
theorem dX4_lean_75 : decode cX4_lean 75 = .ok (.iload 6, 2) := by decide +kernel
theorem dX4_lean_77 : decode cX4_lean 77 = .ok (.iconst 3, 1) := by decide +kernel
theorem dX4_lean_78 : decode cX4_lean 78 = .ok (.if_icmp .le 10, 3) := by decide +kernel
theorem dX4_lean_81 : decode cX4_lean 81 = .ok (.iload 6, 2) := by decide +kernel
theorem dX4_lean_83 : decode cX4_lean 83 = .ok (.iconst 3, 1) := by decide +kernel
theorem dX4_lean_84 : decode cX4_lean 84 = .ok (.isub, 1) := by decide +kernel
theorem dX4_lean_85 : decode cX4_lean 85 = .ok (.goto 7, 3) := by decide +kernel
theorem dX4_lean_88 : decode cX4_lean 88 = .ok (.iconst 3, 1) := by decide +kernel
theorem dX4_lean_89 : decode cX4_lean 89 = .ok (.iload 6, 2) := by decide +kernel
theorem dX4_lean_91 : decode cX4_lean 91 = .ok (.isub, 1) := by decide +kernel
theorem dX4_lean_92 : decode cX4_lean 92 = .ok (.istore 8, 2) := by decide +kernel
theorem dX4_lean_94 : decode cX4_lean 94 = .ok (.iload 5, 2) := by decide +kernel
theorem dX4_lean_96 : decode cX4_lean 96 = .ok (.bipush (-4), 2) := by decide +kernel
theorem dX4_lean_98 : decode cX4_lean 98 = .ok (.if_icmp .ne 8, 3) := by decide +kernel
theorem dX4_lean_101 : decode cX4_lean 101 = .ok (.bipush 48, 2) := by decide +kernel
theorem dX4_lean_103 : decode cX4_lean 103 = .ok (.goto 20, 3) := by decide +kernel
theorem dX4_lean_106 : decode cX4_lean 106 = .ok (.iload 5, 2) := by decide +kernel
theorem dX4_lean_108 : decode cX4_lean 108 = .ok (.iconst 3, 1) := by decide +kernel
theorem dX4_lean_109 : decode cX4_lean 109 = .ok (.if_icmp .le 10, 3) := by decide +kernel
theorem dX4_lean_112 : decode cX4_lean 112 = .ok (.iload 5, 2) := by decide +kernel
theorem dX4_lean_114 : decode cX4_lean 114 = .ok (.iconst 3, 1) := by decide +kernel
theorem dX4_lean_115 : decode cX4_lean 115 = .ok (.isub, 1) := by decide +kernel
theorem dX4_lean_116 : decode cX4_lean 116 = .ok (.goto 7, 3) := by decide +kernel
theorem dX4_lean_119 : decode cX4_lean 119 = .ok (.iconst 3, 1) := by decide +kernel
theorem dX4_lean_120 : decode cX4_lean 120 = .ok (.iload 5, 2) := by decide +kernel
theorem dX4_lean_122 : decode cX4_lean 122 = .ok (.isub, 1) := by decide +kernel
theorem dX4_lean_123 : decode cX4_lean 123 = .ok (.istore 9, 2) := by decide +kernel
theorem dX4_lean_125 : decode cX4_lean 125 = .ok (.iload 7, 2) := by decide +kernel
theorem dX4_lean_127 : decode cX4_lean 127 = .ok (.bipush (-4), 2) := by decide +kernel
theorem dX4_lean_129 : decode cX4_lean 129 = .ok (.if_icmp .eq 21, 3) := by decide +kernel
theorem dX4_lean_132 : decode cX4_lean 132 = .ok (.iload 7, 2) := by decide +kernel
theorem dX4_lean_134 : decode cX4_lean 134 = .ok (.iload_n 3, 1) := by decide +kernel
theorem dX4_lean_135 : decode cX4_lean 135 = .ok (.if_icmp .gt 15, 3) := by decide +kernel
theorem dX4_lean_138 : decode cX4_lean 138 = .ok (.iload 8, 2) := by decide +kernel
theorem dX4_lean_140 : decode cX4_lean 140 = .ok (.iload 9, 2) := by decide +kernel
theorem dX4_lean_142 : decode cX4_lean 142 = .ok (.if_icmp .ge 8, 3) := by decide +kernel
theorem dX4_lean_145 : decode cX4_lean 145 = .ok (.iload 6, 2) := by decide +kernel
theorem dX4_lean_147 : decode cX4_lean 147 = .ok (.goto 5, 3) := by decide +kernel
theorem dX4_lean_150 : decode cX4_lean 150 = .ok (.iload 5, 2) := by decide +kernel
theorem dX4_lean_152 : decode cX4_lean 152 = .ok (.istore 5, 2) := by decide +kernel
theorem dX4_lean_154 : decode cX4_lean 154 = .ok (.iinc 6 1, 3) := by decide +kernel
theorem dX4_lean_157 : decode cX4_lean 157 = .ok (.goto (-110), 3) := by decide +kernel
theorem dX4_lean_160 : decode cX4_lean 160 = .ok (.aload_n 0, 1) := by decide +kernel
theorem dX4_lean_161 : decode cX4_lean 161 = .ok (.getfield 7, 3) := by decide +kernel
theorem dX4_lean_164 : decode cX4_lean 164 = .ok (.iconst 4, 1) := by decide +kernel
theorem dX4_lean_165 : decode cX4_lean 165 = .ok (.iload_n 1, 1) := by decide +kernel
theorem dX4_lean_166 : decode cX4_lean 166 = .ok (.iadd, 1) := by decide +kernel
theorem dX4_lean_167 : decode cX4_lean 167 = .ok (.iload 4, 2) := by decide +kernel
theorem dX4_lean_169 : decode cX4_lean 169 = .ok (.iastore, 1) := by decide +kernel
theorem dX4_lean_170 : decode cX4_lean 170 = .ok (.iload 5, 2) := by decide +kernel
theorem dX4_lean_172 : decode cX4_lean 172 = .ok (.ireturn, 1) := by decide +kernel
theorem dX4_isLess_0 : decode cX4_isLess 0 = .ok (.iload_n 1, 1) := by decide +kernel
theorem dX4_isLess_1 : decode cX4_isLess 1 = .ok (.aload_n 0, 1) := by decide +kernel
theorem dX4_isLess_2 : decode cX4_isLess 2 = .ok (.getfield 189, 3) := by decide +kernel
theorem dX4_isLess_5 : decode cX4_isLess 5 = .ok (.if_icmp .ge 7, 3) := by decide +kernel
theorem dX4_isLess_8 : decode cX4_isLess 8 = .ok (.iconst 1, 1) := by decide +kernel
theorem dX4_isLess_9 : decode cX4_isLess 9 = .ok (.goto 4, 3) := by decide +kernel
theorem dX4_isLess_12 : decode cX4_isLess 12 = .ok (.iconst 0, 1) := by decide +kernel
theorem dX4_isLess_13 : decode cX4_isLess 13 = .ok (.istore_n 2, 1) := by decide +kernel
theorem dX4_isLess_14 : decode cX4_isLess 14 = .ok (.aload_n 0, 1) := by decide +kernel
theorem dX4_isLess_15 : decode cX4_isLess 15 = .ok (.iload_n 2, 1) := by decide +kernel
theorem dX4_isLess_16 : decode cX4_isLess 16 = .ok (.ifCond .eq 7, 3) := by decide +kernel
theorem dX4_isLess_19 : decode cX4_isLess 19 = .ok (.iload_n 1, 1) := by decide +kernel
theorem dX4_isLess_20 : decode cX4_isLess 20 = .ok (.goto 7, 3) := by decide +kernel
theorem dX4_isLess_23 : decode cX4_isLess 23 = .ok (.aload_n 0, 1) := by decide +kernel
theorem dX4_isLess_24 : decode cX4_isLess 24 = .ok (.getfield 189, 3) := by decide +kernel
theorem dX4_isLess_27 : decode cX4_isLess 27 = .ok (.putfield 189, 3) := by decide +kernel
theorem dX4_isLess_30 : decode cX4_isLess 30 = .ok (.iload_n 2, 1) := by decide +kernel
theorem dX4_isLess_31 : decode cX4_isLess 31 = .ok (.ireturn, 1) := by decide +kernel
theorem dX4_mark_0 : decode cX4_mark 0 = .ok (.iload_n 1, 1) := by decide +kernel
theorem dX4_mark_1 : decode cX4_mark 1 = .ok (.i2l, 1) := by decide +kernel
theorem dX4_mark_2 : decode cX4_mark 2 = .ok (.lconst 0, 1) := by decide +kernel
theorem dX4_mark_3 : decode cX4_mark 3 = .ok (.lconst 1, 1) := by decide +kernel
theorem dX4_mark_4 : decode cX4_mark 4 = .ok (.invokestatic 49, 3) := by decide +kernel
theorem dX4_mark_7 : decode cX4_mark 7 = .ok (.ifCond .ne 5, 3) := by decide +kernel
theorem dX4_mark_10 : decode cX4_mark 10 = .ok (.iconst (-1), 1) := by decide +kernel
theorem dX4_mark_11 : decode cX4_mark 11 = .ok (.ireturn, 1) := by decide +kernel
theorem dX4_mark_12 : decode cX4_mark 12 = .ok (.aload_n 0, 1) := by decide +kernel
theorem dX4_mark_13 : decode cX4_mark 13 = .ok (.getfield 7, 3) := by decide +kernel
theorem dX4_mark_16 : decode cX4_mark 16 = .ok (.bipush 21, 2) := by decide +kernel
theorem dX4_mark_18 : decode cX4_mark 18 = .ok (.iaload, 1) := by decide +kernel
theorem dX4_mark_19 : decode cX4_mark 19 = .ok (.istore_n 2, 1) := by decide +kernel
theorem dX4_mark_20 : decode cX4_mark 20 = .ok (.iconst 0, 1) := by decide +kernel
theorem dX4_mark_21 : decode cX4_mark 21 = .ok (.istore_n 3, 1) := by decide +kernel
theorem dX4_mark_22 : decode cX4_mark 22 = .ok (.aload_n 0, 1) := by decide +kernel
theorem dX4_mark_23 : decode cX4_mark 23 = .ok (.ldc 192, 2) := by decide +kernel
theorem dX4_mark_25 : decode cX4_mark 25 = .ok (.putfield 189, 3) := by decide +kernel
theorem dX4_mark_28 : decode cX4_mark 28 = .ok (.iconst 0, 1) := by decide +kernel
theorem dX4_mark_29 : decode cX4_mark 29 = .ok (.istore 4, 2) := by decide +kernel
theorem dX4_mark_31 : decode cX4_mark 31 = .ok (.iload 4, 2) := by decide +kernel
theorem dX4_mark_33 : decode cX4_mark 33 = .ok (.bipush 6, 2) := by decide +kernel
theorem dX4_mark_35 : decode cX4_mark 35 = .ok (.if_icmp .gt 38, 3) := by decide +kernel
theorem dX4_mark_38 : decode cX4_mark 38 = .ok (.aload_n 0, 1) := by decide +kernel
theorem dX4_mark_39 : decode cX4_mark 39 = .ok (.getfield 7, 3) := by decide +kernel
theorem dX4_mark_42 : decode cX4_mark 42 = .ok (.bipush 21, 2) := by decide +kernel
theorem dX4_mark_44 : decode cX4_mark 44 = .ok (.iload 4, 2) := by decide +kernel
theorem dX4_mark_46 : decode cX4_mark 46 = .ok (.iconst 3, 1) := by decide +kernel
theorem dX4_mark_47 : decode cX4_mark 47 = .ok (.isub, 1) := by decide +kernel
theorem dX4_mark_48 : decode cX4_mark 48 = .ok (.iastore, 1) := by decide +kernel
theorem dX4_mark_49 : decode cX4_mark 49 = .ok (.aload_n 0, 1) := by decide +kernel
theorem dX4_mark_50 : decode cX4_mark 50 = .ok (.aload_n 0, 1) := by decide +kernel
theorem dX4_mark_51 : decode cX4_mark 51 = .ok (.invokevirtual 158, 3) := by decide +kernel
theorem dX4_mark_54 : decode cX4_mark 54 = .ok (.invokevirtual 193, 3) := by decide +kernel
theorem dX4_mark_57 : decode cX4_mark 57 = .ok (.ifCond .eq 8, 3) := by decide +kernel
theorem dX4_mark_60 : decode cX4_mark 60 = .ok (.iload 4, 2) := by decide +kernel
theorem dX4_mark_62 : decode cX4_mark 62 = .ok (.goto 4, 3) := by decide +kernel
theorem dX4_mark_65 : decode cX4_mark 65 = .ok (.iload_n 3, 1) := by decide +kernel
theorem dX4_mark_66 : decode cX4_mark 66 = .ok (.istore_n 3, 1) := by decide +kernel
theorem dX4_mark_67 : decode cX4_mark 67 = .ok (.iinc 4 1, 3) := by decide +kernel
theorem dX4_mark_70 : decode cX4_mark 70 = .ok (.goto (-39), 3) := by decide +kernel
theorem dX4_mark_73 : decode cX4_mark 73 = .ok (.aload_n 0, 1) := by decide +kernel
theorem dX4_mark_74 : decode cX4_mark 74 = .ok (.getfield 7, 3) := by decide +kernel
theorem dX4_mark_77 : decode cX4_mark 77 = .ok (.bipush 21, 2) := by decide +kernel
theorem dX4_mark_79 : decode cX4_mark 79 = .ok (.iload_n 2, 1) := by decide +kernel
theorem dX4_mark_80 : decode cX4_mark 80 = .ok (.iastore, 1) := by decide +kernel
theorem dX4_mark_81 : decode cX4_mark 81 = .ok (.iload_n 1, 1) := by decide +kernel
theorem dX4_mark_82 : decode cX4_mark 82 = .ok (.ifCond .ne 7, 3) := by decide +kernel
theorem dX4_mark_85 : decode cX4_mark 85 = .ok (.iload_n 3, 1) := by decide +kernel
theorem dX4_mark_86 : decode cX4_mark 86 = .ok (.goto 7, 3) := by decide +kernel
theorem dX4_mark_89 : decode cX4_mark 89 = .ok (.aload_n 0, 1) := by decide +kernel
theorem dX4_mark_90 : decode cX4_mark 90 = .ok (.getfield 189, 3) := by decide +kernel
theorem dX4_mark_93 : decode cX4_mark 93 = .ok (.ireturn, 1) := by decide +kernel
theorem dX4_give_0 : decode cX4_give 0 = .ok (.iload_n 1, 1) := by decide +kernel
theorem dX4_give_1 : decode cX4_give 1 = .ok (.i2l, 1) := by decide +kernel
theorem dX4_give_2 : decode cX4_give 2 = .ok (.lconst 0, 1) := by decide +kernel
theorem dX4_give_3 : decode cX4_give 3 = .ok (.lconst 1, 1) := by decide +kernel
theorem dX4_give_4 : decode cX4_give 4 = .ok (.invokestatic 49, 3) := by decide +kernel
theorem dX4_give_7 : decode cX4_give 7 = .ok (.ifCond .ne 5, 3) := by decide +kernel
theorem dX4_give_10 : decode cX4_give 10 = .ok (.iconst (-1), 1) := by decide +kernel
theorem dX4_give_11 : decode cX4_give 11 = .ok (.ireturn, 1) := by decide +kernel
theorem dX4_give_12 : decode cX4_give 12 = .ok (.bipush (-4), 2) := by decide +kernel
theorem dX4_give_14 : decode cX4_give 14 = .ok (.istore_n 2, 1) := by decide +kernel
theorem dX4_give_15 : decode cX4_give 15 = .ok (.aload_n 0, 1) := by decide +kernel
theorem dX4_give_16 : decode cX4_give 16 = .ok (.aload_n 0, 1) := by decide +kernel
theorem dX4_give_17 : decode cX4_give 17 = .ok (.invokevirtual 158, 3) := by decide +kernel
theorem dX4_give_20 : decode cX4_give 20 = .ok (.putfield 189, 3) := by decide +kernel
theorem dX4_give_23 : decode cX4_give 23 = .ok (.iconst 0, 1) := by decide +kernel
theorem dX4_give_24 : decode cX4_give 24 = .ok (.istore_n 3, 1) := by decide +kernel
theorem dX4_give_25 : decode cX4_give 25 = .ok (.iload_n 3, 1) := by decide +kernel
theorem dX4_give_26 : decode cX4_give 26 = .ok (.bipush 12, 2) := by decide +kernel
theorem dX4_give_28 : decode cX4_give 28 = .ok (.if_icmp .ge 85, 3) := by decide +kernel
theorem dX4_give_31 : decode cX4_give 31 = .ok (.aload_n 0, 1) := by decide +kernel
theorem dX4_give_32 : decode cX4_give 32 = .ok (.getfield 7, 3) := by decide +kernel
theorem dX4_give_35 : decode cX4_give 35 = .ok (.bipush 8, 2) := by decide +kernel
theorem dX4_give_37 : decode cX4_give 37 = .ok (.iload_n 3, 1) := by decide +kernel
theorem dX4_give_38 : decode cX4_give 38 = .ok (.iadd, 1) := by decide +kernel
theorem dX4_give_39 : decode cX4_give 39 = .ok (.iaload, 1) := by decide +kernel
theorem dX4_give_40 : decode cX4_give 40 = .ok (.istore 4, 2) := by decide +kernel
theorem dX4_give_42 : decode cX4_give 42 = .ok (.iconst 0, 1) := by decide +kernel
theorem dX4_give_43 : decode cX4_give 43 = .ok (.istore 5, 2) := by decide +kernel
theorem dX4_give_45 : decode cX4_give 45 = .ok (.iload 5, 2) := by decide +kernel
theorem dX4_give_47 : decode cX4_give 47 = .ok (.aload_n 0, 1) := by decide +kernel
theorem dX4_give_48 : decode cX4_give 48 = .ok (.getfield 128, 3) := by decide +kernel
theorem dX4_give_51 : decode cX4_give 51 = .ok (.if_icmp .ge 45, 3) := by decide +kernel
theorem dX4_give_54 : decode cX4_give 54 = .ok (.aload_n 0, 1) := by decide +kernel
theorem dX4_give_55 : decode cX4_give 55 = .ok (.getfield 7, 3) := by decide +kernel
theorem dX4_give_58 : decode cX4_give 58 = .ok (.bipush 8, 2) := by decide +kernel
theorem dX4_give_60 : decode cX4_give 60 = .ok (.iload_n 3, 1) := by decide +kernel
theorem dX4_give_61 : decode cX4_give 61 = .ok (.iadd, 1) := by decide +kernel
theorem dX4_give_62 : decode cX4_give 62 = .ok (.iload 5, 2) := by decide +kernel
theorem dX4_give_64 : decode cX4_give 64 = .ok (.iconst 1, 1) := by decide +kernel
theorem dX4_give_65 : decode cX4_give 65 = .ok (.iadd, 1) := by decide +kernel
theorem dX4_give_66 : decode cX4_give 66 = .ok (.iastore, 1) := by decide +kernel
theorem dX4_give_67 : decode cX4_give 67 = .ok (.aload_n 0, 1) := by decide +kernel
theorem dX4_give_68 : decode cX4_give 68 = .ok (.aload_n 0, 1) := by decide +kernel
theorem dX4_give_69 : decode cX4_give 69 = .ok (.invokevirtual 158, 3) := by decide +kernel
theorem dX4_give_72 : decode cX4_give 72 = .ok (.invokevirtual 193, 3) := by decide +kernel
theorem dX4_give_75 : decode cX4_give 75 = .ok (.ifCond .eq 13, 3) := by decide +kernel
theorem dX4_give_78 : decode cX4_give 78 = .ok (.bipush 10, 2) := by decide +kernel
theorem dX4_give_80 : decode cX4_give 80 = .ok (.iload_n 3, 1) := by decide +kernel
theorem dX4_give_81 : decode cX4_give 81 = .ok (.imul, 1) := by decide +kernel
theorem dX4_give_82 : decode cX4_give 82 = .ok (.iload 5, 2) := by decide +kernel
theorem dX4_give_84 : decode cX4_give 84 = .ok (.iadd, 1) := by decide +kernel
theorem dX4_give_85 : decode cX4_give 85 = .ok (.goto 4, 3) := by decide +kernel
theorem dX4_give_88 : decode cX4_give 88 = .ok (.iload_n 2, 1) := by decide +kernel
theorem dX4_give_89 : decode cX4_give 89 = .ok (.istore_n 2, 1) := by decide +kernel
theorem dX4_give_90 : decode cX4_give 90 = .ok (.iinc 5 1, 3) := by decide +kernel
theorem dX4_give_93 : decode cX4_give 93 = .ok (.goto (-48), 3) := by decide +kernel
theorem dX4_give_96 : decode cX4_give 96 = .ok (.aload_n 0, 1) := by decide +kernel
theorem dX4_give_97 : decode cX4_give 97 = .ok (.getfield 7, 3) := by decide +kernel
theorem dX4_give_100 : decode cX4_give 100 = .ok (.bipush 8, 2) := by decide +kernel
theorem dX4_give_102 : decode cX4_give 102 = .ok (.iload_n 3, 1) := by decide +kernel
theorem dX4_give_103 : decode cX4_give 103 = .ok (.iadd, 1) := by decide +kernel
theorem dX4_give_104 : decode cX4_give 104 = .ok (.iload 4, 2) := by decide +kernel
theorem dX4_give_106 : decode cX4_give 106 = .ok (.iastore, 1) := by decide +kernel
theorem dX4_give_107 : decode cX4_give 107 = .ok (.iinc 3 1, 3) := by decide +kernel
theorem dX4_give_110 : decode cX4_give 110 = .ok (.goto (-85), 3) := by decide +kernel
theorem dX4_give_113 : decode cX4_give 113 = .ok (.iload_n 2, 1) := by decide +kernel
theorem dX4_give_114 : decode cX4_give 114 = .ok (.bipush (-4), 2) := by decide +kernel
theorem dX4_give_116 : decode cX4_give 116 = .ok (.if_icmp .eq 7, 3) := by decide +kernel
theorem dX4_give_119 : decode cX4_give 119 = .ok (.iload_n 1, 1) := by decide +kernel
theorem dX4_give_120 : decode cX4_give 120 = .ok (.ifCond .ne 7, 3) := by decide +kernel
theorem dX4_give_123 : decode cX4_give 123 = .ok (.iload_n 2, 1) := by decide +kernel
theorem dX4_give_124 : decode cX4_give 124 = .ok (.goto 7, 3) := by decide +kernel
theorem dX4_give_127 : decode cX4_give 127 = .ok (.aload_n 0, 1) := by decide +kernel
theorem dX4_give_128 : decode cX4_give 128 = .ok (.getfield 189, 3) := by decide +kernel
theorem dX4_give_131 : decode cX4_give 131 = .ok (.ireturn, 1) := by decide +kernel
theorem dX4_swap_0 : decode cX4_swap 0 = .ok (.iload_n 1, 1) := by decide +kernel
theorem dX4_swap_1 : decode cX4_swap 1 = .ok (.i2l, 1) := by decide +kernel
theorem dX4_swap_2 : decode cX4_swap 2 = .ok (.lconst 0, 1) := by decide +kernel
theorem dX4_swap_3 : decode cX4_swap 3 = .ok (.lconst 1, 1) := by decide +kernel
theorem dX4_swap_4 : decode cX4_swap 4 = .ok (.invokestatic 49, 3) := by decide +kernel
theorem dX4_swap_7 : decode cX4_swap 7 = .ok (.ifCond .ne 5, 3) := by decide +kernel
theorem dX4_swap_10 : decode cX4_swap 10 = .ok (.iconst (-1), 1) := by decide +kernel
theorem dX4_swap_11 : decode cX4_swap 11 = .ok (.ireturn, 1) := by decide +kernel
theorem dX4_swap_12 : decode cX4_swap 12 = .ok (.bipush (-4), 2) := by decide +kernel
theorem dX4_swap_14 : decode cX4_swap 14 = .ok (.istore_n 2, 1) := by decide +kernel
theorem dX4_swap_15 : decode cX4_swap 15 = .ok (.aload_n 0, 1) := by decide +kernel
theorem dX4_swap_16 : decode cX4_swap 16 = .ok (.aload_n 0, 1) := by decide +kernel
theorem dX4_swap_17 : decode cX4_swap 17 = .ok (.invokevirtual 158, 3) := by decide +kernel
theorem dX4_swap_20 : decode cX4_swap 20 = .ok (.putfield 189, 3) := by decide +kernel
theorem dX4_swap_23 : decode cX4_swap 23 = .ok (.iconst 0, 1) := by decide +kernel
theorem dX4_swap_24 : decode cX4_swap 24 = .ok (.istore_n 3, 1) := by decide +kernel
theorem dX4_swap_25 : decode cX4_swap 25 = .ok (.iload_n 3, 1) := by decide +kernel
theorem dX4_swap_26 : decode cX4_swap 26 = .ok (.bipush 12, 2) := by decide +kernel
theorem dX4_swap_28 : decode cX4_swap 28 = .ok (.if_icmp .ge 119, 3) := by decide +kernel
theorem dX4_swap_31 : decode cX4_swap 31 = .ok (.iload_n 3, 1) := by decide +kernel
theorem dX4_swap_32 : decode cX4_swap 32 = .ok (.iconst 1, 1) := by decide +kernel
theorem dX4_swap_33 : decode cX4_swap 33 = .ok (.iadd, 1) := by decide +kernel
theorem dX4_swap_34 : decode cX4_swap 34 = .ok (.istore 4, 2) := by decide +kernel
theorem dX4_swap_36 : decode cX4_swap 36 = .ok (.iload 4, 2) := by decide +kernel
theorem dX4_swap_38 : decode cX4_swap 38 = .ok (.bipush 12, 2) := by decide +kernel
theorem dX4_swap_40 : decode cX4_swap 40 = .ok (.if_icmp .ge 101, 3) := by decide +kernel
theorem dX4_swap_43 : decode cX4_swap 43 = .ok (.aload_n 0, 1) := by decide +kernel
theorem dX4_swap_44 : decode cX4_swap 44 = .ok (.getfield 7, 3) := by decide +kernel
theorem dX4_swap_47 : decode cX4_swap 47 = .ok (.bipush 8, 2) := by decide +kernel
theorem dX4_swap_49 : decode cX4_swap 49 = .ok (.iload_n 3, 1) := by decide +kernel
theorem dX4_swap_50 : decode cX4_swap 50 = .ok (.iadd, 1) := by decide +kernel
theorem dX4_swap_51 : decode cX4_swap 51 = .ok (.iaload, 1) := by decide +kernel
theorem dX4_swap_52 : decode cX4_swap 52 = .ok (.istore 5, 2) := by decide +kernel
theorem dX4_swap_54 : decode cX4_swap 54 = .ok (.aload_n 0, 1) := by decide +kernel
theorem dX4_swap_55 : decode cX4_swap 55 = .ok (.getfield 7, 3) := by decide +kernel
theorem dX4_swap_58 : decode cX4_swap 58 = .ok (.bipush 8, 2) := by decide +kernel
theorem dX4_swap_60 : decode cX4_swap 60 = .ok (.iload 4, 2) := by decide +kernel
theorem dX4_swap_62 : decode cX4_swap 62 = .ok (.iadd, 1) := by decide +kernel
theorem dX4_swap_63 : decode cX4_swap 63 = .ok (.iaload, 1) := by decide +kernel
theorem dX4_swap_64 : decode cX4_swap 64 = .ok (.istore 6, 2) := by decide +kernel
theorem dX4_swap_66 : decode cX4_swap 66 = .ok (.aload_n 0, 1) := by decide +kernel
theorem dX4_swap_67 : decode cX4_swap 67 = .ok (.getfield 7, 3) := by decide +kernel
theorem dX4_swap_70 : decode cX4_swap 70 = .ok (.bipush 8, 2) := by decide +kernel
theorem dX4_swap_72 : decode cX4_swap 72 = .ok (.iload_n 3, 1) := by decide +kernel
theorem dX4_swap_73 : decode cX4_swap 73 = .ok (.iadd, 1) := by decide +kernel
theorem dX4_swap_74 : decode cX4_swap 74 = .ok (.iload 6, 2) := by decide +kernel
theorem dX4_swap_76 : decode cX4_swap 76 = .ok (.iastore, 1) := by decide +kernel
theorem dX4_swap_77 : decode cX4_swap 77 = .ok (.aload_n 0, 1) := by decide +kernel
theorem dX4_swap_78 : decode cX4_swap 78 = .ok (.getfield 7, 3) := by decide +kernel
theorem dX4_swap_81 : decode cX4_swap 81 = .ok (.bipush 8, 2) := by decide +kernel
theorem dX4_swap_83 : decode cX4_swap 83 = .ok (.iload 4, 2) := by decide +kernel
theorem dX4_swap_85 : decode cX4_swap 85 = .ok (.iadd, 1) := by decide +kernel
theorem dX4_swap_86 : decode cX4_swap 86 = .ok (.iload 5, 2) := by decide +kernel
theorem dX4_swap_88 : decode cX4_swap 88 = .ok (.iastore, 1) := by decide +kernel
theorem dX4_swap_89 : decode cX4_swap 89 = .ok (.aload_n 0, 1) := by decide +kernel
theorem dX4_swap_90 : decode cX4_swap 90 = .ok (.aload_n 0, 1) := by decide +kernel
theorem dX4_swap_91 : decode cX4_swap 91 = .ok (.invokevirtual 158, 3) := by decide +kernel
theorem dX4_swap_94 : decode cX4_swap 94 = .ok (.invokevirtual 193, 3) := by decide +kernel
theorem dX4_swap_97 : decode cX4_swap 97 = .ok (.ifCond .eq 13, 3) := by decide +kernel
theorem dX4_swap_100 : decode cX4_swap 100 = .ok (.bipush 100, 2) := by decide +kernel
theorem dX4_swap_102 : decode cX4_swap 102 = .ok (.iload_n 3, 1) := by decide +kernel
theorem dX4_swap_103 : decode cX4_swap 103 = .ok (.imul, 1) := by decide +kernel
theorem dX4_swap_104 : decode cX4_swap 104 = .ok (.iload 4, 2) := by decide +kernel
theorem dX4_swap_106 : decode cX4_swap 106 = .ok (.iadd, 1) := by decide +kernel
theorem dX4_swap_107 : decode cX4_swap 107 = .ok (.goto 4, 3) := by decide +kernel
theorem dX4_swap_110 : decode cX4_swap 110 = .ok (.iload_n 2, 1) := by decide +kernel
theorem dX4_swap_111 : decode cX4_swap 111 = .ok (.istore_n 2, 1) := by decide +kernel
theorem dX4_swap_112 : decode cX4_swap 112 = .ok (.aload_n 0, 1) := by decide +kernel
theorem dX4_swap_113 : decode cX4_swap 113 = .ok (.getfield 7, 3) := by decide +kernel
theorem dX4_swap_116 : decode cX4_swap 116 = .ok (.bipush 8, 2) := by decide +kernel
theorem dX4_swap_118 : decode cX4_swap 118 = .ok (.iload_n 3, 1) := by decide +kernel
theorem dX4_swap_119 : decode cX4_swap 119 = .ok (.iadd, 1) := by decide +kernel
theorem dX4_swap_120 : decode cX4_swap 120 = .ok (.iload 5, 2) := by decide +kernel
theorem dX4_swap_122 : decode cX4_swap 122 = .ok (.iastore, 1) := by decide +kernel
theorem dX4_swap_123 : decode cX4_swap 123 = .ok (.aload_n 0, 1) := by decide +kernel
theorem dX4_swap_124 : decode cX4_swap 124 = .ok (.getfield 7, 3) := by decide +kernel
theorem dX4_swap_127 : decode cX4_swap 127 = .ok (.bipush 8, 2) := by decide +kernel
theorem dX4_swap_129 : decode cX4_swap 129 = .ok (.iload 4, 2) := by decide +kernel
theorem dX4_swap_131 : decode cX4_swap 131 = .ok (.iadd, 1) := by decide +kernel
theorem dX4_swap_132 : decode cX4_swap 132 = .ok (.iload 6, 2) := by decide +kernel
theorem dX4_swap_134 : decode cX4_swap 134 = .ok (.iastore, 1) := by decide +kernel
theorem dX4_swap_135 : decode cX4_swap 135 = .ok (.iinc 4 1, 3) := by decide +kernel
theorem dX4_swap_138 : decode cX4_swap 138 = .ok (.goto (-102), 3) := by decide +kernel
theorem dX4_swap_141 : decode cX4_swap 141 = .ok (.iinc 3 1, 3) := by decide +kernel
theorem dX4_swap_144 : decode cX4_swap 144 = .ok (.goto (-119), 3) := by decide +kernel
theorem dX4_swap_147 : decode cX4_swap 147 = .ok (.iload_n 2, 1) := by decide +kernel
theorem dX4_swap_148 : decode cX4_swap 148 = .ok (.bipush (-4), 2) := by decide +kernel
theorem dX4_swap_150 : decode cX4_swap 150 = .ok (.if_icmp .eq 7, 3) := by decide +kernel
theorem dX4_swap_153 : decode cX4_swap 153 = .ok (.iload_n 1, 1) := by decide +kernel
theorem dX4_swap_154 : decode cX4_swap 154 = .ok (.ifCond .ne 7, 3) := by decide +kernel
theorem dX4_swap_157 : decode cX4_swap 157 = .ok (.iload_n 2, 1) := by decide +kernel
theorem dX4_swap_158 : decode cX4_swap 158 = .ok (.goto 7, 3) := by decide +kernel
theorem dX4_swap_161 : decode cX4_swap 161 = .ok (.aload_n 0, 1) := by decide +kernel
theorem dX4_swap_162 : decode cX4_swap 162 = .ok (.getfield 189, 3) := by decide +kernel
theorem dX4_swap_165 : decode cX4_swap 165 = .ok (.ireturn, 1) := by decide +kernel
theorem dX4_copies_0 : decode cX4_copies 0 = .ok (.iconst 0, 1) := by decide +kernel
theorem dX4_copies_1 : decode cX4_copies 1 = .ok (.istore_n 3, 1) := by decide +kernel
theorem dX4_copies_2 : decode cX4_copies 2 = .ok (.iload_n 3, 1) := by decide +kernel
theorem dX4_copies_3 : decode cX4_copies 3 = .ok (.bipush 33, 2) := by decide +kernel
theorem dX4_copies_5 : decode cX4_copies 5 = .ok (.if_icmp .ge 25, 3) := by decide +kernel
theorem dX4_copies_8 : decode cX4_copies 8 = .ok (.aload_n 0, 1) := by decide +kernel
theorem dX4_copies_9 : decode cX4_copies 9 = .ok (.getfield 7, 3) := by decide +kernel
theorem dX4_copies_12 : decode cX4_copies 12 = .ok (.iload_n 2, 1) := by decide +kernel
theorem dX4_copies_13 : decode cX4_copies 13 = .ok (.iload_n 3, 1) := by decide +kernel
theorem dX4_copies_14 : decode cX4_copies 14 = .ok (.iadd, 1) := by decide +kernel
theorem dX4_copies_15 : decode cX4_copies 15 = .ok (.aload_n 0, 1) := by decide +kernel
theorem dX4_copies_16 : decode cX4_copies 16 = .ok (.getfield 7, 3) := by decide +kernel
theorem dX4_copies_19 : decode cX4_copies 19 = .ok (.iload_n 1, 1) := by decide +kernel
theorem dX4_copies_20 : decode cX4_copies 20 = .ok (.iload_n 3, 1) := by decide +kernel
theorem dX4_copies_21 : decode cX4_copies 21 = .ok (.iadd, 1) := by decide +kernel
theorem dX4_copies_22 : decode cX4_copies 22 = .ok (.iaload, 1) := by decide +kernel
theorem dX4_copies_23 : decode cX4_copies 23 = .ok (.iastore, 1) := by decide +kernel
theorem dX4_copies_24 : decode cX4_copies 24 = .ok (.iinc 3 1, 3) := by decide +kernel
theorem dX4_copies_27 : decode cX4_copies 27 = .ok (.goto (-25), 3) := by decide +kernel
theorem dX4_copies_30 : decode cX4_copies 30 = .ok (.return_, 1) := by decide +kernel
theorem dX4_sole_0 : decode cX4_sole 0 = .ok (.iload_n 1, 1) := by decide +kernel
theorem dX4_sole_1 : decode cX4_sole 1 = .ok (.i2l, 1) := by decide +kernel
theorem dX4_sole_2 : decode cX4_sole 2 = .ok (.lconst 0, 1) := by decide +kernel
theorem dX4_sole_3 : decode cX4_sole 3 = .ok (.lconst 1, 1) := by decide +kernel
theorem dX4_sole_4 : decode cX4_sole 4 = .ok (.invokestatic 49, 3) := by decide +kernel
theorem dX4_sole_7 : decode cX4_sole 7 = .ok (.ifCond .ne 5, 3) := by decide +kernel
theorem dX4_sole_10 : decode cX4_sole 10 = .ok (.iconst (-1), 1) := by decide +kernel
theorem dX4_sole_11 : decode cX4_sole 11 = .ok (.ireturn, 1) := by decide +kernel
theorem dX4_sole_12 : decode cX4_sole 12 = .ok (.aload_n 0, 1) := by decide +kernel
theorem dX4_sole_13 : decode cX4_sole 13 = .ok (.iconst 0, 1) := by decide +kernel
theorem dX4_sole_14 : decode cX4_sole 14 = .ok (.bipush 99, 2) := by decide +kernel
theorem dX4_sole_16 : decode cX4_sole 16 = .ok (.invokevirtual 196, 3) := by decide +kernel
theorem dX4_sole_19 : decode cX4_sole 19 = .ok (.bipush (-4), 2) := by decide +kernel
theorem dX4_sole_21 : decode cX4_sole 21 = .ok (.istore_n 2, 1) := by decide +kernel
theorem dX4_sole_22 : decode cX4_sole 22 = .ok (.aload_n 0, 1) := by decide +kernel
theorem dX4_sole_23 : decode cX4_sole 23 = .ok (.ldc 192, 2) := by decide +kernel
theorem dX4_sole_25 : decode cX4_sole 25 = .ok (.putfield 189, 3) := by decide +kernel
theorem dX4_sole_28 : decode cX4_sole 28 = .ok (.iconst 0, 1) := by decide +kernel
theorem dX4_sole_29 : decode cX4_sole 29 = .ok (.istore_n 3, 1) := by decide +kernel
theorem dX4_sole_30 : decode cX4_sole 30 = .ok (.iload_n 3, 1) := by decide +kernel
theorem dX4_sole_31 : decode cX4_sole 31 = .ok (.aload_n 0, 1) := by decide +kernel
theorem dX4_sole_32 : decode cX4_sole 32 = .ok (.getfield 128, 3) := by decide +kernel
theorem dX4_sole_35 : decode cX4_sole 35 = .ok (.if_icmp .ge 55, 3) := by decide +kernel
theorem dX4_sole_38 : decode cX4_sole 38 = .ok (.iconst 0, 1) := by decide +kernel
theorem dX4_sole_39 : decode cX4_sole 39 = .ok (.istore 4, 2) := by decide +kernel
theorem dX4_sole_41 : decode cX4_sole 41 = .ok (.iload 4, 2) := by decide +kernel
theorem dX4_sole_43 : decode cX4_sole 43 = .ok (.bipush 12, 2) := by decide +kernel
theorem dX4_sole_45 : decode cX4_sole 45 = .ok (.if_icmp .ge 22, 3) := by decide +kernel
theorem dX4_sole_48 : decode cX4_sole 48 = .ok (.aload_n 0, 1) := by decide +kernel
theorem dX4_sole_49 : decode cX4_sole 49 = .ok (.getfield 7, 3) := by decide +kernel
theorem dX4_sole_52 : decode cX4_sole 52 = .ok (.bipush 8, 2) := by decide +kernel
theorem dX4_sole_54 : decode cX4_sole 54 = .ok (.iload 4, 2) := by decide +kernel
theorem dX4_sole_56 : decode cX4_sole 56 = .ok (.iadd, 1) := by decide +kernel
theorem dX4_sole_57 : decode cX4_sole 57 = .ok (.iload_n 3, 1) := by decide +kernel
theorem dX4_sole_58 : decode cX4_sole 58 = .ok (.iconst 1, 1) := by decide +kernel
theorem dX4_sole_59 : decode cX4_sole 59 = .ok (.iadd, 1) := by decide +kernel
theorem dX4_sole_60 : decode cX4_sole 60 = .ok (.iastore, 1) := by decide +kernel
theorem dX4_sole_61 : decode cX4_sole 61 = .ok (.iinc 4 1, 3) := by decide +kernel
theorem dX4_sole_64 : decode cX4_sole 64 = .ok (.goto (-23), 3) := by decide +kernel
theorem dX4_sole_67 : decode cX4_sole 67 = .ok (.aload_n 0, 1) := by decide +kernel
theorem dX4_sole_68 : decode cX4_sole 68 = .ok (.aload_n 0, 1) := by decide +kernel
theorem dX4_sole_69 : decode cX4_sole 69 = .ok (.invokevirtual 158, 3) := by decide +kernel
theorem dX4_sole_72 : decode cX4_sole 72 = .ok (.invokevirtual 193, 3) := by decide +kernel
theorem dX4_sole_75 : decode cX4_sole 75 = .ok (.ifCond .eq 7, 3) := by decide +kernel
theorem dX4_sole_78 : decode cX4_sole 78 = .ok (.iload_n 3, 1) := by decide +kernel
theorem dX4_sole_79 : decode cX4_sole 79 = .ok (.goto 4, 3) := by decide +kernel
theorem dX4_sole_82 : decode cX4_sole 82 = .ok (.iload_n 2, 1) := by decide +kernel
theorem dX4_sole_83 : decode cX4_sole 83 = .ok (.istore_n 2, 1) := by decide +kernel
theorem dX4_sole_84 : decode cX4_sole 84 = .ok (.iinc 3 1, 3) := by decide +kernel
theorem dX4_sole_87 : decode cX4_sole 87 = .ok (.goto (-57), 3) := by decide +kernel
theorem dX4_sole_90 : decode cX4_sole 90 = .ok (.aload_n 0, 1) := by decide +kernel
theorem dX4_sole_91 : decode cX4_sole 91 = .ok (.bipush 99, 2) := by decide +kernel
theorem dX4_sole_93 : decode cX4_sole 93 = .ok (.iconst 0, 1) := by decide +kernel
theorem dX4_sole_94 : decode cX4_sole 94 = .ok (.invokevirtual 196, 3) := by decide +kernel
theorem dX4_sole_97 : decode cX4_sole 97 = .ok (.iload_n 2, 1) := by decide +kernel
theorem dX4_sole_98 : decode cX4_sole 98 = .ok (.bipush (-4), 2) := by decide +kernel
theorem dX4_sole_100 : decode cX4_sole 100 = .ok (.if_icmp .eq 7, 3) := by decide +kernel
theorem dX4_sole_103 : decode cX4_sole 103 = .ok (.iload_n 1, 1) := by decide +kernel
theorem dX4_sole_104 : decode cX4_sole 104 = .ok (.ifCond .ne 7, 3) := by decide +kernel
theorem dX4_sole_107 : decode cX4_sole 107 = .ok (.iload_n 2, 1) := by decide +kernel
theorem dX4_sole_108 : decode cX4_sole 108 = .ok (.goto 7, 3) := by decide +kernel
theorem dX4_sole_111 : decode cX4_sole 111 = .ok (.aload_n 0, 1) := by decide +kernel
theorem dX4_sole_112 : decode cX4_sole 112 = .ok (.getfield 189, 3) := by decide +kernel
theorem dX4_sole_115 : decode cX4_sole 115 = .ok (.ireturn, 1) := by decide +kernel
theorem dX4_lowest_0 : decode cX4_lowest 0 = .ok (.lload_n 0, 1) := by decide +kernel
theorem dX4_lowest_1 : decode cX4_lowest 1 = .ok (.lstore 5, 2) := by decide +kernel
theorem dX4_lowest_3 : decode cX4_lowest 3 = .ok (.lload_n 2, 1) := by decide +kernel
theorem dX4_lowest_4 : decode cX4_lowest 4 = .ok (.lstore 7, 2) := by decide +kernel
theorem dX4_lowest_6 : decode cX4_lowest 6 = .ok (.lload 7, 2) := by decide +kernel
theorem dX4_lowest_8 : decode cX4_lowest 8 = .ok (.lconst 0, 1) := by decide +kernel
theorem dX4_lowest_9 : decode cX4_lowest 9 = .ok (.lcmp, 1) := by decide +kernel
theorem dX4_lowest_10 : decode cX4_lowest 10 = .ok (.ifCond .eq 21, 3) := by decide +kernel
theorem dX4_lowest_13 : decode cX4_lowest 13 = .ok (.lload 5, 2) := by decide +kernel
theorem dX4_lowest_15 : decode cX4_lowest 15 = .ok (.lload 7, 2) := by decide +kernel
theorem dX4_lowest_17 : decode cX4_lowest 17 = .ok (.lrem, 1) := by decide +kernel
theorem dX4_lowest_18 : decode cX4_lowest 18 = .ok (.lstore 9, 2) := by decide +kernel
theorem dX4_lowest_20 : decode cX4_lowest 20 = .ok (.lload 7, 2) := by decide +kernel
theorem dX4_lowest_22 : decode cX4_lowest 22 = .ok (.lstore 5, 2) := by decide +kernel
theorem dX4_lowest_24 : decode cX4_lowest 24 = .ok (.lload 9, 2) := by decide +kernel
theorem dX4_lowest_26 : decode cX4_lowest 26 = .ok (.lstore 7, 2) := by decide +kernel
theorem dX4_lowest_28 : decode cX4_lowest 28 = .ok (.goto (-22), 3) := by decide +kernel
theorem dX4_lowest_31 : decode cX4_lowest 31 = .ok (.iload 4, 2) := by decide +kernel
theorem dX4_lowest_33 : decode cX4_lowest 33 = .ok (.ifCond .ne 7, 3) := by decide +kernel
theorem dX4_lowest_36 : decode cX4_lowest 36 = .ok (.lload_n 0, 1) := by decide +kernel
theorem dX4_lowest_37 : decode cX4_lowest 37 = .ok (.goto 4, 3) := by decide +kernel
theorem dX4_lowest_40 : decode cX4_lowest 40 = .ok (.lload_n 2, 1) := by decide +kernel
theorem dX4_lowest_41 : decode cX4_lowest 41 = .ok (.lload 5, 2) := by decide +kernel
theorem dX4_lowest_43 : decode cX4_lowest 43 = .ok (.ldiv, 1) := by decide +kernel
theorem dX4_lowest_44 : decode cX4_lowest 44 = .ok (.lreturn, 1) := by decide +kernel
theorem dX4_byClouds_0 : decode cX4_byClouds 0 = .ok (.aload_n 0, 1) := by decide +kernel
theorem dX4_byClouds_1 : decode cX4_byClouds 1 = .ok (.getfield 7, 3) := by decide +kernel
theorem dX4_byClouds_4 : decode cX4_byClouds 4 = .ok (.bipush 20, 2) := by decide +kernel
theorem dX4_byClouds_6 : decode cX4_byClouds 6 = .ok (.iaload, 1) := by decide +kernel
theorem dX4_byClouds_7 : decode cX4_byClouds 7 = .ok (.istore 4, 2) := by decide +kernel
theorem dX4_byClouds_9 : decode cX4_byClouds 9 = .ok (.aload_n 0, 1) := by decide +kernel
theorem dX4_byClouds_10 : decode cX4_byClouds 10 = .ok (.bipush (-4), 2) := by decide +kernel
theorem dX4_byClouds_12 : decode cX4_byClouds 12 = .ok (.invokevirtual 155, 3) := by decide +kernel
theorem dX4_byClouds_15 : decode cX4_byClouds 15 = .ok (.iload 4, 2) := by decide +kernel
theorem dX4_byClouds_17 : decode cX4_byClouds 17 = .ok (.iconst (-1), 1) := by decide +kernel
theorem dX4_byClouds_18 : decode cX4_byClouds 18 = .ok (.ixor, 1) := by decide +kernel
theorem dX4_byClouds_19 : decode cX4_byClouds 19 = .ok (.iand, 1) := by decide +kernel
theorem dX4_byClouds_20 : decode cX4_byClouds 20 = .ok (.istore 5, 2) := by decide +kernel
theorem dX4_byClouds_22 : decode cX4_byClouds 22 = .ok (.lconst 0, 1) := by decide +kernel
theorem dX4_byClouds_23 : decode cX4_byClouds 23 = .ok (.lstore 6, 2) := by decide +kernel
theorem dX4_byClouds_25 : decode cX4_byClouds 25 = .ok (.lconst 1, 1) := by decide +kernel
theorem dX4_byClouds_26 : decode cX4_byClouds 26 = .ok (.lstore 8, 2) := by decide +kernel
theorem dX4_byClouds_28 : decode cX4_byClouds 28 = .ok (.iconst 0, 1) := by decide +kernel
theorem dX4_byClouds_29 : decode cX4_byClouds 29 = .ok (.istore 10, 2) := by decide +kernel
theorem dX4_byClouds_31 : decode cX4_byClouds 31 = .ok (.iload 10, 2) := by decide +kernel
theorem dX4_byClouds_33 : decode cX4_byClouds 33 = .ok (.bipush 12, 2) := by decide +kernel
theorem dX4_byClouds_35 : decode cX4_byClouds 35 = .ok (.if_icmp .ge 32, 3) := by decide +kernel
theorem dX4_byClouds_38 : decode cX4_byClouds 38 = .ok (.lload 8, 2) := by decide +kernel
theorem dX4_byClouds_40 : decode cX4_byClouds 40 = .ok (.iload 5, 2) := by decide +kernel
theorem dX4_byClouds_42 : decode cX4_byClouds 42 = .ok (.iload 10, 2) := by decide +kernel
theorem dX4_byClouds_44 : decode cX4_byClouds 44 = .ok (.ishr, 1) := by decide +kernel
theorem dX4_byClouds_45 : decode cX4_byClouds 45 = .ok (.iconst 1, 1) := by decide +kernel
theorem dX4_byClouds_46 : decode cX4_byClouds 46 = .ok (.iand, 1) := by decide +kernel
theorem dX4_byClouds_47 : decode cX4_byClouds 47 = .ok (.iconst 1, 1) := by decide +kernel
theorem dX4_byClouds_48 : decode cX4_byClouds 48 = .ok (.if_icmp .ne 9, 3) := by decide +kernel
theorem dX4_byClouds_51 : decode cX4_byClouds 51 = .ok (.ldc2_w 200, 3) := by decide +kernel
theorem dX4_byClouds_54 : decode cX4_byClouds 54 = .ok (.goto 4, 3) := by decide +kernel
theorem dX4_byClouds_57 : decode cX4_byClouds 57 = .ok (.lconst 1, 1) := by decide +kernel
theorem dX4_byClouds_58 : decode cX4_byClouds 58 = .ok (.lmul, 1) := by decide +kernel
theorem dX4_byClouds_59 : decode cX4_byClouds 59 = .ok (.lstore 8, 2) := by decide +kernel
theorem dX4_byClouds_61 : decode cX4_byClouds 61 = .ok (.iinc 10 1, 3) := by decide +kernel
theorem dX4_byClouds_64 : decode cX4_byClouds 64 = .ok (.goto (-33), 3) := by decide +kernel
theorem dX4_byClouds_67 : decode cX4_byClouds 67 = .ok (.iconst 0, 1) := by decide +kernel
theorem dX4_byClouds_68 : decode cX4_byClouds 68 = .ok (.istore 10, 2) := by decide +kernel
theorem dX4_byClouds_70 : decode cX4_byClouds 70 = .ok (.iload 10, 2) := by decide +kernel
theorem dX4_byClouds_72 : decode cX4_byClouds 72 = .ok (.sipush 4096, 3) := by decide +kernel
theorem dX4_byClouds_75 : decode cX4_byClouds 75 = .ok (.if_icmp .ge 131, 3) := by decide +kernel
theorem dX4_byClouds_78 : decode cX4_byClouds 78 = .ok (.iload 10, 2) := by decide +kernel
theorem dX4_byClouds_80 : decode cX4_byClouds 80 = .ok (.iload 5, 2) := by decide +kernel
theorem dX4_byClouds_82 : decode cX4_byClouds 82 = .ok (.iconst (-1), 1) := by decide +kernel
theorem dX4_byClouds_83 : decode cX4_byClouds 83 = .ok (.ixor, 1) := by decide +kernel
theorem dX4_byClouds_84 : decode cX4_byClouds 84 = .ok (.iand, 1) := by decide +kernel
theorem dX4_byClouds_85 : decode cX4_byClouds 85 = .ok (.ifCond .ne 115, 3) := by decide +kernel
theorem dX4_byClouds_88 : decode cX4_byClouds 88 = .ok (.lconst 1, 1) := by decide +kernel
theorem dX4_byClouds_89 : decode cX4_byClouds 89 = .ok (.lstore 11, 2) := by decide +kernel
theorem dX4_byClouds_91 : decode cX4_byClouds 91 = .ok (.iconst 0, 1) := by decide +kernel
theorem dX4_byClouds_92 : decode cX4_byClouds 92 = .ok (.istore 13, 2) := by decide +kernel
theorem dX4_byClouds_94 : decode cX4_byClouds 94 = .ok (.iload 13, 2) := by decide +kernel
theorem dX4_byClouds_96 : decode cX4_byClouds 96 = .ok (.bipush 12, 2) := by decide +kernel
theorem dX4_byClouds_98 : decode cX4_byClouds 98 = .ok (.if_icmp .ge 49, 3) := by decide +kernel
theorem dX4_byClouds_101 : decode cX4_byClouds 101 = .ok (.lload 11, 2) := by decide +kernel
theorem dX4_byClouds_103 : decode cX4_byClouds 103 = .ok (.iload 5, 2) := by decide +kernel
theorem dX4_byClouds_105 : decode cX4_byClouds 105 = .ok (.iload 13, 2) := by decide +kernel
theorem dX4_byClouds_107 : decode cX4_byClouds 107 = .ok (.ishr, 1) := by decide +kernel
theorem dX4_byClouds_108 : decode cX4_byClouds 108 = .ok (.iconst 1, 1) := by decide +kernel
theorem dX4_byClouds_109 : decode cX4_byClouds 109 = .ok (.iand, 1) := by decide +kernel
theorem dX4_byClouds_110 : decode cX4_byClouds 110 = .ok (.ifCond .ne 7, 3) := by decide +kernel
theorem dX4_byClouds_113 : decode cX4_byClouds 113 = .ok (.lconst 1, 1) := by decide +kernel
theorem dX4_byClouds_114 : decode cX4_byClouds 114 = .ok (.goto 24, 3) := by decide +kernel
theorem dX4_byClouds_117 : decode cX4_byClouds 117 = .ok (.iload 10, 2) := by decide +kernel
theorem dX4_byClouds_119 : decode cX4_byClouds 119 = .ok (.iload 13, 2) := by decide +kernel
theorem dX4_byClouds_121 : decode cX4_byClouds 121 = .ok (.ishr, 1) := by decide +kernel
theorem dX4_byClouds_122 : decode cX4_byClouds 122 = .ok (.iconst 1, 1) := by decide +kernel
theorem dX4_byClouds_123 : decode cX4_byClouds 123 = .ok (.iand, 1) := by decide +kernel
theorem dX4_byClouds_124 : decode cX4_byClouds 124 = .ok (.iconst 1, 1) := by decide +kernel
theorem dX4_byClouds_125 : decode cX4_byClouds 125 = .ok (.if_icmp .ne 8, 3) := by decide +kernel
theorem dX4_byClouds_128 : decode cX4_byClouds 128 = .ok (.iload_n 1, 1) := by decide +kernel
theorem dX4_byClouds_129 : decode cX4_byClouds 129 = .ok (.i2l, 1) := by decide +kernel
theorem dX4_byClouds_130 : decode cX4_byClouds 130 = .ok (.goto 8, 3) := by decide +kernel
theorem dX4_byClouds_133 : decode cX4_byClouds 133 = .ok (.bipush 10, 2) := by decide +kernel
theorem dX4_byClouds_135 : decode cX4_byClouds 135 = .ok (.iload_n 1, 1) := by decide +kernel
theorem dX4_byClouds_136 : decode cX4_byClouds 136 = .ok (.isub, 1) := by decide +kernel
theorem dX4_byClouds_137 : decode cX4_byClouds 137 = .ok (.i2l, 1) := by decide +kernel
theorem dX4_byClouds_138 : decode cX4_byClouds 138 = .ok (.lmul, 1) := by decide +kernel
theorem dX4_byClouds_139 : decode cX4_byClouds 139 = .ok (.lstore 11, 2) := by decide +kernel
theorem dX4_byClouds_141 : decode cX4_byClouds 141 = .ok (.iinc 13 1, 3) := by decide +kernel
theorem dX4_byClouds_144 : decode cX4_byClouds 144 = .ok (.goto (-50), 3) := by decide +kernel
theorem dX4_byClouds_147 : decode cX4_byClouds 147 = .ok (.aload_n 0, 1) := by decide +kernel
theorem dX4_byClouds_148 : decode cX4_byClouds 148 = .ok (.getfield 7, 3) := by decide +kernel
theorem dX4_byClouds_151 : decode cX4_byClouds 151 = .ok (.bipush 20, 2) := by decide +kernel
theorem dX4_byClouds_153 : decode cX4_byClouds 153 = .ok (.iload 4, 2) := by decide +kernel
theorem dX4_byClouds_155 : decode cX4_byClouds 155 = .ok (.iload 10, 2) := by decide +kernel
theorem dX4_byClouds_157 : decode cX4_byClouds 157 = .ok (.ior, 1) := by decide +kernel
theorem dX4_byClouds_158 : decode cX4_byClouds 158 = .ok (.iastore, 1) := by decide +kernel
theorem dX4_byClouds_159 : decode cX4_byClouds 159 = .ok (.aload_n 0, 1) := by decide +kernel
theorem dX4_byClouds_160 : decode cX4_byClouds 160 = .ok (.invokevirtual 158, 3) := by decide +kernel
theorem dX4_byClouds_163 : decode cX4_byClouds 163 = .ok (.istore 13, 2) := by decide +kernel
theorem dX4_byClouds_165 : decode cX4_byClouds 165 = .ok (.lload 6, 2) := by decide +kernel
theorem dX4_byClouds_167 : decode cX4_byClouds 167 = .ok (.lload 11, 2) := by decide +kernel
theorem dX4_byClouds_169 : decode cX4_byClouds 169 = .ok (.iload_n 2, 1) := by decide +kernel
theorem dX4_byClouds_170 : decode cX4_byClouds 170 = .ok (.bipush (-4), 2) := by decide +kernel
theorem dX4_byClouds_172 : decode cX4_byClouds 172 = .ok (.if_icmp .ne 8, 3) := by decide +kernel
theorem dX4_byClouds_175 : decode cX4_byClouds 175 = .ok (.iload 13, 2) := by decide +kernel
theorem dX4_byClouds_177 : decode cX4_byClouds 177 = .ok (.goto 18, 3) := by decide +kernel
theorem dX4_byClouds_180 : decode cX4_byClouds 180 = .ok (.aload_n 0, 1) := by decide +kernel
theorem dX4_byClouds_181 : decode cX4_byClouds 181 = .ok (.iload_n 2, 1) := by decide +kernel
theorem dX4_byClouds_182 : decode cX4_byClouds 182 = .ok (.invokevirtual 146, 3) := by decide +kernel
theorem dX4_byClouds_185 : decode cX4_byClouds 185 = .ok (.bipush (-4), 2) := by decide +kernel
theorem dX4_byClouds_187 : decode cX4_byClouds 187 = .ok (.if_icmp .ne 7, 3) := by decide +kernel
theorem dX4_byClouds_190 : decode cX4_byClouds 190 = .ok (.iconst 0, 1) := by decide +kernel
theorem dX4_byClouds_191 : decode cX4_byClouds 191 = .ok (.goto 4, 3) := by decide +kernel
theorem dX4_byClouds_194 : decode cX4_byClouds 194 = .ok (.iconst 1, 1) := by decide +kernel
theorem dX4_byClouds_195 : decode cX4_byClouds 195 = .ok (.i2l, 1) := by decide +kernel
theorem dX4_byClouds_196 : decode cX4_byClouds 196 = .ok (.lmul, 1) := by decide +kernel
theorem dX4_byClouds_197 : decode cX4_byClouds 197 = .ok (.ladd, 1) := by decide +kernel
theorem dX4_byClouds_198 : decode cX4_byClouds 198 = .ok (.lstore 6, 2) := by decide +kernel
theorem dX4_byClouds_200 : decode cX4_byClouds 200 = .ok (.iinc 10 1, 3) := by decide +kernel
theorem dX4_byClouds_203 : decode cX4_byClouds 203 = .ok (.goto (-133), 3) := by decide +kernel
theorem dX4_byClouds_206 : decode cX4_byClouds 206 = .ok (.aload_n 0, 1) := by decide +kernel
theorem dX4_byClouds_207 : decode cX4_byClouds 207 = .ok (.getfield 7, 3) := by decide +kernel
theorem dX4_byClouds_210 : decode cX4_byClouds 210 = .ok (.bipush 20, 2) := by decide +kernel
theorem dX4_byClouds_212 : decode cX4_byClouds 212 = .ok (.iload 4, 2) := by decide +kernel
theorem dX4_byClouds_214 : decode cX4_byClouds 214 = .ok (.iastore, 1) := by decide +kernel
theorem dX4_byClouds_215 : decode cX4_byClouds 215 = .ok (.lload 6, 2) := by decide +kernel
theorem dX4_byClouds_217 : decode cX4_byClouds 217 = .ok (.lload 8, 2) := by decide +kernel
theorem dX4_byClouds_219 : decode cX4_byClouds 219 = .ok (.iload_n 3, 1) := by decide +kernel
theorem dX4_byClouds_220 : decode cX4_byClouds 220 = .ok (.invokestatic 202, 3) := by decide +kernel
theorem dX4_byClouds_223 : decode cX4_byClouds 223 = .ok (.lreturn, 1) := by decide +kernel
theorem dX4_mean_0 : decode cX4_mean 0 = .ok (.iload_n 1, 1) := by decide +kernel
theorem dX4_mean_1 : decode cX4_mean 1 = .ok (.i2l, 1) := by decide +kernel
theorem dX4_mean_2 : decode cX4_mean 2 = .ok (.lconst 0, 1) := by decide +kernel
theorem dX4_mean_3 : decode cX4_mean 3 = .ok (.ldc2_w 200, 3) := by decide +kernel
theorem dX4_mean_6 : decode cX4_mean 6 = .ok (.invokestatic 49, 3) := by decide +kernel
theorem dX4_mean_9 : decode cX4_mean 9 = .ok (.ifCond .eq 24, 3) := by decide +kernel
theorem dX4_mean_12 : decode cX4_mean 12 = .ok (.iload_n 2, 1) := by decide +kernel
theorem dX4_mean_13 : decode cX4_mean 13 = .ok (.i2l, 1) := by decide +kernel
theorem dX4_mean_14 : decode cX4_mean 14 = .ok (.lconst 0, 1) := by decide +kernel
theorem dX4_mean_15 : decode cX4_mean 15 = .ok (.lconst 1, 1) := by decide +kernel
theorem dX4_mean_16 : decode cX4_mean 16 = .ok (.invokestatic 49, 3) := by decide +kernel
theorem dX4_mean_19 : decode cX4_mean 19 = .ok (.ifCond .eq 14, 3) := by decide +kernel
theorem dX4_mean_22 : decode cX4_mean 22 = .ok (.aload_n 0, 1) := by decide +kernel
theorem dX4_mean_23 : decode cX4_mean 23 = .ok (.iload_n 1, 1) := by decide +kernel
theorem dX4_mean_24 : decode cX4_mean 24 = .ok (.bipush (-4), 2) := by decide +kernel
theorem dX4_mean_26 : decode cX4_mean 26 = .ok (.iload_n 2, 1) := by decide +kernel
theorem dX4_mean_27 : decode cX4_mean 27 = .ok (.invokevirtual 206, 3) := by decide +kernel
theorem dX4_mean_30 : decode cX4_mean 30 = .ok (.goto 6, 3) := by decide +kernel
theorem dX4_mean_33 : decode cX4_mean 33 = .ok (.ldc2_w 210, 3) := by decide +kernel
theorem dX4_mean_36 : decode cX4_mean 36 = .ok (.lreturn, 1) := by decide +kernel
theorem dX4_luck_0 : decode cX4_luck 0 = .ok (.iload_n 1, 1) := by decide +kernel
theorem dX4_luck_1 : decode cX4_luck 1 = .ok (.i2l, 1) := by decide +kernel
theorem dX4_luck_2 : decode cX4_luck 2 = .ok (.lconst 0, 1) := by decide +kernel
theorem dX4_luck_3 : decode cX4_luck 3 = .ok (.ldc2_w 200, 3) := by decide +kernel
theorem dX4_luck_6 : decode cX4_luck 6 = .ok (.invokestatic 49, 3) := by decide +kernel
theorem dX4_luck_9 : decode cX4_luck 9 = .ok (.ifCond .eq 31, 3) := by decide +kernel
theorem dX4_luck_12 : decode cX4_luck 12 = .ok (.aload_n 0, 1) := by decide +kernel
theorem dX4_luck_13 : decode cX4_luck 13 = .ok (.iload_n 2, 1) := by decide +kernel
theorem dX4_luck_14 : decode cX4_luck 14 = .ok (.invokevirtual 173, 3) := by decide +kernel
theorem dX4_luck_17 : decode cX4_luck 17 = .ok (.ifCond .eq 23, 3) := by decide +kernel
theorem dX4_luck_20 : decode cX4_luck 20 = .ok (.iload_n 3, 1) := by decide +kernel
theorem dX4_luck_21 : decode cX4_luck 21 = .ok (.i2l, 1) := by decide +kernel
theorem dX4_luck_22 : decode cX4_luck 22 = .ok (.lconst 0, 1) := by decide +kernel
theorem dX4_luck_23 : decode cX4_luck 23 = .ok (.lconst 1, 1) := by decide +kernel
theorem dX4_luck_24 : decode cX4_luck 24 = .ok (.invokestatic 49, 3) := by decide +kernel
theorem dX4_luck_27 : decode cX4_luck 27 = .ok (.ifCond .eq 13, 3) := by decide +kernel
theorem dX4_luck_30 : decode cX4_luck 30 = .ok (.aload_n 0, 1) := by decide +kernel
theorem dX4_luck_31 : decode cX4_luck 31 = .ok (.iload_n 1, 1) := by decide +kernel
theorem dX4_luck_32 : decode cX4_luck 32 = .ok (.iload_n 2, 1) := by decide +kernel
theorem dX4_luck_33 : decode cX4_luck 33 = .ok (.iload_n 3, 1) := by decide +kernel
theorem dX4_luck_34 : decode cX4_luck 34 = .ok (.invokevirtual 206, 3) := by decide +kernel
theorem dX4_luck_37 : decode cX4_luck 37 = .ok (.goto 6, 3) := by decide +kernel
theorem dX4_luck_40 : decode cX4_luck 40 = .ok (.ldc2_w 210, 3) := by decide +kernel
theorem dX4_luck_43 : decode cX4_luck 43 = .ok (.lreturn, 1) := by decide +kernel
theorem dX4_see_0 : decode cX4_see 0 = .ok (.aload_n 0, 1) := by decide +kernel
theorem dX4_see_1 : decode cX4_see 1 = .ok (.iload_n 1, 1) := by decide +kernel
theorem dX4_see_2 : decode cX4_see 2 = .ok (.invokevirtual 173, 3) := by decide +kernel
theorem dX4_see_5 : decode cX4_see 5 = .ok (.ifCond .eq 21, 3) := by decide +kernel
theorem dX4_see_8 : decode cX4_see 8 = .ok (.iload_n 2, 1) := by decide +kernel
theorem dX4_see_9 : decode cX4_see 9 = .ok (.bipush (-4), 2) := by decide +kernel
theorem dX4_see_11 : decode cX4_see 11 = .ok (.if_icmp .eq 17, 3) := by decide +kernel
theorem dX4_see_14 : decode cX4_see 14 = .ok (.iload_n 2, 1) := by decide +kernel
theorem dX4_see_15 : decode cX4_see 15 = .ok (.i2l, 1) := by decide +kernel
theorem dX4_see_16 : decode cX4_see 16 = .ok (.lconst 0, 1) := by decide +kernel
theorem dX4_see_17 : decode cX4_see 17 = .ok (.ldc2_w 182, 3) := by decide +kernel
theorem dX4_see_20 : decode cX4_see 20 = .ok (.invokestatic 49, 3) := by decide +kernel
theorem dX4_see_23 : decode cX4_see 23 = .ok (.ifCond .ne 5, 3) := by decide +kernel
theorem dX4_see_26 : decode cX4_see 26 = .ok (.iconst (-1), 1) := by decide +kernel
theorem dX4_see_27 : decode cX4_see 27 = .ok (.ireturn, 1) := by decide +kernel
theorem dX4_see_28 : decode cX4_see 28 = .ok (.aload_n 0, 1) := by decide +kernel
theorem dX4_see_29 : decode cX4_see 29 = .ok (.getfield 131, 3) := by decide +kernel
theorem dX4_see_32 : decode cX4_see 32 = .ok (.bipush 6, 2) := by decide +kernel
theorem dX4_see_34 : decode cX4_see 34 = .ok (.if_icmp .ne 6, 3) := by decide +kernel
theorem dX4_see_37 : decode cX4_see 37 = .ok (.bipush (-3), 2) := by decide +kernel
theorem dX4_see_39 : decode cX4_see 39 = .ok (.ireturn, 1) := by decide +kernel
theorem dX4_see_40 : decode cX4_see 40 = .ok (.aload_n 0, 1) := by decide +kernel
theorem dX4_see_41 : decode cX4_see 41 = .ok (.getfield 28, 3) := by decide +kernel
theorem dX4_see_44 : decode cX4_see 44 = .ok (.iconst 2, 1) := by decide +kernel
theorem dX4_see_45 : decode cX4_see 45 = .ok (.aload_n 0, 1) := by decide +kernel
theorem dX4_see_46 : decode cX4_see 46 = .ok (.getfield 131, 3) := by decide +kernel
theorem dX4_see_49 : decode cX4_see 49 = .ok (.imul, 1) := by decide +kernel
theorem dX4_see_50 : decode cX4_see 50 = .ok (.iload_n 1, 1) := by decide +kernel
theorem dX4_see_51 : decode cX4_see 51 = .ok (.iastore, 1) := by decide +kernel
theorem dX4_see_52 : decode cX4_see 52 = .ok (.aload_n 0, 1) := by decide +kernel
theorem dX4_see_53 : decode cX4_see 53 = .ok (.getfield 28, 3) := by decide +kernel
theorem dX4_see_56 : decode cX4_see 56 = .ok (.iconst 2, 1) := by decide +kernel
theorem dX4_see_57 : decode cX4_see 57 = .ok (.aload_n 0, 1) := by decide +kernel
theorem dX4_see_58 : decode cX4_see 58 = .ok (.getfield 131, 3) := by decide +kernel
theorem dX4_see_61 : decode cX4_see 61 = .ok (.imul, 1) := by decide +kernel
theorem dX4_see_62 : decode cX4_see 62 = .ok (.iconst 1, 1) := by decide +kernel
theorem dX4_see_63 : decode cX4_see 63 = .ok (.iadd, 1) := by decide +kernel
theorem dX4_see_64 : decode cX4_see 64 = .ok (.iload_n 2, 1) := by decide +kernel
theorem dX4_see_65 : decode cX4_see 65 = .ok (.iastore, 1) := by decide +kernel
theorem dX4_see_66 : decode cX4_see 66 = .ok (.aload_n 0, 1) := by decide +kernel
theorem dX4_see_67 : decode cX4_see 67 = .ok (.dup, 1) := by decide +kernel
theorem dX4_see_68 : decode cX4_see 68 = .ok (.getfield 131, 3) := by decide +kernel
theorem dX4_see_71 : decode cX4_see 71 = .ok (.iconst 1, 1) := by decide +kernel
theorem dX4_see_72 : decode cX4_see 72 = .ok (.iadd, 1) := by decide +kernel
theorem dX4_see_73 : decode cX4_see 73 = .ok (.putfield 131, 3) := by decide +kernel
theorem dX4_see_76 : decode cX4_see 76 = .ok (.aload_n 0, 1) := by decide +kernel
theorem dX4_see_77 : decode cX4_see 77 = .ok (.getfield 131, 3) := by decide +kernel
theorem dX4_see_80 : decode cX4_see 80 = .ok (.ireturn, 1) := by decide +kernel
theorem dX4_forget_0 : decode cX4_forget 0 = .ok (.iload_n 1, 1) := by decide +kernel
theorem dX4_forget_1 : decode cX4_forget 1 = .ok (.i2l, 1) := by decide +kernel
theorem dX4_forget_2 : decode cX4_forget 2 = .ok (.lconst 0, 1) := by decide +kernel
theorem dX4_forget_3 : decode cX4_forget 3 = .ok (.aload_n 0, 1) := by decide +kernel
theorem dX4_forget_4 : decode cX4_forget 4 = .ok (.getfield 131, 3) := by decide +kernel
theorem dX4_forget_7 : decode cX4_forget 7 = .ok (.i2l, 1) := by decide +kernel
theorem dX4_forget_8 : decode cX4_forget 8 = .ok (.invokestatic 49, 3) := by decide +kernel
theorem dX4_forget_11 : decode cX4_forget 11 = .ok (.ifCond .ne 5, 3) := by decide +kernel
theorem dX4_forget_14 : decode cX4_forget 14 = .ok (.iconst (-1), 1) := by decide +kernel
theorem dX4_forget_15 : decode cX4_forget 15 = .ok (.ireturn, 1) := by decide +kernel
theorem dX4_forget_16 : decode cX4_forget 16 = .ok (.aload_n 0, 1) := by decide +kernel
theorem dX4_forget_17 : decode cX4_forget 17 = .ok (.getfield 131, 3) := by decide +kernel
theorem dX4_forget_20 : decode cX4_forget 20 = .ok (.istore_n 2, 1) := by decide +kernel
theorem dX4_forget_21 : decode cX4_forget 21 = .ok (.aload_n 0, 1) := by decide +kernel
theorem dX4_forget_22 : decode cX4_forget 22 = .ok (.iload_n 1, 1) := by decide +kernel
theorem dX4_forget_23 : decode cX4_forget 23 = .ok (.putfield 131, 3) := by decide +kernel
theorem dX4_forget_26 : decode cX4_forget 26 = .ok (.iload_n 2, 1) := by decide +kernel
theorem dX4_forget_27 : decode cX4_forget 27 = .ok (.ireturn, 1) := by decide +kernel
theorem dX4_isAsSeen_0 : decode cX4_isAsSeen 0 = .ok (.aload_n 0, 1) := by decide +kernel
theorem dX4_isAsSeen_1 : decode cX4_isAsSeen 1 = .ok (.invokevirtual 149, 3) := by decide +kernel
theorem dX4_isAsSeen_4 : decode cX4_isAsSeen 4 = .ok (.iconst 1, 1) := by decide +kernel
theorem dX4_isAsSeen_5 : decode cX4_isAsSeen 5 = .ok (.istore_n 1, 1) := by decide +kernel
theorem dX4_isAsSeen_6 : decode cX4_isAsSeen 6 = .ok (.iconst 0, 1) := by decide +kernel
theorem dX4_isAsSeen_7 : decode cX4_isAsSeen 7 = .ok (.istore_n 2, 1) := by decide +kernel
theorem dX4_isAsSeen_8 : decode cX4_isAsSeen 8 = .ok (.iload_n 2, 1) := by decide +kernel
theorem dX4_isAsSeen_9 : decode cX4_isAsSeen 9 = .ok (.aload_n 0, 1) := by decide +kernel
theorem dX4_isAsSeen_10 : decode cX4_isAsSeen 10 = .ok (.getfield 131, 3) := by decide +kernel
theorem dX4_isAsSeen_13 : decode cX4_isAsSeen 13 = .ok (.if_icmp .ge 59, 3) := by decide +kernel
theorem dX4_isAsSeen_16 : decode cX4_isAsSeen 16 = .ok (.iload_n 1, 1) := by decide +kernel
theorem dX4_isAsSeen_17 : decode cX4_isAsSeen 17 = .ok (.ifCond .eq 47, 3) := by decide +kernel
theorem dX4_isAsSeen_20 : decode cX4_isAsSeen 20 = .ok (.aload_n 0, 1) := by decide +kernel
theorem dX4_isAsSeen_21 : decode cX4_isAsSeen 21 = .ok (.aload_n 0, 1) := by decide +kernel
theorem dX4_isAsSeen_22 : decode cX4_isAsSeen 22 = .ok (.getfield 28, 3) := by decide +kernel
theorem dX4_isAsSeen_25 : decode cX4_isAsSeen 25 = .ok (.iconst 2, 1) := by decide +kernel
theorem dX4_isAsSeen_26 : decode cX4_isAsSeen 26 = .ok (.iload_n 2, 1) := by decide +kernel
theorem dX4_isAsSeen_27 : decode cX4_isAsSeen 27 = .ok (.imul, 1) := by decide +kernel
theorem dX4_isAsSeen_28 : decode cX4_isAsSeen 28 = .ok (.iaload, 1) := by decide +kernel
theorem dX4_isAsSeen_29 : decode cX4_isAsSeen 29 = .ok (.invokevirtual 173, 3) := by decide +kernel
theorem dX4_isAsSeen_32 : decode cX4_isAsSeen 32 = .ok (.ifCond .eq 32, 3) := by decide +kernel
theorem dX4_isAsSeen_35 : decode cX4_isAsSeen 35 = .ok (.aload_n 0, 1) := by decide +kernel
theorem dX4_isAsSeen_36 : decode cX4_isAsSeen 36 = .ok (.aload_n 0, 1) := by decide +kernel
theorem dX4_isAsSeen_37 : decode cX4_isAsSeen 37 = .ok (.getfield 28, 3) := by decide +kernel
theorem dX4_isAsSeen_40 : decode cX4_isAsSeen 40 = .ok (.iconst 2, 1) := by decide +kernel
theorem dX4_isAsSeen_41 : decode cX4_isAsSeen 41 = .ok (.iload_n 2, 1) := by decide +kernel
theorem dX4_isAsSeen_42 : decode cX4_isAsSeen 42 = .ok (.imul, 1) := by decide +kernel
theorem dX4_isAsSeen_43 : decode cX4_isAsSeen 43 = .ok (.iaload, 1) := by decide +kernel
theorem dX4_isAsSeen_44 : decode cX4_isAsSeen 44 = .ok (.invokevirtual 146, 3) := by decide +kernel
theorem dX4_isAsSeen_47 : decode cX4_isAsSeen 47 = .ok (.aload_n 0, 1) := by decide +kernel
theorem dX4_isAsSeen_48 : decode cX4_isAsSeen 48 = .ok (.getfield 28, 3) := by decide +kernel
theorem dX4_isAsSeen_51 : decode cX4_isAsSeen 51 = .ok (.iconst 2, 1) := by decide +kernel
theorem dX4_isAsSeen_52 : decode cX4_isAsSeen 52 = .ok (.iload_n 2, 1) := by decide +kernel
theorem dX4_isAsSeen_53 : decode cX4_isAsSeen 53 = .ok (.imul, 1) := by decide +kernel
theorem dX4_isAsSeen_54 : decode cX4_isAsSeen 54 = .ok (.iconst 1, 1) := by decide +kernel
theorem dX4_isAsSeen_55 : decode cX4_isAsSeen 55 = .ok (.iadd, 1) := by decide +kernel
theorem dX4_isAsSeen_56 : decode cX4_isAsSeen 56 = .ok (.iaload, 1) := by decide +kernel
theorem dX4_isAsSeen_57 : decode cX4_isAsSeen 57 = .ok (.if_icmp .ne 7, 3) := by decide +kernel
theorem dX4_isAsSeen_60 : decode cX4_isAsSeen 60 = .ok (.iconst 1, 1) := by decide +kernel
theorem dX4_isAsSeen_61 : decode cX4_isAsSeen 61 = .ok (.goto 4, 3) := by decide +kernel
theorem dX4_isAsSeen_64 : decode cX4_isAsSeen 64 = .ok (.iconst 0, 1) := by decide +kernel
theorem dX4_isAsSeen_65 : decode cX4_isAsSeen 65 = .ok (.istore_n 1, 1) := by decide +kernel
theorem dX4_isAsSeen_66 : decode cX4_isAsSeen 66 = .ok (.iinc 2 1, 3) := by decide +kernel
theorem dX4_isAsSeen_69 : decode cX4_isAsSeen 69 = .ok (.goto (-61), 3) := by decide +kernel
theorem dX4_isAsSeen_72 : decode cX4_isAsSeen 72 = .ok (.iload_n 1, 1) := by decide +kernel
theorem dX4_isAsSeen_73 : decode cX4_isAsSeen 73 = .ok (.ireturn, 1) := by decide +kernel
theorem dX4_leansOf_0 : decode cX4_leansOf 0 = .ok (.aload_n 0, 1) := by decide +kernel
theorem dX4_leansOf_1 : decode cX4_leansOf 1 = .ok (.getfield 7, 3) := by decide +kernel
theorem dX4_leansOf_4 : decode cX4_leansOf 4 = .ok (.iconst 4, 1) := by decide +kernel
theorem dX4_leansOf_5 : decode cX4_leansOf 5 = .ok (.iload_n 1, 1) := by decide +kernel
theorem dX4_leansOf_6 : decode cX4_leansOf 6 = .ok (.iadd, 1) := by decide +kernel
theorem dX4_leansOf_7 : decode cX4_leansOf 7 = .ok (.iaload, 1) := by decide +kernel
theorem dX4_leansOf_8 : decode cX4_leansOf 8 = .ok (.istore_n 2, 1) := by decide +kernel
theorem dX4_leansOf_9 : decode cX4_leansOf 9 = .ok (.iconst 0, 1) := by decide +kernel
theorem dX4_leansOf_10 : decode cX4_leansOf 10 = .ok (.istore_n 3, 1) := by decide +kernel
theorem dX4_leansOf_11 : decode cX4_leansOf 11 = .ok (.iconst 0, 1) := by decide +kernel
theorem dX4_leansOf_12 : decode cX4_leansOf 12 = .ok (.istore 4, 2) := by decide +kernel
theorem dX4_leansOf_14 : decode cX4_leansOf 14 = .ok (.iload 4, 2) := by decide +kernel
theorem dX4_leansOf_16 : decode cX4_leansOf 16 = .ok (.bipush 6, 2) := by decide +kernel
theorem dX4_leansOf_18 : decode cX4_leansOf 18 = .ok (.if_icmp .gt 76, 3) := by decide +kernel
theorem dX4_leansOf_21 : decode cX4_leansOf 21 = .ok (.aload_n 0, 1) := by decide +kernel
theorem dX4_leansOf_22 : decode cX4_leansOf 22 = .ok (.getfield 7, 3) := by decide +kernel
theorem dX4_leansOf_25 : decode cX4_leansOf 25 = .ok (.iconst 4, 1) := by decide +kernel
theorem dX4_leansOf_26 : decode cX4_leansOf 26 = .ok (.iload_n 1, 1) := by decide +kernel
theorem dX4_leansOf_27 : decode cX4_leansOf 27 = .ok (.iadd, 1) := by decide +kernel
theorem dX4_leansOf_28 : decode cX4_leansOf 28 = .ok (.iload 4, 2) := by decide +kernel
theorem dX4_leansOf_30 : decode cX4_leansOf 30 = .ok (.iastore, 1) := by decide +kernel
theorem dX4_leansOf_31 : decode cX4_leansOf 31 = .ok (.iload_n 3, 1) := by decide +kernel
theorem dX4_leansOf_32 : decode cX4_leansOf 32 = .ok (.aload_n 0, 1) := by decide +kernel
theorem dX4_leansOf_33 : decode cX4_leansOf 33 = .ok (.invokevirtual 212, 3) := by decide +kernel
theorem dX4_leansOf_36 : decode cX4_leansOf 36 = .ok (.ifCond .eq 10, 3) := by decide +kernel
theorem dX4_leansOf_39 : decode cX4_leansOf 39 = .ok (.iconst 1, 1) := by decide +kernel
theorem dX4_leansOf_40 : decode cX4_leansOf 40 = .ok (.iload 4, 2) := by decide +kernel
theorem dX4_leansOf_42 : decode cX4_leansOf 42 = .ok (.ishl, 1) := by decide +kernel
theorem dX4_leansOf_43 : decode cX4_leansOf 43 = .ok (.goto 4, 3) := by decide +kernel
theorem dX4_leansOf_46 : decode cX4_leansOf 46 = .ok (.iconst 0, 1) := by decide +kernel
theorem dX4_leansOf_47 : decode cX4_leansOf 47 = .ok (.ior, 1) := by decide +kernel
theorem dX4_leansOf_48 : decode cX4_leansOf 48 = .ok (.istore_n 3, 1) := by decide +kernel
theorem dX4_leansOf_49 : decode cX4_leansOf 49 = .ok (.iconst 0, 1) := by decide +kernel
theorem dX4_leansOf_50 : decode cX4_leansOf 50 = .ok (.istore 5, 2) := by decide +kernel
theorem dX4_leansOf_52 : decode cX4_leansOf 52 = .ok (.iload 5, 2) := by decide +kernel
theorem dX4_leansOf_54 : decode cX4_leansOf 54 = .ok (.aload_n 0, 1) := by decide +kernel
theorem dX4_leansOf_55 : decode cX4_leansOf 55 = .ok (.getfield 7, 3) := by decide +kernel
theorem dX4_leansOf_58 : decode cX4_leansOf 58 = .ok (.bipush 32, 2) := by decide +kernel
theorem dX4_leansOf_60 : decode cX4_leansOf 60 = .ok (.iaload, 1) := by decide +kernel
theorem dX4_leansOf_61 : decode cX4_leansOf 61 = .ok (.if_icmp .ge 27, 3) := by decide +kernel
theorem dX4_leansOf_64 : decode cX4_leansOf 64 = .ok (.aload_n 0, 1) := by decide +kernel
theorem dX4_leansOf_65 : decode cX4_leansOf 65 = .ok (.getfield 31, 3) := by decide +kernel
theorem dX4_leansOf_68 : decode cX4_leansOf 68 = .ok (.iconst 5, 1) := by decide +kernel
theorem dX4_leansOf_69 : decode cX4_leansOf 69 = .ok (.iload 4, 2) := by decide +kernel
theorem dX4_leansOf_71 : decode cX4_leansOf 71 = .ok (.imul, 1) := by decide +kernel
theorem dX4_leansOf_72 : decode cX4_leansOf 72 = .ok (.iload 5, 2) := by decide +kernel
theorem dX4_leansOf_74 : decode cX4_leansOf 74 = .ok (.iadd, 1) := by decide +kernel
theorem dX4_leansOf_75 : decode cX4_leansOf 75 = .ok (.aload_n 0, 1) := by decide +kernel
theorem dX4_leansOf_76 : decode cX4_leansOf 76 = .ok (.iload 5, 2) := by decide +kernel
theorem dX4_leansOf_78 : decode cX4_leansOf 78 = .ok (.invokevirtual 146, 3) := by decide +kernel
theorem dX4_leansOf_81 : decode cX4_leansOf 81 = .ok (.iastore, 1) := by decide +kernel
theorem dX4_leansOf_82 : decode cX4_leansOf 82 = .ok (.iinc 5 1, 3) := by decide +kernel
theorem dX4_leansOf_85 : decode cX4_leansOf 85 = .ok (.goto (-33), 3) := by decide +kernel
theorem dX4_leansOf_88 : decode cX4_leansOf 88 = .ok (.iinc 4 1, 3) := by decide +kernel
theorem dX4_leansOf_91 : decode cX4_leansOf 91 = .ok (.goto (-77), 3) := by decide +kernel
theorem dX4_leansOf_94 : decode cX4_leansOf 94 = .ok (.aload_n 0, 1) := by decide +kernel
theorem dX4_leansOf_95 : decode cX4_leansOf 95 = .ok (.getfield 7, 3) := by decide +kernel
theorem dX4_leansOf_98 : decode cX4_leansOf 98 = .ok (.iconst 4, 1) := by decide +kernel
theorem dX4_leansOf_99 : decode cX4_leansOf 99 = .ok (.iload_n 1, 1) := by decide +kernel
theorem dX4_leansOf_100 : decode cX4_leansOf 100 = .ok (.iadd, 1) := by decide +kernel
theorem dX4_leansOf_101 : decode cX4_leansOf 101 = .ok (.iload_n 2, 1) := by decide +kernel
theorem dX4_leansOf_102 : decode cX4_leansOf 102 = .ok (.iastore, 1) := by decide +kernel
theorem dX4_leansOf_103 : decode cX4_leansOf 103 = .ok (.iload_n 3, 1) := by decide +kernel
theorem dX4_leansOf_104 : decode cX4_leansOf 104 = .ok (.ireturn, 1) := by decide +kernel
theorem dX4_leans_0 : decode cX4_leans 0 = .ok (.aload_n 0, 1) := by decide +kernel
theorem dX4_leans_1 : decode cX4_leans 1 = .ok (.iload_n 1, 1) := by decide +kernel
theorem dX4_leans_2 : decode cX4_leans 2 = .ok (.invokevirtual 161, 3) := by decide +kernel
theorem dX4_leans_5 : decode cX4_leans 5 = .ok (.ifCond .eq 11, 3) := by decide +kernel
theorem dX4_leans_8 : decode cX4_leans 8 = .ok (.aload_n 0, 1) := by decide +kernel
theorem dX4_leans_9 : decode cX4_leans 9 = .ok (.iload_n 1, 1) := by decide +kernel
theorem dX4_leans_10 : decode cX4_leans 10 = .ok (.invokevirtual 216, 3) := by decide +kernel
theorem dX4_leans_13 : decode cX4_leans 13 = .ok (.goto 4, 3) := by decide +kernel
theorem dX4_leans_16 : decode cX4_leans 16 = .ok (.iconst (-1), 1) := by decide +kernel
theorem dX4_leans_17 : decode cX4_leans 17 = .ok (.ireturn, 1) := by decide +kernel
theorem dX4_kinds_0 : decode cX4_kinds 0 = .ok (.aload_n 0, 1) := by decide +kernel
theorem dX4_kinds_1 : decode cX4_kinds 1 = .ok (.iload_n 1, 1) := by decide +kernel
theorem dX4_kinds_2 : decode cX4_kinds 2 = .ok (.invokevirtual 161, 3) := by decide +kernel
theorem dX4_kinds_5 : decode cX4_kinds 5 = .ok (.ifCond .ne 5, 3) := by decide +kernel
theorem dX4_kinds_8 : decode cX4_kinds 8 = .ok (.iconst (-1), 1) := by decide +kernel
theorem dX4_kinds_9 : decode cX4_kinds 9 = .ok (.ireturn, 1) := by decide +kernel
theorem dX4_kinds_10 : decode cX4_kinds 10 = .ok (.aload_n 0, 1) := by decide +kernel
theorem dX4_kinds_11 : decode cX4_kinds 11 = .ok (.getfield 7, 3) := by decide +kernel
theorem dX4_kinds_14 : decode cX4_kinds 14 = .ok (.iload_n 1, 1) := by decide +kernel
theorem dX4_kinds_15 : decode cX4_kinds 15 = .ok (.iaload, 1) := by decide +kernel
theorem dX4_kinds_16 : decode cX4_kinds 16 = .ok (.istore_n 2, 1) := by decide +kernel
theorem dX4_kinds_17 : decode cX4_kinds 17 = .ok (.iconst 0, 1) := by decide +kernel
theorem dX4_kinds_18 : decode cX4_kinds 18 = .ok (.istore_n 3, 1) := by decide +kernel
theorem dX4_kinds_19 : decode cX4_kinds 19 = .ok (.iconst 0, 1) := by decide +kernel
theorem dX4_kinds_20 : decode cX4_kinds 20 = .ok (.istore 4, 2) := by decide +kernel
theorem dX4_kinds_22 : decode cX4_kinds 22 = .ok (.iload 4, 2) := by decide +kernel
theorem dX4_kinds_24 : decode cX4_kinds 24 = .ok (.iconst 4, 1) := by decide +kernel
theorem dX4_kinds_25 : decode cX4_kinds 25 = .ok (.if_icmp .ge 35, 3) := by decide +kernel
theorem dX4_kinds_28 : decode cX4_kinds 28 = .ok (.aload_n 0, 1) := by decide +kernel
theorem dX4_kinds_29 : decode cX4_kinds 29 = .ok (.getfield 7, 3) := by decide +kernel
theorem dX4_kinds_32 : decode cX4_kinds 32 = .ok (.iload_n 1, 1) := by decide +kernel
theorem dX4_kinds_33 : decode cX4_kinds 33 = .ok (.iload 4, 2) := by decide +kernel
theorem dX4_kinds_35 : decode cX4_kinds 35 = .ok (.iastore, 1) := by decide +kernel
theorem dX4_kinds_36 : decode cX4_kinds 36 = .ok (.iload_n 3, 1) := by decide +kernel
theorem dX4_kinds_37 : decode cX4_kinds 37 = .ok (.aload_n 0, 1) := by decide +kernel
theorem dX4_kinds_38 : decode cX4_kinds 38 = .ok (.invokevirtual 212, 3) := by decide +kernel
theorem dX4_kinds_41 : decode cX4_kinds 41 = .ok (.ifCond .eq 10, 3) := by decide +kernel
theorem dX4_kinds_44 : decode cX4_kinds 44 = .ok (.iconst 1, 1) := by decide +kernel
theorem dX4_kinds_45 : decode cX4_kinds 45 = .ok (.iload 4, 2) := by decide +kernel
theorem dX4_kinds_47 : decode cX4_kinds 47 = .ok (.ishl, 1) := by decide +kernel
theorem dX4_kinds_48 : decode cX4_kinds 48 = .ok (.goto 4, 3) := by decide +kernel
theorem dX4_kinds_51 : decode cX4_kinds 51 = .ok (.iconst 0, 1) := by decide +kernel
theorem dX4_kinds_52 : decode cX4_kinds 52 = .ok (.ior, 1) := by decide +kernel
theorem dX4_kinds_53 : decode cX4_kinds 53 = .ok (.istore_n 3, 1) := by decide +kernel
theorem dX4_kinds_54 : decode cX4_kinds 54 = .ok (.iinc 4 1, 3) := by decide +kernel
theorem dX4_kinds_57 : decode cX4_kinds 57 = .ok (.goto (-35), 3) := by decide +kernel
theorem dX4_kinds_60 : decode cX4_kinds 60 = .ok (.aload_n 0, 1) := by decide +kernel
theorem dX4_kinds_61 : decode cX4_kinds 61 = .ok (.getfield 7, 3) := by decide +kernel
theorem dX4_kinds_64 : decode cX4_kinds 64 = .ok (.iload_n 1, 1) := by decide +kernel
theorem dX4_kinds_65 : decode cX4_kinds 65 = .ok (.iload_n 2, 1) := by decide +kernel
theorem dX4_kinds_66 : decode cX4_kinds 66 = .ok (.iastore, 1) := by decide +kernel
theorem dX4_kinds_67 : decode cX4_kinds 67 = .ok (.iload_n 3, 1) := by decide +kernel
theorem dX4_kinds_68 : decode cX4_kinds 68 = .ok (.ireturn, 1) := by decide +kernel
theorem dX4_bitsOf_0 : decode cX4_bitsOf 0 = .ok (.iconst 0, 1) := by decide +kernel
theorem dX4_bitsOf_1 : decode cX4_bitsOf 1 = .ok (.istore_n 1, 1) := by decide +kernel
theorem dX4_bitsOf_2 : decode cX4_bitsOf 2 = .ok (.iconst 0, 1) := by decide +kernel
theorem dX4_bitsOf_3 : decode cX4_bitsOf 3 = .ok (.istore_n 2, 1) := by decide +kernel
theorem dX4_bitsOf_4 : decode cX4_bitsOf 4 = .ok (.iload_n 2, 1) := by decide +kernel
theorem dX4_bitsOf_5 : decode cX4_bitsOf 5 = .ok (.bipush 12, 2) := by decide +kernel
theorem dX4_bitsOf_7 : decode cX4_bitsOf 7 = .ok (.if_icmp .ge 17, 3) := by decide +kernel
theorem dX4_bitsOf_10 : decode cX4_bitsOf 10 = .ok (.iload_n 1, 1) := by decide +kernel
theorem dX4_bitsOf_11 : decode cX4_bitsOf 11 = .ok (.iload_n 0, 1) := by decide +kernel
theorem dX4_bitsOf_12 : decode cX4_bitsOf 12 = .ok (.iload_n 2, 1) := by decide +kernel
theorem dX4_bitsOf_13 : decode cX4_bitsOf 13 = .ok (.ishr, 1) := by decide +kernel
theorem dX4_bitsOf_14 : decode cX4_bitsOf 14 = .ok (.iconst 1, 1) := by decide +kernel
theorem dX4_bitsOf_15 : decode cX4_bitsOf 15 = .ok (.iand, 1) := by decide +kernel
theorem dX4_bitsOf_16 : decode cX4_bitsOf 16 = .ok (.iadd, 1) := by decide +kernel
theorem dX4_bitsOf_17 : decode cX4_bitsOf 17 = .ok (.istore_n 1, 1) := by decide +kernel
theorem dX4_bitsOf_18 : decode cX4_bitsOf 18 = .ok (.iinc 2 1, 3) := by decide +kernel
theorem dX4_bitsOf_21 : decode cX4_bitsOf 21 = .ok (.goto (-17), 3) := by decide +kernel
theorem dX4_bitsOf_24 : decode cX4_bitsOf 24 = .ok (.iload_n 1, 1) := by decide +kernel
theorem dX4_bitsOf_25 : decode cX4_bitsOf 25 = .ok (.ireturn, 1) := by decide +kernel
theorem dX4_ask_0 : decode cX4_ask 0 = .ok (.aload_n 0, 1) := by decide +kernel
theorem dX4_ask_1 : decode cX4_ask 1 = .ok (.iload_n 1, 1) := by decide +kernel
theorem dX4_ask_2 : decode cX4_ask 2 = .ok (.invokevirtual 161, 3) := by decide +kernel
theorem dX4_ask_5 : decode cX4_ask 5 = .ok (.ifCond .eq 13, 3) := by decide +kernel
theorem dX4_ask_8 : decode cX4_ask 8 = .ok (.iload_n 2, 1) := by decide +kernel
theorem dX4_ask_9 : decode cX4_ask 9 = .ok (.i2l, 1) := by decide +kernel
theorem dX4_ask_10 : decode cX4_ask 10 = .ok (.lconst 0, 1) := by decide +kernel
theorem dX4_ask_11 : decode cX4_ask 11 = .ok (.lconst 1, 1) := by decide +kernel
theorem dX4_ask_12 : decode cX4_ask 12 = .ok (.invokestatic 49, 3) := by decide +kernel
theorem dX4_ask_15 : decode cX4_ask 15 = .ok (.ifCond .ne 5, 3) := by decide +kernel
theorem dX4_ask_18 : decode cX4_ask 18 = .ok (.iconst (-1), 1) := by decide +kernel
theorem dX4_ask_19 : decode cX4_ask 19 = .ok (.ireturn, 1) := by decide +kernel
theorem dX4_ask_20 : decode cX4_ask 20 = .ok (.aload_n 0, 1) := by decide +kernel
theorem dX4_ask_21 : decode cX4_ask 21 = .ok (.iload_n 1, 1) := by decide +kernel
theorem dX4_ask_22 : decode cX4_ask 22 = .ok (.invokevirtual 216, 3) := by decide +kernel
theorem dX4_ask_25 : decode cX4_ask 25 = .ok (.istore_n 3, 1) := by decide +kernel
theorem dX4_ask_26 : decode cX4_ask 26 = .ok (.bipush (-4), 2) := by decide +kernel
theorem dX4_ask_28 : decode cX4_ask 28 = .ok (.istore 4, 2) := by decide +kernel
theorem dX4_ask_30 : decode cX4_ask 30 = .ok (.aload_n 0, 1) := by decide +kernel
theorem dX4_ask_31 : decode cX4_ask 31 = .ok (.iload_n 3, 1) := by decide +kernel
theorem dX4_ask_32 : decode cX4_ask 32 = .ok (.invokestatic 219, 3) := by decide +kernel
theorem dX4_ask_35 : decode cX4_ask 35 = .ok (.putfield 189, 3) := by decide +kernel
theorem dX4_ask_38 : decode cX4_ask 38 = .ok (.iconst 0, 1) := by decide +kernel
theorem dX4_ask_39 : decode cX4_ask 39 = .ok (.istore 5, 2) := by decide +kernel
theorem dX4_ask_41 : decode cX4_ask 41 = .ok (.iload 5, 2) := by decide +kernel
theorem dX4_ask_43 : decode cX4_ask 43 = .ok (.aload_n 0, 1) := by decide +kernel
theorem dX4_ask_44 : decode cX4_ask 44 = .ok (.getfield 7, 3) := by decide +kernel
theorem dX4_ask_47 : decode cX4_ask 47 = .ok (.bipush 32, 2) := by decide +kernel
theorem dX4_ask_49 : decode cX4_ask 49 = .ok (.iaload, 1) := by decide +kernel
theorem dX4_ask_50 : decode cX4_ask 50 = .ok (.if_icmp .ge 138, 3) := by decide +kernel
theorem dX4_ask_53 : decode cX4_ask 53 = .ok (.iconst 0, 1) := by decide +kernel
theorem dX4_ask_54 : decode cX4_ask 54 = .ok (.istore 6, 2) := by decide +kernel
theorem dX4_ask_56 : decode cX4_ask 56 = .ok (.iconst 0, 1) := by decide +kernel
theorem dX4_ask_57 : decode cX4_ask 57 = .ok (.istore 7, 2) := by decide +kernel
theorem dX4_ask_59 : decode cX4_ask 59 = .ok (.iload 7, 2) := by decide +kernel
theorem dX4_ask_61 : decode cX4_ask 61 = .ok (.bipush 6, 2) := by decide +kernel
theorem dX4_ask_63 : decode cX4_ask 63 = .ok (.if_icmp .gt 101, 3) := by decide +kernel
theorem dX4_ask_66 : decode cX4_ask 66 = .ok (.iconst 0, 1) := by decide +kernel
theorem dX4_ask_67 : decode cX4_ask 67 = .ok (.istore 8, 2) := by decide +kernel
theorem dX4_ask_69 : decode cX4_ask 69 = .ok (.iconst 0, 1) := by decide +kernel
theorem dX4_ask_70 : decode cX4_ask 70 = .ok (.istore 9, 2) := by decide +kernel
theorem dX4_ask_72 : decode cX4_ask 72 = .ok (.iload 9, 2) := by decide +kernel
theorem dX4_ask_74 : decode cX4_ask 74 = .ok (.bipush 6, 2) := by decide +kernel
theorem dX4_ask_76 : decode cX4_ask 76 = .ok (.if_icmp .gt 66, 3) := by decide +kernel
theorem dX4_ask_79 : decode cX4_ask 79 = .ok (.iload_n 3, 1) := by decide +kernel
theorem dX4_ask_80 : decode cX4_ask 80 = .ok (.iload 7, 2) := by decide +kernel
theorem dX4_ask_82 : decode cX4_ask 82 = .ok (.ishr, 1) := by decide +kernel
theorem dX4_ask_83 : decode cX4_ask 83 = .ok (.iconst 1, 1) := by decide +kernel
theorem dX4_ask_84 : decode cX4_ask 84 = .ok (.iand, 1) := by decide +kernel
theorem dX4_ask_85 : decode cX4_ask 85 = .ok (.iconst 1, 1) := by decide +kernel
theorem dX4_ask_86 : decode cX4_ask 86 = .ok (.if_icmp .ne 56, 3) := by decide +kernel
theorem dX4_ask_89 : decode cX4_ask 89 = .ok (.iload 8, 2) := by decide +kernel
theorem dX4_ask_91 : decode cX4_ask 91 = .ok (.iload_n 3, 1) := by decide +kernel
theorem dX4_ask_92 : decode cX4_ask 92 = .ok (.iload 9, 2) := by decide +kernel
theorem dX4_ask_94 : decode cX4_ask 94 = .ok (.ishr, 1) := by decide +kernel
theorem dX4_ask_95 : decode cX4_ask 95 = .ok (.iconst 1, 1) := by decide +kernel
theorem dX4_ask_96 : decode cX4_ask 96 = .ok (.iand, 1) := by decide +kernel
theorem dX4_ask_97 : decode cX4_ask 97 = .ok (.iconst 1, 1) := by decide +kernel
theorem dX4_ask_98 : decode cX4_ask 98 = .ok (.if_icmp .ne 34, 3) := by decide +kernel
theorem dX4_ask_101 : decode cX4_ask 101 = .ok (.aload_n 0, 1) := by decide +kernel
theorem dX4_ask_102 : decode cX4_ask 102 = .ok (.getfield 31, 3) := by decide +kernel
theorem dX4_ask_105 : decode cX4_ask 105 = .ok (.iconst 5, 1) := by decide +kernel
theorem dX4_ask_106 : decode cX4_ask 106 = .ok (.iload 7, 2) := by decide +kernel
theorem dX4_ask_108 : decode cX4_ask 108 = .ok (.imul, 1) := by decide +kernel
theorem dX4_ask_109 : decode cX4_ask 109 = .ok (.iload 5, 2) := by decide +kernel
theorem dX4_ask_111 : decode cX4_ask 111 = .ok (.iadd, 1) := by decide +kernel
theorem dX4_ask_112 : decode cX4_ask 112 = .ok (.iaload, 1) := by decide +kernel
theorem dX4_ask_113 : decode cX4_ask 113 = .ok (.aload_n 0, 1) := by decide +kernel
theorem dX4_ask_114 : decode cX4_ask 114 = .ok (.getfield 31, 3) := by decide +kernel
theorem dX4_ask_117 : decode cX4_ask 117 = .ok (.iconst 5, 1) := by decide +kernel
theorem dX4_ask_118 : decode cX4_ask 118 = .ok (.iload 9, 2) := by decide +kernel
theorem dX4_ask_120 : decode cX4_ask 120 = .ok (.imul, 1) := by decide +kernel
theorem dX4_ask_121 : decode cX4_ask 121 = .ok (.iload 5, 2) := by decide +kernel
theorem dX4_ask_123 : decode cX4_ask 123 = .ok (.iadd, 1) := by decide +kernel
theorem dX4_ask_124 : decode cX4_ask 124 = .ok (.iaload, 1) := by decide +kernel
theorem dX4_ask_125 : decode cX4_ask 125 = .ok (.if_icmp .ne 7, 3) := by decide +kernel
theorem dX4_ask_128 : decode cX4_ask 128 = .ok (.iconst 1, 1) := by decide +kernel
theorem dX4_ask_129 : decode cX4_ask 129 = .ok (.goto 4, 3) := by decide +kernel
theorem dX4_ask_132 : decode cX4_ask 132 = .ok (.iconst 0, 1) := by decide +kernel
theorem dX4_ask_133 : decode cX4_ask 133 = .ok (.iadd, 1) := by decide +kernel
theorem dX4_ask_134 : decode cX4_ask 134 = .ok (.istore 8, 2) := by decide +kernel
theorem dX4_ask_136 : decode cX4_ask 136 = .ok (.iinc 9 1, 3) := by decide +kernel
theorem dX4_ask_139 : decode cX4_ask 139 = .ok (.goto (-67), 3) := by decide +kernel
theorem dX4_ask_142 : decode cX4_ask 142 = .ok (.iload 8, 2) := by decide +kernel
theorem dX4_ask_144 : decode cX4_ask 144 = .ok (.iload 6, 2) := by decide +kernel
theorem dX4_ask_146 : decode cX4_ask 146 = .ok (.if_icmp .le 8, 3) := by decide +kernel
theorem dX4_ask_149 : decode cX4_ask 149 = .ok (.iload 8, 2) := by decide +kernel
theorem dX4_ask_151 : decode cX4_ask 151 = .ok (.goto 5, 3) := by decide +kernel
theorem dX4_ask_154 : decode cX4_ask 154 = .ok (.iload 6, 2) := by decide +kernel
theorem dX4_ask_156 : decode cX4_ask 156 = .ok (.istore 6, 2) := by decide +kernel
theorem dX4_ask_158 : decode cX4_ask 158 = .ok (.iinc 7 1, 3) := by decide +kernel
theorem dX4_ask_161 : decode cX4_ask 161 = .ok (.goto (-102), 3) := by decide +kernel
theorem dX4_ask_164 : decode cX4_ask 164 = .ok (.aload_n 0, 1) := by decide +kernel
theorem dX4_ask_165 : decode cX4_ask 165 = .ok (.iload 6, 2) := by decide +kernel
theorem dX4_ask_167 : decode cX4_ask 167 = .ok (.invokevirtual 193, 3) := by decide +kernel
theorem dX4_ask_170 : decode cX4_ask 170 = .ok (.ifCond .eq 8, 3) := by decide +kernel
theorem dX4_ask_173 : decode cX4_ask 173 = .ok (.iload 5, 2) := by decide +kernel
theorem dX4_ask_175 : decode cX4_ask 175 = .ok (.goto 5, 3) := by decide +kernel
theorem dX4_ask_178 : decode cX4_ask 178 = .ok (.iload 4, 2) := by decide +kernel
theorem dX4_ask_180 : decode cX4_ask 180 = .ok (.istore 4, 2) := by decide +kernel
theorem dX4_ask_182 : decode cX4_ask 182 = .ok (.iinc 5 1, 3) := by decide +kernel
theorem dX4_ask_185 : decode cX4_ask 185 = .ok (.goto (-144), 3) := by decide +kernel
theorem dX4_ask_188 : decode cX4_ask 188 = .ok (.iload 4, 2) := by decide +kernel
theorem dX4_ask_190 : decode cX4_ask 190 = .ok (.bipush (-4), 2) := by decide +kernel
theorem dX4_ask_192 : decode cX4_ask 192 = .ok (.if_icmp .eq 7, 3) := by decide +kernel
theorem dX4_ask_195 : decode cX4_ask 195 = .ok (.iload_n 2, 1) := by decide +kernel
theorem dX4_ask_196 : decode cX4_ask 196 = .ok (.ifCond .ne 8, 3) := by decide +kernel
theorem dX4_ask_199 : decode cX4_ask 199 = .ok (.iload 4, 2) := by decide +kernel
theorem dX4_ask_201 : decode cX4_ask 201 = .ok (.goto 7, 3) := by decide +kernel
theorem dX4_ask_204 : decode cX4_ask 204 = .ok (.aload_n 0, 1) := by decide +kernel
theorem dX4_ask_205 : decode cX4_ask 205 = .ok (.getfield 189, 3) := by decide +kernel
theorem dX4_ask_208 : decode cX4_ask 208 = .ok (.ireturn, 1) := by decide +kernel
theorem dX4_draws_0 : decode cX4_draws 0 = .ok (.aload_n 0, 1) := by decide +kernel
theorem dX4_draws_1 : decode cX4_draws 1 = .ok (.aload_n 0, 1) := by decide +kernel
theorem dX4_draws_2 : decode cX4_draws 2 = .ok (.getfield 222, 3) := by decide +kernel
theorem dX4_draws_5 : decode cX4_draws 5 = .ok (.ldc 225, 2) := by decide +kernel
theorem dX4_draws_7 : decode cX4_draws 7 = .ok (.imul, 1) := by decide +kernel
theorem dX4_draws_8 : decode cX4_draws 8 = .ok (.sipush 12345, 3) := by decide +kernel
theorem dX4_draws_11 : decode cX4_draws 11 = .ok (.iadd, 1) := by decide +kernel
theorem dX4_draws_12 : decode cX4_draws 12 = .ok (.putfield 222, 3) := by decide +kernel
theorem dX4_draws_15 : decode cX4_draws 15 = .ok (.aload_n 0, 1) := by decide +kernel
theorem dX4_draws_16 : decode cX4_draws 16 = .ok (.getfield 222, 3) := by decide +kernel
theorem dX4_draws_19 : decode cX4_draws 19 = .ok (.bipush 16, 2) := by decide +kernel
theorem dX4_draws_21 : decode cX4_draws 21 = .ok (.ishr, 1) := by decide +kernel
theorem dX4_draws_22 : decode cX4_draws 22 = .ok (.sipush 32767, 3) := by decide +kernel
theorem dX4_draws_25 : decode cX4_draws 25 = .ok (.iand, 1) := by decide +kernel
theorem dX4_draws_26 : decode cX4_draws 26 = .ok (.iload_n 1, 1) := by decide +kernel
theorem dX4_draws_27 : decode cX4_draws 27 = .ok (.irem, 1) := by decide +kernel
theorem dX4_draws_28 : decode cX4_draws 28 = .ok (.ireturn, 1) := by decide +kernel
theorem dX4_drift_0 : decode cX4_drift 0 = .ok (.iload_n 2, 1) := by decide +kernel
theorem dX4_drift_1 : decode cX4_drift 1 = .ok (.i2l, 1) := by decide +kernel
theorem dX4_drift_2 : decode cX4_drift 2 = .ok (.lconst 1, 1) := by decide +kernel
theorem dX4_drift_3 : decode cX4_drift 3 = .ok (.ldc2_w 226, 3) := by decide +kernel
theorem dX4_drift_6 : decode cX4_drift 6 = .ok (.invokestatic 49, 3) := by decide +kernel
theorem dX4_drift_9 : decode cX4_drift 9 = .ok (.ifCond .eq 13, 3) := by decide +kernel
theorem dX4_drift_12 : decode cX4_drift 12 = .ok (.iload_n 3, 1) := by decide +kernel
theorem dX4_drift_13 : decode cX4_drift 13 = .ok (.i2l, 1) := by decide +kernel
theorem dX4_drift_14 : decode cX4_drift 14 = .ok (.lconst 0, 1) := by decide +kernel
theorem dX4_drift_15 : decode cX4_drift 15 = .ok (.lconst 1, 1) := by decide +kernel
theorem dX4_drift_16 : decode cX4_drift 16 = .ok (.invokestatic 49, 3) := by decide +kernel
theorem dX4_drift_19 : decode cX4_drift 19 = .ok (.ifCond .ne 5, 3) := by decide +kernel
theorem dX4_drift_22 : decode cX4_drift 22 = .ok (.iconst (-1), 1) := by decide +kernel
theorem dX4_drift_23 : decode cX4_drift 23 = .ok (.ireturn, 1) := by decide +kernel
theorem dX4_drift_24 : decode cX4_drift 24 = .ok (.aload_n 0, 1) := by decide +kernel
theorem dX4_drift_25 : decode cX4_drift 25 = .ok (.getfield 128, 3) := by decide +kernel
theorem dX4_drift_28 : decode cX4_drift 28 = .ok (.ifCond .ne 6, 3) := by decide +kernel
theorem dX4_drift_31 : decode cX4_drift 31 = .ok (.bipush (-2), 2) := by decide +kernel
theorem dX4_drift_33 : decode cX4_drift 33 = .ok (.ireturn, 1) := by decide +kernel
theorem dX4_drift_34 : decode cX4_drift 34 = .ok (.aload_n 0, 1) := by decide +kernel
theorem dX4_drift_35 : decode cX4_drift 35 = .ok (.iconst 0, 1) := by decide +kernel
theorem dX4_drift_36 : decode cX4_drift 36 = .ok (.bipush 99, 2) := by decide +kernel
theorem dX4_drift_38 : decode cX4_drift 38 = .ok (.invokevirtual 196, 3) := by decide +kernel
theorem dX4_drift_41 : decode cX4_drift 41 = .ok (.aload_n 0, 1) := by decide +kernel
theorem dX4_drift_42 : decode cX4_drift 42 = .ok (.iload_n 1, 1) := by decide +kernel
theorem dX4_drift_43 : decode cX4_drift 43 = .ok (.putfield 222, 3) := by decide +kernel
theorem dX4_drift_46 : decode cX4_drift 46 = .ok (.iconst 0, 1) := by decide +kernel
theorem dX4_drift_47 : decode cX4_drift 47 = .ok (.istore 4, 2) := by decide +kernel
theorem dX4_drift_49 : decode cX4_drift 49 = .ok (.iconst 0, 1) := by decide +kernel
theorem dX4_drift_50 : decode cX4_drift 50 = .ok (.istore 5, 2) := by decide +kernel
theorem dX4_drift_52 : decode cX4_drift 52 = .ok (.iload 5, 2) := by decide +kernel
theorem dX4_drift_54 : decode cX4_drift 54 = .ok (.iload_n 2, 1) := by decide +kernel
theorem dX4_drift_55 : decode cX4_drift 55 = .ok (.if_icmp .ge 65, 3) := by decide +kernel
theorem dX4_drift_58 : decode cX4_drift 58 = .ok (.aload_n 0, 1) := by decide +kernel
theorem dX4_drift_59 : decode cX4_drift 59 = .ok (.bipush 12, 2) := by decide +kernel
theorem dX4_drift_61 : decode cX4_drift 61 = .ok (.invokevirtual 228, 3) := by decide +kernel
theorem dX4_drift_64 : decode cX4_drift 64 = .ok (.istore 6, 2) := by decide +kernel
theorem dX4_drift_66 : decode cX4_drift 66 = .ok (.aload_n 0, 1) := by decide +kernel
theorem dX4_drift_67 : decode cX4_drift 67 = .ok (.aload_n 0, 1) := by decide +kernel
theorem dX4_drift_68 : decode cX4_drift 68 = .ok (.getfield 128, 3) := by decide +kernel
theorem dX4_drift_71 : decode cX4_drift 71 = .ok (.iconst 1, 1) := by decide +kernel
theorem dX4_drift_72 : decode cX4_drift 72 = .ok (.iadd, 1) := by decide +kernel
theorem dX4_drift_73 : decode cX4_drift 73 = .ok (.invokevirtual 228, 3) := by decide +kernel
theorem dX4_drift_76 : decode cX4_drift 76 = .ok (.istore 7, 2) := by decide +kernel
theorem dX4_drift_78 : decode cX4_drift 78 = .ok (.aload_n 0, 1) := by decide +kernel
theorem dX4_drift_79 : decode cX4_drift 79 = .ok (.getfield 7, 3) := by decide +kernel
theorem dX4_drift_82 : decode cX4_drift 82 = .ok (.bipush 8, 2) := by decide +kernel
theorem dX4_drift_84 : decode cX4_drift 84 = .ok (.iload 6, 2) := by decide +kernel
theorem dX4_drift_86 : decode cX4_drift 86 = .ok (.iadd, 1) := by decide +kernel
theorem dX4_drift_87 : decode cX4_drift 87 = .ok (.iload 7, 2) := by decide +kernel
theorem dX4_drift_89 : decode cX4_drift 89 = .ok (.aload_n 0, 1) := by decide +kernel
theorem dX4_drift_90 : decode cX4_drift 90 = .ok (.getfield 128, 3) := by decide +kernel
theorem dX4_drift_93 : decode cX4_drift 93 = .ok (.if_icmp .ne 7, 3) := by decide +kernel
theorem dX4_drift_96 : decode cX4_drift 96 = .ok (.iconst 0, 1) := by decide +kernel
theorem dX4_drift_97 : decode cX4_drift 97 = .ok (.goto 7, 3) := by decide +kernel
theorem dX4_drift_100 : decode cX4_drift 100 = .ok (.iload 7, 2) := by decide +kernel
theorem dX4_drift_102 : decode cX4_drift 102 = .ok (.iconst 1, 1) := by decide +kernel
theorem dX4_drift_103 : decode cX4_drift 103 = .ok (.iadd, 1) := by decide +kernel
theorem dX4_drift_104 : decode cX4_drift 104 = .ok (.iastore, 1) := by decide +kernel
theorem dX4_drift_105 : decode cX4_drift 105 = .ok (.iload 4, 2) := by decide +kernel
theorem dX4_drift_107 : decode cX4_drift 107 = .ok (.aload_n 0, 1) := by decide +kernel
theorem dX4_drift_108 : decode cX4_drift 108 = .ok (.invokevirtual 158, 3) := by decide +kernel
theorem dX4_drift_111 : decode cX4_drift 111 = .ok (.iadd, 1) := by decide +kernel
theorem dX4_drift_112 : decode cX4_drift 112 = .ok (.istore 4, 2) := by decide +kernel
theorem dX4_drift_114 : decode cX4_drift 114 = .ok (.iinc 5 1, 3) := by decide +kernel
theorem dX4_drift_117 : decode cX4_drift 117 = .ok (.goto (-65), 3) := by decide +kernel
theorem dX4_drift_120 : decode cX4_drift 120 = .ok (.aload_n 0, 1) := by decide +kernel
theorem dX4_drift_121 : decode cX4_drift 121 = .ok (.bipush (-4), 2) := by decide +kernel
theorem dX4_drift_123 : decode cX4_drift 123 = .ok (.invokevirtual 155, 3) := by decide +kernel
theorem dX4_drift_126 : decode cX4_drift 126 = .ok (.istore 5, 2) := by decide +kernel
theorem dX4_drift_128 : decode cX4_drift 128 = .ok (.aload_n 0, 1) := by decide +kernel
theorem dX4_drift_129 : decode cX4_drift 129 = .ok (.bipush 99, 2) := by decide +kernel
theorem dX4_drift_131 : decode cX4_drift 131 = .ok (.iconst 0, 1) := by decide +kernel
theorem dX4_drift_132 : decode cX4_drift 132 = .ok (.invokevirtual 196, 3) := by decide +kernel
theorem dX4_drift_135 : decode cX4_drift 135 = .ok (.iload_n 3, 1) := by decide +kernel
theorem dX4_drift_136 : decode cX4_drift 136 = .ok (.ifCond .ne 8, 3) := by decide +kernel
theorem dX4_drift_139 : decode cX4_drift 139 = .ok (.iload 4, 2) := by decide +kernel
theorem dX4_drift_141 : decode cX4_drift 141 = .ok (.goto 5, 3) := by decide +kernel
theorem dX4_drift_144 : decode cX4_drift 144 = .ok (.iload 5, 2) := by decide +kernel
theorem dX4_drift_146 : decode cX4_drift 146 = .ok (.ireturn, 1) := by decide +kernel
theorem dX4_keep_0 : decode cX4_keep 0 = .ok (.iload_n 1, 1) := by decide +kernel
theorem dX4_keep_1 : decode cX4_keep 1 = .ok (.i2l, 1) := by decide +kernel
theorem dX4_keep_2 : decode cX4_keep 2 = .ok (.lconst 0, 1) := by decide +kernel
theorem dX4_keep_3 : decode cX4_keep 3 = .ok (.lconst 1, 1) := by decide +kernel
theorem dX4_keep_4 : decode cX4_keep 4 = .ok (.invokestatic 49, 3) := by decide +kernel
theorem dX4_keep_7 : decode cX4_keep 7 = .ok (.ifCond .ne 5, 3) := by decide +kernel
theorem dX4_keep_10 : decode cX4_keep 10 = .ok (.iconst (-1), 1) := by decide +kernel
theorem dX4_keep_11 : decode cX4_keep 11 = .ok (.ireturn, 1) := by decide +kernel
theorem dX4_keep_12 : decode cX4_keep 12 = .ok (.aload_n 0, 1) := by decide +kernel
theorem dX4_keep_13 : decode cX4_keep 13 = .ok (.iconst 0, 1) := by decide +kernel
theorem dX4_keep_14 : decode cX4_keep 14 = .ok (.bipush 33, 2) := by decide +kernel
theorem dX4_keep_16 : decode cX4_keep 16 = .ok (.iload_n 1, 1) := by decide +kernel
theorem dX4_keep_17 : decode cX4_keep 17 = .ok (.iconst 1, 1) := by decide +kernel
theorem dX4_keep_18 : decode cX4_keep 18 = .ok (.iadd, 1) := by decide +kernel
theorem dX4_keep_19 : decode cX4_keep 19 = .ok (.imul, 1) := by decide +kernel
theorem dX4_keep_20 : decode cX4_keep 20 = .ok (.invokevirtual 196, 3) := by decide +kernel
theorem dX4_keep_23 : decode cX4_keep 23 = .ok (.aload_n 0, 1) := by decide +kernel
theorem dX4_keep_24 : decode cX4_keep 24 = .ok (.getfield 34, 3) := by decide +kernel
theorem dX4_keep_27 : decode cX4_keep 27 = .ok (.iload_n 1, 1) := by decide +kernel
theorem dX4_keep_28 : decode cX4_keep 28 = .ok (.baload, 1) := by decide +kernel
theorem dX4_keep_29 : decode cX4_keep 29 = .ok (.ifCond .eq 7, 3) := by decide +kernel
theorem dX4_keep_32 : decode cX4_keep 32 = .ok (.iconst 1, 1) := by decide +kernel
theorem dX4_keep_33 : decode cX4_keep 33 = .ok (.goto 4, 3) := by decide +kernel
theorem dX4_keep_36 : decode cX4_keep 36 = .ok (.iconst 0, 1) := by decide +kernel
theorem dX4_keep_37 : decode cX4_keep 37 = .ok (.istore_n 2, 1) := by decide +kernel
theorem dX4_keep_38 : decode cX4_keep 38 = .ok (.aload_n 0, 1) := by decide +kernel
theorem dX4_keep_39 : decode cX4_keep 39 = .ok (.getfield 34, 3) := by decide +kernel
theorem dX4_keep_42 : decode cX4_keep 42 = .ok (.iload_n 1, 1) := by decide +kernel
theorem dX4_keep_43 : decode cX4_keep 43 = .ok (.iconst 1, 1) := by decide +kernel
theorem dX4_keep_44 : decode cX4_keep 44 = .ok (.bastore, 1) := by decide +kernel
theorem dX4_keep_45 : decode cX4_keep 45 = .ok (.iload_n 2, 1) := by decide +kernel
theorem dX4_keep_46 : decode cX4_keep 46 = .ok (.ireturn, 1) := by decide +kernel
theorem dX4_back_0 : decode cX4_back 0 = .ok (.iload_n 1, 1) := by decide +kernel
theorem dX4_back_1 : decode cX4_back 1 = .ok (.i2l, 1) := by decide +kernel
theorem dX4_back_2 : decode cX4_back 2 = .ok (.lconst 0, 1) := by decide +kernel
theorem dX4_back_3 : decode cX4_back 3 = .ok (.lconst 1, 1) := by decide +kernel
theorem dX4_back_4 : decode cX4_back 4 = .ok (.invokestatic 49, 3) := by decide +kernel
theorem dX4_back_7 : decode cX4_back 7 = .ok (.ifCond .ne 5, 3) := by decide +kernel
theorem dX4_back_10 : decode cX4_back 10 = .ok (.iconst (-1), 1) := by decide +kernel
theorem dX4_back_11 : decode cX4_back 11 = .ok (.ireturn, 1) := by decide +kernel
theorem dX4_back_12 : decode cX4_back 12 = .ok (.aload_n 0, 1) := by decide +kernel
theorem dX4_back_13 : decode cX4_back 13 = .ok (.getfield 34, 3) := by decide +kernel
theorem dX4_back_16 : decode cX4_back 16 = .ok (.iload_n 1, 1) := by decide +kernel
theorem dX4_back_17 : decode cX4_back 17 = .ok (.baload, 1) := by decide +kernel
theorem dX4_back_18 : decode cX4_back 18 = .ok (.ifCond .ne 6, 3) := by decide +kernel
theorem dX4_back_21 : decode cX4_back 21 = .ok (.bipush (-2), 2) := by decide +kernel
theorem dX4_back_23 : decode cX4_back 23 = .ok (.ireturn, 1) := by decide +kernel
theorem dX4_back_24 : decode cX4_back 24 = .ok (.aload_n 0, 1) := by decide +kernel
theorem dX4_back_25 : decode cX4_back 25 = .ok (.bipush 33, 2) := by decide +kernel
theorem dX4_back_27 : decode cX4_back 27 = .ok (.iload_n 1, 1) := by decide +kernel
theorem dX4_back_28 : decode cX4_back 28 = .ok (.iconst 1, 1) := by decide +kernel
theorem dX4_back_29 : decode cX4_back 29 = .ok (.iadd, 1) := by decide +kernel
theorem dX4_back_30 : decode cX4_back 30 = .ok (.imul, 1) := by decide +kernel
theorem dX4_back_31 : decode cX4_back 31 = .ok (.iconst 0, 1) := by decide +kernel
theorem dX4_back_32 : decode cX4_back 32 = .ok (.invokevirtual 196, 3) := by decide +kernel
theorem dX4_back_35 : decode cX4_back 35 = .ok (.aload_n 0, 1) := by decide +kernel
theorem dX4_back_36 : decode cX4_back 36 = .ok (.invokevirtual 158, 3) := by decide +kernel
theorem dX4_back_39 : decode cX4_back 39 = .ok (.ireturn, 1) := by decide +kernel
theorem dX4_sheet_0 : decode cX4_sheet 0 = .ok (.iload_n 1, 1) := by decide +kernel
theorem dX4_sheet_1 : decode cX4_sheet 1 = .ok (.i2l, 1) := by decide +kernel
theorem dX4_sheet_2 : decode cX4_sheet 2 = .ok (.lconst 0, 1) := by decide +kernel
theorem dX4_sheet_3 : decode cX4_sheet 3 = .ok (.ldc2_w 165, 3) := by decide +kernel
theorem dX4_sheet_6 : decode cX4_sheet 6 = .ok (.invokestatic 49, 3) := by decide +kernel
theorem dX4_sheet_9 : decode cX4_sheet 9 = .ok (.ifCond .eq 21, 3) := by decide +kernel
theorem dX4_sheet_12 : decode cX4_sheet 12 = .ok (.iload_n 2, 1) := by decide +kernel
theorem dX4_sheet_13 : decode cX4_sheet 13 = .ok (.i2l, 1) := by decide +kernel
theorem dX4_sheet_14 : decode cX4_sheet 14 = .ok (.lconst 0, 1) := by decide +kernel
theorem dX4_sheet_15 : decode cX4_sheet 15 = .ok (.ldc2_w 231, 3) := by decide +kernel
theorem dX4_sheet_18 : decode cX4_sheet 18 = .ok (.invokestatic 49, 3) := by decide +kernel
theorem dX4_sheet_21 : decode cX4_sheet 21 = .ok (.ifCond .eq 9, 3) := by decide +kernel
theorem dX4_sheet_24 : decode cX4_sheet 24 = .ok (.iload_n 3, 1) := by decide +kernel
theorem dX4_sheet_25 : decode cX4_sheet 25 = .ok (.bipush 40, 2) := by decide +kernel
theorem dX4_sheet_27 : decode cX4_sheet 27 = .ok (.if_icmp .le 5, 3) := by decide +kernel
theorem dX4_sheet_30 : decode cX4_sheet 30 = .ok (.iconst (-1), 1) := by decide +kernel
theorem dX4_sheet_31 : decode cX4_sheet 31 = .ok (.ireturn, 1) := by decide +kernel
theorem dX4_sheet_32 : decode cX4_sheet 32 = .ok (.iload_n 3, 1) := by decide +kernel
theorem dX4_sheet_33 : decode cX4_sheet 33 = .ok (.ifCond .ge 6, 3) := by decide +kernel
theorem dX4_sheet_36 : decode cX4_sheet 36 = .ok (.bipush (-14), 2) := by decide +kernel
theorem dX4_sheet_38 : decode cX4_sheet 38 = .ok (.ireturn, 1) := by decide +kernel
theorem dX4_sheet_39 : decode cX4_sheet 39 = .ok (.aload_n 0, 1) := by decide +kernel
theorem dX4_sheet_40 : decode cX4_sheet 40 = .ok (.getfield 38, 3) := by decide +kernel
theorem dX4_sheet_43 : decode cX4_sheet 43 = .ok (.iload_n 1, 1) := by decide +kernel
theorem dX4_sheet_44 : decode cX4_sheet 44 = .ok (.iload_n 2, 1) := by decide +kernel
theorem dX4_sheet_45 : decode cX4_sheet 45 = .ok (.iastore, 1) := by decide +kernel
theorem dX4_sheet_46 : decode cX4_sheet 46 = .ok (.aload_n 0, 1) := by decide +kernel
theorem dX4_sheet_47 : decode cX4_sheet 47 = .ok (.getfield 41, 3) := by decide +kernel
theorem dX4_sheet_50 : decode cX4_sheet 50 = .ok (.iload_n 1, 1) := by decide +kernel
theorem dX4_sheet_51 : decode cX4_sheet 51 = .ok (.iload_n 3, 1) := by decide +kernel
theorem dX4_sheet_52 : decode cX4_sheet 52 = .ok (.iastore, 1) := by decide +kernel
theorem dX4_sheet_53 : decode cX4_sheet 53 = .ok (.iconst 0, 1) := by decide +kernel
theorem dX4_sheet_54 : decode cX4_sheet 54 = .ok (.istore 4, 2) := by decide +kernel
theorem dX4_sheet_56 : decode cX4_sheet 56 = .ok (.iload 4, 2) := by decide +kernel
theorem dX4_sheet_58 : decode cX4_sheet 58 = .ok (.bipush 40, 2) := by decide +kernel
theorem dX4_sheet_60 : decode cX4_sheet 60 = .ok (.if_icmp .ge 22, 3) := by decide +kernel
theorem dX4_sheet_63 : decode cX4_sheet 63 = .ok (.aload_n 0, 1) := by decide +kernel
theorem dX4_sheet_64 : decode cX4_sheet 64 = .ok (.getfield 44, 3) := by decide +kernel
theorem dX4_sheet_67 : decode cX4_sheet 67 = .ok (.bipush 40, 2) := by decide +kernel
theorem dX4_sheet_69 : decode cX4_sheet 69 = .ok (.iload_n 1, 1) := by decide +kernel
theorem dX4_sheet_70 : decode cX4_sheet 70 = .ok (.imul, 1) := by decide +kernel
theorem dX4_sheet_71 : decode cX4_sheet 71 = .ok (.iload 4, 2) := by decide +kernel
theorem dX4_sheet_73 : decode cX4_sheet 73 = .ok (.iadd, 1) := by decide +kernel
theorem dX4_sheet_74 : decode cX4_sheet 74 = .ok (.iconst 0, 1) := by decide +kernel
theorem dX4_sheet_75 : decode cX4_sheet 75 = .ok (.iastore, 1) := by decide +kernel
theorem dX4_sheet_76 : decode cX4_sheet 76 = .ok (.iinc 4 1, 3) := by decide +kernel
theorem dX4_sheet_79 : decode cX4_sheet 79 = .ok (.goto (-23), 3) := by decide +kernel
theorem dX4_sheet_82 : decode cX4_sheet 82 = .ok (.iconst 1, 1) := by decide +kernel
theorem dX4_sheet_83 : decode cX4_sheet 83 = .ok (.ireturn, 1) := by decide +kernel
theorem dX4_lay_0 : decode cX4_lay 0 = .ok (.iload_n 1, 1) := by decide +kernel
theorem dX4_lay_1 : decode cX4_lay 1 = .ok (.i2l, 1) := by decide +kernel
theorem dX4_lay_2 : decode cX4_lay 2 = .ok (.lconst 0, 1) := by decide +kernel
theorem dX4_lay_3 : decode cX4_lay 3 = .ok (.ldc2_w 165, 3) := by decide +kernel
theorem dX4_lay_6 : decode cX4_lay 6 = .ok (.invokestatic 49, 3) := by decide +kernel
theorem dX4_lay_9 : decode cX4_lay 9 = .ok (.ifCond .ne 5, 3) := by decide +kernel
theorem dX4_lay_12 : decode cX4_lay 12 = .ok (.iconst (-1), 1) := by decide +kernel
theorem dX4_lay_13 : decode cX4_lay 13 = .ok (.ireturn, 1) := by decide +kernel
theorem dX4_lay_14 : decode cX4_lay 14 = .ok (.aload_n 0, 1) := by decide +kernel
theorem dX4_lay_15 : decode cX4_lay 15 = .ok (.getfield 38, 3) := by decide +kernel
theorem dX4_lay_18 : decode cX4_lay 18 = .ok (.iload_n 1, 1) := by decide +kernel
theorem dX4_lay_19 : decode cX4_lay 19 = .ok (.iaload, 1) := by decide +kernel
theorem dX4_lay_20 : decode cX4_lay 20 = .ok (.bipush (-4), 2) := by decide +kernel
theorem dX4_lay_22 : decode cX4_lay 22 = .ok (.if_icmp .ne 6, 3) := by decide +kernel
theorem dX4_lay_25 : decode cX4_lay 25 = .ok (.bipush (-11), 2) := by decide +kernel
theorem dX4_lay_27 : decode cX4_lay 27 = .ok (.ireturn, 1) := by decide +kernel
theorem dX4_lay_28 : decode cX4_lay 28 = .ok (.iload_n 2, 1) := by decide +kernel
theorem dX4_lay_29 : decode cX4_lay 29 = .ok (.i2l, 1) := by decide +kernel
theorem dX4_lay_30 : decode cX4_lay 30 = .ok (.lconst 0, 1) := by decide +kernel
theorem dX4_lay_31 : decode cX4_lay 31 = .ok (.aload_n 0, 1) := by decide +kernel
theorem dX4_lay_32 : decode cX4_lay 32 = .ok (.getfield 41, 3) := by decide +kernel
theorem dX4_lay_35 : decode cX4_lay 35 = .ok (.iload_n 1, 1) := by decide +kernel
theorem dX4_lay_36 : decode cX4_lay 36 = .ok (.iaload, 1) := by decide +kernel
theorem dX4_lay_37 : decode cX4_lay 37 = .ok (.iconst 1, 1) := by decide +kernel
theorem dX4_lay_38 : decode cX4_lay 38 = .ok (.isub, 1) := by decide +kernel
theorem dX4_lay_39 : decode cX4_lay 39 = .ok (.i2l, 1) := by decide +kernel
theorem dX4_lay_40 : decode cX4_lay 40 = .ok (.invokestatic 49, 3) := by decide +kernel
theorem dX4_lay_43 : decode cX4_lay 43 = .ok (.ifCond .ne 6, 3) := by decide +kernel
theorem dX4_lay_46 : decode cX4_lay 46 = .ok (.bipush (-12), 2) := by decide +kernel
theorem dX4_lay_48 : decode cX4_lay 48 = .ok (.ireturn, 1) := by decide +kernel
theorem dX4_lay_49 : decode cX4_lay 49 = .ok (.aload_n 0, 1) := by decide +kernel
theorem dX4_lay_50 : decode cX4_lay 50 = .ok (.getfield 44, 3) := by decide +kernel
theorem dX4_lay_53 : decode cX4_lay 53 = .ok (.bipush 40, 2) := by decide +kernel
theorem dX4_lay_55 : decode cX4_lay 55 = .ok (.iload_n 1, 1) := by decide +kernel
theorem dX4_lay_56 : decode cX4_lay 56 = .ok (.imul, 1) := by decide +kernel
theorem dX4_lay_57 : decode cX4_lay 57 = .ok (.iload_n 2, 1) := by decide +kernel
theorem dX4_lay_58 : decode cX4_lay 58 = .ok (.iadd, 1) := by decide +kernel
theorem dX4_lay_59 : decode cX4_lay 59 = .ok (.aload_n 0, 1) := by decide +kernel
theorem dX4_lay_60 : decode cX4_lay 60 = .ok (.getfield 38, 3) := by decide +kernel
theorem dX4_lay_63 : decode cX4_lay 63 = .ok (.iload_n 1, 1) := by decide +kernel
theorem dX4_lay_64 : decode cX4_lay 64 = .ok (.iaload, 1) := by decide +kernel
theorem dX4_lay_65 : decode cX4_lay 65 = .ok (.ifCond .ne 13, 3) := by decide +kernel
theorem dX4_lay_68 : decode cX4_lay 68 = .ok (.iload_n 3, 1) := by decide +kernel
theorem dX4_lay_69 : decode cX4_lay 69 = .ok (.bipush 24, 2) := by decide +kernel
theorem dX4_lay_71 : decode cX4_lay 71 = .ok (.ishl, 1) := by decide +kernel
theorem dX4_lay_72 : decode cX4_lay 72 = .ok (.bipush 24, 2) := by decide +kernel
theorem dX4_lay_74 : decode cX4_lay 74 = .ok (.ishr, 1) := by decide +kernel
theorem dX4_lay_75 : decode cX4_lay 75 = .ok (.goto 24, 3) := by decide +kernel
theorem dX4_lay_78 : decode cX4_lay 78 = .ok (.aload_n 0, 1) := by decide +kernel
theorem dX4_lay_79 : decode cX4_lay 79 = .ok (.getfield 38, 3) := by decide +kernel
theorem dX4_lay_82 : decode cX4_lay 82 = .ok (.iload_n 1, 1) := by decide +kernel
theorem dX4_lay_83 : decode cX4_lay 83 = .ok (.iaload, 1) := by decide +kernel
theorem dX4_lay_84 : decode cX4_lay 84 = .ok (.iconst 1, 1) := by decide +kernel
theorem dX4_lay_85 : decode cX4_lay 85 = .ok (.if_icmp .ne 13, 3) := by decide +kernel
theorem dX4_lay_88 : decode cX4_lay 88 = .ok (.iload_n 3, 1) := by decide +kernel
theorem dX4_lay_89 : decode cX4_lay 89 = .ok (.bipush 16, 2) := by decide +kernel
theorem dX4_lay_91 : decode cX4_lay 91 = .ok (.ishl, 1) := by decide +kernel
theorem dX4_lay_92 : decode cX4_lay 92 = .ok (.bipush 16, 2) := by decide +kernel
theorem dX4_lay_94 : decode cX4_lay 94 = .ok (.ishr, 1) := by decide +kernel
theorem dX4_lay_95 : decode cX4_lay 95 = .ok (.goto 4, 3) := by decide +kernel
theorem dX4_lay_98 : decode cX4_lay 98 = .ok (.iload_n 3, 1) := by decide +kernel
theorem dX4_lay_99 : decode cX4_lay 99 = .ok (.iastore, 1) := by decide +kernel
theorem dX4_lay_100 : decode cX4_lay 100 = .ok (.iconst 1, 1) := by decide +kernel
theorem dX4_lay_101 : decode cX4_lay 101 = .ok (.ireturn, 1) := by decide +kernel
theorem dX4_read_0 : decode cX4_read 0 = .ok (.iload_n 1, 1) := by decide +kernel
theorem dX4_read_1 : decode cX4_read 1 = .ok (.i2l, 1) := by decide +kernel
theorem dX4_read_2 : decode cX4_read 2 = .ok (.lconst 0, 1) := by decide +kernel
theorem dX4_read_3 : decode cX4_read 3 = .ok (.ldc2_w 165, 3) := by decide +kernel
theorem dX4_read_6 : decode cX4_read 6 = .ok (.invokestatic 49, 3) := by decide +kernel
theorem dX4_read_9 : decode cX4_read 9 = .ok (.ifCond .eq 28, 3) := by decide +kernel
theorem dX4_read_12 : decode cX4_read 12 = .ok (.iload_n 2, 1) := by decide +kernel
theorem dX4_read_13 : decode cX4_read 13 = .ok (.i2l, 1) := by decide +kernel
theorem dX4_read_14 : decode cX4_read 14 = .ok (.lconst 0, 1) := by decide +kernel
theorem dX4_read_15 : decode cX4_read 15 = .ok (.ldc2_w 231, 3) := by decide +kernel
theorem dX4_read_18 : decode cX4_read 18 = .ok (.invokestatic 49, 3) := by decide +kernel
theorem dX4_read_21 : decode cX4_read 21 = .ok (.ifCond .eq 16, 3) := by decide +kernel
theorem dX4_read_24 : decode cX4_read 24 = .ok (.iload 4, 2) := by decide +kernel
theorem dX4_read_26 : decode cX4_read 26 = .ok (.i2l, 1) := by decide +kernel
theorem dX4_read_27 : decode cX4_read 27 = .ok (.lconst 0, 1) := by decide +kernel
theorem dX4_read_28 : decode cX4_read 28 = .ok (.ldc2_w 233, 3) := by decide +kernel
theorem dX4_read_31 : decode cX4_read 31 = .ok (.invokestatic 49, 3) := by decide +kernel
theorem dX4_read_34 : decode cX4_read 34 = .ok (.ifCond .ne 5, 3) := by decide +kernel
theorem dX4_read_37 : decode cX4_read 37 = .ok (.iconst (-1), 1) := by decide +kernel
theorem dX4_read_38 : decode cX4_read 38 = .ok (.ireturn, 1) := by decide +kernel
theorem dX4_read_39 : decode cX4_read 39 = .ok (.aload_n 0, 1) := by decide +kernel
theorem dX4_read_40 : decode cX4_read 40 = .ok (.iconst 0, 1) := by decide +kernel
theorem dX4_read_41 : decode cX4_read 41 = .ok (.bipush 99, 2) := by decide +kernel
theorem dX4_read_43 : decode cX4_read 43 = .ok (.invokevirtual 196, 3) := by decide +kernel
theorem dX4_read_46 : decode cX4_read 46 = .ok (.iconst 0, 1) := by decide +kernel
theorem dX4_read_47 : decode cX4_read 47 = .ok (.istore 5, 2) := by decide +kernel
theorem dX4_read_49 : decode cX4_read 49 = .ok (.iconst 0, 1) := by decide +kernel
theorem dX4_read_50 : decode cX4_read 50 = .ok (.istore 6, 2) := by decide +kernel
theorem dX4_read_52 : decode cX4_read 52 = .ok (.iconst 0, 1) := by decide +kernel
theorem dX4_read_53 : decode cX4_read 53 = .ok (.istore 7, 2) := by decide +kernel
theorem dX4_read_55 : decode cX4_read 55 = .ok (.iload 7, 2) := by decide +kernel
theorem dX4_read_57 : decode cX4_read 57 = .ok (.iconst 2, 1) := by decide +kernel
theorem dX4_read_58 : decode cX4_read 58 = .ok (.iload 4, 2) := by decide +kernel
theorem dX4_read_60 : decode cX4_read 60 = .ok (.imul, 1) := by decide +kernel
theorem dX4_read_61 : decode cX4_read 61 = .ok (.if_icmp .ge 136, 3) := by decide +kernel
theorem dX4_read_64 : decode cX4_read 64 = .ok (.iload 5, 2) := by decide +kernel
theorem dX4_read_66 : decode cX4_read 66 = .ok (.ifCond .ne 131, 3) := by decide +kernel
theorem dX4_read_69 : decode cX4_read 69 = .ok (.aload_n 0, 1) := by decide +kernel
theorem dX4_read_70 : decode cX4_read 70 = .ok (.getfield 38, 3) := by decide +kernel
theorem dX4_read_73 : decode cX4_read 73 = .ok (.iload_n 1, 1) := by decide +kernel
theorem dX4_read_74 : decode cX4_read 74 = .ok (.iaload, 1) := by decide +kernel
theorem dX4_read_75 : decode cX4_read 75 = .ok (.bipush (-4), 2) := by decide +kernel
theorem dX4_read_77 : decode cX4_read 77 = .ok (.if_icmp .ne 7, 3) := by decide +kernel
theorem dX4_read_80 : decode cX4_read 80 = .ok (.iconst 1, 1) := by decide +kernel
theorem dX4_read_81 : decode cX4_read 81 = .ok (.goto 44, 3) := by decide +kernel
theorem dX4_read_84 : decode cX4_read 84 = .ok (.aload_n 0, 1) := by decide +kernel
theorem dX4_read_85 : decode cX4_read 85 = .ok (.getfield 38, 3) := by decide +kernel
theorem dX4_read_88 : decode cX4_read 88 = .ok (.iload_n 1, 1) := by decide +kernel
theorem dX4_read_89 : decode cX4_read 89 = .ok (.iaload, 1) := by decide +kernel
theorem dX4_read_90 : decode cX4_read 90 = .ok (.iload_n 2, 1) := by decide +kernel
theorem dX4_read_91 : decode cX4_read 91 = .ok (.if_icmp .eq 7, 3) := by decide +kernel
theorem dX4_read_94 : decode cX4_read 94 = .ok (.iconst 3, 1) := by decide +kernel
theorem dX4_read_95 : decode cX4_read 95 = .ok (.goto 30, 3) := by decide +kernel
theorem dX4_read_98 : decode cX4_read 98 = .ok (.iload_n 3, 1) := by decide +kernel
theorem dX4_read_99 : decode cX4_read 99 = .ok (.i2l, 1) := by decide +kernel
theorem dX4_read_100 : decode cX4_read 100 = .ok (.iload 7, 2) := by decide +kernel
theorem dX4_read_102 : decode cX4_read 102 = .ok (.i2l, 1) := by decide +kernel
theorem dX4_read_103 : decode cX4_read 103 = .ok (.ladd, 1) := by decide +kernel
theorem dX4_read_104 : decode cX4_read 104 = .ok (.lconst 0, 1) := by decide +kernel
theorem dX4_read_105 : decode cX4_read 105 = .ok (.aload_n 0, 1) := by decide +kernel
theorem dX4_read_106 : decode cX4_read 106 = .ok (.getfield 41, 3) := by decide +kernel
theorem dX4_read_109 : decode cX4_read 109 = .ok (.iload_n 1, 1) := by decide +kernel
theorem dX4_read_110 : decode cX4_read 110 = .ok (.iaload, 1) := by decide +kernel
theorem dX4_read_111 : decode cX4_read 111 = .ok (.iconst 1, 1) := by decide +kernel
theorem dX4_read_112 : decode cX4_read 112 = .ok (.isub, 1) := by decide +kernel
theorem dX4_read_113 : decode cX4_read 113 = .ok (.i2l, 1) := by decide +kernel
theorem dX4_read_114 : decode cX4_read 114 = .ok (.invokestatic 49, 3) := by decide +kernel
theorem dX4_read_117 : decode cX4_read 117 = .ok (.ifCond .ne 7, 3) := by decide +kernel
theorem dX4_read_120 : decode cX4_read 120 = .ok (.iconst 2, 1) := by decide +kernel
theorem dX4_read_121 : decode cX4_read 121 = .ok (.goto 4, 3) := by decide +kernel
theorem dX4_read_124 : decode cX4_read 124 = .ok (.iconst 0, 1) := by decide +kernel
theorem dX4_read_125 : decode cX4_read 125 = .ok (.istore 5, 2) := by decide +kernel
theorem dX4_read_127 : decode cX4_read 127 = .ok (.iload 5, 2) := by decide +kernel
theorem dX4_read_129 : decode cX4_read 129 = .ok (.ifCond .ne 62, 3) := by decide +kernel
theorem dX4_read_132 : decode cX4_read 132 = .ok (.iload 7, 2) := by decide +kernel
theorem dX4_read_134 : decode cX4_read 134 = .ok (.iconst 2, 1) := by decide +kernel
theorem dX4_read_135 : decode cX4_read 135 = .ok (.irem, 1) := by decide +kernel
theorem dX4_read_136 : decode cX4_read 136 = .ok (.iconst 1, 1) := by decide +kernel
theorem dX4_read_137 : decode cX4_read 137 = .ok (.if_icmp .ne 54, 3) := by decide +kernel
theorem dX4_read_140 : decode cX4_read 140 = .ok (.bipush 40, 2) := by decide +kernel
theorem dX4_read_142 : decode cX4_read 142 = .ok (.iload_n 1, 1) := by decide +kernel
theorem dX4_read_143 : decode cX4_read 143 = .ok (.imul, 1) := by decide +kernel
theorem dX4_read_144 : decode cX4_read 144 = .ok (.iload_n 3, 1) := by decide +kernel
theorem dX4_read_145 : decode cX4_read 145 = .ok (.iadd, 1) := by decide +kernel
theorem dX4_read_146 : decode cX4_read 146 = .ok (.iload 7, 2) := by decide +kernel
theorem dX4_read_148 : decode cX4_read 148 = .ok (.iadd, 1) := by decide +kernel
theorem dX4_read_149 : decode cX4_read 149 = .ok (.istore 8, 2) := by decide +kernel
theorem dX4_read_151 : decode cX4_read 151 = .ok (.aload_n 0, 1) := by decide +kernel
theorem dX4_read_152 : decode cX4_read 152 = .ok (.aload_n 0, 1) := by decide +kernel
theorem dX4_read_153 : decode cX4_read 153 = .ok (.getfield 44, 3) := by decide +kernel
theorem dX4_read_156 : decode cX4_read 156 = .ok (.iload 8, 2) := by decide +kernel
theorem dX4_read_158 : decode cX4_read 158 = .ok (.iconst 1, 1) := by decide +kernel
theorem dX4_read_159 : decode cX4_read 159 = .ok (.isub, 1) := by decide +kernel
theorem dX4_read_160 : decode cX4_read 160 = .ok (.iaload, 1) := by decide +kernel
theorem dX4_read_161 : decode cX4_read 161 = .ok (.aload_n 0, 1) := by decide +kernel
theorem dX4_read_162 : decode cX4_read 162 = .ok (.getfield 44, 3) := by decide +kernel
theorem dX4_read_165 : decode cX4_read 165 = .ok (.iload 8, 2) := by decide +kernel
theorem dX4_read_167 : decode cX4_read 167 = .ok (.iaload, 1) := by decide +kernel
theorem dX4_read_168 : decode cX4_read 168 = .ok (.invokevirtual 186, 3) := by decide +kernel
theorem dX4_read_171 : decode cX4_read 171 = .ok (.iconst (-1), 1) := by decide +kernel
theorem dX4_read_172 : decode cX4_read 172 = .ok (.if_icmp .ne 16, 3) := by decide +kernel
theorem dX4_read_175 : decode cX4_read 175 = .ok (.aload_n 0, 1) := by decide +kernel
theorem dX4_read_176 : decode cX4_read 176 = .ok (.bipush 99, 2) := by decide +kernel
theorem dX4_read_178 : decode cX4_read 178 = .ok (.iconst 0, 1) := by decide +kernel
theorem dX4_read_179 : decode cX4_read 179 = .ok (.invokevirtual 196, 3) := by decide +kernel
theorem dX4_read_182 : decode cX4_read 182 = .ok (.bipush (-20), 2) := by decide +kernel
theorem dX4_read_184 : decode cX4_read 184 = .ok (.iload 6, 2) := by decide +kernel
theorem dX4_read_186 : decode cX4_read 186 = .ok (.isub, 1) := by decide +kernel
theorem dX4_read_187 : decode cX4_read 187 = .ok (.ireturn, 1) := by decide +kernel
theorem dX4_read_188 : decode cX4_read 188 = .ok (.iinc 6 1, 3) := by decide +kernel
theorem dX4_read_191 : decode cX4_read 191 = .ok (.iinc 7 1, 3) := by decide +kernel
theorem dX4_read_194 : decode cX4_read 194 = .ok (.goto (-139), 3) := by decide +kernel
theorem dX4_read_197 : decode cX4_read 197 = .ok (.aload_n 0, 1) := by decide +kernel
theorem dX4_read_198 : decode cX4_read 198 = .ok (.iload 5, 2) := by decide +kernel
theorem dX4_read_200 : decode cX4_read 200 = .ok (.putfield 235, 3) := by decide +kernel
theorem dX4_read_203 : decode cX4_read 203 = .ok (.iload 6, 2) := by decide +kernel
theorem dX4_read_205 : decode cX4_read 205 = .ok (.ireturn, 1) := by decide +kernel
theorem dX4_torn_0 : decode cX4_torn 0 = .ok (.aload_n 0, 1) := by decide +kernel
theorem dX4_torn_1 : decode cX4_torn 1 = .ok (.getfield 235, 3) := by decide +kernel
theorem dX4_torn_4 : decode cX4_torn 4 = .ok (.ireturn, 1) := by decide +kernel
theorem dX4_count_0 : decode cX4_count 0 = .ok (.iconst 0, 1) := by decide +kernel
theorem dX4_count_1 : decode cX4_count 1 = .ok (.istore_n 2, 1) := by decide +kernel
theorem dX4_count_2 : decode cX4_count 2 = .ok (.iconst 0, 1) := by decide +kernel
theorem dX4_count_3 : decode cX4_count 3 = .ok (.istore_n 3, 1) := by decide +kernel
theorem dX4_count_4 : decode cX4_count 4 = .ok (.aload_n 0, 1) := by decide +kernel
theorem dX4_count_5 : decode cX4_count 5 = .ok (.invokevirtual 149, 3) := by decide +kernel
theorem dX4_count_8 : decode cX4_count 8 = .ok (.iconst 0, 1) := by decide +kernel
theorem dX4_count_9 : decode cX4_count 9 = .ok (.istore 4, 2) := by decide +kernel
theorem dX4_count_11 : decode cX4_count 11 = .ok (.iload 4, 2) := by decide +kernel
theorem dX4_count_13 : decode cX4_count 13 = .ok (.aload_n 0, 1) := by decide +kernel
theorem dX4_count_14 : decode cX4_count 14 = .ok (.getfield 7, 3) := by decide +kernel
theorem dX4_count_17 : decode cX4_count 17 = .ok (.bipush 32, 2) := by decide +kernel
theorem dX4_count_19 : decode cX4_count 19 = .ok (.iaload, 1) := by decide +kernel
theorem dX4_count_20 : decode cX4_count 20 = .ok (.if_icmp .ge 22, 3) := by decide +kernel
theorem dX4_count_23 : decode cX4_count 23 = .ok (.iload_n 2, 1) := by decide +kernel
theorem dX4_count_24 : decode cX4_count 24 = .ok (.aload_n 0, 1) := by decide +kernel
theorem dX4_count_25 : decode cX4_count 25 = .ok (.getfield 7, 3) := by decide +kernel
theorem dX4_count_28 : decode cX4_count 28 = .ok (.bipush 27, 2) := by decide +kernel
theorem dX4_count_30 : decode cX4_count 30 = .ok (.iload 4, 2) := by decide +kernel
theorem dX4_count_32 : decode cX4_count 32 = .ok (.iadd, 1) := by decide +kernel
theorem dX4_count_33 : decode cX4_count 33 = .ok (.iaload, 1) := by decide +kernel
theorem dX4_count_34 : decode cX4_count 34 = .ok (.iadd, 1) := by decide +kernel
theorem dX4_count_35 : decode cX4_count 35 = .ok (.istore_n 2, 1) := by decide +kernel
theorem dX4_count_36 : decode cX4_count 36 = .ok (.iinc 4 1, 3) := by decide +kernel
theorem dX4_count_39 : decode cX4_count 39 = .ok (.goto (-28), 3) := by decide +kernel
theorem dX4_count_42 : decode cX4_count 42 = .ok (.iconst 0, 1) := by decide +kernel
theorem dX4_count_43 : decode cX4_count 43 = .ok (.istore 4, 2) := by decide +kernel
theorem dX4_count_45 : decode cX4_count 45 = .ok (.iload 4, 2) := by decide +kernel
theorem dX4_count_47 : decode cX4_count 47 = .ok (.bipush 48, 2) := by decide +kernel
theorem dX4_count_49 : decode cX4_count 49 = .ok (.if_icmp .ge 29, 3) := by decide +kernel
theorem dX4_count_52 : decode cX4_count 52 = .ok (.iload_n 3, 1) := by decide +kernel
theorem dX4_count_53 : decode cX4_count 53 = .ok (.aload_n 0, 1) := by decide +kernel
theorem dX4_count_54 : decode cX4_count 54 = .ok (.getfield 25, 3) := by decide +kernel
theorem dX4_count_57 : decode cX4_count 57 = .ok (.iload 4, 2) := by decide +kernel
theorem dX4_count_59 : decode cX4_count 59 = .ok (.iaload, 1) := by decide +kernel
theorem dX4_count_60 : decode cX4_count 60 = .ok (.bipush (-4), 2) := by decide +kernel
theorem dX4_count_62 : decode cX4_count 62 = .ok (.if_icmp .ne 7, 3) := by decide +kernel
theorem dX4_count_65 : decode cX4_count 65 = .ok (.iconst 0, 1) := by decide +kernel
theorem dX4_count_66 : decode cX4_count 66 = .ok (.goto 4, 3) := by decide +kernel
theorem dX4_count_69 : decode cX4_count 69 = .ok (.iconst 1, 1) := by decide +kernel
theorem dX4_count_70 : decode cX4_count 70 = .ok (.iadd, 1) := by decide +kernel
theorem dX4_count_71 : decode cX4_count 71 = .ok (.istore_n 3, 1) := by decide +kernel
theorem dX4_count_72 : decode cX4_count 72 = .ok (.iinc 4 1, 3) := by decide +kernel
theorem dX4_count_75 : decode cX4_count 75 = .ok (.goto (-30), 3) := by decide +kernel
theorem dX4_count_78 : decode cX4_count 78 = .ok (.iload_n 1, 1) := by decide +kernel
theorem dX4_count_79 : decode cX4_count 79 = .ok (.tableswitch 104 0 5 #[37, 42, 72, 77, 100, 102], 37) := by decide +kernel
theorem dX4_count_116 : decode cX4_count 116 = .ok (.aload_n 0, 1) := by decide +kernel
theorem dX4_count_117 : decode cX4_count 117 = .ok (.getfield 131, 3) := by decide +kernel
theorem dX4_count_120 : decode cX4_count 120 = .ok (.ireturn, 1) := by decide +kernel
theorem dX4_count_121 : decode cX4_count 121 = .ok (.aload_n 0, 1) := by decide +kernel
theorem dX4_count_122 : decode cX4_count 122 = .ok (.getfield 34, 3) := by decide +kernel
theorem dX4_count_125 : decode cX4_count 125 = .ok (.iconst 0, 1) := by decide +kernel
theorem dX4_count_126 : decode cX4_count 126 = .ok (.baload, 1) := by decide +kernel
theorem dX4_count_127 : decode cX4_count 127 = .ok (.ifCond .eq 7, 3) := by decide +kernel
theorem dX4_count_130 : decode cX4_count 130 = .ok (.iconst 1, 1) := by decide +kernel
theorem dX4_count_131 : decode cX4_count 131 = .ok (.goto 4, 3) := by decide +kernel
theorem dX4_count_134 : decode cX4_count 134 = .ok (.iconst 0, 1) := by decide +kernel
theorem dX4_count_135 : decode cX4_count 135 = .ok (.aload_n 0, 1) := by decide +kernel
theorem dX4_count_136 : decode cX4_count 136 = .ok (.getfield 34, 3) := by decide +kernel
theorem dX4_count_139 : decode cX4_count 139 = .ok (.iconst 1, 1) := by decide +kernel
theorem dX4_count_140 : decode cX4_count 140 = .ok (.baload, 1) := by decide +kernel
theorem dX4_count_141 : decode cX4_count 141 = .ok (.ifCond .eq 7, 3) := by decide +kernel
theorem dX4_count_144 : decode cX4_count 144 = .ok (.iconst 1, 1) := by decide +kernel
theorem dX4_count_145 : decode cX4_count 145 = .ok (.goto 4, 3) := by decide +kernel
theorem dX4_count_148 : decode cX4_count 148 = .ok (.iconst 0, 1) := by decide +kernel
theorem dX4_count_149 : decode cX4_count 149 = .ok (.iadd, 1) := by decide +kernel
theorem dX4_count_150 : decode cX4_count 150 = .ok (.ireturn, 1) := by decide +kernel
theorem dX4_count_151 : decode cX4_count 151 = .ok (.aload_n 0, 1) := by decide +kernel
theorem dX4_count_152 : decode cX4_count 152 = .ok (.getfield 53, 3) := by decide +kernel
theorem dX4_count_155 : decode cX4_count 155 = .ok (.ireturn, 1) := by decide +kernel
theorem dX4_count_156 : decode cX4_count 156 = .ok (.aload_n 0, 1) := by decide +kernel
theorem dX4_count_157 : decode cX4_count 157 = .ok (.getfield 38, 3) := by decide +kernel
theorem dX4_count_160 : decode cX4_count 160 = .ok (.iconst 0, 1) := by decide +kernel
theorem dX4_count_161 : decode cX4_count 161 = .ok (.iaload, 1) := by decide +kernel
theorem dX4_count_162 : decode cX4_count 162 = .ok (.bipush (-4), 2) := by decide +kernel
theorem dX4_count_164 : decode cX4_count 164 = .ok (.if_icmp .ne 8, 3) := by decide +kernel
theorem dX4_count_167 : decode cX4_count 167 = .ok (.bipush (-4), 2) := by decide +kernel
theorem dX4_count_169 : decode cX4_count 169 = .ok (.goto 9, 3) := by decide +kernel
theorem dX4_count_172 : decode cX4_count 172 = .ok (.aload_n 0, 1) := by decide +kernel
theorem dX4_count_173 : decode cX4_count 173 = .ok (.getfield 41, 3) := by decide +kernel
theorem dX4_count_176 : decode cX4_count 176 = .ok (.iconst 0, 1) := by decide +kernel
theorem dX4_count_177 : decode cX4_count 177 = .ok (.iaload, 1) := by decide +kernel
theorem dX4_count_178 : decode cX4_count 178 = .ok (.ireturn, 1) := by decide +kernel
theorem dX4_count_179 : decode cX4_count 179 = .ok (.iload_n 2, 1) := by decide +kernel
theorem dX4_count_180 : decode cX4_count 180 = .ok (.ireturn, 1) := by decide +kernel
theorem dX4_count_181 : decode cX4_count 181 = .ok (.iload_n 3, 1) := by decide +kernel
theorem dX4_count_182 : decode cX4_count 182 = .ok (.ireturn, 1) := by decide +kernel
theorem dX4_count_183 : decode cX4_count 183 = .ok (.iconst (-1), 1) := by decide +kernel
theorem dX4_count_184 : decode cX4_count 184 = .ok (.ireturn, 1) := by decide +kernel
end
section
theorem dJ6_bitCount_0f7a4_0 : decode cJ6_bitCount_0f7a4 0 = .ok (.iload_n 0, 1) := by decide +kernel
theorem dJ6_bitCount_0f7a4_1 : decode cJ6_bitCount_0f7a4 1 = .ok (.iload_n 0, 1) := by decide +kernel
theorem dJ6_bitCount_0f7a4_2 : decode cJ6_bitCount_0f7a4 2 = .ok (.iconst 1, 1) := by decide +kernel
theorem dJ6_bitCount_0f7a4_3 : decode cJ6_bitCount_0f7a4 3 = .ok (.iushr, 1) := by decide +kernel
theorem dJ6_bitCount_0f7a4_4 : decode cJ6_bitCount_0f7a4 4 = .ok (.ldc_w 265, 3) := by decide +kernel
theorem dJ6_bitCount_0f7a4_7 : decode cJ6_bitCount_0f7a4 7 = .ok (.iand, 1) := by decide +kernel
theorem dJ6_bitCount_0f7a4_8 : decode cJ6_bitCount_0f7a4 8 = .ok (.isub, 1) := by decide +kernel
theorem dJ6_bitCount_0f7a4_9 : decode cJ6_bitCount_0f7a4 9 = .ok (.istore_n 0, 1) := by decide +kernel
theorem dJ6_bitCount_0f7a4_10 : decode cJ6_bitCount_0f7a4 10 = .ok (.iload_n 0, 1) := by decide +kernel
theorem dJ6_bitCount_0f7a4_11 : decode cJ6_bitCount_0f7a4 11 = .ok (.ldc_w 266, 3) := by decide +kernel
theorem dJ6_bitCount_0f7a4_14 : decode cJ6_bitCount_0f7a4 14 = .ok (.iand, 1) := by decide +kernel
theorem dJ6_bitCount_0f7a4_15 : decode cJ6_bitCount_0f7a4 15 = .ok (.iload_n 0, 1) := by decide +kernel
theorem dJ6_bitCount_0f7a4_16 : decode cJ6_bitCount_0f7a4 16 = .ok (.iconst 2, 1) := by decide +kernel
theorem dJ6_bitCount_0f7a4_17 : decode cJ6_bitCount_0f7a4 17 = .ok (.iushr, 1) := by decide +kernel
theorem dJ6_bitCount_0f7a4_18 : decode cJ6_bitCount_0f7a4 18 = .ok (.ldc_w 266, 3) := by decide +kernel
theorem dJ6_bitCount_0f7a4_21 : decode cJ6_bitCount_0f7a4 21 = .ok (.iand, 1) := by decide +kernel
theorem dJ6_bitCount_0f7a4_22 : decode cJ6_bitCount_0f7a4 22 = .ok (.iadd, 1) := by decide +kernel
theorem dJ6_bitCount_0f7a4_23 : decode cJ6_bitCount_0f7a4 23 = .ok (.istore_n 0, 1) := by decide +kernel
theorem dJ6_bitCount_0f7a4_24 : decode cJ6_bitCount_0f7a4 24 = .ok (.iload_n 0, 1) := by decide +kernel
theorem dJ6_bitCount_0f7a4_25 : decode cJ6_bitCount_0f7a4 25 = .ok (.iload_n 0, 1) := by decide +kernel
theorem dJ6_bitCount_0f7a4_26 : decode cJ6_bitCount_0f7a4 26 = .ok (.iconst 4, 1) := by decide +kernel
theorem dJ6_bitCount_0f7a4_27 : decode cJ6_bitCount_0f7a4 27 = .ok (.iushr, 1) := by decide +kernel
theorem dJ6_bitCount_0f7a4_28 : decode cJ6_bitCount_0f7a4 28 = .ok (.iadd, 1) := by decide +kernel
theorem dJ6_bitCount_0f7a4_29 : decode cJ6_bitCount_0f7a4 29 = .ok (.ldc_w 267, 3) := by decide +kernel
theorem dJ6_bitCount_0f7a4_32 : decode cJ6_bitCount_0f7a4 32 = .ok (.iand, 1) := by decide +kernel
theorem dJ6_bitCount_0f7a4_33 : decode cJ6_bitCount_0f7a4 33 = .ok (.istore_n 0, 1) := by decide +kernel
theorem dJ6_bitCount_0f7a4_34 : decode cJ6_bitCount_0f7a4 34 = .ok (.iload_n 0, 1) := by decide +kernel
theorem dJ6_bitCount_0f7a4_35 : decode cJ6_bitCount_0f7a4 35 = .ok (.iload_n 0, 1) := by decide +kernel
theorem dJ6_bitCount_0f7a4_36 : decode cJ6_bitCount_0f7a4 36 = .ok (.bipush 8, 2) := by decide +kernel
theorem dJ6_bitCount_0f7a4_38 : decode cJ6_bitCount_0f7a4 38 = .ok (.iushr, 1) := by decide +kernel
theorem dJ6_bitCount_0f7a4_39 : decode cJ6_bitCount_0f7a4 39 = .ok (.iadd, 1) := by decide +kernel
theorem dJ6_bitCount_0f7a4_40 : decode cJ6_bitCount_0f7a4 40 = .ok (.istore_n 0, 1) := by decide +kernel
theorem dJ6_bitCount_0f7a4_41 : decode cJ6_bitCount_0f7a4 41 = .ok (.iload_n 0, 1) := by decide +kernel
theorem dJ6_bitCount_0f7a4_42 : decode cJ6_bitCount_0f7a4 42 = .ok (.iload_n 0, 1) := by decide +kernel
theorem dJ6_bitCount_0f7a4_43 : decode cJ6_bitCount_0f7a4 43 = .ok (.bipush 16, 2) := by decide +kernel
theorem dJ6_bitCount_0f7a4_45 : decode cJ6_bitCount_0f7a4 45 = .ok (.iushr, 1) := by decide +kernel
theorem dJ6_bitCount_0f7a4_46 : decode cJ6_bitCount_0f7a4 46 = .ok (.iadd, 1) := by decide +kernel
theorem dJ6_bitCount_0f7a4_47 : decode cJ6_bitCount_0f7a4 47 = .ok (.istore_n 0, 1) := by decide +kernel
theorem dJ6_bitCount_0f7a4_48 : decode cJ6_bitCount_0f7a4 48 = .ok (.iload_n 0, 1) := by decide +kernel
theorem dJ6_bitCount_0f7a4_49 : decode cJ6_bitCount_0f7a4 49 = .ok (.bipush 63, 2) := by decide +kernel
theorem dJ6_bitCount_0f7a4_51 : decode cJ6_bitCount_0f7a4 51 = .ok (.iand, 1) := by decide +kernel
theorem dJ6_bitCount_0f7a4_52 : decode cJ6_bitCount_0f7a4 52 = .ok (.ireturn, 1) := by decide +kernel
theorem dJ9_abs_0f7a4_0 : decode cJ9_abs_0f7a4 0 = .ok (.iload_n 0, 1) := by decide +kernel
theorem dJ9_abs_0f7a4_1 : decode cJ9_abs_0f7a4 1 = .ok (.ifCond .ge 8, 3) := by decide +kernel
theorem dJ9_abs_0f7a4_4 : decode cJ9_abs_0f7a4 4 = .ok (.iload_n 0, 1) := by decide +kernel
theorem dJ9_abs_0f7a4_5 : decode cJ9_abs_0f7a4 5 = .ok (.ineg, 1) := by decide +kernel
theorem dJ9_abs_0f7a4_6 : decode cJ9_abs_0f7a4 6 = .ok (.goto 4, 3) := by decide +kernel
theorem dJ9_abs_0f7a4_9 : decode cJ9_abs_0f7a4 9 = .ok (.iload_n 0, 1) := by decide +kernel
theorem dJ9_abs_0f7a4_10 : decode cJ9_abs_0f7a4 10 = .ok (.ireturn, 1) := by decide +kernel
theorem dJ9_max_7cf53_0 : decode cJ9_max_7cf53 0 = .ok (.iload_n 0, 1) := by decide +kernel
theorem dJ9_max_7cf53_1 : decode cJ9_max_7cf53 1 = .ok (.iload_n 1, 1) := by decide +kernel
theorem dJ9_max_7cf53_2 : decode cJ9_max_7cf53 2 = .ok (.if_icmp .lt 7, 3) := by decide +kernel
theorem dJ9_max_7cf53_5 : decode cJ9_max_7cf53 5 = .ok (.iload_n 0, 1) := by decide +kernel
theorem dJ9_max_7cf53_6 : decode cJ9_max_7cf53 6 = .ok (.goto 4, 3) := by decide +kernel
theorem dJ9_max_7cf53_9 : decode cJ9_max_7cf53 9 = .ok (.iload_n 1, 1) := by decide +kernel
theorem dJ9_max_7cf53_10 : decode cJ9_max_7cf53 10 = .ok (.ireturn, 1) := by decide +kernel
theorem dJ9_min_7cf53_0 : decode cJ9_min_7cf53 0 = .ok (.iload_n 0, 1) := by decide +kernel
theorem dJ9_min_7cf53_1 : decode cJ9_min_7cf53 1 = .ok (.iload_n 1, 1) := by decide +kernel
theorem dJ9_min_7cf53_2 : decode cJ9_min_7cf53 2 = .ok (.if_icmp .gt 7, 3) := by decide +kernel
theorem dJ9_min_7cf53_5 : decode cJ9_min_7cf53 5 = .ok (.iload_n 0, 1) := by decide +kernel
theorem dJ9_min_7cf53_6 : decode cJ9_min_7cf53 6 = .ok (.goto 4, 3) := by decide +kernel
theorem dJ9_min_7cf53_9 : decode cJ9_min_7cf53 9 = .ok (.iload_n 1, 1) := by decide +kernel
theorem dJ9_min_7cf53_10 : decode cJ9_min_7cf53 10 = .ok (.ireturn, 1) := by decide +kernel
theorem dJ0_length_8abf5_0 : decode cJ0_length_8abf5 0 = .ok (.aload_n 0, 1) := by decide +kernel
theorem dJ0_length_8abf5_1 : decode cJ0_length_8abf5 1 = .ok (.getfield 9, 3) := by decide +kernel
theorem dJ0_length_8abf5_4 : decode cJ0_length_8abf5 4 = .ok (.arraylength, 1) := by decide +kernel
theorem dJ0_length_8abf5_5 : decode cJ0_length_8abf5 5 = .ok (.aload_n 0, 1) := by decide +kernel
theorem dJ0_length_8abf5_6 : decode cJ0_length_8abf5 6 = .ok (.invokevirtual 335, 3) := by decide +kernel
theorem dJ0_length_8abf5_9 : decode cJ0_length_8abf5 9 = .ok (.ishr, 1) := by decide +kernel
theorem dJ0_length_8abf5_10 : decode cJ0_length_8abf5 10 = .ok (.ireturn, 1) := by decide +kernel
theorem dJ0_charAt_5068e_0 : decode cJ0_charAt_5068e 0 = .ok (.aload_n 0, 1) := by decide +kernel
theorem dJ0_charAt_5068e_1 : decode cJ0_charAt_5068e 1 = .ok (.invokevirtual 492, 3) := by decide +kernel
theorem dJ0_charAt_5068e_4 : decode cJ0_charAt_5068e 4 = .ok (.ifCond .eq 12, 3) := by decide +kernel
theorem dJ0_charAt_5068e_7 : decode cJ0_charAt_5068e 7 = .ok (.aload_n 0, 1) := by decide +kernel
theorem dJ0_charAt_5068e_8 : decode cJ0_charAt_5068e 8 = .ok (.getfield 9, 3) := by decide +kernel
theorem dJ0_charAt_5068e_11 : decode cJ0_charAt_5068e 11 = .ok (.iload_n 1, 1) := by decide +kernel
theorem dJ0_charAt_5068e_12 : decode cJ0_charAt_5068e 12 = .ok (.invokestatic 495, 3) := by decide +kernel
theorem dJ0_charAt_5068e_15 : decode cJ0_charAt_5068e 15 = .ok (.ireturn, 1) := by decide +kernel
theorem dJ0_charAt_5068e_16 : decode cJ0_charAt_5068e 16 = .ok (.aload_n 0, 1) := by decide +kernel
theorem dJ0_charAt_5068e_17 : decode cJ0_charAt_5068e 17 = .ok (.getfield 9, 3) := by decide +kernel
theorem dJ0_charAt_5068e_20 : decode cJ0_charAt_5068e 20 = .ok (.iload_n 1, 1) := by decide +kernel
theorem dJ0_charAt_5068e_21 : decode cJ0_charAt_5068e 21 = .ok (.invokestatic 498, 3) := by decide +kernel
theorem dJ0_charAt_5068e_24 : decode cJ0_charAt_5068e 24 = .ok (.ireturn, 1) := by decide +kernel
theorem dJ0_coder_7d493_0 : decode cJ0_coder_7d493 0 = .ok (.getstatic 38, 3) := by decide +kernel
theorem dJ0_coder_7d493_3 : decode cJ0_coder_7d493 3 = .ok (.ifCond .eq 10, 3) := by decide +kernel
theorem dJ0_coder_7d493_6 : decode cJ0_coder_7d493 6 = .ok (.aload_n 0, 1) := by decide +kernel
theorem dJ0_coder_7d493_7 : decode cJ0_coder_7d493 7 = .ok (.getfield 15, 3) := by decide +kernel
theorem dJ0_coder_7d493_10 : decode cJ0_coder_7d493 10 = .ok (.goto 4, 3) := by decide +kernel
theorem dJ0_coder_7d493_13 : decode cJ0_coder_7d493 13 = .ok (.iconst 1, 1) := by decide +kernel
theorem dJ0_coder_7d493_14 : decode cJ0_coder_7d493 14 = .ok (.ireturn, 1) := by decide +kernel
theorem dJ0_isLatin1_aae02_0 : decode cJ0_isLatin1_aae02 0 = .ok (.getstatic 38, 3) := by decide +kernel
theorem dJ0_isLatin1_aae02_3 : decode cJ0_isLatin1_aae02 3 = .ok (.ifCond .eq 14, 3) := by decide +kernel
theorem dJ0_isLatin1_aae02_6 : decode cJ0_isLatin1_aae02 6 = .ok (.aload_n 0, 1) := by decide +kernel
theorem dJ0_isLatin1_aae02_7 : decode cJ0_isLatin1_aae02 7 = .ok (.getfield 15, 3) := by decide +kernel
theorem dJ0_isLatin1_aae02_10 : decode cJ0_isLatin1_aae02 10 = .ok (.ifCond .ne 7, 3) := by decide +kernel
theorem dJ0_isLatin1_aae02_13 : decode cJ0_isLatin1_aae02 13 = .ok (.iconst 1, 1) := by decide +kernel
theorem dJ0_isLatin1_aae02_14 : decode cJ0_isLatin1_aae02 14 = .ok (.goto 4, 3) := by decide +kernel
theorem dJ0_isLatin1_aae02_17 : decode cJ0_isLatin1_aae02 17 = .ok (.iconst 0, 1) := by decide +kernel
theorem dJ0_isLatin1_aae02_18 : decode cJ0_isLatin1_aae02 18 = .ok (.ireturn, 1) := by decide +kernel
theorem dJ0_checkIndex_df160_0 : decode cJ0_checkIndex_df160 0 = .ok (.iload_n 0, 1) := by decide +kernel
theorem dJ0_checkIndex_df160_1 : decode cJ0_checkIndex_df160 1 = .ok (.iload_n 1, 1) := by decide +kernel
theorem dJ0_checkIndex_df160_2 : decode cJ0_checkIndex_df160 2 = .ok (.getstatic 1053, 3) := by decide +kernel
theorem dJ0_checkIndex_df160_5 : decode cJ0_checkIndex_df160 5 = .ok (.invokestatic 1059, 3) := by decide +kernel
theorem dJ0_checkIndex_df160_8 : decode cJ0_checkIndex_df160 8 = .ok (.pop, 1) := by decide +kernel
theorem dJ0_checkIndex_df160_9 : decode cJ0_checkIndex_df160 9 = .ok (.return_, 1) := by decide +kernel
theorem dJ1_charAt_3b067_0 : decode cJ1_charAt_3b067 0 = .ok (.iload_n 1, 1) := by decide +kernel
theorem dJ1_charAt_3b067_1 : decode cJ1_charAt_3b067 1 = .ok (.aload_n 0, 1) := by decide +kernel
theorem dJ1_charAt_3b067_2 : decode cJ1_charAt_3b067 2 = .ok (.arraylength, 1) := by decide +kernel
theorem dJ1_charAt_3b067_3 : decode cJ1_charAt_3b067 3 = .ok (.invokestatic 9, 3) := by decide +kernel
theorem dJ1_charAt_3b067_6 : decode cJ1_charAt_3b067 6 = .ok (.aload_n 0, 1) := by decide +kernel
theorem dJ1_charAt_3b067_7 : decode cJ1_charAt_3b067 7 = .ok (.iload_n 1, 1) := by decide +kernel
theorem dJ1_charAt_3b067_8 : decode cJ1_charAt_3b067 8 = .ok (.baload, 1) := by decide +kernel
theorem dJ1_charAt_3b067_9 : decode cJ1_charAt_3b067 9 = .ok (.sipush 255, 3) := by decide +kernel
theorem dJ1_charAt_3b067_12 : decode cJ1_charAt_3b067 12 = .ok (.iand, 1) := by decide +kernel
theorem dJ1_charAt_3b067_13 : decode cJ1_charAt_3b067 13 = .ok (.i2c, 1) := by decide +kernel
theorem dJ1_charAt_3b067_14 : decode cJ1_charAt_3b067 14 = .ok (.ireturn, 1) := by decide +kernel
theorem dJ2_getChar_3b067_0 : decode cJ2_getChar_3b067 0 = .ok (.getstatic 44, 3) := by decide +kernel
theorem dJ2_getChar_3b067_3 : decode cJ2_getChar_3b067 3 = .ok (.ifCond .ne 25, 3) := by decide +kernel
theorem dJ2_getChar_3b067_6 : decode cJ2_getChar_3b067 6 = .ok (.iload_n 1, 1) := by decide +kernel
theorem dJ2_getChar_3b067_7 : decode cJ2_getChar_3b067 7 = .ok (.ifCond .lt 11, 3) := by decide +kernel
theorem dJ2_getChar_3b067_10 : decode cJ2_getChar_3b067 10 = .ok (.iload_n 1, 1) := by decide +kernel
theorem dJ2_getChar_3b067_11 : decode cJ2_getChar_3b067 11 = .ok (.aload_n 0, 1) := by decide +kernel
theorem dJ2_getChar_3b067_12 : decode cJ2_getChar_3b067 12 = .ok (.invokestatic 48, 3) := by decide +kernel
theorem dJ2_getChar_3b067_15 : decode cJ2_getChar_3b067 15 = .ok (.if_icmp .lt 13, 3) := by decide +kernel
theorem dJ2_getChar_3b067_18 : decode cJ2_getChar_3b067 18 = .ok (.new 52, 3) := by decide +kernel
theorem dJ2_getChar_3b067_21 : decode cJ2_getChar_3b067 21 = .ok (.dup, 1) := by decide +kernel
theorem dJ2_getChar_3b067_22 : decode cJ2_getChar_3b067 22 = .ok (.ldc 54, 2) := by decide +kernel
theorem dJ2_getChar_3b067_24 : decode cJ2_getChar_3b067 24 = .ok (.invokespecial 56, 3) := by decide +kernel
theorem dJ2_getChar_3b067_27 : decode cJ2_getChar_3b067 27 = .ok (.athrow, 1) := by decide +kernel
theorem dJ2_getChar_3b067_28 : decode cJ2_getChar_3b067 28 = .ok (.iload_n 1, 1) := by decide +kernel
theorem dJ2_getChar_3b067_29 : decode cJ2_getChar_3b067 29 = .ok (.iconst 1, 1) := by decide +kernel
theorem dJ2_getChar_3b067_30 : decode cJ2_getChar_3b067 30 = .ok (.ishl, 1) := by decide +kernel
theorem dJ2_getChar_3b067_31 : decode cJ2_getChar_3b067 31 = .ok (.istore_n 1, 1) := by decide +kernel
theorem dJ2_getChar_3b067_32 : decode cJ2_getChar_3b067 32 = .ok (.aload_n 0, 1) := by decide +kernel
theorem dJ2_getChar_3b067_33 : decode cJ2_getChar_3b067 33 = .ok (.iload_n 1, 1) := by decide +kernel
theorem dJ2_getChar_3b067_34 : decode cJ2_getChar_3b067 34 = .ok (.iinc 1 1, 3) := by decide +kernel
theorem dJ2_getChar_3b067_37 : decode cJ2_getChar_3b067 37 = .ok (.baload, 1) := by decide +kernel
theorem dJ2_getChar_3b067_38 : decode cJ2_getChar_3b067 38 = .ok (.sipush 255, 3) := by decide +kernel
theorem dJ2_getChar_3b067_41 : decode cJ2_getChar_3b067 41 = .ok (.iand, 1) := by decide +kernel
theorem dJ2_getChar_3b067_42 : decode cJ2_getChar_3b067 42 = .ok (.getstatic 59, 3) := by decide +kernel
theorem dJ2_getChar_3b067_45 : decode cJ2_getChar_3b067 45 = .ok (.ishl, 1) := by decide +kernel
theorem dJ2_getChar_3b067_46 : decode cJ2_getChar_3b067 46 = .ok (.aload_n 0, 1) := by decide +kernel
theorem dJ2_getChar_3b067_47 : decode cJ2_getChar_3b067 47 = .ok (.iload_n 1, 1) := by decide +kernel
theorem dJ2_getChar_3b067_48 : decode cJ2_getChar_3b067 48 = .ok (.baload, 1) := by decide +kernel
theorem dJ2_getChar_3b067_49 : decode cJ2_getChar_3b067 49 = .ok (.sipush 255, 3) := by decide +kernel
theorem dJ2_getChar_3b067_52 : decode cJ2_getChar_3b067 52 = .ok (.iand, 1) := by decide +kernel
theorem dJ2_getChar_3b067_53 : decode cJ2_getChar_3b067 53 = .ok (.getstatic 63, 3) := by decide +kernel
theorem dJ2_getChar_3b067_56 : decode cJ2_getChar_3b067 56 = .ok (.ishl, 1) := by decide +kernel
theorem dJ2_getChar_3b067_57 : decode cJ2_getChar_3b067 57 = .ok (.ior, 1) := by decide +kernel
theorem dJ2_getChar_3b067_58 : decode cJ2_getChar_3b067 58 = .ok (.i2c, 1) := by decide +kernel
theorem dJ2_getChar_3b067_59 : decode cJ2_getChar_3b067 59 = .ok (.ireturn, 1) := by decide +kernel
theorem dJ2_length_9d52b_0 : decode cJ2_length_9d52b 0 = .ok (.aload_n 0, 1) := by decide +kernel
theorem dJ2_length_9d52b_1 : decode cJ2_length_9d52b 1 = .ok (.arraylength, 1) := by decide +kernel
theorem dJ2_length_9d52b_2 : decode cJ2_length_9d52b 2 = .ok (.iconst 1, 1) := by decide +kernel
theorem dJ2_length_9d52b_3 : decode cJ2_length_9d52b 3 = .ok (.ishr, 1) := by decide +kernel
theorem dJ2_length_9d52b_4 : decode cJ2_length_9d52b 4 = .ok (.ireturn, 1) := by decide +kernel
theorem dJ2_charAt_3b067_0 : decode cJ2_charAt_3b067 0 = .ok (.iload_n 1, 1) := by decide +kernel
theorem dJ2_charAt_3b067_1 : decode cJ2_charAt_3b067 1 = .ok (.aload_n 0, 1) := by decide +kernel
theorem dJ2_charAt_3b067_2 : decode cJ2_charAt_3b067 2 = .ok (.invokestatic 67, 3) := by decide +kernel
theorem dJ2_charAt_3b067_5 : decode cJ2_charAt_3b067 5 = .ok (.aload_n 0, 1) := by decide +kernel
theorem dJ2_charAt_3b067_6 : decode cJ2_charAt_3b067 6 = .ok (.iload_n 1, 1) := by decide +kernel
theorem dJ2_charAt_3b067_7 : decode cJ2_charAt_3b067 7 = .ok (.invokestatic 71, 3) := by decide +kernel
theorem dJ2_charAt_3b067_10 : decode cJ2_charAt_3b067 10 = .ok (.ireturn, 1) := by decide +kernel
theorem dJ2_checkIndex_2214a_0 : decode cJ2_checkIndex_2214a 0 = .ok (.iload_n 0, 1) := by decide +kernel
theorem dJ2_checkIndex_2214a_1 : decode cJ2_checkIndex_2214a 1 = .ok (.aload_n 1, 1) := by decide +kernel
theorem dJ2_checkIndex_2214a_2 : decode cJ2_checkIndex_2214a 2 = .ok (.invokestatic 48, 3) := by decide +kernel
theorem dJ2_checkIndex_2214a_5 : decode cJ2_checkIndex_2214a 5 = .ok (.invokestatic 414, 3) := by decide +kernel
theorem dJ2_checkIndex_2214a_8 : decode cJ2_checkIndex_2214a 8 = .ok (.return_, 1) := by decide +kernel
theorem dJ3_checkIndex_8e157_0 : decode cJ3_checkIndex_8e157 0 = .ok (.iload_n 0, 1) := by decide +kernel
theorem dJ3_checkIndex_8e157_1 : decode cJ3_checkIndex_8e157 1 = .ok (.ifCond .lt 8, 3) := by decide +kernel
theorem dJ3_checkIndex_8e157_4 : decode cJ3_checkIndex_8e157 4 = .ok (.iload_n 0, 1) := by decide +kernel
theorem dJ3_checkIndex_8e157_5 : decode cJ3_checkIndex_8e157 5 = .ok (.iload_n 1, 1) := by decide +kernel
theorem dJ3_checkIndex_8e157_6 : decode cJ3_checkIndex_8e157 6 = .ok (.if_icmp .lt 10, 3) := by decide +kernel
theorem dJ3_checkIndex_8e157_9 : decode cJ3_checkIndex_8e157 9 = .ok (.aload_n 2, 1) := by decide +kernel
theorem dJ3_checkIndex_8e157_10 : decode cJ3_checkIndex_8e157 10 = .ok (.iload_n 0, 1) := by decide +kernel
theorem dJ3_checkIndex_8e157_11 : decode cJ3_checkIndex_8e157 11 = .ok (.iload_n 1, 1) := by decide +kernel
theorem dJ3_checkIndex_8e157_12 : decode cJ3_checkIndex_8e157 12 = .ok (.invokestatic 95, 3) := by decide +kernel
theorem dJ3_checkIndex_8e157_15 : decode cJ3_checkIndex_8e157 15 = .ok (.athrow, 1) := by decide +kernel
theorem dJ3_checkIndex_8e157_16 : decode cJ3_checkIndex_8e157 16 = .ok (.iload_n 0, 1) := by decide +kernel
theorem dJ3_checkIndex_8e157_17 : decode cJ3_checkIndex_8e157 17 = .ok (.ireturn, 1) := by decide +kernel
end
section
/-! THE PURE LAYER. A frame's locals and stack as whole numbers and places, the world as a function of place and slot. Rr: the machine, from such a frame, comes to the method's end. -/
abbrev zV : Type := Int ⊕ (Int ⊕ Nat)
abbrev vI (i : Int) : zV := Sum.inl i
abbrev vL (i : Int) : zV := Sum.inr (Sum.inl i)
abbrev vR (k : Nat) : zV := Sum.inr (Sum.inr k)
abbrev zH : Type := Nat → Nat → Int
/-- what is fixed of a world: class numbers, array class numbers, how many cells, their addresses, shapes, lengths, references -/
abbrev zG : Type := va_G × ((Nat → ClassId) × (Nat × ((Nat → Nat) × ((Nat → Nat) × ((Nat → Nat) × (Nat → Nat → Nat))))))
def gD (G : zG) : va_G := G.1
def gC (G : zG) : Nat → ClassId := G.2.1
def gN (G : zG) : Nat := G.2.2.1
def ga (G : zG) : Nat → Nat := G.2.2.2.1
def gs (G : zG) : Nat → Nat := G.2.2.2.2.1
def gl (G : zG) : Nat → Nat := G.2.2.2.2.2.1
def gr (G : zG) : Nat → Nat → Nat := G.2.2.2.2.2.2
def in32 (x : Int) : Prop := -2147483648 ≤ x ∧ x < 2147483648
def in64 (x : Int) : Prop := -9223372036854775808 ≤ x ∧ x < 9223372036854775808
def okv : zV → Prop
  | .inl i => in32 i
  | .inr (.inl i) => in64 i
  | .inr (.inr _) => True
def okH (h : zH) : Prop := ∀ k j, in32 (h k j)
def okF (ls : List (Option zV)) (st : List zV) (h : zH) : Prop := (∀ v, some v ∈ ls → okv v) ∧ (∀ v ∈ st, okv v) ∧ okH h
def cv (G : zG) : zV → Value
  | .inl i => .int (Int32.ofInt i)
  | .inr (.inl i) => .long (Int64.ofInt i)
  | .inr (.inr k) => .ref (ga G k)
def up (h : zH) (k j : Nat) (v : Int) : zH := fun a b => if a = k ∧ b = j then v else h a b
theorem up_s {h : zH} {k j : Nat} {v : Int} : up h k j v k j = v := by simp [up]
theorem up_n {h : zH} {k j a b : Nat} {v : Int} (q : ¬ (a = k ∧ b = j)) : up h k j v a b = h a b := by simp only [up, if_neg q]
theorem up_k {h : zH} {k j a b : Nat} {v : Int} (q : a ≠ k) : up h k j v a b = h a b := up_n (fun z => q z.1)
theorem up_j {h : zH} {k j a b : Nat} {v : Int} (q : b ≠ j) : up h k j v a b = h a b := up_n (fun z => q z.2)
-- numbers
def w32 (x : Int) : Int := (Int32.ofInt x).toInt
def w64 (x : Int) : Int := (Int64.ofInt x).toInt
theorem w32_o (x : Int) : Int32.ofInt (w32 x) = Int32.ofInt x := Int32.ofInt_toInt _
theorem w64_o (x : Int) : Int64.ofInt (w64 x) = Int64.ofInt x := Int64.ofInt_toInt _
theorem w32_in (x : Int) : in32 (w32 x) := ⟨by have := Int32.le_toInt (Int32.ofInt x); unfold w32; omega, by have := Int32.toInt_lt (Int32.ofInt x); unfold w32; omega⟩
theorem w64_in (x : Int) : in64 (w64 x) := ⟨by have := Int64.le_toInt (Int64.ofInt x); unfold w64; omega, by have := Int64.toInt_lt (Int64.ofInt x); unfold w64; omega⟩
theorem i32_t {x : Int} (h : in32 x) : (Int32.ofInt x).toInt = x := Int32.toInt_ofInt_of_le (by have := h.1; omega) (by have := h.2; omega)
theorem i64_t {x : Int} (h : in64 x) : (Int64.ofInt x).toInt = x := Int64.toInt_ofInt_of_le (by have := h.1; omega) (by have := h.2; omega)
theorem w32_id {x : Int} (h1 : -2147483648 ≤ x) (h2 : x < 2147483648) : w32 x = x := i32_t ⟨h1, h2⟩
theorem w64_id {x : Int} (h1 : -9223372036854775808 ≤ x) (h2 : x < 9223372036854775808) : w64 x = x := i64_t ⟨h1, h2⟩
theorem i32_le {x y : Int} (hx : in32 x) (hy : in32 y) : Int32.ofInt x ≤ Int32.ofInt y ↔ x ≤ y := by rw [Int32.le_iff_toInt_le, i32_t hx, i32_t hy]
theorem i32_lt {x y : Int} (hx : in32 x) (hy : in32 y) : Int32.ofInt x < Int32.ofInt y ↔ x < y := by rw [Int32.lt_iff_toInt_lt, i32_t hx, i32_t hy]
theorem i32_eq {x y : Int} (hx : in32 x) (hy : in32 y) : Int32.ofInt x = Int32.ofInt y ↔ x = y := by rw [← Int32.toInt_inj, i32_t hx, i32_t hy]
theorem i64_lt {x y : Int} (hx : in64 x) (hy : in64 y) : Int64.ofInt x < Int64.ofInt y ↔ x < y := by rw [Int64.lt_iff_toInt_lt, i64_t hx, i64_t hy]
theorem i64_eq {x y : Int} (hx : in64 x) (hy : in64 y) : Int64.ofInt x = Int64.ofInt y ↔ x = y := by rw [← Int64.toInt_inj, i64_t hx, i64_t hy]
theorem i32_in {x : Int} {n : Nat} (hx : in32 x) (h0 : 0 ≤ x) (h1 : x < n) : vp_in (Int32.ofInt x) n := vp_in_iff.mpr (by rw [i32_t hx]; exact ⟨h0, h1⟩)
theorem i32_cl {x : Int} (hx : in32 x) : (Int32.ofInt x).toNatClampNeg = x.toNat := by
  show (Int32.ofInt x).toInt.toNat = _
  rw [i32_t hx]
theorem i32_0 : (0 : Int32) = Int32.ofInt 0 := by decide
theorem in32_0 : in32 0 := ⟨by decide, by decide⟩
-- the classes
def clN (ci : Nat) : String := match ci with
  | 0 => RX0
  | 1 => RX1
  | 2 => RX2
  | 3 => RX3
  | _ => RX4
def clT (ci : Nat) : u_T := match ci with
  | 0 => TX0
  | 1 => TX1
  | 2 => TX2
  | 3 => TX3
  | _ => TX4
def clY (ci : Nat) : Nat → FieldType := match ci with
  | 0 => tyX0
  | 1 => tyX1
  | 2 => tyX2
  | 3 => tyX3
  | _ => tyX4
def nfs (ci : Nat) : Nat := match ci with
  | 0 => 3
  | 1 => 10
  | 2 => 10
  | 3 => 11
  | _ => 29
/-- the fields that are references -/
def rfB (ci f : Nat) : Bool := match ci with
  | 0 => f == 0
  | 1 => f == 0
  | 2 => decide (f < 6)
  | 3 => decide (f < 9)
  | _ => [0, 2, 7, 16, 17, 18, 20, 22, 24, 25, 26, 27].contains f
def fsOf (G : zG) (h : zH) (k ci : Nat) : List Value := (List.range (nfs ci)).map (fun j => if rfB ci j = true then .ref (ga G (gr G k j)) else .int (Int32.ofInt (h k j)))
def ceOf (G : zG) (h : zH) (k : Nat) : va_E := if gs G k < 3 then .inl (gC G (gs G k), (gl G k, .inl (fun j => Int32.ofInt (h k j)))) else if gs G k < 5 then .inl (gC G (gs G k), (gl G k, .inr (.inr (.inr (.inr (fun j => some (ga G (gr G k j)))))))) else .inr (gs G k - 5, fsOf G h k (gs G k - 5))
def wsOf (G : zG) (h : zH) : va_W := (List.range (gN G)).map (fun k => (ga G k, ceOf G h k))
def inA (G : zG) (q : Nat) : Prop := ∃ k, k < gN G ∧ ga G k = q
def injG (G : zG) : Prop := ∀ i j, i < gN G → j < gN G → ga G i = ga G j → i = j
def tysOf (G : zG) : List (ClassId × FieldType) := [(gC G 0, .int), (gC G 1, .byte), (gC G 2, .boolean), (gC G 3, .object RX2), (gC G 4, .object RX0)]
theorem ws_at {G : zG} {h : zH} {k : Nat} (hk : k < gN G) : (wsOf G h)[k]? = some (ga G k, ceOf G h k) := by
  simp [wsOf, hk]
theorem ws_of {G : zG} {h : zH} {k : Nat} {q : Nat × va_E} (e : (wsOf G h)[k]? = some q) : k < gN G ∧ q = (ga G k, ceOf G h k) := by
  have hk : k < gN G := by
    have := (List.getElem?_eq_some_iff.mp e).1
    simpa [wsOf] using this
  rw [ws_at hk] at e
  exact ⟨hk, (Option.some.inj e).symm⟩
theorem ws_D {G : zG} (hi : injG G) (h : zH) : va_D (inA G) (wsOf G h) := by
  refine ⟨fun i j p q hp hq e => ?_, fun k q hq => ?_⟩
  · obtain ⟨h1, rfl⟩ := ws_of hp
    obtain ⟨h2, rfl⟩ := ws_of hq
    exact hi i j h1 h2 e
  · obtain ⟨h1, rfl⟩ := ws_of hq
    exact ⟨k, h1, rfl⟩
theorem ce_up {G : zG} {h : zH} {k j a : Nat} {v : Int} (q : a ≠ k) : ceOf G (up h k j v) a = ceOf G h a := by
  have e : ∀ b, up h k j v a b = h a b := fun b => up_k q
  simp only [ceOf, fsOf, e]
theorem ws_set {G : zG} {h : zH} {k j : Nat} {v : Int} (hk : k < gN G) : (wsOf G h).set k (ga G k, ceOf G (up h k j v) k) = wsOf G (up h k j v) := by
  apply List.ext_getElem?
  intro i
  by_cases hi : i = k
  · subst hi
    rw [List.getElem?_set_self (by simpa [wsOf] using hk), ws_at hk]
  · rw [List.getElem?_set_ne (Ne.symm hi)]
    by_cases h2 : i < gN G
    · rw [ws_at h2, ws_at h2, ce_up hi]
    · rw [List.getElem?_eq_none (by simpa [wsOf] using h2), List.getElem?_eq_none (by simpa [wsOf] using h2)]
theorem ce_arr {G : zG} {h : zH} {k : Nat} (hs : gs G k < 3) : ceOf G h k = .inl (gC G (gs G k), (gl G k, .inl (fun j => Int32.ofInt (h k j)))) := by
  simp only [ceOf, if_pos hs]
theorem ce_rarr {G : zG} {h : zH} {k : Nat} (hs : gs G k = 3 ∨ gs G k = 4) : ceOf G h k = .inl (gC G (gs G k), (gl G k, .inr (.inr (.inr (.inr (fun j => some (ga G (gr G k j)))))))) := by
  have h1 : ¬ gs G k < 3 := by omega
  have h2 : gs G k < 5 := by omega
  simp only [ceOf, if_neg h1, if_pos h2]
theorem ce_obj {G : zG} {h : zH} {k ci : Nat} (hs : gs G k = ci + 5) : ceOf G h k = .inr (ci, fsOf G h k ci) := by
  have h1 : ¬ gs G k < 3 := by omega
  have h2 : ¬ gs G k < 5 := by omega
  have h3 : gs G k - 5 = ci := by omega
  simp only [ceOf, if_neg h1, if_neg h2, h3]
theorem fs_at {G : zG} {h : zH} {k ci f : Nat} (hf : f < nfs ci) : (fsOf G h k ci)[f]? = some (if rfB ci f = true then .ref (ga G (gr G k f)) else .int (Int32.ofInt (h k f))) := by
  simp [fsOf, hf]
theorem fs_set {G : zG} {h : zH} {k ci f : Nat} {v : Int} (hf : f < nfs ci) (hr : rfB ci f = false) : (fsOf G h k ci).set f (.int (Int32.ofInt v)) = fsOf G (up h k f v) k ci := by
  apply List.ext_getElem?
  intro i
  by_cases hi : i = f
  · subst hi
    rw [List.getElem?_set_self (by simpa [fsOf] using hf), fs_at hf, hr]
    simp [up_s]
  · rw [List.getElem?_set_ne (Ne.symm hi)]
    by_cases h2 : i < nfs ci
    · rw [fs_at h2, fs_at h2, up_j hi]
    · rw [List.getElem?_eq_none (by simpa [fsOf] using h2), List.getElem?_eq_none (by simpa [fsOf] using h2)]
theorem z_arr_set {h : zH} {k : Nat} {i v : Int} (hi : in32 i) : upd (fun j => Int32.ofInt (h k j)) (Int32.ofInt i).toNatClampNeg (Int32.ofInt v) = fun j => Int32.ofInt (up h k i.toNat v k j) := by
  funext j
  rw [i32_cl hi]
  by_cases e : j = i.toNat
  · subst e
    simp [upd, up_s]
  · simp [upd, e, up_j e]
-- the words: one list for all methods
def ww : List Cond := lw_tbl.filter goodWord
theorem ww_tbl {w : Cond} (h : w ∈ ww) : w ∈ lw_tbl := (List.mem_filter.mp h).1
theorem ww_good {w : Cond} (h : w ∈ ww) : goodWord w = true := (List.mem_filter.mp h).2
/-- a method: name, code, locals, what it answers -/
abbrev zM : Type := MethodName × (ByteArray × (Nat × Option FieldType))
def wsM (M : zM) : List Cond := Cond.code M.1 M.2.1 M.2.2.1 M.2.2.2 :: ww
theorem good_M {Ts : List Cond} {M : zM} (hT : ∀ w ∈ ww, w ∈ Ts) (hM : Cond.code M.1 M.2.1 M.2.2.1 M.2.2.2 ∈ ww) : GoodIn Ts (wsM M) := by
  intro w hw
  have : w ∈ ww := by
    rcases List.mem_cons.mp hw with rfl | h
    · exact hM
    · exact h
  exact ⟨hT w this, good_of_word (ww_good this)⟩
def rmD (d : Nat) : Room := { frames := d, cells := 0, slots := 0, locals := 36 * d }
end
section
/-! what nobody writes: the static row, the Strings -/
def sTx (i : Nat) : String := ["upright", "stooped", "tired", "lover", "rota", "cloud", "paint", "deed"].getD i ""
def sLen : List Nat := [7, 7, 5, 5, 4, 5, 5, 4]
def sByt : List (List Int32) := [[117, 112, 114, 105, 103, 104, 116], [115, 116, 111, 111, 112, 101, 100], [116, 105, 114, 101, 100], [108, 111, 118, 101, 114], [114, 111, 116, 97], [99, 108, 111, 117, 100], [112, 97, 105, 110, 116], [100, 101, 101, 100]]
def zNear (j : Nat) : Int := [3, 2, 4, 1, 5, 0, 6].getD j 0
def KK (G : zG) (U : State) (H : Heap) : Prop :=
  va_Z RX3 "NEAREST_LEANS" "[I" (.ref (ga G 2000)) (inA G) U H ∧ va_T .int (ga G 2000) 7 (fun j => .int (Int32.ofInt (zNear j))) (inA G) U H ∧
  vk_S 8 sLen sByt (fun i => ga G (1000 + i)) (fun i => ga G (1100 + i)) (inA G) U H ∧ (∀ i, i < 8 → vk_R RX1 (152 + 2 * i) (sTx i) (ga G (1000 + i)) U) ∧
  va_Z "java/lang/String" "COMPACT_STRINGS" "Z" (.int 1) (inA G) U H
theorem KK.kept {G : zG} {U : State} {H H1 : Heap} (h : KK G U H) (hq : ∀ a : Nat, a < H.size → ¬ inA G a → H1[a]? = H[a]?) : KK G U H1 :=
  ⟨h.1.kept hq, h.2.1.kept hq, h.2.2.1.kept hq, h.2.2.2.1, h.2.2.2.2.kept hq⟩
theorem KK.warm {G : zG} {s U : State} {H : Heap} (hW : s.WarmedH U.vm) (h : KK G s H) : KK G U H :=
  ⟨h.1.moved hW.alike, h.2.1.moved hW.alike, h.2.2.1.moved hW.alike, fun i hi => (h.2.2.2.1 i hi).warm hW, h.2.2.2.2.moved hW.alike⟩
theorem KK.same {G : zG} {u U : State} {H : Heap} (hv : U.vm = u.vm) (h : KK G u H) : KK G U H := by
  have ha : u.vm.Alike U.vm := by rw [hv]; exact Vm.Alike.refl _
  exact ⟨h.1.moved ha, h.2.1.moved ha, h.2.2.1.moved ha, fun i hi => (h.2.2.2.1 i hi).same hv, h.2.2.2.2.moved ha⟩
/-! contracts -/
def Cx (G : zG) (h : zH) (U : State) : Prop := va_P (gD G) vwCl (wsOf G h) U.heap ∧ va_K (gD G) vwCl (tysOf G) U ∧ KK G U U.heap
def QQ (G : zG) (Φ : Option zV → zH → Prop) : Array Value → State → Outcome → State → Prop := fun _ st oc t => (∃ (r : Option zV) (h : zH), oc = .returned (r.map (cv G)) ∧ Φ r h ∧ (∀ v, r = some v → okv v) ∧ okH h ∧ va_P (gD G) vwCl (wsOf G h) t.heap) ∧ va_F (inA G) st t
/-- the contract of a method at a depth, from these arguments and this world -/
def Ca (l : Launch) (G : zG) (d : Nat) (M : zM) (av : List zV) (h : zH) (Φ : Option zV → zH → Prop) : Prop :=
  injG G → (∀ v ∈ av, okv v) → okH h → Met l M.1 (wsM M) (rmD d) (va_Pc (av.map (cv G)) (Cx G h)) (QQ G Φ) 0 0 (inA G)
def lvs (G : zG) (lc : Array Slot) (n : Nat) (ls : List (Option zV)) : Prop := lc.size = n ∧ lv_wf lc ∧ ∀ (i : Nat) (v : zV), ls[i]? = some (some v) → lc[i]? = some (.val (cv G v))
def MC (G : zG) (M : zM) (p : Program) (s : State) (m : MethodId) (args : Array Value) (meth : Method) (c : Code) : Prop :=
  p.tables.exec = Jvm.exec ∧ c.code = M.2.1 ∧ meth.sig.returnType = M.2.2.2 ∧ c.maxLocals = M.2.2.1 ∧ s.vm.findClass M.1.cls = some m.cls ∧ (∀ w ∈ wsM M, w.before args s = true) ∧ meth.locks = false ∧ va_K (gD G) vwCl (tysOf G) s ∧ KK G s s.heap ∧ injG G
/-- from this frame, in this world, the machine comes to the method's end with Φ -/
def Rr (l : Launch) (G : zG) (d : Nat) (M : zM) (Φ : Option zV → zH → Prop) (pc : Nat) (ls : List (Option zV)) (st : List zV) (h : zH) : Prop :=
  ∀ (p : Program) (e : Env) (s : State) (m : MethodId) (args : Array Value) (below : List Frame) (meth : Method) (c : Code) (H : Heap) (locs : List Loc) (lc : Array Slot),
    MC G M p s m args meth c → lvs G lc M.2.2.1 ls → va_P (gD G) vwCl (wsOf G h) H → va_S (inA G) s.heap H locs → okF ls st h →
    W p l e (rmD d) s m args below meth c H locs 0 0 (MQ below (QQ G Φ) args s 0 0 (inA G)) (F0 m pc lc (st.map (cv G)))
/-- the locals at a method's entry -/
def ent : List zV → List (Option zV)
  | [] => []
  | .inr (.inl x) :: l => some (.inr (.inl x)) :: none :: ent l
  | v :: l => some v :: ent l
theorem ent_mem : ∀ (av : List zV) (v : zV), some v ∈ ent av → v ∈ av
  | [], v, h => by simp [ent] at h
  | .inr (.inl x) :: l, v, h => by
    simp only [ent, List.mem_cons] at h
    rcases h with h | h | h
    · cases h; exact List.mem_cons_self
    · cases h
    · exact List.mem_cons_of_mem _ (ent_mem l v h)
  | .inl x :: l, v, h => by
    simp only [ent, List.mem_cons] at h
    rcases h with h | h
    · cases h; exact List.mem_cons_self
    · exact List.mem_cons_of_mem _ (ent_mem l v h)
  | .inr (.inr x) :: l, v, h => by
    simp only [ent, List.mem_cons] at h
    rcases h with h | h
    · cases h; exact List.mem_cons_self
    · exact List.mem_cons_of_mem _ (ent_mem l v h)
theorem ent_len (G : zG) : ∀ (av : List zV), (lg_sl (av.map (cv G))).length = (ent av).length := by
  intro av
  induction av with
  | nil => rfl
  | cons v l ih =>
    rcases v with i | i | i
    · exact congrArg (· + 1) ih
    · exact congrArg (· + 2) ih
    · exact congrArg (· + 1) ih
theorem ent_at (G : zG) : ∀ (av : List zV) (n i : Nat) (v : zV), (ent av)[i]? = some (some v) → (n + i, cv G v) ∈ lv_args n (av.map (cv G)) := by
  intro av
  induction av with
  | nil => intro n i v h; simp [ent] at h
  | cons a l ih =>
    intro n i v h
    rcases a with x | x | x
    · cases i with
      | zero => simp [ent] at h; subst h; simp [lv_args, cv]
      | succ i =>
        simp only [ent, List.getElem?_cons_succ] at h
        have := ih (n + 1) i v h
        simp only [List.map_cons, cv, lv_args, Value.category]
        exact List.mem_cons_of_mem _ (by rw [show n + (i + 1) = n + 1 + i by omega]; exact this)
    · cases i with
      | zero => simp [ent] at h; subst h; simp [lv_args, cv]
      | succ i =>
        cases i with
        | zero => simp [ent] at h
        | succ i =>
          simp only [ent, List.getElem?_cons_succ] at h
          have := ih (n + 2) i v h
          simp only [List.map_cons, cv, lv_args, Value.category]
          exact List.mem_cons_of_mem _ (by rw [show n + (i + 1 + 1) = n + 2 + i by omega]; exact this)
    · cases i with
      | zero => simp [ent] at h; subst h; simp [lv_args, cv]
      | succ i =>
        simp only [ent, List.getElem?_cons_succ] at h
        have := ih (n + 1) i v h
        simp only [List.map_cons, cv, lv_args, Value.category]
        exact List.mem_cons_of_mem _ (by rw [show n + (i + 1) = n + 1 + i by omega]; exact this)
theorem Ca.of {l : Launch} {G : zG} {d : Nat} {M : zM} {av : List zV} {h : zH} {Φ : Option zV → zH → Prop} (hy : plainName M.1.cls = true) (hn : (ent av).length ≤ M.2.2.1)
    (k : injG G → (∀ v ∈ av, okv v) → okH h → Rr l G d M Φ 0 (ent av ++ List.replicate (M.2.2.1 - (ent av).length) none) [] h) : Ca l G d M av h Φ := by
  intro hI hv hH
  refine Met.ofW (cc := M.2.1) (maxL := M.2.2.1) (ret := M.2.2.2) hy rfl ?_
  intro p e s m args below meth c s₁ B hml hv0
  obtain ⟨rfl, hP, hK, hKK⟩ := hv0
  have hl := lv_entry (av.map (cv G)) (n := M.2.2.1) (by rw [ent_len]; exact hn)
  rw [lg_entry_eq]
  generalize (lg_sl (av.map (cv G)) ++ List.replicate (M.2.2.1 - (lg_sl (av.map (cv G))).length) Slot.unset).toArray = lc at hl ⊢
  refine k hI hv hH p e s m _ below meth c s.heap [] lc ⟨B.exec, B.bytes, B.returns, hml, findClass_of_methodNamed B.named, atoms_spec (ws := wsM M) B.pre, B.notSynchronized, hK, hKK, hI⟩ ⟨hl.1, hl.2.1, fun i v hi => ?_⟩ hP va_S.rf ⟨fun v hm => ?_, fun v h => by simp at h, hH⟩
  · by_cases hlt : i < (ent av).length
    · rw [List.getElem?_append_left hlt] at hi
      have := hl.2.2 _ (ent_at G av 0 i v hi)
      simpa using this
    · rw [List.getElem?_append_right (by omega)] at hi
      have := List.mem_of_getElem? hi
      simp at this
  · rcases List.mem_append.mp hm with h1 | h1
    · exact hv v (ent_mem av v h1)
    · simp at h1
theorem Ca.mono {l : Launch} {G : zG} {d : Nat} {M : zM} {av : List zV} {h : zH} {Φ Ψ : Option zV → zH → Prop} (k : Ca l G d M av h Φ) (hi : ∀ r h', Φ r h' → Ψ r h') : Ca l G d M av h Ψ := by
  intro hI hv hH p e ha hc hk s m args below hf happ hp ht
  obtain ⟨t, o, a1, b1, b2, ⟨⟨r, h', e1, e2, e3⟩, fr⟩, b4⟩ := k hI hv hH p e ha hc hk s m args below hf happ hp ht
  exact ⟨t, o, a1, b1, b2, ⟨⟨r, h', e1, hi r h' e2, e3⟩, fr⟩, b4⟩
theorem Rr.ok {l : Launch} {G : zG} {d : Nat} {M : zM} {Φ : Option zV → zH → Prop} {pc : Nat} {ls : List (Option zV)} {st : List zV} {h : zH} (k : okF ls st h → Rr l G d M Φ pc ls st h) : Rr l G d M Φ pc ls st h :=
  fun p e s m args below meth c H locs lc C hl hP hS hk => k hk p e s m args below meth c H locs lc C hl hP hS hk
theorem Rr.eq {l : Launch} {G : zG} {d : Nat} {M : zM} {Φ : Option zV → zH → Prop} {pc : Nat} {ls ls' : List (Option zV)} {st st' : List zV} {h h' : zH} (e1 : ls = ls') (e2 : st = st') (e3 : h = h') (k : Rr l G d M Φ pc ls' st' h') : Rr l G d M Φ pc ls st h := by
  subst e1 e2 e3; exact k
end
section
/-! a row for each instruction, in the pure layer (laid by wip/gen/ins.py) -/
def plOf (G : zG) (ls : List (Option zV)) (n : Nat) : List (Nat × Value) := (List.range n).filterMap (fun i => match ls[i]? with
  | some (some v) => some (i, cv G v)
  | _ => none)
theorem pl_mem {G : zG} {ls : List (Option zV)} {n i : Nat} {v : zV} (hi : i < n) (e : ls[i]? = some (some v)) : (i, cv G v) ∈ plOf G ls n :=
  List.mem_filterMap.mpr ⟨i, List.mem_range.mpr hi, by rw [e]⟩
theorem lvs.has {G : zG} {lc : Array Slot} {n : Nat} {ls : List (Option zV)} (h : lvs G lc n ls) : lv_has lc n (plOf G ls n) := by
  refine ⟨h.1, h.2.1, fun q hq => ?_⟩
  obtain ⟨i, -, e⟩ := List.mem_filterMap.mp hq
  cases hl : ls[i]? with
  | none => rw [hl] at e; cases e
  | some o =>
    cases o with
    | none => rw [hl] at e; cases e
    | some v =>
      rw [hl] at e
      cases e
      exact h.2.2 i v hl
theorem lvs.lt {G : zG} {lc : Array Slot} {n : Nat} {ls : List (Option zV)} (h : lvs G lc n ls) {i : Nat} {v : zV} (e : ls[i]? = some (some v)) : i < n := by
  have := lv_lt (h.2.2 i v e)
  rw [h.1] at this
  exact this
/-- no long lies just below place i -/
def noL (ls : List (Option zV)) (i : Nat) : Bool := match i with
  | 0 => true
  | i + 1 => match ls[i]? with
    | some (some (.inr (.inl _))) => false
    | _ => true
theorem noL_cat {G : zG} {ls : List (Option zV)} {j : Nat} {w : zV} (hn : noL ls (j + 1) = true) (e : ls[j]? = some (some w)) : (cv G w).category = 1 := by
  simp only [noL, e] at hn
  rcases w with x | x | x
  · rfl
  · cases hn
  · rfl
theorem lvs.set1 {G : zG} {lc lc' : Array Slot} {n i : Nat} {ls : List (Option zV)} {v : zV} (h : lvs G lc n ls) (hn : noL ls i = true) (h' : lv_has lc' n ((i, cv G v) :: (plOf G ls n).filter (fun q => !(q.1 == i) && !(q.1 + 1 == i && q.2.category == 2)))) : lvs G lc' n (ls.set i (some v)) := by
  refine ⟨h'.1, h'.2.1, fun j w e => ?_⟩
  by_cases hj : j = i
  · subst hj
    have hlt : j < ls.length := by
      have := (List.getElem?_eq_some_iff.mp e).1
      simpa using this
    rw [List.getElem?_set_self hlt] at e
    cases e
    exact h'.2.2 (j, cv G v) List.mem_cons_self
  · rw [List.getElem?_set_ne (Ne.symm hj)] at e
    refine h'.2.2 (j, cv G w) (List.mem_cons_of_mem _ (List.mem_filter.mpr ⟨pl_mem (h.lt e) e, ?_⟩))
    have h1 : (j == i) = false := by simpa using hj
    by_cases h2 : j + 1 = i
    · subst h2
      simp [noL_cat (G := G) hn e]
    · have h3 : (j + 1 == i) = false := by simpa using h2
      simp [h1, h3]
theorem lvs.set2 {G : zG} {lc lc' : Array Slot} {n i : Nat} {ls : List (Option zV)} {v : zV} (h : lvs G lc n ls) (hn : noL ls i = true) (h' : lv_has lc' n ((i, cv G v) :: (plOf G ls n).filter (fun q => !(q.1 == i) && (!(q.1 == i + 1) && !(q.1 + 1 == i && q.2.category == 2))))) : lvs G lc' n ((ls.set i (some v)).set (i + 1) none) := by
  refine ⟨h'.1, h'.2.1, fun j w e => ?_⟩
  by_cases hj1 : j = i + 1
  · subst hj1
    have hlt : i + 1 < (ls.set i (some v)).length := by
      have := (List.getElem?_eq_some_iff.mp e).1
      simpa using this
    rw [List.getElem?_set_self hlt] at e
    cases e
  · rw [List.getElem?_set_ne (Ne.symm hj1)] at e
    by_cases hj : j = i
    · subst hj
      have hlt : j < ls.length := by
        have := (List.getElem?_eq_some_iff.mp e).1
        simpa using this
      rw [List.getElem?_set_self hlt] at e
      cases e
      exact h'.2.2 (j, cv G v) List.mem_cons_self
    · rw [List.getElem?_set_ne (Ne.symm hj)] at e
      refine h'.2.2 (j, cv G w) (List.mem_cons_of_mem _ (List.mem_filter.mpr ⟨pl_mem (h.lt e) e, ?_⟩))
      have h1 : (j == i) = false := by simpa using hj
      have h4 : (j == i + 1) = false := by simpa using hj1
      by_cases h2 : j + 1 = i
      · subst h2
        simp [noL_cat (G := G) hn e]
        omega
      · have h3 : (j + 1 == i) = false := by simpa using h2
        simp [h1, h3]
        omega
theorem ok_set {ls : List (Option zV)} {i : Nat} {v : zV} (h : ∀ v, some v ∈ ls → okv v) (hv : okv v) : ∀ w, some w ∈ ls.set i (some v) → okv w := by
  intro w hw
  rcases List.mem_or_eq_of_mem_set hw with h1 | h1
  · exact h w h1
  · cases h1; exact hv
theorem ok_setn {ls : List (Option zV)} {i : Nat} (h : ∀ v, some v ∈ ls → okv v) : ∀ w, some w ∈ ls.set i none → okv w := by
  intro w hw
  rcases List.mem_or_eq_of_mem_set hw with h1 | h1
  · exact h w h1
  · cases h1
theorem ok_c {st : List zV} {v : zV} (hv : okv v) (h : ∀ v ∈ st, okv v) : ∀ w ∈ v :: st, okv w := fun w hw => by
  rcases List.mem_cons.mp hw with rfl | h1
  · exact hv
  · exact h w h1
theorem ok_hd {st : List zV} {v : zV} (h : ∀ w ∈ v :: st, okv w) : okv v := h v List.mem_cons_self
theorem ok_tl {st : List zV} {v : zV} (h : ∀ w ∈ v :: st, okv w) : ∀ w ∈ st, okv w := fun w hw => h w (List.mem_cons_of_mem _ hw)
theorem ok_up {h : zH} {k j : Nat} {v : Int} (hh : okH h) (hv : in32 v) : okH (up h k j v) := fun a b => by
  by_cases q : a = k ∧ b = j
  · obtain ⟨rfl, rfl⟩ := q; rw [up_s]; exact hv
  · rw [up_n q]; exact hh a b
def b32 (n : Int) : Bool := decide (-2147483648 ≤ n) && decide (n < 2147483648)
def b64 (n : Int) : Bool := decide (-9223372036854775808 ≤ n) && decide (n < 9223372036854775808)
theorem b32_in {n : Int} (h : b32 n = true) : in32 n := by simp [b32] at h; exact h
theorem b64_in {n : Int} (h : b64 n = true) : in64 n := by simp [b64] at h; exact h
section RI
variable {l : Launch} {G : zG} {d : Nat} {M : zM} {Φ : Option zV → zH → Prop} {pc : Nat} {ls : List (Option zV)} {st : List zV} {h : zH}
theorem r_iconst (np : Nat) {n : Int} (hd : decode M.2.1 pc = .ok (.iconst n, 1)) (hn : pc + 1 = np) (hr : b32 n = true) (k : Rr l G d M Φ np ls (vI n :: st) h) : Rr l G d M Φ pc ls st h := by
  subst hn
  intro p e s m args below meth c H locs lc C hl hP hS hk
  refine lv_iconst C.1 C.2.1 hd rfl ?_
  exact k p e s m args below meth c H locs lc C hl hP hS ⟨hk.1, ok_c (b32_in hr) hk.2.1, hk.2.2⟩
theorem r_bipush (np : Nat) {n : Int} (hd : decode M.2.1 pc = .ok (.bipush n, 2)) (hn : pc + 2 = np) (hr : b32 n = true) (hv : (Int8.ofInt n).toInt32 = Int32.ofInt n) (k : Rr l G d M Φ np ls (vI n :: st) h) : Rr l G d M Φ pc ls st h := by
  subst hn
  intro p e s m args below meth c H locs lc C hl hP hS hk
  refine lv_bipush C.1 C.2.1 hd hv ?_
  exact k p e s m args below meth c H locs lc C hl hP hS ⟨hk.1, ok_c (b32_in hr) hk.2.1, hk.2.2⟩
theorem r_sipush (np : Nat) {n : Int} (hd : decode M.2.1 pc = .ok (.sipush n, 3)) (hn : pc + 3 = np) (hr : b32 n = true) (hv : (Int16.ofInt n).toInt32 = Int32.ofInt n) (k : Rr l G d M Φ np ls (vI n :: st) h) : Rr l G d M Φ pc ls st h := by
  subst hn
  intro p e s m args below meth c H locs lc C hl hP hS hk
  refine lv_sipush C.1 C.2.1 hd hv ?_
  exact k p e s m args below meth c H locs lc C hl hP hS ⟨hk.1, ok_c (b32_in hr) hk.2.1, hk.2.2⟩
theorem r_lconst (np : Nat) {n : Fin 2} (hd : decode M.2.1 pc = .ok (.lconst n, 1)) (hn : pc + 1 = np) (v : Int) (hr : b64 v = true) (hv : Int64.ofNat (n : Nat) = Int64.ofInt v) (k : Rr l G d M Φ np ls (vL v :: st) h) : Rr l G d M Φ pc ls st h := by
  subst hn
  intro p e s m args below meth c H locs lc C hl hP hS hk
  refine lv_lconst C.1 C.2.1 hd hv ?_
  exact k p e s m args below meth c H locs lc C hl hP hS ⟨hk.1, ok_c (v := vL v) (b64_in hr) hk.2.1, hk.2.2⟩
theorem mc_w {p : Program} {s : State} {m : MethodId} {args : Array Value} {meth : Method} {c : Code} (C : MC G M p s m args meth c) {w : Cond} (hw : w ∈ ww) : w.before args s = true := C.2.2.2.2.2.1 w (List.mem_cons_of_mem _ hw)
theorem r_ldc (np : Nat) {i : Nat} (v : Int) (hd : decode M.2.1 pc = .ok (.ldc i, 2)) (hn : pc + 2 = np) (hw : Cond.constant M.1.cls i (Int32.ofInt v) ∈ ww) (hr : b32 v = true) (k : Rr l G d M Φ np ls (vI v :: st) h) : Rr l G d M Φ pc ls st h := by
  subst hn
  intro p e s m args below meth c H locs lc C hl hP hS hk
  refine lv_ldc C.1 C.2.1 C.2.2.2.2.1 (mc_w C hw) hd ?_
  exact k p e s m args below meth c H locs lc C hl hP hS ⟨hk.1, ok_c (b32_in hr) hk.2.1, hk.2.2⟩
theorem r_ldc2 (np : Nat) {i : Nat} (v : Int) (hd : decode M.2.1 pc = .ok (.ldc2_w i, 3)) (hn : pc + 3 = np) (hw : Cond.constantLong M.1.cls i (Int64.ofInt v) ∈ ww) (hr : b64 v = true) (k : Rr l G d M Φ np ls (vL v :: st) h) : Rr l G d M Φ pc ls st h := by
  subst hn
  intro p e s m args below meth c H locs lc C hl hP hS hk
  refine lv_ldc2 C.1 C.2.1 C.2.2.2.2.1 (mc_w C hw) hd ?_
  exact k p e s m args below meth c H locs lc C hl hP hS ⟨hk.1, ok_c (v := vL v) (b64_in hr) hk.2.1, hk.2.2⟩
/-- a String constant -/
theorem r_ldcS (np i : Nat) {ix : Nat} (hd : decode M.2.1 pc = .ok (.ldc ix, 2)) (hn : pc + 2 = np) (hi : i < 8) (hx : ix = 152 + 2 * i) (ho : M.1.cls = RX1) (k : Rr l G d M Φ np ls (vR (1000 + i) :: st) h) : Rr l G d M Φ pc ls st h := by
  subst hn hx
  intro p e s m args below meth c H locs lc C hl hP hS hk
  have hK := C.2.2.2.2.2.2.2.2.1.2.2.2.1 i hi
  rw [← ho] at hK
  refine va_ldcS C.1 C.2.1 C.2.2.2.2.1 hK hd ?_
  exact k p e s m args below meth c H locs lc C hl hP hS ⟨hk.1, ok_c (v := vR (1000 + i)) trivial hk.2.1, hk.2.2⟩
/-- the static row -/
theorem r_near (np : Nat) {ix : Nat} (hd : decode M.2.1 pc = .ok (.getstatic ix, 3)) (hn : pc + 3 = np) (hw : Cond.fieldLink M.1.cls ix RX3 "NEAREST_LEANS" "[I" ∈ ww) (k : Rr l G d M Φ np ls (vR 2000 :: st) h) : Rr l G d M Φ pc ls st h := by
  subst hn
  intro p e s m args below meth c H locs lc C hl hP hS hk
  have hK := C.2.2.2.2.2.2.2.2.1.1
  refine va_gets C.1 C.2.1 hK hS C.2.2.2.2.1 (mc_w C hw) (fun _ q => q) hd ?_
  exact k p e s m args below meth c H locs lc C hl hP hS ⟨hk.1, ok_c (v := vR 2000) trivial hk.2.1, hk.2.2⟩

theorem r_iload_n (np : Nat) {q : Fin 4} {x : Int} (hd : decode M.2.1 pc = .ok (.iload_n q, 1)) (hn : pc + 1 = np) (hx : ls[(q : Nat)]? = some (some (vI x))) (k : Rr l G d M Φ np ls (vI x :: st) h) : Rr l G d M Φ pc ls st h := by
  subst hn
  intro p e s m args below meth c H locs lc C hl hP hS hk
  refine lv_iload_n C.1 C.2.1 hd rfl (hl.2.2 _ _ hx) ?_
  exact k p e s m args below meth c H locs lc C hl hP hS ⟨hk.1, ok_c (v := vI x) (hk.1 _ (List.mem_of_getElem? hx)) hk.2.1, hk.2.2⟩
theorem r_iload (np : Nat) {q : Nat} {x : Int} (hd : decode M.2.1 pc = .ok (.iload q, 2)) (hn : pc + 2 = np) (hx : ls[q]? = some (some (vI x))) (k : Rr l G d M Φ np ls (vI x :: st) h) : Rr l G d M Φ pc ls st h := by
  subst hn
  intro p e s m args below meth c H locs lc C hl hP hS hk
  refine lv_iload C.1 C.2.1 hd (hl.2.2 _ _ hx) ?_
  exact k p e s m args below meth c H locs lc C hl hP hS ⟨hk.1, ok_c (v := vI x) (hk.1 _ (List.mem_of_getElem? hx)) hk.2.1, hk.2.2⟩
theorem r_lload_n (np : Nat) {q : Fin 4} {x : Int} (hd : decode M.2.1 pc = .ok (.lload_n q, 1)) (hn : pc + 1 = np) (hx : ls[(q : Nat)]? = some (some (vL x))) (k : Rr l G d M Φ np ls (vL x :: st) h) : Rr l G d M Φ pc ls st h := by
  subst hn
  intro p e s m args below meth c H locs lc C hl hP hS hk
  refine lv_lload_n C.1 C.2.1 hd rfl (hl.2.2 _ _ hx) ?_
  exact k p e s m args below meth c H locs lc C hl hP hS ⟨hk.1, ok_c (v := vL x) (hk.1 _ (List.mem_of_getElem? hx)) hk.2.1, hk.2.2⟩
theorem r_lload (np : Nat) {q : Nat} {x : Int} (hd : decode M.2.1 pc = .ok (.lload q, 2)) (hn : pc + 2 = np) (hx : ls[q]? = some (some (vL x))) (k : Rr l G d M Φ np ls (vL x :: st) h) : Rr l G d M Φ pc ls st h := by
  subst hn
  intro p e s m args below meth c H locs lc C hl hP hS hk
  refine lv_lload C.1 C.2.1 hd (hl.2.2 _ _ hx) ?_
  exact k p e s m args below meth c H locs lc C hl hP hS ⟨hk.1, ok_c (v := vL x) (hk.1 _ (List.mem_of_getElem? hx)) hk.2.1, hk.2.2⟩
theorem r_aload_n (np : Nat) {q : Fin 4} {x : Nat} (hd : decode M.2.1 pc = .ok (.aload_n q, 1)) (hn : pc + 1 = np) (hx : ls[(q : Nat)]? = some (some (vR x))) (k : Rr l G d M Φ np ls (vR x :: st) h) : Rr l G d M Φ pc ls st h := by
  subst hn
  intro p e s m args below meth c H locs lc C hl hP hS hk
  refine lv_aload_n C.1 C.2.1 hd rfl (hl.2.2 _ _ hx) ?_
  exact k p e s m args below meth c H locs lc C hl hP hS ⟨hk.1, ok_c (v := vR x) (hk.1 _ (List.mem_of_getElem? hx)) hk.2.1, hk.2.2⟩
theorem r_aload (np : Nat) {q : Nat} {x : Nat} (hd : decode M.2.1 pc = .ok (.aload q, 2)) (hn : pc + 2 = np) (hx : ls[q]? = some (some (vR x))) (k : Rr l G d M Φ np ls (vR x :: st) h) : Rr l G d M Φ pc ls st h := by
  subst hn
  intro p e s m args below meth c H locs lc C hl hP hS hk
  refine lv_aload C.1 C.2.1 hd (hl.2.2 _ _ hx) ?_
  exact k p e s m args below meth c H locs lc C hl hP hS ⟨hk.1, ok_c (v := vR x) (hk.1 _ (List.mem_of_getElem? hx)) hk.2.1, hk.2.2⟩
theorem r_istore_n (np : Nat) {q : Fin 4} {x : Int} (hd : decode M.2.1 pc = .ok (.istore_n q, 1)) (hn : pc + 1 = np) (hi : Nat.ble ((q : Nat) + 1) M.2.2.1 = true) (hq : noL ls (q : Nat) = true) (k : Rr l G d M Φ np (ls.set (q : Nat) (some (vI x))) st h) : Rr l G d M Φ pc ls (vI x :: st) h := by
  subst hn
  intro p e s m args below meth c H locs lc C hl hP hS hk
  refine lv_istore_n C.1 C.2.1 hd rfl hl.has (Nat.le_of_ble_eq_true hi) rfl (fun lc' hl' => ?_)
  exact k p e s m args below meth c H locs lc' C (hl.set1 (v := vI x) hq hl') hP hS ⟨ok_set hk.1 (ok_hd hk.2.1), ok_tl hk.2.1, hk.2.2⟩
theorem r_istore (np : Nat) {q : Nat} {x : Int} (hd : decode M.2.1 pc = .ok (.istore q, 2)) (hn : pc + 2 = np) (hi : Nat.ble (q + 1) M.2.2.1 = true) (hq : noL ls q = true) (k : Rr l G d M Φ np (ls.set q (some (vI x))) st h) : Rr l G d M Φ pc ls (vI x :: st) h := by
  subst hn
  intro p e s m args below meth c H locs lc C hl hP hS hk
  refine lv_istore C.1 C.2.1 hd hl.has (Nat.le_of_ble_eq_true hi) rfl (fun lc' hl' => ?_)
  exact k p e s m args below meth c H locs lc' C (hl.set1 (v := vI x) hq hl') hP hS ⟨ok_set hk.1 (ok_hd hk.2.1), ok_tl hk.2.1, hk.2.2⟩
theorem r_astore_n (np : Nat) {q : Fin 4} {x : Nat} (hd : decode M.2.1 pc = .ok (.astore_n q, 1)) (hn : pc + 1 = np) (hi : Nat.ble ((q : Nat) + 1) M.2.2.1 = true) (hq : noL ls (q : Nat) = true) (k : Rr l G d M Φ np (ls.set (q : Nat) (some (vR x))) st h) : Rr l G d M Φ pc ls (vR x :: st) h := by
  subst hn
  intro p e s m args below meth c H locs lc C hl hP hS hk
  refine lv_astore_n C.1 C.2.1 hd rfl hl.has (Nat.le_of_ble_eq_true hi) rfl (fun lc' hl' => ?_)
  exact k p e s m args below meth c H locs lc' C (hl.set1 (v := vR x) hq hl') hP hS ⟨ok_set hk.1 (ok_hd hk.2.1), ok_tl hk.2.1, hk.2.2⟩
theorem r_astore (np : Nat) {q : Nat} {x : Nat} (hd : decode M.2.1 pc = .ok (.astore q, 2)) (hn : pc + 2 = np) (hi : Nat.ble (q + 1) M.2.2.1 = true) (hq : noL ls q = true) (k : Rr l G d M Φ np (ls.set q (some (vR x))) st h) : Rr l G d M Φ pc ls (vR x :: st) h := by
  subst hn
  intro p e s m args below meth c H locs lc C hl hP hS hk
  refine lv_astore C.1 C.2.1 hd hl.has (Nat.le_of_ble_eq_true hi) rfl (fun lc' hl' => ?_)
  exact k p e s m args below meth c H locs lc' C (hl.set1 (v := vR x) hq hl') hP hS ⟨ok_set hk.1 (ok_hd hk.2.1), ok_tl hk.2.1, hk.2.2⟩
theorem r_lstore_n (np : Nat) {q : Fin 4} {x : Int} (hd : decode M.2.1 pc = .ok (.lstore_n q, 1)) (hn : pc + 1 = np) (hi : Nat.ble ((q : Nat) + 2) M.2.2.1 = true) (hq : noL ls (q : Nat) = true) (k : Rr l G d M Φ np ((ls.set (q : Nat) (some (vL x))).set ((q : Nat) + 1) none) st h) : Rr l G d M Φ pc ls (vL x :: st) h := by
  subst hn
  intro p e s m args below meth c H locs lc C hl hP hS hk
  refine lv_lstore_n C.1 C.2.1 hd rfl hl.has (Nat.le_of_ble_eq_true hi) rfl (fun lc' hl' => ?_)
  exact k p e s m args below meth c H locs lc' C (hl.set2 (v := vL x) hq hl') hP hS ⟨ok_setn (ok_set hk.1 (ok_hd hk.2.1)), ok_tl hk.2.1, hk.2.2⟩
theorem r_lstore (np : Nat) {q : Nat} {x : Int} (hd : decode M.2.1 pc = .ok (.lstore q, 2)) (hn : pc + 2 = np) (hi : Nat.ble (q + 2) M.2.2.1 = true) (hq : noL ls q = true) (k : Rr l G d M Φ np ((ls.set q (some (vL x))).set (q + 1) none) st h) : Rr l G d M Φ pc ls (vL x :: st) h := by
  subst hn
  intro p e s m args below meth c H locs lc C hl hP hS hk
  refine lv_lstore C.1 C.2.1 hd hl.has (Nat.le_of_ble_eq_true hi) rfl (fun lc' hl' => ?_)
  exact k p e s m args below meth c H locs lc' C (hl.set2 (v := vL x) hq hl') hP hS ⟨ok_setn (ok_set hk.1 (ok_hd hk.2.1)), ok_tl hk.2.1, hk.2.2⟩
theorem r_iinc (np : Nat) {q : Nat} {n x : Int} (v : Int) (hd : decode M.2.1 pc = .ok (.iinc q n, 3)) (hn : pc + 3 = np) (hi : Nat.ble (q + 1) M.2.2.1 = true) (hx : ls[q]? = some (some (vI x))) (hq : noL ls q = true) (hv : w32 (x + n) = v) (k : Rr l G d M Φ np (ls.set q (some (vI v))) st h) : Rr l G d M Φ pc ls st h := by
  subst hn hv
  intro p e s m args below meth c H locs lc C hl hP hS hk
  obtain ⟨k1, hk1⟩ := List.getElem?_of_mem (pl_mem (G := G) (hl.lt hx) hx)
  have ev : Int32.ofInt x + Int32.ofInt n = Int32.ofInt (w32 (x + n)) := by rw [w32_o, Int32.ofInt_add]
  refine lv_iinc C.1 C.2.1 hd hl.has hk1 ev (Nat.le_of_ble_eq_true hi) rfl (fun lc' hl' => ?_)
  exact k p e s m args below meth c H locs lc' C (hl.set1 (v := vI (w32 (x + n))) hq hl') hP hS ⟨ok_set hk.1 (w32_in _), hk.2.1, hk.2.2⟩
theorem r_iadd (np : Nat) {x y : Int} {v : Int} (hd : decode M.2.1 pc = .ok (.iadd, 1)) (hn : pc + 1 = np) (hv : w32 (x + y) = v) (k : Rr l G d M Φ np ls (vI v :: st) h) : Rr l G d M Φ pc ls (vI y :: vI x :: st) h := by
  subst hn hv
  intro p e s m args below meth c H locs lc C hl hP hS hk
  have ev : Int32.ofInt x + Int32.ofInt y = Int32.ofInt (w32 (x + y)) := by rw [w32_o, Int32.ofInt_add]
  refine lv_iadd C.1 C.2.1 hd ?_
  rw [ev]
  exact k p e s m args below meth c H locs lc C hl hP hS ⟨hk.1, ok_c (v := vI _) (w32_in _) (ok_tl (ok_tl hk.2.1)), hk.2.2⟩
theorem r_isub (np : Nat) {x y : Int} {v : Int} (hd : decode M.2.1 pc = .ok (.isub, 1)) (hn : pc + 1 = np) (hv : w32 (x - y) = v) (k : Rr l G d M Φ np ls (vI v :: st) h) : Rr l G d M Φ pc ls (vI y :: vI x :: st) h := by
  subst hn hv
  intro p e s m args below meth c H locs lc C hl hP hS hk
  have ev : Int32.ofInt x - Int32.ofInt y = Int32.ofInt (w32 (x - y)) := by rw [w32_o, Int32.ofInt_sub]
  refine lv_isub C.1 C.2.1 hd ?_
  rw [ev]
  exact k p e s m args below meth c H locs lc C hl hP hS ⟨hk.1, ok_c (v := vI _) (w32_in _) (ok_tl (ok_tl hk.2.1)), hk.2.2⟩
theorem r_imul (np : Nat) {x y : Int} {v : Int} (hd : decode M.2.1 pc = .ok (.imul, 1)) (hn : pc + 1 = np) (hv : w32 (x * y) = v) (k : Rr l G d M Φ np ls (vI v :: st) h) : Rr l G d M Φ pc ls (vI y :: vI x :: st) h := by
  subst hn hv
  intro p e s m args below meth c H locs lc C hl hP hS hk
  have ev : Int32.ofInt x * Int32.ofInt y = Int32.ofInt (w32 (x * y)) := by rw [w32_o, Int32.ofInt_mul]
  refine lv_imul C.1 C.2.1 hd ?_
  rw [ev]
  exact k p e s m args below meth c H locs lc C hl hP hS ⟨hk.1, ok_c (v := vI _) (w32_in _) (ok_tl (ok_tl hk.2.1)), hk.2.2⟩
def z_iand (x y : Int) : Int := (Int32.ofInt x &&& Int32.ofInt y).toInt
theorem r_iand (np : Nat) {x y : Int} {v : Int} (hd : decode M.2.1 pc = .ok (.iand, 1)) (hn : pc + 1 = np) (hv : z_iand x y = v) (k : Rr l G d M Φ np ls (vI v :: st) h) : Rr l G d M Φ pc ls (vI y :: vI x :: st) h := by
  subst hn hv
  intro p e s m args below meth c H locs lc C hl hP hS hk
  have ev : Int32.ofInt x &&& Int32.ofInt y = Int32.ofInt (z_iand x y) := by rw [z_iand, Int32.ofInt_toInt]
  refine lv_iand C.1 C.2.1 hd ?_
  rw [ev]
  exact k p e s m args below meth c H locs lc C hl hP hS ⟨hk.1, ok_c (v := vI _) ⟨by have := Int32.le_toInt (Int32.ofInt x &&& Int32.ofInt y); unfold z_iand; omega, by have := Int32.toInt_lt (Int32.ofInt x &&& Int32.ofInt y); unfold z_iand; omega⟩ (ok_tl (ok_tl hk.2.1)), hk.2.2⟩
def z_ior (x y : Int) : Int := (Int32.ofInt x ||| Int32.ofInt y).toInt
theorem r_ior (np : Nat) {x y : Int} {v : Int} (hd : decode M.2.1 pc = .ok (.ior, 1)) (hn : pc + 1 = np) (hv : z_ior x y = v) (k : Rr l G d M Φ np ls (vI v :: st) h) : Rr l G d M Φ pc ls (vI y :: vI x :: st) h := by
  subst hn hv
  intro p e s m args below meth c H locs lc C hl hP hS hk
  have ev : Int32.ofInt x ||| Int32.ofInt y = Int32.ofInt (z_ior x y) := by rw [z_ior, Int32.ofInt_toInt]
  refine lv_ior C.1 C.2.1 hd ?_
  rw [ev]
  exact k p e s m args below meth c H locs lc C hl hP hS ⟨hk.1, ok_c (v := vI _) ⟨by have := Int32.le_toInt (Int32.ofInt x ||| Int32.ofInt y); unfold z_ior; omega, by have := Int32.toInt_lt (Int32.ofInt x ||| Int32.ofInt y); unfold z_ior; omega⟩ (ok_tl (ok_tl hk.2.1)), hk.2.2⟩
def z_ixor (x y : Int) : Int := (Int32.ofInt x ^^^ Int32.ofInt y).toInt
theorem r_ixor (np : Nat) {x y : Int} {v : Int} (hd : decode M.2.1 pc = .ok (.ixor, 1)) (hn : pc + 1 = np) (hv : z_ixor x y = v) (k : Rr l G d M Φ np ls (vI v :: st) h) : Rr l G d M Φ pc ls (vI y :: vI x :: st) h := by
  subst hn hv
  intro p e s m args below meth c H locs lc C hl hP hS hk
  have ev : Int32.ofInt x ^^^ Int32.ofInt y = Int32.ofInt (z_ixor x y) := by rw [z_ixor, Int32.ofInt_toInt]
  refine lv_ixor C.1 C.2.1 hd ?_
  rw [ev]
  exact k p e s m args below meth c H locs lc C hl hP hS ⟨hk.1, ok_c (v := vI _) ⟨by have := Int32.le_toInt (Int32.ofInt x ^^^ Int32.ofInt y); unfold z_ixor; omega, by have := Int32.toInt_lt (Int32.ofInt x ^^^ Int32.ofInt y); unfold z_ixor; omega⟩ (ok_tl (ok_tl hk.2.1)), hk.2.2⟩
def z_ishl (x y : Int) : Int := (Int32.ofInt x <<< (Int32.ofInt y &&& 31)).toInt
theorem r_ishl (np : Nat) {x y : Int} {v : Int} (hd : decode M.2.1 pc = .ok (.ishl, 1)) (hn : pc + 1 = np) (hv : z_ishl x y = v) (k : Rr l G d M Φ np ls (vI v :: st) h) : Rr l G d M Φ pc ls (vI y :: vI x :: st) h := by
  subst hn hv
  intro p e s m args below meth c H locs lc C hl hP hS hk
  have ev : (Int32.ofInt x <<< (Int32.ofInt y &&& 31)) = Int32.ofInt (z_ishl x y) := by rw [z_ishl, Int32.ofInt_toInt]
  refine lv_ishl C.1 C.2.1 hd ?_
  rw [ev]
  exact k p e s m args below meth c H locs lc C hl hP hS ⟨hk.1, ok_c (v := vI _) ⟨by have := Int32.le_toInt (Int32.ofInt x <<< (Int32.ofInt y &&& 31)); unfold z_ishl; omega, by have := Int32.toInt_lt (Int32.ofInt x <<< (Int32.ofInt y &&& 31)); unfold z_ishl; omega⟩ (ok_tl (ok_tl hk.2.1)), hk.2.2⟩
def z_ishr (x y : Int) : Int := (Int32.ofInt x >>> (Int32.ofInt y &&& 31)).toInt
theorem r_ishr (np : Nat) {x y : Int} {v : Int} (hd : decode M.2.1 pc = .ok (.ishr, 1)) (hn : pc + 1 = np) (hv : z_ishr x y = v) (k : Rr l G d M Φ np ls (vI v :: st) h) : Rr l G d M Φ pc ls (vI y :: vI x :: st) h := by
  subst hn hv
  intro p e s m args below meth c H locs lc C hl hP hS hk
  have ev : (Int32.ofInt x >>> (Int32.ofInt y &&& 31)) = Int32.ofInt (z_ishr x y) := by rw [z_ishr, Int32.ofInt_toInt]
  refine lv_ishr C.1 C.2.1 hd ?_
  rw [ev]
  exact k p e s m args below meth c H locs lc C hl hP hS ⟨hk.1, ok_c (v := vI _) ⟨by have := Int32.le_toInt (Int32.ofInt x >>> (Int32.ofInt y &&& 31)); unfold z_ishr; omega, by have := Int32.toInt_lt (Int32.ofInt x >>> (Int32.ofInt y &&& 31)); unfold z_ishr; omega⟩ (ok_tl (ok_tl hk.2.1)), hk.2.2⟩
theorem z_div {x y : Int} (hx : in32 x) (hy : in32 y) (h0 : 0 ≤ x) (h1 : 0 < y) : Int32.ofInt x / Int32.ofInt y = Int32.ofInt (x / y) := by
  have hne : Int32.ofInt y ≠ -1 := by
    intro q
    have : (Int32.ofInt y).toInt = (-1 : Int32).toInt := by rw [q]
    rw [i32_t hy] at this
    have e : (-1 : Int32).toInt = -1 := by decide
    omega
  apply Int32.toInt_inj.mp
  have hq : x / y ≤ x := Int.ediv_le_self _ h0
  have hq0 : 0 ≤ x / y := Int.ediv_nonneg h0 (by omega)
  rw [Int32.toInt_div_of_ne_right _ _ hne, i32_t hx, i32_t hy, i32_t ⟨by have := hx.1; omega, by have := hx.2; omega⟩, Int.tdiv_eq_ediv_of_nonneg h0]
theorem r_idiv (np : Nat) {x y : Int} (hd : decode M.2.1 pc = .ok (.idiv, 1)) (hn : pc + 1 = np) (h0 : 0 ≤ x) (h1 : 0 < y) (k : Rr l G d M Φ np ls (vI (x / y) :: st) h) : Rr l G d M Φ pc ls (vI y :: vI x :: st) h := by
  subst hn
  intro p e s m args below meth c H locs lc C hl hP hS hk
  have hy : in32 y := ok_hd hk.2.1
  have hx : in32 x := ok_hd (ok_tl hk.2.1)
  refine lv_idiv C.1 C.2.1 hd (fun q => ?_) ?_
  · rw [i32_0] at q
    have := (i32_eq hy in32_0).mp q
    omega
  · rw [z_div hx hy h0 h1]
    have hq : x / y ≤ x := Int.ediv_le_self _ h0
    have hq0 : 0 ≤ x / y := Int.ediv_nonneg h0 (by omega)
    exact k p e s m args below meth c H locs lc C hl hP hS ⟨hk.1, ok_c (v := vI _) ⟨by omega, by have := hx.2; omega⟩ (ok_tl (ok_tl hk.2.1)), hk.2.2⟩
theorem r_irem (np : Nat) {x y : Int} (hd : decode M.2.1 pc = .ok (.irem, 1)) (hn : pc + 1 = np) (h0 : 0 ≤ x) (h1 : 0 < y) (k : Rr l G d M Φ np ls (vI (x % y) :: st) h) : Rr l G d M Φ pc ls (vI y :: vI x :: st) h := by
  subst hn
  intro p e s m args below meth c H locs lc C hl hP hS hk
  have hy : in32 y := ok_hd hk.2.1
  have hx : in32 x := ok_hd (ok_tl hk.2.1)
  refine lv_irem C.1 C.2.1 hd (fun q => ?_) ?_
  · rw [i32_0] at q
    have := (i32_eq hy in32_0).mp q
    omega
  · have e1 : Int32.ofInt x - Int32.ofInt x / Int32.ofInt y * Int32.ofInt y = Int32.ofInt (x % y) := by
      rw [z_div hx hy h0 h1, ← Int32.ofInt_mul, ← Int32.ofInt_sub]
      congr 1
      have := Int.mul_ediv_add_emod x y
      rw [Int.mul_comm] at this
      omega
    rw [e1]
    have hq : x % y < y := Int.emod_lt_of_pos _ h1
    have hq0 : 0 ≤ x % y := Int.emod_nonneg _ (by omega)
    exact k p e s m args below meth c H locs lc C hl hP hS ⟨hk.1, ok_c (v := vI _) ⟨by omega, by have := hy.2; omega⟩ (ok_tl (ok_tl hk.2.1)), hk.2.2⟩
theorem r_i2b (np : Nat) {x : Int} (v : Int) (hd : decode M.2.1 pc = .ok (.i2b, 1)) (hn : pc + 1 = np) (hv : (Int32.ofInt x).toInt8.toInt = v) (k : Rr l G d M Φ np ls (vI v :: st) h) : Rr l G d M Φ pc ls (vI x :: st) h := by
  subst hn hv
  intro p e s m args below meth c H locs lc C hl hP hS hk
  have ev : (Int32.ofInt x).toInt8.toInt32 = Int32.ofInt ((Int32.ofInt x).toInt8.toInt) := by
    apply Int32.toInt_inj.mp
    have h1 := Int8.le_toInt (Int32.ofInt x).toInt8
    have h2 := Int8.toInt_lt (Int32.ofInt x).toInt8
    rw [i32_t ⟨by omega, by omega⟩, Int8.toInt_toInt32]
  refine lv_i2b C.1 C.2.1 hd ev ?_
  have h1 := Int8.le_toInt (Int32.ofInt x).toInt8
  have h2 := Int8.toInt_lt (Int32.ofInt x).toInt8
  exact k p e s m args below meth c H locs lc C hl hP hS ⟨hk.1, ok_c (v := vI _) ⟨by omega, by omega⟩ (ok_tl hk.2.1), hk.2.2⟩
theorem r_i2s (np : Nat) {x : Int} (v : Int) (hd : decode M.2.1 pc = .ok (.i2s, 1)) (hn : pc + 1 = np) (hv : (Int32.ofInt x).toInt16.toInt = v) (k : Rr l G d M Φ np ls (vI v :: st) h) : Rr l G d M Φ pc ls (vI x :: st) h := by
  subst hn hv
  intro p e s m args below meth c H locs lc C hl hP hS hk
  have ev : (Int32.ofInt x).toInt16.toInt32 = Int32.ofInt ((Int32.ofInt x).toInt16.toInt) := by
    apply Int32.toInt_inj.mp
    have h1 := Int16.le_toInt (Int32.ofInt x).toInt16
    have h2 := Int16.toInt_lt (Int32.ofInt x).toInt16
    rw [i32_t ⟨by omega, by omega⟩, Int16.toInt_toInt32]
  refine lv_i2s C.1 C.2.1 hd ev ?_
  have h1 := Int16.le_toInt (Int32.ofInt x).toInt16
  have h2 := Int16.toInt_lt (Int32.ofInt x).toInt16
  exact k p e s m args below meth c H locs lc C hl hP hS ⟨hk.1, ok_c (v := vI _) ⟨by omega, by omega⟩ (ok_tl hk.2.1), hk.2.2⟩
theorem r_i2l (np : Nat) {x : Int} (hd : decode M.2.1 pc = .ok (.i2l, 1)) (hn : pc + 1 = np) (k : Rr l G d M Φ np ls (vL x :: st) h) : Rr l G d M Φ pc ls (vI x :: st) h := by
  subst hn
  intro p e s m args below meth c H locs lc C hl hP hS hk
  have hx : in32 x := ok_hd hk.2.1
  have h64 : in64 x := ⟨by have := hx.1; omega, by have := hx.2; omega⟩
  have ev : (Int32.ofInt x).toInt64 = Int64.ofInt x := by
    apply Int64.toInt_inj.mp
    rw [i64_t h64, Int32.toInt_toInt64, i32_t hx]
  refine lv_i2l C.1 C.2.1 hd ev ?_
  exact k p e s m args below meth c H locs lc C hl hP hS ⟨hk.1, ok_c (v := vL x) h64 (ok_tl hk.2.1), hk.2.2⟩
theorem r_ladd (np : Nat) {x y : Int} {v : Int} (hd : decode M.2.1 pc = .ok (.ladd, 1)) (hn : pc + 1 = np) (hv : w64 (x + y) = v) (k : Rr l G d M Φ np ls (vL v :: st) h) : Rr l G d M Φ pc ls (vL y :: vL x :: st) h := by
  subst hn hv
  intro p e s m args below meth c H locs lc C hl hP hS hk
  have ev : Int64.ofInt x + Int64.ofInt y = Int64.ofInt (w64 (x + y)) := by rw [w64_o, Int64.ofInt_add]
  refine lv_ladd C.1 C.2.1 hd ?_
  rw [ev]
  exact k p e s m args below meth c H locs lc C hl hP hS ⟨hk.1, ok_c (v := vL _) (w64_in _) (ok_tl (ok_tl hk.2.1)), hk.2.2⟩
theorem r_lsub (np : Nat) {x y : Int} {v : Int} (hd : decode M.2.1 pc = .ok (.lsub, 1)) (hn : pc + 1 = np) (hv : w64 (x - y) = v) (k : Rr l G d M Φ np ls (vL v :: st) h) : Rr l G d M Φ pc ls (vL y :: vL x :: st) h := by
  subst hn hv
  intro p e s m args below meth c H locs lc C hl hP hS hk
  have ev : Int64.ofInt x - Int64.ofInt y = Int64.ofInt (w64 (x - y)) := by rw [w64_o, Int64.ofInt_sub]
  refine lv_lsub C.1 C.2.1 hd ?_
  rw [ev]
  exact k p e s m args below meth c H locs lc C hl hP hS ⟨hk.1, ok_c (v := vL _) (w64_in _) (ok_tl (ok_tl hk.2.1)), hk.2.2⟩
theorem r_lmul (np : Nat) {x y : Int} {v : Int} (hd : decode M.2.1 pc = .ok (.lmul, 1)) (hn : pc + 1 = np) (hv : w64 (x * y) = v) (k : Rr l G d M Φ np ls (vL v :: st) h) : Rr l G d M Φ pc ls (vL y :: vL x :: st) h := by
  subst hn hv
  intro p e s m args below meth c H locs lc C hl hP hS hk
  have ev : Int64.ofInt x * Int64.ofInt y = Int64.ofInt (w64 (x * y)) := by rw [w64_o, Int64.ofInt_mul]
  refine lv_lmul C.1 C.2.1 hd ?_
  rw [ev]
  exact k p e s m args below meth c H locs lc C hl hP hS ⟨hk.1, ok_c (v := vL _) (w64_in _) (ok_tl (ok_tl hk.2.1)), hk.2.2⟩
theorem z_ldiv {x y : Int} (hx : in64 x) (hy : in64 y) (h0 : 0 ≤ x) (h1 : 0 < y) : Int64.ofInt x / Int64.ofInt y = Int64.ofInt (x / y) := by
  have hne : Int64.ofInt y ≠ -1 := by
    intro q
    have : (Int64.ofInt y).toInt = (-1 : Int64).toInt := by rw [q]
    rw [i64_t hy] at this
    have e : (-1 : Int64).toInt = -1 := by decide
    omega
  apply Int64.toInt_inj.mp
  have hq : x / y ≤ x := Int.ediv_le_self _ h0
  have hq0 : 0 ≤ x / y := Int.ediv_nonneg h0 (by omega)
  rw [Int64.toInt_div_of_ne_right _ _ hne, i64_t hx, i64_t hy, i64_t ⟨by have := hx.1; omega, by have := hx.2; omega⟩, Int.tdiv_eq_ediv_of_nonneg h0]
theorem i64_0 : (0 : Int64) = Int64.ofInt 0 := by decide
theorem in64_0 : in64 0 := ⟨by decide, by decide⟩
theorem r_ldiv (np : Nat) {x y : Int} (hd : decode M.2.1 pc = .ok (.ldiv, 1)) (hn : pc + 1 = np) (h0 : 0 ≤ x) (h1 : 0 < y) (k : Rr l G d M Φ np ls (vL (x / y) :: st) h) : Rr l G d M Φ pc ls (vL y :: vL x :: st) h := by
  subst hn
  intro p e s m args below meth c H locs lc C hl hP hS hk
  have hy : in64 y := ok_hd hk.2.1
  have hx : in64 x := ok_hd (ok_tl hk.2.1)
  refine lv_ldiv C.1 C.2.1 hd (fun q => ?_) ?_
  · rw [i64_0] at q
    have := (i64_eq hy in64_0).mp q
    omega
  · rw [z_ldiv hx hy h0 h1]
    have hq : x / y ≤ x := Int.ediv_le_self _ h0
    have hq0 : 0 ≤ x / y := Int.ediv_nonneg h0 (by omega)
    exact k p e s m args below meth c H locs lc C hl hP hS ⟨hk.1, ok_c (v := vL _) ⟨by omega, by have := hx.2; omega⟩ (ok_tl (ok_tl hk.2.1)), hk.2.2⟩
theorem r_lrem (np : Nat) {x y : Int} (hd : decode M.2.1 pc = .ok (.lrem, 1)) (hn : pc + 1 = np) (h0 : 0 ≤ x) (h1 : 0 < y) (k : Rr l G d M Φ np ls (vL (x % y) :: st) h) : Rr l G d M Φ pc ls (vL y :: vL x :: st) h := by
  subst hn
  intro p e s m args below meth c H locs lc C hl hP hS hk
  have hy : in64 y := ok_hd hk.2.1
  have hx : in64 x := ok_hd (ok_tl hk.2.1)
  refine lv_lrem C.1 C.2.1 hd (fun q => ?_) ?_
  · rw [i64_0] at q
    have := (i64_eq hy in64_0).mp q
    omega
  · have e1 : Int64.ofInt x - Int64.ofInt x / Int64.ofInt y * Int64.ofInt y = Int64.ofInt (x % y) := by
      rw [z_ldiv hx hy h0 h1, ← Int64.ofInt_mul, ← Int64.ofInt_sub]
      congr 1
      have := Int.mul_ediv_add_emod x y
      rw [Int.mul_comm] at this
      omega
    rw [e1]
    have hq : x % y < y := Int.emod_lt_of_pos _ h1
    have hq0 : 0 ≤ x % y := Int.emod_nonneg _ (by omega)
    exact k p e s m args below meth c H locs lc C hl hP hS ⟨hk.1, ok_c (v := vL _) ⟨by omega, by have := hy.2; omega⟩ (ok_tl (ok_tl hk.2.1)), hk.2.2⟩
def z_lcmp (x y : Int) : Int := if y < x then 1 else if x = y then 0 else -1
theorem r_lcmp (np : Nat) {x y : Int} (hd : decode M.2.1 pc = .ok (.lcmp, 1)) (hn : pc + 1 = np) (k : Rr l G d M Φ np ls (vI (z_lcmp x y) :: st) h) : Rr l G d M Φ pc ls (vL y :: vL x :: st) h := by
  subst hn
  intro p e s m args below meth c H locs lc C hl hP hS hk
  have hy : in64 y := ok_hd hk.2.1
  have hx : in64 x := ok_hd (ok_tl hk.2.1)
  have ev : lg_cmp (Int64.ofInt x) (Int64.ofInt y) = Int32.ofInt (z_lcmp x y) := by
    unfold lg_cmp z_lcmp
    simp only [gt_iff_lt, i64_lt hy hx, i64_eq hx hy]
    split
    · decide
    · split <;> decide
  refine W.lcmp C.1 C.2.1 hd ?_
  rw [ev]
  exact k p e s m args below meth c H locs lc C hl hP hS ⟨hk.1, ok_c (v := vI _) (by unfold z_lcmp; split; exact ⟨by decide, by decide⟩; split <;> exact ⟨by decide, by decide⟩) (ok_tl (ok_tl hk.2.1)), hk.2.2⟩
theorem r_dup (np : Nat) {v : zV} (hd : decode M.2.1 pc = .ok (.dup, 1)) (hn : pc + 1 = np) (hc : (cv G v).category = 1) (k : Rr l G d M Φ np ls (v :: v :: st) h) : Rr l G d M Φ pc ls (v :: st) h := by
  subst hn
  intro p e s m args below meth c H locs lc C hl hP hS hk
  refine lv_dup C.1 C.2.1 hd hc ?_
  exact k p e s m args below meth c H locs lc C hl hP hS ⟨hk.1, ok_c (ok_hd hk.2.1) hk.2.1, hk.2.2⟩
theorem r_dup2 (np : Nat) {v w : zV} (hd : decode M.2.1 pc = .ok (.dup2, 1)) (hn : pc + 1 = np) (hc : (cv G v).category = 1) (hc2 : (cv G w).category = 1) (k : Rr l G d M Φ np ls (v :: w :: v :: w :: st) h) : Rr l G d M Φ pc ls (v :: w :: st) h := by
  subst hn
  intro p e s m args below meth c H locs lc C hl hP hS hk
  refine lv_dup2_11 C.1 C.2.1 hd hc hc2 ?_
  exact k p e s m args below meth c H locs lc C hl hP hS ⟨hk.1, ok_c (ok_hd hk.2.1) (ok_c (ok_hd (ok_tl hk.2.1)) hk.2.1), hk.2.2⟩
theorem r_pop (np : Nat) {v : zV} (hd : decode M.2.1 pc = .ok (.pop, 1)) (hn : pc + 1 = np) (hc : (cv G v).category = 1) (k : Rr l G d M Φ np ls st h) : Rr l G d M Φ pc ls (v :: st) h := by
  subst hn
  intro p e s m args below meth c H locs lc C hl hP hS hk
  refine lv_pop C.1 C.2.1 hd hc ?_
  exact k p e s m args below meth c H locs lc C hl hP hS ⟨hk.1, ok_tl hk.2.1, hk.2.2⟩
theorem r_goto {off : Int} (tgt : Nat) (hd : decode M.2.1 pc = .ok (.goto off, 3)) (ht : (pc : Int) + off = (tgt : Int)) (k : Rr l G d M Φ tgt ls st h) : Rr l G d M Φ pc ls st h := by
  intro p e s m args below meth c H locs lc C hl hP hS hk
  refine lv_goto C.1 C.2.1 hd ht ?_
  exact k p e s m args below meth c H locs lc C hl hP hS hk
theorem r_icmp_eq (tgt np : Nat) {x y off : Int} (hd : decode M.2.1 pc = .ok (.if_icmp .eq off, 3)) (ht : (pc : Int) + off = (tgt : Int)) (hn : pc + 3 = np) (kt : x = y → Rr l G d M Φ tgt ls st h) (kf : ¬ x = y → Rr l G d M Φ np ls st h) : Rr l G d M Φ pc ls (vI y :: vI x :: st) h := by
  subst hn
  intro p e s m args below meth c H locs lc C hl hP hS hk
  have hy : in32 y := ok_hd hk.2.1
  have hx : in32 x := ok_hd (ok_tl hk.2.1)
  refine lv_icmp_eq C.1 C.2.1 hd ht (fun q => ?_) (fun q => ?_)
  · exact kt ((i32_eq hx hy).mp q) p e s m args below meth c H locs lc C hl hP hS ⟨hk.1, ok_tl (ok_tl hk.2.1), hk.2.2⟩
  · exact kf (fun z => q ((i32_eq hx hy).mpr z)) p e s m args below meth c H locs lc C hl hP hS ⟨hk.1, ok_tl (ok_tl hk.2.1), hk.2.2⟩
theorem r_icmp_ne (tgt np : Nat) {x y off : Int} (hd : decode M.2.1 pc = .ok (.if_icmp .ne off, 3)) (ht : (pc : Int) + off = (tgt : Int)) (hn : pc + 3 = np) (kt : ¬ x = y → Rr l G d M Φ tgt ls st h) (kf : x = y → Rr l G d M Φ np ls st h) : Rr l G d M Φ pc ls (vI y :: vI x :: st) h := by
  subst hn
  intro p e s m args below meth c H locs lc C hl hP hS hk
  have hy : in32 y := ok_hd hk.2.1
  have hx : in32 x := ok_hd (ok_tl hk.2.1)
  refine lv_icmp_ne C.1 C.2.1 hd ht (fun q => ?_) (fun q => ?_)
  · exact kt (fun z => q ((i32_eq hx hy).mpr z)) p e s m args below meth c H locs lc C hl hP hS ⟨hk.1, ok_tl (ok_tl hk.2.1), hk.2.2⟩
  · exact kf ((i32_eq hx hy).mp q) p e s m args below meth c H locs lc C hl hP hS ⟨hk.1, ok_tl (ok_tl hk.2.1), hk.2.2⟩
theorem r_icmp_lt (tgt np : Nat) {x y off : Int} (hd : decode M.2.1 pc = .ok (.if_icmp .lt off, 3)) (ht : (pc : Int) + off = (tgt : Int)) (hn : pc + 3 = np) (kt : x < y → Rr l G d M Φ tgt ls st h) (kf : y ≤ x → Rr l G d M Φ np ls st h) : Rr l G d M Φ pc ls (vI y :: vI x :: st) h := by
  subst hn
  intro p e s m args below meth c H locs lc C hl hP hS hk
  have hy : in32 y := ok_hd hk.2.1
  have hx : in32 x := ok_hd (ok_tl hk.2.1)
  refine lv_icmp_lt C.1 C.2.1 hd ht (fun q => ?_) (fun q => ?_)
  · exact kt ((i32_lt hx hy).mp q) p e s m args below meth c H locs lc C hl hP hS ⟨hk.1, ok_tl (ok_tl hk.2.1), hk.2.2⟩
  · exact kf (Int.not_lt.mp (fun z => q ((i32_lt hx hy).mpr z))) p e s m args below meth c H locs lc C hl hP hS ⟨hk.1, ok_tl (ok_tl hk.2.1), hk.2.2⟩
theorem r_icmp_ge (tgt np : Nat) {x y off : Int} (hd : decode M.2.1 pc = .ok (.if_icmp .ge off, 3)) (ht : (pc : Int) + off = (tgt : Int)) (hn : pc + 3 = np) (kt : y ≤ x → Rr l G d M Φ tgt ls st h) (kf : x < y → Rr l G d M Φ np ls st h) : Rr l G d M Φ pc ls (vI y :: vI x :: st) h := by
  subst hn
  intro p e s m args below meth c H locs lc C hl hP hS hk
  have hy : in32 y := ok_hd hk.2.1
  have hx : in32 x := ok_hd (ok_tl hk.2.1)
  refine lv_icmp_ge C.1 C.2.1 hd ht (fun q => ?_) (fun q => ?_)
  · exact kt ((i32_le hy hx).mp q) p e s m args below meth c H locs lc C hl hP hS ⟨hk.1, ok_tl (ok_tl hk.2.1), hk.2.2⟩
  · exact kf (Int.not_le.mp (fun z => q ((i32_le hy hx).mpr z))) p e s m args below meth c H locs lc C hl hP hS ⟨hk.1, ok_tl (ok_tl hk.2.1), hk.2.2⟩
theorem r_icmp_gt (tgt np : Nat) {x y off : Int} (hd : decode M.2.1 pc = .ok (.if_icmp .gt off, 3)) (ht : (pc : Int) + off = (tgt : Int)) (hn : pc + 3 = np) (kt : y < x → Rr l G d M Φ tgt ls st h) (kf : x ≤ y → Rr l G d M Φ np ls st h) : Rr l G d M Φ pc ls (vI y :: vI x :: st) h := by
  subst hn
  intro p e s m args below meth c H locs lc C hl hP hS hk
  have hy : in32 y := ok_hd hk.2.1
  have hx : in32 x := ok_hd (ok_tl hk.2.1)
  refine lv_icmp_gt C.1 C.2.1 hd ht (fun q => ?_) (fun q => ?_)
  · exact kt ((i32_lt hy hx).mp q) p e s m args below meth c H locs lc C hl hP hS ⟨hk.1, ok_tl (ok_tl hk.2.1), hk.2.2⟩
  · exact kf (Int.not_lt.mp (fun z => q ((i32_lt hy hx).mpr z))) p e s m args below meth c H locs lc C hl hP hS ⟨hk.1, ok_tl (ok_tl hk.2.1), hk.2.2⟩
theorem r_icmp_le (tgt np : Nat) {x y off : Int} (hd : decode M.2.1 pc = .ok (.if_icmp .le off, 3)) (ht : (pc : Int) + off = (tgt : Int)) (hn : pc + 3 = np) (kt : x ≤ y → Rr l G d M Φ tgt ls st h) (kf : y < x → Rr l G d M Φ np ls st h) : Rr l G d M Φ pc ls (vI y :: vI x :: st) h := by
  subst hn
  intro p e s m args below meth c H locs lc C hl hP hS hk
  have hy : in32 y := ok_hd hk.2.1
  have hx : in32 x := ok_hd (ok_tl hk.2.1)
  refine lv_icmp_le C.1 C.2.1 hd ht (fun q => ?_) (fun q => ?_)
  · exact kt ((i32_le hx hy).mp q) p e s m args below meth c H locs lc C hl hP hS ⟨hk.1, ok_tl (ok_tl hk.2.1), hk.2.2⟩
  · exact kf (Int.not_le.mp (fun z => q ((i32_le hx hy).mpr z))) p e s m args below meth c H locs lc C hl hP hS ⟨hk.1, ok_tl (ok_tl hk.2.1), hk.2.2⟩
theorem r_if_eq (tgt np : Nat) {x off : Int} (hd : decode M.2.1 pc = .ok (.ifCond .eq off, 3)) (ht : (pc : Int) + off = (tgt : Int)) (hn : pc + 3 = np) (kt : x = 0 → Rr l G d M Φ tgt ls st h) (kf : ¬ x = 0 → Rr l G d M Φ np ls st h) : Rr l G d M Φ pc ls (vI x :: st) h := by
  subst hn
  intro p e s m args below meth c H locs lc C hl hP hS hk
  have hx : in32 x := ok_hd hk.2.1
  have hy := in32_0
  refine lv_if_eq C.1 C.2.1 hd ht (fun q => ?_) (fun q => ?_)
  · exact kt (by rw [i32_0] at q; first | exact (i32_eq hx hy).mp q | exact (i32_lt hx hy).mp q | exact (i32_le hy hx).mp q | exact (i32_lt hy hx).mp q | exact (i32_le hx hy).mp q | exact fun z => q ((i32_eq hx hy).mpr z)) p e s m args below meth c H locs lc C hl hP hS ⟨hk.1, ok_tl hk.2.1, hk.2.2⟩
  · exact kf (by rw [i32_0] at q; first | exact (i32_eq hx hy).mp q | exact fun z => q ((i32_eq hx hy).mpr z) | exact Int.not_lt.mp (fun z => q ((i32_lt hx hy).mpr z)) | exact Int.not_le.mp (fun z => q ((i32_le hy hx).mpr z)) | exact Int.not_lt.mp (fun z => q ((i32_lt hy hx).mpr z)) | exact Int.not_le.mp (fun z => q ((i32_le hx hy).mpr z))) p e s m args below meth c H locs lc C hl hP hS ⟨hk.1, ok_tl hk.2.1, hk.2.2⟩
theorem r_if_ne (tgt np : Nat) {x off : Int} (hd : decode M.2.1 pc = .ok (.ifCond .ne off, 3)) (ht : (pc : Int) + off = (tgt : Int)) (hn : pc + 3 = np) (kt : ¬ x = 0 → Rr l G d M Φ tgt ls st h) (kf : x = 0 → Rr l G d M Φ np ls st h) : Rr l G d M Φ pc ls (vI x :: st) h := by
  subst hn
  intro p e s m args below meth c H locs lc C hl hP hS hk
  have hx : in32 x := ok_hd hk.2.1
  have hy := in32_0
  refine lv_if_ne C.1 C.2.1 hd ht (fun q => ?_) (fun q => ?_)
  · exact kt (by rw [i32_0] at q; first | exact (i32_eq hx hy).mp q | exact (i32_lt hx hy).mp q | exact (i32_le hy hx).mp q | exact (i32_lt hy hx).mp q | exact (i32_le hx hy).mp q | exact fun z => q ((i32_eq hx hy).mpr z)) p e s m args below meth c H locs lc C hl hP hS ⟨hk.1, ok_tl hk.2.1, hk.2.2⟩
  · exact kf (by rw [i32_0] at q; first | exact (i32_eq hx hy).mp q | exact fun z => q ((i32_eq hx hy).mpr z) | exact Int.not_lt.mp (fun z => q ((i32_lt hx hy).mpr z)) | exact Int.not_le.mp (fun z => q ((i32_le hy hx).mpr z)) | exact Int.not_lt.mp (fun z => q ((i32_lt hy hx).mpr z)) | exact Int.not_le.mp (fun z => q ((i32_le hx hy).mpr z))) p e s m args below meth c H locs lc C hl hP hS ⟨hk.1, ok_tl hk.2.1, hk.2.2⟩
theorem r_if_lt (tgt np : Nat) {x off : Int} (hd : decode M.2.1 pc = .ok (.ifCond .lt off, 3)) (ht : (pc : Int) + off = (tgt : Int)) (hn : pc + 3 = np) (kt : x < 0 → Rr l G d M Φ tgt ls st h) (kf : 0 ≤ x → Rr l G d M Φ np ls st h) : Rr l G d M Φ pc ls (vI x :: st) h := by
  subst hn
  intro p e s m args below meth c H locs lc C hl hP hS hk
  have hx : in32 x := ok_hd hk.2.1
  have hy := in32_0
  refine lv_if_lt C.1 C.2.1 hd ht (fun q => ?_) (fun q => ?_)
  · exact kt (by rw [i32_0] at q; first | exact (i32_eq hx hy).mp q | exact (i32_lt hx hy).mp q | exact (i32_le hy hx).mp q | exact (i32_lt hy hx).mp q | exact (i32_le hx hy).mp q | exact fun z => q ((i32_eq hx hy).mpr z)) p e s m args below meth c H locs lc C hl hP hS ⟨hk.1, ok_tl hk.2.1, hk.2.2⟩
  · exact kf (by rw [i32_0] at q; first | exact (i32_eq hx hy).mp q | exact fun z => q ((i32_eq hx hy).mpr z) | exact Int.not_lt.mp (fun z => q ((i32_lt hx hy).mpr z)) | exact Int.not_le.mp (fun z => q ((i32_le hy hx).mpr z)) | exact Int.not_lt.mp (fun z => q ((i32_lt hy hx).mpr z)) | exact Int.not_le.mp (fun z => q ((i32_le hx hy).mpr z))) p e s m args below meth c H locs lc C hl hP hS ⟨hk.1, ok_tl hk.2.1, hk.2.2⟩
theorem r_if_ge (tgt np : Nat) {x off : Int} (hd : decode M.2.1 pc = .ok (.ifCond .ge off, 3)) (ht : (pc : Int) + off = (tgt : Int)) (hn : pc + 3 = np) (kt : 0 ≤ x → Rr l G d M Φ tgt ls st h) (kf : x < 0 → Rr l G d M Φ np ls st h) : Rr l G d M Φ pc ls (vI x :: st) h := by
  subst hn
  intro p e s m args below meth c H locs lc C hl hP hS hk
  have hx : in32 x := ok_hd hk.2.1
  have hy := in32_0
  refine lv_if_ge C.1 C.2.1 hd ht (fun q => ?_) (fun q => ?_)
  · exact kt (by rw [i32_0] at q; first | exact (i32_eq hx hy).mp q | exact (i32_lt hx hy).mp q | exact (i32_le hy hx).mp q | exact (i32_lt hy hx).mp q | exact (i32_le hx hy).mp q | exact fun z => q ((i32_eq hx hy).mpr z)) p e s m args below meth c H locs lc C hl hP hS ⟨hk.1, ok_tl hk.2.1, hk.2.2⟩
  · exact kf (by rw [i32_0] at q; first | exact (i32_eq hx hy).mp q | exact fun z => q ((i32_eq hx hy).mpr z) | exact Int.not_lt.mp (fun z => q ((i32_lt hx hy).mpr z)) | exact Int.not_le.mp (fun z => q ((i32_le hy hx).mpr z)) | exact Int.not_lt.mp (fun z => q ((i32_lt hy hx).mpr z)) | exact Int.not_le.mp (fun z => q ((i32_le hx hy).mpr z))) p e s m args below meth c H locs lc C hl hP hS ⟨hk.1, ok_tl hk.2.1, hk.2.2⟩
theorem r_if_gt (tgt np : Nat) {x off : Int} (hd : decode M.2.1 pc = .ok (.ifCond .gt off, 3)) (ht : (pc : Int) + off = (tgt : Int)) (hn : pc + 3 = np) (kt : 0 < x → Rr l G d M Φ tgt ls st h) (kf : x ≤ 0 → Rr l G d M Φ np ls st h) : Rr l G d M Φ pc ls (vI x :: st) h := by
  subst hn
  intro p e s m args below meth c H locs lc C hl hP hS hk
  have hx : in32 x := ok_hd hk.2.1
  have hy := in32_0
  refine lv_if_gt C.1 C.2.1 hd ht (fun q => ?_) (fun q => ?_)
  · exact kt (by rw [i32_0] at q; first | exact (i32_eq hx hy).mp q | exact (i32_lt hx hy).mp q | exact (i32_le hy hx).mp q | exact (i32_lt hy hx).mp q | exact (i32_le hx hy).mp q | exact fun z => q ((i32_eq hx hy).mpr z)) p e s m args below meth c H locs lc C hl hP hS ⟨hk.1, ok_tl hk.2.1, hk.2.2⟩
  · exact kf (by rw [i32_0] at q; first | exact (i32_eq hx hy).mp q | exact fun z => q ((i32_eq hx hy).mpr z) | exact Int.not_lt.mp (fun z => q ((i32_lt hx hy).mpr z)) | exact Int.not_le.mp (fun z => q ((i32_le hy hx).mpr z)) | exact Int.not_lt.mp (fun z => q ((i32_lt hy hx).mpr z)) | exact Int.not_le.mp (fun z => q ((i32_le hx hy).mpr z))) p e s m args below meth c H locs lc C hl hP hS ⟨hk.1, ok_tl hk.2.1, hk.2.2⟩
theorem r_if_le (tgt np : Nat) {x off : Int} (hd : decode M.2.1 pc = .ok (.ifCond .le off, 3)) (ht : (pc : Int) + off = (tgt : Int)) (hn : pc + 3 = np) (kt : x ≤ 0 → Rr l G d M Φ tgt ls st h) (kf : 0 < x → Rr l G d M Φ np ls st h) : Rr l G d M Φ pc ls (vI x :: st) h := by
  subst hn
  intro p e s m args below meth c H locs lc C hl hP hS hk
  have hx : in32 x := ok_hd hk.2.1
  have hy := in32_0
  refine lv_if_le C.1 C.2.1 hd ht (fun q => ?_) (fun q => ?_)
  · exact kt (by rw [i32_0] at q; first | exact (i32_eq hx hy).mp q | exact (i32_lt hx hy).mp q | exact (i32_le hy hx).mp q | exact (i32_lt hy hx).mp q | exact (i32_le hx hy).mp q | exact fun z => q ((i32_eq hx hy).mpr z)) p e s m args below meth c H locs lc C hl hP hS ⟨hk.1, ok_tl hk.2.1, hk.2.2⟩
  · exact kf (by rw [i32_0] at q; first | exact (i32_eq hx hy).mp q | exact fun z => q ((i32_eq hx hy).mpr z) | exact Int.not_lt.mp (fun z => q ((i32_lt hx hy).mpr z)) | exact Int.not_le.mp (fun z => q ((i32_le hy hx).mpr z)) | exact Int.not_lt.mp (fun z => q ((i32_lt hy hx).mpr z)) | exact Int.not_le.mp (fun z => q ((i32_le hx hy).mpr z))) p e s m args below meth c H locs lc C hl hP hS ⟨hk.1, ok_tl hk.2.1, hk.2.2⟩
theorem r_tabIn (tgt : Nat) {x off dflt lo hi : Int} {offs : Array Int} {len : Nat} (hd : decode M.2.1 pc = .ok (.tableswitch dflt lo hi offs, len)) (h1 : lo ≤ x) (h2 : x ≤ hi) (ho : offs[(x - lo).toNat]? = some off) (ht : (pc : Int) + off = (tgt : Int)) (k : Rr l G d M Φ tgt ls st h) : Rr l G d M Φ pc ls (vI x :: st) h := by
  intro p e s m args below meth c H locs lc C hl hP hS hk
  have hx : in32 x := ok_hd hk.2.1
  refine lv_tableIn C.1 C.2.1 hd (x := Int32.ofInt x) (by rw [i32_t hx]; omega) (by rw [i32_t hx]; omega) (by rw [i32_t hx]; exact ho) ht ?_
  exact k p e s m args below meth c H locs lc C hl hP hS ⟨hk.1, ok_tl hk.2.1, hk.2.2⟩
theorem r_tabOut (tgt : Nat) {x dflt lo hi : Int} {offs : Array Int} {len : Nat} (hd : decode M.2.1 pc = .ok (.tableswitch dflt lo hi offs, len)) (h1 : x < lo ∨ hi < x) (ht : (pc : Int) + dflt = (tgt : Int)) (k : Rr l G d M Φ tgt ls st h) : Rr l G d M Φ pc ls (vI x :: st) h := by
  intro p e s m args below meth c H locs lc C hl hP hS hk
  have hx : in32 x := ok_hd hk.2.1
  refine lv_tableOut C.1 C.2.1 hd (x := Int32.ofInt x) (by rw [i32_t hx]; exact h1) ht ?_
  exact k p e s m args below meth c H locs lc C hl hP hS ⟨hk.1, ok_tl hk.2.1, hk.2.2⟩
/-! returns -/
theorem qq_end {Φ : Option zV → zH → Prop} {s t : State} {H : Heap} {locs : List Loc} {args : Array Value} {r : Option zV} {h : zH} (hS : va_S (inA G) s.heap H locs) (hP : va_P (gD G) vwCl (wsOf G h) H) (ht : t.heap = H) (hΦ : Φ r h) (hr : ∀ v, r = some v → okv v) (hH : okH h) : QQ G Φ args s (.returned (r.map (cv G))) t :=
  ⟨⟨r, h, rfl, hΦ, hr, hH, by rw [ht]; exact hP⟩, hS.F ht⟩
theorem r_iret {x : Int} (hd : decode M.2.1 pc = .ok (.ireturn, 1)) (hr : M.2.2.2 = some .int) (k : Φ (some (vI x)) h) : Rr l G d M Φ pc ls [vI x] h := by
  intro p e s m args below meth c H locs lc C hl hP hS hk
  exact W.iret (v := Int32.ofInt x) C.1 C.2.1 (C.2.2.1.trans hr) (fun t ht hW => qq_end (r := some (vI x)) hS hP ht k (fun v e => by cases e; exact ok_hd hk.2.1) hk.2.2) (fun q hq => hS.2.2 q hq) hd C.2.2.2.2.2.2.1
theorem r_zret {x : Int} (hd : decode M.2.1 pc = .ok (.ireturn, 1)) (hr : M.2.2.2 = some .boolean) (hx : x = 0 ∨ x = 1) (k : Φ (some (vI x)) h) : Rr l G d M Φ pc ls [vI x] h := by
  intro p e s m args below meth c H locs lc C hl hP hS hk
  exact W.zret (v := Int32.ofInt x) C.1 C.2.1 (C.2.2.1.trans hr) (by rcases hx with rfl | rfl <;> decide) (fun t ht hW => qq_end (r := some (vI x)) hS hP ht k (fun v e => by cases e; exact ok_hd hk.2.1) hk.2.2) (fun q hq => hS.2.2 q hq) hd C.2.2.2.2.2.2.1
theorem r_lret {x : Int} (hd : decode M.2.1 pc = .ok (.lreturn, 1)) (hr : M.2.2.2 = some .long) (k : Φ (some (vL x)) h) : Rr l G d M Φ pc ls [vL x] h := by
  intro p e s m args below meth c H locs lc C hl hP hS hk
  exact W.lret (v := Int64.ofInt x) C.1 C.2.1 (C.2.2.1.trans hr) (fun t ht hW => qq_end (r := some (vL x)) hS hP ht k (fun v e => by cases e; exact ok_hd hk.2.1) hk.2.2) (fun q hq => hS.2.2 q hq) hd C.2.2.2.2.2.2.1
theorem r_aret {x : Nat} {cn : String} (hd : decode M.2.1 pc = .ok (.areturn, 1)) (hr : M.2.2.2 = some (.object cn)) (k : Φ (some (vR x)) h) : Rr l G d M Φ pc ls [vR x] h := by
  intro p e s m args below meth c H locs lc C hl hP hS hk
  exact W.aret (v := .ref (ga G x)) C.1 C.2.1 (C.2.2.1.trans hr) (Or.inl ⟨_, rfl⟩) (Or.inr ⟨_, rfl⟩) (fun t ht hW => qq_end (r := some (vR x)) hS hP ht k (fun v e => by cases e; exact ok_hd hk.2.1) hk.2.2) (fun q hq => hS.2.2 q hq) hd C.2.2.2.2.2.2.1
theorem r_ret (hd : decode M.2.1 pc = .ok (.return_, 1)) (hr : M.2.2.2 = none) (k : Φ none h) : Rr l G d M Φ pc ls [] h := by
  intro p e s m args below meth c H locs lc C hl hP hS hk
  exact W.vret C.1 C.2.1 (C.2.2.1.trans hr) (fun t ht hW => qq_end (r := none) hS hP ht k (fun v e => by cases e) hk.2.2) (fun q hq => hS.2.2 q hq) hd C.2.2.2.2.2.2.1
end RI
end
section
/-! fields, arrays, calls in the pure layer -/
theorem cl_at : ∀ ci, ci < 5 → vwCl[ci]? = some (clN ci, clT ci, nfs ci)
  | 0, _ => rfl
  | 1, _ => rfl
  | 2, _ => rfl
  | 3, _ => rfl
  | 4, _ => rfl
  | n + 5, h => absurd h (by omega)
theorem cl_ws0 : ∀ w ∈ u_ws RX0 TX0 3, w ∈ ww := by decide +kernel
theorem cl_ws1 : ∀ w ∈ u_ws RX1 TX1 10, w ∈ ww := by decide +kernel
theorem cl_ws2 : ∀ w ∈ u_ws RX2 TX2 10, w ∈ ww := by decide +kernel
theorem cl_ws3 : ∀ w ∈ u_ws RX3 TX3 11, w ∈ ww := by decide +kernel
theorem cl_ws4 : ∀ w ∈ u_ws RX4 TX4 29, w ∈ ww := by decide +kernel
theorem cl_ws : ∀ ci, ci < 5 → ∀ w ∈ u_ws (clN ci) (clT ci) (nfs ci), w ∈ ww
  | 0, _ => cl_ws0
  | 1, _ => cl_ws1
  | 2, _ => cl_ws2
  | 3, _ => cl_ws3
  | 4, _ => cl_ws4
  | n + 5, h => absurd h (by omega)
theorem cl_ty : ∀ ci, ci < 5 → ∀ k, k < nfs ci → parseFieldDescriptor (clT ci k).2.2.1 = some (clY ci k)
  | 0, _ => tyX0_ok
  | 1, _ => tyX1_ok
  | 2, _ => tyX2_ok
  | 3, _ => tyX3_ok
  | 4, _ => tyX4_ok
  | n + 5, h => absurd h (by omega)
theorem cl_nm : ∀ ci, ci < 5 → ∀ a, a < nfs ci → ∀ b, b < nfs ci → a ≠ b → (clT ci a).2.1 ≠ (clT ci b).2.1
  | 0, _ => nmX0
  | 1, _ => nmX1
  | 2, _ => nmX2
  | 3, _ => nmX3
  | 4, _ => nmX4
  | n + 5, h => absurd h (by omega)
theorem cl_own : ∀ ci, ci < 5 → ∀ k, k < nfs ci → (clT ci k).1 = clN ci := by decide +kernel
/-- the constant pool's entry ix of class own is the field f of class ci -/
def LKF (own : String) (ix ci f : Nat) : Prop := ci < 5 ∧ f < nfs ci ∧ Cond.fieldLink own ix (clN ci) (clT ci f).2.1 (clT ci f).2.2.1 ∈ ww
section RH
variable {l : Launch} {G : zG} {d : Nat} {M : zM} {Φ : Option zV → zH → Prop} {pc : Nat} {ls : List (Option zV)} {st : List zV} {h : zH}
theorem mc_in {p : Program} {s : State} {m : MethodId} {args : Array Value} {meth : Method} {c : Code} (C : MC G M p s m args meth c) : ∀ w ∈ ww, w.before args s = true := fun _ hw => mc_w C hw
theorem r_getI (np : Nat) {ix k ci f : Nat} (hd : decode M.2.1 pc = .ok (.getfield ix, 3)) (hn : pc + 3 = np) (hL : LKF M.1.cls ix ci f) (hr : rfB ci f = false) (hk0 : k < gN G) (hs : gs G k = ci + 5) (kk : Rr l G d M Φ np ls (vI (h k f) :: st) h) : Rr l G d M Φ pc ls (vR k :: st) h := by
  subst hn
  intro p e s m args below meth c H locs lc C hl hP hS hk
  refine va_get (D := gD G) (ci := ci) (v := .int (Int32.ofInt (h k f))) (C := clN ci) (T := clT ci) (N := nfs ci) C.1 C.2.1 (mc_in C) (cl_ws ci hL.1) C.2.2.2.2.1 C.2.2.2.2.2.2.2.1 hP k ((ws_at hk0).trans (by rw [ce_obj hs])) (cl_at ci hL.1) f hL.2.1 (mc_w C hL.2.2) (fun x hx => by rw [cl_own ci hL.1 f hL.2.1] at hx; exact hx) (by rw [fs_at hL.2.1, hr]; rfl) hd ?_
  exact kk p e s m args below meth c H locs lc C hl hP hS ⟨hk.1, ok_c (v := vI _) (hk.2.2 k f) (ok_tl hk.2.1), hk.2.2⟩
theorem r_getR (np : Nat) {ix k ci f : Nat} (hd : decode M.2.1 pc = .ok (.getfield ix, 3)) (hn : pc + 3 = np) (hL : LKF M.1.cls ix ci f) (hr : rfB ci f = true) (hk0 : k < gN G) (hs : gs G k = ci + 5) {q : Nat} (hq : gr G k f = q) (kk : Rr l G d M Φ np ls (vR q :: st) h) : Rr l G d M Φ pc ls (vR k :: st) h := by
  subst hn hq
  intro p e s m args below meth c H locs lc C hl hP hS hk
  refine va_get (D := gD G) (ci := ci) (v := .ref (ga G (gr G k f))) (C := clN ci) (T := clT ci) (N := nfs ci) C.1 C.2.1 (mc_in C) (cl_ws ci hL.1) C.2.2.2.2.1 C.2.2.2.2.2.2.2.1 hP k ((ws_at hk0).trans (by rw [ce_obj hs])) (cl_at ci hL.1) f hL.2.1 (mc_w C hL.2.2) (fun x hx => by rw [cl_own ci hL.1 f hL.2.1] at hx; exact hx) (by rw [fs_at hL.2.1, hr]; rfl) hd ?_
  exact kk p e s m args below meth c H locs lc C hl hP hS ⟨hk.1, ok_c (v := vR _) trivial (ok_tl hk.2.1), hk.2.2⟩
theorem r_putI (np : Nat) {ix k ci f : Nat} {v : Int} (hd : decode M.2.1 pc = .ok (.putfield ix, 3)) (hn : pc + 3 = np) (hL : LKF M.1.cls ix ci f) (hr : rfB ci f = false) (hfi : (clT ci f).2.2.2 = false) (hty : clY ci f = .int ∨ (clY ci f = .boolean ∧ (v = 0 ∨ v = 1))) (hk0 : k < gN G) (hs : gs G k = ci + 5) (kk : Rr l G d M Φ np ls st (up h k f v)) : Rr l G d M Φ pc ls (vI v :: vR k :: st) h := by
  subst hn
  intro p e s m args below meth c H locs lc C hl hP hS hk
  have hnar : narrow (clY ci f) (.int (Int32.ofInt v)) = .int (Int32.ofInt v) := by
    rcases hty with e1 | ⟨e1, e2⟩
    · rw [e1]; rfl
    · rw [e1]; rcases e2 with rfl | rfl <;> decide
  have hfit : fits (clY ci f) (.int (Int32.ofInt v)) = true := by
    rcases hty with e1 | ⟨e1, e2⟩
    · rw [e1]; rfl
    · rw [e1]; rcases e2 with rfl | rfl <;> decide
  refine va_put (D := gD G) (ci := ci) (v := .int (Int32.ofInt v)) (ty := clY ci f) (C := clN ci) (T := clT ci) (N := nfs ci) C.1 C.2.1 (mc_in C) (cl_ws ci hL.1) (clY ci) (cl_ty ci hL.1) (cl_nm ci hL.1) C.2.2.2.2.1 C.2.2.2.2.2.2.2.1 hP (ws_D C.2.2.2.2.2.2.2.2.2 h) hS k ((ws_at hk0).trans (by rw [ce_obj hs])) (cl_at ci hL.1) f hL.2.1 (mc_w C hL.2.2) (fun x hx => by rw [cl_own ci hL.1 f hL.2.1] at hx; exact hx) hfi (cl_ty ci hL.1 f hL.2.1) hnar hfit (by simp [fsOf]; exact hL.2.1) hd (fun H1 locs1 hP1 _ hS1 => ?_)
  rw [fs_set hL.2.1 hr, ← ce_obj hs, ws_set hk0] at hP1
  exact kk p e s m args below meth c H1 locs1 lc C hl hP1 hS1 ⟨hk.1, ok_tl (ok_tl hk.2.1), ok_up hk.2.2 (ok_hd hk.2.1)⟩
theorem tys_at : (tysOf G)[0]? = some (gC G 0, .int) ∧ (tysOf G)[1]? = some (gC G 1, .byte) ∧ (tysOf G)[2]? = some (gC G 2, .boolean) := ⟨rfl, rfl, rfl⟩
theorem r_iald (np : Nat) {k : Nat} {i : Int} (hd : decode M.2.1 pc = .ok (.iaload, 1)) (hn : pc + 1 = np) (hk0 : k < gN G) (hs : gs G k = 0) (h0 : 0 ≤ i) (h1 : i < gl G k) (kk : Rr l G d M Φ np ls (vI (h k i.toNat) :: st) h) : Rr l G d M Φ pc ls (vI i :: vR k :: st) h := by
  subst hn
  intro p e s m args below meth c H locs lc C hl hP hS hk
  have hi : in32 i := ok_hd hk.2.1
  refine va_iald (D := gD G) C.1 C.2.1 C.2.2.2.2.2.2.2.1 hP k 0 ((ws_at hk0).trans (by rw [ce_arr (by omega)])) (by rw [hs]; rfl) (i32_in hi h0 h1) hd ?_
  rw [i32_cl hi]
  exact kk p e s m args below meth c H locs lc C hl hP hS ⟨hk.1, ok_c (v := vI _) (hk.2.2 k _) (ok_tl (ok_tl hk.2.1)), hk.2.2⟩
theorem r_bald (np : Nat) {k : Nat} {i : Int} (hd : decode M.2.1 pc = .ok (.baload, 1)) (hn : pc + 1 = np) (hk0 : k < gN G) (hs : gs G k = 1) (h0 : 0 ≤ i) (h1 : i < gl G k) (kk : Rr l G d M Φ np ls (vI (h k i.toNat) :: st) h) : Rr l G d M Φ pc ls (vI i :: vR k :: st) h := by
  subst hn
  intro p e s m args below meth c H locs lc C hl hP hS hk
  have hi : in32 i := ok_hd hk.2.1
  refine va_bald (D := gD G) C.1 C.2.1 C.2.2.2.2.2.2.2.1 hP k 1 ((ws_at hk0).trans (by rw [ce_arr (by omega)])) (by rw [hs]; rfl) (i32_in hi h0 h1) hd ?_
  rw [i32_cl hi]
  exact kk p e s m args below meth c H locs lc C hl hP hS ⟨hk.1, ok_c (v := vI _) (hk.2.2 k _) (ok_tl (ok_tl hk.2.1)), hk.2.2⟩
theorem r_zald (np : Nat) {k : Nat} {i : Int} (hd : decode M.2.1 pc = .ok (.baload, 1)) (hn : pc + 1 = np) (hk0 : k < gN G) (hs : gs G k = 2) (h0 : 0 ≤ i) (h1 : i < gl G k) (kk : Rr l G d M Φ np ls (vI (h k i.toNat) :: st) h) : Rr l G d M Φ pc ls (vI i :: vR k :: st) h := by
  subst hn
  intro p e s m args below meth c H locs lc C hl hP hS hk
  have hi : in32 i := ok_hd hk.2.1
  refine va_zald (D := gD G) C.1 C.2.1 C.2.2.2.2.2.2.2.1 hP k 2 ((ws_at hk0).trans (by rw [ce_arr (by omega)])) (by rw [hs]; rfl) (i32_in hi h0 h1) hd ?_
  rw [i32_cl hi]
  exact kk p e s m args below meth c H locs lc C hl hP hS ⟨hk.1, ok_c (v := vI _) (hk.2.2 k _) (ok_tl (ok_tl hk.2.1)), hk.2.2⟩
theorem r_aald (np : Nat) {k : Nat} {i : Int} (hd : decode M.2.1 pc = .ok (.aaload, 1)) (hn : pc + 1 = np) (hk0 : k < gN G) (hs : gs G k = 3 ∨ gs G k = 4) (h0 : 0 ≤ i) (h1 : i < gl G k) {q : Nat} (hq : gr G k i.toNat = q) (kk : Rr l G d M Φ np ls (vR q :: st) h) : Rr l G d M Φ pc ls (vI i :: vR k :: st) h := by
  subst hn hq
  intro p e s m args below meth c H locs lc C hl hP hS hk
  have hi : in32 i := ok_hd hk.2.1
  rcases hs with hs | hs
  · refine va_aldq (D := gD G) (C := RX2) C.1 C.2.1 C.2.2.2.2.2.2.2.1 hP k 3 ((ws_at hk0).trans (by rw [ce_rarr (Or.inl hs)])) (by rw [hs]; rfl) (i32_in hi h0 h1) hd ?_
    rw [i32_cl hi]
    exact kk p e s m args below meth c H locs lc C hl hP hS ⟨hk.1, ok_c (v := vR _) trivial (ok_tl (ok_tl hk.2.1)), hk.2.2⟩
  · refine va_aldq (D := gD G) (C := RX0) C.1 C.2.1 C.2.2.2.2.2.2.2.1 hP k 4 ((ws_at hk0).trans (by rw [ce_rarr (Or.inr hs)])) (by rw [hs]; rfl) (i32_in hi h0 h1) hd ?_
    rw [i32_cl hi]
    exact kk p e s m args below meth c H locs lc C hl hP hS ⟨hk.1, ok_c (v := vR _) trivial (ok_tl (ok_tl hk.2.1)), hk.2.2⟩
theorem r_iast (np : Nat) {k : Nat} {i v : Int} (hd : decode M.2.1 pc = .ok (.iastore, 1)) (hn : pc + 1 = np) (hk0 : k < gN G) (hs : gs G k = 0) (h0 : 0 ≤ i) (h1 : i < gl G k) (kk : Rr l G d M Φ np ls st (up h k i.toNat v)) : Rr l G d M Φ pc ls (vI v :: vI i :: vR k :: st) h := by
  subst hn
  intro p e s m args below meth c H locs lc C hl hP hS hk
  have hi : in32 i := ok_hd (ok_tl hk.2.1)
  refine va_iast (D := gD G) C.1 C.2.1 C.2.2.2.2.2.2.2.1 hP (ws_D C.2.2.2.2.2.2.2.2.2 h) hS k 0 ((ws_at hk0).trans (by rw [ce_arr (by omega)])) (by rw [hs]; rfl) (i32_in hi h0 h1) hd (fun H1 locs1 hP1 _ hS1 => ?_)
  rw [z_arr_set hi, ← ce_arr (h := up h k i.toNat v) (by omega), ws_set hk0] at hP1
  exact kk p e s m args below meth c H1 locs1 lc C hl hP1 hS1 ⟨hk.1, ok_tl (ok_tl (ok_tl hk.2.1)), ok_up hk.2.2 (ok_hd hk.2.1)⟩
theorem nar_byte {v : Int} (h1 : -128 ≤ v) (h2 : v < 128) : vp_nar .byte (Int32.ofInt v) = Int32.ofInt v := by
  rw [vp_nar_byte]
  apply Int32.toInt_inj.mp
  have hv : in32 v := ⟨by omega, by omega⟩
  have e : (Int32.ofInt v).toInt8 = Int8.ofInt v := by
    apply Int8.toInt_inj.mp
    rw [Int8.toInt_ofInt_of_le (by omega) (by omega), Int32.toInt_toInt8, i32_t hv]
    exact Int.bmod_eq_of_le (by omega) (by omega)
  rw [e, Int8.toInt_toInt32, Int8.toInt_ofInt_of_le (by omega) (by omega), i32_t hv]
theorem r_bast (np : Nat) {k : Nat} {i v : Int} (hd : decode M.2.1 pc = .ok (.bastore, 1)) (hn : pc + 1 = np) (hk0 : k < gN G) (hs : gs G k = 1) (h0 : 0 ≤ i) (h1 : i < gl G k) (h2 : -128 ≤ v) (h3 : v < 128) (kk : Rr l G d M Φ np ls st (up h k i.toNat v)) : Rr l G d M Φ pc ls (vI v :: vI i :: vR k :: st) h := by
  subst hn
  intro p e s m args below meth c H locs lc C hl hP hS hk
  have hi : in32 i := ok_hd (ok_tl hk.2.1)
  refine va_bast (D := gD G) C.1 C.2.1 C.2.2.2.2.2.2.2.1 hP (ws_D C.2.2.2.2.2.2.2.2.2 h) hS k 1 ((ws_at hk0).trans (by rw [ce_arr (by omega)])) (by rw [hs]; rfl) (i32_in hi h0 h1) hd (fun H1 locs1 hP1 _ hS1 => ?_)
  rw [nar_byte h2 h3, z_arr_set hi, ← ce_arr (h := up h k i.toNat v) (by omega), ws_set hk0] at hP1
  exact kk p e s m args below meth c H1 locs1 lc C hl hP1 hS1 ⟨hk.1, ok_tl (ok_tl (ok_tl hk.2.1)), ok_up hk.2.2 (ok_hd hk.2.1)⟩
theorem nar_bool {v : Int} (h1 : v = 0 ∨ v = 1) : vp_nar .boolean (Int32.ofInt v) = Int32.ofInt v := by
  rcases h1 with rfl | rfl <;> decide
theorem r_zast (np : Nat) {k : Nat} {i v : Int} (hd : decode M.2.1 pc = .ok (.bastore, 1)) (hn : pc + 1 = np) (hk0 : k < gN G) (hs : gs G k = 2) (h0 : 0 ≤ i) (h1 : i < gl G k) (h2 : v = 0 ∨ v = 1) (kk : Rr l G d M Φ np ls st (up h k i.toNat v)) : Rr l G d M Φ pc ls (vI v :: vI i :: vR k :: st) h := by
  subst hn
  intro p e s m args below meth c H locs lc C hl hP hS hk
  have hi : in32 i := ok_hd (ok_tl hk.2.1)
  refine va_zast (D := gD G) C.1 C.2.1 C.2.2.2.2.2.2.2.1 hP (ws_D C.2.2.2.2.2.2.2.2.2 h) hS k 2 ((ws_at hk0).trans (by rw [ce_arr (by omega)])) (by rw [hs]; rfl) (i32_in hi h0 h1) hd (fun H1 locs1 hP1 _ hS1 => ?_)
  rw [nar_bool h2, z_arr_set hi, ← ce_arr (h := up h k i.toNat v) (by omega), ws_set hk0] at hP1
  exact kk p e s m args below meth c H1 locs1 lc C hl hP1 hS1 ⟨hk.1, ok_tl (ok_tl (ok_tl hk.2.1)), ok_up hk.2.2 (ok_hd hk.2.1)⟩
/-! calls -/
theorem cx_blind {av : List zV} : FrameBlind (va_Pc (av.map (cv G)) (Cx G h)) := by
  intro a U g mk q
  obtain ⟨q1, q2, q3, q4⟩ := q
  exact ⟨q1, q2, va_K.moved (u := U) (U := U.calling g mk a) (Vm.Alike.refl U.vm) q3, KK.same (u := U) (U := U.calling g mk a) rfl q4⟩
theorem cx_at {p : Program} {s : State} {m : MethodId} {args : Array Value} {meth : Method} {c : Code} {H : Heap} {locs : List Loc} {av : List zV} (C : MC G M p s m args meth c) (hP : va_P (gD G) vwCl (wsOf G h) H) (hS : va_S (inA G) s.heap H locs) : ∀ U : State, U.heap = H → s.WarmedH U.vm → va_Pc (av.map (cv G)) (Cx G h) (av.map (cv G)).toArray U := by
  intro U hU hW
  refine ⟨rfl, by rw [hU]; exact hP, va_K.moved hW.alike C.2.2.2.2.2.2.2.1, ?_⟩
  rw [hU]
  exact (KK.warm hW C.2.2.2.2.2.2.2.2.1).kept hS.2.1
theorem z_call {p : Program} {e : Env} {R : Room} {s : State} {m : MethodId} {args : Array Value} {below : List Frame} {meth : Method} {c : Code} {H : Heap} {locs : List Loc} {Q : State → Prop} {lc : Array Slot} {st0 rest : List Value} {a : Array Value} {Ψ : Option zV → zH → Prop} (hr : va_Run p l e R s m args below meth c H locs 0 0 0 0 (F0 m pc lc st0) rest (QQ G Ψ a) (inA G)) (hS : va_S (inA G) s.heap H locs)
    (kk : ∀ (r : Option zV) (h' : zH) (H1 : Heap) (locs1 : List Loc), Ψ r h' → (∀ v, r = some v → okv v) → okH h' → va_P (gD G) vwCl (wsOf G h') H1 → va_S (inA G) s.heap H1 locs1 → W p l e R s m args below meth c H1 locs1 0 0 Q (F0 m (pc + 3) lc ((r.map (cv G)).toList ++ rest))) : W p l e R s m args below meth c H locs 0 0 Q (F0 m pc lc st0) := by
  intro T hT X
  obtain ⟨v, st₀, t, T', L, h0, X', hL, e1, e2, ⟨⟨r, h', hv, hp, hok, hoH, hb⟩, hz, hk⟩, stp⟩ := hr T hT X
  cases hv
  rw [h0] at hz hk
  obtain ⟨t2, a1, b1⟩ := kk r h' T'.heap (locs ++ L) hp hok hoH (by rw [e1]; exact hb)
    ⟨Nat.le_trans hS.1 (by rw [e1]; exact hz), fun q h1 h2 => by rw [e1, hk q (Nat.lt_of_lt_of_le h1 hS.1) h2]; exact hS.2.1 q h1 h2, fun q hq => by
      rcases List.mem_append.mp hq with h | h
      · exact hS.2.2 q h
      · exact hL q h⟩ T' rfl X'
  exact ⟨t2, stp t2 a1, b1⟩
def cat1 : zV → Nat
  | .inr (.inl _) => 2
  | _ => 1
def stW : List zV → Nat
  | [] => 0
  | v :: l => cat1 v + stW l
theorem stW_eq : ∀ (st : List zV), ((st.map (cv G)).map fun v => v.category).sum = stW st := by
  intro st
  induction st with
  | nil => rfl
  | cons v l ih =>
    have e : (cv G v).category = cat1 v := by rcases v with x | x | x <;> rfl
    simp only [List.map_cons, List.sum_cons, stW, ih, e]
/-- what is decided of a method that is called: its name's class, how many parameters, its words among the tables' -/
def cOK (M : zM) (n : Nat) : Bool := decide (M.1.cls ≠ "java/lang/invoke/MethodHandle") && decide (M.1.cls ≠ "java/lang/invoke/VarHandle") && decide ((parseMethodDescriptor M.1.desc).map (fun d => d.parameters.length) = some n) && Nat.ble M.2.2.1 17
def cOKm (M : zM) : Prop := Cond.code M.1 M.2.1 M.2.2.1 M.2.2.2 ∈ ww
/-- a virtual call: the link, an instance method, it is the one that is taken -/
def LKV (own : String) (ix : Nat) (M : zM) : Prop := Cond.methodLink own ix M.1 ∈ ww ∧ Cond.instanceMethod M.1 ∈ ww ∧ Cond.selects M.1.cls M.1 M.1 ∈ ww ∧ Cond.initialized M.1.cls ∈ ww
def LKS (own : String) (ix : Nat) (M : zM) : Prop := Cond.methodLink own ix M.1 ∈ ww ∧ Cond.static M.1 ∈ ww ∧ Cond.initialized M.1.cls ∈ ww
theorem cb_of {p : Program} {s : State} {m : MethodId} {args : Array Value} {meth : Method} {c : Code} (C : MC G M p s m args meth c) {M' : zM} {ix n d' : Nat} (hm : cOKm M') (ho : cOK M' n = true) (hl : Cond.methodLink M.1.cls ix M'.1 ∈ ww) (hi : Cond.initialized M'.1.cls ∈ ww) (hd : Nat.ble (d' + 1) d = true) : CallB (rmD d) s args M.1.cls ix M'.1 M'.2.1 M'.2.2.1 M'.2.2.2 (wsM M') (rmD d') 0 0 n := by
  simp only [cOK, Bool.and_eq_true, decide_eq_true_eq] at ho
  obtain ⟨⟨⟨h1, h2⟩, h3⟩, h4⟩ := ho
  have h4 := Nat.le_of_ble_eq_true h4
  have h5 := Nat.le_of_ble_eq_true hd
  refine callB_of n (mc_in C) (good_M (fun w hw => hw) hm) rfl rfl rfl (mc_w C hi) (mc_w C hl) ⟨h1, h2, h3⟩ ⟨h5, ?_⟩
  show 8 + (M'.2.2.1 + 11) + 36 * d' ≤ 36 * d
  omega
/-- a call of an instance method, by contract -/
theorem r_callV (np : Nat) {ix k ci n d' : Nat} {as : List zV} {M' : zM} {Ψ : Option zV → zH → Prop} (hd : decode M.2.1 pc = .ok (.invokevirtual ix, 3)) (hn : pc + 3 = np) (hL : LKV M.1.cls ix M') (hm : cOKm M') (ho : cOK M' n = true) (hci : ci < 5) (hcl : M'.1.cls = clN ci) (hk0 : k < gN G) (hs : gs G k = ci + 5) (hdd : Nat.ble (d' + 1) d = true) (hM : Ca l G d' M' (vR k :: as) h Ψ) (hst : ∀ st', st' = as.reverse ++ vR k :: st → as.length = n) (hw : Nat.ble (stW st) 8 = true)
    (kk : ∀ r h', Ψ r h' → Rr l G d M Φ np ls (r.toList ++ st) h') : Rr l G d M Φ pc ls (as.reverse ++ vR k :: st) h := by
  subst hn
  intro p e s m args below meth c H locs lc C hl hP hS hk
  have hst := hst _ rfl
  have hok1 : ∀ v ∈ vR k :: as, okv v := by
    intro v hv
    rcases List.mem_cons.mp hv with rfl | hv
    · trivial
    · exact hk.2.1 v (List.mem_append_left _ (List.mem_reverse.mpr hv))
  have hM := hM C.2.2.2.2.2.2.2.2.2 hok1 hk.2.2
  have hE : (as.reverse ++ vR k :: st).map (cv G) = (as.map (cv G)).reverse ++ .ref (ga G k) :: st.map (cv G) := by simp [cv]
  rw [hE]
  refine z_call (va_runV (As := as.map (cv G)) (b := ga G k) (rest := st.map (cv G)) (C := clN ci) ⟨C.1, C.2.1, C.2.2.2.1, C.2.2.2.2.1, mc_in C⟩ hM ⟨cb_of C hm ho hL.1 hL.2.2.2 hdd, mc_w C hL.2.1, by have := mc_w C hL.2.2.1; rw [hcl] at this; exact this⟩ ⟨cx_blind, va_recv C.2.2.2.2.2.2.2.1 hP (cl_at ci hci) ((ws_at hk0).trans (by rw [ce_obj hs])), cx_at (av := vR k :: as) C hP hS⟩ rfl (by rw [List.length_map]; exact hst) hl.1 rfl (lv_room (by rw [stW_eq]; exact Nat.le_of_ble_eq_true hw)) hd ⟨Nat.le_refl _, Nat.le_refl _⟩) hS (fun r h' H1 locs1 hp hok hoH hP1 hS1 => ?_)
  have hE2 : (r.map (cv G)).toList ++ st.map (cv G) = (r.toList ++ st).map (cv G) := by cases r <;> simp
  rw [hE2]
  refine kk r h' hp p e s m args below meth c H1 locs1 lc C hl hP1 hS1 ⟨hk.1, fun v hv => ?_, hoH⟩
  rcases List.mem_append.mp hv with h1 | h1
  · exact hok v (by cases r with | none => simp at h1 | some w => simp at h1; rw [h1])
  · exact hk.2.1 v (List.mem_append_right _ (List.mem_cons_of_mem _ h1))
/-- a call of a static method, by contract -/
theorem r_callS (np : Nat) {ix n d' : Nat} {as : List zV} {M' : zM} {Ψ : Option zV → zH → Prop} (hd : decode M.2.1 pc = .ok (.invokestatic ix, 3)) (hn : pc + 3 = np) (hL : LKS M.1.cls ix M') (hm : cOKm M') (ho : cOK M' n = true) (hdd : Nat.ble (d' + 1) d = true) (hM : Ca l G d' M' as h Ψ) (hst : as.length = n) (hw : Nat.ble (stW st) 8 = true)
    (kk : ∀ r h', Ψ r h' → Rr l G d M Φ np ls (r.toList ++ st) h') : Rr l G d M Φ pc ls (as.reverse ++ st) h := by
  subst hn
  intro p e s m args below meth c H locs lc C hl hP hS hk
  have hM := hM C.2.2.2.2.2.2.2.2.2 (fun v hv => hk.2.1 v (List.mem_append_left _ (List.mem_reverse.mpr hv))) hk.2.2
  have hE : (as.reverse ++ st).map (cv G) = (as.map (cv G)).reverse ++ st.map (cv G) := by simp
  rw [hE]
  refine z_call (va_runS (As := as.map (cv G)) (rest := st.map (cv G)) ⟨C.1, C.2.1, C.2.2.2.1, C.2.2.2.2.1, mc_in C⟩ hM ⟨cb_of C hm ho hL.1 hL.2.2 hdd, mc_w C hL.2.1⟩ ⟨cx_blind, cx_at (av := as) C hP hS⟩ rfl (by rw [List.length_map]; exact hst) hl.1 rfl (lv_room (by rw [stW_eq]; exact Nat.le_of_ble_eq_true hw)) hd ⟨Nat.le_refl _, Nat.le_refl _⟩) hS (fun r h' H1 locs1 hp hok hoH hP1 hS1 => ?_)
  have hE2 : (r.map (cv G)).toList ++ st.map (cv G) = (r.toList ++ st).map (cv G) := by cases r <;> simp
  rw [hE2]
  refine kk r h' hp p e s m args below meth c H1 locs1 lc C hl hP1 hS1 ⟨hk.1, fun v hv => ?_, hoH⟩
  rcases List.mem_append.mp hv with h1 | h1
  · exact hok v (by cases r with | none => simp at h1 | some w => simp at h1; rw [h1])
  · exact hk.2.1 v (List.mem_append_right _ h1)
end RH
end
section
/-! Math, arraycopy; calls by the number of arguments -/
section RL
variable {l : Launch} {G : zG} {d : Nat} {M : zM} {Φ : Option zV → zH → Prop} {pc : Nat} {ls : List (Option zV)} {st : List zV} {h : zH}
def LKX (own : String) (ix : Nat) : Prop := Cond.methodLink own ix Lib.Math.max.name ∈ ww
def LKN (own : String) (ix : Nat) : Prop := Cond.methodLink own ix Lib.Math.min.name ∈ ww
def LKA (own : String) (ix : Nat) : Prop := Cond.methodLink own ix Lib.Math.abs.name ∈ ww
def LKC (own : String) (ix : Nat) : Prop := Cond.methodLink own ix arraycopyName ∈ ww
theorem ww_max1 : Cond.static Lib.Math.max.name ∈ ww := by decide +kernel
theorem ww_min1 : Cond.static Lib.Math.min.name ∈ ww := by decide +kernel
theorem ww_abs1 : Cond.static Lib.Math.abs.name ∈ ww := by decide +kernel
theorem ww_max2 : Cond.code Lib.Math.max.name Lib.Math.max.code 2 (some .int) ∈ ww := by decide +kernel
theorem ww_min2 : Cond.code Lib.Math.min.name Lib.Math.min.code 2 (some .int) ∈ ww := by decide +kernel
theorem ww_abs2 : Cond.code Lib.Math.abs.name Lib.Math.abs.code 1 (some .int) ∈ ww := by decide +kernel
theorem ww_math : Cond.initialized "java/lang/Math" ∈ ww := by decide +kernel
theorem ww_sys : Cond.initialized "java/lang/System" ∈ ww := by decide +kernel
theorem ww_cpy1 : Cond.native arraycopyName ∈ ww := by decide +kernel
theorem ww_cpy2 : Cond.static arraycopyName ∈ ww := by decide +kernel
theorem r_max (np : Nat) {ix : Nat} {x y : Int} (hd : decode M.2.1 pc = .ok (.invokestatic ix, 3)) (hn : pc + 3 = np) (hL : LKX M.1.cls ix) (hdd : Nat.ble 1 d = true) (hw : Nat.ble (stW st) 8 = true) (kk : Rr l G d M Φ np ls (vI (if x < y then y else x) :: st) h) : Rr l G d M Φ pc ls (vI y :: vI x :: st) h := by
  subst hn
  intro p e s m args below meth c H locs lc C hl hP hS hk
  have hy : in32 y := ok_hd hk.2.1
  have hx : in32 x := ok_hd (ok_tl hk.2.1)
  have h1 := Nat.le_of_ble_eq_true hdd
  have h2 := Nat.le_of_ble_eq_true hw
  have ev : (if Int32.ofInt x < Int32.ofInt y then Int32.ofInt y else Int32.ofInt x) = Int32.ofInt (if x < y then y else x) := by
    simp only [i32_lt hx hy]; split <;> rfl
  refine va_mmax C.1 C.2.1 (C.2.2.2.1.trans hl.1.symm) C.2.2.2.2.1 (mc_w C hL) (mc_w C ww_max1) (mc_w C ww_math) (mc_w C ww_max2) h1 (by rw [stW_eq]; show stW st + 13 ≤ 36 * d; omega) (Nat.le_refl _) (Nat.le_refl _) hd ?_
  rw [ev]
  exact kk p e s m args below meth c H locs lc C hl hP hS ⟨hk.1, ok_c (v := vI _) (by split; exact hy; exact hx) (ok_tl (ok_tl hk.2.1)), hk.2.2⟩
theorem r_min (np : Nat) {ix : Nat} {x y : Int} (hd : decode M.2.1 pc = .ok (.invokestatic ix, 3)) (hn : pc + 3 = np) (hL : LKN M.1.cls ix) (hdd : Nat.ble 1 d = true) (hw : Nat.ble (stW st) 8 = true) (kk : Rr l G d M Φ np ls (vI (if y < x then y else x) :: st) h) : Rr l G d M Φ pc ls (vI y :: vI x :: st) h := by
  subst hn
  intro p e s m args below meth c H locs lc C hl hP hS hk
  have hy : in32 y := ok_hd hk.2.1
  have hx : in32 x := ok_hd (ok_tl hk.2.1)
  have h1 := Nat.le_of_ble_eq_true hdd
  have h2 := Nat.le_of_ble_eq_true hw
  have ev : (if Int32.ofInt y < Int32.ofInt x then Int32.ofInt y else Int32.ofInt x) = Int32.ofInt (if y < x then y else x) := by
    simp only [i32_lt hy hx]; split <;> rfl
  refine va_mmin C.1 C.2.1 (C.2.2.2.1.trans hl.1.symm) C.2.2.2.2.1 (mc_w C hL) (mc_w C ww_min1) (mc_w C ww_math) (mc_w C ww_min2) h1 (by rw [stW_eq]; show stW st + 13 ≤ 36 * d; omega) (Nat.le_refl _) (Nat.le_refl _) hd ?_
  rw [ev]
  exact kk p e s m args below meth c H locs lc C hl hP hS ⟨hk.1, ok_c (v := vI _) (by split; exact hy; exact hx) (ok_tl (ok_tl hk.2.1)), hk.2.2⟩
theorem r_abs (np : Nat) {ix : Nat} {x : Int} (hd : decode M.2.1 pc = .ok (.invokestatic ix, 3)) (hn : pc + 3 = np) (hL : LKA M.1.cls ix) (hdd : Nat.ble 1 d = true) (hw : Nat.ble (stW st) 8 = true) (h0 : -2147483648 < x) (kk : Rr l G d M Φ np ls (vI (if 0 ≤ x then x else -x) :: st) h) : Rr l G d M Φ pc ls (vI x :: st) h := by
  subst hn
  intro p e s m args below meth c H locs lc C hl hP hS hk
  have hx : in32 x := ok_hd hk.2.1
  have h1 := Nat.le_of_ble_eq_true hdd
  have h2 := Nat.le_of_ble_eq_true hw
  have ev : (if 0 ≤ Int32.ofInt x then Int32.ofInt x else 0 - Int32.ofInt x) = Int32.ofInt (if 0 ≤ x then x else -x) := by
    rw [i32_0]
    simp only [i32_le in32_0 hx]
    split
    · rfl
    · rw [← Int32.ofInt_sub]; congr 1; omega
  refine va_mabs C.1 C.2.1 (C.2.2.2.1.trans hl.1.symm) C.2.2.2.2.1 (mc_w C hL) (mc_w C ww_abs1) (mc_w C ww_math) (mc_w C ww_abs2) h1 (by rw [stW_eq]; show stW st + 13 ≤ 36 * d; omega) (Nat.le_refl _) (Nat.le_refl _) hd ?_
  rw [ev]
  exact kk p e s m args below meth c H locs lc C hl hP hS ⟨hk.1, ok_c (v := vI _) (by have := hx.1; have := hx.2; split <;> exact ⟨by omega, by omega⟩) (ok_tl hk.2.1), hk.2.2⟩
/-- row k1 becomes what row k0 is, in its first n places -/
def cpy (h : zH) (k0 k1 n : Nat) : zH := fun a b => if a = k1 ∧ b < n then h k0 b else h a b
theorem ws_set' {h' : zH} {k : Nat} (hk : k < gN G) (he : ∀ a, a ≠ k → ∀ b, h' a b = h a b) : (wsOf G h).set k (ga G k, ceOf G h' k) = wsOf G h' := by
  apply List.ext_getElem?
  intro i
  by_cases hi : i = k
  · subst hi
    rw [List.getElem?_set_self (by simpa [wsOf] using hk), ws_at hk]
  · rw [List.getElem?_set_ne (Ne.symm hi)]
    by_cases h2 : i < gN G
    · rw [ws_at h2, ws_at h2]
      have e : ∀ b, h' i b = h i b := he i hi
      simp only [ceOf, fsOf, e]
    · rw [List.getElem?_eq_none (by simpa [wsOf] using h2), List.getElem?_eq_none (by simpa [wsOf] using h2)]
theorem r_copy (np : Nat) {ix k0 k1 n : Nat} {i : Int} (hd : decode M.2.1 pc = .ok (.invokestatic ix, 3)) (hn : pc + 3 = np) (hL : LKC M.1.cls ix) (hdd : Nat.ble 1 d = true) (hw : Nat.ble (stW st) 2 = true) (hk0 : k0 < gN G) (hk1 : k1 < gN G) (hs0 : gs G k0 = 0) (hs1 : gs G k1 = 0) (hi : i = (n : Int)) (hl0 : n ≤ gl G k0) (hl1 : n ≤ gl G k1) (kk : Rr l G d M Φ np ls st (cpy h k0 k1 n)) : Rr l G d M Φ pc ls (vI i :: vI 0 :: vR k1 :: vI 0 :: vR k0 :: st) h := by
  subst hn hi
  intro p e s m args below meth c H locs lc C hl hP hS hk
  have hi : in32 (n : Int) := ok_hd hk.2.1
  have h1 := Nat.le_of_ble_eq_true hdd
  have h2 := Nat.le_of_ble_eq_true hw
  have e0 : (Int32.ofInt 0).toNatClampNeg = 0 := by decide
  have en : (Int32.ofInt (n : Int)).toNatClampNeg = n := by rw [i32_cl hi]; rfl
  have nn : ¬ Int32.ofInt (n : Int) < 0 := by rw [i32_0, i32_lt hi in32_0]; omega
  have n0 : ¬ Int32.ofInt 0 < 0 := by decide
  have hwd : nativeFrameWords "java/lang/System" "arraycopy" 5 + 11 ≤ 34 := by decide
  refine va_copyi (D := gD G) C.1 C.2.1 (C.2.2.2.1.trans hl.1.symm) C.2.2.2.2.1 (mc_w C hL) (mc_w C ww_cpy1) (mc_w C ww_cpy2) (mc_w C ww_sys) C.2.2.2.2.2.2.2.1 hP (ws_D C.2.2.2.2.2.2.2.2.2 h) hS k0 k1 0 0 (ty := .int) ((ws_at hk0).trans (by rw [ce_arr (by omega)])) ((ws_at hk1).trans (by rw [ce_arr (by omega)])) (by rw [hs0]; rfl) (by rw [hs1]; rfl) rfl n0 n0 nn (by rw [e0, en]; omega) (by rw [e0, en]; omega) (fun _ _ => rfl) h1 (by rw [stW_eq]; show stW st + _ ≤ 36 * d; omega) hd (fun H1 locs1 hP1 _ hS1 => ?_)
  rw [e0, en] at hP1
  have ec : va_cpy (fun j => Int32.ofInt (h k0 j)) (fun j => Int32.ofInt (h k1 j)) 0 0 n = fun j => Int32.ofInt (cpy h k0 k1 n k1 j) := by
    funext j
    simp only [va_cpy, cpy, Nat.zero_le, true_and, Nat.zero_add, Nat.sub_zero]
    split <;> rfl
  rw [ec, ← ce_arr (h := cpy h k0 k1 n) (by omega), ws_set' hk1 (fun a ha b => by simp [cpy, ha])] at hP1
  refine kk p e s m args below meth c H1 locs1 lc C hl hP1 hS1 ⟨hk.1, ok_tl (ok_tl (ok_tl (ok_tl (ok_tl hk.2.1)))), fun a b => ?_⟩
  unfold cpy
  split
  · exact hk.2.2 k0 b
  · exact hk.2.2 a b
theorem r_nlen (np : Nat) (hd : decode M.2.1 pc = .ok (.arraylength, 1)) (hn : pc + 1 = np) (kk : Rr l G d M Φ np ls (vI 7 :: st) h) : Rr l G d M Φ pc ls (vR 2000 :: st) h := by
  subst hn
  intro p e s m args below meth c H locs lc C hl hP hS hk
  obtain ⟨cell, q1, q2, q3, q4, q5, q6, q7⟩ := C.2.2.2.2.2.2.2.2.1.2.1.kept hS.2.1
  refine W.alen (n := Int32.ofNat 7) C.1 C.2.1 q1 q2 q5 rfl rfl hd ?_
  exact kk p e s m args below meth c H locs lc C hl hP hS ⟨hk.1, ok_c (v := vI 7) ⟨by decide, by decide⟩ (ok_tl hk.2.1), hk.2.2⟩
theorem r_nald (np : Nat) {i : Int} (hd : decode M.2.1 pc = .ok (.iaload, 1)) (hn : pc + 1 = np) (h0 : 0 ≤ i) (h1 : i < 7) (kk : Rr l G d M Φ np ls (vI (zNear i.toNat) :: st) h) : Rr l G d M Φ pc ls (vI i :: vR 2000 :: st) h := by
  subst hn
  intro p e s m args below meth c H locs lc C hl hP hS hk
  have hi : in32 i := ok_hd hk.2.1
  obtain ⟨cell, q1, q2, q3, q4, q5, q6, q7⟩ := C.2.2.2.2.2.2.2.2.1.2.1.kept hS.2.1
  refine W.iald (v := .int (Int32.ofInt (zNear i.toNat))) C.1 C.2.1 q1 q2 q3 (fun z => ?_) (by rw [i32_cl hi]; exact q6 _ (by omega)) rfl rfl hd ?_
  · rw [i32_cl hi, i32_0, i32_lt hi in32_0] at z
    omega
  · have hz : ∀ j, j < 7 → in32 (zNear j) := by
      intro j hj
      have : j = 0 ∨ j = 1 ∨ j = 2 ∨ j = 3 ∨ j = 4 ∨ j = 5 ∨ j = 6 := by omega
      rcases this with rfl | rfl | rfl | rfl | rfl | rfl | rfl <;> exact ⟨by decide, by decide⟩
    exact kk p e s m args below meth c H locs lc C hl hP hS ⟨hk.1, ok_c (v := vI _) (hz _ (by omega)) (ok_tl (ok_tl hk.2.1)), hk.2.2⟩
/-- a call site: class own, entry ix, is a call of the instance method M' of class ci with n parameters -/
def CV (own : String) (ix : Nat) (M' : zM) (n ci : Nat) : Prop := LKV own ix M' ∧ cOKm M' ∧ cOK M' n = true ∧ ci < 5 ∧ M'.1.cls = clN ci
def CS (own : String) (ix : Nat) (M' : zM) (n : Nat) : Prop := LKS own ix M' ∧ cOKm M' ∧ cOK M' n = true
variable {ix k ci d' : Nat} {M' : zM} {Ψ : Option zV → zH → Prop} {v1 v2 v3 v4 : zV}
theorem r_cv0 (np : Nat) (hd : decode M.2.1 pc = .ok (.invokevirtual ix, 3)) (hn : pc + 3 = np) (hC : CV M.1.cls ix M' 0 ci) (hk0 : k < gN G) (hs : gs G k = ci + 5) (hdd : Nat.ble (d' + 1) d = true) (hw : Nat.ble (stW st) 8 = true) (hM : Ca l G d' M' [vR k] h Ψ)
    (kk : ∀ r h', Ψ r h' → Rr l G d M Φ np ls (r.toList ++ st) h') : Rr l G d M Φ pc ls (vR k :: st) h :=
  r_callV np (as := []) hd hn hC.1 hC.2.1 hC.2.2.1 hC.2.2.2.1 hC.2.2.2.2 hk0 hs hdd hM (fun _ _ => rfl) hw kk
theorem r_cv1 (np : Nat) (hd : decode M.2.1 pc = .ok (.invokevirtual ix, 3)) (hn : pc + 3 = np) (hC : CV M.1.cls ix M' 1 ci) (hk0 : k < gN G) (hs : gs G k = ci + 5) (hdd : Nat.ble (d' + 1) d = true) (hw : Nat.ble (stW st) 8 = true) (hM : Ca l G d' M' [vR k, v1] h Ψ)
    (kk : ∀ r h', Ψ r h' → Rr l G d M Φ np ls (r.toList ++ st) h') : Rr l G d M Φ pc ls (v1 :: vR k :: st) h :=
  r_callV np (as := [v1]) hd hn hC.1 hC.2.1 hC.2.2.1 hC.2.2.2.1 hC.2.2.2.2 hk0 hs hdd hM (fun _ _ => rfl) hw kk
theorem r_cv2 (np : Nat) (hd : decode M.2.1 pc = .ok (.invokevirtual ix, 3)) (hn : pc + 3 = np) (hC : CV M.1.cls ix M' 2 ci) (hk0 : k < gN G) (hs : gs G k = ci + 5) (hdd : Nat.ble (d' + 1) d = true) (hw : Nat.ble (stW st) 8 = true) (hM : Ca l G d' M' [vR k, v1, v2] h Ψ)
    (kk : ∀ r h', Ψ r h' → Rr l G d M Φ np ls (r.toList ++ st) h') : Rr l G d M Φ pc ls (v2 :: v1 :: vR k :: st) h :=
  r_callV np (as := [v1, v2]) hd hn hC.1 hC.2.1 hC.2.2.1 hC.2.2.2.1 hC.2.2.2.2 hk0 hs hdd hM (fun _ _ => rfl) hw kk
theorem r_cv3 (np : Nat) (hd : decode M.2.1 pc = .ok (.invokevirtual ix, 3)) (hn : pc + 3 = np) (hC : CV M.1.cls ix M' 3 ci) (hk0 : k < gN G) (hs : gs G k = ci + 5) (hdd : Nat.ble (d' + 1) d = true) (hw : Nat.ble (stW st) 8 = true) (hM : Ca l G d' M' [vR k, v1, v2, v3] h Ψ)
    (kk : ∀ r h', Ψ r h' → Rr l G d M Φ np ls (r.toList ++ st) h') : Rr l G d M Φ pc ls (v3 :: v2 :: v1 :: vR k :: st) h :=
  r_callV np (as := [v1, v2, v3]) hd hn hC.1 hC.2.1 hC.2.2.1 hC.2.2.2.1 hC.2.2.2.2 hk0 hs hdd hM (fun _ _ => rfl) hw kk
theorem r_cv4 (np : Nat) (hd : decode M.2.1 pc = .ok (.invokevirtual ix, 3)) (hn : pc + 3 = np) (hC : CV M.1.cls ix M' 4 ci) (hk0 : k < gN G) (hs : gs G k = ci + 5) (hdd : Nat.ble (d' + 1) d = true) (hw : Nat.ble (stW st) 8 = true) (hM : Ca l G d' M' [vR k, v1, v2, v3, v4] h Ψ)
    (kk : ∀ r h', Ψ r h' → Rr l G d M Φ np ls (r.toList ++ st) h') : Rr l G d M Φ pc ls (v4 :: v3 :: v2 :: v1 :: vR k :: st) h :=
  r_callV np (as := [v1, v2, v3, v4]) hd hn hC.1 hC.2.1 hC.2.2.1 hC.2.2.2.1 hC.2.2.2.2 hk0 hs hdd hM (fun _ _ => rfl) hw kk
theorem r_cs1 (np : Nat) (hd : decode M.2.1 pc = .ok (.invokestatic ix, 3)) (hn : pc + 3 = np) (hC : CS M.1.cls ix M' 1) (hdd : Nat.ble (d' + 1) d = true) (hw : Nat.ble (stW st) 8 = true) (hM : Ca l G d' M' [v1] h Ψ)
    (kk : ∀ r h', Ψ r h' → Rr l G d M Φ np ls (r.toList ++ st) h') : Rr l G d M Φ pc ls (v1 :: st) h :=
  r_callS np (as := [v1]) hd hn hC.1 hC.2.1 hC.2.2 hdd hM rfl hw kk
theorem r_cs2 (np : Nat) (hd : decode M.2.1 pc = .ok (.invokestatic ix, 3)) (hn : pc + 3 = np) (hC : CS M.1.cls ix M' 2) (hdd : Nat.ble (d' + 1) d = true) (hw : Nat.ble (stW st) 8 = true) (hM : Ca l G d' M' [v1, v2] h Ψ)
    (kk : ∀ r h', Ψ r h' → Rr l G d M Φ np ls (r.toList ++ st) h') : Rr l G d M Φ pc ls (v2 :: v1 :: st) h :=
  r_callS np (as := [v1, v2]) hd hn hC.1 hC.2.1 hC.2.2 hdd hM rfl hw kk
theorem r_cs3 (np : Nat) (hd : decode M.2.1 pc = .ok (.invokestatic ix, 3)) (hn : pc + 3 = np) (hC : CS M.1.cls ix M' 3) (hdd : Nat.ble (d' + 1) d = true) (hw : Nat.ble (stW st) 8 = true) (hM : Ca l G d' M' [v1, v2, v3] h Ψ)
    (kk : ∀ r h', Ψ r h' → Rr l G d M Φ np ls (r.toList ++ st) h') : Rr l G d M Φ pc ls (v3 :: v2 :: v1 :: st) h :=
  r_callS np (as := [v1, v2, v3]) hd hn hC.1 hC.2.1 hC.2.2 hdd hM rfl hw kk
end RL
end
section
/-! methods, links, call sites: laid by wip/gen/lay.py -/
theorem ww_i (i : Nat) {w : Cond} (h : lw_tbl[i]? = some w) (g : goodWord w = true) : w ∈ ww := List.mem_filter.mpr ⟨List.mem_of_getElem? h, g⟩
def mX0_init : zM := (yX0_init, cX0_init, 1, none)
def mX0_put : zM := (yX0_put, cX0_put, 3, none)
def mX0_refusal : zM := (yX0_refusal, cX0_refusal, 3, (some .int))
def mX0_refusalOfPair : zM := (yX0_refusalOfPair, cX0_refusalOfPair, 4, (some .int))
def mX0_renew : zM := (yX0_renew, cX0_renew, 4, none)
def mX1_add : zM := (yX1_add, cX1_add, 2, (some .boolean))
def mX1_behindBlanks : zM := (yX1_behindBlanks, cX1_behindBlanks, 3, (some .int))
def mX1_behindFigures : zM := (yX1_behindFigures, cX1_behindFigures, 3, (some .int))
def mX1_behindLetters : zM := (yX1_behindLetters, cX1_behindLetters, 3, (some .int))
def mX1_fail : zM := (yX1_fail, cX1_fail, 3, none)
def mX1_init : zM := (yX1_init, cX1_init, 1, none)
def mX1_isFigure : zM := (yX1_isFigure, cX1_isFigure, 1, (some .boolean))
def mX1_isGood : zM := (yX1_isGood, cX1_isGood, 1, (some .boolean))
def mX1_isLetter : zM := (yX1_isLetter, cX1_isLetter, 1, (some .boolean))
def mX1_judgeNumber : zM := (yX1_judgeNumber, cX1_judgeNumber, 3, none)
def mX1_lineOfName : zM := (yX1_lineOfName, cX1_lineOfName, 2, (some .int))
def mX1_nameOfLine : zM := (yX1_nameOfLine, cX1_nameOfLine, 1, (some (.object "java/lang/String")))
def mX1_next : zM := (yX1_next, cX1_next, 3, none)
def mX1_numberOfToken : zM := (yX1_numberOfToken, cX1_numberOfToken, 3, (some .int))
def mX1_takeCloud : zM := (yX1_takeCloud, cX1_takeCloud, 3, none)
def mX1_takeDeed : zM := (yX1_takeDeed, cX1_takeDeed, 4, none)
def mX1_takeLine : zM := (yX1_takeLine, cX1_takeLine, 3, none)
def mX1_takeMan : zM := (yX1_takeMan, cX1_takeMan, 4, none)
def mX1_takeNumber : zM := (yX1_takeNumber, cX1_takeNumber, 3, (some .int))
def mX1_takePaint : zM := (yX1_takePaint, cX1_takePaint, 3, none)
def mX1_takeRota : zM := (yX1_takeRota, cX1_takeRota, 3, none)
def mX1_takeStop : zM := (yX1_takeStop, cX1_takeStop, 1, none)
def mX1_tell : zM := (yX1_tell, cX1_tell, 4, (some .int))
def mX1_tokenSpells : zM := (yX1_tokenSpells, cX1_tokenSpells, 3, (some .boolean))
def mX2_addDeed : zM := (yX2_addDeed, cX2_addDeed, 3, (some .boolean))
def mX2_addMan : zM := (yX2_addMan, cX2_addMan, 3, (some .boolean))
def mX2_allWhoStandAreThere : zM := (yX2_allWhoStandAreThere, cX2_allWhoStandAreThere, 2, (some .boolean))
def mX2_allWorth : zM := (yX2_allWorth, cX2_allWorth, 3, (some .int))
def mX2_clear : zM := (yX2_clear, cX2_clear, 1, none)
def mX2_copyOf : zM := (yX2_copyOf, cX2_copyOf, 2, none)
def mX2_doneAt : zM := (yX2_doneAt, cX2_doneAt, 4, (some .int))
def mX2_exchange : zM := (yX2_exchange, cX2_exchange, 4, none)
def mX2_firstIn : zM := (yX2_firstIn, cX2_firstIn, 5, (some .int))
def mX2_harm : zM := (yX2_harm, cX2_harm, 3, (some .int))
def mX2_harmAt : zM := (yX2_harmAt, cX2_harmAt, 3, (some .int))
def mX2_hasDeed : zM := (yX2_hasDeed, cX2_hasDeed, 2, (some .boolean))
def mX2_hasMan : zM := (yX2_hasMan, cX2_hasMan, 2, (some .boolean))
def mX2_hoursOf : zM := (yX2_hoursOf, cX2_hoursOf, 4, (some .int))
def mX2_hoursStood : zM := (yX2_hoursStood, cX2_hoursStood, 3, (some .int))
def mX2_init : zM := (yX2_init, cX2_init, 1, none)
def mX2_isCloudy : zM := (yX2_isCloudy, cX2_isCloudy, 2, (some .boolean))
def mX2_longestStood : zM := (yX2_longestStood, cX2_longestStood, 5, (some .int))
def mX2_quartersRead : zM := (yX2_quartersRead, cX2_quartersRead, 3, (some .int))
def mX2_reading : zM := (yX2_reading, cX2_reading, 3, (some .int))
def mX2_readsIn : zM := (yX2_readsIn, cX2_readsIn, 2, (some .boolean))
def mX2_reckonBends : zM := (yX2_reckonBends, cX2_reckonBends, 5, none)
def mX2_setAllStand : zM := (yX2_setAllStand, cX2_setAllStand, 3, none)
def mX2_setCloudy : zM := (yX2_setCloudy, cX2_setCloudy, 3, none)
def mX2_setKind : zM := (yX2_setKind, cX2_setKind, 3, none)
def mX2_setLean : zM := (yX2_setLean, cX2_setLean, 3, none)
def mX2_setPainted : zM := (yX2_setPainted, cX2_setPainted, 2, none)
def mX2_setStands : zM := (yX2_setStands, cX2_setStands, 3, none)
def mX2_slip : zM := (yX2_slip, cX2_slip, 3, (some .int))
def mX3_alter : zM := (yX3_alter, cX3_alter, 5, (some .int))
def mX3_ask : zM := (yX3_ask, cX3_ask, 8, (some .int))
def mX3_back : zM := (yX3_back, cX3_back, 2, (some .int))
def mX3_cloud : zM := (yX3_cloud, cX3_cloud, 4, (some .int))
def mX3_count : zM := (yX3_count, cX3_count, 2, (some .int))
def mX3_deed : zM := (yX3_deed, cX3_deed, 3, (some .int))
def mX3_done : zM := (yX3_done, cX3_done, 4, (some .int))
def mX3_drawn : zM := (yX3_drawn, cX3_drawn, 2, (some .int))
def mX3_drift : zM := (yX3_drift, cX3_drift, 9, (some .int))
def mX3_drop : zM := (yX3_drop, cX3_drop, 3, (some .int))
def mX3_end : zM := (yX3_end, cX3_end, 3, (some .int))
def mX3_fault : zM := (yX3_fault, cX3_fault, 1, (some .int))
def mX3_feed : zM := (yX3_feed, cX3_feed, 2, (some .int))
def mX3_forget : zM := (yX3_forget, cX3_forget, 3, (some .int))
def mX3_give : zM := (yX3_give, cX3_give, 7, (some .int))
def mX3_harmOfSwapped : zM := (yX3_harmOfSwapped, cX3_harmOfSwapped, 4, (some .int))
def mX3_imagesKept : zM := (yX3_imagesKept, cX3_imagesKept, 3, (some .int))
def mX3_init : zM := (yX3_init, cX3_init, 2, none)
def mX3_isFirstOrSecond : zM := (yX3_isFirstOrSecond, cX3_isFirstOrSecond, 1, (some .boolean))
def mX3_isHour : zM := (yX3_isHour, cX3_isHour, 1, (some .boolean))
def mX3_isLane : zM := (yX3_isLane, cX3_isLane, 1, (some .boolean))
def mX3_isQuarter : zM := (yX3_isQuarter, cX3_isQuarter, 1, (some .boolean))
def mX3_isSheet : zM := (yX3_isSheet, cX3_isSheet, 1, (some .boolean))
def mX3_isWorth : zM := (yX3_isWorth, cX3_isWorth, 1, (some .boolean))
def mX3_keep : zM := (yX3_keep, cX3_keep, 3, (some .int))
def mX3_kinds : zM := (yX3_kinds, cX3_kinds, 4, (some .int))
def mX3_lay : zM := (yX3_lay, cX3_lay, 6, (some .int))
def mX3_lean : zM := (yX3_lean, cX3_lean, 9, (some .int))
def mX3_leans : zM := (yX3_leans, cX3_leans, 2, (some .int))
def mX3_leansAsSeen : zM := (yX3_leansAsSeen, cX3_leansAsSeen, 4, (some .int))
def mX3_lost : zM := (yX3_lost, cX3_lost, 7, (some .int))
def mX3_luck : zM := (yX3_luck, cX3_luck, 4, (some .long))
def mX3_man : zM := (yX3_man, cX3_man, 3, (some .int))
def mX3_mark : zM := (yX3_mark, cX3_mark, 6, (some .int))
def mX3_mayStand : zM := (yX3_mayStand, cX3_mayStand, 3, (some .boolean))
def mX3_mean : zM := (yX3_mean, cX3_mean, 6, (some .long))
def mX3_mostLeft : zM := (yX3_mostLeft, cX3_mostLeft, 8, (some .int))
def mX3_move : zM := (yX3_move, cX3_move, 5, (some .int))
def mX3_nextSeed : zM := (yX3_nextSeed, cX3_nextSeed, 1, (some .int))
def mX3_oddsOfNever : zM := (yX3_oddsOfNever, cX3_oddsOfNever, 6, (some .long))
def mX3_paint : zM := (yX3_paint, cX3_paint, 3, (some .int))
def mX3_partOfFraction : zM := (yX3_partOfFraction, cX3_partOfFraction, 10, (some .long))
def mX3_read : zM := (yX3_read, cX3_read, 10, (some .int))
def mX3_rota : zM := (yX3_rota, cX3_rota, 2, (some .int))
def mX3_rule : zM := (yX3_rule, cX3_rule, 2, (some .int))
def mX3_see : zM := (yX3_see, cX3_see, 3, (some .int))
def mX3_sheet : zM := (yX3_sheet, cX3_sheet, 4, (some .int))
def mX3_shift : zM := (yX3_shift, cX3_shift, 4, (some .int))
def mX3_shows : zM := (yX3_shows, cX3_shows, 2, (some .int))
def mX3_sole : zM := (yX3_sole, cX3_sole, 6, (some .int))
def mX3_swap : zM := (yX3_swap, cX3_swap, 7, (some .int))
def mX3_text : zM := (yX3_text, cX3_text, 3, (some .int))
def mX3_timelinessOf : zM := (yX3_timelinessOf, cX3_timelinessOf, 3, (some .int))
def mX3_torn : zM := (yX3_torn, cX3_torn, 1, (some .int))
def mX3_trialIsAsSeen : zM := (yX3_trialIsAsSeen, cX3_trialIsAsSeen, 3, (some .boolean))
def mX3_want : zM := (yX3_want, cX3_want, 3, (some .int))
def mX3_weighedHarm : zM := (yX3_weighedHarm, cX3_weighedHarm, 9, (some .long))
def mX3_worst : zM := (yX3_worst, cX3_worst, 6, (some .int))
def mX4_alter : zM := (yX4_alter, cX4_alter, 4, (some .int))
def mX4_ask : zM := (yX4_ask, cX4_ask, 10, (some .int))
def mX4_back : zM := (yX4_back, cX4_back, 2, (some .int))
def mX4_bitsOf : zM := (yX4_bitsOf, cX4_bitsOf, 3, (some .int))
def mX4_byClouds : zM := (yX4_byClouds, cX4_byClouds, 14, (some .long))
def mX4_byteAt : zM := (yX4_byteAt, cX4_byteAt, 2, (some .int))
def mX4_cloud : zM := (yX4_cloud, cX4_cloud, 4, (some .int))
def mX4_copies : zM := (yX4_copies, cX4_copies, 4, none)
def mX4_count : zM := (yX4_count, cX4_count, 5, (some .int))
def mX4_deed : zM := (yX4_deed, cX4_deed, 3, (some .int))
def mX4_done : zM := (yX4_done, cX4_done, 7, (some .int))
def mX4_doneIn : zM := (yX4_doneIn, cX4_doneIn, 3, (some .int))
def mX4_draws : zM := (yX4_draws, cX4_draws, 2, (some .int))
def mX4_drift : zM := (yX4_drift, cX4_drift, 8, (some .int))
def mX4_drop : zM := (yX4_drop, cX4_drop, 2, (some .int))
def mX4_end : zM := (yX4_end, cX4_end, 3, (some .int))
def mX4_fails : zM := (yX4_fails, cX4_fails, 2, none)
def mX4_fault : zM := (yX4_fault, cX4_fault, 1, (some .int))
def mX4_feed : zM := (yX4_feed, cX4_feed, 2, (some .int))
def mX4_forget : zM := (yX4_forget, cX4_forget, 3, (some .int))
def mX4_give : zM := (yX4_give, cX4_give, 6, (some .int))
def mX4_harm : zM := (yX4_harm, cX4_harm, 3, (some .int))
def mX4_harmOf : zM := (yX4_harmOf, cX4_harmOf, 4, (some .int))
def mX4_hoursOf : zM := (yX4_hoursOf, cX4_hoursOf, 4, (some .int))
def mX4_in : zM := (yX4_in, cX4_in, 6, (some .boolean))
def mX4_init : zM := (yX4_init, cX4_init, 1, none)
def mX4_isAsSeen : zM := (yX4_isAsSeen, cX4_isAsSeen, 3, (some .boolean))
def mX4_isDeed : zM := (yX4_isDeed, cX4_isDeed, 2, (some .boolean))
def mX4_isHour : zM := (yX4_isHour, cX4_isHour, 1, (some .boolean))
def mX4_isLess : zM := (yX4_isLess, cX4_isLess, 3, (some .boolean))
def mX4_isMan : zM := (yX4_isMan, cX4_isMan, 2, (some .boolean))
def mX4_keep : zM := (yX4_keep, cX4_keep, 3, (some .int))
def mX4_kinds : zM := (yX4_kinds, cX4_kinds, 5, (some .int))
def mX4_lay : zM := (yX4_lay, cX4_lay, 4, (some .int))
def mX4_laysReads : zM := (yX4_laysReads, cX4_laysReads, 5, none)
def mX4_lean : zM := (yX4_lean, cX4_lean, 10, (some .int))
def mX4_leans : zM := (yX4_leans, cX4_leans, 2, (some .int))
def mX4_leansOf : zM := (yX4_leansOf, cX4_leansOf, 6, (some .int))
def mX4_lost : zM := (yX4_lost, cX4_lost, 7, (some .int))
def mX4_lowest : zM := (yX4_lowest, cX4_lowest, 11, (some .long))
def mX4_luck : zM := (yX4_luck, cX4_luck, 4, (some .long))
def mX4_man : zM := (yX4_man, cX4_man, 5, (some .int))
def mX4_mark : zM := (yX4_mark, cX4_mark, 5, (some .int))
def mX4_mean : zM := (yX4_mean, cX4_mean, 3, (some .long))
def mX4_move : zM := (yX4_move, cX4_move, 4, (some .int))
def mX4_nameHere : zM := (yX4_nameHere, cX4_nameHere, 4, (some .int))
def mX4_orNone : zM := (yX4_orNone, cX4_orNone, 1, (some .int))
def mX4_other : zM := (yX4_other, cX4_other, 5, (some .int))
def mX4_paint : zM := (yX4_paint, cX4_paint, 2, (some .int))
def mX4_puts : zM := (yX4_puts, cX4_puts, 6, (some .int))
def mX4_read : zM := (yX4_read, cX4_read, 9, (some .int))
def mX4_readLine : zM := (yX4_readLine, cX4_readLine, 2, none)
def mX4_readMore : zM := (yX4_readMore, cX4_readMore, 2, none)
def mX4_readRota : zM := (yX4_readRota, cX4_readRota, 2, none)
def mX4_rota : zM := (yX4_rota, cX4_rota, 2, (some .int))
def mX4_rule : zM := (yX4_rule, cX4_rule, 2, (some .int))
def mX4_see : zM := (yX4_see, cX4_see, 3, (some .int))
def mX4_sheet : zM := (yX4_sheet, cX4_sheet, 5, (some .int))
def mX4_shift : zM := (yX4_shift, cX4_shift, 3, (some .int))
def mX4_shifts : zM := (yX4_shifts, cX4_shifts, 4, (some .int))
def mX4_shows : zM := (yX4_shows, cX4_shows, 2, (some .int))
def mX4_slipIn : zM := (yX4_slipIn, cX4_slipIn, 3, (some .int))
def mX4_sole : zM := (yX4_sole, cX4_sole, 5, (some .int))
def mX4_standsIn : zM := (yX4_standsIn, cX4_standsIn, 2, (some .int))
def mX4_step : zM := (yX4_step, cX4_step, 2, none)
def mX4_stoodIn : zM := (yX4_stoodIn, cX4_stoodIn, 4, (some .int))
def mX4_swap : zM := (yX4_swap, cX4_swap, 7, (some .int))
def mX4_text : zM := (yX4_text, cX4_text, 3, (some .int))
def mX4_torn : zM := (yX4_torn, cX4_torn, 1, (some .int))
def mX4_want : zM := (yX4_want, cX4_want, 3, (some .int))
def mX4_worst : zM := (yX4_worst, cX4_worst, 6, (some .int))
theorem kf_0_9 : LKF RX0 9 0 0 := ⟨by decide, by decide, (ww_i 174 (by decide +kernel) (by decide +kernel))⟩
theorem kf_0_15 : LKF RX0 15 0 1 := ⟨by decide, by decide, (ww_i 176 (by decide +kernel) (by decide +kernel))⟩
theorem kf_0_19 : LKF RX0 19 0 2 := ⟨by decide, by decide, (ww_i 178 (by decide +kernel) (by decide +kernel))⟩
theorem cm_X0_refusal : cOKm mX0_refusal := (ww_i 699 (by decide +kernel) (by decide +kernel))
theorem cn_X0_refusal : cOK mX0_refusal 2 = true := by decide +kernel
theorem ci_X0_refusal : Cond.initialized mX0_refusal.1.cls ∈ ww := (ww_i 39 (by decide +kernel) (by decide +kernel))
theorem kv_0_22 : CV RX0 22 mX0_refusal 2 0 := ⟨⟨(ww_i 712 (by decide +kernel) (by decide +kernel)), (ww_i 697 (by decide +kernel) (by decide +kernel)), (ww_i 698 (by decide +kernel) (by decide +kernel)), ci_X0_refusal⟩, cm_X0_refusal, cn_X0_refusal, by decide, rfl⟩
theorem kf_1_11 : LKF RX1 11 1 0 := ⟨by decide, by decide, (ww_i 131 (by decide +kernel) (by decide +kernel))⟩
theorem kf_1_15 : LKF RX1 15 1 1 := ⟨by decide, by decide, (ww_i 132 (by decide +kernel) (by decide +kernel))⟩
theorem cm_X2_clear : cOKm mX2_clear := (ww_i 65 (by decide +kernel) (by decide +kernel))
theorem cn_X2_clear : cOK mX2_clear 0 = true := by decide +kernel
theorem ci_X2_clear : Cond.initialized mX2_clear.1.cls ∈ ww := (ww_i 37 (by decide +kernel) (by decide +kernel))
theorem kv_1_19 : CV RX1 19 mX2_clear 0 2 := ⟨⟨(ww_i 241 (by decide +kernel) (by decide +kernel)), (ww_i 63 (by decide +kernel) (by decide +kernel)), (ww_i 64 (by decide +kernel) (by decide +kernel)), ci_X2_clear⟩, cm_X2_clear, cn_X2_clear, by decide, rfl⟩
theorem kf_1_24 : LKF RX1 24 1 2 := ⟨by decide, by decide, (ww_i 134 (by decide +kernel) (by decide +kernel))⟩
theorem kf_1_27 : LKF RX1 27 1 3 := ⟨by decide, by decide, (ww_i 136 (by decide +kernel) (by decide +kernel))⟩
theorem kf_1_30 : LKF RX1 30 1 6 := ⟨by decide, by decide, (ww_i 140 (by decide +kernel) (by decide +kernel))⟩
theorem kf_1_33 : LKF RX1 33 1 8 := ⟨by decide, by decide, (ww_i 142 (by decide +kernel) (by decide +kernel))⟩
theorem kf_1_37 : LKF RX1 37 1 9 := ⟨by decide, by decide, (ww_i 143 (by decide +kernel) (by decide +kernel))⟩
theorem cm_X1_next : cOKm mX1_next := (ww_i 245 (by decide +kernel) (by decide +kernel))
theorem cn_X1_next : cOK mX1_next 0 = true := by decide +kernel
theorem ci_X1_next : Cond.initialized mX1_next.1.cls ∈ ww := (ww_i 38 (by decide +kernel) (by decide +kernel))
theorem kv_1_40 : CV RX1 40 mX1_next 0 1 := ⟨⟨(ww_i 242 (by decide +kernel) (by decide +kernel)), (ww_i 243 (by decide +kernel) (by decide +kernel)), (ww_i 244 (by decide +kernel) (by decide +kernel)), ci_X1_next⟩, cm_X1_next, cn_X1_next, by decide, rfl⟩
theorem cm_X1_isGood : cOKm mX1_isGood := (ww_i 275 (by decide +kernel) (by decide +kernel))
theorem cn_X1_isGood : cOK mX1_isGood 0 = true := by decide +kernel
theorem ci_X1_isGood : Cond.initialized mX1_isGood.1.cls ∈ ww := (ww_i 38 (by decide +kernel) (by decide +kernel))
theorem kv_1_43 : CV RX1 43 mX1_isGood 0 1 := ⟨⟨(ww_i 272 (by decide +kernel) (by decide +kernel)), (ww_i 273 (by decide +kernel) (by decide +kernel)), (ww_i 274 (by decide +kernel) (by decide +kernel)), ci_X1_isGood⟩, cm_X1_isGood, cn_X1_isGood, by decide, rfl⟩
theorem kf_1_47 : LKF RX1 47 1 4 := ⟨by decide, by decide, (ww_i 138 (by decide +kernel) (by decide +kernel))⟩
theorem cm_X1_takeLine : cOKm mX1_takeLine := (ww_i 279 (by decide +kernel) (by decide +kernel))
theorem cn_X1_takeLine : cOK mX1_takeLine 1 = true := by decide +kernel
theorem ci_X1_takeLine : Cond.initialized mX1_takeLine.1.cls ∈ ww := (ww_i 38 (by decide +kernel) (by decide +kernel))
theorem kv_1_50 : CV RX1 50 mX1_takeLine 1 1 := ⟨⟨(ww_i 276 (by decide +kernel) (by decide +kernel)), (ww_i 277 (by decide +kernel) (by decide +kernel)), (ww_i 278 (by decide +kernel) (by decide +kernel)), ci_X1_takeLine⟩, cm_X1_takeLine, cn_X1_takeLine, by decide, rfl⟩
theorem cm_X2_allWhoStandAreThere : cOKm mX2_allWhoStandAreThere := (ww_i 406 (by decide +kernel) (by decide +kernel))
theorem cn_X2_allWhoStandAreThere : cOK mX2_allWhoStandAreThere 0 = true := by decide +kernel
theorem ci_X2_allWhoStandAreThere : Cond.initialized mX2_allWhoStandAreThere.1.cls ∈ ww := (ww_i 37 (by decide +kernel) (by decide +kernel))
theorem kv_1_54 : CV RX1 54 mX2_allWhoStandAreThere 0 2 := ⟨⟨(ww_i 403 (by decide +kernel) (by decide +kernel)), (ww_i 404 (by decide +kernel) (by decide +kernel)), (ww_i 405 (by decide +kernel) (by decide +kernel)), ci_X2_allWhoStandAreThere⟩, cm_X2_allWhoStandAreThere, cn_X2_allWhoStandAreThere, by decide, rfl⟩
theorem cm_X1_fail : cOKm mX1_fail := (ww_i 271 (by decide +kernel) (by decide +kernel))
theorem cn_X1_fail : cOK mX1_fail 2 = true := by decide +kernel
theorem ci_X1_fail : Cond.initialized mX1_fail.1.cls ∈ ww := (ww_i 38 (by decide +kernel) (by decide +kernel))
theorem kv_1_57 : CV RX1 57 mX1_fail 2 1 := ⟨⟨(ww_i 268 (by decide +kernel) (by decide +kernel)), (ww_i 269 (by decide +kernel) (by decide +kernel)), (ww_i 270 (by decide +kernel) (by decide +kernel)), ci_X1_fail⟩, cm_X1_fail, cn_X1_fail, by decide, rfl⟩
theorem cm_X1_lineOfName : cOKm mX1_lineOfName := (ww_i 283 (by decide +kernel) (by decide +kernel))
theorem cn_X1_lineOfName : cOK mX1_lineOfName 0 = true := by decide +kernel
theorem ci_X1_lineOfName : Cond.initialized mX1_lineOfName.1.cls ∈ ww := (ww_i 38 (by decide +kernel) (by decide +kernel))
theorem kv_1_61 : CV RX1 61 mX1_lineOfName 0 1 := ⟨⟨(ww_i 280 (by decide +kernel) (by decide +kernel)), (ww_i 281 (by decide +kernel) (by decide +kernel)), (ww_i 282 (by decide +kernel) (by decide +kernel)), ci_X1_lineOfName⟩, cm_X1_lineOfName, cn_X1_lineOfName, by decide, rfl⟩
theorem kf_1_65 : LKF RX1 65 1 5 := ⟨by decide, by decide, (ww_i 139 (by decide +kernel) (by decide +kernel))⟩
theorem cm_X1_takeRota : cOKm mX1_takeRota := (ww_i 350 (by decide +kernel) (by decide +kernel))
theorem cn_X1_takeRota : cOK mX1_takeRota 1 = true := by decide +kernel
theorem ci_X1_takeRota : Cond.initialized mX1_takeRota.1.cls ∈ ww := (ww_i 38 (by decide +kernel) (by decide +kernel))
theorem kv_1_68 : CV RX1 68 mX1_takeRota 1 1 := ⟨⟨(ww_i 347 (by decide +kernel) (by decide +kernel)), (ww_i 348 (by decide +kernel) (by decide +kernel)), (ww_i 349 (by decide +kernel) (by decide +kernel)), ci_X1_takeRota⟩, cm_X1_takeRota, cn_X1_takeRota, by decide, rfl⟩
theorem cm_X1_takeCloud : cOKm mX1_takeCloud := (ww_i 362 (by decide +kernel) (by decide +kernel))
theorem cn_X1_takeCloud : cOK mX1_takeCloud 1 = true := by decide +kernel
theorem ci_X1_takeCloud : Cond.initialized mX1_takeCloud.1.cls ∈ ww := (ww_i 38 (by decide +kernel) (by decide +kernel))
theorem kv_1_71 : CV RX1 71 mX1_takeCloud 1 1 := ⟨⟨(ww_i 359 (by decide +kernel) (by decide +kernel)), (ww_i 360 (by decide +kernel) (by decide +kernel)), (ww_i 361 (by decide +kernel) (by decide +kernel)), ci_X1_takeCloud⟩, cm_X1_takeCloud, cn_X1_takeCloud, by decide, rfl⟩
theorem cm_X1_takePaint : cOKm mX1_takePaint := (ww_i 382 (by decide +kernel) (by decide +kernel))
theorem cn_X1_takePaint : cOK mX1_takePaint 1 = true := by decide +kernel
theorem ci_X1_takePaint : Cond.initialized mX1_takePaint.1.cls ∈ ww := (ww_i 38 (by decide +kernel) (by decide +kernel))
theorem kv_1_74 : CV RX1 74 mX1_takePaint 1 1 := ⟨⟨(ww_i 379 (by decide +kernel) (by decide +kernel)), (ww_i 380 (by decide +kernel) (by decide +kernel)), (ww_i 381 (by decide +kernel) (by decide +kernel)), ci_X1_takePaint⟩, cm_X1_takePaint, cn_X1_takePaint, by decide, rfl⟩
theorem cm_X1_takeDeed : cOKm mX1_takeDeed := (ww_i 390 (by decide +kernel) (by decide +kernel))
theorem cn_X1_takeDeed : cOK mX1_takeDeed 1 = true := by decide +kernel
theorem ci_X1_takeDeed : Cond.initialized mX1_takeDeed.1.cls ∈ ww := (ww_i 38 (by decide +kernel) (by decide +kernel))
theorem kv_1_77 : CV RX1 77 mX1_takeDeed 1 1 := ⟨⟨(ww_i 387 (by decide +kernel) (by decide +kernel)), (ww_i 388 (by decide +kernel) (by decide +kernel)), (ww_i 389 (by decide +kernel) (by decide +kernel)), ci_X1_takeDeed⟩, cm_X1_takeDeed, cn_X1_takeDeed, by decide, rfl⟩
theorem cm_X1_takeMan : cOKm mX1_takeMan := (ww_i 398 (by decide +kernel) (by decide +kernel))
theorem cn_X1_takeMan : cOK mX1_takeMan 2 = true := by decide +kernel
theorem ci_X1_takeMan : Cond.initialized mX1_takeMan.1.cls ∈ ww := (ww_i 38 (by decide +kernel) (by decide +kernel))
theorem kv_1_80 : CV RX1 80 mX1_takeMan 2 1 := ⟨⟨(ww_i 395 (by decide +kernel) (by decide +kernel)), (ww_i 396 (by decide +kernel) (by decide +kernel)), (ww_i 397 (by decide +kernel) (by decide +kernel)), ci_X1_takeMan⟩, cm_X1_takeMan, cn_X1_takeMan, by decide, rfl⟩
theorem kf_1_84 : LKF RX1 84 2 6 := ⟨by decide, by decide, (ww_i 94 (by decide +kernel) (by decide +kernel))⟩
theorem cm_X1_takeNumber : cOKm mX1_takeNumber := (ww_i 366 (by decide +kernel) (by decide +kernel))
theorem cn_X1_takeNumber : cOK mX1_takeNumber 2 = true := by decide +kernel
theorem ci_X1_takeNumber : Cond.initialized mX1_takeNumber.1.cls ∈ ww := (ww_i 38 (by decide +kernel) (by decide +kernel))
theorem kv_1_87 : CV RX1 87 mX1_takeNumber 2 1 := ⟨⟨(ww_i 363 (by decide +kernel) (by decide +kernel)), (ww_i 364 (by decide +kernel) (by decide +kernel)), (ww_i 365 (by decide +kernel) (by decide +kernel)), ci_X1_takeNumber⟩, cm_X1_takeNumber, cn_X1_takeNumber, by decide, rfl⟩
theorem cm_X2_addMan : cOKm mX2_addMan := (ww_i 402 (by decide +kernel) (by decide +kernel))
theorem cn_X2_addMan : cOK mX2_addMan 2 = true := by decide +kernel
theorem ci_X2_addMan : Cond.initialized mX2_addMan.1.cls ∈ ww := (ww_i 37 (by decide +kernel) (by decide +kernel))
theorem kv_1_91 : CV RX1 91 mX2_addMan 2 2 := ⟨⟨(ww_i 399 (by decide +kernel) (by decide +kernel)), (ww_i 400 (by decide +kernel) (by decide +kernel)), (ww_i 401 (by decide +kernel) (by decide +kernel)), ci_X2_addMan⟩, cm_X2_addMan, cn_X2_addMan, by decide, rfl⟩
theorem cm_X1_takeStop : cOKm mX1_takeStop := (ww_i 378 (by decide +kernel) (by decide +kernel))
theorem cn_X1_takeStop : cOK mX1_takeStop 0 = true := by decide +kernel
theorem ci_X1_takeStop : Cond.initialized mX1_takeStop.1.cls ∈ ww := (ww_i 38 (by decide +kernel) (by decide +kernel))
theorem kv_1_95 : CV RX1 95 mX1_takeStop 0 1 := ⟨⟨(ww_i 375 (by decide +kernel) (by decide +kernel)), (ww_i 376 (by decide +kernel) (by decide +kernel)), (ww_i 377 (by decide +kernel) (by decide +kernel)), ci_X1_takeStop⟩, cm_X1_takeStop, cn_X1_takeStop, by decide, rfl⟩
theorem cm_X1_judgeNumber : cOKm mX1_judgeNumber := (ww_i 354 (by decide +kernel) (by decide +kernel))
theorem cn_X1_judgeNumber : cOK mX1_judgeNumber 2 = true := by decide +kernel
theorem ci_X1_judgeNumber : Cond.initialized mX1_judgeNumber.1.cls ∈ ww := (ww_i 38 (by decide +kernel) (by decide +kernel))
theorem kv_1_98 : CV RX1 98 mX1_judgeNumber 2 1 := ⟨⟨(ww_i 351 (by decide +kernel) (by decide +kernel)), (ww_i 352 (by decide +kernel) (by decide +kernel)), (ww_i 353 (by decide +kernel) (by decide +kernel)), ci_X1_judgeNumber⟩, cm_X1_judgeNumber, cn_X1_judgeNumber, by decide, rfl⟩
theorem kf_1_101 : LKF RX1 101 1 7 := ⟨by decide, by decide, (ww_i 141 (by decide +kernel) (by decide +kernel))⟩
theorem cm_X2_setStands : cOKm mX2_setStands := (ww_i 358 (by decide +kernel) (by decide +kernel))
theorem cn_X2_setStands : cOK mX2_setStands 2 = true := by decide +kernel
theorem ci_X2_setStands : Cond.initialized mX2_setStands.1.cls ∈ ww := (ww_i 37 (by decide +kernel) (by decide +kernel))
theorem kv_1_104 : CV RX1 104 mX2_setStands 2 2 := ⟨⟨(ww_i 355 (by decide +kernel) (by decide +kernel)), (ww_i 356 (by decide +kernel) (by decide +kernel)), (ww_i 357 (by decide +kernel) (by decide +kernel)), ci_X2_setStands⟩, cm_X2_setStands, cn_X2_setStands, by decide, rfl⟩
theorem cm_X2_isCloudy : cOKm mX2_isCloudy := (ww_i 370 (by decide +kernel) (by decide +kernel))
theorem cn_X2_isCloudy : cOK mX2_isCloudy 1 = true := by decide +kernel
theorem ci_X2_isCloudy : Cond.initialized mX2_isCloudy.1.cls ∈ ww := (ww_i 37 (by decide +kernel) (by decide +kernel))
theorem kv_1_107 : CV RX1 107 mX2_isCloudy 1 2 := ⟨⟨(ww_i 367 (by decide +kernel) (by decide +kernel)), (ww_i 368 (by decide +kernel) (by decide +kernel)), (ww_i 369 (by decide +kernel) (by decide +kernel)), ci_X2_isCloudy⟩, cm_X2_isCloudy, cn_X2_isCloudy, by decide, rfl⟩
theorem cm_X2_setCloudy : cOKm mX2_setCloudy := (ww_i 374 (by decide +kernel) (by decide +kernel))
theorem cn_X2_setCloudy : cOK mX2_setCloudy 2 = true := by decide +kernel
theorem ci_X2_setCloudy : Cond.initialized mX2_setCloudy.1.cls ∈ ww := (ww_i 37 (by decide +kernel) (by decide +kernel))
theorem kv_1_111 : CV RX1 111 mX2_setCloudy 2 2 := ⟨⟨(ww_i 371 (by decide +kernel) (by decide +kernel)), (ww_i 372 (by decide +kernel) (by decide +kernel)), (ww_i 373 (by decide +kernel) (by decide +kernel)), ci_X2_setCloudy⟩, cm_X2_setCloudy, cn_X2_setCloudy, by decide, rfl⟩
theorem cm_X2_setPainted : cOKm mX2_setPainted := (ww_i 386 (by decide +kernel) (by decide +kernel))
theorem cn_X2_setPainted : cOK mX2_setPainted 1 = true := by decide +kernel
theorem ci_X2_setPainted : Cond.initialized mX2_setPainted.1.cls ∈ ww := (ww_i 37 (by decide +kernel) (by decide +kernel))
theorem kv_1_115 : CV RX1 115 mX2_setPainted 1 2 := ⟨⟨(ww_i 383 (by decide +kernel) (by decide +kernel)), (ww_i 384 (by decide +kernel) (by decide +kernel)), (ww_i 385 (by decide +kernel) (by decide +kernel)), ci_X2_setPainted⟩, cm_X2_setPainted, cn_X2_setPainted, by decide, rfl⟩
theorem kf_1_119 : LKF RX1 119 2 7 := ⟨by decide, by decide, (ww_i 97 (by decide +kernel) (by decide +kernel))⟩
theorem cm_X2_addDeed : cOKm mX2_addDeed := (ww_i 394 (by decide +kernel) (by decide +kernel))
theorem cn_X2_addDeed : cOK mX2_addDeed 2 = true := by decide +kernel
theorem ci_X2_addDeed : Cond.initialized mX2_addDeed.1.cls ∈ ww := (ww_i 37 (by decide +kernel) (by decide +kernel))
theorem kv_1_122 : CV RX1 122 mX2_addDeed 2 2 := ⟨⟨(ww_i 391 (by decide +kernel) (by decide +kernel)), (ww_i 392 (by decide +kernel) (by decide +kernel)), (ww_i 393 (by decide +kernel) (by decide +kernel)), ci_X2_addDeed⟩, cm_X2_addDeed, cn_X2_addDeed, by decide, rfl⟩
theorem cm_X1_behindBlanks : cOKm mX1_behindBlanks := (ww_i 249 (by decide +kernel) (by decide +kernel))
theorem cn_X1_behindBlanks : cOK mX1_behindBlanks 1 = true := by decide +kernel
theorem ci_X1_behindBlanks : Cond.initialized mX1_behindBlanks.1.cls ∈ ww := (ww_i 38 (by decide +kernel) (by decide +kernel))
theorem kv_1_125 : CV RX1 125 mX1_behindBlanks 1 1 := ⟨⟨(ww_i 246 (by decide +kernel) (by decide +kernel)), (ww_i 247 (by decide +kernel) (by decide +kernel)), (ww_i 248 (by decide +kernel) (by decide +kernel)), ci_X1_behindBlanks⟩, cm_X1_behindBlanks, cn_X1_behindBlanks, by decide, rfl⟩
theorem cm_X1_isLetter : cOKm mX1_isLetter := (ww_i 252 (by decide +kernel) (by decide +kernel))
theorem cn_X1_isLetter : cOK mX1_isLetter 1 = true := by decide +kernel
theorem ci_X1_isLetter : Cond.initialized mX1_isLetter.1.cls ∈ ww := (ww_i 38 (by decide +kernel) (by decide +kernel))
theorem ks_1_129 : CS RX1 129 mX1_isLetter 1 := ⟨⟨(ww_i 250 (by decide +kernel) (by decide +kernel)), (ww_i 251 (by decide +kernel) (by decide +kernel)), ci_X1_isLetter⟩, cm_X1_isLetter, cn_X1_isLetter⟩
theorem cm_X1_behindLetters : cOKm mX1_behindLetters := (ww_i 256 (by decide +kernel) (by decide +kernel))
theorem cn_X1_behindLetters : cOK mX1_behindLetters 1 = true := by decide +kernel
theorem ci_X1_behindLetters : Cond.initialized mX1_behindLetters.1.cls ∈ ww := (ww_i 38 (by decide +kernel) (by decide +kernel))
theorem kv_1_132 : CV RX1 132 mX1_behindLetters 1 1 := ⟨⟨(ww_i 253 (by decide +kernel) (by decide +kernel)), (ww_i 254 (by decide +kernel) (by decide +kernel)), (ww_i 255 (by decide +kernel) (by decide +kernel)), ci_X1_behindLetters⟩, cm_X1_behindLetters, cn_X1_behindLetters, by decide, rfl⟩
theorem cm_X1_isFigure : cOKm mX1_isFigure := (ww_i 259 (by decide +kernel) (by decide +kernel))
theorem cn_X1_isFigure : cOK mX1_isFigure 1 = true := by decide +kernel
theorem ci_X1_isFigure : Cond.initialized mX1_isFigure.1.cls ∈ ww := (ww_i 38 (by decide +kernel) (by decide +kernel))
theorem ks_1_135 : CS RX1 135 mX1_isFigure 1 := ⟨⟨(ww_i 257 (by decide +kernel) (by decide +kernel)), (ww_i 258 (by decide +kernel) (by decide +kernel)), ci_X1_isFigure⟩, cm_X1_isFigure, cn_X1_isFigure⟩
theorem cm_X1_behindFigures : cOKm mX1_behindFigures := (ww_i 263 (by decide +kernel) (by decide +kernel))
theorem cn_X1_behindFigures : cOK mX1_behindFigures 1 = true := by decide +kernel
theorem ci_X1_behindFigures : Cond.initialized mX1_behindFigures.1.cls ∈ ww := (ww_i 38 (by decide +kernel) (by decide +kernel))
theorem kv_1_138 : CV RX1 138 mX1_behindFigures 1 1 := ⟨⟨(ww_i 260 (by decide +kernel) (by decide +kernel)), (ww_i 261 (by decide +kernel) (by decide +kernel)), (ww_i 262 (by decide +kernel) (by decide +kernel)), ci_X1_behindFigures⟩, cm_X1_behindFigures, cn_X1_behindFigures, by decide, rfl⟩
theorem cm_X1_numberOfToken : cOKm mX1_numberOfToken := (ww_i 267 (by decide +kernel) (by decide +kernel))
theorem cn_X1_numberOfToken : cOK mX1_numberOfToken 0 = true := by decide +kernel
theorem ci_X1_numberOfToken : Cond.initialized mX1_numberOfToken.1.cls ∈ ww := (ww_i 38 (by decide +kernel) (by decide +kernel))
theorem kv_1_141 : CV RX1 141 mX1_numberOfToken 0 1 := ⟨⟨(ww_i 264 (by decide +kernel) (by decide +kernel)), (ww_i 265 (by decide +kernel) (by decide +kernel)), (ww_i 266 (by decide +kernel) (by decide +kernel)), ci_X1_numberOfToken⟩, cm_X1_numberOfToken, cn_X1_numberOfToken, by decide, rfl⟩
theorem cm_X1_nameOfLine : cOKm mX1_nameOfLine := (ww_i 286 (by decide +kernel) (by decide +kernel))
theorem cn_X1_nameOfLine : cOK mX1_nameOfLine 1 = true := by decide +kernel
theorem ci_X1_nameOfLine : Cond.initialized mX1_nameOfLine.1.cls ∈ ww := (ww_i 38 (by decide +kernel) (by decide +kernel))
theorem ks_1_144 : CS RX1 144 mX1_nameOfLine 1 := ⟨⟨(ww_i 284 (by decide +kernel) (by decide +kernel)), (ww_i 285 (by decide +kernel) (by decide +kernel)), ci_X1_nameOfLine⟩, cm_X1_nameOfLine, cn_X1_nameOfLine⟩
theorem cm_X1_tokenSpells : cOKm mX1_tokenSpells := (ww_i 298 (by decide +kernel) (by decide +kernel))
theorem cn_X1_tokenSpells : cOK mX1_tokenSpells 1 = true := by decide +kernel
theorem ci_X1_tokenSpells : Cond.initialized mX1_tokenSpells.1.cls ∈ ww := (ww_i 38 (by decide +kernel) (by decide +kernel))
theorem kv_1_148 : CV RX1 148 mX1_tokenSpells 1 1 := ⟨⟨(ww_i 295 (by decide +kernel) (by decide +kernel)), (ww_i 296 (by decide +kernel) (by decide +kernel)), (ww_i 297 (by decide +kernel) (by decide +kernel)), ci_X1_tokenSpells⟩, cm_X1_tokenSpells, cn_X1_tokenSpells, by decide, rfl⟩
theorem kf_2_9 : LKF RX2 9 2 0 := ⟨by decide, by decide, (ww_i 81 (by decide +kernel) (by decide +kernel))⟩
theorem kf_2_15 : LKF RX2 15 2 1 := ⟨by decide, by decide, (ww_i 83 (by decide +kernel) (by decide +kernel))⟩
theorem kf_2_18 : LKF RX2 18 2 2 := ⟨by decide, by decide, (ww_i 85 (by decide +kernel) (by decide +kernel))⟩
theorem kf_2_21 : LKF RX2 21 2 3 := ⟨by decide, by decide, (ww_i 87 (by decide +kernel) (by decide +kernel))⟩
theorem kf_2_24 : LKF RX2 24 2 4 := ⟨by decide, by decide, (ww_i 89 (by decide +kernel) (by decide +kernel))⟩
theorem kf_2_27 : LKF RX2 27 2 5 := ⟨by decide, by decide, (ww_i 91 (by decide +kernel) (by decide +kernel))⟩
theorem kv_2_30 : CV RX2 30 mX2_clear 0 2 := ⟨⟨(ww_i 62 (by decide +kernel) (by decide +kernel)), (ww_i 63 (by decide +kernel) (by decide +kernel)), (ww_i 64 (by decide +kernel) (by decide +kernel)), ci_X2_clear⟩, cm_X2_clear, cn_X2_clear, by decide, rfl⟩
theorem kf_2_33 : LKF RX2 33 2 6 := ⟨by decide, by decide, (ww_i 92 (by decide +kernel) (by decide +kernel))⟩
theorem kf_2_37 : LKF RX2 37 2 7 := ⟨by decide, by decide, (ww_i 95 (by decide +kernel) (by decide +kernel))⟩
theorem kf_2_40 : LKF RX2 40 2 8 := ⟨by decide, by decide, (ww_i 98 (by decide +kernel) (by decide +kernel))⟩
theorem kf_2_43 : LKF RX2 43 2 9 := ⟨by decide, by decide, (ww_i 100 (by decide +kernel) (by decide +kernel))⟩
theorem cm_X2_setAllStand : cOKm mX2_setAllStand := (ww_i 69 (by decide +kernel) (by decide +kernel))
theorem cn_X2_setAllStand : cOK mX2_setAllStand 1 = true := by decide +kernel
theorem ci_X2_setAllStand : Cond.initialized mX2_setAllStand.1.cls ∈ ww := (ww_i 37 (by decide +kernel) (by decide +kernel))
theorem kv_2_46 : CV RX2 46 mX2_setAllStand 1 2 := ⟨⟨(ww_i 66 (by decide +kernel) (by decide +kernel)), (ww_i 67 (by decide +kernel) (by decide +kernel)), (ww_i 68 (by decide +kernel) (by decide +kernel)), ci_X2_setAllStand⟩, cm_X2_setAllStand, cn_X2_setAllStand, by decide, rfl⟩
theorem kc_2_50 : LKC RX2 50 := (ww_i 411 (by decide +kernel) (by decide +kernel))
theorem cm_X2_reckonBends : cOKm mX2_reckonBends := (ww_i 73 (by decide +kernel) (by decide +kernel))
theorem cn_X2_reckonBends : cOK mX2_reckonBends 0 = true := by decide +kernel
theorem ci_X2_reckonBends : Cond.initialized mX2_reckonBends.1.cls ∈ ww := (ww_i 37 (by decide +kernel) (by decide +kernel))
theorem kv_2_56 : CV RX2 56 mX2_reckonBends 0 2 := ⟨⟨(ww_i 70 (by decide +kernel) (by decide +kernel)), (ww_i 71 (by decide +kernel) (by decide +kernel)), (ww_i 72 (by decide +kernel) (by decide +kernel)), ci_X2_reckonBends⟩, cm_X2_reckonBends, cn_X2_reckonBends, by decide, rfl⟩
theorem cm_X2_hasMan : cOKm mX2_hasMan := (ww_i 77 (by decide +kernel) (by decide +kernel))
theorem cn_X2_hasMan : cOK mX2_hasMan 1 = true := by decide +kernel
theorem ci_X2_hasMan : Cond.initialized mX2_hasMan.1.cls ∈ ww := (ww_i 37 (by decide +kernel) (by decide +kernel))
theorem kv_2_59 : CV RX2 59 mX2_hasMan 1 2 := ⟨⟨(ww_i 74 (by decide +kernel) (by decide +kernel)), (ww_i 75 (by decide +kernel) (by decide +kernel)), (ww_i 76 (by decide +kernel) (by decide +kernel)), ci_X2_hasMan⟩, cm_X2_hasMan, cn_X2_hasMan, by decide, rfl⟩
theorem cm_X2_slip : cOKm mX2_slip := (ww_i 80 (by decide +kernel) (by decide +kernel))
theorem cn_X2_slip : cOK mX2_slip 3 = true := by decide +kernel
theorem ci_X2_slip : Cond.initialized mX2_slip.1.cls ∈ ww := (ww_i 37 (by decide +kernel) (by decide +kernel))
theorem ks_2_63 : CS RX2 63 mX2_slip 3 := ⟨⟨(ww_i 78 (by decide +kernel) (by decide +kernel)), (ww_i 79 (by decide +kernel) (by decide +kernel)), ci_X2_slip⟩, cm_X2_slip, cn_X2_slip⟩
theorem kv_2_67 : CV RX2 67 mX2_isCloudy 1 2 := ⟨⟨(ww_i 442 (by decide +kernel) (by decide +kernel)), (ww_i 368 (by decide +kernel) (by decide +kernel)), (ww_i 369 (by decide +kernel) (by decide +kernel)), ci_X2_isCloudy⟩, cm_X2_isCloudy, cn_X2_isCloudy, by decide, rfl⟩
theorem cm_X2_readsIn : cOKm mX2_readsIn := (ww_i 441 (by decide +kernel) (by decide +kernel))
theorem cn_X2_readsIn : cOK mX2_readsIn 1 = true := by decide +kernel
theorem ci_X2_readsIn : Cond.initialized mX2_readsIn.1.cls ∈ ww := (ww_i 37 (by decide +kernel) (by decide +kernel))
theorem kv_2_70 : CV RX2 70 mX2_readsIn 1 2 := ⟨⟨(ww_i 438 (by decide +kernel) (by decide +kernel)), (ww_i 439 (by decide +kernel) (by decide +kernel)), (ww_i 440 (by decide +kernel) (by decide +kernel)), ci_X2_readsIn⟩, cm_X2_readsIn, cn_X2_readsIn, by decide, rfl⟩
theorem kn_2_73 : LKN RX2 73 := (ww_i 545 (by decide +kernel) (by decide +kernel))
theorem kx_2_79 : LKX RX2 79 := (ww_i 443 (by decide +kernel) (by decide +kernel))
theorem cm_X2_firstIn : cOKm mX2_firstIn := (ww_i 437 (by decide +kernel) (by decide +kernel))
theorem cn_X2_firstIn : cOK mX2_firstIn 2 = true := by decide +kernel
theorem ci_X2_firstIn : Cond.initialized mX2_firstIn.1.cls ∈ ww := (ww_i 37 (by decide +kernel) (by decide +kernel))
theorem kv_2_82 : CV RX2 82 mX2_firstIn 2 2 := ⟨⟨(ww_i 434 (by decide +kernel) (by decide +kernel)), (ww_i 435 (by decide +kernel) (by decide +kernel)), (ww_i 436 (by decide +kernel) (by decide +kernel)), ci_X2_firstIn⟩, cm_X2_firstIn, cn_X2_firstIn, by decide, rfl⟩
theorem ka_2_85 : LKA RX2 85 := (ww_i 450 (by decide +kernel) (by decide +kernel))
theorem cm_X2_doneAt : cOKm mX2_doneAt := (ww_i 433 (by decide +kernel) (by decide +kernel))
theorem cn_X2_doneAt : cOK mX2_doneAt 1 = true := by decide +kernel
theorem ci_X2_doneAt : Cond.initialized mX2_doneAt.1.cls ∈ ww := (ww_i 37 (by decide +kernel) (by decide +kernel))
theorem kv_2_89 : CV RX2 89 mX2_doneAt 1 2 := ⟨⟨(ww_i 430 (by decide +kernel) (by decide +kernel)), (ww_i 431 (by decide +kernel) (by decide +kernel)), (ww_i 432 (by decide +kernel) (by decide +kernel)), ci_X2_doneAt⟩, cm_X2_doneAt, cn_X2_doneAt, by decide, rfl⟩
theorem cm_X2_harmAt : cOKm mX2_harmAt := (ww_i 449 (by decide +kernel) (by decide +kernel))
theorem cn_X2_harmAt : cOK mX2_harmAt 2 = true := by decide +kernel
theorem ci_X2_harmAt : Cond.initialized mX2_harmAt.1.cls ∈ ww := (ww_i 37 (by decide +kernel) (by decide +kernel))
theorem kv_2_92 : CV RX2 92 mX2_harmAt 2 2 := ⟨⟨(ww_i 446 (by decide +kernel) (by decide +kernel)), (ww_i 447 (by decide +kernel) (by decide +kernel)), (ww_i 448 (by decide +kernel) (by decide +kernel)), ci_X2_harmAt⟩, cm_X2_harmAt, cn_X2_harmAt, by decide, rfl⟩
theorem kf_3_10 : LKF RX3 10 3 0 := ⟨by decide, by decide, (ww_i 187 (by decide +kernel) (by decide +kernel))⟩
theorem kf_3_16 : LKF RX3 16 3 1 := ⟨by decide, by decide, (ww_i 188 (by decide +kernel) (by decide +kernel))⟩
theorem kf_3_19 : LKF RX3 19 3 2 := ⟨by decide, by decide, (ww_i 189 (by decide +kernel) (by decide +kernel))⟩
theorem kf_3_23 : LKF RX3 23 3 3 := ⟨by decide, by decide, (ww_i 190 (by decide +kernel) (by decide +kernel))⟩
theorem kf_3_30 : LKF RX3 30 3 4 := ⟨by decide, by decide, (ww_i 191 (by decide +kernel) (by decide +kernel))⟩
theorem kf_3_36 : LKF RX3 36 3 5 := ⟨by decide, by decide, (ww_i 192 (by decide +kernel) (by decide +kernel))⟩
theorem kf_3_40 : LKF RX3 40 3 6 := ⟨by decide, by decide, (ww_i 193 (by decide +kernel) (by decide +kernel))⟩
theorem kf_3_44 : LKF RX3 44 3 7 := ⟨by decide, by decide, (ww_i 194 (by decide +kernel) (by decide +kernel))⟩
theorem kf_3_47 : LKF RX3 47 3 8 := ⟨by decide, by decide, (ww_i 195 (by decide +kernel) (by decide +kernel))⟩
theorem cm_X1_add : cOKm mX1_add := (ww_i 228 (by decide +kernel) (by decide +kernel))
theorem cn_X1_add : cOK mX1_add 1 = true := by decide +kernel
theorem ci_X1_add : Cond.initialized mX1_add.1.cls ∈ ww := (ww_i 38 (by decide +kernel) (by decide +kernel))
theorem kv_3_51 : CV RX3 51 mX1_add 1 1 := ⟨⟨(ww_i 225 (by decide +kernel) (by decide +kernel)), (ww_i 226 (by decide +kernel) (by decide +kernel)), (ww_i 227 (by decide +kernel) (by decide +kernel)), ci_X1_add⟩, cm_X1_add, cn_X1_add, by decide, rfl⟩
theorem kf_3_55 : LKF RX3 55 1 1 := ⟨by decide, by decide, (ww_i 133 (by decide +kernel) (by decide +kernel))⟩
theorem cm_X1_tell : cOKm mX1_tell := (ww_i 240 (by decide +kernel) (by decide +kernel))
theorem cn_X1_tell : cOK mX1_tell 1 = true := by decide +kernel
theorem ci_X1_tell : Cond.initialized mX1_tell.1.cls ∈ ww := (ww_i 38 (by decide +kernel) (by decide +kernel))
theorem kv_3_59 : CV RX3 59 mX1_tell 1 1 := ⟨⟨(ww_i 237 (by decide +kernel) (by decide +kernel)), (ww_i 238 (by decide +kernel) (by decide +kernel)), (ww_i 239 (by decide +kernel) (by decide +kernel)), ci_X1_tell⟩, cm_X1_tell, cn_X1_tell, by decide, rfl⟩
theorem kf_3_63 : LKF RX3 63 1 2 := ⟨by decide, by decide, (ww_i 135 (by decide +kernel) (by decide +kernel))⟩
theorem kf_3_66 : LKF RX3 66 1 3 := ⟨by decide, by decide, (ww_i 137 (by decide +kernel) (by decide +kernel))⟩
theorem cm_X2_copyOf : cOKm mX2_copyOf := (ww_i 410 (by decide +kernel) (by decide +kernel))
theorem cn_X2_copyOf : cOK mX2_copyOf 1 = true := by decide +kernel
theorem ci_X2_copyOf : Cond.initialized mX2_copyOf.1.cls ∈ ww := (ww_i 37 (by decide +kernel) (by decide +kernel))
theorem kv_3_69 : CV RX3 69 mX2_copyOf 1 2 := ⟨⟨(ww_i 407 (by decide +kernel) (by decide +kernel)), (ww_i 408 (by decide +kernel) (by decide +kernel)), (ww_i 409 (by decide +kernel) (by decide +kernel)), ci_X2_copyOf⟩, cm_X2_copyOf, cn_X2_copyOf, by decide, rfl⟩
theorem kf_3_73 : LKF RX3 73 3 9 := ⟨by decide, by decide, (ww_i 196 (by decide +kernel) (by decide +kernel))⟩
theorem kf_3_76 : LKF RX3 76 2 6 := ⟨by decide, by decide, (ww_i 93 (by decide +kernel) (by decide +kernel))⟩
theorem kf_3_79 : LKF RX3 79 2 7 := ⟨by decide, by decide, (ww_i 96 (by decide +kernel) (by decide +kernel))⟩
theorem kf_3_82 : LKF RX3 82 2 9 := ⟨by decide, by decide, (ww_i 101 (by decide +kernel) (by decide +kernel))⟩
theorem kf_3_85 : LKF RX3 85 2 8 := ⟨by decide, by decide, (ww_i 99 (by decide +kernel) (by decide +kernel))⟩
theorem cm_X2_hoursStood : cOKm mX2_hoursStood := (ww_i 425 (by decide +kernel) (by decide +kernel))
theorem cn_X2_hoursStood : cOK mX2_hoursStood 0 = true := by decide +kernel
theorem ci_X2_hoursStood : Cond.initialized mX2_hoursStood.1.cls ∈ ww := (ww_i 37 (by decide +kernel) (by decide +kernel))
theorem kv_3_88 : CV RX3 88 mX2_hoursStood 0 2 := ⟨⟨(ww_i 422 (by decide +kernel) (by decide +kernel)), (ww_i 423 (by decide +kernel) (by decide +kernel)), (ww_i 424 (by decide +kernel) (by decide +kernel)), ci_X2_hoursStood⟩, cm_X2_hoursStood, cn_X2_hoursStood, by decide, rfl⟩
theorem cm_X2_harm : cOKm mX2_harm := (ww_i 429 (by decide +kernel) (by decide +kernel))
theorem cn_X2_harm : cOK mX2_harm 0 = true := by decide +kernel
theorem ci_X2_harm : Cond.initialized mX2_harm.1.cls ∈ ww := (ww_i 37 (by decide +kernel) (by decide +kernel))
theorem kv_3_92 : CV RX3 92 mX2_harm 0 2 := ⟨⟨(ww_i 426 (by decide +kernel) (by decide +kernel)), (ww_i 427 (by decide +kernel) (by decide +kernel)), (ww_i 428 (by decide +kernel) (by decide +kernel)), ci_X2_harm⟩, cm_X2_harm, cn_X2_harm, by decide, rfl⟩
theorem kv_3_95 : CV RX3 95 mX2_hasMan 1 2 := ⟨⟨(ww_i 457 (by decide +kernel) (by decide +kernel)), (ww_i 75 (by decide +kernel) (by decide +kernel)), (ww_i 76 (by decide +kernel) (by decide +kernel)), ci_X2_hasMan⟩, cm_X2_hasMan, cn_X2_hasMan, by decide, rfl⟩
theorem kf_3_98 : LKF RX3 98 2 0 := ⟨by decide, by decide, (ww_i 82 (by decide +kernel) (by decide +kernel))⟩
theorem kf_3_101 : LKF RX3 101 2 1 := ⟨by decide, by decide, (ww_i 84 (by decide +kernel) (by decide +kernel))⟩
theorem cm_X2_hoursOf : cOKm mX2_hoursOf := (ww_i 461 (by decide +kernel) (by decide +kernel))
theorem cn_X2_hoursOf : cOK mX2_hoursOf 1 = true := by decide +kernel
theorem ci_X2_hoursOf : Cond.initialized mX2_hoursOf.1.cls ∈ ww := (ww_i 37 (by decide +kernel) (by decide +kernel))
theorem kv_3_104 : CV RX3 104 mX2_hoursOf 1 2 := ⟨⟨(ww_i 458 (by decide +kernel) (by decide +kernel)), (ww_i 459 (by decide +kernel) (by decide +kernel)), (ww_i 460 (by decide +kernel) (by decide +kernel)), ci_X2_hoursOf⟩, cm_X2_hoursOf, cn_X2_hoursOf, by decide, rfl⟩
theorem cm_X2_longestStood : cOKm mX2_longestStood := (ww_i 465 (by decide +kernel) (by decide +kernel))
theorem cn_X2_longestStood : cOK mX2_longestStood 1 = true := by decide +kernel
theorem ci_X2_longestStood : Cond.initialized mX2_longestStood.1.cls ∈ ww := (ww_i 37 (by decide +kernel) (by decide +kernel))
theorem kv_3_108 : CV RX3 108 mX2_longestStood 1 2 := ⟨⟨(ww_i 462 (by decide +kernel) (by decide +kernel)), (ww_i 463 (by decide +kernel) (by decide +kernel)), (ww_i 464 (by decide +kernel) (by decide +kernel)), ci_X2_longestStood⟩, cm_X2_longestStood, cn_X2_longestStood, by decide, rfl⟩
theorem cm_X3_isHour : cOKm mX3_isHour := (ww_i 472 (by decide +kernel) (by decide +kernel))
theorem cn_X3_isHour : cOK mX3_isHour 1 = true := by decide +kernel
theorem ci_X3_isHour : Cond.initialized mX3_isHour.1.cls ∈ ww := (ww_i 36 (by decide +kernel) (by decide +kernel))
theorem ks_3_111 : CS RX3 111 mX3_isHour 1 := ⟨⟨(ww_i 470 (by decide +kernel) (by decide +kernel)), (ww_i 471 (by decide +kernel) (by decide +kernel)), ci_X3_isHour⟩, cm_X3_isHour, cn_X3_isHour⟩
theorem kf_3_114 : LKF RX3 114 2 2 := ⟨by decide, by decide, (ww_i 86 (by decide +kernel) (by decide +kernel))⟩
theorem cm_X2_hasDeed : cOKm mX2_hasDeed := (ww_i 480 (by decide +kernel) (by decide +kernel))
theorem cn_X2_hasDeed : cOK mX2_hasDeed 1 = true := by decide +kernel
theorem ci_X2_hasDeed : Cond.initialized mX2_hasDeed.1.cls ∈ ww := (ww_i 37 (by decide +kernel) (by decide +kernel))
theorem kv_3_117 : CV RX3 117 mX2_hasDeed 1 2 := ⟨⟨(ww_i 477 (by decide +kernel) (by decide +kernel)), (ww_i 478 (by decide +kernel) (by decide +kernel)), (ww_i 479 (by decide +kernel) (by decide +kernel)), ci_X2_hasDeed⟩, cm_X2_hasDeed, cn_X2_hasDeed, by decide, rfl⟩
theorem kf_3_120 : LKF RX3 120 2 3 := ⟨by decide, by decide, (ww_i 88 (by decide +kernel) (by decide +kernel))⟩
theorem kf_3_123 : LKF RX3 123 2 4 := ⟨by decide, by decide, (ww_i 90 (by decide +kernel) (by decide +kernel))⟩
theorem kv_3_126 : CV RX3 126 mX2_doneAt 1 2 := ⟨⟨(ww_i 481 (by decide +kernel) (by decide +kernel)), (ww_i 431 (by decide +kernel) (by decide +kernel)), (ww_i 432 (by decide +kernel) (by decide +kernel)), ci_X2_doneAt⟩, cm_X2_doneAt, cn_X2_doneAt, by decide, rfl⟩
theorem kv_3_129 : CV RX3 129 mX2_harmAt 2 2 := ⟨⟨(ww_i 482 (by decide +kernel) (by decide +kernel)), (ww_i 447 (by decide +kernel) (by decide +kernel)), (ww_i 448 (by decide +kernel) (by decide +kernel)), ci_X2_harmAt⟩, cm_X2_harmAt, cn_X2_harmAt, by decide, rfl⟩
theorem cm_X3_isFirstOrSecond : cOKm mX3_isFirstOrSecond := (ww_i 489 (by decide +kernel) (by decide +kernel))
theorem cn_X3_isFirstOrSecond : cOK mX3_isFirstOrSecond 1 = true := by decide +kernel
theorem ci_X3_isFirstOrSecond : Cond.initialized mX3_isFirstOrSecond.1.cls ∈ ww := (ww_i 36 (by decide +kernel) (by decide +kernel))
theorem ks_3_133 : CS RX3 133 mX3_isFirstOrSecond 1 := ⟨⟨(ww_i 487 (by decide +kernel) (by decide +kernel)), (ww_i 488 (by decide +kernel) (by decide +kernel)), ci_X3_isFirstOrSecond⟩, cm_X3_isFirstOrSecond, cn_X3_isFirstOrSecond⟩
theorem cm_X2_setKind : cOKm mX2_setKind := (ww_i 493 (by decide +kernel) (by decide +kernel))
theorem cn_X2_setKind : cOK mX2_setKind 2 = true := by decide +kernel
theorem ci_X2_setKind : Cond.initialized mX2_setKind.1.cls ∈ ww := (ww_i 37 (by decide +kernel) (by decide +kernel))
theorem kv_3_136 : CV RX3 136 mX2_setKind 2 2 := ⟨⟨(ww_i 490 (by decide +kernel) (by decide +kernel)), (ww_i 491 (by decide +kernel) (by decide +kernel)), (ww_i 492 (by decide +kernel) (by decide +kernel)), ci_X2_setKind⟩, cm_X2_setKind, cn_X2_setKind, by decide, rfl⟩
theorem cm_X2_setLean : cOKm mX2_setLean := (ww_i 497 (by decide +kernel) (by decide +kernel))
theorem cn_X2_setLean : cOK mX2_setLean 2 = true := by decide +kernel
theorem ci_X2_setLean : Cond.initialized mX2_setLean.1.cls ∈ ww := (ww_i 37 (by decide +kernel) (by decide +kernel))
theorem kv_3_140 : CV RX3 140 mX2_setLean 2 2 := ⟨⟨(ww_i 494 (by decide +kernel) (by decide +kernel)), (ww_i 495 (by decide +kernel) (by decide +kernel)), (ww_i 496 (by decide +kernel) (by decide +kernel)), ci_X2_setLean⟩, cm_X2_setLean, cn_X2_setLean, by decide, rfl⟩
theorem cm_X3_isQuarter : cOKm mX3_isQuarter := (ww_i 504 (by decide +kernel) (by decide +kernel))
theorem cn_X3_isQuarter : cOK mX3_isQuarter 1 = true := by decide +kernel
theorem ci_X3_isQuarter : Cond.initialized mX3_isQuarter.1.cls ∈ ww := (ww_i 36 (by decide +kernel) (by decide +kernel))
theorem ks_3_143 : CS RX3 143 mX3_isQuarter 1 := ⟨⟨(ww_i 502 (by decide +kernel) (by decide +kernel)), (ww_i 503 (by decide +kernel) (by decide +kernel)), ci_X3_isQuarter⟩, cm_X3_isQuarter, cn_X3_isQuarter⟩
theorem cm_X3_isWorth : cOKm mX3_isWorth := (ww_i 507 (by decide +kernel) (by decide +kernel))
theorem cn_X3_isWorth : cOK mX3_isWorth 1 = true := by decide +kernel
theorem ci_X3_isWorth : Cond.initialized mX3_isWorth.1.cls ∈ ww := (ww_i 36 (by decide +kernel) (by decide +kernel))
theorem ks_3_146 : CS RX3 146 mX3_isWorth 1 := ⟨⟨(ww_i 505 (by decide +kernel) (by decide +kernel)), (ww_i 506 (by decide +kernel) (by decide +kernel)), ci_X3_isWorth⟩, cm_X3_isWorth, cn_X3_isWorth⟩
theorem cm_X3_mayStand : cOKm mX3_mayStand := (ww_i 515 (by decide +kernel) (by decide +kernel))
theorem cn_X3_mayStand : cOK mX3_mayStand 2 = true := by decide +kernel
theorem ci_X3_mayStand : Cond.initialized mX3_mayStand.1.cls ∈ ww := (ww_i 36 (by decide +kernel) (by decide +kernel))
theorem kv_3_149 : CV RX3 149 mX3_mayStand 2 3 := ⟨⟨(ww_i 512 (by decide +kernel) (by decide +kernel)), (ww_i 514 (by decide +kernel) (by decide +kernel)), (ww_i 0 (by decide +kernel) (by decide +kernel)), ci_X3_mayStand⟩, cm_X3_mayStand, cn_X3_mayStand, by decide, rfl⟩
theorem kv_3_153 : CV RX3 153 mX2_setStands 2 2 := ⟨⟨(ww_i 516 (by decide +kernel) (by decide +kernel)), (ww_i 356 (by decide +kernel) (by decide +kernel)), (ww_i 357 (by decide +kernel) (by decide +kernel)), ci_X2_setStands⟩, cm_X2_setStands, cn_X2_setStands, by decide, rfl⟩
theorem kv_3_156 : CV RX3 156 mX2_isCloudy 1 2 := ⟨⟨(ww_i 521 (by decide +kernel) (by decide +kernel)), (ww_i 368 (by decide +kernel) (by decide +kernel)), (ww_i 369 (by decide +kernel) (by decide +kernel)), ci_X2_isCloudy⟩, cm_X2_isCloudy, cn_X2_isCloudy, by decide, rfl⟩
theorem kv_3_159 : CV RX3 159 mX2_setCloudy 2 2 := ⟨⟨(ww_i 522 (by decide +kernel) (by decide +kernel)), (ww_i 372 (by decide +kernel) (by decide +kernel)), (ww_i 373 (by decide +kernel) (by decide +kernel)), ci_X2_setCloudy⟩, cm_X2_setCloudy, cn_X2_setCloudy, by decide, rfl⟩
theorem kv_3_163 : CV RX3 163 mX2_setPainted 1 2 := ⟨⟨(ww_i 527 (by decide +kernel) (by decide +kernel)), (ww_i 384 (by decide +kernel) (by decide +kernel)), (ww_i 385 (by decide +kernel) (by decide +kernel)), ci_X2_setPainted⟩, cm_X2_setPainted, cn_X2_setPainted, by decide, rfl⟩
theorem kv_3_167 : CV RX3 167 mX2_addDeed 2 2 := ⟨⟨(ww_i 532 (by decide +kernel) (by decide +kernel)), (ww_i 392 (by decide +kernel) (by decide +kernel)), (ww_i 393 (by decide +kernel) (by decide +kernel)), ci_X2_addDeed⟩, cm_X2_addDeed, cn_X2_addDeed, by decide, rfl⟩
theorem cm_X2_reading : cOKm mX2_reading := (ww_i 544 (by decide +kernel) (by decide +kernel))
theorem cn_X2_reading : cOK mX2_reading 1 = true := by decide +kernel
theorem ci_X2_reading : Cond.initialized mX2_reading.1.cls ∈ ww := (ww_i 37 (by decide +kernel) (by decide +kernel))
theorem kv_3_170 : CV RX3 170 mX2_reading 1 2 := ⟨⟨(ww_i 541 (by decide +kernel) (by decide +kernel)), (ww_i 542 (by decide +kernel) (by decide +kernel)), (ww_i 543 (by decide +kernel) (by decide +kernel)), ci_X2_reading⟩, cm_X2_reading, cn_X2_reading, by decide, rfl⟩
theorem ka_3_173 : LKA RX3 173 := (ww_i 556 (by decide +kernel) (by decide +kernel))
theorem cm_X3_timelinessOf : cOKm mX3_timelinessOf := (ww_i 564 (by decide +kernel) (by decide +kernel))
theorem cn_X3_timelinessOf : cOK mX3_timelinessOf 1 = true := by decide +kernel
theorem ci_X3_timelinessOf : Cond.initialized mX3_timelinessOf.1.cls ∈ ww := (ww_i 36 (by decide +kernel) (by decide +kernel))
theorem kv_3_178 : CV RX3 178 mX3_timelinessOf 1 3 := ⟨⟨(ww_i 561 (by decide +kernel) (by decide +kernel)), (ww_i 563 (by decide +kernel) (by decide +kernel)), (ww_i 1 (by decide +kernel) (by decide +kernel)), ci_X3_timelinessOf⟩, cm_X3_timelinessOf, cn_X3_timelinessOf, by decide, rfl⟩
theorem kg_181 : Cond.fieldLink RX3 181 RX3 "NEAREST_LEANS" "[I" ∈ ww := (ww_i 569 (by decide +kernel) (by decide +kernel))
theorem kq_3_186 : Cond.constant RX3 186 (Int32.ofInt (2147483647)) ∈ ww := (ww_i 575 (by decide +kernel) (by decide +kernel))
theorem cm_X3_harmOfSwapped : cOKm mX3_harmOfSwapped := (ww_i 587 (by decide +kernel) (by decide +kernel))
theorem cn_X3_harmOfSwapped : cOK mX3_harmOfSwapped 2 = true := by decide +kernel
theorem ci_X3_harmOfSwapped : Cond.initialized mX3_harmOfSwapped.1.cls ∈ ww := (ww_i 36 (by decide +kernel) (by decide +kernel))
theorem kv_3_187 : CV RX3 187 mX3_harmOfSwapped 2 3 := ⟨⟨(ww_i 584 (by decide +kernel) (by decide +kernel)), (ww_i 586 (by decide +kernel) (by decide +kernel)), (ww_i 2 (by decide +kernel) (by decide +kernel)), ci_X3_harmOfSwapped⟩, cm_X3_harmOfSwapped, cn_X3_harmOfSwapped, by decide, rfl⟩
theorem cm_X2_exchange : cOKm mX2_exchange := (ww_i 591 (by decide +kernel) (by decide +kernel))
theorem cn_X2_exchange : cOK mX2_exchange 2 = true := by decide +kernel
theorem ci_X2_exchange : Cond.initialized mX2_exchange.1.cls ∈ ww := (ww_i 37 (by decide +kernel) (by decide +kernel))
theorem kv_3_190 : CV RX3 190 mX2_exchange 2 2 := ⟨⟨(ww_i 588 (by decide +kernel) (by decide +kernel)), (ww_i 589 (by decide +kernel) (by decide +kernel)), (ww_i 590 (by decide +kernel) (by decide +kernel)), ci_X2_exchange⟩, cm_X2_exchange, cn_X2_exchange, by decide, rfl⟩
theorem kv_3_193 : CV RX3 193 mX2_setAllStand 1 2 := ⟨⟨(ww_i 596 (by decide +kernel) (by decide +kernel)), (ww_i 67 (by decide +kernel) (by decide +kernel)), (ww_i 68 (by decide +kernel) (by decide +kernel)), ci_X2_setAllStand⟩, cm_X2_setAllStand, cn_X2_setAllStand, by decide, rfl⟩
theorem kq_3_196 : Cond.constantLong RX3 196 (Int64.ofInt (-1)) ∈ ww := (ww_i 601 (by decide +kernel) (by decide +kernel))
theorem cm_X3_weighedHarm : cOKm mX3_weighedHarm := (ww_i 605 (by decide +kernel) (by decide +kernel))
theorem cn_X3_weighedHarm : cOK mX3_weighedHarm 2 = true := by decide +kernel
theorem ci_X3_weighedHarm : Cond.initialized mX3_weighedHarm.1.cls ∈ ww := (ww_i 36 (by decide +kernel) (by decide +kernel))
theorem kv_3_198 : CV RX3 198 mX3_weighedHarm 2 3 := ⟨⟨(ww_i 602 (by decide +kernel) (by decide +kernel)), (ww_i 604 (by decide +kernel) (by decide +kernel)), (ww_i 3 (by decide +kernel) (by decide +kernel)), ci_X3_weighedHarm⟩, cm_X3_weighedHarm, cn_X3_weighedHarm, by decide, rfl⟩
theorem cm_X3_partOfFraction : cOKm mX3_partOfFraction := (ww_i 611 (by decide +kernel) (by decide +kernel))
theorem cn_X3_partOfFraction : cOK mX3_partOfFraction 2 = true := by decide +kernel
theorem ci_X3_partOfFraction : Cond.initialized mX3_partOfFraction.1.cls ∈ ww := (ww_i 36 (by decide +kernel) (by decide +kernel))
theorem ks_3_202 : CS RX3 202 mX3_partOfFraction 2 := ⟨⟨(ww_i 609 (by decide +kernel) (by decide +kernel)), (ww_i 610 (by decide +kernel) (by decide +kernel)), ci_X3_partOfFraction⟩, cm_X3_partOfFraction, cn_X3_partOfFraction⟩
theorem kq_3_206 : Cond.constantLong RX3 206 (Int64.ofInt (1000000000000)) ∈ ww := (ww_i 606 (by decide +kernel) (by decide +kernel))
theorem cm_X3_oddsOfNever : cOKm mX3_oddsOfNever := (ww_i 619 (by decide +kernel) (by decide +kernel))
theorem cn_X3_oddsOfNever : cOK mX3_oddsOfNever 2 = true := by decide +kernel
theorem ci_X3_oddsOfNever : Cond.initialized mX3_oddsOfNever.1.cls ∈ ww := (ww_i 36 (by decide +kernel) (by decide +kernel))
theorem kv_3_208 : CV RX3 208 mX3_oddsOfNever 2 3 := ⟨⟨(ww_i 616 (by decide +kernel) (by decide +kernel)), (ww_i 618 (by decide +kernel) (by decide +kernel)), (ww_i 4 (by decide +kernel) (by decide +kernel)), ci_X3_oddsOfNever⟩, cm_X3_oddsOfNever, cn_X3_oddsOfNever, by decide, rfl⟩
theorem kv_3_211 : CV RX3 211 mX2_firstIn 2 2 := ⟨⟨(ww_i 607 (by decide +kernel) (by decide +kernel)), (ww_i 435 (by decide +kernel) (by decide +kernel)), (ww_i 436 (by decide +kernel) (by decide +kernel)), ci_X2_firstIn⟩, cm_X2_firstIn, cn_X2_firstIn, by decide, rfl⟩
theorem kq_3_214 : Cond.constantLong RX3 214 (Int64.ofInt (10)) ∈ ww := (ww_i 608 (by decide +kernel) (by decide +kernel))
theorem cm_X3_leansAsSeen : cOKm mX3_leansAsSeen := (ww_i 635 (by decide +kernel) (by decide +kernel))
theorem cn_X3_leansAsSeen : cOK mX3_leansAsSeen 1 = true := by decide +kernel
theorem ci_X3_leansAsSeen : Cond.initialized mX3_leansAsSeen.1.cls ∈ ww := (ww_i 36 (by decide +kernel) (by decide +kernel))
theorem kv_3_216 : CV RX3 216 mX3_leansAsSeen 1 3 := ⟨⟨(ww_i 632 (by decide +kernel) (by decide +kernel)), (ww_i 634 (by decide +kernel) (by decide +kernel)), (ww_i 5 (by decide +kernel) (by decide +kernel)), ci_X3_leansAsSeen⟩, cm_X3_leansAsSeen, cn_X3_leansAsSeen, by decide, rfl⟩
theorem cm_X3_trialIsAsSeen : cOKm mX3_trialIsAsSeen := (ww_i 639 (by decide +kernel) (by decide +kernel))
theorem cn_X3_trialIsAsSeen : cOK mX3_trialIsAsSeen 0 = true := by decide +kernel
theorem ci_X3_trialIsAsSeen : Cond.initialized mX3_trialIsAsSeen.1.cls ∈ ww := (ww_i 36 (by decide +kernel) (by decide +kernel))
theorem kv_3_219 : CV RX3 219 mX3_trialIsAsSeen 0 3 := ⟨⟨(ww_i 636 (by decide +kernel) (by decide +kernel)), (ww_i 638 (by decide +kernel) (by decide +kernel)), (ww_i 6 (by decide +kernel) (by decide +kernel)), ci_X3_trialIsAsSeen⟩, cm_X3_trialIsAsSeen, cn_X3_trialIsAsSeen, by decide, rfl⟩
theorem cm_X3_mostLeft : cOKm mX3_mostLeft := (ww_i 657 (by decide +kernel) (by decide +kernel))
theorem cn_X3_mostLeft : cOK mX3_mostLeft 3 = true := by decide +kernel
theorem ci_X3_mostLeft : Cond.initialized mX3_mostLeft.1.cls ∈ ww := (ww_i 36 (by decide +kernel) (by decide +kernel))
theorem kv_3_226 : CV RX3 226 mX3_mostLeft 3 3 := ⟨⟨(ww_i 654 (by decide +kernel) (by decide +kernel)), (ww_i 656 (by decide +kernel) (by decide +kernel)), (ww_i 7 (by decide +kernel) (by decide +kernel)), ci_X3_mostLeft⟩, cm_X3_mostLeft, cn_X3_mostLeft, by decide, rfl⟩
theorem kx_3_230 : LKX RX3 230 := (ww_i 658 (by decide +kernel) (by decide +kernel))
theorem cm_X3_nextSeed : cOKm mX3_nextSeed := (ww_i 665 (by decide +kernel) (by decide +kernel))
theorem cn_X3_nextSeed : cOK mX3_nextSeed 1 = true := by decide +kernel
theorem ci_X3_nextSeed : Cond.initialized mX3_nextSeed.1.cls ∈ ww := (ww_i 36 (by decide +kernel) (by decide +kernel))
theorem ks_3_233 : CS RX3 233 mX3_nextSeed 1 := ⟨⟨(ww_i 663 (by decide +kernel) (by decide +kernel)), (ww_i 664 (by decide +kernel) (by decide +kernel)), ci_X3_nextSeed⟩, cm_X3_nextSeed, cn_X3_nextSeed⟩
theorem cm_X3_drawn : cOKm mX3_drawn := (ww_i 669 (by decide +kernel) (by decide +kernel))
theorem cn_X3_drawn : cOK mX3_drawn 2 = true := by decide +kernel
theorem ci_X3_drawn : Cond.initialized mX3_drawn.1.cls ∈ ww := (ww_i 36 (by decide +kernel) (by decide +kernel))
theorem ks_3_236 : CS RX3 236 mX3_drawn 2 := ⟨⟨(ww_i 667 (by decide +kernel) (by decide +kernel)), (ww_i 668 (by decide +kernel) (by decide +kernel)), ci_X3_drawn⟩, cm_X3_drawn, cn_X3_drawn⟩
theorem kq_3_239 : Cond.constant RX3 239 (Int32.ofInt (1103515245)) ∈ ww := (ww_i 666 (by decide +kernel) (by decide +kernel))
theorem cm_X3_isSheet : cOKm mX3_isSheet := (ww_i 684 (by decide +kernel) (by decide +kernel))
theorem cn_X3_isSheet : cOK mX3_isSheet 1 = true := by decide +kernel
theorem ci_X3_isSheet : Cond.initialized mX3_isSheet.1.cls ∈ ww := (ww_i 36 (by decide +kernel) (by decide +kernel))
theorem ks_3_240 : CS RX3 240 mX3_isSheet 1 := ⟨⟨(ww_i 682 (by decide +kernel) (by decide +kernel)), (ww_i 683 (by decide +kernel) (by decide +kernel)), ci_X3_isSheet⟩, cm_X3_isSheet, cn_X3_isSheet⟩
theorem cm_X3_isLane : cOKm mX3_isLane := (ww_i 687 (by decide +kernel) (by decide +kernel))
theorem cn_X3_isLane : cOK mX3_isLane 1 = true := by decide +kernel
theorem ci_X3_isLane : Cond.initialized mX3_isLane.1.cls ∈ ww := (ww_i 36 (by decide +kernel) (by decide +kernel))
theorem ks_3_243 : CS RX3 243 mX3_isLane 1 := ⟨⟨(ww_i 685 (by decide +kernel) (by decide +kernel)), (ww_i 686 (by decide +kernel) (by decide +kernel)), ci_X3_isLane⟩, cm_X3_isLane, cn_X3_isLane⟩
theorem cm_X0_renew : cOKm mX0_renew := (ww_i 691 (by decide +kernel) (by decide +kernel))
theorem cn_X0_renew : cOK mX0_renew 2 = true := by decide +kernel
theorem ci_X0_renew : Cond.initialized mX0_renew.1.cls ∈ ww := (ww_i 39 (by decide +kernel) (by decide +kernel))
theorem kv_3_246 : CV RX3 246 mX0_renew 2 0 := ⟨⟨(ww_i 688 (by decide +kernel) (by decide +kernel)), (ww_i 689 (by decide +kernel) (by decide +kernel)), (ww_i 690 (by decide +kernel) (by decide +kernel)), ci_X0_renew⟩, cm_X0_renew, cn_X0_renew, by decide, rfl⟩
theorem kf_3_249 : LKF RX3 249 0 1 := ⟨by decide, by decide, (ww_i 177 (by decide +kernel) (by decide +kernel))⟩
theorem kv_3_252 : CV RX3 252 mX0_refusal 2 0 := ⟨⟨(ww_i 696 (by decide +kernel) (by decide +kernel)), (ww_i 697 (by decide +kernel) (by decide +kernel)), (ww_i 698 (by decide +kernel) (by decide +kernel)), ci_X0_refusal⟩, cm_X0_refusal, cn_X0_refusal, by decide, rfl⟩
theorem cm_X0_put : cOKm mX0_put := (ww_i 703 (by decide +kernel) (by decide +kernel))
theorem cn_X0_put : cOK mX0_put 2 = true := by decide +kernel
theorem ci_X0_put : Cond.initialized mX0_put.1.cls ∈ ww := (ww_i 39 (by decide +kernel) (by decide +kernel))
theorem kv_3_255 : CV RX3 255 mX0_put 2 0 := ⟨⟨(ww_i 700 (by decide +kernel) (by decide +kernel)), (ww_i 701 (by decide +kernel) (by decide +kernel)), (ww_i 702 (by decide +kernel) (by decide +kernel)), ci_X0_put⟩, cm_X0_put, cn_X0_put, by decide, rfl⟩
theorem cm_X0_refusalOfPair : cOKm mX0_refusalOfPair := (ww_i 711 (by decide +kernel) (by decide +kernel))
theorem cn_X0_refusalOfPair : cOK mX0_refusalOfPair 2 = true := by decide +kernel
theorem ci_X0_refusalOfPair : Cond.initialized mX0_refusalOfPair.1.cls ∈ ww := (ww_i 39 (by decide +kernel) (by decide +kernel))
theorem kv_3_258 : CV RX3 258 mX0_refusalOfPair 2 0 := ⟨⟨(ww_i 708 (by decide +kernel) (by decide +kernel)), (ww_i 709 (by decide +kernel) (by decide +kernel)), (ww_i 710 (by decide +kernel) (by decide +kernel)), ci_X0_refusalOfPair⟩, cm_X0_refusalOfPair, cn_X0_refusalOfPair, by decide, rfl⟩
theorem kf_3_261 : LKF RX3 261 0 0 := ⟨by decide, by decide, (ww_i 175 (by decide +kernel) (by decide +kernel))⟩
theorem kf_3_264 : LKF RX3 264 3 10 := ⟨by decide, by decide, (ww_i 197 (by decide +kernel) (by decide +kernel))⟩
theorem cm_X3_imagesKept : cOKm mX3_imagesKept := (ww_i 724 (by decide +kernel) (by decide +kernel))
theorem cn_X3_imagesKept : cOK mX3_imagesKept 0 = true := by decide +kernel
theorem ci_X3_imagesKept : Cond.initialized mX3_imagesKept.1.cls ∈ ww := (ww_i 36 (by decide +kernel) (by decide +kernel))
theorem kv_3_267 : CV RX3 267 mX3_imagesKept 0 3 := ⟨⟨(ww_i 721 (by decide +kernel) (by decide +kernel)), (ww_i 723 (by decide +kernel) (by decide +kernel)), (ww_i 8 (by decide +kernel) (by decide +kernel)), ci_X3_imagesKept⟩, cm_X3_imagesKept, cn_X3_imagesKept, by decide, rfl⟩
theorem kf_3_270 : LKF RX3 270 0 2 := ⟨by decide, by decide, (ww_i 179 (by decide +kernel) (by decide +kernel))⟩
theorem cm_X2_allWorth : cOKm mX2_allWorth := (ww_i 728 (by decide +kernel) (by decide +kernel))
theorem cn_X2_allWorth : cOK mX2_allWorth 0 = true := by decide +kernel
theorem ci_X2_allWorth : Cond.initialized mX2_allWorth.1.cls ∈ ww := (ww_i 37 (by decide +kernel) (by decide +kernel))
theorem kv_3_273 : CV RX3 273 mX2_allWorth 0 2 := ⟨⟨(ww_i 725 (by decide +kernel) (by decide +kernel)), (ww_i 726 (by decide +kernel) (by decide +kernel)), (ww_i 727 (by decide +kernel) (by decide +kernel)), ci_X2_allWorth⟩, cm_X2_allWorth, cn_X2_allWorth, by decide, rfl⟩
theorem cm_X2_quartersRead : cOKm mX2_quartersRead := (ww_i 732 (by decide +kernel) (by decide +kernel))
theorem cn_X2_quartersRead : cOK mX2_quartersRead 0 = true := by decide +kernel
theorem ci_X2_quartersRead : Cond.initialized mX2_quartersRead.1.cls ∈ ww := (ww_i 37 (by decide +kernel) (by decide +kernel))
theorem kv_3_276 : CV RX3 276 mX2_quartersRead 0 2 := ⟨⟨(ww_i 729 (by decide +kernel) (by decide +kernel)), (ww_i 730 (by decide +kernel) (by decide +kernel)), (ww_i 731 (by decide +kernel) (by decide +kernel)), ci_X2_quartersRead⟩, cm_X2_quartersRead, cn_X2_quartersRead, by decide, rfl⟩
theorem kf_4_7 : LKF RX4 7 4 0 := ⟨by decide, by decide, (ww_i 739 (by decide +kernel) (by decide +kernel))⟩
theorem kf_4_13 : LKF RX4 13 4 2 := ⟨by decide, by decide, (ww_i 741 (by decide +kernel) (by decide +kernel))⟩
theorem kf_4_16 : LKF RX4 16 4 7 := ⟨by decide, by decide, (ww_i 746 (by decide +kernel) (by decide +kernel))⟩
theorem kf_4_19 : LKF RX4 19 4 16 := ⟨by decide, by decide, (ww_i 755 (by decide +kernel) (by decide +kernel))⟩
theorem kf_4_22 : LKF RX4 22 4 17 := ⟨by decide, by decide, (ww_i 756 (by decide +kernel) (by decide +kernel))⟩
theorem kf_4_25 : LKF RX4 25 4 18 := ⟨by decide, by decide, (ww_i 757 (by decide +kernel) (by decide +kernel))⟩
theorem kf_4_28 : LKF RX4 28 4 20 := ⟨by decide, by decide, (ww_i 759 (by decide +kernel) (by decide +kernel))⟩
theorem kf_4_31 : LKF RX4 31 4 22 := ⟨by decide, by decide, (ww_i 761 (by decide +kernel) (by decide +kernel))⟩
theorem kf_4_34 : LKF RX4 34 4 24 := ⟨by decide, by decide, (ww_i 763 (by decide +kernel) (by decide +kernel))⟩
theorem kf_4_38 : LKF RX4 38 4 25 := ⟨by decide, by decide, (ww_i 764 (by decide +kernel) (by decide +kernel))⟩
theorem kf_4_41 : LKF RX4 41 4 26 := ⟨by decide, by decide, (ww_i 765 (by decide +kernel) (by decide +kernel))⟩
theorem kf_4_44 : LKF RX4 44 4 27 := ⟨by decide, by decide, (ww_i 766 (by decide +kernel) (by decide +kernel))⟩
theorem kq_4_47 : Cond.constantLong RX4 47 (Int64.ofInt (127)) ∈ ww := (ww_i 831 (by decide +kernel) (by decide +kernel))
theorem cm_X4_in : cOKm mX4_in := (ww_i 834 (by decide +kernel) (by decide +kernel))
theorem cn_X4_in : cOK mX4_in 3 = true := by decide +kernel
theorem ci_X4_in : Cond.initialized mX4_in.1.cls ∈ ww := (ww_i 40 (by decide +kernel) (by decide +kernel))
theorem ks_4_49 : CS RX4 49 mX4_in 3 := ⟨⟨(ww_i 832 (by decide +kernel) (by decide +kernel)), (ww_i 833 (by decide +kernel) (by decide +kernel)), ci_X4_in⟩, cm_X4_in, cn_X4_in⟩
theorem kf_4_53 : LKF RX4 53 4 8 := ⟨by decide, by decide, (ww_i 747 (by decide +kernel) (by decide +kernel))⟩
theorem kf_4_57 : LKF RX4 57 4 10 := ⟨by decide, by decide, (ww_i 749 (by decide +kernel) (by decide +kernel))⟩
theorem kf_4_60 : LKF RX4 60 4 13 := ⟨by decide, by decide, (ww_i 752 (by decide +kernel) (by decide +kernel))⟩
theorem kf_4_63 : LKF RX4 63 4 11 := ⟨by decide, by decide, (ww_i 750 (by decide +kernel) (by decide +kernel))⟩
theorem kf_4_66 : LKF RX4 66 4 14 := ⟨by decide, by decide, (ww_i 753 (by decide +kernel) (by decide +kernel))⟩
theorem kf_4_69 : LKF RX4 69 4 12 := ⟨by decide, by decide, (ww_i 751 (by decide +kernel) (by decide +kernel))⟩
theorem cm_X4_byteAt : cOKm mX4_byteAt := (ww_i 850 (by decide +kernel) (by decide +kernel))
theorem cn_X4_byteAt : cOK mX4_byteAt 1 = true := by decide +kernel
theorem ci_X4_byteAt : Cond.initialized mX4_byteAt.1.cls ∈ ww := (ww_i 40 (by decide +kernel) (by decide +kernel))
theorem kv_4_72 : CV RX4 72 mX4_byteAt 1 4 := ⟨⟨(ww_i 847 (by decide +kernel) (by decide +kernel)), (ww_i 849 (by decide +kernel) (by decide +kernel)), (ww_i 10 (by decide +kernel) (by decide +kernel)), ci_X4_byteAt⟩, cm_X4_byteAt, cn_X4_byteAt, by decide, rfl⟩
theorem kf_4_76 : LKF RX4 76 4 15 := ⟨by decide, by decide, (ww_i 754 (by decide +kernel) (by decide +kernel))⟩
theorem kq_4_79 : Cond.constantLong RX4 79 (Int64.ofInt (97)) ∈ ww := (ww_i 851 (by decide +kernel) (by decide +kernel))
theorem kq_4_81 : Cond.constantLong RX4 81 (Int64.ofInt (122)) ∈ ww := (ww_i 852 (by decide +kernel) (by decide +kernel))
theorem kq_4_83 : Cond.constantLong RX4 83 (Int64.ofInt (48)) ∈ ww := (ww_i 853 (by decide +kernel) (by decide +kernel))
theorem kq_4_85 : Cond.constantLong RX4 85 (Int64.ofInt (57)) ∈ ww := (ww_i 854 (by decide +kernel) (by decide +kernel))
theorem cm_X4_fails : cOKm mX4_fails := (ww_i 858 (by decide +kernel) (by decide +kernel))
theorem cn_X4_fails : cOK mX4_fails 1 = true := by decide +kernel
theorem ci_X4_fails : Cond.initialized mX4_fails.1.cls ∈ ww := (ww_i 40 (by decide +kernel) (by decide +kernel))
theorem kv_4_87 : CV RX4 87 mX4_fails 1 4 := ⟨⟨(ww_i 855 (by decide +kernel) (by decide +kernel)), (ww_i 857 (by decide +kernel) (by decide +kernel)), (ww_i 11 (by decide +kernel) (by decide +kernel)), ci_X4_fails⟩, cm_X4_fails, cn_X4_fails, by decide, rfl⟩
theorem cm_X4_step : cOKm mX4_step := (ww_i 846 (by decide +kernel) (by decide +kernel))
theorem cn_X4_step : cOK mX4_step 0 = true := by decide +kernel
theorem ci_X4_step : Cond.initialized mX4_step.1.cls ∈ ww := (ww_i 40 (by decide +kernel) (by decide +kernel))
theorem kv_4_91 : CV RX4 91 mX4_step 0 4 := ⟨⟨(ww_i 843 (by decide +kernel) (by decide +kernel)), (ww_i 845 (by decide +kernel) (by decide +kernel)), (ww_i 9 (by decide +kernel) (by decide +kernel)), ci_X4_step⟩, cm_X4_step, cn_X4_step, by decide, rfl⟩
theorem kf_4_94 : LKF RX4 94 4 4 := ⟨by decide, by decide, (ww_i 743 (by decide +kernel) (by decide +kernel))⟩
theorem cm_X4_other : cOKm mX4_other := (ww_i 875 (by decide +kernel) (by decide +kernel))
theorem cn_X4_other : cOK mX4_other 3 = true := by decide +kernel
theorem ci_X4_other : Cond.initialized mX4_other.1.cls ∈ ww := (ww_i 40 (by decide +kernel) (by decide +kernel))
theorem kv_4_97 : CV RX4 97 mX4_other 3 4 := ⟨⟨(ww_i 872 (by decide +kernel) (by decide +kernel)), (ww_i 874 (by decide +kernel) (by decide +kernel)), (ww_i 15 (by decide +kernel) (by decide +kernel)), ci_X4_other⟩, cm_X4_other, cn_X4_other, by decide, rfl⟩
theorem kf_4_101 : LKF RX4 101 4 6 := ⟨by decide, by decide, (ww_i 745 (by decide +kernel) (by decide +kernel))⟩
theorem kf_4_104 : LKF RX4 104 4 3 := ⟨by decide, by decide, (ww_i 742 (by decide +kernel) (by decide +kernel))⟩
theorem cm_X4_readRota : cOKm mX4_readRota := (ww_i 879 (by decide +kernel) (by decide +kernel))
theorem cn_X4_readRota : cOK mX4_readRota 0 = true := by decide +kernel
theorem ci_X4_readRota : Cond.initialized mX4_readRota.1.cls ∈ ww := (ww_i 40 (by decide +kernel) (by decide +kernel))
theorem kv_4_107 : CV RX4 107 mX4_readRota 0 4 := ⟨⟨(ww_i 876 (by decide +kernel) (by decide +kernel)), (ww_i 878 (by decide +kernel) (by decide +kernel)), (ww_i 16 (by decide +kernel) (by decide +kernel)), ci_X4_readRota⟩, cm_X4_readRota, cn_X4_readRota, by decide, rfl⟩
theorem cm_X4_nameHere : cOKm mX4_nameHere := (ww_i 866 (by decide +kernel) (by decide +kernel))
theorem cn_X4_nameHere : cOK mX4_nameHere 0 = true := by decide +kernel
theorem ci_X4_nameHere : Cond.initialized mX4_nameHere.1.cls ∈ ww := (ww_i 40 (by decide +kernel) (by decide +kernel))
theorem kv_4_110 : CV RX4 110 mX4_nameHere 0 4 := ⟨⟨(ww_i 863 (by decide +kernel) (by decide +kernel)), (ww_i 865 (by decide +kernel) (by decide +kernel)), (ww_i 13 (by decide +kernel) (by decide +kernel)), ci_X4_nameHere⟩, cm_X4_nameHere, cn_X4_nameHere, by decide, rfl⟩
theorem kq_4_114 : Cond.constantLong RX4 114 (Int64.ofInt (7)) ∈ ww := (ww_i 867 (by decide +kernel) (by decide +kernel))
theorem kf_4_116 : LKF RX4 116 4 5 := ⟨by decide, by decide, (ww_i 744 (by decide +kernel) (by decide +kernel))⟩
theorem cm_X4_readMore : cOKm mX4_readMore := (ww_i 871 (by decide +kernel) (by decide +kernel))
theorem cn_X4_readMore : cOK mX4_readMore 1 = true := by decide +kernel
theorem ci_X4_readMore : Cond.initialized mX4_readMore.1.cls ∈ ww := (ww_i 40 (by decide +kernel) (by decide +kernel))
theorem kv_4_119 : CV RX4 119 mX4_readMore 1 4 := ⟨⟨(ww_i 868 (by decide +kernel) (by decide +kernel)), (ww_i 870 (by decide +kernel) (by decide +kernel)), (ww_i 14 (by decide +kernel) (by decide +kernel)), ci_X4_readMore⟩, cm_X4_readMore, cn_X4_readMore, by decide, rfl⟩
theorem cm_X4_readLine : cOKm mX4_readLine := (ww_i 862 (by decide +kernel) (by decide +kernel))
theorem cn_X4_readLine : cOK mX4_readLine 0 = true := by decide +kernel
theorem ci_X4_readLine : Cond.initialized mX4_readLine.1.cls ∈ ww := (ww_i 40 (by decide +kernel) (by decide +kernel))
theorem kv_4_122 : CV RX4 122 mX4_readLine 0 4 := ⟨⟨(ww_i 859 (by decide +kernel) (by decide +kernel)), (ww_i 861 (by decide +kernel) (by decide +kernel)), (ww_i 12 (by decide +kernel) (by decide +kernel)), ci_X4_readLine⟩, cm_X4_readLine, cn_X4_readLine, by decide, rfl⟩
theorem kf_4_125 : LKF RX4 125 4 9 := ⟨by decide, by decide, (ww_i 748 (by decide +kernel) (by decide +kernel))⟩
theorem kf_4_128 : LKF RX4 128 4 1 := ⟨by decide, by decide, (ww_i 740 (by decide +kernel) (by decide +kernel))⟩
theorem kf_4_131 : LKF RX4 131 4 21 := ⟨by decide, by decide, (ww_i 760 (by decide +kernel) (by decide +kernel))⟩
theorem kq_4_134 : Cond.constantLong RX4 134 (Int64.ofInt (11)) ∈ ww := (ww_i 936 (by decide +kernel) (by decide +kernel))
theorem cm_X4_standsIn : cOKm mX4_standsIn := (ww_i 895 (by decide +kernel) (by decide +kernel))
theorem cn_X4_standsIn : cOK mX4_standsIn 1 = true := by decide +kernel
theorem ci_X4_standsIn : Cond.initialized mX4_standsIn.1.cls ∈ ww := (ww_i 40 (by decide +kernel) (by decide +kernel))
theorem kv_4_136 : CV RX4 136 mX4_standsIn 1 4 := ⟨⟨(ww_i 892 (by decide +kernel) (by decide +kernel)), (ww_i 894 (by decide +kernel) (by decide +kernel)), (ww_i 18 (by decide +kernel) (by decide +kernel)), ci_X4_standsIn⟩, cm_X4_standsIn, cn_X4_standsIn, by decide, rfl⟩
theorem cm_X4_stoodIn : cOKm mX4_stoodIn := (ww_i 911 (by decide +kernel) (by decide +kernel))
theorem cn_X4_stoodIn : cOK mX4_stoodIn 1 = true := by decide +kernel
theorem ci_X4_stoodIn : Cond.initialized mX4_stoodIn.1.cls ∈ ww := (ww_i 40 (by decide +kernel) (by decide +kernel))
theorem kv_4_139 : CV RX4 139 mX4_stoodIn 1 4 := ⟨⟨(ww_i 908 (by decide +kernel) (by decide +kernel)), (ww_i 910 (by decide +kernel) (by decide +kernel)), (ww_i 22 (by decide +kernel) (by decide +kernel)), ci_X4_stoodIn⟩, cm_X4_stoodIn, cn_X4_stoodIn, by decide, rfl⟩
theorem cm_X4_slipIn : cOKm mX4_slipIn := (ww_i 907 (by decide +kernel) (by decide +kernel))
theorem cn_X4_slipIn : cOK mX4_slipIn 2 = true := by decide +kernel
theorem ci_X4_slipIn : Cond.initialized mX4_slipIn.1.cls ∈ ww := (ww_i 40 (by decide +kernel) (by decide +kernel))
theorem kv_4_142 : CV RX4 142 mX4_slipIn 2 4 := ⟨⟨(ww_i 904 (by decide +kernel) (by decide +kernel)), (ww_i 906 (by decide +kernel) (by decide +kernel)), (ww_i 21 (by decide +kernel) (by decide +kernel)), ci_X4_slipIn⟩, cm_X4_slipIn, cn_X4_slipIn, by decide, rfl⟩
theorem cm_X4_doneIn : cOKm mX4_doneIn := (ww_i 919 (by decide +kernel) (by decide +kernel))
theorem cn_X4_doneIn : cOK mX4_doneIn 1 = true := by decide +kernel
theorem ci_X4_doneIn : Cond.initialized mX4_doneIn.1.cls ∈ ww := (ww_i 40 (by decide +kernel) (by decide +kernel))
theorem kv_4_146 : CV RX4 146 mX4_doneIn 1 4 := ⟨⟨(ww_i 916 (by decide +kernel) (by decide +kernel)), (ww_i 918 (by decide +kernel) (by decide +kernel)), (ww_i 24 (by decide +kernel) (by decide +kernel)), ci_X4_doneIn⟩, cm_X4_doneIn, cn_X4_doneIn, by decide, rfl⟩
theorem cm_X4_laysReads : cOKm mX4_laysReads := (ww_i 903 (by decide +kernel) (by decide +kernel))
theorem cn_X4_laysReads : cOK mX4_laysReads 0 = true := by decide +kernel
theorem ci_X4_laysReads : Cond.initialized mX4_laysReads.1.cls ∈ ww := (ww_i 40 (by decide +kernel) (by decide +kernel))
theorem kv_4_149 : CV RX4 149 mX4_laysReads 0 4 := ⟨⟨(ww_i 900 (by decide +kernel) (by decide +kernel)), (ww_i 902 (by decide +kernel) (by decide +kernel)), (ww_i 20 (by decide +kernel) (by decide +kernel)), ci_X4_laysReads⟩, cm_X4_laysReads, cn_X4_laysReads, by decide, rfl⟩
theorem cm_X4_harmOf : cOKm mX4_harmOf := (ww_i 915 (by decide +kernel) (by decide +kernel))
theorem cn_X4_harmOf : cOK mX4_harmOf 1 = true := by decide +kernel
theorem ci_X4_harmOf : Cond.initialized mX4_harmOf.1.cls ∈ ww := (ww_i 40 (by decide +kernel) (by decide +kernel))
theorem kv_4_152 : CV RX4 152 mX4_harmOf 1 4 := ⟨⟨(ww_i 912 (by decide +kernel) (by decide +kernel)), (ww_i 914 (by decide +kernel) (by decide +kernel)), (ww_i 23 (by decide +kernel) (by decide +kernel)), ci_X4_harmOf⟩, cm_X4_harmOf, cn_X4_harmOf, by decide, rfl⟩
theorem cm_X4_hoursOf : cOKm mX4_hoursOf := (ww_i 891 (by decide +kernel) (by decide +kernel))
theorem cn_X4_hoursOf : cOK mX4_hoursOf 1 = true := by decide +kernel
theorem ci_X4_hoursOf : Cond.initialized mX4_hoursOf.1.cls ∈ ww := (ww_i 40 (by decide +kernel) (by decide +kernel))
theorem kv_4_155 : CV RX4 155 mX4_hoursOf 1 4 := ⟨⟨(ww_i 888 (by decide +kernel) (by decide +kernel)), (ww_i 890 (by decide +kernel) (by decide +kernel)), (ww_i 17 (by decide +kernel) (by decide +kernel)), ci_X4_hoursOf⟩, cm_X4_hoursOf, cn_X4_hoursOf, by decide, rfl⟩
theorem cm_X4_harm : cOKm mX4_harm := (ww_i 899 (by decide +kernel) (by decide +kernel))
theorem cn_X4_harm : cOK mX4_harm 0 = true := by decide +kernel
theorem ci_X4_harm : Cond.initialized mX4_harm.1.cls ∈ ww := (ww_i 40 (by decide +kernel) (by decide +kernel))
theorem kv_4_158 : CV RX4 158 mX4_harm 0 4 := ⟨⟨(ww_i 896 (by decide +kernel) (by decide +kernel)), (ww_i 898 (by decide +kernel) (by decide +kernel)), (ww_i 19 (by decide +kernel) (by decide +kernel)), ci_X4_harm⟩, cm_X4_harm, cn_X4_harm, by decide, rfl⟩
theorem cm_X4_isMan : cOKm mX4_isMan := (ww_i 927 (by decide +kernel) (by decide +kernel))
theorem cn_X4_isMan : cOK mX4_isMan 1 = true := by decide +kernel
theorem ci_X4_isMan : Cond.initialized mX4_isMan.1.cls ∈ ww := (ww_i 40 (by decide +kernel) (by decide +kernel))
theorem kv_4_161 : CV RX4 161 mX4_isMan 1 4 := ⟨⟨(ww_i 924 (by decide +kernel) (by decide +kernel)), (ww_i 926 (by decide +kernel) (by decide +kernel)), (ww_i 25 (by decide +kernel) (by decide +kernel)), ci_X4_isMan⟩, cm_X4_isMan, cn_X4_isMan, by decide, rfl⟩
theorem kq_4_165 : Cond.constantLong RX4 165 (Int64.ofInt (3)) ∈ ww := (ww_i 928 (by decide +kernel) (by decide +kernel))
theorem cm_X4_isHour : cOKm mX4_isHour := (ww_i 935 (by decide +kernel) (by decide +kernel))
theorem cn_X4_isHour : cOK mX4_isHour 1 = true := by decide +kernel
theorem ci_X4_isHour : Cond.initialized mX4_isHour.1.cls ∈ ww := (ww_i 40 (by decide +kernel) (by decide +kernel))
theorem ks_4_167 : CS RX4 167 mX4_isHour 1 := ⟨⟨(ww_i 933 (by decide +kernel) (by decide +kernel)), (ww_i 934 (by decide +kernel) (by decide +kernel)), ci_X4_isHour⟩, cm_X4_isHour, cn_X4_isHour⟩
theorem cm_X4_orNone : cOKm mX4_orNone := (ww_i 939 (by decide +kernel) (by decide +kernel))
theorem cn_X4_orNone : cOK mX4_orNone 1 = true := by decide +kernel
theorem ci_X4_orNone : Cond.initialized mX4_orNone.1.cls ∈ ww := (ww_i 40 (by decide +kernel) (by decide +kernel))
theorem ks_4_170 : CS RX4 170 mX4_orNone 1 := ⟨⟨(ww_i 937 (by decide +kernel) (by decide +kernel)), (ww_i 938 (by decide +kernel) (by decide +kernel)), ci_X4_orNone⟩, cm_X4_orNone, cn_X4_orNone⟩
theorem cm_X4_isDeed : cOKm mX4_isDeed := (ww_i 947 (by decide +kernel) (by decide +kernel))
theorem cn_X4_isDeed : cOK mX4_isDeed 1 = true := by decide +kernel
theorem ci_X4_isDeed : Cond.initialized mX4_isDeed.1.cls ∈ ww := (ww_i 40 (by decide +kernel) (by decide +kernel))
theorem kv_4_173 : CV RX4 173 mX4_isDeed 1 4 := ⟨⟨(ww_i 944 (by decide +kernel) (by decide +kernel)), (ww_i 946 (by decide +kernel) (by decide +kernel)), (ww_i 26 (by decide +kernel) (by decide +kernel)), ci_X4_isDeed⟩, cm_X4_isDeed, cn_X4_isDeed, by decide, rfl⟩
theorem kq_4_176 : Cond.constantLong RX4 176 (Int64.ofInt (6)) ∈ ww := (ww_i 952 (by decide +kernel) (by decide +kernel))
theorem cm_X4_puts : cOKm mX4_puts := (ww_i 956 (by decide +kernel) (by decide +kernel))
theorem cn_X4_puts : cOK mX4_puts 4 = true := by decide +kernel
theorem ci_X4_puts : Cond.initialized mX4_puts.1.cls ∈ ww := (ww_i 40 (by decide +kernel) (by decide +kernel))
theorem kv_4_178 : CV RX4 178 mX4_puts 4 4 := ⟨⟨(ww_i 953 (by decide +kernel) (by decide +kernel)), (ww_i 955 (by decide +kernel) (by decide +kernel)), (ww_i 27 (by decide +kernel) (by decide +kernel)), ci_X4_puts⟩, cm_X4_puts, cn_X4_puts, by decide, rfl⟩
theorem kq_4_182 : Cond.constantLong RX4 182 (Int64.ofInt (47)) ∈ ww := (ww_i 961 (by decide +kernel) (by decide +kernel))
theorem kq_4_184 : Cond.constantLong RX4 184 (Int64.ofInt (9)) ∈ ww := (ww_i 962 (by decide +kernel) (by decide +kernel))
theorem cm_X4_shifts : cOKm mX4_shifts := (ww_i 970 (by decide +kernel) (by decide +kernel))
theorem cn_X4_shifts : cOK mX4_shifts 2 = true := by decide +kernel
theorem ci_X4_shifts : Cond.initialized mX4_shifts.1.cls ∈ ww := (ww_i 40 (by decide +kernel) (by decide +kernel))
theorem kv_4_186 : CV RX4 186 mX4_shifts 2 4 := ⟨⟨(ww_i 967 (by decide +kernel) (by decide +kernel)), (ww_i 969 (by decide +kernel) (by decide +kernel)), (ww_i 28 (by decide +kernel) (by decide +kernel)), ci_X4_shifts⟩, cm_X4_shifts, cn_X4_shifts, by decide, rfl⟩
theorem kf_4_189 : LKF RX4 189 4 19 := ⟨by decide, by decide, (ww_i 758 (by decide +kernel) (by decide +kernel))⟩
theorem kq_4_192 : Cond.constant RX4 192 (Int32.ofInt (1000000)) ∈ ww := (ww_i 1011 (by decide +kernel) (by decide +kernel))
theorem cm_X4_isLess : cOKm mX4_isLess := (ww_i 1015 (by decide +kernel) (by decide +kernel))
theorem cn_X4_isLess : cOK mX4_isLess 1 = true := by decide +kernel
theorem ci_X4_isLess : Cond.initialized mX4_isLess.1.cls ∈ ww := (ww_i 40 (by decide +kernel) (by decide +kernel))
theorem kv_4_193 : CV RX4 193 mX4_isLess 1 4 := ⟨⟨(ww_i 1012 (by decide +kernel) (by decide +kernel)), (ww_i 1014 (by decide +kernel) (by decide +kernel)), (ww_i 29 (by decide +kernel) (by decide +kernel)), ci_X4_isLess⟩, cm_X4_isLess, cn_X4_isLess, by decide, rfl⟩
theorem cm_X4_copies : cOKm mX4_copies := (ww_i 1031 (by decide +kernel) (by decide +kernel))
theorem cn_X4_copies : cOK mX4_copies 2 = true := by decide +kernel
theorem ci_X4_copies : Cond.initialized mX4_copies.1.cls ∈ ww := (ww_i 40 (by decide +kernel) (by decide +kernel))
theorem kv_4_196 : CV RX4 196 mX4_copies 2 4 := ⟨⟨(ww_i 1028 (by decide +kernel) (by decide +kernel)), (ww_i 1030 (by decide +kernel) (by decide +kernel)), (ww_i 30 (by decide +kernel) (by decide +kernel)), ci_X4_copies⟩, cm_X4_copies, cn_X4_copies, by decide, rfl⟩
theorem kq_4_200 : Cond.constantLong RX4 200 (Int64.ofInt (10)) ∈ ww := (ww_i 1036 (by decide +kernel) (by decide +kernel))
theorem cm_X4_lowest : cOKm mX4_lowest := (ww_i 1043 (by decide +kernel) (by decide +kernel))
theorem cn_X4_lowest : cOK mX4_lowest 3 = true := by decide +kernel
theorem ci_X4_lowest : Cond.initialized mX4_lowest.1.cls ∈ ww := (ww_i 40 (by decide +kernel) (by decide +kernel))
theorem ks_4_202 : CS RX4 202 mX4_lowest 3 := ⟨⟨(ww_i 1041 (by decide +kernel) (by decide +kernel)), (ww_i 1042 (by decide +kernel) (by decide +kernel)), ci_X4_lowest⟩, cm_X4_lowest, cn_X4_lowest⟩
theorem cm_X4_byClouds : cOKm mX4_byClouds := (ww_i 1040 (by decide +kernel) (by decide +kernel))
theorem cn_X4_byClouds : cOK mX4_byClouds 3 = true := by decide +kernel
theorem ci_X4_byClouds : Cond.initialized mX4_byClouds.1.cls ∈ ww := (ww_i 40 (by decide +kernel) (by decide +kernel))
theorem kv_4_206 : CV RX4 206 mX4_byClouds 3 4 := ⟨⟨(ww_i 1037 (by decide +kernel) (by decide +kernel)), (ww_i 1039 (by decide +kernel) (by decide +kernel)), (ww_i 31 (by decide +kernel) (by decide +kernel)), ci_X4_byClouds⟩, cm_X4_byClouds, cn_X4_byClouds, by decide, rfl⟩
theorem kq_4_210 : Cond.constantLong RX4 210 (Int64.ofInt (-1)) ∈ ww := (ww_i 1044 (by decide +kernel) (by decide +kernel))
theorem cm_X4_isAsSeen : cOKm mX4_isAsSeen := (ww_i 1068 (by decide +kernel) (by decide +kernel))
theorem cn_X4_isAsSeen : cOK mX4_isAsSeen 0 = true := by decide +kernel
theorem ci_X4_isAsSeen : Cond.initialized mX4_isAsSeen.1.cls ∈ ww := (ww_i 40 (by decide +kernel) (by decide +kernel))
theorem kv_4_212 : CV RX4 212 mX4_isAsSeen 0 4 := ⟨⟨(ww_i 1065 (by decide +kernel) (by decide +kernel)), (ww_i 1067 (by decide +kernel) (by decide +kernel)), (ww_i 33 (by decide +kernel) (by decide +kernel)), ci_X4_isAsSeen⟩, cm_X4_isAsSeen, cn_X4_isAsSeen, by decide, rfl⟩
theorem cm_X4_leansOf : cOKm mX4_leansOf := (ww_i 1064 (by decide +kernel) (by decide +kernel))
theorem cn_X4_leansOf : cOK mX4_leansOf 1 = true := by decide +kernel
theorem ci_X4_leansOf : Cond.initialized mX4_leansOf.1.cls ∈ ww := (ww_i 40 (by decide +kernel) (by decide +kernel))
theorem kv_4_216 : CV RX4 216 mX4_leansOf 1 4 := ⟨⟨(ww_i 1061 (by decide +kernel) (by decide +kernel)), (ww_i 1063 (by decide +kernel) (by decide +kernel)), (ww_i 32 (by decide +kernel) (by decide +kernel)), ci_X4_leansOf⟩, cm_X4_leansOf, cn_X4_leansOf, by decide, rfl⟩
theorem cm_X4_bitsOf : cOKm mX4_bitsOf := (ww_i 1079 (by decide +kernel) (by decide +kernel))
theorem cn_X4_bitsOf : cOK mX4_bitsOf 1 = true := by decide +kernel
theorem ci_X4_bitsOf : Cond.initialized mX4_bitsOf.1.cls ∈ ww := (ww_i 40 (by decide +kernel) (by decide +kernel))
theorem ks_4_219 : CS RX4 219 mX4_bitsOf 1 := ⟨⟨(ww_i 1077 (by decide +kernel) (by decide +kernel)), (ww_i 1078 (by decide +kernel) (by decide +kernel)), ci_X4_bitsOf⟩, cm_X4_bitsOf, cn_X4_bitsOf⟩
theorem kf_4_222 : LKF RX4 222 4 23 := ⟨by decide, by decide, (ww_i 762 (by decide +kernel) (by decide +kernel))⟩
theorem kq_4_225 : Cond.constant RX4 225 (Int32.ofInt (1103515245)) ∈ ww := (ww_i 1089 (by decide +kernel) (by decide +kernel))
theorem kq_4_226 : Cond.constantLong RX4 226 (Int64.ofInt (40)) ∈ ww := (ww_i 1084 (by decide +kernel) (by decide +kernel))
theorem cm_X4_draws : cOKm mX4_draws := (ww_i 1088 (by decide +kernel) (by decide +kernel))
theorem cn_X4_draws : cOK mX4_draws 1 = true := by decide +kernel
theorem ci_X4_draws : Cond.initialized mX4_draws.1.cls ∈ ww := (ww_i 40 (by decide +kernel) (by decide +kernel))
theorem kv_4_228 : CV RX4 228 mX4_draws 1 4 := ⟨⟨(ww_i 1085 (by decide +kernel) (by decide +kernel)), (ww_i 1087 (by decide +kernel) (by decide +kernel)), (ww_i 34 (by decide +kernel) (by decide +kernel)), ci_X4_draws⟩, cm_X4_draws, cn_X4_draws, by decide, rfl⟩
theorem kq_4_231 : Cond.constantLong RX4 231 (Int64.ofInt (2)) ∈ ww := (ww_i 1102 (by decide +kernel) (by decide +kernel))
theorem kq_4_233 : Cond.constantLong RX4 233 (Int64.ofInt (20)) ∈ ww := (ww_i 1111 (by decide +kernel) (by decide +kernel))
theorem kf_4_235 : LKF RX4 235 4 28 := ⟨by decide, by decide, (ww_i 767 (by decide +kernel) (by decide +kernel))⟩
end
section
/-! bits and shifts of whole numbers in the pure layer -/
theorem zs_l : ∀ n : Nat, n < 32 → ((Int32.ofInt (n : Int) &&& 31).toBitVec.smod 32).toNat = n := by decide +kernel
theorem z_shr {x : Int} {j : Nat} (hx : in32 x) (hj : j < 32) : z_ishr x (j : Int) = x / 2 ^ j := by
  unfold z_ishr
  rw [pk_shr _ _ j (zs_l j hj), i32_t hx, Int.shiftRight_eq_div_pow]
  simp
theorem bv_int (x : Int32) : x.toInt = x.toBitVec.toNat ∨ x.toInt = (x.toBitVec.toNat : Int) - 4294967296 := by
  have h := BitVec.toInt_eq_toNat_cond x.toBitVec
  have e : x.toInt = x.toBitVec.toInt := rfl
  rw [e, h]
  split
  · exact Or.inl rfl
  · exact Or.inr rfl
theorem z_and_mask {x m : Int} (k : Nat) (hk : k ≤ 30) (hx : in32 x) (hm : m = 2 ^ k - 1) : z_iand x m = x % 2 ^ k := by
  unfold z_iand
  have hp : (2 : Nat) ^ k ≤ 2 ^ 30 := Nat.pow_le_pow_right (by decide) hk
  have hp0 : 0 < (2 : Nat) ^ k := Nat.pow_pos (by decide)
  have hpi : ((2 : Nat) ^ k : Nat) = ((2 : Int) ^ k) := by simp
  have hmI : in32 m := by
    subst hm
    constructor <;> omega
  have hmn : (Int32.ofInt m).toBitVec.toNat = 2 ^ k - 1 := by
    have h1 := i32_t hmI
    have h2 := (Int32.ofInt m).toBitVec.isLt
    rcases bv_int (Int32.ofInt m) with h | h <;> omega
  rw [pk_and (Int32.ofInt x) k hmn, nI_toInt (by have := Nat.mod_lt (Int32.ofInt x).toBitVec.toNat hp0; omega)]
  have h1 := i32_t hx
  have e : ((2 : Int) ^ k) ∣ 4294967296 := ⟨2 ^ (32 - k), by rw [← Int.pow_add, show k + (32 - k) = 32 by omega]; rfl⟩
  have h2 := bv_int (Int32.ofInt x)
  rw [h1] at h2
  generalize (Int32.ofInt x).toBitVec.toNat = t at h2 ⊢
  rcases h2 with h | h
  · rw [h, Int.natCast_emod, hpi]
  · rw [h, Int.natCast_emod, hpi, Int.sub_emod, Int.emod_eq_zero_of_dvd e]
    simp
theorem z_and1 {x : Int} (hx : in32 x) : z_iand x 1 = x % 2 := z_and_mask 1 (by decide) hx (by decide)
theorem i32_nat (n : Nat) : Int32.ofInt (n : Int) = nI n := Int32.ofInt_eq_ofNat
theorem nI_or (a b : Nat) : nI a ||| nI b = nI (a ||| b) := by
  apply Int32.toBitVec.inj
  show BitVec.ofNat 32 a ||| BitVec.ofNat 32 b = BitVec.ofNat 32 (a ||| b)
  exact BitVec.ofNat_or.symm
theorem z_or_nat {a b : Nat} (k : Nat) (hk : k ≤ 31) (ha : a < 2 ^ k) (hb : b < 2 ^ k) : z_ior (a : Int) (b : Int) = ((a ||| b : Nat) : Int) := by
  unfold z_ior
  have hp : (2 : Nat) ^ k ≤ 2 ^ 31 := Nat.pow_le_pow_right (by decide) hk
  have := Nat.or_lt_two_pow ha hb
  rw [i32_nat, i32_nat, nI_or, nI_toInt (by omega)]
theorem z_shl1 : ∀ j : Nat, j < 31 → z_ishl 1 (j : Int) = 2 ^ j := by decide +kernel
/-- bit j of a number -/
def bitI (c : Int) (j : Nat) : Int := c / 2 ^ j % 2
theorem bitI_nat (c j : Nat) : bitI (c : Int) j = if c.testBit j then 1 else 0 := by
  unfold bitI
  rw [Nat.testBit_eq_decide_div_mod_eq]
  have e : ((c : Int) / 2 ^ j % 2) = ((c / 2 ^ j % 2 : Nat) : Int) := by simp
  rw [e]
  have := Nat.mod_lt (c / 2 ^ j) (show 0 < 2 by decide)
  by_cases h : c / 2 ^ j % 2 = 1
  · simp [h]
  · have : c / 2 ^ j % 2 = 0 := by omega
    simp [this]
end
section
/-! small words for worlds -/
def setB (h : zH) (k n : Nat) (f : Nat → Int) : zH := fun a b => if a = k ∧ b < n then f b else h a b
theorem setB_0 {h : zH} {k : Nat} {f : Nat → Int} : setB h k 0 f = h := by
  funext a b
  simp [setB]
theorem setB_s {h : zH} {k j : Nat} {f : Nat → Int} : up (setB h k j f) k j (f j) = setB h k (j + 1) f := by
  funext a b
  by_cases ha : a = k
  · subst ha
    by_cases hb : b = j
    · subst hb
      simp [up, setB]
    · by_cases h2 : b < j
      · simp [up, setB, hb, h2, show b < j + 1 by omega]
      · simp [up, setB, hb, h2, show ¬ b < j + 1 by omega]
  · simp [up, setB, ha]
theorem setB_n {h : zH} {k n a b : Nat} {f : Nat → Int} (q : a ≠ k) : setB h k n f a b = h a b := by simp [setB, q]
theorem setB_i {h : zH} {k n b : Nat} {f : Nat → Int} (q : b < n) : setB h k n f k b = f b := by simp [setB, q]
theorem setB_o {h : zH} {k n b : Nat} {f : Nat → Int} (q : n ≤ b) : setB h k n f k b = h k b := by simp [setB, show ¬ b < n by omega]
def z01 (c : Prop) [Decidable c] : Int := if c then 1 else 0
theorem z01_t {c : Prop} [Decidable c] (h : c) : z01 c = 1 := if_pos h
theorem z01_f {c : Prop} [Decidable c] (h : ¬ c) : z01 c = 0 := if_neg h
theorem z01_n {c : Prop} [Decidable c] : z01 c = 0 ↔ ¬ c := by
  unfold z01; split <;> simp_all
theorem z01_y {c : Prop} [Decidable c] : ¬ z01 c = 0 ↔ c := by
  rw [z01_n]; exact Decidable.not_not
theorem z01_c {c : Prop} [Decidable c] : z01 c = 0 ∨ z01 c = 1 := by
  unfold z01; split <;> simp
theorem z01_iff {c e : Prop} [Decidable c] [Decidable e] (h : c ↔ e) : z01 c = z01 e := by
  unfold z01; simp only [h]
end
section
/-! SunPointer$Town: where its cells lie (p: the object, p + 1 .. p + 6 its rows) -/
def LT (G : zG) (p : Nat) : Prop := (p < gN G ∧ p + 1 < gN G ∧ p + 2 < gN G ∧ p + 3 < gN G ∧ p + 4 < gN G ∧ p + 5 < gN G ∧ p + 6 < gN G) ∧ (gs G p = 7 ∧ gs G (p + 1) = 0 ∧ gs G (p + 2) = 0 ∧ gs G (p + 3) = 0 ∧ gs G (p + 4) = 0 ∧ gs G (p + 5) = 0 ∧ gs G (p + 6) = 0) ∧ (gr G p 0 = p + 1 ∧ gr G p 1 = p + 2 ∧ gr G p 2 = p + 3 ∧ gr G p 3 = p + 4 ∧ gr G p 4 = p + 5 ∧ gr G p 5 = p + 6) ∧ (gl G (p + 1) = 4 ∧ gl G (p + 2) = 4 ∧ gl G (p + 3) = 12 ∧ gl G (p + 4) = 5 ∧ gl G (p + 5) = 5 ∧ gl G (p + 6) = 12)
/-- what a Town's numbers are within -/
def wT (h : zH) (p : Nat) : Prop := (0 ≤ h p 6 ∧ h p 6 ≤ 4) ∧ (0 ≤ h p 7 ∧ h p 7 ≤ 5) ∧ (0 ≤ h p 8 ∧ h p 8 < 4096) ∧ (0 ≤ h p 9 ∧ h p 9 ≤ 6) ∧ (∀ j, 0 ≤ h (p + 1) j ∧ h (p + 1) j ≤ 3) ∧ (∀ j, 0 ≤ h (p + 2) j ∧ h (p + 2) j ≤ 6) ∧ (∀ j, h (p + 3) j = -4 ∨ (0 ≤ h (p + 3) j ∧ h (p + 3) j ≤ 3)) ∧ (∀ j, 0 ≤ h (p + 4) j ∧ h (p + 4) j ≤ 47) ∧ (∀ j, 0 ≤ h (p + 5) j ∧ h (p + 5) j ≤ 9) ∧ (∀ j, -20 ≤ h (p + 6) j ∧ h (p + 6) j ≤ 20)
def stoodF (st : Nat → Int) : Nat → Int
  | 0 => 0
  | n + 1 => if st (n + 1) = st n then stoodF st n + 4 else 0
theorem stoodF_in (st : Nat → Int) : ∀ j : Nat, 0 ≤ stoodF st j ∧ stoodF st j ≤ 4 * j
  | 0 => by simp [stoodF]
  | n + 1 => by
    have := stoodF_in st n
    unfold stoodF
    split <;> omega
def slipF (kind hour stood : Int) : Int := if kind = 1 then -1 else if kind = 2 then -1 - stood / 8 else if kind = 3 then (if hour % 2 = 0 then 1 else -1) else 0
def bendF (men pa : Int) (kd ln st : Nat → Int) (j : Nat) : Int := if 0 ≤ st j ∧ st j < men then slipF (kd (st j).toNat) j (stoodF st j) + ln (st j).toNat + pa - 6 else 0
/-- the bends reckoned anew -/
def reb (p : Nat) (h : zH) : zH := setB h (p + 6) 12 (bendF (h p 6) (h p 9) (h (p + 1)) (h (p + 2)) (h (p + 3)))
section TW
variable {l : Launch} {G : zG} {h : zH} {p : Nat}
theorem c_hasMan (ly : LT G p) (m : Int) : Ca l G 0 mX2_hasMan [vR p, vI m] h (fun r h' => r = some (vI (z01 (0 ≤ m ∧ m < h p 6))) ∧ h' = h) := by
  obtain ⟨⟨n0, n1, n2, n3, n4, n5, n6⟩, ⟨s0, s1, s2, s3, s4, s5, s6⟩, ⟨r0, r1, r2, r3, r4, r5⟩, ⟨l1, l2, l3, l4, l5, l6⟩⟩ := ly
  refine Ca.of (by decide) (Nat.le_of_ble_eq_true rfl) (fun hI hv hH => ?_)
  refine r_iload_n 1 dX2_hasMan_0 rfl rfl ?_
  refine r_if_lt 16 4 dX2_hasMan_1 (by decide) rfl (fun c_1 => ?_) (fun c_1 => ?_)
  refine r_iconst 17 dX2_hasMan_16 rfl rfl ?_
  refine r_zret dX2_hasMan_17 rfl (by first | exact Or.inl rfl | exact Or.inr rfl | assumption | omega) ?_
  rotate_left -- leaf: return at pc 17
  refine r_iload_n 5 dX2_hasMan_4 rfl rfl ?_
  refine r_aload_n 6 dX2_hasMan_5 rfl rfl ?_
  refine r_getI 9 dX2_hasMan_6 rfl kf_2_33 rfl (by first | assumption | omega) (by assumption) ?_
  refine r_icmp_ge 16 12 dX2_hasMan_9 (by decide) rfl (fun c_9 => ?_) (fun c_9 => ?_)
  refine r_iconst 17 dX2_hasMan_16 rfl rfl ?_
  refine r_zret dX2_hasMan_17 rfl (by first | exact Or.inl rfl | exact Or.inr rfl | assumption | omega) ?_
  rotate_left -- leaf: return at pc 17
  refine r_iconst 13 dX2_hasMan_12 rfl rfl ?_
  refine r_goto 17 dX2_hasMan_13 (by decide) ?_
  refine r_zret dX2_hasMan_17 rfl (by first | exact Or.inl rfl | exact Or.inr rfl | assumption | omega) ?_
  rotate_left -- leaf: return at pc 17
  all_goals refine ⟨?_, rfl⟩
  all_goals unfold z01
  all_goals first | rw [if_pos (by omega)] | rw [if_neg (by omega)]
theorem c_hasDeed (ly : LT G p) (m : Int) : Ca l G 0 mX2_hasDeed [vR p, vI m] h (fun r h' => r = some (vI (z01 (0 ≤ m ∧ m < h p 7))) ∧ h' = h) := by
  obtain ⟨⟨n0, n1, n2, n3, n4, n5, n6⟩, ⟨s0, s1, s2, s3, s4, s5, s6⟩, ⟨r0, r1, r2, r3, r4, r5⟩, ⟨l1, l2, l3, l4, l5, l6⟩⟩ := ly
  refine Ca.of (by decide) (Nat.le_of_ble_eq_true rfl) (fun hI hv hH => ?_)
  refine r_iload_n 1 dX2_hasDeed_0 rfl rfl ?_
  refine r_if_lt 16 4 dX2_hasDeed_1 (by decide) rfl (fun c_1 => ?_) (fun c_1 => ?_)
  refine r_iconst 17 dX2_hasDeed_16 rfl rfl ?_
  refine r_zret dX2_hasDeed_17 rfl (by first | exact Or.inl rfl | exact Or.inr rfl | assumption | omega) ?_
  rotate_left -- leaf: return at pc 17
  refine r_iload_n 5 dX2_hasDeed_4 rfl rfl ?_
  refine r_aload_n 6 dX2_hasDeed_5 rfl rfl ?_
  refine r_getI 9 dX2_hasDeed_6 rfl kf_2_37 rfl (by first | assumption | omega) (by assumption) ?_
  refine r_icmp_ge 16 12 dX2_hasDeed_9 (by decide) rfl (fun c_9 => ?_) (fun c_9 => ?_)
  refine r_iconst 17 dX2_hasDeed_16 rfl rfl ?_
  refine r_zret dX2_hasDeed_17 rfl (by first | exact Or.inl rfl | exact Or.inr rfl | assumption | omega) ?_
  rotate_left -- leaf: return at pc 17
  refine r_iconst 13 dX2_hasDeed_12 rfl rfl ?_
  refine r_goto 17 dX2_hasDeed_13 (by decide) ?_
  refine r_zret dX2_hasDeed_17 rfl (by first | exact Or.inl rfl | exact Or.inr rfl | assumption | omega) ?_
  rotate_left -- leaf: return at pc 17
  all_goals refine ⟨?_, rfl⟩
  all_goals unfold z01
  all_goals first | rw [if_pos (by omega)] | rw [if_neg (by omega)]
theorem c_isCloudy (ly : LT G p) (j : Nat) (hj : j < 12) : Ca l G 0 mX2_isCloudy [vR p, vI j] h (fun r h' => r = some (vI (bitI (h p 8) j)) ∧ h' = h) := by
  obtain ⟨⟨n0, n1, n2, n3, n4, n5, n6⟩, ⟨s0, s1, s2, s3, s4, s5, s6⟩, ⟨r0, r1, r2, r3, r4, r5⟩, ⟨l1, l2, l3, l4, l5, l6⟩⟩ := ly
  refine Ca.of (by decide) (Nat.le_of_ble_eq_true rfl) (fun hI hv hH => ?_)
  have e1 : z_iand (z_ishr (h p 8) j) 1 = bitI (h p 8) j := by
    rw [z_shr (hH p 8) (by omega), z_and1 ?_]
    · rfl
    · have h1 := hH p 8
      have h2 : (0 : Int) < 2 ^ j := Int.pow_pos (by decide)
      have := Int.ediv_mul_le (h p 8) (show (2 : Int) ^ j ≠ 0 by omega)
      have := Int.lt_ediv_add_one_mul_self (h p 8) h2
      constructor
      · have := h1.1
        apply Int.le_ediv_of_mul_le h2
        have : (-2147483648 : Int) * 2 ^ j ≤ -2147483648 := by
          have : (1 : Int) ≤ 2 ^ j := h2
          omega
        omega
      · have := h1.2
        apply Int.ediv_lt_of_lt_mul h2
        have : (2147483648 : Int) ≤ 2147483648 * 2 ^ j := by
          have : (1 : Int) ≤ 2 ^ j := h2
          omega
        omega
  have hb : bitI (h p 8) j = 0 ∨ bitI (h p 8) j = 1 := by unfold bitI; omega
  refine r_aload_n 1 dX2_isCloudy_0 rfl rfl ?_
  refine r_getI 4 dX2_isCloudy_1 rfl kf_2_40 rfl (by first | assumption | omega) (by assumption) ?_
  refine r_iload_n 5 dX2_isCloudy_4 rfl rfl ?_
  refine r_ishr 6 dX2_isCloudy_5 rfl rfl ?_
  refine r_iconst 7 dX2_isCloudy_6 rfl rfl ?_
  refine r_iand 8 dX2_isCloudy_7 rfl rfl ?_
  rotate_left -- leaf: pc 8
  rw [e1]
  refine r_iconst 9 dX2_isCloudy_8 rfl rfl ?_
  refine r_icmp_ne 16 12 dX2_isCloudy_9 (by decide) rfl (fun c_9 => ?_) (fun c_9 => ?_)
  refine r_iconst 17 dX2_isCloudy_16 rfl rfl ?_
  refine r_zret dX2_isCloudy_17 rfl (by first | exact Or.inl rfl | exact Or.inr rfl | assumption | omega) ?_
  rotate_left -- leaf: return at pc 17
  refine r_iconst 13 dX2_isCloudy_12 rfl rfl ?_
  refine r_goto 17 dX2_isCloudy_13 (by decide) ?_
  refine r_zret dX2_isCloudy_17 rfl (by first | exact Or.inl rfl | exact Or.inr rfl | assumption | omega) ?_
  rotate_left -- leaf: return at pc 17
  all_goals refine ⟨?_, rfl⟩
  · rw [show bitI (h p 8) j = 0 by omega]
  · rw [show bitI (h p 8) j = 1 by omega]
theorem c_readsIn (ly : LT G p) (j : Nat) (hj : j < 12) : Ca l G 1 mX2_readsIn [vR p, vI j] h (fun r h' => r = some (vI (z01 (¬ h (p + 3) j = -4 ∧ bitI (h p 8) j = 0))) ∧ h' = h) := by
  have ly0 := ly
  obtain ⟨⟨n0, n1, n2, n3, n4, n5, n6⟩, ⟨s0, s1, s2, s3, s4, s5, s6⟩, ⟨r0, r1, r2, r3, r4, r5⟩, ⟨l1, l2, l3, l4, l5, l6⟩⟩ := ly
  refine Ca.of (by decide) (Nat.le_of_ble_eq_true rfl) (fun hI hv hH => ?_)
  refine r_aload_n 1 dX2_readsIn_0 rfl rfl ?_
  refine r_getR 4 dX2_readsIn_1 rfl kf_2_18 rfl (by first | assumption | omega) (by assumption) (by assumption) ?_
  refine r_iload_n 5 dX2_readsIn_4 rfl rfl ?_
  refine r_iald 6 dX2_readsIn_5 rfl (by first | assumption | omega) (by assumption) (by first | omega | (simp only [Int.toNat_natCast]; omega)) (by first | omega | (simp only [Int.toNat_natCast]; omega)) ?_
  refine r_bipush 8 dX2_readsIn_6 rfl rfl (by decide) ?_
  refine r_icmp_eq 23 11 dX2_readsIn_8 (by decide) rfl (fun c_8 => ?_) (fun c_8 => ?_)
  refine r_iconst 24 dX2_readsIn_23 rfl rfl ?_
  refine r_zret dX2_readsIn_24 rfl (by first | exact Or.inl rfl | exact Or.inr rfl | assumption | omega) ?_
  rotate_left -- leaf: return at pc 24
  refine r_aload_n 12 dX2_readsIn_11 rfl rfl ?_
  refine r_iload_n 13 dX2_readsIn_12 rfl rfl ?_
  rotate_left -- leaf: call at pc 13
  · refine ⟨?_, rfl⟩
    simp only [Int.toNat_natCast] at c_8
    rw [z01_f (fun z => z.1 c_8)]
  · simp only [Int.toNat_natCast] at c_8
    refine r_cv1 16 dX2_readsIn_13 rfl kv_2_67 (by first | assumption | omega) (by assumption) rfl rfl (c_isCloudy ly0 j hj) ?_
    rintro r h' ⟨rfl, rfl⟩
    have hb : bitI (h' p 8) j = 0 ∨ bitI (h' p 8) j = 1 := by unfold bitI; omega
    refine r_if_ne 23 19 dX2_readsIn_16 (by decide) rfl (fun c_16 => ?_) (fun c_16 => ?_)
    refine r_iconst 24 dX2_readsIn_23 rfl rfl ?_
    refine r_zret dX2_readsIn_24 rfl (by first | exact Or.inl rfl | exact Or.inr rfl | assumption | omega) ?_
    rotate_left -- leaf: return at pc 24
    refine r_iconst 20 dX2_readsIn_19 rfl rfl ?_
    refine r_goto 24 dX2_readsIn_20 (by decide) ?_
    refine r_zret dX2_readsIn_24 rfl (by first | exact Or.inl rfl | exact Or.inr rfl | assumption | omega) ?_
    rotate_left -- leaf: return at pc 24
    · exact ⟨by rw [z01_f (fun z => c_16 z.2)], rfl⟩
    · exact ⟨by rw [z01_t ⟨c_8, c_16⟩], rfl⟩
theorem c_slip (k hr sd : Int) (h0 : 0 ≤ hr) (h1 : 0 ≤ sd) : Ca l G 0 mX2_slip [vI k, vI hr, vI sd] h (fun r h' => r = some (vI (slipF k hr sd)) ∧ h' = h) := by
  refine Ca.of (by decide) (Nat.le_of_ble_eq_true rfl) (fun hI hv hH => ?_)
  have hs : in32 sd := hv (vI sd) (by simp)
  have hs2 := hs.2
  have hd0 : 0 ≤ sd / 8 := by omega
  have hd1 : sd / 8 ≤ sd := by omega
  refine r_iload_n 1 dX2_slip_0 rfl rfl ?_
  by_cases k1 : k = 1
  · subst k1
    refine r_tabIn 28 dX2_slip_1 (by decide) (by decide) rfl (by decide) ?_
    refine r_iconst 29 dX2_slip_28 rfl rfl ?_
    refine r_iret dX2_slip_29 rfl ?_
    rotate_left -- leaf: return at pc 29
    exact ⟨rfl, rfl⟩
  by_cases k2 : k = 2
  · subst k2
    refine r_tabIn 30 dX2_slip_1 (by decide) (by decide) rfl (by decide) ?_
    refine r_iconst 31 dX2_slip_30 rfl rfl ?_
    refine r_iload_n 32 dX2_slip_31 rfl rfl ?_
    refine r_bipush 34 dX2_slip_32 rfl rfl (by decide) ?_
    refine r_idiv 35 dX2_slip_34 rfl (by first | omega | (simp only [Int.toNat_natCast]; omega)) (by first | omega | (simp only [Int.toNat_natCast]; omega)) ?_
    refine r_isub 36 dX2_slip_35 rfl (by first | exact w32_id (by omega) (by omega) | rfl) ?_
    refine r_iret dX2_slip_36 rfl ?_
    rotate_left -- leaf: return at pc 36
    exact ⟨by simp [slipF], rfl⟩
  by_cases k3 : k = 3
  · subst k3
    refine r_tabIn 37 dX2_slip_1 (by decide) (by decide) rfl (by decide) ?_
    refine r_iload_n 38 dX2_slip_37 rfl rfl ?_
    refine r_iconst 39 dX2_slip_38 rfl rfl ?_
    refine r_irem 40 dX2_slip_39 rfl (by first | omega | (simp only [Int.toNat_natCast]; omega)) (by first | omega | (simp only [Int.toNat_natCast]; omega)) ?_
    refine r_if_ne 47 43 dX2_slip_40 (by decide) rfl (fun c_40 => ?_) (fun c_40 => ?_)
    refine r_iconst 48 dX2_slip_47 rfl rfl ?_
    refine r_iret dX2_slip_48 rfl ?_
    rotate_left -- leaf: return at pc 48
    refine r_iconst 44 dX2_slip_43 rfl rfl ?_
    refine r_goto 48 dX2_slip_44 (by decide) ?_
    refine r_iret dX2_slip_48 rfl ?_
    rotate_left -- leaf: return at pc 48
    · exact ⟨by simp [slipF, c_40], rfl⟩
    · exact ⟨by simp [slipF, c_40], rfl⟩
  · refine r_tabOut 49 dX2_slip_1 (by omega) (by decide) ?_
    refine r_iconst 50 dX2_slip_49 rfl rfl ?_
    refine r_iret dX2_slip_50 rfl ?_
    rotate_left -- leaf: return at pc 50
    exact ⟨by simp [slipF, k1, k2, k3], rfl⟩
end TW
end
section
/-! SunPointer$Town: what changes it -/
section TW
variable {l : Launch} {G : zG} {h : zH} {p : Nat}
theorem slipF_in (k hr sd : Int) (h1 : 0 ≤ sd) (h2 : sd ≤ 48) : -7 ≤ slipF k hr sd ∧ slipF k hr sd ≤ 1 := by
  unfold slipF
  split
  · omega
  · split
    · omega
    · split
      · split <;> omega
      · omega
theorem bendF_in {men pa : Int} {kd ln st : Nat → Int} {j : Nat} (hj : j < 12) (h1 : 0 ≤ pa ∧ pa ≤ 6) (h2 : ∀ j, 0 ≤ ln j ∧ ln j ≤ 6) : -20 ≤ bendF men pa kd ln st j ∧ bendF men pa kd ln st j ≤ 20 := by
  unfold bendF
  split
  · have := stoodF_in st j
    have := slipF_in (kd (st j).toNat) j (stoodF st j) (by omega) (by omega)
    have := h2 (st j).toNat
    omega
  · omega
theorem reb_n {a b : Nat} (q : a ≠ p + 6) : reb p h a b = h a b := setB_n q
theorem wT_reb (w : wT h p) : wT (reb p h) p := by
  obtain ⟨w1, w2, w3, w4, w5, w6, w7, w8, w9, w10⟩ := w
  refine ⟨by rw [reb_n (by omega)]; exact w1, by rw [reb_n (by omega)]; exact w2, by rw [reb_n (by omega)]; exact w3, by rw [reb_n (by omega)]; exact w4, fun j => by rw [reb_n (by omega)]; exact w5 j, fun j => by rw [reb_n (by omega)]; exact w6 j, fun j => by rw [reb_n (by omega)]; exact w7 j, fun j => by rw [reb_n (by omega)]; exact w8 j, fun j => by rw [reb_n (by omega)]; exact w9 j, fun j => ?_⟩
  by_cases hj : j < 12
  · unfold reb; rw [setB_i hj]; exact bendF_in hj w4 w6
  · unfold reb; rw [setB_o (by omega)]; exact w10 j
theorem l_reckon (ly : LT G p) (w : wT h p) {Φ : Option zV → zH → Prop} (hΦ : Φ none (reb p h)) : ∀ (n j : Nat) (x3 x4 : Option zV), j + n = 12 → Rr l G 1 mX2_reckonBends Φ 4 [some (vR p), some (vI (if j = 0 then 0 else stoodF (h (p + 3)) (j - 1))), some (vI j), x3, x4] [] (setB h (p + 6) j (bendF (h p 6) (h p 9) (h (p + 1)) (h (p + 2)) (h (p + 3)))) := by
  have ly0 := ly
  obtain ⟨⟨n0, n1, n2, n3, n4, n5, n6⟩, ⟨s0, s1, s2, s3, s4, s5, s6⟩, ⟨r0, r1, r2, r3, r4, r5⟩, ⟨l1, l2, l3, l4, l5, l6⟩⟩ := ly
  obtain ⟨w1, w2, w3, w4, w5, w6, w7, w8, w9, w10⟩ := w
  intro n
  induction n with
  | zero =>
    intro j x3 x4 hj
    obtain rfl : j = 12 := by omega
    refine r_iload_n 5 dX2_reckonBends_4 rfl rfl ?_
    refine r_bipush 7 dX2_reckonBends_5 rfl rfl (by decide) ?_
    refine r_icmp_ge 103 10 dX2_reckonBends_7 (by decide) rfl (fun c_7 => ?_) (fun c_7 => ?_)
    refine r_ret dX2_reckonBends_103 rfl ?_
    rotate_left -- leaf: return at pc 103
    rotate_left -- leaf: pc 10
    · exact hΦ
    · omega
  | succ n ih =>
    intro j x3 x4 hj
    have ih := ih (j + 1)
    obtain ⟨f, hf⟩ : ∃ f, f = bendF (h p 6) (h p 9) (h (p + 1)) (h (p + 2)) (h (p + 3)) := ⟨_, rfl⟩
    rw [← hf] at ih ⊢
    obtain ⟨sd, hsd⟩ : ∃ sd, sd = (if j = 0 then 0 else stoodF (h (p + 3)) (j - 1)) := ⟨_, rfl⟩
    rw [← hsd]
    have hsi : 0 ≤ sd ∧ sd ≤ 44 := by
      have := stoodF_in (h (p + 3)) (j - 1)
      rw [hsd]; split <;> omega
    obtain ⟨g, hgd⟩ : ∃ g, g = setB h (p + 6) j f := ⟨_, rfl⟩
    rw [← hgd]
    have hg : ∀ a b, a ≠ p + 6 → g a b = h a b := fun a b q => by rw [hgd]; exact setB_n q
    have e3 : ∀ b, g (p + 3) b = h (p + 3) b := fun b => hg _ _ (by omega)
    have J96 : ∀ x4, Rr l G 1 mX2_reckonBends Φ 96 [some (vR p), some (vI (stoodF (h (p + 3)) j)), some (vI j), some (vI (h (p + 3) j)), x4] [vI (f j), vI j, vR (p + 6)] g := by
      intro x4
      refine r_iast 97 dX2_reckonBends_96 rfl (by first | assumption | omega) (by assumption) (by first | omega | (simp only [Int.toNat_natCast]; omega)) (by first | omega | (simp only [Int.toNat_natCast]; omega)) ?_
      refine r_iinc 100 _ dX2_reckonBends_97 rfl rfl rfl rfl (by first | exact w32_id (by omega) (by omega) | rfl) ?_
      refine r_goto 4 dX2_reckonBends_100 (by decide) ?_
      rotate_left -- leaf: pc 4
      have e : up g (p + 6) (j : Int).toNat (f j) = setB h (p + 6) (j + 1) f := by rw [Int.toNat_natCast, hgd]; exact setB_s
      rw [e]
      have := ih (some (vI (h (p + 3) j))) x4 (by omega)
      rw [if_neg (by omega), Nat.add_sub_cancel] at this
      exact this
    have J52 : ∀ x4, Rr l G 1 mX2_reckonBends Φ 52 [some (vR p), some (vI sd), some (vI j), some (vI (h (p + 3) j)), x4] [vI (stoodF (h (p + 3)) j)] g := by
      intro x4
      refine r_istore_n 53 dX2_reckonBends_52 rfl rfl rfl ?_
      refine r_aload_n 54 dX2_reckonBends_53 rfl rfl ?_
      refine r_getR 57 dX2_reckonBends_54 rfl kf_2_27 rfl (by first | assumption | omega) (by assumption) (by assumption) ?_
      refine r_iload_n 58 dX2_reckonBends_57 rfl rfl ?_
      refine r_aload_n 59 dX2_reckonBends_58 rfl rfl ?_
      refine r_iload_n 60 dX2_reckonBends_59 rfl rfl ?_
      rotate_left -- leaf: call at pc 60
      refine r_cv1 63 dX2_reckonBends_60 rfl kv_2_59 (by first | assumption | omega) (by assumption) rfl rfl (c_hasMan ly0 (h (p + 3) j)) ?_
      rintro r h' ⟨rfl, rfl⟩
      rw [hg p 6 (by omega)]
      refine r_if_eq 95 66 dX2_reckonBends_63 (by decide) rfl (fun c_63 => ?_) (fun c_63 => ?_)
      refine r_iconst 96 dX2_reckonBends_95 rfl rfl ?_
      rotate_left -- leaf: pc 96
      rotate_left -- leaf: pc 66
      · have hz : f j = 0 := by rw [hf]; unfold bendF; rw [if_neg (z01_n.mp c_63)]
        have := J96 x4
        rw [hz] at this
        exact this
      · have hm := z01_y.mp c_63
        have hsx := stoodF_in (h (p + 3)) j
        have w6 := w6 (h (p + 3) j).toNat
        have hsl := slipF_in (h (p + 1) (h (p + 3) j).toNat) j (stoodF (h (p + 3)) j) (by omega) (by omega)
        refine r_aload_n 67 dX2_reckonBends_66 rfl rfl ?_
        refine r_getR 70 dX2_reckonBends_67 rfl kf_2_9 rfl (by first | assumption | omega) (by assumption) (by assumption) ?_
        refine r_iload_n 71 dX2_reckonBends_70 rfl rfl ?_
        refine r_iald 72 dX2_reckonBends_71 rfl (by first | assumption | omega) (by assumption) (by first | omega | (simp only [Int.toNat_natCast]; omega)) (by first | omega | (simp only [Int.toNat_natCast]; omega)) ?_
        refine r_iload_n 73 dX2_reckonBends_72 rfl rfl ?_
        refine r_iload_n 74 dX2_reckonBends_73 rfl rfl ?_
        rotate_left -- leaf: call at pc 74
        rw [hg (p + 1) _ (by omega)]
        refine r_cs3 77 dX2_reckonBends_74 rfl ks_2_63 rfl rfl (c_slip (h (p + 1) (h (p + 3) j).toNat) j (stoodF (h (p + 3)) j) (by omega) (by omega)) ?_
        rintro r h'' ⟨rfl, rfl⟩
        refine r_aload_n 78 dX2_reckonBends_77 rfl rfl ?_
        refine r_getR 81 dX2_reckonBends_78 rfl kf_2_15 rfl (by first | assumption | omega) (by assumption) (by assumption) ?_
        refine r_iload_n 82 dX2_reckonBends_81 rfl rfl ?_
        refine r_iald 83 dX2_reckonBends_82 rfl (by first | assumption | omega) (by assumption) (by first | omega | (simp only [Int.toNat_natCast]; omega)) (by first | omega | (simp only [Int.toNat_natCast]; omega)) ?_
        rotate_left -- leaf: pc 83
        rw [hg (p + 2) _ (by omega)]
        refine r_iadd 84 dX2_reckonBends_83 rfl (by first | exact w32_id (by omega) (by omega) | rfl) ?_
        refine r_aload_n 85 dX2_reckonBends_84 rfl rfl ?_
        refine r_getI 88 dX2_reckonBends_85 rfl kf_2_43 rfl (by first | assumption | omega) (by assumption) ?_
        rotate_left -- leaf: pc 88
        rw [hg p 9 (by omega)]
        refine r_iadd 89 dX2_reckonBends_88 rfl (by first | exact w32_id (by omega) (by omega) | rfl) ?_
        refine r_bipush 91 dX2_reckonBends_89 rfl rfl (by decide) ?_
        refine r_isub 92 dX2_reckonBends_91 rfl (by first | exact w32_id (by omega) (by omega) | rfl) ?_
        refine r_goto 96 dX2_reckonBends_92 (by decide) ?_
        rotate_left -- leaf: pc 96
        have hz : f j = slipF (h (p + 1) (h (p + 3) j).toNat) j (stoodF (h (p + 3)) j) + h (p + 2) (h (p + 3) j).toNat + h p 9 - 6 := by rw [hf]; unfold bendF; rw [if_pos hm]
        have := J96 x4
        rw [hz] at this
        exact this
    have J38 : Rr l G 1 mX2_reckonBends Φ 38 [some (vR p), some (vI sd), some (vI j), some (vI (h (p + 3) j)), x4] [vI (z01 (0 < j ∧ h (p + 3) j = h (p + 3) (j - 1)))] g := by
      refine r_istore 40 dX2_reckonBends_38 rfl rfl rfl ?_
      refine r_iload 42 dX2_reckonBends_40 rfl rfl ?_
      refine r_if_eq 51 45 dX2_reckonBends_42 (by decide) rfl (fun c_42 => ?_) (fun c_42 => ?_)
      refine r_iconst 52 dX2_reckonBends_51 rfl rfl ?_
      rotate_left -- leaf: pc 52
      refine r_iload_n 46 dX2_reckonBends_45 rfl rfl ?_
      refine r_iconst 47 dX2_reckonBends_46 rfl rfl ?_
      refine r_iadd 48 dX2_reckonBends_47 rfl (by first | exact w32_id (by omega) (by omega) | rfl) ?_
      refine r_goto 52 dX2_reckonBends_48 (by decide) ?_
      rotate_left -- leaf: pc 52
      · have hn := z01_n.mp c_42
        have hz : stoodF (h (p + 3)) j = 0 := by
          cases j with
          | zero => rfl
          | succ j => unfold stoodF; exact if_neg (fun q => hn ⟨by omega, q⟩)
        have := J52 (some (vI (z01 (0 < j ∧ h (p + 3) j = h (p + 3) (j - 1)))))
        rw [hz] at this
        exact this
      · obtain ⟨hn, hn2⟩ := z01_y.mp c_42
        have hz : stoodF (h (p + 3)) j = sd + 4 := by
          rw [hsd, if_neg (by omega)]
          obtain ⟨i, rfl⟩ : ∃ i, j = i + 1 := ⟨j - 1, by omega⟩
          rw [Nat.add_sub_cancel] at hn2 ⊢
          rw [stoodF, if_pos hn2]
        have := J52 (some (vI (z01 (0 < j ∧ h (p + 3) j = h (p + 3) (j - 1)))))
        rw [hz] at this
        exact this
    refine r_iload_n 5 dX2_reckonBends_4 rfl rfl ?_
    refine r_bipush 7 dX2_reckonBends_5 rfl rfl (by decide) ?_
    refine r_icmp_ge 103 10 dX2_reckonBends_7 (by decide) rfl (fun c_7 => ?_) (fun c_7 => ?_)
    refine r_ret dX2_reckonBends_103 rfl ?_
    rotate_left -- leaf: return at pc 103
    refine r_aload_n 11 dX2_reckonBends_10 rfl rfl ?_
    refine r_getR 14 dX2_reckonBends_11 rfl kf_2_18 rfl (by first | assumption | omega) (by assumption) (by assumption) ?_
    refine r_iload_n 15 dX2_reckonBends_14 rfl rfl ?_
    refine r_iald 16 dX2_reckonBends_15 rfl (by first | assumption | omega) (by assumption) (by first | omega | (simp only [Int.toNat_natCast]; omega)) (by first | omega | (simp only [Int.toNat_natCast]; omega)) ?_
    rotate_left -- leaf: pc 16
    · omega
    rw [Int.toNat_natCast, e3]
    refine r_istore_n 17 dX2_reckonBends_16 rfl rfl rfl ?_
    refine r_iload_n 18 dX2_reckonBends_17 rfl rfl ?_
    refine r_if_le 37 21 dX2_reckonBends_18 (by decide) rfl (fun c_18 => ?_) (fun c_18 => ?_)
    refine r_iconst 38 dX2_reckonBends_37 rfl rfl ?_
    rotate_left -- leaf: pc 38
    refine r_iload_n 22 dX2_reckonBends_21 rfl rfl ?_
    refine r_aload_n 23 dX2_reckonBends_22 rfl rfl ?_
    refine r_getR 26 dX2_reckonBends_23 rfl kf_2_18 rfl (by first | assumption | omega) (by assumption) (by assumption) ?_
    refine r_iload_n 27 dX2_reckonBends_26 rfl rfl ?_
    refine r_iconst 28 dX2_reckonBends_27 rfl rfl ?_
    refine r_isub 29 dX2_reckonBends_28 rfl (by first | exact w32_id (by omega) (by omega) | rfl) ?_
    refine r_iald 30 dX2_reckonBends_29 rfl (by first | assumption | omega) (by assumption) (by first | omega | (simp only [Int.toNat_natCast]; omega)) (by first | omega | (simp only [Int.toNat_natCast]; omega)) ?_
    rotate_left -- leaf: pc 30
    · have := J38
      rw [z01_f (by omega)] at this
      exact this
    · have ej : ((j : Int) - 1).toNat = j - 1 := by omega
      rw [ej, e3]
      refine r_icmp_ne 37 33 dX2_reckonBends_30 (by decide) rfl (fun c_30 => ?_) (fun c_30 => ?_)
      refine r_iconst 38 dX2_reckonBends_37 rfl rfl ?_
      rotate_left -- leaf: pc 38
      refine r_iconst 34 dX2_reckonBends_33 rfl rfl ?_
      refine r_goto 38 dX2_reckonBends_34 (by decide) ?_
      rotate_left -- leaf: pc 38
      · have := J38
        rw [z01_f (fun q => c_30 q.2)] at this
        exact this
      · have := J38
        rw [z01_t ⟨by omega, c_30⟩] at this
        exact this
theorem c_reckon (ly : LT G p) (w : wT h p) : Ca l G 1 mX2_reckonBends [vR p] h (fun r h' => r = none ∧ h' = reb p h) := by
  refine Ca.of (by decide) (Nat.le_of_ble_eq_true rfl) (fun hI hv hH => ?_)
  refine r_iconst 1 dX2_reckonBends_0 rfl rfl ?_
  refine r_istore_n 2 dX2_reckonBends_1 rfl rfl rfl ?_
  refine r_iconst 3 dX2_reckonBends_2 rfl rfl ?_
  refine r_istore_n 4 dX2_reckonBends_3 rfl rfl rfl ?_
  rotate_left -- leaf: pc 4
  have := l_reckon (l := l) (G := G) ly w (Φ := fun r h' => r = none ∧ h' = reb p h) ⟨rfl, rfl⟩ 12 0 none none rfl
  rw [setB_0] at this
  exact this
end TW
end
section
/-! SunPointer$Town: what changes it, part 2 -/
def tlen (i : Nat) : Nat := match i with
  | 1 => 4
  | 2 => 4
  | 3 => 12
  | 4 => 5
  | 5 => 5
  | 6 => 12
  | _ => 0
/-- Town p becomes as Town q -/
def cpT (h : zH) (q p : Nat) : zH := fun a b => if a = p then (if 6 ≤ b ∧ b ≤ 9 then h q b else h p b) else if p < a ∧ a ≤ p + 6 ∧ b < tlen (a - p) then h (q + (a - p)) b else h a b
def cldF (c : Int) (j : Nat) (b : Int) : Int := if b = 0 then z_iand c (z_ixor (2 ^ j) (-1)) else z_ior c (2 ^ j)
section TW
variable {l : Launch} {G : zG} {h : zH} {p : Nat}

theorem c_setKind (ly : LT G p) (m : Nat) (hm : m < 4) (v : Int) (w : wT (up h (p + 1) m v) p) : Ca l G 2 mX2_setKind [vR p, vI m, vI v] h (fun r h' => r = none ∧ h' = reb p (up h (p + 1) m v)) := by
  have ly0 := ly
  obtain ⟨⟨n0, n1, n2, n3, n4, n5, n6⟩, ⟨s0, s1, s2, s3, s4, s5, s6⟩, ⟨r0, r1, r2, r3, r4, r5⟩, ⟨l1, l2, l3, l4, l5, l6⟩⟩ := ly
  refine Ca.of (by decide) (Nat.le_of_ble_eq_true rfl) (fun hI hv hH => ?_)
  refine r_aload_n 1 dX2_setKind_0 rfl rfl ?_
  refine r_getR 4 dX2_setKind_1 rfl kf_2_9 rfl (by first | assumption | omega) (by assumption) (by assumption) ?_
  refine r_iload_n 5 dX2_setKind_4 rfl rfl ?_
  refine r_iload_n 6 dX2_setKind_5 rfl rfl ?_
  refine r_iast 7 dX2_setKind_6 rfl (by first | assumption | omega) (by assumption) (by first | omega | (simp only [Int.toNat_natCast]; omega)) (by first | omega | (simp only [Int.toNat_natCast]; omega)) ?_
  refine r_aload_n 8 dX2_setKind_7 rfl rfl ?_
  rotate_left -- leaf: call at pc 8
  rw [Int.toNat_natCast]
  refine r_cv0 11 dX2_setKind_8 rfl kv_2_56 (by first | assumption | omega) (by assumption) rfl rfl (c_reckon ly0 w) ?_
  rintro r h' ⟨rfl, rfl⟩
  refine r_ret dX2_setKind_11 rfl ?_
  rotate_left -- leaf: return at pc 11
  exact ⟨rfl, rfl⟩

theorem c_setLean (ly : LT G p) (m : Nat) (hm : m < 4) (v : Int) (w : wT (up h (p + 2) m v) p) : Ca l G 2 mX2_setLean [vR p, vI m, vI v] h (fun r h' => r = none ∧ h' = reb p (up h (p + 2) m v)) := by
  have ly0 := ly
  obtain ⟨⟨n0, n1, n2, n3, n4, n5, n6⟩, ⟨s0, s1, s2, s3, s4, s5, s6⟩, ⟨r0, r1, r2, r3, r4, r5⟩, ⟨l1, l2, l3, l4, l5, l6⟩⟩ := ly
  refine Ca.of (by decide) (Nat.le_of_ble_eq_true rfl) (fun hI hv hH => ?_)
  refine r_aload_n 1 dX2_setLean_0 rfl rfl ?_
  refine r_getR 4 dX2_setLean_1 rfl kf_2_15 rfl (by first | assumption | omega) (by assumption) (by assumption) ?_
  refine r_iload_n 5 dX2_setLean_4 rfl rfl ?_
  refine r_iload_n 6 dX2_setLean_5 rfl rfl ?_
  refine r_iast 7 dX2_setLean_6 rfl (by first | assumption | omega) (by assumption) (by first | omega | (simp only [Int.toNat_natCast]; omega)) (by first | omega | (simp only [Int.toNat_natCast]; omega)) ?_
  refine r_aload_n 8 dX2_setLean_7 rfl rfl ?_
  rotate_left -- leaf: call at pc 8
  rw [Int.toNat_natCast]
  refine r_cv0 11 dX2_setLean_8 rfl kv_2_56 (by first | assumption | omega) (by assumption) rfl rfl (c_reckon ly0 w) ?_
  rintro r h' ⟨rfl, rfl⟩
  refine r_ret dX2_setLean_11 rfl ?_
  rotate_left -- leaf: return at pc 11
  exact ⟨rfl, rfl⟩

theorem c_setStands (ly : LT G p) (m : Nat) (hm : m < 12) (v : Int) (w : wT (up h (p + 3) m v) p) : Ca l G 2 mX2_setStands [vR p, vI m, vI v] h (fun r h' => r = none ∧ h' = reb p (up h (p + 3) m v)) := by
  have ly0 := ly
  obtain ⟨⟨n0, n1, n2, n3, n4, n5, n6⟩, ⟨s0, s1, s2, s3, s4, s5, s6⟩, ⟨r0, r1, r2, r3, r4, r5⟩, ⟨l1, l2, l3, l4, l5, l6⟩⟩ := ly
  refine Ca.of (by decide) (Nat.le_of_ble_eq_true rfl) (fun hI hv hH => ?_)
  refine r_aload_n 1 dX2_setStands_0 rfl rfl ?_
  refine r_getR 4 dX2_setStands_1 rfl kf_2_18 rfl (by first | assumption | omega) (by assumption) (by assumption) ?_
  refine r_iload_n 5 dX2_setStands_4 rfl rfl ?_
  refine r_iload_n 6 dX2_setStands_5 rfl rfl ?_
  refine r_iast 7 dX2_setStands_6 rfl (by first | assumption | omega) (by assumption) (by first | omega | (simp only [Int.toNat_natCast]; omega)) (by first | omega | (simp only [Int.toNat_natCast]; omega)) ?_
  refine r_aload_n 8 dX2_setStands_7 rfl rfl ?_
  rotate_left -- leaf: call at pc 8
  rw [Int.toNat_natCast]
  refine r_cv0 11 dX2_setStands_8 rfl kv_2_56 (by first | assumption | omega) (by assumption) rfl rfl (c_reckon ly0 w) ?_
  rintro r h' ⟨rfl, rfl⟩
  refine r_ret dX2_setStands_11 rfl ?_
  rotate_left -- leaf: return at pc 11
  exact ⟨rfl, rfl⟩

theorem c_setPainted (ly : LT G p) (v : Int) (w : wT (up h p 9 v) p) : Ca l G 2 mX2_setPainted [vR p, vI v] h (fun r h' => r = none ∧ h' = reb p (up h p 9 v)) := by
  have ly0 := ly
  obtain ⟨⟨n0, n1, n2, n3, n4, n5, n6⟩, ⟨s0, s1, s2, s3, s4, s5, s6⟩, ⟨r0, r1, r2, r3, r4, r5⟩, ⟨l1, l2, l3, l4, l5, l6⟩⟩ := ly
  refine Ca.of (by decide) (Nat.le_of_ble_eq_true rfl) (fun hI hv hH => ?_)
  refine r_aload_n 1 dX2_setPainted_0 rfl rfl ?_
  refine r_iload_n 2 dX2_setPainted_1 rfl rfl ?_
  refine r_putI 5 dX2_setPainted_2 rfl kf_2_43 rfl rfl (Or.inl rfl) (by first | assumption | omega) (by assumption) ?_
  refine r_aload_n 6 dX2_setPainted_5 rfl rfl ?_
  rotate_left -- leaf: call at pc 6
  refine r_cv0 9 dX2_setPainted_6 rfl kv_2_56 (by first | assumption | omega) (by assumption) rfl rfl (c_reckon ly0 w) ?_
  rintro r h' ⟨rfl, rfl⟩
  refine r_ret dX2_setPainted_9 rfl ?_
  rotate_left -- leaf: return at pc 9
  exact ⟨rfl, rfl⟩
theorem c_exchange (ly : LT G p) (a b : Nat) (ha : a < 12) (hb : b < 12) (w : wT (up (up h (p + 3) a (h (p + 3) b)) (p + 3) b (h (p + 3) a)) p) : Ca l G 2 mX2_exchange [vR p, vI a, vI b] h (fun r h' => r = none ∧ h' = reb p (up (up h (p + 3) a (h (p + 3) b)) (p + 3) b (h (p + 3) a))) := by
  have ly0 := ly
  obtain ⟨⟨n0, n1, n2, n3, n4, n5, n6⟩, ⟨s0, s1, s2, s3, s4, s5, s6⟩, ⟨r0, r1, r2, r3, r4, r5⟩, ⟨l1, l2, l3, l4, l5, l6⟩⟩ := ly
  refine Ca.of (by decide) (Nat.le_of_ble_eq_true rfl) (fun hI hv hH => ?_)
  refine r_aload_n 1 dX2_exchange_0 rfl rfl ?_
  refine r_getR 4 dX2_exchange_1 rfl kf_2_18 rfl (by first | assumption | omega) (by assumption) (by assumption) ?_
  refine r_iload_n 5 dX2_exchange_4 rfl rfl ?_
  refine r_iald 6 dX2_exchange_5 rfl (by first | assumption | omega) (by assumption) (by first | omega | (simp only [Int.toNat_natCast]; omega)) (by first | omega | (simp only [Int.toNat_natCast]; omega)) ?_
  refine r_istore_n 7 dX2_exchange_6 rfl rfl rfl ?_
  refine r_aload_n 8 dX2_exchange_7 rfl rfl ?_
  refine r_getR 11 dX2_exchange_8 rfl kf_2_18 rfl (by first | assumption | omega) (by assumption) (by assumption) ?_
  refine r_iload_n 12 dX2_exchange_11 rfl rfl ?_
  refine r_aload_n 13 dX2_exchange_12 rfl rfl ?_
  refine r_getR 16 dX2_exchange_13 rfl kf_2_18 rfl (by first | assumption | omega) (by assumption) (by assumption) ?_
  refine r_iload_n 17 dX2_exchange_16 rfl rfl ?_
  refine r_iald 18 dX2_exchange_17 rfl (by first | assumption | omega) (by assumption) (by first | omega | (simp only [Int.toNat_natCast]; omega)) (by first | omega | (simp only [Int.toNat_natCast]; omega)) ?_
  refine r_iast 19 dX2_exchange_18 rfl (by first | assumption | omega) (by assumption) (by first | omega | (simp only [Int.toNat_natCast]; omega)) (by first | omega | (simp only [Int.toNat_natCast]; omega)) ?_
  refine r_aload_n 20 dX2_exchange_19 rfl rfl ?_
  refine r_getR 23 dX2_exchange_20 rfl kf_2_18 rfl (by first | assumption | omega) (by assumption) (by assumption) ?_
  refine r_iload_n 24 dX2_exchange_23 rfl rfl ?_
  refine r_iload_n 25 dX2_exchange_24 rfl rfl ?_
  refine r_iast 26 dX2_exchange_25 rfl (by first | assumption | omega) (by assumption) (by first | omega | (simp only [Int.toNat_natCast]; omega)) (by first | omega | (simp only [Int.toNat_natCast]; omega)) ?_
  refine r_aload_n 27 dX2_exchange_26 rfl rfl ?_
  rotate_left -- leaf: call at pc 27
  simp only [Int.toNat_natCast]
  refine r_cv0 30 dX2_exchange_27 rfl kv_2_56 (by first | assumption | omega) (by assumption) rfl rfl (c_reckon ly0 w) ?_
  rintro r h' ⟨rfl, rfl⟩
  refine r_ret dX2_exchange_30 rfl ?_
  rotate_left -- leaf: return at pc 30
  exact ⟨rfl, rfl⟩
theorem l_setAll (ly : LT G p) (m : Int) {Φ : Option zV → zH → Prop} (w : wT (setB h (p + 3) 12 (fun _ => m)) p) (hΦ : Φ none (reb p (setB h (p + 3) 12 (fun _ => m)))) : ∀ (n j : Nat), j + n = 12 → Rr l G 2 mX2_setAllStand Φ 2 [some (vR p), some (vI m), some (vI j)] [] (setB h (p + 3) j (fun _ => m)) := by
  have ly0 := ly
  obtain ⟨⟨n0, n1, n2, n3, n4, n5, n6⟩, ⟨s0, s1, s2, s3, s4, s5, s6⟩, ⟨r0, r1, r2, r3, r4, r5⟩, ⟨l1, l2, l3, l4, l5, l6⟩⟩ := ly
  intro n
  induction n with
  | zero =>
    intro j hj
    obtain rfl : j = 12 := by omega
    refine r_iload_n 3 dX2_setAllStand_2 rfl rfl ?_
    refine r_bipush 5 dX2_setAllStand_3 rfl rfl (by decide) ?_
    refine r_icmp_ge 21 8 dX2_setAllStand_5 (by decide) rfl (fun c_5 => ?_) (fun c_5 => ?_)
    refine r_aload_n 22 dX2_setAllStand_21 rfl rfl ?_
    rotate_left -- leaf: call at pc 22
    rotate_left -- leaf: pc 8
    · refine r_cv0 25 dX2_setAllStand_22 rfl kv_2_56 (by first | assumption | omega) (by assumption) rfl rfl (c_reckon ly0 w) ?_
      rintro r h' ⟨rfl, rfl⟩
      refine r_ret dX2_setAllStand_25 rfl ?_
      rotate_left -- leaf: return at pc 25
      exact hΦ
    · omega
  | succ n ih =>
    intro j hj
    refine r_iload_n 3 dX2_setAllStand_2 rfl rfl ?_
    refine r_bipush 5 dX2_setAllStand_3 rfl rfl (by decide) ?_
    refine r_icmp_ge 21 8 dX2_setAllStand_5 (by decide) rfl (fun c_5 => ?_) (fun c_5 => ?_)
    rotate_left -- leaf: pc 21
    refine r_aload_n 9 dX2_setAllStand_8 rfl rfl ?_
    refine r_getR 12 dX2_setAllStand_9 rfl kf_2_18 rfl (by first | assumption | omega) (by assumption) (by assumption) ?_
    refine r_iload_n 13 dX2_setAllStand_12 rfl rfl ?_
    refine r_iload_n 14 dX2_setAllStand_13 rfl rfl ?_
    refine r_iast 15 dX2_setAllStand_14 rfl (by first | assumption | omega) (by assumption) (by first | omega | (simp only [Int.toNat_natCast]; omega)) (by first | omega | (simp only [Int.toNat_natCast]; omega)) ?_
    refine r_iinc 18 _ dX2_setAllStand_15 rfl rfl rfl rfl (by first | exact w32_id (by omega) (by omega) | rfl) ?_
    refine r_goto 2 dX2_setAllStand_18 (by decide) ?_
    rotate_left -- leaf: pc 2
    · omega
    · rw [Int.toNat_natCast]
      have e := setB_s (h := h) (k := p + 3) (j := j) (f := fun _ => m)
      rw [e]
      exact ih (j + 1) (by omega)
theorem c_setAllStand (ly : LT G p) (m : Int) (w : wT (setB h (p + 3) 12 (fun _ => m)) p) : Ca l G 2 mX2_setAllStand [vR p, vI m] h (fun r h' => r = none ∧ h' = reb p (setB h (p + 3) 12 (fun _ => m))) := by
  refine Ca.of (by decide) (Nat.le_of_ble_eq_true rfl) (fun hI hv hH => ?_)
  refine r_iconst 1 dX2_setAllStand_0 rfl rfl ?_
  refine r_istore_n 2 dX2_setAllStand_1 rfl rfl rfl ?_
  rotate_left -- leaf: pc 2
  have := l_setAll (l := l) (G := G) ly m (Φ := fun r h' => r = none ∧ h' = reb p (setB h (p + 3) 12 (fun _ => m))) w ⟨rfl, rfl⟩ 12 0 rfl
  rw [setB_0] at this
  exact this
/-- an empty Town -/
def clT0 (p : Nat) (h : zH) : zH := reb p (setB (up (up (up (up h p 6 0) p 7 0) p 8 0) p 9 3) (p + 3) 12 (fun _ => -4))
theorem c_clear (ly : LT G p) (w : wT (setB (up (up (up (up h p 6 0) p 7 0) p 8 0) p 9 3) (p + 3) 12 (fun _ => -4)) p) : Ca l G 3 mX2_clear [vR p] h (fun r h' => r = none ∧ h' = clT0 p h) := by
  have ly0 := ly
  obtain ⟨⟨n0, n1, n2, n3, n4, n5, n6⟩, ⟨s0, s1, s2, s3, s4, s5, s6⟩, ⟨r0, r1, r2, r3, r4, r5⟩, ⟨l1, l2, l3, l4, l5, l6⟩⟩ := ly
  refine Ca.of (by decide) (Nat.le_of_ble_eq_true rfl) (fun hI hv hH => ?_)
  refine r_aload_n 1 dX2_clear_0 rfl rfl ?_
  refine r_iconst 2 dX2_clear_1 rfl rfl ?_
  refine r_putI 5 dX2_clear_2 rfl kf_2_33 rfl rfl (Or.inl rfl) (by first | assumption | omega) (by assumption) ?_
  refine r_aload_n 6 dX2_clear_5 rfl rfl ?_
  refine r_iconst 7 dX2_clear_6 rfl rfl ?_
  refine r_putI 10 dX2_clear_7 rfl kf_2_37 rfl rfl (Or.inl rfl) (by first | assumption | omega) (by assumption) ?_
  refine r_aload_n 11 dX2_clear_10 rfl rfl ?_
  refine r_iconst 12 dX2_clear_11 rfl rfl ?_
  refine r_putI 15 dX2_clear_12 rfl kf_2_40 rfl rfl (Or.inl rfl) (by first | assumption | omega) (by assumption) ?_
  refine r_aload_n 16 dX2_clear_15 rfl rfl ?_
  refine r_iconst 17 dX2_clear_16 rfl rfl ?_
  refine r_putI 20 dX2_clear_17 rfl kf_2_43 rfl rfl (Or.inl rfl) (by first | assumption | omega) (by assumption) ?_
  refine r_aload_n 21 dX2_clear_20 rfl rfl ?_
  refine r_bipush 23 dX2_clear_21 rfl rfl (by decide) ?_
  rotate_left -- leaf: call at pc 23
  refine r_cv1 26 dX2_clear_23 rfl kv_2_46 (by first | assumption | omega) (by assumption) rfl rfl (c_setAllStand ly0 (-4) w) ?_
  rintro r h' ⟨rfl, rfl⟩
  refine r_ret dX2_clear_26 rfl ?_
  rotate_left -- leaf: return at pc 26
  exact ⟨rfl, rfl⟩
theorem c_addMan (ly : LT G p) (k v : Int) (hw : wT h p) (w : h p 6 < 4 → wT (up (up (up h (p + 1) (h p 6).toNat k) (p + 2) (h p 6).toNat v) p 6 (h p 6 + 1)) p) : Ca l G 2 mX2_addMan [vR p, vI k, vI v] h (fun r h' => (4 ≤ h p 6 ∧ r = some (vI 0) ∧ h' = h) ∨ (h p 6 < 4 ∧ r = some (vI 1) ∧ h' = reb p (up (up (up h (p + 1) (h p 6).toNat k) (p + 2) (h p 6).toNat v) p 6 (h p 6 + 1)))) := by
  have ly0 := ly
  obtain ⟨⟨n0, n1, n2, n3, n4, n5, n6⟩, ⟨s0, s1, s2, s3, s4, s5, s6⟩, ⟨r0, r1, r2, r3, r4, r5⟩, ⟨l1, l2, l3, l4, l5, l6⟩⟩ := ly
  obtain ⟨w1, w2, w3, w4, w5, w6, w7, w8, w9, w10⟩ := hw
  refine Ca.of (by decide) (Nat.le_of_ble_eq_true rfl) (fun hI hv hH => ?_)
  refine r_aload_n 1 dX2_addMan_0 rfl rfl ?_
  refine r_getI 4 dX2_addMan_1 rfl kf_2_33 rfl (by first | assumption | omega) (by assumption) ?_
  refine r_iconst 5 dX2_addMan_4 rfl rfl ?_
  refine r_icmp_lt 10 8 dX2_addMan_5 (by decide) rfl (fun c_5 => ?_) (fun c_5 => ?_)
  rotate_left -- leaf: pc 10
  refine r_iconst 9 dX2_addMan_8 rfl rfl ?_
  refine r_zret dX2_addMan_9 rfl (by first | exact Or.inl rfl | exact Or.inr rfl | assumption | omega) ?_
  rotate_left -- leaf: return at pc 9
  · have e1 : up h (p + 1) (h p 6).toNat k p 6 = h p 6 := up_k (by omega)
    refine r_aload_n 11 dX2_addMan_10 rfl rfl ?_
    refine r_getR 14 dX2_addMan_11 rfl kf_2_9 rfl (by first | assumption | omega) (by assumption) (by assumption) ?_
    refine r_aload_n 15 dX2_addMan_14 rfl rfl ?_
    refine r_getI 18 dX2_addMan_15 rfl kf_2_33 rfl (by first | assumption | omega) (by assumption) ?_
    refine r_iload_n 19 dX2_addMan_18 rfl rfl ?_
    refine r_iast 20 dX2_addMan_19 rfl (by first | assumption | omega) (by assumption) (by first | omega | (simp only [Int.toNat_natCast]; omega)) (by first | omega | (simp only [Int.toNat_natCast]; omega)) ?_
    refine r_aload_n 21 dX2_addMan_20 rfl rfl ?_
    refine r_getR 24 dX2_addMan_21 rfl kf_2_15 rfl (by first | assumption | omega) (by assumption) (by assumption) ?_
    refine r_aload_n 25 dX2_addMan_24 rfl rfl ?_
    refine r_getI 28 dX2_addMan_25 rfl kf_2_33 rfl (by first | assumption | omega) (by assumption) ?_
    rotate_left -- leaf: pc 28
    rw [e1]
    have e2 : up (up h (p + 1) (h p 6).toNat k) (p + 2) (h p 6).toNat v p 6 = h p 6 := by rw [up_k (by omega), e1]
    refine r_iload_n 29 dX2_addMan_28 rfl rfl ?_
    refine r_iast 30 dX2_addMan_29 rfl (by first | assumption | omega) (by assumption) (by first | omega | (simp only [Int.toNat_natCast]; omega)) (by first | omega | (simp only [Int.toNat_natCast]; omega)) ?_
    refine r_aload_n 31 dX2_addMan_30 rfl rfl ?_
    refine r_dup 32 dX2_addMan_31 rfl rfl ?_
    refine r_getI 35 dX2_addMan_32 rfl kf_2_33 rfl (by first | assumption | omega) (by assumption) ?_
    rotate_left -- leaf: pc 35
    rw [e2]
    refine r_iconst 36 dX2_addMan_35 rfl rfl ?_
    refine r_iadd 37 dX2_addMan_36 rfl (by first | exact w32_id (by omega) (by omega) | rfl) ?_
    refine r_putI 40 dX2_addMan_37 rfl kf_2_33 rfl rfl (Or.inl rfl) (by first | assumption | omega) (by assumption) ?_
    refine r_aload_n 41 dX2_addMan_40 rfl rfl ?_
    rotate_left -- leaf: call at pc 41
    refine r_cv0 44 dX2_addMan_41 rfl kv_2_56 (by first | assumption | omega) (by assumption) rfl rfl (c_reckon ly0 (w c_5)) ?_
    rintro r h' ⟨rfl, rfl⟩
    refine r_iconst 45 dX2_addMan_44 rfl rfl ?_
    refine r_zret dX2_addMan_45 rfl (by first | exact Or.inl rfl | exact Or.inr rfl | assumption | omega) ?_
    rotate_left -- leaf: return at pc 45
    exact Or.inr ⟨c_5, rfl, rfl⟩
  · exact Or.inl ⟨c_5, rfl, rfl⟩
theorem c_addDeed (ly : LT G p) (k v : Int) (hw : wT h p) : Ca l G 0 mX2_addDeed [vR p, vI k, vI v] h (fun r h' => (5 ≤ h p 7 ∧ r = some (vI 0) ∧ h' = h) ∨ (h p 7 < 5 ∧ r = some (vI 1) ∧ h' = up (up (up h (p + 4) (h p 7).toNat k) (p + 5) (h p 7).toNat v) p 7 (h p 7 + 1))) := by
  obtain ⟨⟨n0, n1, n2, n3, n4, n5, n6⟩, ⟨s0, s1, s2, s3, s4, s5, s6⟩, ⟨r0, r1, r2, r3, r4, r5⟩, ⟨l1, l2, l3, l4, l5, l6⟩⟩ := ly
  obtain ⟨w1, w2, w3, w4, w5, w6, w7, w8, w9, w10⟩ := hw
  refine Ca.of (by decide) (Nat.le_of_ble_eq_true rfl) (fun hI hv hH => ?_)
  refine r_aload_n 1 dX2_addDeed_0 rfl rfl ?_
  refine r_getI 4 dX2_addDeed_1 rfl kf_2_37 rfl (by first | assumption | omega) (by assumption) ?_
  refine r_iconst 5 dX2_addDeed_4 rfl rfl ?_
  refine r_icmp_lt 10 8 dX2_addDeed_5 (by decide) rfl (fun c_5 => ?_) (fun c_5 => ?_)
  rotate_left -- leaf: pc 10
  refine r_iconst 9 dX2_addDeed_8 rfl rfl ?_
  refine r_zret dX2_addDeed_9 rfl (by first | exact Or.inl rfl | exact Or.inr rfl | assumption | omega) ?_
  rotate_left -- leaf: return at pc 9
  · have e1 : up h (p + 4) (h p 7).toNat k p 7 = h p 7 := up_k (by omega)
    refine r_aload_n 11 dX2_addDeed_10 rfl rfl ?_
    refine r_getR 14 dX2_addDeed_11 rfl kf_2_21 rfl (by first | assumption | omega) (by assumption) (by assumption) ?_
    refine r_aload_n 15 dX2_addDeed_14 rfl rfl ?_
    refine r_getI 18 dX2_addDeed_15 rfl kf_2_37 rfl (by first | assumption | omega) (by assumption) ?_
    refine r_iload_n 19 dX2_addDeed_18 rfl rfl ?_
    refine r_iast 20 dX2_addDeed_19 rfl (by first | assumption | omega) (by assumption) (by first | omega | (simp only [Int.toNat_natCast]; omega)) (by first | omega | (simp only [Int.toNat_natCast]; omega)) ?_
    refine r_aload_n 21 dX2_addDeed_20 rfl rfl ?_
    refine r_getR 24 dX2_addDeed_21 rfl kf_2_24 rfl (by first | assumption | omega) (by assumption) (by assumption) ?_
    refine r_aload_n 25 dX2_addDeed_24 rfl rfl ?_
    refine r_getI 28 dX2_addDeed_25 rfl kf_2_37 rfl (by first | assumption | omega) (by assumption) ?_
    rotate_left -- leaf: pc 28
    rw [e1]
    have e2 : up (up h (p + 4) (h p 7).toNat k) (p + 5) (h p 7).toNat v p 7 = h p 7 := by rw [up_k (by omega), e1]
    refine r_iload_n 29 dX2_addDeed_28 rfl rfl ?_
    refine r_iast 30 dX2_addDeed_29 rfl (by first | assumption | omega) (by assumption) (by first | omega | (simp only [Int.toNat_natCast]; omega)) (by first | omega | (simp only [Int.toNat_natCast]; omega)) ?_
    refine r_aload_n 31 dX2_addDeed_30 rfl rfl ?_
    refine r_dup 32 dX2_addDeed_31 rfl rfl ?_
    refine r_getI 35 dX2_addDeed_32 rfl kf_2_37 rfl (by first | assumption | omega) (by assumption) ?_
    rotate_left -- leaf: pc 35
    rw [e2]
    refine r_iconst 36 dX2_addDeed_35 rfl rfl ?_
    refine r_iadd 37 dX2_addDeed_36 rfl (by first | exact w32_id (by omega) (by omega) | rfl) ?_
    refine r_putI 40 dX2_addDeed_37 rfl kf_2_37 rfl rfl (Or.inl rfl) (by first | assumption | omega) (by assumption) ?_
    refine r_iconst 41 dX2_addDeed_40 rfl rfl ?_
    refine r_zret dX2_addDeed_41 rfl (by first | exact Or.inl rfl | exact Or.inr rfl | assumption | omega) ?_
    rotate_left -- leaf: return at pc 41
    exact Or.inr ⟨c_5, rfl, rfl⟩
  · exact Or.inl ⟨c_5, rfl, rfl⟩
theorem c_setCloudy (ly : LT G p) (j : Nat) (hj : j < 12) (b : Int) : Ca l G 0 mX2_setCloudy [vR p, vI j, vI b] h (fun r h' => r = none ∧ h' = up h p 8 (cldF (h p 8) j b)) := by
  obtain ⟨⟨n0, n1, n2, n3, n4, n5, n6⟩, ⟨s0, s1, s2, s3, s4, s5, s6⟩, ⟨r0, r1, r2, r3, r4, r5⟩, ⟨l1, l2, l3, l4, l5, l6⟩⟩ := ly
  refine Ca.of (by decide) (Nat.le_of_ble_eq_true rfl) (fun hI hv hH => ?_)
  refine r_aload_n 1 dX2_setCloudy_0 rfl rfl ?_
  refine r_iload_n 2 dX2_setCloudy_1 rfl rfl ?_
  refine r_if_eq 16 5 dX2_setCloudy_2 (by decide) rfl (fun c_2 => ?_) (fun c_2 => ?_)
  refine r_aload_n 17 dX2_setCloudy_16 rfl rfl ?_
  refine r_getI 20 dX2_setCloudy_17 rfl kf_2_40 rfl (by first | assumption | omega) (by assumption) ?_
  refine r_iconst 21 dX2_setCloudy_20 rfl rfl ?_
  refine r_iload_n 22 dX2_setCloudy_21 rfl rfl ?_
  refine r_ishl 23 dX2_setCloudy_22 rfl rfl ?_
  refine r_iconst 24 dX2_setCloudy_23 rfl rfl ?_
  refine r_ixor 25 dX2_setCloudy_24 rfl rfl ?_
  refine r_iand 26 dX2_setCloudy_25 rfl rfl ?_
  refine r_putI 29 dX2_setCloudy_26 rfl kf_2_40 rfl rfl (Or.inl rfl) (by first | assumption | omega) (by assumption) ?_
  refine r_ret dX2_setCloudy_29 rfl ?_
  rotate_left -- leaf: return at pc 29
  refine r_aload_n 6 dX2_setCloudy_5 rfl rfl ?_
  refine r_getI 9 dX2_setCloudy_6 rfl kf_2_40 rfl (by first | assumption | omega) (by assumption) ?_
  refine r_iconst 10 dX2_setCloudy_9 rfl rfl ?_
  refine r_iload_n 11 dX2_setCloudy_10 rfl rfl ?_
  refine r_ishl 12 dX2_setCloudy_11 rfl rfl ?_
  refine r_ior 13 dX2_setCloudy_12 rfl rfl ?_
  refine r_goto 26 dX2_setCloudy_13 (by decide) ?_
  refine r_putI 29 dX2_setCloudy_26 rfl kf_2_40 rfl rfl (Or.inl rfl) (by first | assumption | omega) (by assumption) ?_
  refine r_ret dX2_setCloudy_29 rfl ?_
  rotate_left -- leaf: return at pc 29
  · refine ⟨rfl, ?_⟩
    rw [z_shl1 j (by omega), cldF, if_pos c_2]
  · refine ⟨rfl, ?_⟩
    rw [z_shl1 j (by omega), cldF, if_neg c_2]
theorem ne_pq {p q : Nat} (i j : Nat) (h : p + 6 < q ∨ q + 6 < p) (hi : i ≤ 6) (hj : j ≤ 6) : ¬ q + i = p + j := by omega
theorem ne_pq0 {p q : Nat} (j : Nat) (h : p + 6 < q ∨ q + 6 < p) (hj : j ≤ 6) : ¬ q = p + j := by omega
theorem cpT_eq {q : Nat} (hpq : p + 6 < q ∨ q + 6 < p) : up (up (up (up (cpy (cpy (cpy (cpy (cpy (cpy h (q + 1) (p + 1) 4) (q + 2) (p + 2) 4) (q + 3) (p + 3) 12) (q + 4) (p + 4) 5) (q + 5) (p + 5) 5) (q + 6) (p + 6) 12) p 6 ((cpy (cpy (cpy (cpy (cpy (cpy h (q + 1) (p + 1) 4) (q + 2) (p + 2) 4) (q + 3) (p + 3) 12) (q + 4) (p + 4) 5) (q + 5) (p + 5) 5) (q + 6) (p + 6) 12) q 6)) p 7 (up (cpy (cpy (cpy (cpy (cpy (cpy h (q + 1) (p + 1) 4) (q + 2) (p + 2) 4) (q + 3) (p + 3) 12) (q + 4) (p + 4) 5) (q + 5) (p + 5) 5) (q + 6) (p + 6) 12) p 6 ((cpy (cpy (cpy (cpy (cpy (cpy h (q + 1) (p + 1) 4) (q + 2) (p + 2) 4) (q + 3) (p + 3) 12) (q + 4) (p + 4) 5) (q + 5) (p + 5) 5) (q + 6) (p + 6) 12) q 6) q 7)) p 8 (up (up (cpy (cpy (cpy (cpy (cpy (cpy h (q + 1) (p + 1) 4) (q + 2) (p + 2) 4) (q + 3) (p + 3) 12) (q + 4) (p + 4) 5) (q + 5) (p + 5) 5) (q + 6) (p + 6) 12) p 6 ((cpy (cpy (cpy (cpy (cpy (cpy h (q + 1) (p + 1) 4) (q + 2) (p + 2) 4) (q + 3) (p + 3) 12) (q + 4) (p + 4) 5) (q + 5) (p + 5) 5) (q + 6) (p + 6) 12) q 6)) p 7 (up (cpy (cpy (cpy (cpy (cpy (cpy h (q + 1) (p + 1) 4) (q + 2) (p + 2) 4) (q + 3) (p + 3) 12) (q + 4) (p + 4) 5) (q + 5) (p + 5) 5) (q + 6) (p + 6) 12) p 6 ((cpy (cpy (cpy (cpy (cpy (cpy h (q + 1) (p + 1) 4) (q + 2) (p + 2) 4) (q + 3) (p + 3) 12) (q + 4) (p + 4) 5) (q + 5) (p + 5) 5) (q + 6) (p + 6) 12) q 6) q 7) q 8)) p 9 (up (up (up (cpy (cpy (cpy (cpy (cpy (cpy h (q + 1) (p + 1) 4) (q + 2) (p + 2) 4) (q + 3) (p + 3) 12) (q + 4) (p + 4) 5) (q + 5) (p + 5) 5) (q + 6) (p + 6) 12) p 6 ((cpy (cpy (cpy (cpy (cpy (cpy h (q + 1) (p + 1) 4) (q + 2) (p + 2) 4) (q + 3) (p + 3) 12) (q + 4) (p + 4) 5) (q + 5) (p + 5) 5) (q + 6) (p + 6) 12) q 6)) p 7 (up (cpy (cpy (cpy (cpy (cpy (cpy h (q + 1) (p + 1) 4) (q + 2) (p + 2) 4) (q + 3) (p + 3) 12) (q + 4) (p + 4) 5) (q + 5) (p + 5) 5) (q + 6) (p + 6) 12) p 6 ((cpy (cpy (cpy (cpy (cpy (cpy h (q + 1) (p + 1) 4) (q + 2) (p + 2) 4) (q + 3) (p + 3) 12) (q + 4) (p + 4) 5) (q + 5) (p + 5) 5) (q + 6) (p + 6) 12) q 6) q 7)) p 8 (up (up (cpy (cpy (cpy (cpy (cpy (cpy h (q + 1) (p + 1) 4) (q + 2) (p + 2) 4) (q + 3) (p + 3) 12) (q + 4) (p + 4) 5) (q + 5) (p + 5) 5) (q + 6) (p + 6) 12) p 6 ((cpy (cpy (cpy (cpy (cpy (cpy h (q + 1) (p + 1) 4) (q + 2) (p + 2) 4) (q + 3) (p + 3) 12) (q + 4) (p + 4) 5) (q + 5) (p + 5) 5) (q + 6) (p + 6) 12) q 6)) p 7 (up (cpy (cpy (cpy (cpy (cpy (cpy h (q + 1) (p + 1) 4) (q + 2) (p + 2) 4) (q + 3) (p + 3) 12) (q + 4) (p + 4) 5) (q + 5) (p + 5) 5) (q + 6) (p + 6) 12) p 6 ((cpy (cpy (cpy (cpy (cpy (cpy h (q + 1) (p + 1) 4) (q + 2) (p + 2) 4) (q + 3) (p + 3) 12) (q + 4) (p + 4) 5) (q + 5) (p + 5) 5) (q + 6) (p + 6) 12) q 6) q 7) q 8) q 9) = cpT h q p := by
  have hq0 : ¬ q = p := by omega
  have q1 := ne_pq0 1 hpq (by decide)
  have q2 := ne_pq0 2 hpq (by decide)
  have q3 := ne_pq0 3 hpq (by decide)
  have q4 := ne_pq0 4 hpq (by decide)
  have q5 := ne_pq0 5 hpq (by decide)
  have q6 := ne_pq0 6 hpq (by decide)
  have e11 := ne_pq 1 1 hpq (by decide) (by decide)
  have e12 := ne_pq 1 2 hpq (by decide) (by decide)
  have e13 := ne_pq 1 3 hpq (by decide) (by decide)
  have e14 := ne_pq 1 4 hpq (by decide) (by decide)
  have e15 := ne_pq 1 5 hpq (by decide) (by decide)
  have e16 := ne_pq 1 6 hpq (by decide) (by decide)
  have e21 := ne_pq 2 1 hpq (by decide) (by decide)
  have e22 := ne_pq 2 2 hpq (by decide) (by decide)
  have e23 := ne_pq 2 3 hpq (by decide) (by decide)
  have e24 := ne_pq 2 4 hpq (by decide) (by decide)
  have e25 := ne_pq 2 5 hpq (by decide) (by decide)
  have e26 := ne_pq 2 6 hpq (by decide) (by decide)
  have e31 := ne_pq 3 1 hpq (by decide) (by decide)
  have e32 := ne_pq 3 2 hpq (by decide) (by decide)
  have e33 := ne_pq 3 3 hpq (by decide) (by decide)
  have e34 := ne_pq 3 4 hpq (by decide) (by decide)
  have e35 := ne_pq 3 5 hpq (by decide) (by decide)
  have e36 := ne_pq 3 6 hpq (by decide) (by decide)
  have e41 := ne_pq 4 1 hpq (by decide) (by decide)
  have e42 := ne_pq 4 2 hpq (by decide) (by decide)
  have e43 := ne_pq 4 3 hpq (by decide) (by decide)
  have e44 := ne_pq 4 4 hpq (by decide) (by decide)
  have e45 := ne_pq 4 5 hpq (by decide) (by decide)
  have e46 := ne_pq 4 6 hpq (by decide) (by decide)
  have e51 := ne_pq 5 1 hpq (by decide) (by decide)
  have e52 := ne_pq 5 2 hpq (by decide) (by decide)
  have e53 := ne_pq 5 3 hpq (by decide) (by decide)
  have e54 := ne_pq 5 4 hpq (by decide) (by decide)
  have e55 := ne_pq 5 5 hpq (by decide) (by decide)
  have e56 := ne_pq 5 6 hpq (by decide) (by decide)
  have e61 := ne_pq 6 1 hpq (by decide) (by decide)
  have e62 := ne_pq 6 2 hpq (by decide) (by decide)
  have e63 := ne_pq 6 3 hpq (by decide) (by decide)
  have e64 := ne_pq 6 4 hpq (by decide) (by decide)
  have e65 := ne_pq 6 5 hpq (by decide) (by decide)
  have e66 := ne_pq 6 6 hpq (by decide) (by decide)
  funext a b
  by_cases h0 : a = p
  · subst h0
    by_cases b6 : b = 6
    · subst b6
      simp [up, cpy, cpT, hq0, q1, q2, q3, q4, q5, q6]
    by_cases b7 : b = 7
    · subst b7
      simp [up, cpy, cpT, hq0, q1, q2, q3, q4, q5, q6]
    by_cases b8 : b = 8
    · subst b8
      simp [up, cpy, cpT, hq0, q1, q2, q3, q4, q5, q6]
    by_cases b9 : b = 9
    · subst b9
      simp [up, cpy, cpT, hq0, q1, q2, q3, q4, q5, q6]
    · have hb : ¬ (6 ≤ b ∧ b ≤ 9) := by omega
      simp [up, cpy, cpT, b6, b7, b8, b9, hb]
  by_cases h1 : a = p + 1
  · subst h1
    by_cases hb : b < 4
    · simp [up, cpy, cpT, tlen, hb, e11, e12, e13, e14, e15, e16]
    · simp [up, cpy, cpT, tlen, hb]
  by_cases h2 : a = p + 2
  · subst h2
    by_cases hb : b < 4
    · simp [up, cpy, cpT, tlen, hb, e21, e22, e23, e24, e25, e26]
    · simp [up, cpy, cpT, tlen, hb]
  by_cases h3 : a = p + 3
  · subst h3
    by_cases hb : b < 12
    · simp [up, cpy, cpT, tlen, hb, e31, e32, e33, e34, e35, e36]
    · simp [up, cpy, cpT, tlen, hb]
  by_cases h4 : a = p + 4
  · subst h4
    by_cases hb : b < 5
    · simp [up, cpy, cpT, tlen, hb, e41, e42, e43, e44, e45, e46]
    · simp [up, cpy, cpT, tlen, hb]
  by_cases h5 : a = p + 5
  · subst h5
    by_cases hb : b < 5
    · simp [up, cpy, cpT, tlen, hb, e51, e52, e53, e54, e55, e56]
    · simp [up, cpy, cpT, tlen, hb]
  by_cases h6 : a = p + 6
  · subst h6
    by_cases hb : b < 12
    · simp [up, cpy, cpT, tlen, hb, e61, e62, e63, e64, e65, e66]
    · simp [up, cpy, cpT, tlen, hb]
  have hout : ¬ (p < a ∧ a ≤ p + 6 ∧ b < tlen (a - p)) := by
    clear e11 e12 e13 e14 e15 e16 e21 e22 e23 e24 e25 e26 e31 e32 e33 e34 e35 e36 e41 e42 e43 e44 e45 e46 e51 e52 e53 e54 e55 e56 e61 e62 e63 e64 e65 e66 q1 q2 q3 q4 q5 q6 hq0 hpq
    omega
  simp [up, cpy, cpT, h0, h1, h2, h3, h4, h5, h6, hout]
theorem c_copyOf {q : Nat} (ly : LT G p) (lq : LT G q) (hpq : p + 6 < q ∨ q + 6 < p) : Ca l G 1 mX2_copyOf [vR p, vR q] h (fun r h' => r = none ∧ h' = cpT h q p) := by
  obtain ⟨⟨n0, n1, n2, n3, n4, n5, n6⟩, ⟨s0, s1, s2, s3, s4, s5, s6⟩, ⟨r0, r1, r2, r3, r4, r5⟩, ⟨l1, l2, l3, l4, l5, l6⟩⟩ := ly
  obtain ⟨⟨n0', n1', n2', n3', n4', n5', n6'⟩, ⟨s0', s1', s2', s3', s4', s5', s6'⟩, ⟨r0', r1', r2', r3', r4', r5'⟩, ⟨l1', l2', l3', l4', l5', l6'⟩⟩ := lq
  refine Ca.of (by decide) (Nat.le_of_ble_eq_true rfl) (fun hI hv hH => ?_)
  refine r_aload_n 1 dX2_copyOf_0 rfl rfl ?_
  refine r_getR 4 dX2_copyOf_1 rfl kf_2_9 rfl (by first | assumption | omega) (by assumption) (by assumption) ?_
  refine r_iconst 5 dX2_copyOf_4 rfl rfl ?_
  refine r_aload_n 6 dX2_copyOf_5 rfl rfl ?_
  refine r_getR 9 dX2_copyOf_6 rfl kf_2_9 rfl (by first | assumption | omega) (by assumption) (by assumption) ?_
  refine r_iconst 10 dX2_copyOf_9 rfl rfl ?_
  refine r_iconst 11 dX2_copyOf_10 rfl rfl ?_
  refine r_copy (n := 4) 14 dX2_copyOf_11 rfl kc_2_50 rfl rfl (by first | assumption | omega) (by first | assumption | omega) (by assumption) (by assumption) rfl (by first | omega | (simp only [Int.toNat_natCast]; omega)) (by first | omega | (simp only [Int.toNat_natCast]; omega)) ?_
  refine r_aload_n 15 dX2_copyOf_14 rfl rfl ?_
  refine r_getR 18 dX2_copyOf_15 rfl kf_2_15 rfl (by first | assumption | omega) (by assumption) (by assumption) ?_
  refine r_iconst 19 dX2_copyOf_18 rfl rfl ?_
  refine r_aload_n 20 dX2_copyOf_19 rfl rfl ?_
  refine r_getR 23 dX2_copyOf_20 rfl kf_2_15 rfl (by first | assumption | omega) (by assumption) (by assumption) ?_
  refine r_iconst 24 dX2_copyOf_23 rfl rfl ?_
  refine r_iconst 25 dX2_copyOf_24 rfl rfl ?_
  refine r_copy (n := 4) 28 dX2_copyOf_25 rfl kc_2_50 rfl rfl (by first | assumption | omega) (by first | assumption | omega) (by assumption) (by assumption) rfl (by first | omega | (simp only [Int.toNat_natCast]; omega)) (by first | omega | (simp only [Int.toNat_natCast]; omega)) ?_
  refine r_aload_n 29 dX2_copyOf_28 rfl rfl ?_
  refine r_getR 32 dX2_copyOf_29 rfl kf_2_18 rfl (by first | assumption | omega) (by assumption) (by assumption) ?_
  refine r_iconst 33 dX2_copyOf_32 rfl rfl ?_
  refine r_aload_n 34 dX2_copyOf_33 rfl rfl ?_
  refine r_getR 37 dX2_copyOf_34 rfl kf_2_18 rfl (by first | assumption | omega) (by assumption) (by assumption) ?_
  refine r_iconst 38 dX2_copyOf_37 rfl rfl ?_
  refine r_bipush 40 dX2_copyOf_38 rfl rfl (by decide) ?_
  refine r_copy (n := 12) 43 dX2_copyOf_40 rfl kc_2_50 rfl rfl (by first | assumption | omega) (by first | assumption | omega) (by assumption) (by assumption) rfl (by first | omega | (simp only [Int.toNat_natCast]; omega)) (by first | omega | (simp only [Int.toNat_natCast]; omega)) ?_
  refine r_aload_n 44 dX2_copyOf_43 rfl rfl ?_
  refine r_getR 47 dX2_copyOf_44 rfl kf_2_21 rfl (by first | assumption | omega) (by assumption) (by assumption) ?_
  refine r_iconst 48 dX2_copyOf_47 rfl rfl ?_
  refine r_aload_n 49 dX2_copyOf_48 rfl rfl ?_
  refine r_getR 52 dX2_copyOf_49 rfl kf_2_21 rfl (by first | assumption | omega) (by assumption) (by assumption) ?_
  refine r_iconst 53 dX2_copyOf_52 rfl rfl ?_
  refine r_iconst 54 dX2_copyOf_53 rfl rfl ?_
  refine r_copy (n := 5) 57 dX2_copyOf_54 rfl kc_2_50 rfl rfl (by first | assumption | omega) (by first | assumption | omega) (by assumption) (by assumption) rfl (by first | omega | (simp only [Int.toNat_natCast]; omega)) (by first | omega | (simp only [Int.toNat_natCast]; omega)) ?_
  refine r_aload_n 58 dX2_copyOf_57 rfl rfl ?_
  refine r_getR 61 dX2_copyOf_58 rfl kf_2_24 rfl (by first | assumption | omega) (by assumption) (by assumption) ?_
  refine r_iconst 62 dX2_copyOf_61 rfl rfl ?_
  refine r_aload_n 63 dX2_copyOf_62 rfl rfl ?_
  refine r_getR 66 dX2_copyOf_63 rfl kf_2_24 rfl (by first | assumption | omega) (by assumption) (by assumption) ?_
  refine r_iconst 67 dX2_copyOf_66 rfl rfl ?_
  refine r_iconst 68 dX2_copyOf_67 rfl rfl ?_
  refine r_copy (n := 5) 71 dX2_copyOf_68 rfl kc_2_50 rfl rfl (by first | assumption | omega) (by first | assumption | omega) (by assumption) (by assumption) rfl (by first | omega | (simp only [Int.toNat_natCast]; omega)) (by first | omega | (simp only [Int.toNat_natCast]; omega)) ?_
  refine r_aload_n 72 dX2_copyOf_71 rfl rfl ?_
  refine r_getR 75 dX2_copyOf_72 rfl kf_2_27 rfl (by first | assumption | omega) (by assumption) (by assumption) ?_
  refine r_iconst 76 dX2_copyOf_75 rfl rfl ?_
  refine r_aload_n 77 dX2_copyOf_76 rfl rfl ?_
  refine r_getR 80 dX2_copyOf_77 rfl kf_2_27 rfl (by first | assumption | omega) (by assumption) (by assumption) ?_
  refine r_iconst 81 dX2_copyOf_80 rfl rfl ?_
  refine r_bipush 83 dX2_copyOf_81 rfl rfl (by decide) ?_
  refine r_copy (n := 12) 86 dX2_copyOf_83 rfl kc_2_50 rfl rfl (by first | assumption | omega) (by first | assumption | omega) (by assumption) (by assumption) rfl (by first | omega | (simp only [Int.toNat_natCast]; omega)) (by first | omega | (simp only [Int.toNat_natCast]; omega)) ?_
  refine r_aload_n 87 dX2_copyOf_86 rfl rfl ?_
  refine r_aload_n 88 dX2_copyOf_87 rfl rfl ?_
  refine r_getI 91 dX2_copyOf_88 rfl kf_2_33 rfl (by first | assumption | omega) (by assumption) ?_
  refine r_putI 94 dX2_copyOf_91 rfl kf_2_33 rfl rfl (Or.inl rfl) (by first | assumption | omega) (by assumption) ?_
  refine r_aload_n 95 dX2_copyOf_94 rfl rfl ?_
  refine r_aload_n 96 dX2_copyOf_95 rfl rfl ?_
  refine r_getI 99 dX2_copyOf_96 rfl kf_2_37 rfl (by first | assumption | omega) (by assumption) ?_
  refine r_putI 102 dX2_copyOf_99 rfl kf_2_37 rfl rfl (Or.inl rfl) (by first | assumption | omega) (by assumption) ?_
  refine r_aload_n 103 dX2_copyOf_102 rfl rfl ?_
  refine r_aload_n 104 dX2_copyOf_103 rfl rfl ?_
  refine r_getI 107 dX2_copyOf_104 rfl kf_2_40 rfl (by first | assumption | omega) (by assumption) ?_
  refine r_putI 110 dX2_copyOf_107 rfl kf_2_40 rfl rfl (Or.inl rfl) (by first | assumption | omega) (by assumption) ?_
  refine r_aload_n 111 dX2_copyOf_110 rfl rfl ?_
  refine r_aload_n 112 dX2_copyOf_111 rfl rfl ?_
  refine r_getI 115 dX2_copyOf_112 rfl kf_2_43 rfl (by first | assumption | omega) (by assumption) ?_
  refine r_putI 118 dX2_copyOf_115 rfl kf_2_43 rfl rfl (Or.inl rfl) (by first | assumption | omega) (by assumption) ?_
  refine r_ret dX2_copyOf_118 rfl ?_
  rotate_left -- leaf: return at pc 118
  exact ⟨rfl, cpT_eq hpq⟩
end TW
end
section
/-! SunPointer$Town: what is asked of it -/
def rdsP (h : zH) (p j : Nat) : Prop := ¬ h (p + 3) j = -4 ∧ bitI (h p 8) j = 0
def rdsB (h : zH) (p j : Nat) : Bool := decide (¬ h (p + 3) j = -4 ∧ bitI (h p 8) j = 0)
theorem rdsB_t {h : zH} {p j : Nat} : rdsB h p j = true ↔ (¬ h (p + 3) j = -4 ∧ bitI (h p 8) j = 0) := decide_eq_true_iff
def clampF (v : Int) : Int := if 0 < (if v < 47 then v else 47) then (if v < 47 then v else 47) else 0
def rdgF (h : zH) (p q : Nat) : Int := if rdsB h p (q / 4) = true then clampF (q + h (p + 6) (q / 4)) else -4
def fiF (h : zH) (p j : Nat) (due : Int) : Int := if rdsB h p j = true then (if (if due = 0 then 4 * (j : Int) else if 4 * (j : Int) < due - h (p + 6) j then due - h (p + 6) j else 4 * (j : Int)) < 4 * (j : Int) + 4 then (if due = 0 then 4 * (j : Int) else if 4 * (j : Int) < due - h (p + 6) j then due - h (p + 6) j else 4 * (j : Int)) else -4) else -4
/-- the first of F j, F (j + 1) .. (n of them) that isn't -4 -/
def srch (F : Nat → Int) : Nat → Nat → Int
  | 0, _ => -4
  | n + 1, j => if F j = -4 then srch F n (j + 1) else F j
def sumF (f : Nat → Int) : Nat → Int
  | 0 => 0
  | n + 1 => sumF f n + f n
def absF (x : Int) : Int := if 0 ≤ x then x else -x
def haF (wo du q : Int) : Int := wo * (if q = -4 then 48 else absF (q - du))
def dnA (h : zH) (p i : Nat) : Int := srch (fun j => fiF h p j (h (p + 4) i)) 12 0
def haA (h : zH) (p i : Nat) : Int := haF (h (p + 5) i) (h (p + 4) i) (dnA h p i)
def hmA (h : zH) (p : Nat) : Int := sumF (haA h p) (h p 7).toNat
/-- the bits n for which c n -/
def orN (c : Nat → Bool) : Nat → Nat
  | 0 => 0
  | n + 1 => if c n = true then orN c n ||| 2 ^ n else orN c n
theorem orN_lt (c : Nat → Bool) : ∀ n, orN c n < 2 ^ n
  | 0 => by simp [orN]
  | n + 1 => by
    have h1 := orN_lt c n
    have h2 : (2 : Nat) ^ (n + 1) = 2 ^ n * 2 := Nat.pow_succ 2 n
    have h3 : 0 < (2 : Nat) ^ n := Nat.pow_pos (by decide)
    unfold orN
    split
    · exact Nat.or_lt_two_pow (by omega) (by omega)
    · omega
theorem z_or_bit {a n : Nat} (hn : n < 30) (ha : a < 2 ^ n) : z_ior (a : Int) (z_ishl 1 (n : Int)) = ((a ||| 2 ^ n : Nat) : Int) := by
  have h2 : (2 : Nat) ^ (n + 1) = 2 ^ n * 2 := Nat.pow_succ 2 n
  have h3 : 0 < (2 : Nat) ^ n := Nat.pow_pos (by decide)
  rw [z_shl1 n (by omega), show (2 : Int) ^ n = ((2 ^ n : Nat) : Int) by simp, z_or_nat (n + 1) (by omega) (by omega) (by omega)]
/-- how long he stands at a stretch: now, at most -/
def lsF (st : Nat → Int) (m : Int) : Nat → Int × Int
  | 0 => (0, 0)
  | n + 1 => ((if st n = m then (lsF st m n).1 + 1 else 0), (if (lsF st m n).2 < (if st n = m then (lsF st m n).1 + 1 else 0) then (if st n = m then (lsF st m n).1 + 1 else 0) else (lsF st m n).2))
theorem lsF_in (st : Nat → Int) (m : Int) : ∀ n : Nat, 0 ≤ (lsF st m n).1 ∧ (lsF st m n).1 ≤ n ∧ 0 ≤ (lsF st m n).2 ∧ (lsF st m n).2 ≤ n
  | 0 => by simp [lsF]
  | n + 1 => by
    have := lsF_in st m n
    simp only [lsF]
    split <;> split <;> omega
theorem clampF_in (v : Int) : 0 ≤ clampF v ∧ clampF v ≤ 47 := by
  unfold clampF
  split <;> split <;> omega
section TW
variable {l : Launch} {G : zG} {h : zH} {p : Nat}
theorem rdgF_in (q : Nat) : rdgF h p q = -4 ∨ (0 ≤ rdgF h p q ∧ rdgF h p q ≤ 47) := by
  unfold rdgF
  split
  · exact Or.inr (clampF_in _)
  · exact Or.inl rfl
theorem fiF_in {j : Nat} {due : Int} (hj : j < 12) : fiF h p j due = -4 ∨ (4 * (j : Int) ≤ fiF h p j due ∧ fiF h p j due < 4 * j + 4) := by
  unfold fiF
  obtain ⟨v, hv⟩ : ∃ v, v = (if due = 0 then 4 * (j : Int) else if 4 * (j : Int) < due - h (p + 6) j then due - h (p + 6) j else 4 * (j : Int)) := ⟨_, rfl⟩
  rw [← hv]
  have h1 : 4 * (j : Int) ≤ v := by
    rw [hv]
    split
    · omega
    · split <;> omega
  by_cases c1 : rdsB h p j = true
  · rw [if_pos c1]
    by_cases c2 : v < 4 * (j : Int) + 4
    · rw [if_pos c2]; exact Or.inr ⟨h1, c2⟩
    · rw [if_neg c2]; exact Or.inl rfl
  · rw [if_neg c1]; exact Or.inl rfl
theorem srch_in {F : Nat → Int} (hF : ∀ j, j < 12 → F j = -4 ∨ (0 ≤ F j ∧ F j < 48)) : ∀ n j, j + n ≤ 12 → srch F n j = -4 ∨ (0 ≤ srch F n j ∧ srch F n j < 48)
  | 0, _, _ => Or.inl rfl
  | n + 1, j, h => by
    unfold srch
    split
    · exact srch_in hF n (j + 1) (by omega)
    · exact hF j (by omega)
theorem dnA_in (i : Nat) : dnA h p i = -4 ∨ (0 ≤ dnA h p i ∧ dnA h p i < 48) := srch_in (fun j hj => by
  have := fiF_in (h := h) (p := p) (due := h (p + 4) i) hj
  omega) 12 0 (by omega)
theorem mul_in {a b A B : Int} (h1 : 0 ≤ a) (h2 : a ≤ A) (h3 : 0 ≤ b) (h4 : b ≤ B) : 0 ≤ a * b ∧ a * b ≤ A * B := ⟨Int.mul_nonneg h1 h3, Int.mul_le_mul h2 h4 h3 (by omega)⟩
theorem haF_in {wo du q : Int} (h1 : 0 ≤ wo ∧ wo ≤ 9) (h2 : 0 ≤ du ∧ du ≤ 47) (h3 : q = -4 ∨ (0 ≤ q ∧ q < 48)) : 0 ≤ haF wo du q ∧ haF wo du q ≤ 432 := by
  have : 0 ≤ (if q = -4 then 48 else absF (q - du)) ∧ (if q = -4 then 48 else absF (q - du)) ≤ 48 := by
    unfold absF
    split
    · omega
    · split <;> omega
  exact mul_in h1.1 h1.2 this.1 this.2
theorem haA_in (w : wT h p) (i : Nat) : 0 ≤ haA h p i ∧ haA h p i ≤ 432 := haF_in (w.2.2.2.2.2.2.2.2.1 i) (w.2.2.2.2.2.2.2.1 i) (dnA_in i)
theorem sumF_in {f : Nat → Int} {B : Int} (hf : ∀ i, 0 ≤ f i ∧ f i ≤ B) : ∀ n : Nat, 0 ≤ sumF f n ∧ sumF f n ≤ B * n
  | 0 => by simp [sumF]
  | n + 1 => by
    have h1 := sumF_in hf n
    have h2 := hf n
    have : B * ((n + 1 : Nat) : Int) = B * n + B := by rw [Int.natCast_succ, Int.mul_add, Int.mul_one]
    simp only [sumF]
    omega
theorem hmA_in (w : wT h p) : 0 ≤ hmA h p ∧ hmA h p ≤ 2160 := by
  have h1 := sumF_in (haA_in w) (h p 7).toNat
  have h2 := w.2.1
  unfold hmA
  omega
theorem c_reading (ly : LT G p) (w : wT h p) (q : Nat) (hq : q < 48) : Ca l G 2 mX2_reading [vR p, vI q] h (fun r h' => r = some (vI (rdgF h p q)) ∧ h' = h) := by
  have ly0 := ly
  obtain ⟨⟨n0, n1, n2, n3, n4, n5, n6⟩, ⟨s0, s1, s2, s3, s4, s5, s6⟩, ⟨r0, r1, r2, r3, r4, r5⟩, ⟨l1, l2, l3, l4, l5, l6⟩⟩ := ly
  obtain ⟨w1, w2, w3, w4, w5, w6, w7, w8, w9, w10⟩ := w
  have wb := w10 (q / 4)
  refine Ca.of (by decide) (Nat.le_of_ble_eq_true rfl) (fun hI hv hH => ?_)
  refine r_iload_n 1 dX2_reading_0 rfl rfl ?_
  refine r_iconst 2 dX2_reading_1 rfl rfl ?_
  refine r_idiv 3 dX2_reading_2 rfl (by first | omega | (simp only [Int.toNat_natCast]; omega)) (by first | omega | (simp only [Int.toNat_natCast]; omega)) ?_
  refine r_istore_n 4 dX2_reading_3 rfl rfl rfl ?_
  refine r_aload_n 5 dX2_reading_4 rfl rfl ?_
  refine r_iload_n 6 dX2_reading_5 rfl rfl ?_
  rotate_left -- leaf: call at pc 6
  have e : (q : Int) / 4 = ((q / 4 : Nat) : Int) := by omega
  rw [e]
  refine r_cv1 9 dX2_reading_6 rfl kv_2_70 (by first | assumption | omega) (by assumption) rfl rfl (c_readsIn ly0 (q / 4) (by omega)) ?_
  rintro r h' ⟨rfl, rfl⟩
  refine r_if_ne 15 12 dX2_reading_9 (by decide) rfl (fun c_9 => ?_) (fun c_9 => ?_)
  rotate_left -- leaf: pc 15
  refine r_bipush 14 dX2_reading_12 rfl rfl (by decide) ?_
  refine r_iret dX2_reading_14 rfl ?_
  rotate_left -- leaf: return at pc 14
  · have hr := z01_y.mp c_9
    have wb2 : -20 ≤ h' (p + 6) ((q / 4 : Nat) : Int).toNat ∧ h' (p + 6) ((q / 4 : Nat) : Int).toNat ≤ 20 := by rw [Int.toNat_natCast]; exact wb
    refine r_iconst 16 dX2_reading_15 rfl rfl ?_
    refine r_bipush 18 dX2_reading_16 rfl rfl (by decide) ?_
    refine r_iload_n 19 dX2_reading_18 rfl rfl ?_
    refine r_aload_n 20 dX2_reading_19 rfl rfl ?_
    refine r_getR 23 dX2_reading_20 rfl kf_2_27 rfl (by first | assumption | omega) (by assumption) (by assumption) ?_
    refine r_iload_n 24 dX2_reading_23 rfl rfl ?_
    refine r_iald 25 dX2_reading_24 rfl (by first | assumption | omega) (by assumption) (by first | omega | (simp only [Int.toNat_natCast]; omega)) (by first | omega | (simp only [Int.toNat_natCast]; omega)) ?_
    refine r_iadd 26 dX2_reading_25 rfl (by first | exact w32_id (by omega) (by omega) | rfl) ?_
    refine r_min 29 dX2_reading_26 rfl kn_2_73 rfl rfl ?_
    refine r_max 32 dX2_reading_29 rfl kx_2_79 rfl rfl ?_
    refine r_iret dX2_reading_32 rfl ?_
    rotate_left -- leaf: return at pc 32
    refine ⟨?_, rfl⟩
    rw [Int.toNat_natCast]
    unfold rdgF
    rw [if_pos (rdsB_t.mpr hr)]
    rfl
  · have hr := z01_n.mp c_9
    refine ⟨?_, rfl⟩
    unfold rdgF
    rw [if_neg (fun z => hr (rdsB_t.mp z))]
theorem c_firstIn (ly : LT G p) (w : wT h p) (j : Nat) (hj : j < 12) (due : Int) (hd : 0 ≤ due ∧ due ≤ 47) : Ca l G 2 mX2_firstIn [vR p, vI j, vI due] h (fun r h' => r = some (vI (fiF h p j due)) ∧ h' = h) := by
  have ly0 := ly
  obtain ⟨⟨n0, n1, n2, n3, n4, n5, n6⟩, ⟨s0, s1, s2, s3, s4, s5, s6⟩, ⟨r0, r1, r2, r3, r4, r5⟩, ⟨l1, l2, l3, l4, l5, l6⟩⟩ := ly
  obtain ⟨w1, w2, w3, w4, w5, w6, w7, w8, w9, w10⟩ := w
  have wb := w10 j
  refine Ca.of (by decide) (Nat.le_of_ble_eq_true rfl) (fun hI hv hH => ?_)
  refine r_aload_n 1 dX2_firstIn_0 rfl rfl ?_
  refine r_iload_n 2 dX2_firstIn_1 rfl rfl ?_
  rotate_left -- leaf: call at pc 2
  refine r_cv1 5 dX2_firstIn_2 rfl kv_2_70 (by first | assumption | omega) (by assumption) rfl rfl (c_readsIn ly0 j hj) ?_
  rintro r h' ⟨rfl, rfl⟩
  refine r_if_ne 11 8 dX2_firstIn_5 (by decide) rfl (fun c_5 => ?_) (fun c_5 => ?_)
  rotate_left -- leaf: pc 11
  refine r_bipush 10 dX2_firstIn_8 rfl rfl (by decide) ?_
  refine r_iret dX2_firstIn_10 rfl ?_
  rotate_left -- leaf: return at pc 10
  · have hr := z01_y.mp c_5
    have hj4 : (j : Int) * 4 = 4 * j := Int.mul_comm _ _
    have J35 : ∀ v, v = (if due = 0 then 4 * (j : Int) else if 4 * (j : Int) < due - h' (p + 6) j then due - h' (p + 6) j else 4 * (j : Int)) → Rr l G 2 mX2_firstIn (fun r h'' => r = some (vI (fiF h' p j due)) ∧ h'' = h') 35 [some (vR p), some (vI j), some (vI due), some (vI ((j : Int) * 4)), none] [vI v] h' := by
      intro v hv
      refine r_istore 37 dX2_firstIn_35 rfl rfl rfl ?_
      refine r_iload 39 dX2_firstIn_37 rfl rfl ?_
      refine r_iload_n 40 dX2_firstIn_39 rfl rfl ?_
      refine r_iconst 41 dX2_firstIn_40 rfl rfl ?_
      refine r_iadd 42 dX2_firstIn_41 rfl (by first | exact w32_id (by omega) (by omega) | rfl) ?_
      refine r_icmp_ge 50 45 dX2_firstIn_42 (by decide) rfl (fun c_42 => ?_) (fun c_42 => ?_)
      refine r_bipush 52 dX2_firstIn_50 rfl rfl (by decide) ?_
      refine r_iret dX2_firstIn_52 rfl ?_
      rotate_left -- leaf: return at pc 52
      refine r_iload 47 dX2_firstIn_45 rfl rfl ?_
      refine r_goto 52 dX2_firstIn_47 (by decide) ?_
      refine r_iret dX2_firstIn_52 rfl ?_
      rotate_left -- leaf: return at pc 52
      · refine ⟨?_, rfl⟩
        unfold fiF
        rw [if_pos (rdsB_t.mpr hr), ← hv, if_neg (by omega)]
      · refine ⟨?_, rfl⟩
        unfold fiF
        rw [if_pos (rdsB_t.mpr hr), ← hv, if_pos (by omega)]
    refine r_iload_n 12 dX2_firstIn_11 rfl rfl ?_
    refine r_iconst 13 dX2_firstIn_12 rfl rfl ?_
    refine r_imul 14 dX2_firstIn_13 rfl (by first | exact w32_id (by omega) (by omega) | rfl) ?_
    refine r_istore_n 15 dX2_firstIn_14 rfl rfl rfl ?_
    refine r_iload_n 16 dX2_firstIn_15 rfl rfl ?_
    refine r_if_ne 23 19 dX2_firstIn_16 (by decide) rfl (fun c_16 => ?_) (fun c_16 => ?_)
    rotate_left -- leaf: pc 23
    rotate_left -- leaf: pc 19
    · have wb2 : -20 ≤ h' (p + 6) ((j : Nat) : Int).toNat ∧ h' (p + 6) ((j : Nat) : Int).toNat ≤ 20 := by rw [Int.toNat_natCast]; exact wb
      refine r_iload_n 24 dX2_firstIn_23 rfl rfl ?_
      refine r_iload_n 25 dX2_firstIn_24 rfl rfl ?_
      refine r_aload_n 26 dX2_firstIn_25 rfl rfl ?_
      refine r_getR 29 dX2_firstIn_26 rfl kf_2_27 rfl (by first | assumption | omega) (by assumption) (by assumption) ?_
      refine r_iload_n 30 dX2_firstIn_29 rfl rfl ?_
      refine r_iald 31 dX2_firstIn_30 rfl (by first | assumption | omega) (by assumption) (by first | omega | (simp only [Int.toNat_natCast]; omega)) (by first | omega | (simp only [Int.toNat_natCast]; omega)) ?_
      refine r_isub 32 dX2_firstIn_31 rfl (by first | exact w32_id (by omega) (by omega) | rfl) ?_
      refine r_max 35 dX2_firstIn_32 rfl kx_2_79 rfl rfl ?_
      rotate_left -- leaf: pc 35
      refine J35 _ ?_
      rw [if_neg c_16, Int.toNat_natCast, hj4]
    · refine r_iload_n 20 dX2_firstIn_19 rfl rfl ?_
      refine r_goto 35 dX2_firstIn_20 (by decide) ?_
      rotate_left -- leaf: pc 35
      refine J35 _ ?_
      rw [if_pos c_16, hj4]
  · have hr := z01_n.mp c_5
    refine ⟨?_, rfl⟩
    unfold fiF
    rw [if_neg (fun z => hr (rdsB_t.mp z))]
theorem l_doneAt (ly : LT G p) (w : wT h p) (i : Nat) (hi : i < 5) {Φ : Option zV → zH → Prop} (hΦ : Φ (some (vI (dnA h p i))) h) : ∀ (n j : Nat) (x3 : Option zV), j + n = 12 → srch (fun j => fiF h p j (h (p + 4) i)) n j = dnA h p i → Rr l G 3 mX2_doneAt Φ 2 [some (vR p), some (vI i), some (vI j), x3] [] h := by
  have ly0 := ly
  have w0 := w
  obtain ⟨⟨n0, n1, n2, n3, n4, n5, n6⟩, ⟨s0, s1, s2, s3, s4, s5, s6⟩, ⟨r0, r1, r2, r3, r4, r5⟩, ⟨l1, l2, l3, l4, l5, l6⟩⟩ := ly
  obtain ⟨w1, w2, w3, w4, w5, w6, w7, w8, w9, w10⟩ := w
  intro n
  induction n with
  | zero =>
    intro j x3 hj he
    obtain rfl : j = 12 := by omega
    refine r_iload_n 3 dX2_doneAt_2 rfl rfl ?_
    refine r_bipush 5 dX2_doneAt_3 rfl rfl (by decide) ?_
    refine r_icmp_ge 34 8 dX2_doneAt_5 (by decide) rfl (fun c_5 => ?_) (fun c_5 => ?_)
    refine r_bipush 36 dX2_doneAt_34 rfl rfl (by decide) ?_
    refine r_iret dX2_doneAt_36 rfl ?_
    rotate_left -- leaf: return at pc 36
    rotate_left -- leaf: pc 8
    · rw [← he] at hΦ
      exact hΦ
    · omega
  | succ n ih =>
    intro j x3 hj he
    refine r_iload_n 3 dX2_doneAt_2 rfl rfl ?_
    refine r_bipush 5 dX2_doneAt_3 rfl rfl (by decide) ?_
    refine r_icmp_ge 34 8 dX2_doneAt_5 (by decide) rfl (fun c_5 => ?_) (fun c_5 => ?_)
    rotate_left -- leaf: pc 34
    refine r_aload_n 9 dX2_doneAt_8 rfl rfl ?_
    refine r_iload_n 10 dX2_doneAt_9 rfl rfl ?_
    refine r_aload_n 11 dX2_doneAt_10 rfl rfl ?_
    refine r_getR 14 dX2_doneAt_11 rfl kf_2_21 rfl (by first | assumption | omega) (by assumption) (by assumption) ?_
    refine r_iload_n 15 dX2_doneAt_14 rfl rfl ?_
    refine r_iald 16 dX2_doneAt_15 rfl (by first | assumption | omega) (by assumption) (by first | omega | (simp only [Int.toNat_natCast]; omega)) (by first | omega | (simp only [Int.toNat_natCast]; omega)) ?_
    rotate_left -- leaf: call at pc 16
    · omega
    rw [Int.toNat_natCast]
    refine r_cv2 19 dX2_doneAt_16 rfl kv_2_82 (by first | assumption | omega) (by assumption) rfl rfl (c_firstIn ly0 w0 j (by omega) (h (p + 4) i) (w8 i)) ?_
    rintro r h' ⟨rfl, rfl⟩
    rw [srch] at he
    refine r_istore_n 20 dX2_doneAt_19 rfl rfl rfl ?_
    refine r_iload_n 21 dX2_doneAt_20 rfl rfl ?_
    refine r_bipush 23 dX2_doneAt_21 rfl rfl (by decide) ?_
    refine r_icmp_eq 28 26 dX2_doneAt_23 (by decide) rfl (fun c_23 => ?_) (fun c_23 => ?_)
    refine r_iinc 31 _ dX2_doneAt_28 rfl rfl rfl rfl (by first | exact w32_id (by omega) (by omega) | rfl) ?_
    refine r_goto 2 dX2_doneAt_31 (by decide) ?_
    rotate_left -- leaf: pc 2
    refine r_iload_n 27 dX2_doneAt_26 rfl rfl ?_
    refine r_iret dX2_doneAt_27 rfl ?_
    rotate_left -- leaf: return at pc 27
    · rw [if_pos c_23] at he
      exact ih (j + 1) _ (by omega) he
    · rw [if_neg c_23] at he
      show Φ (some (vI (fiF h' p j (h' (p + 4) i)))) h'
      rw [he]
      exact hΦ
theorem c_doneAt (ly : LT G p) (w : wT h p) (i : Nat) (hi : i < 5) : Ca l G 3 mX2_doneAt [vR p, vI i] h (fun r h' => r = some (vI (dnA h p i)) ∧ h' = h) := by
  refine Ca.of (by decide) (Nat.le_of_ble_eq_true rfl) (fun hI hv hH => ?_)
  refine r_iconst 1 dX2_doneAt_0 rfl rfl ?_
  refine r_istore_n 2 dX2_doneAt_1 rfl rfl rfl ?_
  rotate_left -- leaf: pc 2
  exact l_doneAt (l := l) ly w i hi (Φ := fun r h' => r = some (vI (dnA h p i)) ∧ h' = h) ⟨rfl, rfl⟩ 12 0 none rfl rfl
theorem c_harmAt (ly : LT G p) (w : wT h p) (i : Nat) (hi : i < 5) (q : Int) (hq : q = -4 ∨ (0 ≤ q ∧ q < 48)) : Ca l G 1 mX2_harmAt [vR p, vI i, vI q] h (fun r h' => r = some (vI (haF (h (p + 5) i) (h (p + 4) i) q)) ∧ h' = h) := by
  obtain ⟨⟨n0, n1, n2, n3, n4, n5, n6⟩, ⟨s0, s1, s2, s3, s4, s5, s6⟩, ⟨r0, r1, r2, r3, r4, r5⟩, ⟨l1, l2, l3, l4, l5, l6⟩⟩ := ly
  obtain ⟨w1, w2, w3, w4, w5, w6, w7, w8, w9, w10⟩ := w
  have w8 := w8 i
  have w9 := w9 i
  have hh := haF_in w9 w8 hq
  refine Ca.of (by decide) (Nat.le_of_ble_eq_true rfl) (fun hI hv hH => ?_)
  have J28 : ∀ v, v = (if q = -4 then 48 else absF (q - h (p + 4) i)) → Rr l G 1 mX2_harmAt (fun r h' => r = some (vI (haF (h (p + 5) i) (h (p + 4) i) q)) ∧ h' = h) 28 [some (vR p), some (vI i), some (vI q)] [vI v, vI (h (p + 5) i)] h := by
    intro v hv
    have e : haF (h (p + 5) i) (h (p + 4) i) q = h (p + 5) i * v := by rw [hv]; rfl
    rw [e] at hh
    refine r_imul 29 dX2_harmAt_28 rfl (by first | exact w32_id (by omega) (by omega) | rfl) ?_
    refine r_iret dX2_harmAt_29 rfl ?_
    rotate_left -- leaf: return at pc 29
    exact ⟨by rw [e], rfl⟩
  refine r_aload_n 1 dX2_harmAt_0 rfl rfl ?_
  refine r_getR 4 dX2_harmAt_1 rfl kf_2_24 rfl (by first | assumption | omega) (by assumption) (by assumption) ?_
  refine r_iload_n 5 dX2_harmAt_4 rfl rfl ?_
  refine r_iald 6 dX2_harmAt_5 rfl (by first | assumption | omega) (by assumption) (by first | omega | (simp only [Int.toNat_natCast]; omega)) (by first | omega | (simp only [Int.toNat_natCast]; omega)) ?_
  rotate_left -- leaf: pc 6
  rw [Int.toNat_natCast]
  refine r_iload_n 7 dX2_harmAt_6 rfl rfl ?_
  refine r_bipush 9 dX2_harmAt_7 rfl rfl (by decide) ?_
  refine r_icmp_ne 17 12 dX2_harmAt_9 (by decide) rfl (fun c_9 => ?_) (fun c_9 => ?_)
  refine r_iload_n 18 dX2_harmAt_17 rfl rfl ?_
  refine r_aload_n 19 dX2_harmAt_18 rfl rfl ?_
  refine r_getR 22 dX2_harmAt_19 rfl kf_2_21 rfl (by first | assumption | omega) (by assumption) (by assumption) ?_
  refine r_iload_n 23 dX2_harmAt_22 rfl rfl ?_
  refine r_iald 24 dX2_harmAt_23 rfl (by first | assumption | omega) (by assumption) (by first | omega | (simp only [Int.toNat_natCast]; omega)) (by first | omega | (simp only [Int.toNat_natCast]; omega)) ?_
  rotate_left -- leaf: pc 24
  refine r_bipush 14 dX2_harmAt_12 rfl rfl (by decide) ?_
  refine r_goto 28 dX2_harmAt_14 (by decide) ?_
  rotate_left -- leaf: pc 28
  · rw [Int.toNat_natCast]
    refine r_isub 25 dX2_harmAt_24 rfl (by first | exact w32_id (by omega) (by omega) | rfl) ?_
    refine r_abs 28 dX2_harmAt_25 rfl ka_2_85 rfl rfl (by first | omega | (simp only [Int.toNat_natCast]; omega)) ?_
    rotate_left -- leaf: pc 28
    refine J28 _ ?_
    rw [if_neg c_9]
    rfl
  · exact J28 _ (by rw [if_pos c_9])
theorem l_harm (ly : LT G p) (w : wT h p) {Φ : Option zV → zH → Prop} (hΦ : Φ (some (vI (hmA h p))) h) : ∀ (n j : Nat), j + n = (h p 7).toNat → Rr l G 4 mX2_harm Φ 4 [some (vR p), some (vI (sumF (haA h p) j)), some (vI j)] [] h := by
  have ly0 := ly
  have w0 := w
  obtain ⟨⟨n0, n1, n2, n3, n4, n5, n6⟩, ⟨s0, s1, s2, s3, s4, s5, s6⟩, ⟨r0, r1, r2, r3, r4, r5⟩, ⟨l1, l2, l3, l4, l5, l6⟩⟩ := ly
  obtain ⟨w1, w2, w3, w4, w5, w6, w7, w8, w9, w10⟩ := w
  intro n
  induction n with
  | zero =>
    intro j hj
    refine r_iload_n 5 dX2_harm_4 rfl rfl ?_
    refine r_aload_n 6 dX2_harm_5 rfl rfl ?_
    refine r_getI 9 dX2_harm_6 rfl kf_2_37 rfl (by first | assumption | omega) (by assumption) ?_
    refine r_icmp_ge 31 12 dX2_harm_9 (by decide) rfl (fun c_9 => ?_) (fun c_9 => ?_)
    refine r_iload_n 32 dX2_harm_31 rfl rfl ?_
    refine r_iret dX2_harm_32 rfl ?_
    rotate_left -- leaf: return at pc 32
    rotate_left -- leaf: pc 12
    · rw [show j = (h p 7).toNat by omega]
      exact hΦ
    · omega
  | succ n ih =>
    intro j hj
    have hs := sumF_in (haA_in w0) j
    have hs2 := haA_in w0 j
    refine r_iload_n 5 dX2_harm_4 rfl rfl ?_
    refine r_aload_n 6 dX2_harm_5 rfl rfl ?_
    refine r_getI 9 dX2_harm_6 rfl kf_2_37 rfl (by first | assumption | omega) (by assumption) ?_
    refine r_icmp_ge 31 12 dX2_harm_9 (by decide) rfl (fun c_9 => ?_) (fun c_9 => ?_)
    rotate_left -- leaf: pc 31
    refine r_iload_n 13 dX2_harm_12 rfl rfl ?_
    refine r_aload_n 14 dX2_harm_13 rfl rfl ?_
    refine r_iload_n 15 dX2_harm_14 rfl rfl ?_
    refine r_aload_n 16 dX2_harm_15 rfl rfl ?_
    refine r_iload_n 17 dX2_harm_16 rfl rfl ?_
    rotate_left -- leaf: call at pc 17
    · omega
    refine r_cv1 20 dX2_harm_17 rfl kv_2_89 (by first | assumption | omega) (by assumption) rfl rfl (c_doneAt ly0 w0 j (by omega)) ?_
    rintro r h' ⟨rfl, rfl⟩
    have hd := dnA_in (h := h') (p := p) j
    refine r_cv2 23 dX2_harm_20 rfl kv_2_92 (by first | assumption | omega) (by assumption) rfl rfl (c_harmAt ly0 w0 j (by omega) (dnA h' p j) hd) ?_
    rintro r h'' ⟨rfl, rfl⟩
    have e : haF (h'' (p + 5) j) (h'' (p + 4) j) (dnA h'' p j) = haA h'' p j := rfl
    rw [e]
    refine r_iadd 24 dX2_harm_23 rfl (by first | exact w32_id (by omega) (by omega) | rfl) ?_
    refine r_istore_n 25 dX2_harm_24 rfl rfl rfl ?_
    refine r_iinc 28 _ dX2_harm_25 rfl rfl rfl rfl (by first | exact w32_id (by omega) (by omega) | rfl) ?_
    refine r_goto 4 dX2_harm_28 (by decide) ?_
    rotate_left -- leaf: pc 4
    exact ih (j + 1) (by omega)
theorem c_harm (ly : LT G p) (w : wT h p) : Ca l G 4 mX2_harm [vR p] h (fun r h' => r = some (vI (hmA h p)) ∧ h' = h) := by
  refine Ca.of (by decide) (Nat.le_of_ble_eq_true rfl) (fun hI hv hH => ?_)
  refine r_iconst 1 dX2_harm_0 rfl rfl ?_
  refine r_istore_n 2 dX2_harm_1 rfl rfl rfl ?_
  refine r_iconst 3 dX2_harm_2 rfl rfl ?_
  refine r_istore_n 4 dX2_harm_3 rfl rfl rfl ?_
  rotate_left -- leaf: pc 4
  exact l_harm (l := l) ly w (Φ := fun r h' => r = some (vI (hmA h p)) ∧ h' = h) ⟨rfl, rfl⟩ (h p 7).toNat 0 (by omega)
theorem l_hoursStood (ly : LT G p) {Φ : Option zV → zH → Prop} (hΦ : Φ (some (vI (orN (fun j => decide (¬ h (p + 3) j = -4)) 12))) h) : ∀ (n j : Nat), j + n = 12 → Rr l G 0 mX2_hoursStood Φ 4 [some (vR p), some (vI (orN (fun j => decide (¬ h (p + 3) j = -4)) j)), some (vI j)] [] h := by
  obtain ⟨⟨n0, n1, n2, n3, n4, n5, n6⟩, ⟨s0, s1, s2, s3, s4, s5, s6⟩, ⟨r0, r1, r2, r3, r4, r5⟩, ⟨l1, l2, l3, l4, l5, l6⟩⟩ := ly
  intro n
  induction n with
  | zero =>
    intro j hj
    obtain rfl : j = 12 := by omega
    refine r_iload_n 5 dX2_hoursStood_4 rfl rfl ?_
    refine r_bipush 7 dX2_hoursStood_5 rfl rfl (by decide) ?_
    refine r_icmp_ge 33 10 dX2_hoursStood_7 (by decide) rfl (fun c_7 => ?_) (fun c_7 => ?_)
    refine r_iload_n 34 dX2_hoursStood_33 rfl rfl ?_
    refine r_iret dX2_hoursStood_34 rfl ?_
    rotate_left -- leaf: return at pc 34
    rotate_left -- leaf: pc 10
    · exact hΦ
    · omega
  | succ n ih =>
    intro j hj
    have ih := ih (j + 1) (by omega)
    rw [orN] at ih
    refine r_iload_n 5 dX2_hoursStood_4 rfl rfl ?_
    refine r_bipush 7 dX2_hoursStood_5 rfl rfl (by decide) ?_
    refine r_icmp_ge 33 10 dX2_hoursStood_7 (by decide) rfl (fun c_7 => ?_) (fun c_7 => ?_)
    rotate_left -- leaf: pc 33
    refine r_aload_n 11 dX2_hoursStood_10 rfl rfl ?_
    refine r_getR 14 dX2_hoursStood_11 rfl kf_2_18 rfl (by first | assumption | omega) (by assumption) (by assumption) ?_
    refine r_iload_n 15 dX2_hoursStood_14 rfl rfl ?_
    refine r_iald 16 dX2_hoursStood_15 rfl (by first | assumption | omega) (by assumption) (by first | omega | (simp only [Int.toNat_natCast]; omega)) (by first | omega | (simp only [Int.toNat_natCast]; omega)) ?_
    refine r_bipush 18 dX2_hoursStood_16 rfl rfl (by decide) ?_
    refine r_icmp_eq 27 21 dX2_hoursStood_18 (by decide) rfl (fun c_18 => ?_) (fun c_18 => ?_)
    refine r_iinc 30 _ dX2_hoursStood_27 rfl rfl rfl rfl (by first | exact w32_id (by omega) (by omega) | rfl) ?_
    refine r_goto 4 dX2_hoursStood_30 (by decide) ?_
    rotate_left -- leaf: pc 4
    refine r_iload_n 22 dX2_hoursStood_21 rfl rfl ?_
    refine r_iconst 23 dX2_hoursStood_22 rfl rfl ?_
    refine r_iload_n 24 dX2_hoursStood_23 rfl rfl ?_
    refine r_ishl 25 dX2_hoursStood_24 rfl rfl ?_
    refine r_ior 26 dX2_hoursStood_25 rfl rfl ?_
    refine r_istore_n 27 dX2_hoursStood_26 rfl rfl rfl ?_
    refine r_iinc 30 _ dX2_hoursStood_27 rfl rfl rfl rfl (by first | exact w32_id (by omega) (by omega) | rfl) ?_
    refine r_goto 4 dX2_hoursStood_30 (by decide) ?_
    rotate_left -- leaf: pc 4
    · omega
    · rw [Int.toNat_natCast] at c_18
      rw [if_neg (by simp [c_18])] at ih
      exact ih
    · rw [Int.toNat_natCast] at c_18
      rw [if_pos (by simp [c_18])] at ih
      rw [z_or_bit (by omega) (orN_lt _ j)]
      exact ih
theorem c_hoursStood (ly : LT G p) : Ca l G 0 mX2_hoursStood [vR p] h (fun r h' => r = some (vI (orN (fun j => decide (¬ h (p + 3) j = -4)) 12)) ∧ h' = h) := by
  refine Ca.of (by decide) (Nat.le_of_ble_eq_true rfl) (fun hI hv hH => ?_)
  refine r_iconst 1 dX2_hoursStood_0 rfl rfl ?_
  refine r_istore_n 2 dX2_hoursStood_1 rfl rfl rfl ?_
  refine r_iconst 3 dX2_hoursStood_2 rfl rfl ?_
  refine r_istore_n 4 dX2_hoursStood_3 rfl rfl rfl ?_
  rotate_left -- leaf: pc 4
  exact l_hoursStood (l := l) ly (Φ := fun r h' => r = some (vI (orN (fun j => decide (¬ h (p + 3) j = -4)) 12)) ∧ h' = h) ⟨rfl, rfl⟩ 12 0 rfl
theorem l_hoursOf (ly : LT G p) (m : Int) {Φ : Option zV → zH → Prop} (hΦ : Φ (some (vI (orN (fun j => decide (h (p + 3) j = m)) 12))) h) : ∀ (n j : Nat), j + n = 12 → Rr l G 0 mX2_hoursOf Φ 4 [some (vR p), some (vI m), some (vI (orN (fun j => decide (h (p + 3) j = m)) j)), some (vI j)] [] h := by
  obtain ⟨⟨n0, n1, n2, n3, n4, n5, n6⟩, ⟨s0, s1, s2, s3, s4, s5, s6⟩, ⟨r0, r1, r2, r3, r4, r5⟩, ⟨l1, l2, l3, l4, l5, l6⟩⟩ := ly
  intro n
  induction n with
  | zero =>
    intro j hj
    obtain rfl : j = 12 := by omega
    refine r_iload_n 5 dX2_hoursOf_4 rfl rfl ?_
    refine r_bipush 7 dX2_hoursOf_5 rfl rfl (by decide) ?_
    refine r_icmp_ge 32 10 dX2_hoursOf_7 (by decide) rfl (fun c_7 => ?_) (fun c_7 => ?_)
    refine r_iload_n 33 dX2_hoursOf_32 rfl rfl ?_
    refine r_iret dX2_hoursOf_33 rfl ?_
    rotate_left -- leaf: return at pc 33
    rotate_left -- leaf: pc 10
    · exact hΦ
    · omega
  | succ n ih =>
    intro j hj
    have ih := ih (j + 1) (by omega)
    rw [orN] at ih
    refine r_iload_n 5 dX2_hoursOf_4 rfl rfl ?_
    refine r_bipush 7 dX2_hoursOf_5 rfl rfl (by decide) ?_
    refine r_icmp_ge 32 10 dX2_hoursOf_7 (by decide) rfl (fun c_7 => ?_) (fun c_7 => ?_)
    rotate_left -- leaf: pc 32
    refine r_aload_n 11 dX2_hoursOf_10 rfl rfl ?_
    refine r_getR 14 dX2_hoursOf_11 rfl kf_2_18 rfl (by first | assumption | omega) (by assumption) (by assumption) ?_
    refine r_iload_n 15 dX2_hoursOf_14 rfl rfl ?_
    refine r_iald 16 dX2_hoursOf_15 rfl (by first | assumption | omega) (by assumption) (by first | omega | (simp only [Int.toNat_natCast]; omega)) (by first | omega | (simp only [Int.toNat_natCast]; omega)) ?_
    refine r_iload_n 17 dX2_hoursOf_16 rfl rfl ?_
    refine r_icmp_ne 26 20 dX2_hoursOf_17 (by decide) rfl (fun c_17 => ?_) (fun c_17 => ?_)
    refine r_iinc 29 _ dX2_hoursOf_26 rfl rfl rfl rfl (by first | exact w32_id (by omega) (by omega) | rfl) ?_
    refine r_goto 4 dX2_hoursOf_29 (by decide) ?_
    rotate_left -- leaf: pc 4
    refine r_iload_n 21 dX2_hoursOf_20 rfl rfl ?_
    refine r_iconst 22 dX2_hoursOf_21 rfl rfl ?_
    refine r_iload_n 23 dX2_hoursOf_22 rfl rfl ?_
    refine r_ishl 24 dX2_hoursOf_23 rfl rfl ?_
    refine r_ior 25 dX2_hoursOf_24 rfl rfl ?_
    refine r_istore_n 26 dX2_hoursOf_25 rfl rfl rfl ?_
    refine r_iinc 29 _ dX2_hoursOf_26 rfl rfl rfl rfl (by first | exact w32_id (by omega) (by omega) | rfl) ?_
    refine r_goto 4 dX2_hoursOf_29 (by decide) ?_
    rotate_left -- leaf: pc 4
    · omega
    · rw [Int.toNat_natCast] at c_17
      rw [if_neg (by simp [c_17])] at ih
      exact ih
    · rw [Int.toNat_natCast] at c_17
      rw [if_pos (by simp [c_17])] at ih
      rw [z_or_bit (by omega) (orN_lt _ j)]
      exact ih
theorem c_hoursOf (ly : LT G p) (m : Int) : Ca l G 0 mX2_hoursOf [vR p, vI m] h (fun r h' => r = some (vI (orN (fun j => decide (h (p + 3) j = m)) 12)) ∧ h' = h) := by
  refine Ca.of (by decide) (Nat.le_of_ble_eq_true rfl) (fun hI hv hH => ?_)
  refine r_iconst 1 dX2_hoursOf_0 rfl rfl ?_
  refine r_istore_n 2 dX2_hoursOf_1 rfl rfl rfl ?_
  refine r_iconst 3 dX2_hoursOf_2 rfl rfl ?_
  refine r_istore_n 4 dX2_hoursOf_3 rfl rfl rfl ?_
  rotate_left -- leaf: pc 4
  exact l_hoursOf (l := l) ly m (Φ := fun r h' => r = some (vI (orN (fun j => decide (h (p + 3) j = m)) 12)) ∧ h' = h) ⟨rfl, rfl⟩ 12 0 rfl
def lsA (h : zH) (p : Nat) (m : Int) : Int := if (lsF (h (p + 3)) m 12).2 = 0 then -4 else (lsF (h (p + 3)) m 12).2 * 4 - 1
theorem l_longest (ly : LT G p) (m : Int) {Φ : Option zV → zH → Prop} (hΦ : Φ (some (vI (lsA h p m))) h) : ∀ (n j : Nat), j + n = 12 → Rr l G 1 mX2_longestStood Φ 7 [some (vR p), some (vI m), some (vI (lsF (h (p + 3)) m j).1), some (vI (lsF (h (p + 3)) m j).2), some (vI j)] [] h := by
  obtain ⟨⟨n0, n1, n2, n3, n4, n5, n6⟩, ⟨s0, s1, s2, s3, s4, s5, s6⟩, ⟨r0, r1, r2, r3, r4, r5⟩, ⟨l1, l2, l3, l4, l5, l6⟩⟩ := ly
  intro n
  induction n with
  | zero =>
    intro j hj
    obtain rfl : j = 12 := by omega
    have hi := lsF_in (h (p + 3)) m 12
    refine r_iload 9 dX2_longestStood_7 rfl rfl ?_
    refine r_bipush 11 dX2_longestStood_9 rfl rfl (by decide) ?_
    refine r_icmp_ge 45 14 dX2_longestStood_11 (by decide) rfl (fun c_11 => ?_) (fun c_11 => ?_)
    refine r_iload_n 46 dX2_longestStood_45 rfl rfl ?_
    refine r_if_ne 54 49 dX2_longestStood_46 (by decide) rfl (fun c_46 => ?_) (fun c_46 => ?_)
    refine r_iload_n 55 dX2_longestStood_54 rfl rfl ?_
    refine r_iconst 56 dX2_longestStood_55 rfl rfl ?_
    refine r_imul 57 dX2_longestStood_56 rfl (by first | exact w32_id (by omega) (by omega) | rfl) ?_
    refine r_iconst 58 dX2_longestStood_57 rfl rfl ?_
    refine r_isub 59 dX2_longestStood_58 rfl (by first | exact w32_id (by omega) (by omega) | rfl) ?_
    refine r_iret dX2_longestStood_59 rfl ?_
    rotate_left -- leaf: return at pc 59
    refine r_bipush 51 dX2_longestStood_49 rfl rfl (by decide) ?_
    refine r_goto 59 dX2_longestStood_51 (by decide) ?_
    refine r_iret dX2_longestStood_59 rfl ?_
    rotate_left -- leaf: return at pc 59
    rotate_left -- leaf: pc 14
    · unfold lsA at hΦ
      rw [if_neg c_46] at hΦ
      exact hΦ
    · unfold lsA at hΦ
      rw [if_pos c_46] at hΦ
      exact hΦ
    · omega
  | succ n ih =>
    intro j hj
    have hi := lsF_in (h (p + 3)) m j
    have ih := ih (j + 1) (by omega)
    simp only [lsF] at ih
    refine r_iload 9 dX2_longestStood_7 rfl rfl ?_
    refine r_bipush 11 dX2_longestStood_9 rfl rfl (by decide) ?_
    refine r_icmp_ge 45 14 dX2_longestStood_11 (by decide) rfl (fun c_11 => ?_) (fun c_11 => ?_)
    rotate_left -- leaf: pc 45
    refine r_aload_n 15 dX2_longestStood_14 rfl rfl ?_
    refine r_getR 18 dX2_longestStood_15 rfl kf_2_18 rfl (by first | assumption | omega) (by assumption) (by assumption) ?_
    refine r_iload 20 dX2_longestStood_18 rfl rfl ?_
    refine r_iald 21 dX2_longestStood_20 rfl (by first | assumption | omega) (by assumption) (by first | omega | (simp only [Int.toNat_natCast]; omega)) (by first | omega | (simp only [Int.toNat_natCast]; omega)) ?_
    refine r_iload_n 22 dX2_longestStood_21 rfl rfl ?_
    refine r_icmp_ne 31 25 dX2_longestStood_22 (by decide) rfl (fun c_22 => ?_) (fun c_22 => ?_)
    refine r_iconst 32 dX2_longestStood_31 rfl rfl ?_
    refine r_istore_n 33 dX2_longestStood_32 rfl rfl rfl ?_
    refine r_iload_n 34 dX2_longestStood_33 rfl rfl ?_
    refine r_iload_n 35 dX2_longestStood_34 rfl rfl ?_
    refine r_max 38 dX2_longestStood_35 rfl kx_2_79 rfl rfl ?_
    refine r_istore_n 39 dX2_longestStood_38 rfl rfl rfl ?_
    refine r_iinc 42 _ dX2_longestStood_39 rfl rfl rfl rfl (by first | exact w32_id (by omega) (by omega) | rfl) ?_
    refine r_goto 7 dX2_longestStood_42 (by decide) ?_
    rotate_left -- leaf: pc 7
    refine r_iload_n 26 dX2_longestStood_25 rfl rfl ?_
    refine r_iconst 27 dX2_longestStood_26 rfl rfl ?_
    refine r_iadd 28 dX2_longestStood_27 rfl (by first | exact w32_id (by omega) (by omega) | rfl) ?_
    refine r_goto 32 dX2_longestStood_28 (by decide) ?_
    refine r_istore_n 33 dX2_longestStood_32 rfl rfl rfl ?_
    refine r_iload_n 34 dX2_longestStood_33 rfl rfl ?_
    refine r_iload_n 35 dX2_longestStood_34 rfl rfl ?_
    refine r_max 38 dX2_longestStood_35 rfl kx_2_79 rfl rfl ?_
    refine r_istore_n 39 dX2_longestStood_38 rfl rfl rfl ?_
    refine r_iinc 42 _ dX2_longestStood_39 rfl rfl rfl rfl (by first | exact w32_id (by omega) (by omega) | rfl) ?_
    refine r_goto 7 dX2_longestStood_42 (by decide) ?_
    rotate_left -- leaf: pc 7
    · omega
    · rw [Int.toNat_natCast] at c_22
      rw [if_neg c_22] at ih
      exact ih
    · rw [Int.toNat_natCast] at c_22
      rw [if_pos c_22] at ih
      exact ih
theorem c_longestStood (ly : LT G p) (m : Int) : Ca l G 1 mX2_longestStood [vR p, vI m] h (fun r h' => r = some (vI (lsA h p m)) ∧ h' = h) := by
  refine Ca.of (by decide) (Nat.le_of_ble_eq_true rfl) (fun hI hv hH => ?_)
  refine r_iconst 1 dX2_longestStood_0 rfl rfl ?_
  refine r_istore_n 2 dX2_longestStood_1 rfl rfl rfl ?_
  refine r_iconst 3 dX2_longestStood_2 rfl rfl ?_
  refine r_istore_n 4 dX2_longestStood_3 rfl rfl rfl ?_
  refine r_iconst 5 dX2_longestStood_4 rfl rfl ?_
  refine r_istore 7 dX2_longestStood_5 rfl rfl rfl ?_
  rotate_left -- leaf: pc 7
  exact l_longest (l := l) ly m (Φ := fun r h' => r = some (vI (lsA h p m)) ∧ h' = h) ⟨rfl, rfl⟩ 12 0 rfl
def awP (h : zH) (p : Nat) : Prop := ∀ j, j < 12 → (h (p + 3) j = -4 ∨ (0 ≤ h (p + 3) j ∧ h (p + 3) j < h p 6))
theorem l_allWho (ly : LT G p) {Φ : Option zV → zH → Prop} (hT : awP h p → Φ (some (vI 1)) h) (hF : ¬ awP h p → Φ (some (vI 0)) h) : ∀ (n j : Nat), j + n = 12 → (∀ i, i < j → (h (p + 3) i = -4 ∨ (0 ≤ h (p + 3) i ∧ h (p + 3) i < h p 6))) → Rr l G 1 mX2_allWhoStandAreThere Φ 2 [some (vR p), some (vI j)] [] h := by
  have ly0 := ly
  obtain ⟨⟨n0, n1, n2, n3, n4, n5, n6⟩, ⟨s0, s1, s2, s3, s4, s5, s6⟩, ⟨r0, r1, r2, r3, r4, r5⟩, ⟨l1, l2, l3, l4, l5, l6⟩⟩ := ly
  intro n
  induction n with
  | zero =>
    intro j hj ha
    obtain rfl : j = 12 := by omega
    refine r_iload_n 3 dX2_allWhoStandAreThere_2 rfl rfl ?_
    refine r_bipush 5 dX2_allWhoStandAreThere_3 rfl rfl (by decide) ?_
    refine r_icmp_ge 40 8 dX2_allWhoStandAreThere_5 (by decide) rfl (fun c_5 => ?_) (fun c_5 => ?_)
    refine r_iconst 41 dX2_allWhoStandAreThere_40 rfl rfl ?_
    refine r_zret dX2_allWhoStandAreThere_41 rfl (by first | exact Or.inl rfl | exact Or.inr rfl | assumption | omega) ?_
    rotate_left -- leaf: return at pc 41
    rotate_left -- leaf: pc 8
    · exact hT ha
    · omega
  | succ n ih =>
    intro j hj ha
    refine r_iload_n 3 dX2_allWhoStandAreThere_2 rfl rfl ?_
    refine r_bipush 5 dX2_allWhoStandAreThere_3 rfl rfl (by decide) ?_
    refine r_icmp_ge 40 8 dX2_allWhoStandAreThere_5 (by decide) rfl (fun c_5 => ?_) (fun c_5 => ?_)
    rotate_left -- leaf: pc 40
    refine r_aload_n 9 dX2_allWhoStandAreThere_8 rfl rfl ?_
    refine r_getR 12 dX2_allWhoStandAreThere_9 rfl kf_2_18 rfl (by first | assumption | omega) (by assumption) (by assumption) ?_
    refine r_iload_n 13 dX2_allWhoStandAreThere_12 rfl rfl ?_
    refine r_iald 14 dX2_allWhoStandAreThere_13 rfl (by first | assumption | omega) (by assumption) (by first | omega | (simp only [Int.toNat_natCast]; omega)) (by first | omega | (simp only [Int.toNat_natCast]; omega)) ?_
    refine r_bipush 16 dX2_allWhoStandAreThere_14 rfl rfl (by decide) ?_
    refine r_icmp_eq 34 19 dX2_allWhoStandAreThere_16 (by decide) rfl (fun c_16 => ?_) (fun c_16 => ?_)
    refine r_iinc 37 _ dX2_allWhoStandAreThere_34 rfl rfl rfl rfl (by first | exact w32_id (by omega) (by omega) | rfl) ?_
    refine r_goto 2 dX2_allWhoStandAreThere_37 (by decide) ?_
    rotate_left -- leaf: pc 2
    refine r_aload_n 20 dX2_allWhoStandAreThere_19 rfl rfl ?_
    refine r_aload_n 21 dX2_allWhoStandAreThere_20 rfl rfl ?_
    refine r_getR 24 dX2_allWhoStandAreThere_21 rfl kf_2_18 rfl (by first | assumption | omega) (by assumption) (by assumption) ?_
    refine r_iload_n 25 dX2_allWhoStandAreThere_24 rfl rfl ?_
    refine r_iald 26 dX2_allWhoStandAreThere_25 rfl (by first | assumption | omega) (by assumption) (by first | omega | (simp only [Int.toNat_natCast]; omega)) (by first | omega | (simp only [Int.toNat_natCast]; omega)) ?_
    rotate_left -- leaf: call at pc 26
    · omega
    · rw [Int.toNat_natCast] at c_16
      refine ih (j + 1) (by omega) (fun i hi => ?_)
      by_cases e : i = j
      · subst e; exact Or.inl c_16
      · exact ha i (by omega)
    · rw [Int.toNat_natCast] at c_16 ⊢
      refine r_cv1 29 dX2_allWhoStandAreThere_26 rfl kv_2_59 (by first | assumption | omega) (by assumption) rfl rfl (c_hasMan ly0 (h (p + 3) j)) ?_
      rintro r h' ⟨rfl, rfl⟩
      refine r_if_ne 34 32 dX2_allWhoStandAreThere_29 (by decide) rfl (fun c_29 => ?_) (fun c_29 => ?_)
      refine r_iinc 37 _ dX2_allWhoStandAreThere_34 rfl rfl rfl rfl (by first | exact w32_id (by omega) (by omega) | rfl) ?_
      refine r_goto 2 dX2_allWhoStandAreThere_37 (by decide) ?_
      rotate_left -- leaf: pc 2
      refine r_iconst 33 dX2_allWhoStandAreThere_32 rfl rfl ?_
      refine r_zret dX2_allWhoStandAreThere_33 rfl (by first | exact Or.inl rfl | exact Or.inr rfl | assumption | omega) ?_
      rotate_left -- leaf: return at pc 33
      · refine ih (j + 1) (by omega) (fun i hi => ?_)
        by_cases e : i = j
        · subst e; exact Or.inr (z01_y.mp c_29)
        · exact ha i (by omega)
      · exact hF (fun q => by
          rcases q j (by omega) with z | z
          · exact c_16 z
          · exact z01_n.mp c_29 z)
theorem c_allWho (ly : LT G p) : Ca l G 1 mX2_allWhoStandAreThere [vR p] h (fun r h' => ((awP h p ∧ r = some (vI 1)) ∨ (¬ awP h p ∧ r = some (vI 0))) ∧ h' = h) := by
  refine Ca.of (by decide) (Nat.le_of_ble_eq_true rfl) (fun hI hv hH => ?_)
  refine r_iconst 1 dX2_allWhoStandAreThere_0 rfl rfl ?_
  refine r_istore_n 2 dX2_allWhoStandAreThere_1 rfl rfl rfl ?_
  rotate_left -- leaf: pc 2
  exact l_allWho (l := l) ly (Φ := fun r h' => ((awP h p ∧ r = some (vI 1)) ∨ (¬ awP h p ∧ r = some (vI 0))) ∧ h' = h) (fun q => ⟨Or.inl ⟨q, rfl⟩, rfl⟩) (fun q => ⟨Or.inr ⟨q, rfl⟩, rfl⟩) 12 0 rfl (fun i hi => absurd hi (by omega))
theorem l_allWorth (ly : LT G p) (w : wT h p) {Φ : Option zV → zH → Prop} (hΦ : Φ (some (vI (sumF (h (p + 5)) (h p 7).toNat))) h) : ∀ (n j : Nat), j + n = (h p 7).toNat → Rr l G 0 mX2_allWorth Φ 4 [some (vR p), some (vI (sumF (h (p + 5)) j)), some (vI j)] [] h := by
  obtain ⟨⟨n0, n1, n2, n3, n4, n5, n6⟩, ⟨s0, s1, s2, s3, s4, s5, s6⟩, ⟨r0, r1, r2, r3, r4, r5⟩, ⟨l1, l2, l3, l4, l5, l6⟩⟩ := ly
  obtain ⟨w1, w2, w3, w4, w5, w6, w7, w8, w9, w10⟩ := w
  intro n
  induction n with
  | zero =>
    intro j hj
    refine r_iload_n 5 dX2_allWorth_4 rfl rfl ?_
    refine r_aload_n 6 dX2_allWorth_5 rfl rfl ?_
    refine r_getI 9 dX2_allWorth_6 rfl kf_2_37 rfl (by first | assumption | omega) (by assumption) ?_
    refine r_icmp_ge 27 12 dX2_allWorth_9 (by decide) rfl (fun c_9 => ?_) (fun c_9 => ?_)
    refine r_iload_n 28 dX2_allWorth_27 rfl rfl ?_
    refine r_iret dX2_allWorth_28 rfl ?_
    rotate_left -- leaf: return at pc 28
    rotate_left -- leaf: pc 12
    · rw [show j = (h p 7).toNat by omega]
      exact hΦ
    · omega
  | succ n ih =>
    intro j hj
    have hs := sumF_in w9 j
    have hs2 := w9 j
    refine r_iload_n 5 dX2_allWorth_4 rfl rfl ?_
    refine r_aload_n 6 dX2_allWorth_5 rfl rfl ?_
    refine r_getI 9 dX2_allWorth_6 rfl kf_2_37 rfl (by first | assumption | omega) (by assumption) ?_
    refine r_icmp_ge 27 12 dX2_allWorth_9 (by decide) rfl (fun c_9 => ?_) (fun c_9 => ?_)
    rotate_left -- leaf: pc 27
    refine r_iload_n 13 dX2_allWorth_12 rfl rfl ?_
    refine r_aload_n 14 dX2_allWorth_13 rfl rfl ?_
    refine r_getR 17 dX2_allWorth_14 rfl kf_2_24 rfl (by first | assumption | omega) (by assumption) (by assumption) ?_
    refine r_iload_n 18 dX2_allWorth_17 rfl rfl ?_
    refine r_iald 19 dX2_allWorth_18 rfl (by first | assumption | omega) (by assumption) (by first | omega | (simp only [Int.toNat_natCast]; omega)) (by first | omega | (simp only [Int.toNat_natCast]; omega)) ?_
    rotate_left -- leaf: pc 19
    · omega
    rw [Int.toNat_natCast]
    refine r_iadd 20 dX2_allWorth_19 rfl (by first | exact w32_id (by omega) (by omega) | rfl) ?_
    refine r_istore_n 21 dX2_allWorth_20 rfl rfl rfl ?_
    refine r_iinc 24 _ dX2_allWorth_21 rfl rfl rfl rfl (by first | exact w32_id (by omega) (by omega) | rfl) ?_
    refine r_goto 4 dX2_allWorth_24 (by decide) ?_
    rotate_left -- leaf: pc 4
    exact ih (j + 1) (by omega)
theorem c_allWorth (ly : LT G p) (w : wT h p) : Ca l G 0 mX2_allWorth [vR p] h (fun r h' => r = some (vI (sumF (h (p + 5)) (h p 7).toNat)) ∧ h' = h) := by
  refine Ca.of (by decide) (Nat.le_of_ble_eq_true rfl) (fun hI hv hH => ?_)
  refine r_iconst 1 dX2_allWorth_0 rfl rfl ?_
  refine r_istore_n 2 dX2_allWorth_1 rfl rfl rfl ?_
  refine r_iconst 3 dX2_allWorth_2 rfl rfl ?_
  refine r_istore_n 4 dX2_allWorth_3 rfl rfl rfl ?_
  rotate_left -- leaf: pc 4
  exact l_allWorth (l := l) ly w (Φ := fun r h' => r = some (vI (sumF (h (p + 5)) (h p 7).toNat)) ∧ h' = h) ⟨rfl, rfl⟩ (h p 7).toNat 0 (by omega)
theorem l_quarters (ly : LT G p) {Φ : Option zV → zH → Prop} (hΦ : Φ (some (vI (sumF (fun j => if rdsB h p j = true then 4 else 0) 12))) h) : ∀ (n j : Nat), j + n = 12 → Rr l G 2 mX2_quartersRead Φ 4 [some (vR p), some (vI (sumF (fun j => if rdsB h p j = true then 4 else 0) j)), some (vI j)] [] h := by
  have ly0 := ly
  obtain ⟨⟨n0, n1, n2, n3, n4, n5, n6⟩, ⟨s0, s1, s2, s3, s4, s5, s6⟩, ⟨r0, r1, r2, r3, r4, r5⟩, ⟨l1, l2, l3, l4, l5, l6⟩⟩ := ly
  intro n
  induction n with
  | zero =>
    intro j hj
    obtain rfl : j = 12 := by omega
    refine r_iload_n 5 dX2_quartersRead_4 rfl rfl ?_
    refine r_bipush 7 dX2_quartersRead_5 rfl rfl (by decide) ?_
    refine r_icmp_ge 32 10 dX2_quartersRead_7 (by decide) rfl (fun c_7 => ?_) (fun c_7 => ?_)
    refine r_iload_n 33 dX2_quartersRead_32 rfl rfl ?_
    refine r_iret dX2_quartersRead_33 rfl ?_
    rotate_left -- leaf: return at pc 33
    rotate_left -- leaf: pc 10
    · exact hΦ
    · omega
  | succ n ih =>
    intro j hj
    have ih := ih (j + 1) (by omega)
    have hs := sumF_in (f := fun j => if rdsB h p j = true then 4 else 0) (B := 4) (fun i => by split <;> omega) j
    rw [sumF] at ih
    refine r_iload_n 5 dX2_quartersRead_4 rfl rfl ?_
    refine r_bipush 7 dX2_quartersRead_5 rfl rfl (by decide) ?_
    refine r_icmp_ge 32 10 dX2_quartersRead_7 (by decide) rfl (fun c_7 => ?_) (fun c_7 => ?_)
    rotate_left -- leaf: pc 32
    refine r_iload_n 11 dX2_quartersRead_10 rfl rfl ?_
    refine r_aload_n 12 dX2_quartersRead_11 rfl rfl ?_
    refine r_iload_n 13 dX2_quartersRead_12 rfl rfl ?_
    rotate_left -- leaf: call at pc 13
    · omega
    refine r_cv1 16 dX2_quartersRead_13 rfl kv_2_70 (by first | assumption | omega) (by assumption) rfl rfl (c_readsIn ly0 j (by omega)) ?_
    rintro r h' ⟨rfl, rfl⟩
    refine r_if_eq 23 19 dX2_quartersRead_16 (by decide) rfl (fun c_16 => ?_) (fun c_16 => ?_)
    refine r_iconst 24 dX2_quartersRead_23 rfl rfl ?_
    refine r_iadd 25 dX2_quartersRead_24 rfl (by first | exact w32_id (by omega) (by omega) | rfl) ?_
    refine r_istore_n 26 dX2_quartersRead_25 rfl rfl rfl ?_
    refine r_iinc 29 _ dX2_quartersRead_26 rfl rfl rfl rfl (by first | exact w32_id (by omega) (by omega) | rfl) ?_
    refine r_goto 4 dX2_quartersRead_29 (by decide) ?_
    rotate_left -- leaf: pc 4
    refine r_iconst 20 dX2_quartersRead_19 rfl rfl ?_
    refine r_goto 24 dX2_quartersRead_20 (by decide) ?_
    refine r_iadd 25 dX2_quartersRead_24 rfl (by first | exact w32_id (by omega) (by omega) | rfl) ?_
    refine r_istore_n 26 dX2_quartersRead_25 rfl rfl rfl ?_
    refine r_iinc 29 _ dX2_quartersRead_26 rfl rfl rfl rfl (by first | exact w32_id (by omega) (by omega) | rfl) ?_
    refine r_goto 4 dX2_quartersRead_29 (by decide) ?_
    rotate_left -- leaf: pc 4
    · rw [if_neg (fun z => z01_n.mp c_16 (rdsB_t.mp z))] at ih
      exact ih
    · rw [if_pos (rdsB_t.mpr (z01_y.mp c_16))] at ih
      exact ih
theorem c_quartersRead (ly : LT G p) : Ca l G 2 mX2_quartersRead [vR p] h (fun r h' => r = some (vI (sumF (fun j => if rdsB h p j = true then 4 else 0) 12)) ∧ h' = h) := by
  refine Ca.of (by decide) (Nat.le_of_ble_eq_true rfl) (fun hI hv hH => ?_)
  refine r_iconst 1 dX2_quartersRead_0 rfl rfl ?_
  refine r_istore_n 2 dX2_quartersRead_1 rfl rfl rfl ?_
  refine r_iconst 3 dX2_quartersRead_2 rfl rfl ?_
  refine r_istore_n 4 dX2_quartersRead_3 rfl rfl rfl ?_
  rotate_left -- leaf: pc 4
  exact l_quarters (l := l) ly (Φ := fun r h' => r = some (vI (sumF (fun j => if rdsB h p j = true then 4 else 0) 12)) ∧ h' = h) ⟨rfl, rfl⟩ 12 0 rfl
end TW
end
section
/-! SunPointer$Sheet: k the object, k + 1 its cells -/
def LSh (G : zG) (k : Nat) : Prop := (k < gN G ∧ k + 1 < gN G) ∧ (gs G k = 5 ∧ gs G (k + 1) = 0) ∧ gr G k 0 = k + 1 ∧ gl G (k + 1) = 40
def rfuF (lane size asl i : Int) : Int := if lane = -1 then 1 else if ¬ lane = asl then 3 else if i < 0 ∨ size ≤ i then 2 else 0
def narF (lane v : Int) : Int := if lane = 0 then (Int32.ofInt v).toInt8.toInt else if lane = 1 then (Int32.ofInt v).toInt16.toInt else v
theorem rfuF_in (lane size asl i : Int) : 0 ≤ rfuF lane size asl i ∧ rfuF lane size asl i ≤ 3 := by
  unfold rfuF
  split
  · omega
  · split
    · omega
    · split <;> omega
section SH
variable {l : Launch} {G : zG} {h : zH} {k : Nat}
theorem c_refusal (ly : LSh G k) (asl i : Int) : Ca l G 0 mX0_refusal [vR k, vI asl, vI i] h (fun r h' => r = some (vI (rfuF (h k 1) (h k 2) asl i)) ∧ h' = h) := by
  obtain ⟨⟨n0, n1⟩, ⟨s0, s1⟩, r0, l1⟩ := ly
  refine Ca.of (by decide) (Nat.le_of_ble_eq_true rfl) (fun hI hv hH => ?_)
  refine r_aload_n 1 dX0_refusal_0 rfl rfl ?_
  refine r_getI 4 dX0_refusal_1 rfl kf_0_15 rfl (by first | assumption | omega) (by assumption) ?_
  refine r_iconst 5 dX0_refusal_4 rfl rfl ?_
  refine r_icmp_ne 10 8 dX0_refusal_5 (by decide) rfl (fun c_5 => ?_) (fun c_5 => ?_)
  refine r_aload_n 11 dX0_refusal_10 rfl rfl ?_
  refine r_getI 14 dX0_refusal_11 rfl kf_0_15 rfl (by first | assumption | omega) (by assumption) ?_
  refine r_iload_n 15 dX0_refusal_14 rfl rfl ?_
  refine r_icmp_eq 20 18 dX0_refusal_15 (by decide) rfl (fun c_15 => ?_) (fun c_15 => ?_)
  refine r_iload_n 21 dX0_refusal_20 rfl rfl ?_
  refine r_if_lt 32 24 dX0_refusal_21 (by decide) rfl (fun c_21 => ?_) (fun c_21 => ?_)
  refine r_iconst 33 dX0_refusal_32 rfl rfl ?_
  refine r_goto 37 dX0_refusal_33 (by decide) ?_
  refine r_iret dX0_refusal_37 rfl ?_
  rotate_left -- leaf: return at pc 37
  refine r_iload_n 25 dX0_refusal_24 rfl rfl ?_
  refine r_aload_n 26 dX0_refusal_25 rfl rfl ?_
  refine r_getI 29 dX0_refusal_26 rfl kf_0_19 rfl (by first | assumption | omega) (by assumption) ?_
  refine r_icmp_lt 36 32 dX0_refusal_29 (by decide) rfl (fun c_29 => ?_) (fun c_29 => ?_)
  refine r_iconst 37 dX0_refusal_36 rfl rfl ?_
  refine r_iret dX0_refusal_37 rfl ?_
  rotate_left -- leaf: return at pc 37
  refine r_iconst 33 dX0_refusal_32 rfl rfl ?_
  refine r_goto 37 dX0_refusal_33 (by decide) ?_
  refine r_iret dX0_refusal_37 rfl ?_
  rotate_left -- leaf: return at pc 37
  refine r_iconst 19 dX0_refusal_18 rfl rfl ?_
  refine r_iret dX0_refusal_19 rfl ?_
  rotate_left -- leaf: return at pc 19
  refine r_iconst 9 dX0_refusal_8 rfl rfl ?_
  refine r_iret dX0_refusal_9 rfl ?_
  rotate_left -- leaf: return at pc 9
  all_goals refine ⟨?_, rfl⟩
  all_goals unfold rfuF
  · rw [if_neg c_5, if_neg (fun q => q c_15), if_pos (Or.inl c_21)]
  · rw [if_neg c_5, if_neg (fun q => q c_15), if_neg (by omega)]
  · rw [if_neg c_5, if_neg (fun q => q c_15), if_pos (Or.inr c_29)]
  · rw [if_neg c_5, if_pos c_15]
  · rw [if_pos c_5]
theorem c_refusalOfPair (ly : LSh G k) (asl i : Int) : Ca l G 1 mX0_refusalOfPair [vR k, vI asl, vI i] h (fun r h' => r = some (vI (if ¬ rfuF (h k 1) (h k 2) asl i = 0 then rfuF (h k 1) (h k 2) asl i else rfuF (h k 1) (h k 2) asl (w32 (i + 1)))) ∧ h' = h) := by
  have ly0 := ly
  obtain ⟨⟨n0, n1⟩, ⟨s0, s1⟩, r0, l1⟩ := ly
  refine Ca.of (by decide) (Nat.le_of_ble_eq_true rfl) (fun hI hv hH => ?_)
  refine r_aload_n 1 dX0_refusalOfPair_0 rfl rfl ?_
  refine r_iload_n 2 dX0_refusalOfPair_1 rfl rfl ?_
  refine r_iload_n 3 dX0_refusalOfPair_2 rfl rfl ?_
  rotate_left -- leaf: call at pc 3
  refine r_cv2 6 dX0_refusalOfPair_3 rfl kv_0_22 (by first | assumption | omega) (by assumption) rfl rfl (c_refusal ly0 asl i) ?_
  rintro r h' ⟨rfl, rfl⟩
  refine r_istore_n 7 dX0_refusalOfPair_6 rfl rfl rfl ?_
  refine r_iload_n 8 dX0_refusalOfPair_7 rfl rfl ?_
  refine r_if_eq 15 11 dX0_refusalOfPair_8 (by decide) rfl (fun c_8 => ?_) (fun c_8 => ?_)
  refine r_aload_n 16 dX0_refusalOfPair_15 rfl rfl ?_
  refine r_iload_n 17 dX0_refusalOfPair_16 rfl rfl ?_
  refine r_iload_n 18 dX0_refusalOfPair_17 rfl rfl ?_
  refine r_iconst 19 dX0_refusalOfPair_18 rfl rfl ?_
  rotate_left -- leaf: pc 19
  refine r_iload_n 12 dX0_refusalOfPair_11 rfl rfl ?_
  refine r_goto 23 dX0_refusalOfPair_12 (by decide) ?_
  refine r_iret dX0_refusalOfPair_23 rfl ?_
  rotate_left -- leaf: return at pc 23
  · refine r_iadd 20 dX0_refusalOfPair_19 rfl rfl ?_
    refine r_cv2 23 dX0_refusalOfPair_20 rfl kv_0_22 (by first | assumption | omega) (by assumption) rfl rfl (c_refusal ly0 asl _) ?_
    rintro r h'' ⟨rfl, rfl⟩
    refine r_iret dX0_refusalOfPair_23 rfl ?_
    rotate_left -- leaf: return at pc 23
    exact ⟨by rw [if_neg (fun q => q c_8)], rfl⟩
  · exact ⟨by rw [if_pos c_8], rfl⟩
theorem c_put (ly : LSh G k) (i : Nat) (hi : i < 40) (v : Int) : Ca l G 0 mX0_put [vR k, vI i, vI v] h (fun r h' => r = none ∧ h' = up h (k + 1) i (narF (h k 1) v)) := by
  obtain ⟨⟨n0, n1⟩, ⟨s0, s1⟩, r0, l1⟩ := ly
  refine Ca.of (by decide) (Nat.le_of_ble_eq_true rfl) (fun hI hv hH => ?_)
  refine r_aload_n 1 dX0_put_0 rfl rfl ?_
  refine r_getI 4 dX0_put_1 rfl kf_0_15 rfl (by first | assumption | omega) (by assumption) ?_
  refine r_if_ne 18 7 dX0_put_4 (by decide) rfl (fun c_4 => ?_) (fun c_4 => ?_)
  refine r_aload_n 19 dX0_put_18 rfl rfl ?_
  refine r_getI 22 dX0_put_19 rfl kf_0_15 rfl (by first | assumption | omega) (by assumption) ?_
  refine r_iconst 23 dX0_put_22 rfl rfl ?_
  refine r_icmp_ne 37 26 dX0_put_23 (by decide) rfl (fun c_23 => ?_) (fun c_23 => ?_)
  refine r_aload_n 38 dX0_put_37 rfl rfl ?_
  refine r_getR 41 dX0_put_38 rfl kf_0_9 rfl (by first | assumption | omega) (by assumption) (by assumption) ?_
  refine r_iload_n 42 dX0_put_41 rfl rfl ?_
  refine r_iload_n 43 dX0_put_42 rfl rfl ?_
  refine r_iast 44 dX0_put_43 rfl (by first | assumption | omega) (by assumption) (by first | omega | (simp only [Int.toNat_natCast]; omega)) (by first | omega | (simp only [Int.toNat_natCast]; omega)) ?_
  refine r_ret dX0_put_44 rfl ?_
  rotate_left -- leaf: return at pc 44
  refine r_aload_n 27 dX0_put_26 rfl rfl ?_
  refine r_getR 30 dX0_put_27 rfl kf_0_9 rfl (by first | assumption | omega) (by assumption) (by assumption) ?_
  refine r_iload_n 31 dX0_put_30 rfl rfl ?_
  refine r_iload_n 32 dX0_put_31 rfl rfl ?_
  refine r_i2s 33 _ dX0_put_32 rfl rfl ?_
  refine r_iast 34 dX0_put_33 rfl (by first | assumption | omega) (by assumption) (by first | omega | (simp only [Int.toNat_natCast]; omega)) (by first | omega | (simp only [Int.toNat_natCast]; omega)) ?_
  refine r_goto 44 dX0_put_34 (by decide) ?_
  refine r_ret dX0_put_44 rfl ?_
  rotate_left -- leaf: return at pc 44
  refine r_aload_n 8 dX0_put_7 rfl rfl ?_
  refine r_getR 11 dX0_put_8 rfl kf_0_9 rfl (by first | assumption | omega) (by assumption) (by assumption) ?_
  refine r_iload_n 12 dX0_put_11 rfl rfl ?_
  refine r_iload_n 13 dX0_put_12 rfl rfl ?_
  refine r_i2b 14 _ dX0_put_13 rfl rfl ?_
  refine r_iast 15 dX0_put_14 rfl (by first | assumption | omega) (by assumption) (by first | omega | (simp only [Int.toNat_natCast]; omega)) (by first | omega | (simp only [Int.toNat_natCast]; omega)) ?_
  refine r_goto 44 dX0_put_15 (by decide) ?_
  refine r_ret dX0_put_44 rfl ?_
  rotate_left -- leaf: return at pc 44
  · refine ⟨rfl, ?_⟩
    rw [Int.toNat_natCast, narF, if_neg c_4, if_neg c_23]
  · refine ⟨rfl, ?_⟩
    rw [Int.toNat_natCast, narF, if_neg c_4, if_pos c_23]
  · refine ⟨rfl, ?_⟩
    rw [Int.toNat_natCast, narF, if_pos c_4]
theorem l_renew (ly : LSh G k) (a b : Int) {Φ : Option zV → zH → Prop} (hΦ : Φ none (setB (up (up h k 1 a) k 2 b) (k + 1) 40 (fun _ => 0))) : ∀ (n j : Nat), j + n = 40 → Rr l G 0 mX0_renew Φ 12 [some (vR k), some (vI a), some (vI b), some (vI j)] [] (setB (up (up h k 1 a) k 2 b) (k + 1) j (fun _ => 0)) := by
  obtain ⟨⟨n0, n1⟩, ⟨s0, s1⟩, r0, l1⟩ := ly
  intro n
  induction n with
  | zero =>
    intro j hj
    obtain rfl : j = 40 := by omega
    refine r_iload_n 13 dX0_renew_12 rfl rfl ?_
    refine r_bipush 15 dX0_renew_13 rfl rfl (by decide) ?_
    refine r_icmp_ge 31 18 dX0_renew_15 (by decide) rfl (fun c_15 => ?_) (fun c_15 => ?_)
    refine r_ret dX0_renew_31 rfl ?_
    rotate_left -- leaf: return at pc 31
    rotate_left -- leaf: pc 18
    · exact hΦ
    · omega
  | succ n ih =>
    intro j hj
    refine r_iload_n 13 dX0_renew_12 rfl rfl ?_
    refine r_bipush 15 dX0_renew_13 rfl rfl (by decide) ?_
    refine r_icmp_ge 31 18 dX0_renew_15 (by decide) rfl (fun c_15 => ?_) (fun c_15 => ?_)
    rotate_left -- leaf: pc 31
    refine r_aload_n 19 dX0_renew_18 rfl rfl ?_
    refine r_getR 22 dX0_renew_19 rfl kf_0_9 rfl (by first | assumption | omega) (by assumption) (by assumption) ?_
    refine r_iload_n 23 dX0_renew_22 rfl rfl ?_
    refine r_iconst 24 dX0_renew_23 rfl rfl ?_
    refine r_iast 25 dX0_renew_24 rfl (by first | assumption | omega) (by assumption) (by first | omega | (simp only [Int.toNat_natCast]; omega)) (by first | omega | (simp only [Int.toNat_natCast]; omega)) ?_
    refine r_iinc 28 _ dX0_renew_25 rfl rfl rfl rfl (by first | exact w32_id (by omega) (by omega) | rfl) ?_
    refine r_goto 12 dX0_renew_28 (by decide) ?_
    rotate_left -- leaf: pc 12
    · omega
    · rw [Int.toNat_natCast]
      have e := setB_s (h := (up (up h k 1 a) k 2 b)) (k := k + 1) (j := j) (f := fun _ => 0)
      rw [e]
      exact ih (j + 1) (by omega)
theorem c_renew (ly : LSh G k) (a b : Int) : Ca l G 0 mX0_renew [vR k, vI a, vI b] h (fun r h' => r = none ∧ h' = setB (up (up h k 1 a) k 2 b) (k + 1) 40 (fun _ => 0)) := by
  have ly0 := ly
  obtain ⟨⟨n0, n1⟩, ⟨s0, s1⟩, r0, l1⟩ := ly
  refine Ca.of (by decide) (Nat.le_of_ble_eq_true rfl) (fun hI hv hH => ?_)
  refine r_aload_n 1 dX0_renew_0 rfl rfl ?_
  refine r_iload_n 2 dX0_renew_1 rfl rfl ?_
  refine r_putI 5 dX0_renew_2 rfl kf_0_15 rfl rfl (Or.inl rfl) (by first | assumption | omega) (by assumption) ?_
  refine r_aload_n 6 dX0_renew_5 rfl rfl ?_
  refine r_iload_n 7 dX0_renew_6 rfl rfl ?_
  refine r_putI 10 dX0_renew_7 rfl kf_0_19 rfl rfl (Or.inl rfl) (by first | assumption | omega) (by assumption) ?_
  refine r_iconst 11 dX0_renew_10 rfl rfl ?_
  refine r_istore_n 12 dX0_renew_11 rfl rfl rfl ?_
  rotate_left -- leaf: pc 12
  have := l_renew (l := l) (h := h) ly0 a b (Φ := fun r h' => r = none ∧ h' = setB (up (up h k 1 a) k 2 b) (k + 1) 40 (fun _ => 0)) ⟨rfl, rfl⟩ 40 0 rfl
  rw [setB_0] at this
  exact this
end SH
/-! SunPointer$Tape: t the object, t + 1 its bytes. Fields: 1 length, 2 faultMet, 3 faultPlace, 4 token, 5 tokenPlace, 6 tokenEnd, 7 number, 8 rotaTold, 9 paintTold -/
def LTp (G : zG) (t : Nat) : Prop := (t < gN G ∧ t + 1 < gN G) ∧ (gs G t = 6 ∧ gs G (t + 1) = 1) ∧ gr G t 0 = t + 1 ∧ gl G (t + 1) = 160
def leB (c : Int) : Bool := decide (97 ≤ c ∧ c ≤ 122)
def fiB (c : Int) : Bool := decide (48 ≤ c ∧ c ≤ 57)
def blB (c : Int) : Bool := decide (c = 32)
/-- behind all that f takes, from p on (n: how many there may be) -/
def bhd (f : Int → Bool) (by_ : Nat → Int) : Nat → Nat → Nat
  | 0, p => p
  | n + 1, p => if f (by_ p) = true then bhd f by_ n (p + 1) else p
theorem bhd_in (f : Int → Bool) (by_ : Nat → Int) : ∀ n p, p ≤ bhd f by_ n p ∧ bhd f by_ n p ≤ p + n
  | 0, p => by simp [bhd]
  | n + 1, p => by
    have := bhd_in f by_ n (p + 1)
    unfold bhd
    split <;> omega
def nmF (by_ : Nat → Int) (a : Nat) : Nat → Int
  | 0 => 0
  | n + 1 => w32 (w32 (w32 (10 * nmF by_ a n) + by_ (a + n)) - 48)
/-- what a Tape's numbers are within -/
def wP (h : zH) (t : Nat) : Prop := (0 ≤ h t 1 ∧ h t 1 ≤ 160) ∧ (0 ≤ h t 5 ∧ h t 5 ≤ 160) ∧ (0 ≤ h t 6 ∧ h t 6 ≤ 160) ∧ (∀ j, 0 ≤ h (t + 1) j ∧ h (t + 1) j ≤ 127)
section TP
variable {l : Launch} {G : zG} {h : zH} {t : Nat}
theorem c_isLetter (c : Int) : Ca l G 0 mX1_isLetter [vI c] h (fun r h' => r = some (vI (z01 (leB c = true))) ∧ h' = h) := by
  refine Ca.of (by decide) (Nat.le_of_ble_eq_true rfl) (fun hI hv hH => ?_)
  refine r_iload_n 1 dX1_isLetter_0 rfl rfl ?_
  refine r_bipush 3 dX1_isLetter_1 rfl rfl (by decide) ?_
  refine r_icmp_lt 16 6 dX1_isLetter_3 (by decide) rfl (fun c_3 => ?_) (fun c_3 => ?_)
  refine r_iconst 17 dX1_isLetter_16 rfl rfl ?_
  refine r_zret dX1_isLetter_17 rfl (by first | exact Or.inl rfl | exact Or.inr rfl | assumption | omega) ?_
  rotate_left -- leaf: return at pc 17
  refine r_iload_n 7 dX1_isLetter_6 rfl rfl ?_
  refine r_bipush 9 dX1_isLetter_7 rfl rfl (by decide) ?_
  refine r_icmp_gt 16 12 dX1_isLetter_9 (by decide) rfl (fun c_9 => ?_) (fun c_9 => ?_)
  refine r_iconst 17 dX1_isLetter_16 rfl rfl ?_
  refine r_zret dX1_isLetter_17 rfl (by first | exact Or.inl rfl | exact Or.inr rfl | assumption | omega) ?_
  rotate_left -- leaf: return at pc 17
  refine r_iconst 13 dX1_isLetter_12 rfl rfl ?_
  refine r_goto 17 dX1_isLetter_13 (by decide) ?_
  refine r_zret dX1_isLetter_17 rfl (by first | exact Or.inl rfl | exact Or.inr rfl | assumption | omega) ?_
  rotate_left -- leaf: return at pc 17
  all_goals refine ⟨?_, rfl⟩
  · rw [z01_f (by simp [leB]; omega)]
  · rw [z01_f (by simp [leB]; omega)]
  · rw [z01_t (by simp [leB]; omega)]
theorem c_isFigure (c : Int) : Ca l G 0 mX1_isFigure [vI c] h (fun r h' => r = some (vI (z01 (fiB c = true))) ∧ h' = h) := by
  refine Ca.of (by decide) (Nat.le_of_ble_eq_true rfl) (fun hI hv hH => ?_)
  refine r_iload_n 1 dX1_isFigure_0 rfl rfl ?_
  refine r_bipush 3 dX1_isFigure_1 rfl rfl (by decide) ?_
  refine r_icmp_lt 16 6 dX1_isFigure_3 (by decide) rfl (fun c_3 => ?_) (fun c_3 => ?_)
  refine r_iconst 17 dX1_isFigure_16 rfl rfl ?_
  refine r_zret dX1_isFigure_17 rfl (by first | exact Or.inl rfl | exact Or.inr rfl | assumption | omega) ?_
  rotate_left -- leaf: return at pc 17
  refine r_iload_n 7 dX1_isFigure_6 rfl rfl ?_
  refine r_bipush 9 dX1_isFigure_7 rfl rfl (by decide) ?_
  refine r_icmp_gt 16 12 dX1_isFigure_9 (by decide) rfl (fun c_9 => ?_) (fun c_9 => ?_)
  refine r_iconst 17 dX1_isFigure_16 rfl rfl ?_
  refine r_zret dX1_isFigure_17 rfl (by first | exact Or.inl rfl | exact Or.inr rfl | assumption | omega) ?_
  rotate_left -- leaf: return at pc 17
  refine r_iconst 13 dX1_isFigure_12 rfl rfl ?_
  refine r_goto 17 dX1_isFigure_13 (by decide) ?_
  refine r_zret dX1_isFigure_17 rfl (by first | exact Or.inl rfl | exact Or.inr rfl | assumption | omega) ?_
  rotate_left -- leaf: return at pc 17
  all_goals refine ⟨?_, rfl⟩
  · rw [z01_f (by simp [fiB]; omega)]
  · rw [z01_f (by simp [fiB]; omega)]
  · rw [z01_t (by simp [fiB]; omega)]
theorem c_isGood (ly : LTp G t) : Ca l G 0 mX1_isGood [vR t] h (fun r h' => r = some (vI (z01 (h t 2 = 0))) ∧ h' = h) := by
  obtain ⟨⟨n0, n1⟩, ⟨s0, s1⟩, r0, l1⟩ := ly
  refine Ca.of (by decide) (Nat.le_of_ble_eq_true rfl) (fun hI hv hH => ?_)
  refine r_aload_n 1 dX1_isGood_0 rfl rfl ?_
  refine r_getI 4 dX1_isGood_1 rfl kf_1_24 rfl (by first | assumption | omega) (by assumption) ?_
  refine r_if_ne 11 7 dX1_isGood_4 (by decide) rfl (fun c_4 => ?_) (fun c_4 => ?_)
  refine r_iconst 12 dX1_isGood_11 rfl rfl ?_
  refine r_zret dX1_isGood_12 rfl (by first | exact Or.inl rfl | exact Or.inr rfl | assumption | omega) ?_
  rotate_left -- leaf: return at pc 12
  refine r_iconst 8 dX1_isGood_7 rfl rfl ?_
  refine r_goto 12 dX1_isGood_8 (by decide) ?_
  refine r_zret dX1_isGood_12 rfl (by first | exact Or.inl rfl | exact Or.inr rfl | assumption | omega) ?_
  rotate_left -- leaf: return at pc 12
  all_goals refine ⟨?_, rfl⟩
  · rw [z01_f c_4]
  · rw [z01_t c_4]
theorem c_fail (ly : LTp G t) (a b : Int) : Ca l G 0 mX1_fail [vR t, vI a, vI b] h (fun r h' => r = none ∧ h' = up (up h t 2 a) t 3 b) := by
  obtain ⟨⟨n0, n1⟩, ⟨s0, s1⟩, r0, l1⟩ := ly
  refine Ca.of (by decide) (Nat.le_of_ble_eq_true rfl) (fun hI hv hH => ?_)
  refine r_aload_n 1 dX1_fail_0 rfl rfl ?_
  refine r_iload_n 2 dX1_fail_1 rfl rfl ?_
  refine r_putI 5 dX1_fail_2 rfl kf_1_24 rfl rfl (Or.inl rfl) (by first | assumption | omega) (by assumption) ?_
  refine r_aload_n 6 dX1_fail_5 rfl rfl ?_
  refine r_iload_n 7 dX1_fail_6 rfl rfl ?_
  refine r_putI 10 dX1_fail_7 rfl kf_1_27 rfl rfl (Or.inl rfl) (by first | assumption | omega) (by assumption) ?_
  refine r_ret dX1_fail_10 rfl ?_
  rotate_left -- leaf: return at pc 10
  exact ⟨rfl, rfl⟩
theorem i8_id {c : Int} (h0 : 0 ≤ c) (h1 : c ≤ 127) : (Int32.ofInt c).toInt8.toInt = c := by
  rw [Int32.toInt_toInt8, i32_t ⟨by omega, by omega⟩]
  exact Int.bmod_eq_of_le (by omega) (by omega)
theorem c_add (ly : LTp G t) (w : wP h t) (c : Int) (hc : 0 ≤ c ∧ c ≤ 127) : Ca l G 0 mX1_add [vR t, vI c] h (fun r h' => (160 ≤ h t 1 ∧ r = some (vI 0) ∧ h' = h) ∨ (h t 1 < 160 ∧ r = some (vI 1) ∧ h' = up (up h (t + 1) (h t 1).toNat c) t 1 (h t 1 + 1))) := by
  obtain ⟨⟨n0, n1⟩, ⟨s0, s1⟩, r0, l1⟩ := ly
  obtain ⟨w1, w2, w3, w4⟩ := w
  refine Ca.of (by decide) (Nat.le_of_ble_eq_true rfl) (fun hI hv hH => ?_)
  refine r_aload_n 1 dX1_add_0 rfl rfl ?_
  refine r_getI 4 dX1_add_1 rfl kf_1_15 rfl (by first | assumption | omega) (by assumption) ?_
  refine r_sipush 7 dX1_add_4 rfl rfl (by decide) ?_
  refine r_icmp_lt 12 10 dX1_add_7 (by decide) rfl (fun c_7 => ?_) (fun c_7 => ?_)
  rotate_left -- leaf: pc 12
  refine r_iconst 11 dX1_add_10 rfl rfl ?_
  refine r_zret dX1_add_11 rfl (by first | exact Or.inl rfl | exact Or.inr rfl | assumption | omega) ?_
  rotate_left -- leaf: return at pc 11
  · refine r_aload_n 13 dX1_add_12 rfl rfl ?_
    refine r_getR 16 dX1_add_13 rfl kf_1_11 rfl (by first | assumption | omega) (by assumption) (by assumption) ?_
    refine r_aload_n 17 dX1_add_16 rfl rfl ?_
    refine r_getI 20 dX1_add_17 rfl kf_1_15 rfl (by first | assumption | omega) (by assumption) ?_
    refine r_iload_n 21 dX1_add_20 rfl rfl ?_
    refine r_i2b 22 _ dX1_add_21 rfl rfl ?_
    rotate_left -- leaf: pc 22
    rw [i8_id hc.1 hc.2]
    have e : up h (t + 1) (h t 1).toNat c t 1 = h t 1 := up_k (by omega)
    first | refine r_bast 23 dX1_add_22 rfl (by first | assumption | omega) (by assumption) (by first | omega | (simp only [Int.toNat_natCast]; omega)) (by first | omega | (simp only [Int.toNat_natCast]; omega)) (by first | omega | (simp only [Int.toNat_natCast]; omega)) (by first | omega | (simp only [Int.toNat_natCast]; omega)) ?_ | refine r_zast 23 dX1_add_22 rfl (by first | assumption | omega) (by assumption) (by first | omega | (simp only [Int.toNat_natCast]; omega)) (by first | omega | (simp only [Int.toNat_natCast]; omega)) (by first | exact Or.inl rfl | exact Or.inr rfl | omega) ?_
    refine r_aload_n 24 dX1_add_23 rfl rfl ?_
    refine r_dup 25 dX1_add_24 rfl rfl ?_
    refine r_getI 28 dX1_add_25 rfl kf_1_15 rfl (by first | assumption | omega) (by assumption) ?_
    rotate_left -- leaf: pc 28
    rw [e]
    refine r_iconst 29 dX1_add_28 rfl rfl ?_
    refine r_iadd 30 dX1_add_29 rfl (by first | exact w32_id (by omega) (by omega) | rfl) ?_
    refine r_putI 33 dX1_add_30 rfl kf_1_15 rfl rfl (Or.inl rfl) (by first | assumption | omega) (by assumption) ?_
    refine r_iconst 34 dX1_add_33 rfl rfl ?_
    refine r_zret dX1_add_34 rfl (by first | exact Or.inl rfl | exact Or.inr rfl | assumption | omega) ?_
    rotate_left -- leaf: return at pc 34
    exact Or.inr ⟨c_7, rfl, rfl⟩
  · exact Or.inl ⟨c_7, rfl, rfl⟩
end TP
end
section
/-! SunPointer$Tape: the next TOKEN. The Tape's own fields as a function r: the world is reT h t r -/
def reT (h : zH) (t : Nat) (r : Nat → Int) : zH := fun a b => if a = t then r b else h a b
def up1 (r : Nat → Int) (j : Nat) (v : Int) : Nat → Int := fun b => if b = j then v else r b
theorem reT_s {h : zH} {t b : Nat} {r : Nat → Int} : reT h t r t b = r b := by simp [reT]
theorem reT_n {h : zH} {t a b : Nat} {r : Nat → Int} (q : a ≠ t) : reT h t r a b = h a b := by simp [reT, q]
theorem reT_up {h : zH} {t j : Nat} {r : Nat → Int} {v : Int} : up (reT h t r) t j v = reT h t (up1 r j v) := by
  funext a b
  by_cases ha : a = t
  · subst ha
    simp [up, reT, up1]
  · simp [up, reT, ha]
theorem reT_upo {h : zH} {t k j : Nat} {r : Nat → Int} {v : Int} (q : k ≠ t) : up (reT h t r) k j v = reT (up h k j v) t r := by
  funext a b
  by_cases ha : a = t
  · subst ha
    simp [up, reT, Ne.symm q]
  · simp [up, reT, ha]
theorem reT_self {h : zH} {t : Nat} : reT h t (h t) = h := by
  funext a b
  by_cases ha : a = t
  · subst ha; simp [reT]
  · simp [reT, ha]
theorem up1_s {r : Nat → Int} {j : Nat} {v : Int} : up1 r j v j = v := by simp [up1]
theorem up1_n {r : Nat → Int} {j b : Nat} {v : Int} (q : b ≠ j) : up1 r j v b = r b := by simp [up1, q]
def wR (r by_ : Nat → Int) : Prop := (0 ≤ r 1 ∧ r 1 ≤ 160) ∧ (0 ≤ r 5 ∧ r 5 ≤ 160) ∧ (0 ≤ r 6 ∧ r 6 ≤ 160) ∧ (∀ j, 0 ≤ by_ j ∧ by_ j ≤ 127)
section TP
variable {l : Launch} {G : zG} {h : zH} {t : Nat} {r : Nat → Int}

theorem l_behindBlanks (ly : LTp G t) (w : wR r (h (t + 1))) {Φ : Option zV → zH → Prop} (x1 : Int) {v : Nat} (hΦ : Φ (some (vI v)) (reT h t r)) : ∀ (n q : Nat), q ≤ 160 → (r 1).toNat - q = n → bhd blB (h (t + 1)) n q = v → Rr l G 0 mX1_behindBlanks Φ 2 [some (vR t), some (vI x1), some (vI q)] [] (reT h t r) := by
  obtain ⟨⟨n0, n1⟩, ⟨s0, s1⟩, r0, l1⟩ := ly
  obtain ⟨w1, w2, w3, w4⟩ := w
  intro n
  induction n with
  | zero =>
    intro q hq hn hb
    refine r_iload_n 3 dX1_behindBlanks_2 rfl rfl ?_
    refine r_aload_n 4 dX1_behindBlanks_3 rfl rfl ?_
    refine r_getI 7 dX1_behindBlanks_4 rfl kf_1_15 rfl (by first | assumption | omega) (by assumption) ?_
    rotate_left -- leaf: pc 7
    rw [reT_s]
    refine r_icmp_ge 27 10 dX1_behindBlanks_7 (by decide) rfl (fun c_7 => ?_) (fun c_7 => ?_)
    refine r_iload_n 28 dX1_behindBlanks_27 rfl rfl ?_
    refine r_iret dX1_behindBlanks_28 rfl ?_
    rotate_left -- leaf: return at pc 28
    rotate_left -- leaf: pc 10
    · simp only [bhd] at hb
      subst hb
      exact hΦ
    · omega
  | succ n ih =>
    intro q hq hn hb
    refine r_iload_n 3 dX1_behindBlanks_2 rfl rfl ?_
    refine r_aload_n 4 dX1_behindBlanks_3 rfl rfl ?_
    refine r_getI 7 dX1_behindBlanks_4 rfl kf_1_15 rfl (by first | assumption | omega) (by assumption) ?_
    rotate_left -- leaf: pc 7
    rw [reT_s]
    refine r_icmp_ge 27 10 dX1_behindBlanks_7 (by decide) rfl (fun c_7 => ?_) (fun c_7 => ?_)
    rotate_left -- leaf: pc 27
    refine r_aload_n 11 dX1_behindBlanks_10 rfl rfl ?_
    refine r_getR 14 dX1_behindBlanks_11 rfl kf_1_11 rfl (by first | assumption | omega) (by assumption) (by assumption) ?_
    refine r_iload_n 15 dX1_behindBlanks_14 rfl rfl ?_
    first | refine r_bald 16 dX1_behindBlanks_15 rfl (by first | assumption | omega) (by assumption) (by first | omega | (simp only [Int.toNat_natCast]; omega)) (by first | omega | (simp only [Int.toNat_natCast]; omega)) ?_ | refine r_zald 16 dX1_behindBlanks_15 rfl (by first | assumption | omega) (by assumption) (by first | omega | (simp only [Int.toNat_natCast]; omega)) (by first | omega | (simp only [Int.toNat_natCast]; omega)) ?_
    rotate_left -- leaf: pc 16
    · omega
    rw [Int.toNat_natCast, reT_n (by omega)]
    simp only [bhd] at hb
    refine r_bipush 18 dX1_behindBlanks_16 rfl rfl (by decide) ?_
    refine r_icmp_ne 27 21 dX1_behindBlanks_18 (by decide) rfl (fun c_18 => ?_) (fun c_18 => ?_)
    refine r_iload_n 28 dX1_behindBlanks_27 rfl rfl ?_
    refine r_iret dX1_behindBlanks_28 rfl ?_
    rotate_left -- leaf: return at pc 28
    refine r_iinc 24 _ dX1_behindBlanks_21 rfl rfl rfl rfl (by first | exact w32_id (by omega) (by omega) | rfl) ?_
    refine r_goto 2 dX1_behindBlanks_24 (by decide) ?_
    rotate_left -- leaf: pc 2
    · rw [if_neg (by simp [blB, c_18])] at hb
      subst hb
      exact hΦ
    · rw [if_pos (by simp [blB, c_18])] at hb
      exact ih (q + 1) (by omega) (by omega) hb
theorem c_behindBlanks (ly : LTp G t) (w : wR r (h (t + 1))) (q : Nat) (hq : q ≤ 160) : Ca l G 0 mX1_behindBlanks [vR t, vI q] (reT h t r) (fun r' h' => r' = some (vI (bhd blB (h (t + 1)) ((r 1).toNat - q) q)) ∧ h' = reT h t r) := by
  refine Ca.of (by decide) (Nat.le_of_ble_eq_true rfl) (fun hI hv hH => ?_)
  refine r_iload_n 1 dX1_behindBlanks_0 rfl rfl ?_
  refine r_istore_n 2 dX1_behindBlanks_1 rfl rfl rfl ?_
  rotate_left -- leaf: pc 2
  exact l_behindBlanks (l := l) ly w (q : Int) (Φ := fun r' h' => r' = some (vI (bhd blB (h (t + 1)) ((r 1).toNat - q) q)) ∧ h' = reT h t r) ⟨rfl, rfl⟩ _ q hq rfl rfl
theorem l_behindLetters (ly : LTp G t) (w : wR r (h (t + 1))) {Φ : Option zV → zH → Prop} (x1 : Int) {v : Nat} (hΦ : Φ (some (vI v)) (reT h t r)) : ∀ (n q : Nat), q ≤ 160 → (r 1).toNat - q = n → bhd leB (h (t + 1)) n q = v → Rr l G 1 mX1_behindLetters Φ 2 [some (vR t), some (vI x1), some (vI q)] [] (reT h t r) := by
  obtain ⟨⟨n0, n1⟩, ⟨s0, s1⟩, r0, l1⟩ := ly
  obtain ⟨w1, w2, w3, w4⟩ := w
  intro n
  induction n with
  | zero =>
    intro q hq hn hb
    refine r_iload_n 3 dX1_behindLetters_2 rfl rfl ?_
    refine r_aload_n 4 dX1_behindLetters_3 rfl rfl ?_
    refine r_getI 7 dX1_behindLetters_4 rfl kf_1_15 rfl (by first | assumption | omega) (by assumption) ?_
    rotate_left -- leaf: pc 7
    rw [reT_s]
    refine r_icmp_ge 28 10 dX1_behindLetters_7 (by decide) rfl (fun c_7 => ?_) (fun c_7 => ?_)
    refine r_iload_n 29 dX1_behindLetters_28 rfl rfl ?_
    refine r_iret dX1_behindLetters_29 rfl ?_
    rotate_left -- leaf: return at pc 29
    rotate_left -- leaf: pc 10
    · simp only [bhd] at hb
      subst hb
      exact hΦ
    · omega
  | succ n ih =>
    intro q hq hn hb
    refine r_iload_n 3 dX1_behindLetters_2 rfl rfl ?_
    refine r_aload_n 4 dX1_behindLetters_3 rfl rfl ?_
    refine r_getI 7 dX1_behindLetters_4 rfl kf_1_15 rfl (by first | assumption | omega) (by assumption) ?_
    rotate_left -- leaf: pc 7
    rw [reT_s]
    refine r_icmp_ge 28 10 dX1_behindLetters_7 (by decide) rfl (fun c_7 => ?_) (fun c_7 => ?_)
    rotate_left -- leaf: pc 28
    refine r_aload_n 11 dX1_behindLetters_10 rfl rfl ?_
    refine r_getR 14 dX1_behindLetters_11 rfl kf_1_11 rfl (by first | assumption | omega) (by assumption) (by assumption) ?_
    refine r_iload_n 15 dX1_behindLetters_14 rfl rfl ?_
    first | refine r_bald 16 dX1_behindLetters_15 rfl (by first | assumption | omega) (by assumption) (by first | omega | (simp only [Int.toNat_natCast]; omega)) (by first | omega | (simp only [Int.toNat_natCast]; omega)) ?_ | refine r_zald 16 dX1_behindLetters_15 rfl (by first | assumption | omega) (by assumption) (by first | omega | (simp only [Int.toNat_natCast]; omega)) (by first | omega | (simp only [Int.toNat_natCast]; omega)) ?_
    rotate_left -- leaf: call at pc 16
    · omega
    rw [Int.toNat_natCast, reT_n (by omega)]
    simp only [bhd] at hb
    refine r_cs1 19 dX1_behindLetters_16 rfl ks_1_129 rfl rfl (c_isLetter (h (t + 1) q)) ?_
    rintro r1 h' ⟨rfl, rfl⟩
    refine r_if_eq 28 22 dX1_behindLetters_19 (by decide) rfl (fun c_19 => ?_) (fun c_19 => ?_)
    refine r_iload_n 29 dX1_behindLetters_28 rfl rfl ?_
    refine r_iret dX1_behindLetters_29 rfl ?_
    rotate_left -- leaf: return at pc 29
    refine r_iinc 25 _ dX1_behindLetters_22 rfl rfl rfl rfl (by first | exact w32_id (by omega) (by omega) | rfl) ?_
    refine r_goto 2 dX1_behindLetters_25 (by decide) ?_
    rotate_left -- leaf: pc 2
    · rw [if_neg (z01_n.mp c_19)] at hb
      subst hb
      exact hΦ
    · rw [if_pos (z01_y.mp c_19)] at hb
      exact ih (q + 1) (by omega) (by omega) hb
theorem c_behindLetters (ly : LTp G t) (w : wR r (h (t + 1))) (q : Nat) (hq : q ≤ 160) : Ca l G 1 mX1_behindLetters [vR t, vI q] (reT h t r) (fun r' h' => r' = some (vI (bhd leB (h (t + 1)) ((r 1).toNat - q) q)) ∧ h' = reT h t r) := by
  refine Ca.of (by decide) (Nat.le_of_ble_eq_true rfl) (fun hI hv hH => ?_)
  refine r_iload_n 1 dX1_behindLetters_0 rfl rfl ?_
  refine r_istore_n 2 dX1_behindLetters_1 rfl rfl rfl ?_
  rotate_left -- leaf: pc 2
  exact l_behindLetters (l := l) ly w (q : Int) (Φ := fun r' h' => r' = some (vI (bhd leB (h (t + 1)) ((r 1).toNat - q) q)) ∧ h' = reT h t r) ⟨rfl, rfl⟩ _ q hq rfl rfl
theorem l_behindFigures (ly : LTp G t) (w : wR r (h (t + 1))) {Φ : Option zV → zH → Prop} (x1 : Int) {v : Nat} (hΦ : Φ (some (vI v)) (reT h t r)) : ∀ (n q : Nat), q ≤ 160 → (r 1).toNat - q = n → bhd fiB (h (t + 1)) n q = v → Rr l G 1 mX1_behindFigures Φ 2 [some (vR t), some (vI x1), some (vI q)] [] (reT h t r) := by
  obtain ⟨⟨n0, n1⟩, ⟨s0, s1⟩, r0, l1⟩ := ly
  obtain ⟨w1, w2, w3, w4⟩ := w
  intro n
  induction n with
  | zero =>
    intro q hq hn hb
    refine r_iload_n 3 dX1_behindFigures_2 rfl rfl ?_
    refine r_aload_n 4 dX1_behindFigures_3 rfl rfl ?_
    refine r_getI 7 dX1_behindFigures_4 rfl kf_1_15 rfl (by first | assumption | omega) (by assumption) ?_
    rotate_left -- leaf: pc 7
    rw [reT_s]
    refine r_icmp_ge 28 10 dX1_behindFigures_7 (by decide) rfl (fun c_7 => ?_) (fun c_7 => ?_)
    refine r_iload_n 29 dX1_behindFigures_28 rfl rfl ?_
    refine r_iret dX1_behindFigures_29 rfl ?_
    rotate_left -- leaf: return at pc 29
    rotate_left -- leaf: pc 10
    · simp only [bhd] at hb
      subst hb
      exact hΦ
    · omega
  | succ n ih =>
    intro q hq hn hb
    refine r_iload_n 3 dX1_behindFigures_2 rfl rfl ?_
    refine r_aload_n 4 dX1_behindFigures_3 rfl rfl ?_
    refine r_getI 7 dX1_behindFigures_4 rfl kf_1_15 rfl (by first | assumption | omega) (by assumption) ?_
    rotate_left -- leaf: pc 7
    rw [reT_s]
    refine r_icmp_ge 28 10 dX1_behindFigures_7 (by decide) rfl (fun c_7 => ?_) (fun c_7 => ?_)
    rotate_left -- leaf: pc 28
    refine r_aload_n 11 dX1_behindFigures_10 rfl rfl ?_
    refine r_getR 14 dX1_behindFigures_11 rfl kf_1_11 rfl (by first | assumption | omega) (by assumption) (by assumption) ?_
    refine r_iload_n 15 dX1_behindFigures_14 rfl rfl ?_
    first | refine r_bald 16 dX1_behindFigures_15 rfl (by first | assumption | omega) (by assumption) (by first | omega | (simp only [Int.toNat_natCast]; omega)) (by first | omega | (simp only [Int.toNat_natCast]; omega)) ?_ | refine r_zald 16 dX1_behindFigures_15 rfl (by first | assumption | omega) (by assumption) (by first | omega | (simp only [Int.toNat_natCast]; omega)) (by first | omega | (simp only [Int.toNat_natCast]; omega)) ?_
    rotate_left -- leaf: call at pc 16
    · omega
    rw [Int.toNat_natCast, reT_n (by omega)]
    simp only [bhd] at hb
    refine r_cs1 19 dX1_behindFigures_16 rfl ks_1_135 rfl rfl (c_isFigure (h (t + 1) q)) ?_
    rintro r1 h' ⟨rfl, rfl⟩
    refine r_if_eq 28 22 dX1_behindFigures_19 (by decide) rfl (fun c_19 => ?_) (fun c_19 => ?_)
    refine r_iload_n 29 dX1_behindFigures_28 rfl rfl ?_
    refine r_iret dX1_behindFigures_29 rfl ?_
    rotate_left -- leaf: return at pc 29
    refine r_iinc 25 _ dX1_behindFigures_22 rfl rfl rfl rfl (by first | exact w32_id (by omega) (by omega) | rfl) ?_
    refine r_goto 2 dX1_behindFigures_25 (by decide) ?_
    rotate_left -- leaf: pc 2
    · rw [if_neg (z01_n.mp c_19)] at hb
      subst hb
      exact hΦ
    · rw [if_pos (z01_y.mp c_19)] at hb
      exact ih (q + 1) (by omega) (by omega) hb
theorem c_behindFigures (ly : LTp G t) (w : wR r (h (t + 1))) (q : Nat) (hq : q ≤ 160) : Ca l G 1 mX1_behindFigures [vR t, vI q] (reT h t r) (fun r' h' => r' = some (vI (bhd fiB (h (t + 1)) ((r 1).toNat - q) q)) ∧ h' = reT h t r) := by
  refine Ca.of (by decide) (Nat.le_of_ble_eq_true rfl) (fun hI hv hH => ?_)
  refine r_iload_n 1 dX1_behindFigures_0 rfl rfl ?_
  refine r_istore_n 2 dX1_behindFigures_1 rfl rfl rfl ?_
  rotate_left -- leaf: pc 2
  exact l_behindFigures (l := l) ly w (q : Int) (Φ := fun r' h' => r' = some (vI (bhd fiB (h (t + 1)) ((r 1).toNat - q) q)) ∧ h' = reT h t r) ⟨rfl, rfl⟩ _ q hq rfl rfl
theorem l_numberOf (ly : LTp G t) (w : wR r (h (t + 1))) (hle : r 5 ≤ r 6) {Φ : Option zV → zH → Prop} (hΦ : Φ (some (vI (nmF (h (t + 1)) (r 5).toNat ((r 6).toNat - (r 5).toNat)))) (reT h t r)) : ∀ (n j : Nat), j + n = (r 6).toNat - (r 5).toNat → Rr l G 0 mX1_numberOfToken Φ 7 [some (vR t), some (vI (nmF (h (t + 1)) (r 5).toNat j)), some (vI (((r 5).toNat + j : Nat) : Int))] [] (reT h t r) := by
  obtain ⟨⟨n0, n1⟩, ⟨s0, s1⟩, r0, l1⟩ := ly
  obtain ⟨w1, w2, w3, w4⟩ := w
  intro n
  induction n with
  | zero =>
    intro j hj
    refine r_iload_n 8 dX1_numberOfToken_7 rfl rfl ?_
    refine r_aload_n 9 dX1_numberOfToken_8 rfl rfl ?_
    refine r_getI 12 dX1_numberOfToken_9 rfl kf_1_30 rfl (by first | assumption | omega) (by assumption) ?_
    rotate_left -- leaf: pc 12
    rw [reT_s]
    refine r_icmp_ge 36 15 dX1_numberOfToken_12 (by decide) rfl (fun c_12 => ?_) (fun c_12 => ?_)
    refine r_iload_n 37 dX1_numberOfToken_36 rfl rfl ?_
    refine r_iret dX1_numberOfToken_37 rfl ?_
    rotate_left -- leaf: return at pc 37
    rotate_left -- leaf: pc 15
    · rw [show j = (r 6).toNat - (r 5).toNat by omega]
      exact hΦ
    · omega
  | succ n ih =>
    intro j hj
    have ih := ih (j + 1) (by omega)
    refine r_iload_n 8 dX1_numberOfToken_7 rfl rfl ?_
    refine r_aload_n 9 dX1_numberOfToken_8 rfl rfl ?_
    refine r_getI 12 dX1_numberOfToken_9 rfl kf_1_30 rfl (by first | assumption | omega) (by assumption) ?_
    rotate_left -- leaf: pc 12
    rw [reT_s]
    refine r_icmp_ge 36 15 dX1_numberOfToken_12 (by decide) rfl (fun c_12 => ?_) (fun c_12 => ?_)
    rotate_left -- leaf: pc 36
    refine r_bipush 17 dX1_numberOfToken_15 rfl rfl (by decide) ?_
    refine r_iload_n 18 dX1_numberOfToken_17 rfl rfl ?_
    rotate_left -- leaf: pc 18
    · omega
    refine r_imul 19 dX1_numberOfToken_18 rfl rfl ?_
    refine r_aload_n 20 dX1_numberOfToken_19 rfl rfl ?_
    refine r_getR 23 dX1_numberOfToken_20 rfl kf_1_11 rfl (by first | assumption | omega) (by assumption) (by assumption) ?_
    refine r_iload_n 24 dX1_numberOfToken_23 rfl rfl ?_
    first | refine r_bald 25 dX1_numberOfToken_24 rfl (by first | assumption | omega) (by assumption) (by first | omega | (simp only [Int.toNat_natCast]; omega)) (by first | omega | (simp only [Int.toNat_natCast]; omega)) ?_ | refine r_zald 25 dX1_numberOfToken_24 rfl (by first | assumption | omega) (by assumption) (by first | omega | (simp only [Int.toNat_natCast]; omega)) (by first | omega | (simp only [Int.toNat_natCast]; omega)) ?_
    rotate_left -- leaf: pc 25
    rw [Int.toNat_natCast, reT_n (by omega)]
    refine r_iadd 26 dX1_numberOfToken_25 rfl rfl ?_
    refine r_bipush 28 dX1_numberOfToken_26 rfl rfl (by decide) ?_
    rotate_left -- leaf: pc 28
    refine r_isub 29 dX1_numberOfToken_28 rfl rfl ?_
    refine r_istore_n 30 dX1_numberOfToken_29 rfl rfl rfl ?_
    refine r_iinc 33 _ dX1_numberOfToken_30 rfl rfl rfl rfl (by first | exact w32_id (by omega) (by omega) | rfl) ?_
    refine r_goto 7 dX1_numberOfToken_33 (by decide) ?_
    rotate_left -- leaf: pc 7
    exact ih
theorem c_numberOf (ly : LTp G t) (w : wR r (h (t + 1))) (hle : r 5 ≤ r 6) : Ca l G 0 mX1_numberOfToken [vR t] (reT h t r) (fun r' h' => r' = some (vI (nmF (h (t + 1)) (r 5).toNat ((r 6).toNat - (r 5).toNat))) ∧ h' = reT h t r) := by
  have ly0 := ly
  have w0 := w
  obtain ⟨⟨n0, n1⟩, ⟨s0, s1⟩, r0, l1⟩ := ly
  obtain ⟨w1, w2, w3, w4⟩ := w
  refine Ca.of (by decide) (Nat.le_of_ble_eq_true rfl) (fun hI hv hH => ?_)
  refine r_iconst 1 dX1_numberOfToken_0 rfl rfl ?_
  refine r_istore_n 2 dX1_numberOfToken_1 rfl rfl rfl ?_
  refine r_aload_n 3 dX1_numberOfToken_2 rfl rfl ?_
  refine r_getI 6 dX1_numberOfToken_3 rfl kf_1_65 rfl (by first | assumption | omega) (by assumption) ?_
  rotate_left -- leaf: pc 6
  rw [reT_s]
  refine r_istore_n 7 dX1_numberOfToken_6 rfl rfl rfl ?_
  rotate_left -- leaf: pc 7
  have := l_numberOf (l := l) ly0 w0 hle (Φ := fun r' h' => r' = some (vI (nmF (h (t + 1)) (r 5).toNat ((r 6).toNat - (r 5).toNat))) ∧ h' = reT h t r) ⟨rfl, rfl⟩ ((r 6).toNat - (r 5).toNat) 0 (by omega)
  rw [show ((((r 5).toNat + 0 : Nat)) : Int) = r 5 by omega] at this
  exact this
def nPl (r by_ : Nat → Int) : Nat := bhd blB by_ ((r 1).toNat - (r 6).toNat) (r 6).toNat
def nTk (r by_ : Nat → Int) : Int := if by_ (nPl r by_) = 59 then 3 else if leB (by_ (nPl r by_)) = true then 1 else if fiB (by_ (nPl r by_)) = true then 2 else r 4
def nEn (r by_ : Nat → Int) : Nat := if by_ (nPl r by_) = 59 then nPl r by_ + 1 else if leB (by_ (nPl r by_)) = true then bhd leB by_ ((r 1).toNat - nPl r by_) (nPl r by_) else if fiB (by_ (nPl r by_)) = true then bhd fiB by_ ((r 1).toNat - nPl r by_) (nPl r by_) else nPl r by_
def nNu (r by_ : Nat → Int) : Int := if by_ (nPl r by_) = 59 then r 7 else if leB (by_ (nPl r by_)) = true then r 7 else if fiB (by_ (nPl r by_)) = true then nmF by_ (nPl r by_) (nEn r by_ - nPl r by_) else r 7
def nBd (r by_ : Nat → Int) : Bool := decide (nEn r by_ = nPl r by_ ∨ (nTk r by_ = 2 ∧ nPl r by_ + 2 < nEn r by_))
def nxR (r by_ : Nat → Int) : Nat → Int := if (r 1).toNat ≤ nPl r by_ then up1 (up1 (up1 r 5 (nPl r by_)) 6 (nPl r by_)) 4 0 else fun b => if b = 2 then (if nBd r by_ = true then 1 else r 2) else if b = 3 then (if nBd r by_ = true then (nPl r by_ : Int) else r 3) else if b = 4 then nTk r by_ else if b = 5 then (nPl r by_ : Int) else if b = 6 then (nEn r by_ : Int) else if b = 7 then nNu r by_ else r b
theorem nPl_in {r by_ : Nat → Int} (h1 : 0 ≤ r 1 ∧ r 1 ≤ 160) (h6 : 0 ≤ r 6 ∧ r 6 ≤ 160) : (r 6).toNat ≤ nPl r by_ ∧ nPl r by_ ≤ 160 := by
  have := bhd_in blB by_ ((r 1).toNat - (r 6).toNat) (r 6).toNat
  unfold nPl
  omega
theorem c_next (ly : LTp G t) (w : wR r (h (t + 1))) : Ca l G 2 mX1_next [vR t] (reT h t r) (fun r' h' => r' = none ∧ h' = reT h t (nxR r (h (t + 1)))) := by
  have ly0 := ly
  have w0 := w
  obtain ⟨⟨n0, n1⟩, ⟨s0, s1⟩, r0, l1⟩ := ly
  obtain ⟨w1, w2, w3, w4⟩ := w
  have hpl := nPl_in (by_ := h (t + 1)) w1 w3
  refine Ca.of (by decide) (Nat.le_of_ble_eq_true rfl) (fun hI hv hH => ?_)
  refine r_aload_n 1 dX1_next_0 rfl rfl ?_
  refine r_aload_n 2 dX1_next_1 rfl rfl ?_
  refine r_aload_n 3 dX1_next_2 rfl rfl ?_
  refine r_getI 6 dX1_next_3 rfl kf_1_30 rfl (by first | assumption | omega) (by assumption) ?_
  rotate_left -- leaf: pc 6
  rw [reT_s, show r 6 = (((r 6).toNat : Nat) : Int) by omega]
  refine r_cv1 9 dX1_next_6 rfl kv_1_125 (by first | assumption | omega) (by assumption) rfl rfl (c_behindBlanks ly0 w0 (r 6).toNat (by omega)) ?_
  rintro r1 h' ⟨rfl, rfl⟩
  have epl : bhd blB (h (t + 1)) ((r 1).toNat - (r 6).toNat) (r 6).toNat = nPl r (h (t + 1)) := rfl
  rw [epl]
  obtain ⟨pl, hpd⟩ : ∃ pl, pl = nPl r (h (t + 1)) := ⟨_, rfl⟩
  rw [← hpd] at hpl ⊢
  refine r_putI 12 dX1_next_9 rfl kf_1_65 rfl rfl (Or.inl rfl) (by first | assumption | omega) (by assumption) ?_
  refine r_aload_n 13 dX1_next_12 rfl rfl ?_
  refine r_aload_n 14 dX1_next_13 rfl rfl ?_
  refine r_getI 17 dX1_next_14 rfl kf_1_65 rfl (by first | assumption | omega) (by assumption) ?_
  rotate_left -- leaf: pc 17
  rw [reT_up, reT_s, up1_s]
  refine r_putI 20 dX1_next_17 rfl kf_1_30 rfl rfl (Or.inl rfl) (by first | assumption | omega) (by assumption) ?_
  refine r_aload_n 21 dX1_next_20 rfl rfl ?_
  refine r_getI 24 dX1_next_21 rfl kf_1_65 rfl (by first | assumption | omega) (by assumption) ?_
  rotate_left -- leaf: pc 24
  rw [reT_up, reT_s, up1_n (by decide), up1_s]
  refine r_aload_n 25 dX1_next_24 rfl rfl ?_
  refine r_getI 28 dX1_next_25 rfl kf_1_15 rfl (by first | assumption | omega) (by assumption) ?_
  rotate_left -- leaf: pc 28
  rw [reT_s, up1_n (by decide), up1_n (by decide)]
  obtain ⟨r2, hr2⟩ : ∃ r2, r2 = up1 (up1 r 5 pl) 6 pl := ⟨_, rfl⟩
  rw [← hr2]
  have e1 : r2 1 = r 1 := by rw [hr2, up1_n (by decide), up1_n (by decide)]
  have e5 : r2 5 = pl := by rw [hr2, up1_n (by decide), up1_s]
  have e6 : r2 6 = pl := by rw [hr2, up1_s]
  have J130 : ∀ (tk nu : Int) (en : Nat) (x1 : Int), en ≤ 161 → pl ≤ en → tk = nTk r (h (t + 1)) → en = nEn r (h (t + 1)) → nu = nNu r (h (t + 1)) → ¬ (r 1).toNat ≤ pl → Rr l G 2 mX1_next (fun r' h' => r' = none ∧ h' = reT h t (nxR r (h (t + 1)))) 130 [some (vR t), some (vI x1), none] [] (reT h t (up1 (up1 (up1 r2 4 tk) 6 en) 7 nu)) := by
    intro tk nu en x1 h161 hpe htk hen hnu hlt
    have f5 : up1 (up1 (up1 r2 4 tk) 6 en) 7 nu 5 = pl := by rw [up1_n (by decide), up1_n (by decide), up1_n (by decide), e5]
    have f6 : up1 (up1 (up1 r2 4 tk) 6 en) 7 nu 6 = en := by rw [up1_n (by decide), up1_s]
    have f4 : up1 (up1 (up1 r2 4 tk) 6 en) 7 nu 4 = tk := by rw [up1_n (by decide), up1_n (by decide), up1_s]
    have good : nBd r (h (t + 1)) = false → reT h t (up1 (up1 (up1 r2 4 tk) 6 en) 7 nu) = reT h t (nxR r (h (t + 1))) := by
      intro hb
      congr 1
      funext b
      simp only [nxR, ← hpd, if_neg hlt, hb, ← htk, ← hen, ← hnu, up1, hr2]
      by_cases b2 : b = 2
      · subst b2; simp
      by_cases b3 : b = 3
      · subst b3; simp
      by_cases b4 : b = 4
      · subst b4; simp
      by_cases b5 : b = 5
      · subst b5; simp
      by_cases b6 : b = 6
      · subst b6; simp
      by_cases b7 : b = 7
      · subst b7; simp
      · simp [b2, b3, b4, b5, b6, b7]
    have bad : nBd r (h (t + 1)) = true → Rr l G 2 mX1_next (fun r' h' => r' = none ∧ h' = reT h t (nxR r (h (t + 1)))) 172 [some (vR t), some (vI x1), some (vI (z01 (en = pl)))] [] (reT h t (up1 (up1 (up1 r2 4 tk) 6 en) 7 nu)) := by
      intro hb
      refine r_aload_n 173 dX1_next_172 rfl rfl ?_
      refine r_iconst 174 dX1_next_173 rfl rfl ?_
      refine r_aload_n 175 dX1_next_174 rfl rfl ?_
      refine r_getI 178 dX1_next_175 rfl kf_1_65 rfl (by first | assumption | omega) (by assumption) ?_
      rotate_left -- leaf: pc 178
      rw [reT_s, f5]
      refine r_cv2 181 dX1_next_178 rfl kv_1_57 (by first | assumption | omega) (by assumption) rfl rfl (c_fail ly0 1 pl) ?_
      rintro r1 h' ⟨rfl, rfl⟩
      refine r_ret dX1_next_181 rfl ?_
      rotate_left -- leaf: return at pc 181
      refine ⟨rfl, ?_⟩
      rw [reT_up, reT_up]
      congr 1
      funext b
      simp only [nxR, ← hpd, if_neg hlt, hb, ← htk, ← hen, ← hnu, up1, hr2]
      by_cases b2 : b = 2
      · subst b2; simp
      by_cases b3 : b = 3
      · subst b3; simp
      by_cases b4 : b = 4
      · subst b4; simp
      by_cases b5 : b = 5
      · subst b5; simp
      by_cases b6 : b = 6
      · subst b6; simp
      by_cases b7 : b = 7
      · subst b7; simp
      · simp [b2, b3, b4, b5, b6, b7]
    have J146 : Rr l G 2 mX1_next (fun r' h' => r' = none ∧ h' = reT h t (nxR r (h (t + 1)))) 146 [some (vR t), some (vI x1), none] [vI (z01 (en = pl))] (reT h t (up1 (up1 (up1 r2 4 tk) 6 en) 7 nu)) := by
      refine r_istore_n 147 dX1_next_146 rfl rfl rfl ?_
      refine r_iload_n 148 dX1_next_147 rfl rfl ?_
      refine r_if_ne 172 151 dX1_next_148 (by decide) rfl (fun c_148 => ?_) (fun c_148 => ?_)
      rotate_left -- leaf: pc 172
      refine r_aload_n 152 dX1_next_151 rfl rfl ?_
      refine r_getI 155 dX1_next_152 rfl kf_1_47 rfl (by first | assumption | omega) (by assumption) ?_
      rotate_left -- leaf: pc 155
      · refine bad ?_
        have := z01_y.mp c_148
        simp only [nBd, ← hpd, ← htk, ← hen]
        simp [this]
      · have hne := z01_n.mp c_148
        rw [reT_s, f4]
        refine r_iconst 156 dX1_next_155 rfl rfl ?_
        refine r_icmp_ne 181 159 dX1_next_156 (by decide) rfl (fun c_156 => ?_) (fun c_156 => ?_)
        rotate_left -- leaf: pc 181
        refine r_aload_n 160 dX1_next_159 rfl rfl ?_
        refine r_getI 163 dX1_next_160 rfl kf_1_30 rfl (by first | assumption | omega) (by assumption) ?_
        rotate_left -- leaf: pc 163
        · refine r_ret dX1_next_181 rfl ?_
          rotate_left -- leaf: return at pc 181
          refine ⟨rfl, good ?_⟩
          simp only [nBd, ← hpd, ← htk, ← hen]
          simp [hne, c_156]
        · rw [reT_s, f6]
          refine r_aload_n 164 dX1_next_163 rfl rfl ?_
          refine r_getI 167 dX1_next_164 rfl kf_1_65 rfl (by first | assumption | omega) (by assumption) ?_
          rotate_left -- leaf: pc 167
          rw [reT_s, f5]
          refine r_isub 168 dX1_next_167 rfl (by first | exact w32_id (by omega) (by omega) | rfl) ?_
          refine r_iconst 169 dX1_next_168 rfl rfl ?_
          refine r_icmp_le 181 172 dX1_next_169 (by decide) rfl (fun c_169 => ?_) (fun c_169 => ?_)
          rotate_left -- leaf: pc 181
          rotate_left -- leaf: pc 172
          · refine r_ret dX1_next_181 rfl ?_
            rotate_left -- leaf: return at pc 181
            refine ⟨rfl, good ?_⟩
            simp only [nBd, ← hpd, ← htk, ← hen]
            simp [hne]
            omega
          · refine bad ?_
            simp only [nBd, ← hpd, ← htk, ← hen]
            simp [c_156]
            omega
    refine r_aload_n 131 dX1_next_130 rfl rfl ?_
    refine r_getI 134 dX1_next_131 rfl kf_1_30 rfl (by first | assumption | omega) (by assumption) ?_
    rotate_left -- leaf: pc 134
    rw [reT_s, f6]
    refine r_aload_n 135 dX1_next_134 rfl rfl ?_
    refine r_getI 138 dX1_next_135 rfl kf_1_65 rfl (by first | assumption | omega) (by assumption) ?_
    rotate_left -- leaf: pc 138
    rw [reT_s, f5]
    refine r_icmp_ne 145 141 dX1_next_138 (by decide) rfl (fun c_138 => ?_) (fun c_138 => ?_)
    refine r_iconst 146 dX1_next_145 rfl rfl ?_
    rotate_left -- leaf: pc 146
    refine r_iconst 142 dX1_next_141 rfl rfl ?_
    refine r_goto 146 dX1_next_142 (by decide) ?_
    rotate_left -- leaf: pc 146
    · have := J146
      rw [z01_f (by omega)] at this
      exact this
    · have := J146
      rw [z01_t (by omega)] at this
      exact this
  refine r_icmp_lt 37 31 dX1_next_28 (by decide) rfl (fun c_28 => ?_) (fun c_28 => ?_)
  rotate_left -- leaf: pc 37
  refine r_aload_n 32 dX1_next_31 rfl rfl ?_
  refine r_iconst 33 dX1_next_32 rfl rfl ?_
  refine r_putI 36 dX1_next_33 rfl kf_1_47 rfl rfl (Or.inl rfl) (by first | assumption | omega) (by assumption) ?_
  refine r_ret dX1_next_36 rfl ?_
  rotate_left -- leaf: return at pc 36
  · have hlt : ¬ (r 1).toNat ≤ pl := by omega
    refine r_aload_n 38 dX1_next_37 rfl rfl ?_
    refine r_getR 41 dX1_next_38 rfl kf_1_11 rfl (by first | assumption | omega) (by assumption) (by assumption) ?_
    refine r_aload_n 42 dX1_next_41 rfl rfl ?_
    refine r_getI 45 dX1_next_42 rfl kf_1_65 rfl (by first | assumption | omega) (by assumption) ?_
    rotate_left -- leaf: pc 45
    rw [reT_s, e5]
    first | refine r_bald 46 dX1_next_45 rfl (by first | assumption | omega) (by assumption) (by first | omega | (simp only [Int.toNat_natCast]; omega)) (by first | omega | (simp only [Int.toNat_natCast]; omega)) ?_ | refine r_zald 46 dX1_next_45 rfl (by first | assumption | omega) (by assumption) (by first | omega | (simp only [Int.toNat_natCast]; omega)) (by first | omega | (simp only [Int.toNat_natCast]; omega)) ?_
    rotate_left -- leaf: pc 46
    rw [Int.toNat_natCast, reT_n (by omega)]
    have hc := w4 pl
    refine r_istore_n 47 dX1_next_46 rfl rfl rfl ?_
    refine r_iload_n 48 dX1_next_47 rfl rfl ?_
    refine r_bipush 50 dX1_next_48 rfl rfl (by decide) ?_
    refine r_icmp_ne 71 53 dX1_next_50 (by decide) rfl (fun c_50 => ?_) (fun c_50 => ?_)
    rotate_left -- leaf: pc 71
    rotate_left -- leaf: pc 53
    · -- no ';'
      refine r_iload_n 72 dX1_next_71 rfl rfl ?_
      rotate_left -- leaf: call at pc 72
      refine r_cs1 75 dX1_next_72 rfl ks_1_129 rfl rfl (c_isLetter (h (t + 1) pl)) ?_
      rintro r1 h' ⟨rfl, rfl⟩
      refine r_if_eq 98 78 dX1_next_75 (by decide) rfl (fun c_75 => ?_) (fun c_75 => ?_)
      rotate_left -- leaf: pc 98
      rotate_left -- leaf: pc 78
      · have hnl := z01_n.mp c_75
        refine r_iload_n 99 dX1_next_98 rfl rfl ?_
        rotate_left -- leaf: call at pc 99
        refine r_cs1 102 dX1_next_99 rfl ks_1_135 rfl rfl (c_isFigure (h (t + 1) pl)) ?_
        rintro r1 h' ⟨rfl, rfl⟩
        refine r_if_eq 130 105 dX1_next_102 (by decide) rfl (fun c_102 => ?_) (fun c_102 => ?_)
        rotate_left -- leaf: pc 130
        rotate_left -- leaf: pc 105
        · have hnf := z01_n.mp c_102
          have := J130 (r2 4) (r2 7) pl (h (t + 1) pl) (by omega) (Nat.le_refl _) (by simp [nTk, ← hpd, c_50, hnl, hnf, hr2, up1]) (by simp [nEn, ← hpd, c_50, hnl, hnf]) (by simp [nNu, ← hpd, c_50, hnl, hnf, hr2, up1]) hlt
          have ee : up1 (up1 (up1 r2 4 (r2 4)) 6 pl) 7 (r2 7) = r2 := by
            funext b
            by_cases b4 : b = 4
            · subst b4; simp [up1]
            by_cases b6 : b = 6
            · subst b6; simp [up1, e6]
            by_cases b7 : b = 7
            · subst b7; simp [up1]
            · simp [up1, b4, b6, b7]
          rw [ee] at this
          exact this
        · have hf := z01_y.mp c_102
          refine r_aload_n 106 dX1_next_105 rfl rfl ?_
          refine r_iconst 107 dX1_next_106 rfl rfl ?_
          refine r_putI 110 dX1_next_107 rfl kf_1_47 rfl rfl (Or.inl rfl) (by first | assumption | omega) (by assumption) ?_
          refine r_aload_n 111 dX1_next_110 rfl rfl ?_
          refine r_aload_n 112 dX1_next_111 rfl rfl ?_
          refine r_aload_n 113 dX1_next_112 rfl rfl ?_
          refine r_getI 116 dX1_next_113 rfl kf_1_65 rfl (by first | assumption | omega) (by assumption) ?_
          rotate_left -- leaf: pc 116
          rw [reT_up, reT_s, up1_n (by decide), e5]
          have wr3 : wR (up1 r2 4 2) (h (t + 1)) := by
            refine ⟨by rw [up1_n (by decide), e1]; exact w1, by rw [up1_n (by decide), e5]; omega, by rw [up1_n (by decide), e6]; omega, w4⟩
          refine r_cv1 119 dX1_next_116 rfl kv_1_138 (by first | assumption | omega) (by assumption) rfl rfl (c_behindFigures ly0 wr3 pl (by omega)) ?_
          rintro r1 h' ⟨rfl, rfl⟩
          rw [up1_n (by decide), e1]
          have hbi := bhd_in fiB (h (t + 1)) ((r 1).toNat - pl) pl
          obtain ⟨en, hen⟩ : ∃ en, en = bhd fiB (h (t + 1)) ((r 1).toNat - pl) pl := ⟨_, rfl⟩
          rw [← hen] at hbi ⊢
          have wr4 : wR (up1 (up1 r2 4 2) 6 en) (h (t + 1)) := by
            refine ⟨by rw [up1_n (by decide), up1_n (by decide), e1]; exact w1, by rw [up1_n (by decide), up1_n (by decide), e5]; omega, by rw [up1_s]; omega, w4⟩
          have q5 : up1 (up1 r2 4 2) 6 en 5 = pl := by rw [up1_n (by decide), up1_n (by decide), e5]
          have q6 : up1 (up1 r2 4 2) 6 en 6 = en := by rw [up1_s]
          refine r_putI 122 dX1_next_119 rfl kf_1_30 rfl rfl (Or.inl rfl) (by first | assumption | omega) (by assumption) ?_
          refine r_aload_n 123 dX1_next_122 rfl rfl ?_
          refine r_aload_n 124 dX1_next_123 rfl rfl ?_
          rotate_left -- leaf: call at pc 124
          rw [reT_up]
          refine r_cv0 127 dX1_next_124 rfl kv_1_141 (by first | assumption | omega) (by assumption) rfl rfl (c_numberOf ly0 wr4 (by rw [q5, q6]; omega)) ?_
          rintro r1 h' ⟨rfl, rfl⟩
          rw [q5, q6, Int.toNat_natCast, Int.toNat_natCast]
          refine r_putI 130 dX1_next_127 rfl kf_1_101 rfl rfl (Or.inl rfl) (by first | assumption | omega) (by assumption) ?_
          rotate_left -- leaf: pc 130
          rw [reT_up]
          have hE : en = nEn r (h (t + 1)) := by simp [nEn, ← hpd, c_50, hnl, hf, hen]
          exact J130 2 _ en _ (by omega) (by omega) (by simp [nTk, ← hpd, c_50, hnl, hf]) hE (by simp [nNu, ← hpd, c_50, hnl, hf, ← hE]) hlt
      · have hl := z01_y.mp c_75
        refine r_aload_n 79 dX1_next_78 rfl rfl ?_
        refine r_iconst 80 dX1_next_79 rfl rfl ?_
        refine r_putI 83 dX1_next_80 rfl kf_1_47 rfl rfl (Or.inl rfl) (by first | assumption | omega) (by assumption) ?_
        refine r_aload_n 84 dX1_next_83 rfl rfl ?_
        refine r_aload_n 85 dX1_next_84 rfl rfl ?_
        refine r_aload_n 86 dX1_next_85 rfl rfl ?_
        refine r_getI 89 dX1_next_86 rfl kf_1_65 rfl (by first | assumption | omega) (by assumption) ?_
        rotate_left -- leaf: pc 89
        rw [reT_up, reT_s, up1_n (by decide), e5]
        have wr3 : wR (up1 r2 4 1) (h (t + 1)) := by
          refine ⟨by rw [up1_n (by decide), e1]; exact w1, by rw [up1_n (by decide), e5]; omega, by rw [up1_n (by decide), e6]; omega, w4⟩
        refine r_cv1 92 dX1_next_89 rfl kv_1_132 (by first | assumption | omega) (by assumption) rfl rfl (c_behindLetters ly0 wr3 pl (by omega)) ?_
        rintro r1 h' ⟨rfl, rfl⟩
        rw [up1_n (by decide), e1]
        have hbi := bhd_in leB (h (t + 1)) ((r 1).toNat - pl) pl
        obtain ⟨en, hen⟩ : ∃ en, en = bhd leB (h (t + 1)) ((r 1).toNat - pl) pl := ⟨_, rfl⟩
        rw [← hen] at hbi ⊢
        refine r_putI 95 dX1_next_92 rfl kf_1_30 rfl rfl (Or.inl rfl) (by first | assumption | omega) (by assumption) ?_
        refine r_goto 130 dX1_next_95 (by decide) ?_
        rotate_left -- leaf: pc 130
        rw [reT_up]
        have := J130 1 (r2 7) en (h (t + 1) pl) (by omega) (by omega) (by simp [nTk, ← hpd, c_50, hl]) (by simp [nEn, ← hpd, c_50, hl, hen]) (by simp [nNu, ← hpd, c_50, hl, hr2, up1]) hlt
        have ee : up1 (up1 (up1 r2 4 1) 6 en) 7 (r2 7) = up1 (up1 r2 4 1) 6 en := by
          funext b
          by_cases b7 : b = 7
          · subst b7; simp [up1]
          · simp [up1, b7]
        rw [ee] at this
        exact this
    · refine r_aload_n 54 dX1_next_53 rfl rfl ?_
      refine r_iconst 55 dX1_next_54 rfl rfl ?_
      refine r_putI 58 dX1_next_55 rfl kf_1_47 rfl rfl (Or.inl rfl) (by first | assumption | omega) (by assumption) ?_
      refine r_aload_n 59 dX1_next_58 rfl rfl ?_
      refine r_aload_n 60 dX1_next_59 rfl rfl ?_
      refine r_getI 63 dX1_next_60 rfl kf_1_65 rfl (by first | assumption | omega) (by assumption) ?_
      rotate_left -- leaf: pc 63
      rw [reT_up, reT_s, up1_n (by decide), e5]
      refine r_iconst 64 dX1_next_63 rfl rfl ?_
      refine r_iadd 65 dX1_next_64 rfl (by first | exact w32_id (by omega) (by omega) | rfl) ?_
      refine r_putI 68 dX1_next_65 rfl kf_1_30 rfl rfl (Or.inl rfl) (by first | assumption | omega) (by assumption) ?_
      refine r_goto 130 dX1_next_68 (by decide) ?_
      rotate_left -- leaf: pc 130
      rw [reT_up]
      have := J130 3 (r2 7) (pl + 1) (h (t + 1) pl) (by omega) (by omega) (by simp [nTk, ← hpd, c_50]) (by simp [nEn, ← hpd, c_50]) (by simp [nNu, ← hpd, c_50, hr2, up1]) hlt
      have ee : up1 (up1 (up1 r2 4 3) 6 ((pl + 1 : Nat) : Int)) 7 (r2 7) = up1 (up1 r2 4 3) 6 ((pl : Int) + 1) := by
        funext b
        by_cases b7 : b = 7
        · subst b7; simp [up1]
        · simp [up1, b7]
      rw [ee] at this
      exact this
  · refine ⟨rfl, ?_⟩
    rw [reT_up]
    congr 1
    unfold nxR
    rw [← hpd, if_pos (by omega), hr2]
end TP
end
