section
-- ===== PART A: goes FIRST, ahead of the names: the tables' words, and 'selects' of the private methods out of them =====
/-- a private method of a class that the tables say can be made, by its rows of tables_1 -/
def lw_okq (q : MethodName × Nat) : Prop := (q.1.cls ≠ "java/lang/invoke/MethodHandle" ∧ q.1.cls ≠ "java/lang/invoke/VarHandle") ∧ Cond.instantiable q.1.cls q.2 ∈ tables_1 ∧ Cond.privateMethod q.1 ∈ tables_1 ∧ Cond.instanceMethod q.1 ∈ tables_1
theorem lw_p0 : lw_okq (⟨"UnderText$Work", "seekFault", "(LUnderText$Tape;I)V"⟩, 4) := ⟨⟨by decide +kernel, by decide +kernel⟩, List.mem_of_getElem? (i := 45) (by decide +kernel), List.mem_of_getElem? (i := 276) (by decide +kernel), List.mem_of_getElem? (i := 277) (by decide +kernel)⟩
theorem lw_p1 : lw_okq (⟨"UnderText", "isSpot", "(III)Z"⟩, 8) := ⟨⟨by decide +kernel, by decide +kernel⟩, List.mem_of_getElem? (i := 16) (by decide +kernel), List.mem_of_getElem? (i := 313) (by decide +kernel), List.mem_of_getElem? (i := 314) (by decide +kernel)⟩
theorem lw_p2 : lw_okq (⟨"UnderText$Scale", "rowOf", "(II)[I"⟩, 5) := ⟨⟨by decide +kernel, by decide +kernel⟩, List.mem_of_getElem? (i := 39) (by decide +kernel), List.mem_of_getElem? (i := 351) (by decide +kernel), List.mem_of_getElem? (i := 352) (by decide +kernel)⟩
theorem lw_p3 : lw_okq (⟨"UnderText$Scale", "fillRow", "([ILUnderText$Half;I)V"⟩, 5) := ⟨⟨by decide +kernel, by decide +kernel⟩, List.mem_of_getElem? (i := 39) (by decide +kernel), List.mem_of_getElem? (i := 356) (by decide +kernel), List.mem_of_getElem? (i := 357) (by decide +kernel)⟩
theorem lw_p4 : lw_okq (⟨"UnderText$Scale", "addSpot", "([III)V"⟩, 5) := ⟨⟨by decide +kernel, by decide +kernel⟩, List.mem_of_getElem? (i := 39) (by decide +kernel), List.mem_of_getElem? (i := 365) (by decide +kernel), List.mem_of_getElem? (i := 366) (by decide +kernel)⟩
theorem lw_p5 : lw_okq (⟨"UnderText$Scale", "tryWay", "(II)V"⟩, 5) := ⟨⟨by decide +kernel, by decide +kernel⟩, List.mem_of_getElem? (i := 39) (by decide +kernel), List.mem_of_getElem? (i := 397) (by decide +kernel), List.mem_of_getElem? (i := 398) (by decide +kernel)⟩
theorem lw_p6 : lw_okq (⟨"UnderText$Scale", "mayLie", "(II)Z"⟩, 5) := ⟨⟨by decide +kernel, by decide +kernel⟩, List.mem_of_getElem? (i := 39) (by decide +kernel), List.mem_of_getElem? (i := 401) (by decide +kernel), List.mem_of_getElem? (i := 402) (by decide +kernel)⟩
theorem lw_p7 : lw_okq (⟨"UnderText$Pairing", "settleSet", "(II)V"⟩, 4) := ⟨⟨by decide +kernel, by decide +kernel⟩, List.mem_of_getElem? (i := 181) (by decide +kernel), List.mem_of_getElem? (i := 432) (by decide +kernel), List.mem_of_getElem? (i := 433) (by decide +kernel)⟩
theorem lw_p8 : lw_okq (⟨"UnderText$Book", "addLeaf", "(LUnderText$Scale;II)V"⟩, 5) := ⟨⟨by decide +kernel, by decide +kernel⟩, List.mem_of_getElem? (i := 201) (by decide +kernel), List.mem_of_getElem? (i := 460) (by decide +kernel), List.mem_of_getElem? (i := 461) (by decide +kernel)⟩
theorem lw_p9 : lw_okq (⟨"UnderText$Scale", "placesUpTo", "(LUnderText$Leaf;)I"⟩, 5) := ⟨⟨by decide +kernel, by decide +kernel⟩, List.mem_of_getElem? (i := 39) (by decide +kernel), List.mem_of_getElem? (i := 469) (by decide +kernel), List.mem_of_getElem? (i := 470) (by decide +kernel)⟩
theorem lw_p10 : lw_okq (⟨"UnderText$Book", "keepLists", "(LUnderText$Halves;)V"⟩, 5) := ⟨⟨by decide +kernel, by decide +kernel⟩, List.mem_of_getElem? (i := 201) (by decide +kernel), List.mem_of_getElem? (i := 474) (by decide +kernel), List.mem_of_getElem? (i := 475) (by decide +kernel)⟩
theorem lw_p11 : lw_okq (⟨"UnderText$Book", "putInOrder", "()V"⟩, 5) := ⟨⟨by decide +kernel, by decide +kernel⟩, List.mem_of_getElem? (i := 201) (by decide +kernel), List.mem_of_getElem? (i := 481) (by decide +kernel), List.mem_of_getElem? (i := 482) (by decide +kernel)⟩
theorem lw_p12 : lw_okq (⟨"UnderText$Book", "hasNext", "(I)Z"⟩, 5) := ⟨⟨by decide +kernel, by decide +kernel⟩, List.mem_of_getElem? (i := 201) (by decide +kernel), List.mem_of_getElem? (i := 505) (by decide +kernel), List.mem_of_getElem? (i := 506) (by decide +kernel)⟩
theorem lw_p13 : lw_okq (⟨"UnderText$Book", "clashesBehind", "(I)Z"⟩, 5) := ⟨⟨by decide +kernel, by decide +kernel⟩, List.mem_of_getElem? (i := 201) (by decide +kernel), List.mem_of_getElem? (i := 509) (by decide +kernel), List.mem_of_getElem? (i := 510) (by decide +kernel)⟩
theorem lw_p14 : lw_okq (⟨"UnderText$Book", "gapBehind", "(I)I"⟩, 5) := ⟨⟨by decide +kernel, by decide +kernel⟩, List.mem_of_getElem? (i := 201) (by decide +kernel), List.mem_of_getElem? (i := 513) (by decide +kernel), List.mem_of_getElem? (i := 514) (by decide +kernel)⟩
theorem lw_p15 : lw_okq (⟨"UnderTextModel", "spotAt", "(III)I"⟩, 32) := ⟨⟨by decide +kernel, by decide +kernel⟩, List.mem_of_getElem? (i := 555) (by decide +kernel), List.mem_of_getElem? (i := 680) (by decide +kernel), List.mem_of_getElem? (i := 681) (by decide +kernel)⟩
def lw_privs_1 : List (MethodName × Nat) := [(⟨"UnderText$Work", "seekFault", "(LUnderText$Tape;I)V"⟩, 4), (⟨"UnderText", "isSpot", "(III)Z"⟩, 8), (⟨"UnderText$Scale", "rowOf", "(II)[I"⟩, 5), (⟨"UnderText$Scale", "fillRow", "([ILUnderText$Half;I)V"⟩, 5), (⟨"UnderText$Scale", "addSpot", "([III)V"⟩, 5), (⟨"UnderText$Scale", "tryWay", "(II)V"⟩, 5), (⟨"UnderText$Scale", "mayLie", "(II)Z"⟩, 5), (⟨"UnderText$Pairing", "settleSet", "(II)V"⟩, 4), (⟨"UnderText$Book", "addLeaf", "(LUnderText$Scale;II)V"⟩, 5), (⟨"UnderText$Scale", "placesUpTo", "(LUnderText$Leaf;)I"⟩, 5), (⟨"UnderText$Book", "keepLists", "(LUnderText$Halves;)V"⟩, 5), (⟨"UnderText$Book", "putInOrder", "()V"⟩, 5), (⟨"UnderText$Book", "hasNext", "(I)Z"⟩, 5), (⟨"UnderText$Book", "clashesBehind", "(I)Z"⟩, 5), (⟨"UnderText$Book", "gapBehind", "(I)I"⟩, 5), (⟨"UnderTextModel", "spotAt", "(III)I"⟩, 32)]
theorem lw_r1 : ∀ q ∈ lw_privs_1, lw_okq q := List.forall_mem_cons.mpr ⟨lw_p0, List.forall_mem_cons.mpr ⟨lw_p1, List.forall_mem_cons.mpr ⟨lw_p2, List.forall_mem_cons.mpr ⟨lw_p3, List.forall_mem_cons.mpr ⟨lw_p4, List.forall_mem_cons.mpr ⟨lw_p5, List.forall_mem_cons.mpr ⟨lw_p6, List.forall_mem_cons.mpr ⟨lw_p7, List.forall_mem_cons.mpr ⟨lw_p8, List.forall_mem_cons.mpr ⟨lw_p9, List.forall_mem_cons.mpr ⟨lw_p10, List.forall_mem_cons.mpr ⟨lw_p11, List.forall_mem_cons.mpr ⟨lw_p12, List.forall_mem_cons.mpr ⟨lw_p13, List.forall_mem_cons.mpr ⟨lw_p14, List.forall_mem_cons.mpr ⟨lw_p15, fun _ h => absurd h List.not_mem_nil⟩⟩⟩⟩⟩⟩⟩⟩⟩⟩⟩⟩⟩⟩⟩⟩
theorem lw_p16 : lw_okq (⟨"UnderTextModel", "isHalf", "(I)Z"⟩, 32) := ⟨⟨by decide +kernel, by decide +kernel⟩, List.mem_of_getElem? (i := 555) (by decide +kernel), List.mem_of_getElem? (i := 684) (by decide +kernel), List.mem_of_getElem? (i := 685) (by decide +kernel)⟩
theorem lw_p17 : lw_okq (⟨"UnderTextModel", "places", "()I"⟩, 32) := ⟨⟨by decide +kernel, by decide +kernel⟩, List.mem_of_getElem? (i := 555) (by decide +kernel), List.mem_of_getElem? (i := 696) (by decide +kernel), List.mem_of_getElem? (i := 697) (by decide +kernel)⟩
theorem lw_p18 : lw_okq (⟨"UnderTextModel", "quarrelsOf", "(III)I"⟩, 32) := ⟨⟨by decide +kernel, by decide +kernel⟩, List.mem_of_getElem? (i := 555) (by decide +kernel), List.mem_of_getElem? (i := 700) (by decide +kernel), List.mem_of_getElem? (i := 701) (by decide +kernel)⟩
theorem lw_p19 : lw_okq (⟨"UnderTextModel", "letterAt", "(III)I"⟩, 32) := ⟨⟨by decide +kernel, by decide +kernel⟩, List.mem_of_getElem? (i := 555) (by decide +kernel), List.mem_of_getElem? (i := 704) (by decide +kernel), List.mem_of_getElem? (i := 705) (by decide +kernel)⟩
theorem lw_p20 : lw_okq (⟨"UnderTextModel", "bests", "(II)Z"⟩, 32) := ⟨⟨by decide +kernel, by decide +kernel⟩, List.mem_of_getElem? (i := 555) (by decide +kernel), List.mem_of_getElem? (i := 712) (by decide +kernel), List.mem_of_getElem? (i := 713) (by decide +kernel)⟩
theorem lw_p21 : lw_okq (⟨"UnderTextModel", "tries", "(II)V"⟩, 32) := ⟨⟨by decide +kernel, by decide +kernel⟩, List.mem_of_getElem? (i := 555) (by decide +kernel), List.mem_of_getElem? (i := 718) (by decide +kernel), List.mem_of_getElem? (i := 719) (by decide +kernel)⟩
theorem lw_p22 : lw_okq (⟨"UnderTextModel", "canBe", "(II)Z"⟩, 32) := ⟨⟨by decide +kernel, by decide +kernel⟩, List.mem_of_getElem? (i := 555) (by decide +kernel), List.mem_of_getElem? (i := 722) (by decide +kernel), List.mem_of_getElem? (i := 723) (by decide +kernel)⟩
theorem lw_p23 : lw_okq (⟨"UnderTextModel", "both", "(III)I"⟩, 32) := ⟨⟨by decide +kernel, by decide +kernel⟩, List.mem_of_getElem? (i := 555) (by decide +kernel), List.mem_of_getElem? (i := 726) (by decide +kernel), List.mem_of_getElem? (i := 727) (by decide +kernel)⟩
theorem lw_p24 : lw_okq (⟨"UnderTextModel", "leaves", "()V"⟩, 32) := ⟨⟨by decide +kernel, by decide +kernel⟩, List.mem_of_getElem? (i := 555) (by decide +kernel), List.mem_of_getElem? (i := 742) (by decide +kernel), List.mem_of_getElem? (i := 743) (by decide +kernel)⟩
theorem lw_p25 : lw_okq (⟨"UnderTextModel", "comes", "()V"⟩, 32) := ⟨⟨by decide +kernel, by decide +kernel⟩, List.mem_of_getElem? (i := 555) (by decide +kernel), List.mem_of_getElem? (i := 746) (by decide +kernel), List.mem_of_getElem? (i := 747) (by decide +kernel)⟩
theorem lw_p26 : lw_okq (⟨"UnderTextModel", "orders", "()V"⟩, 32) := ⟨⟨by decide +kernel, by decide +kernel⟩, List.mem_of_getElem? (i := 555) (by decide +kernel), List.mem_of_getElem? (i := 750) (by decide +kernel), List.mem_of_getElem? (i := 751) (by decide +kernel)⟩
theorem lw_p27 : lw_okq (⟨"UnderTextModel", "lostBehind", "(I)I"⟩, 32) := ⟨⟨by decide +kernel, by decide +kernel⟩, List.mem_of_getElem? (i := 555) (by decide +kernel), List.mem_of_getElem? (i := 762) (by decide +kernel), List.mem_of_getElem? (i := 763) (by decide +kernel)⟩
theorem lw_p28 : lw_okq (⟨"UnderTextModel", "between", "(I)I"⟩, 32) := ⟨⟨by decide +kernel, by decide +kernel⟩, List.mem_of_getElem? (i := 555) (by decide +kernel), List.mem_of_getElem? (i := 766) (by decide +kernel), List.mem_of_getElem? (i := 767) (by decide +kernel)⟩
theorem lw_p29 : lw_okq (⟨"UnderTextModel", "breaks", "(I)Z"⟩, 32) := ⟨⟨by decide +kernel, by decide +kernel⟩, List.mem_of_getElem? (i := 555) (by decide +kernel), List.mem_of_getElem? (i := 770) (by decide +kernel), List.mem_of_getElem? (i := 771) (by decide +kernel)⟩
theorem lw_p30 : lw_okq (⟨"UnderTextModel", "sideOf", "(I)I"⟩, 32) := ⟨⟨by decide +kernel, by decide +kernel⟩, List.mem_of_getElem? (i := 555) (by decide +kernel), List.mem_of_getElem? (i := 774) (by decide +kernel), List.mem_of_getElem? (i := 775) (by decide +kernel)⟩
def lw_privs_2 : List (MethodName × Nat) := [(⟨"UnderTextModel", "isHalf", "(I)Z"⟩, 32), (⟨"UnderTextModel", "places", "()I"⟩, 32), (⟨"UnderTextModel", "quarrelsOf", "(III)I"⟩, 32), (⟨"UnderTextModel", "letterAt", "(III)I"⟩, 32), (⟨"UnderTextModel", "bests", "(II)Z"⟩, 32), (⟨"UnderTextModel", "tries", "(II)V"⟩, 32), (⟨"UnderTextModel", "canBe", "(II)Z"⟩, 32), (⟨"UnderTextModel", "both", "(III)I"⟩, 32), (⟨"UnderTextModel", "leaves", "()V"⟩, 32), (⟨"UnderTextModel", "comes", "()V"⟩, 32), (⟨"UnderTextModel", "orders", "()V"⟩, 32), (⟨"UnderTextModel", "lostBehind", "(I)I"⟩, 32), (⟨"UnderTextModel", "between", "(I)I"⟩, 32), (⟨"UnderTextModel", "breaks", "(I)Z"⟩, 32), (⟨"UnderTextModel", "sideOf", "(I)I"⟩, 32)]
theorem lw_r2 : ∀ q ∈ lw_privs_2, lw_okq q := List.forall_mem_cons.mpr ⟨lw_p16, List.forall_mem_cons.mpr ⟨lw_p17, List.forall_mem_cons.mpr ⟨lw_p18, List.forall_mem_cons.mpr ⟨lw_p19, List.forall_mem_cons.mpr ⟨lw_p20, List.forall_mem_cons.mpr ⟨lw_p21, List.forall_mem_cons.mpr ⟨lw_p22, List.forall_mem_cons.mpr ⟨lw_p23, List.forall_mem_cons.mpr ⟨lw_p24, List.forall_mem_cons.mpr ⟨lw_p25, List.forall_mem_cons.mpr ⟨lw_p26, List.forall_mem_cons.mpr ⟨lw_p27, List.forall_mem_cons.mpr ⟨lw_p28, List.forall_mem_cons.mpr ⟨lw_p29, List.forall_mem_cons.mpr ⟨lw_p30, fun _ h => absurd h List.not_mem_nil⟩⟩⟩⟩⟩⟩⟩⟩⟩⟩⟩⟩⟩⟩⟩
def lw_privs : List (MethodName × Nat) := lw_privs_1 ++ (lw_privs_2)
def lw_tbl : List Cond := k2_sels lw_privs ++ tables_1
theorem lw_privs_ok : ∀ q ∈ lw_privs, lw_okq q := by
  show ∀ q ∈ lw_privs_1 ++ (lw_privs_2), lw_okq q
  exact List.forall_mem_append.mpr ⟨lw_r1, lw_r2⟩
end
section
/-! ===== BEGIN printed: names, fields, word lists, decode rows ===== -/
def RX0 : String := "UnderText$Book"
def TX0 : u_T := fun k => match k with
  | 0 => ("UnderText$Book", "leaves", "[LUnderText$Leaf;", true)
  | 1 => ("UnderText$Book", "order", "[I", true)
  | 2 => ("UnderText$Book", "leafOf", "[I", true)
  | 3 => ("UnderText$Book", "lists", "[[I", true)
  | _ => ("UnderText$Book", "size", "I", false)
def tyX0 : Nat → FieldType := fun k => match k with
  | 0 => .array (.object "UnderText$Leaf")
  | 1 => .array .int
  | 2 => .array .int
  | 3 => .array (.array .int)
  | _ => .int
abbrev wsX00 : List Cond := u_ws RX0 TX0 5
theorem nmX0 : ∀ a, a < 5 → ∀ b, b < 5 → a ≠ b → (TX0 a).2.1 ≠ (TX0 b).2.1 := by decide +kernel
theorem tyX0_ok : ∀ k, k < 5 → parseFieldDescriptor (TX0 k).2.2.1 = some (tyX0 k) := by decide +kernel
abbrev cX0_init : ByteArray := prog_2_method_1_code
def yX0_init : MethodName := ⟨RX0, "<init>", "()V"⟩
abbrev cX0_clear : ByteArray := prog_2_method_2_code
def yX0_clear : MethodName := ⟨RX0, "clear", "()V"⟩
abbrev cX0_has : ByteArray := prog_2_method_3_code
def yX0_has : MethodName := ⟨RX0, "has", "(I)Z"⟩
abbrev cX0_keep : ByteArray := prog_2_method_4_code
def yX0_keep : MethodName := ⟨RX0, "keep", "(LUnderText$Scale;LUnderText$Pairing;LUnderText$Halves;)V"⟩
abbrev cX0_addLeaf : ByteArray := prog_2_method_5_code
def yX0_addLeaf : MethodName := ⟨RX0, "addLeaf", "(LUnderText$Scale;II)V"⟩
abbrev cX0_keepLists : ByteArray := prog_2_method_6_code
def yX0_keepLists : MethodName := ⟨RX0, "keepLists", "(LUnderText$Halves;)V"⟩
abbrev cX0_putInOrder : ByteArray := prog_2_method_7_code
def yX0_putInOrder : MethodName := ⟨RX0, "putInOrder", "()V"⟩
abbrev cX0_hasNext : ByteArray := prog_2_method_8_code
def yX0_hasNext : MethodName := ⟨RX0, "hasNext", "(I)Z"⟩
abbrev cX0_gapBehind : ByteArray := prog_2_method_9_code
def yX0_gapBehind : MethodName := ⟨RX0, "gapBehind", "(I)I"⟩
abbrev cX0_clashesBehind : ByteArray := prog_2_method_10_code
def yX0_clashesBehind : MethodName := ⟨RX0, "clashesBehind", "(I)Z"⟩
abbrev cX0_lostBehind : ByteArray := prog_2_method_11_code
def yX0_lostBehind : MethodName := ⟨RX0, "lostBehind", "(I)I"⟩
abbrev cX0_breaksBehind : ByteArray := prog_2_method_12_code
def yX0_breaksBehind : MethodName := ⟨RX0, "breaksBehind", "(I)Z"⟩
abbrev cX0_allQuarrels : ByteArray := prog_2_method_13_code
def yX0_allQuarrels : MethodName := ⟨RX0, "allQuarrels", "()I"⟩
abbrev cX0_clashes : ByteArray := prog_2_method_14_code
def yX0_clashes : MethodName := ⟨RX0, "clashes", "()I"⟩
abbrev cX0_breaks : ByteArray := prog_2_method_15_code
def yX0_breaks : MethodName := ⟨RX0, "breaks", "()I"⟩
abbrev cX0_allLost : ByteArray := prog_2_method_16_code
def yX0_allLost : MethodName := ⟨RX0, "allLost", "()I"⟩
def RX1 : String := "UnderText$Half"
def TX1 : u_T := fun k => match k with
  | 0 => ("UnderText$Half", "part", "I", false)
  | 1 => ("UnderText$Half", "side", "I", false)
  | 2 => ("UnderText$Half", "ruling", "I", false)
  | _ => ("UnderText$Half", "lists", "[I", true)
def tyX1 : Nat → FieldType := fun k => match k with
  | 0 => .int
  | 1 => .int
  | 2 => .int
  | _ => .array .int
abbrev wsX10 : List Cond := u_ws RX1 TX1 4
theorem nmX1 : ∀ a, a < 4 → ∀ b, b < 4 → a ≠ b → (TX1 a).2.1 ≠ (TX1 b).2.1 := by decide +kernel
theorem tyX1_ok : ∀ k, k < 4 → parseFieldDescriptor (TX1 k).2.2.1 = some (tyX1 k) := by decide +kernel
abbrev cX1_init : ByteArray := prog_3_method_1_code
def yX1_init : MethodName := ⟨RX1, "<init>", "()V"⟩
abbrev cX1_mayLieAs : ByteArray := prog_3_method_2_code
def yX1_mayLieAs : MethodName := ⟨RX1, "mayLieAs", "(I)Z"⟩
abbrev cX1_isLike : ByteArray := prog_3_method_3_code
def yX1_isLike : MethodName := ⟨RX1, "isLike", "(LUnderText$Half;)Z"⟩
def RX2 : String := "UnderText$Halves"
def TX2 : u_T := fun k => match k with
  | 0 => ("UnderText$Halves", "all", "[LUnderText$Half;", true)
  | _ => ("UnderText$Halves", "size", "I", false)
def tyX2 : Nat → FieldType := fun k => match k with
  | 0 => .array (.object "UnderText$Half")
  | _ => .int
abbrev wsX20 : List Cond := u_ws RX2 TX2 2
theorem nmX2 : ∀ a, a < 2 → ∀ b, b < 2 → a ≠ b → (TX2 a).2.1 ≠ (TX2 b).2.1 := by decide +kernel
theorem tyX2_ok : ∀ k, k < 2 → parseFieldDescriptor (TX2 k).2.2.1 = some (tyX2 k) := by decide +kernel
abbrev cX2_init : ByteArray := prog_4_method_1_code
def yX2_init : MethodName := ⟨RX2, "<init>", "()V"⟩
abbrev cX2_has : ByteArray := prog_4_method_2_code
def yX2_has : MethodName := ⟨RX2, "has", "(I)Z"⟩
abbrev cX2_add : ByteArray := prog_4_method_3_code
def yX2_add : MethodName := ⟨RX2, "add", "(III)I"⟩
def RX3 : String := "UnderText$Leaf"
def TX3 : u_T := fun k => match k with
  | 0 => ("UnderText$Leaf", "upper", "I", false)
  | 1 => ("UnderText$Leaf", "lower", "I", false)
  | 2 => ("UnderText$Leaf", "place", "I", false)
  | 3 => ("UnderText$Leaf", "quarrels", "I", false)
  | 4 => ("UnderText$Leaf", "chance", "I", false)
  | 5 => ("UnderText$Leaf", "places", "I", false)
  | _ => ("UnderText$Leaf", "frontSide", "I", false)
def tyX3 : Nat → FieldType := fun k => match k with
  | 0 => .int
  | 1 => .int
  | 2 => .int
  | 3 => .int
  | 4 => .int
  | 5 => .int
  | _ => .int
abbrev wsX30 : List Cond := u_ws RX3 TX3 7
theorem nmX3 : ∀ a, a < 7 → ∀ b, b < 7 → a ≠ b → (TX3 a).2.1 ≠ (TX3 b).2.1 := by decide +kernel
theorem tyX3_ok : ∀ k, k < 7 → parseFieldDescriptor (TX3 k).2.2.1 = some (tyX3 k) := by decide +kernel
abbrev cX3_init : ByteArray := prog_5_method_1_code
def yX3_init : MethodName := ⟨RX3, "<init>", "()V"⟩
abbrev cX3_lie : ByteArray := prog_5_method_2_code
def yX3_lie : MethodName := ⟨RX3, "lie", "(IIII)V"⟩
abbrev cX3_partOf : ByteArray := prog_5_method_3_code
def yX3_partOf : MethodName := ⟨RX3, "partOf", "(I)I"⟩
def RX4 : String := "UnderText$Pairing"
def TX4 : u_T := fun k => match k with
  | 0 => ("UnderText$Pairing", "costs", "[[I", true)
  | 1 => ("UnderText$Pairing", "least", "[I", true)
  | 2 => ("UnderText$Pairing", "mates", "[I", true)
  | _ => ("UnderText$Pairing", "whole", "I", false)
def tyX4 : Nat → FieldType := fun k => match k with
  | 0 => .array (.array .int)
  | 1 => .array .int
  | 2 => .array .int
  | _ => .int
abbrev wsX40 : List Cond := u_ws RX4 TX4 4
theorem nmX4 : ∀ a, a < 4 → ∀ b, b < 4 → a ≠ b → (TX4 a).2.1 ≠ (TX4 b).2.1 := by decide +kernel
theorem tyX4_ok : ∀ k, k < 4 → parseFieldDescriptor (TX4 k).2.2.1 = some (tyX4 k) := by decide +kernel
abbrev cX4_init : ByteArray := prog_6_method_1_code
def yX4_init : MethodName := ⟨RX4, "<init>", "()V"⟩
abbrev cX4_settle : ByteArray := prog_6_method_2_code
def yX4_settle : MethodName := ⟨RX4, "settle", "(LUnderText$Scale;II)V"⟩
abbrev cX4_settleSet : ByteArray := prog_6_method_3_code
def yX4_settleSet : MethodName := ⟨RX4, "settleSet", "(II)V"⟩
abbrev cX4_wholeSet : ByteArray := prog_6_method_4_code
def yX4_wholeSet : MethodName := ⟨RX4, "wholeSet", "()I"⟩
abbrev cX4_sum : ByteArray := prog_6_method_5_code
def yX4_sum : MethodName := ⟨RX4, "sum", "()I"⟩
abbrev cX4_mateOfFirst : ByteArray := prog_6_method_6_code
def yX4_mateOfFirst : MethodName := ⟨RX4, "mateOfFirst", "(I)I"⟩
abbrev cX4_firstOf : ByteArray := prog_6_method_7_code
def yX4_firstOf : MethodName := ⟨RX4, "firstOf", "(I)I"⟩
abbrev cX4_isIn : ByteArray := prog_6_method_8_code
def yX4_isIn : MethodName := ⟨RX4, "isIn", "(II)Z"⟩
abbrev cX4_without : ByteArray := prog_6_method_9_code
def yX4_without : MethodName := ⟨RX4, "without", "(III)I"⟩
def RX5 : String := "UnderText$Scale"
def TX5 : u_T := fun k => match k with
  | 0 => ("UnderText$Scale", "work", "LUnderText$Work;", true)
  | 1 => ("UnderText$Scale", "halves", "LUnderText$Halves;", true)
  | 2 => ("UnderText$Scale", "found", "LUnderText$Leaf;", true)
  | 3 => ("UnderText$Scale", "rows", "[[I", true)
  | _ => ("UnderText$Scale", "rowOfNoHalf", "[I", true)
def tyX5 : Nat → FieldType := fun k => match k with
  | 0 => .object "UnderText$Work"
  | 1 => .object "UnderText$Halves"
  | 2 => .object "UnderText$Leaf"
  | 3 => .array (.array .int)
  | _ => .array .int
abbrev wsX50 : List Cond := u_ws RX5 TX5 5
theorem nmX5 : ∀ a, a < 5 → ∀ b, b < 5 → a ≠ b → (TX5 a).2.1 ≠ (TX5 b).2.1 := by decide +kernel
theorem tyX5_ok : ∀ k, k < 5 → parseFieldDescriptor (TX5 k).2.2.1 = some (tyX5 k) := by decide +kernel
abbrev cX5_init : ByteArray := prog_7_method_1_code
def yX5_init : MethodName := ⟨RX5, "<init>", "()V"⟩
abbrev cX5_weighAll : ByteArray := prog_7_method_2_code
def yX5_weighAll : MethodName := ⟨RX5, "weighAll", "()V"⟩
abbrev cX5_weigh : ByteArray := prog_7_method_3_code
def yX5_weigh : MethodName := ⟨RX5, "weigh", "(I)V"⟩
abbrev cX5_fillRow : ByteArray := prog_7_method_4_code
def yX5_fillRow : MethodName := ⟨RX5, "fillRow", "([ILUnderText$Half;I)V"⟩
abbrev cX5_addSpot : ByteArray := prog_7_method_5_code
def yX5_addSpot : MethodName := ⟨RX5, "addSpot", "([III)V"⟩
abbrev cX5_rowOf : ByteArray := prog_7_method_6_code
def yX5_rowOf : MethodName := ⟨RX5, "rowOf", "(II)[I"⟩
abbrev cX5_quarrelsAs : ByteArray := prog_7_method_7_code
def yX5_quarrelsAs : MethodName := ⟨RX5, "quarrelsAs", "(III)I"⟩
abbrev cX5_seekBest : ByteArray := prog_7_method_8_code
def yX5_seekBest : MethodName := ⟨RX5, "seekBest", "(II)Z"⟩
abbrev cX5_tryWay : ByteArray := prog_7_method_9_code
def yX5_tryWay : MethodName := ⟨RX5, "tryWay", "(II)V"⟩
abbrev cX5_mayLie : ByteArray := prog_7_method_10_code
def yX5_mayLie : MethodName := ⟨RX5, "mayLie", "(II)Z"⟩
abbrev cX5_copyFoundTo : ByteArray := prog_7_method_11_code
def yX5_copyFoundTo : MethodName := ⟨RX5, "copyFoundTo", "(LUnderText$Leaf;)V"⟩
abbrev cX5_placesUpTo : ByteArray := prog_7_method_12_code
def yX5_placesUpTo : MethodName := ⟨RX5, "placesUpTo", "(LUnderText$Leaf;)I"⟩
def RX6 : String := "UnderText$Tape"
def TX6 : u_T := fun k => match k with
  | 0 => ("UnderText$Tape", "bytes", "[I", true)
  | _ => ("UnderText$Tape", "size", "I", false)
def tyX6 : Nat → FieldType := fun k => match k with
  | 0 => .array .int
  | _ => .int
abbrev wsX60 : List Cond := u_ws RX6 TX6 2
theorem nmX6 : ∀ a, a < 2 → ∀ b, b < 2 → a ≠ b → (TX6 a).2.1 ≠ (TX6 b).2.1 := by decide +kernel
theorem tyX6_ok : ∀ k, k < 2 → parseFieldDescriptor (TX6 k).2.2.1 = some (tyX6 k) := by decide +kernel
abbrev cX6_init : ByteArray := prog_8_method_1_code
def yX6_init : MethodName := ⟨RX6, "<init>", "()V"⟩
abbrev cX6_put : ByteArray := prog_8_method_2_code
def yX6_put : MethodName := ⟨RX6, "put", "(I)V"⟩
abbrev cX6_byteAt : ByteArray := prog_8_method_3_code
def yX6_byteAt : MethodName := ⟨RX6, "byteAt", "(I)I"⟩
def RX7 : String := "UnderText$Work"
def TX7 : u_T := fun k => match k with
  | 0 => ("UnderText$Work", "letters", "[I", true)
  | 1 => ("UnderText$Work", "size", "I", false)
  | 2 => ("UnderText$Work", "fault", "I", false)
  | _ => ("UnderText$Work", "faultPlace", "I", false)
def tyX7 : Nat → FieldType := fun k => match k with
  | 0 => .array .int
  | 1 => .int
  | 2 => .int
  | _ => .int
abbrev wsX70 : List Cond := u_ws RX7 TX7 4
theorem nmX7 : ∀ a, a < 4 → ∀ b, b < 4 → a ≠ b → (TX7 a).2.1 ≠ (TX7 b).2.1 := by decide +kernel
theorem tyX7_ok : ∀ k, k < 4 → parseFieldDescriptor (TX7 k).2.2.1 = some (tyX7 k) := by decide +kernel
abbrev cX7_init : ByteArray := prog_9_method_1_code
def yX7_init : MethodName := ⟨RX7, "<init>", "()V"⟩
abbrev cX7_read : ByteArray := prog_9_method_2_code
def yX7_read : MethodName := ⟨RX7, "read", "(LUnderText$Tape;I)Z"⟩
abbrev cX7_seekFault : ByteArray := prog_9_method_3_code
def yX7_seekFault : MethodName := ⟨RX7, "seekFault", "(LUnderText$Tape;I)V"⟩
abbrev cX7_isLetter : ByteArray := prog_9_method_4_code
def yX7_isLetter : MethodName := ⟨RX7, "isLetter", "(I)Z"⟩
abbrev cX7_letterAt : ByteArray := prog_9_method_5_code
def yX7_letterAt : MethodName := ⟨RX7, "letterAt", "(I)I"⟩
abbrev cX7_places : ByteArray := prog_9_method_6_code
def yX7_places : MethodName := ⟨RX7, "places", "()I"⟩
def RX8 : String := "UnderText"
def TX8 : u_T := fun k => match k with
  | 0 => ("UnderText", "tape", "LUnderText$Tape;", true)
  | 1 => ("UnderText", "scale", "LUnderText$Scale;", true)
  | 2 => ("UnderText", "text", "LUnderText$Work;", true)
  | 3 => ("UnderText", "halves", "LUnderText$Halves;", true)
  | 4 => ("UnderText", "pairing", "LUnderText$Pairing;", true)
  | 5 => ("UnderText", "joined", "LUnderText$Book;", true)
  | 6 => ("UnderText", "atOdds", "I", false)
  | _ => ("UnderText", "leafPrice", "I", false)
def tyX8 : Nat → FieldType := fun k => match k with
  | 0 => .object "UnderText$Tape"
  | 1 => .object "UnderText$Scale"
  | 2 => .object "UnderText$Work"
  | 3 => .object "UnderText$Halves"
  | 4 => .object "UnderText$Pairing"
  | 5 => .object "UnderText$Book"
  | 6 => .int
  | _ => .int
abbrev wsX80 : List Cond := u_ws RX8 TX8 8
theorem nmX8 : ∀ a, a < 8 → ∀ b, b < 8 → a ≠ b → (TX8 a).2.1 ≠ (TX8 b).2.1 := by decide +kernel
theorem tyX8_ok : ∀ k, k < 8 → parseFieldDescriptor (TX8 k).2.2.1 = some (tyX8 k) := by decide +kernel
abbrev cX8_init : ByteArray := prog_1_method_1_code
def yX8_init : MethodName := ⟨RX8, "<init>", "()V"⟩
abbrev cX8_feed : ByteArray := prog_1_method_2_code
def yX8_feed : MethodName := ⟨RX8, "feed", "(IIIII)I"⟩
abbrev cX8_work : ByteArray := prog_1_method_3_code
def yX8_work : MethodName := ⟨RX8, "work", "(I)I"⟩
abbrev cX8_fault : ByteArray := prog_1_method_4_code
def yX8_fault : MethodName := ⟨RX8, "fault", "(I)I"⟩
abbrev cX8_half : ByteArray := prog_1_method_5_code
def yX8_half : MethodName := ⟨RX8, "half", "(III)I"⟩
abbrev cX8_light : ByteArray := prog_1_method_6_code
def yX8_light : MethodName := ⟨RX8, "light", "(IIII)I"⟩
abbrev cX8_list : ByteArray := prog_1_method_7_code
def yX8_list : MethodName := ⟨RX8, "list", "(III)I"⟩
abbrev cX8_quarrels : ByteArray := prog_1_method_8_code
def yX8_quarrels : MethodName := ⟨RX8, "quarrels", "(III)I"⟩
abbrev cX8_best : ByteArray := prog_1_method_9_code
def yX8_best : MethodName := ⟨RX8, "best", "(III)I"⟩
abbrev cX8_price : ByteArray := prog_1_method_10_code
def yX8_price : MethodName := ⟨RX8, "price", "(I)Z"⟩
abbrev cX8_join : ByteArray := prog_1_method_11_code
def yX8_join : MethodName := ⟨RX8, "join", "()I"⟩
abbrev cX8_leaf : ByteArray := prog_1_method_12_code
def yX8_leaf : MethodName := ⟨RX8, "leaf", "(II)I"⟩
abbrev cX8_book : ByteArray := prog_1_method_13_code
def yX8_book : MethodName := ⟨RX8, "book", "(II)I"⟩
abbrev cX8_led : ByteArray := prog_1_method_14_code
def yX8_led : MethodName := ⟨RX8, "led", "(III)I"⟩
abbrev cX8_count : ByteArray := prog_1_method_15_code
def yX8_count : MethodName := ⟨RX8, "count", "(I)I"⟩
abbrev cX8_isSpot : ByteArray := prog_1_method_16_code
def yX8_isSpot : MethodName := ⟨RX8, "isSpot", "(III)Z"⟩
abbrev cX8_isWithin : ByteArray := prog_1_method_17_code
def yX8_isWithin : MethodName := ⟨RX8, "isWithin", "(II)Z"⟩
abbrev cX8_spotIndex : ByteArray := prog_1_method_18_code
def yX8_spotIndex : MethodName := ⟨RX8, "spotIndex", "(II)I"⟩
abbrev cX8_lettersAhead : ByteArray := prog_1_method_19_code
def yX8_lettersAhead : MethodName := ⟨RX8, "lettersAhead", "(II)I"⟩
abbrev cX8_hasLetter : ByteArray := prog_1_method_20_code
def yX8_hasLetter : MethodName := ⟨RX8, "hasLetter", "(II)Z"⟩
def RX9 : String := "UnderTextModel"
def TX9 : u_T := fun k => match k with
  | 0 => ("UnderTextModel", "thrown", "I", false)
  | 1 => ("UnderTextModel", "tape", "[I", true)
  | 2 => ("UnderTextModel", "taped", "I", false)
  | 3 => ("UnderTextModel", "work", "[I", true)
  | 4 => ("UnderTextModel", "letters", "I", false)
  | 5 => ("UnderTextModel", "faultKind", "I", false)
  | 6 => ("UnderTextModel", "faultPlace", "I", false)
  | 7 => ("UnderTextModel", "halves", "I", false)
  | 8 => ("UnderTextModel", "part", "[I", true)
  | 9 => ("UnderTextModel", "side", "[I", true)
  | 10 => ("UnderTextModel", "ruling", "[I", true)
  | 11 => ("UnderTextModel", "lists", "[I", true)
  | 12 => ("UnderTextModel", "odds", "I", false)
  | 13 => ("UnderTextModel", "leafQuarrels", "I", false)
  | 14 => ("UnderTextModel", "leafPlace", "I", false)
  | 15 => ("UnderTextModel", "leafUpper", "I", false)
  | 16 => ("UnderTextModel", "leafLower", "I", false)
  | 17 => ("UnderTextModel", "price", "I", false)
  | 18 => ("UnderTextModel", "rest", "[I", true)
  | 19 => ("UnderTextModel", "pair", "[I", true)
  | 20 => ("UnderTextModel", "isJoined", "Z", false)
  | 21 => ("UnderTextModel", "joined", "I", false)
  | 22 => ("UnderTextModel", "leafA", "[I", true)
  | 23 => ("UnderTextModel", "leafB", "[I", true)
  | 24 => ("UnderTextModel", "leafAt", "[I", true)
  | 25 => ("UnderTextModel", "leafWorst", "[I", true)
  | 26 => ("UnderTextModel", "leafMany", "[I", true)
  | 27 => ("UnderTextModel", "wasPlaces", "I", false)
  | 28 => ("UnderTextModel", "wasLists", "[I", true)
  | 29 => ("UnderTextModel", "wasLetter", "[I", true)
  | 30 => ("UnderTextModel", "wasIn", "[Z", true)
  | _ => ("UnderTextModel", "bookOrder", "[I", true)
def tyX9 : Nat → FieldType := fun k => match k with
  | 0 => .int
  | 1 => .array .int
  | 2 => .int
  | 3 => .array .int
  | 4 => .int
  | 5 => .int
  | 6 => .int
  | 7 => .int
  | 8 => .array .int
  | 9 => .array .int
  | 10 => .array .int
  | 11 => .array .int
  | 12 => .int
  | 13 => .int
  | 14 => .int
  | 15 => .int
  | 16 => .int
  | 17 => .int
  | 18 => .array .int
  | 19 => .array .int
  | 20 => .boolean
  | 21 => .int
  | 22 => .array .int
  | 23 => .array .int
  | 24 => .array .int
  | 25 => .array .int
  | 26 => .array .int
  | 27 => .int
  | 28 => .array .int
  | 29 => .array .int
  | 30 => .array .boolean
  | _ => .array .int
abbrev wsX90 : List Cond := u_ws RX9 TX9 32
theorem nmX9 : ∀ a, a < 32 → ∀ b, b < 32 → a ≠ b → (TX9 a).2.1 ≠ (TX9 b).2.1 := by decide +kernel
theorem tyX9_ok : ∀ k, k < 32 → parseFieldDescriptor (TX9 k).2.2.1 = some (tyX9 k) := by decide +kernel
abbrev cX9_init : ByteArray := prog_11_method_1_code
def yX9_init : MethodName := ⟨RX9, "<init>", "()V"⟩
abbrev cX9_feed : ByteArray := prog_11_method_3_code
def yX9_feed : MethodName := ⟨RX9, "feed", "(IIIII)I"⟩
abbrev cX9_work : ByteArray := prog_11_method_4_code
def yX9_work : MethodName := ⟨RX9, "work", "(I)I"⟩
abbrev cX9_fault : ByteArray := prog_11_method_5_code
def yX9_fault : MethodName := ⟨RX9, "fault", "(I)I"⟩
abbrev cX9_isHalf : ByteArray := prog_11_method_6_code
def yX9_isHalf : MethodName := ⟨RX9, "isHalf", "(I)Z"⟩
abbrev cX9_half : ByteArray := prog_11_method_7_code
def yX9_half : MethodName := ⟨RX9, "half", "(III)I"⟩
abbrev cX9_spotAt : ByteArray := prog_11_method_8_code
def yX9_spotAt : MethodName := ⟨RX9, "spotAt", "(III)I"⟩
abbrev cX9_light : ByteArray := prog_11_method_9_code
def yX9_light : MethodName := ⟨RX9, "light", "(IIII)I"⟩
abbrev cX9_list : ByteArray := prog_11_method_10_code
def yX9_list : MethodName := ⟨RX9, "list", "(III)I"⟩
abbrev cX9_places : ByteArray := prog_11_method_11_code
def yX9_places : MethodName := ⟨RX9, "places", "()I"⟩
abbrev cX9_letterAt : ByteArray := prog_11_method_12_code
def yX9_letterAt : MethodName := ⟨RX9, "letterAt", "(III)I"⟩
abbrev cX9_quarrelsOf : ByteArray := prog_11_method_13_code
def yX9_quarrelsOf : MethodName := ⟨RX9, "quarrelsOf", "(III)I"⟩
abbrev cX9_quarrels : ByteArray := prog_11_method_14_code
def yX9_quarrels : MethodName := ⟨RX9, "quarrels", "(III)I"⟩
abbrev cX9_canBe : ByteArray := prog_11_method_15_code
def yX9_canBe : MethodName := ⟨RX9, "canBe", "(II)Z"⟩
abbrev cX9_both : ByteArray := prog_11_method_16_code
def yX9_both : MethodName := ⟨RX9, "both", "(III)I"⟩
abbrev cX9_tries : ByteArray := prog_11_method_17_code
def yX9_tries : MethodName := ⟨RX9, "tries", "(II)V"⟩
abbrev cX9_bests : ByteArray := prog_11_method_18_code
def yX9_bests : MethodName := ⟨RX9, "bests", "(II)Z"⟩
abbrev cX9_best : ByteArray := prog_11_method_19_code
def yX9_best : MethodName := ⟨RX9, "best", "(III)I"⟩
abbrev cX9_price : ByteArray := prog_11_method_20_code
def yX9_price : MethodName := ⟨RX9, "price", "(I)Z"⟩
abbrev cX9_first : ByteArray := prog_11_method_21_code
def yX9_first : MethodName := ⟨RX9, "first", "(I)I"⟩
abbrev cX9_join : ByteArray := prog_11_method_22_code
def yX9_join : MethodName := ⟨RX9, "join", "()I"⟩
abbrev cX9_leaves : ByteArray := prog_11_method_23_code
def yX9_leaves : MethodName := ⟨RX9, "leaves", "()V"⟩
abbrev cX9_comes : ByteArray := prog_11_method_24_code
def yX9_comes : MethodName := ⟨RX9, "comes", "()V"⟩
abbrev cX9_orders : ByteArray := prog_11_method_25_code
def yX9_orders : MethodName := ⟨RX9, "orders", "()V"⟩
abbrev cX9_leaf : ByteArray := prog_11_method_26_code
def yX9_leaf : MethodName := ⟨RX9, "leaf", "(II)I"⟩
abbrev cX9_between : ByteArray := prog_11_method_27_code
def yX9_between : MethodName := ⟨RX9, "between", "(I)I"⟩
abbrev cX9_lostBehind : ByteArray := prog_11_method_28_code
def yX9_lostBehind : MethodName := ⟨RX9, "lostBehind", "(I)I"⟩
abbrev cX9_sideOf : ByteArray := prog_11_method_29_code
def yX9_sideOf : MethodName := ⟨RX9, "sideOf", "(I)I"⟩
abbrev cX9_breaks : ByteArray := prog_11_method_30_code
def yX9_breaks : MethodName := ⟨RX9, "breaks", "(I)Z"⟩
abbrev cX9_book : ByteArray := prog_11_method_31_code
def yX9_book : MethodName := ⟨RX9, "book", "(II)I"⟩
abbrev cX9_led : ByteArray := prog_11_method_32_code
def yX9_led : MethodName := ⟨RX9, "led", "(III)I"⟩
abbrev cX9_count : ByteArray := prog_11_method_33_code
def yX9_count : MethodName := ⟨RX9, "count", "(I)I"⟩
def RJ6 : String := "java/lang/Integer"
def TJ6 : u_T := fun k => match k with
  | _ => ("", "", "", false)
def tyJ6 : Nat → FieldType := fun k => match k with
  | _ => .int
abbrev wsJ60 : List Cond := u_ws RJ6 TJ6 0
theorem nmJ6 : ∀ a, a < 0 → ∀ b, b < 0 → a ≠ b → (TJ6 a).2.1 ≠ (TJ6 b).2.1 := by decide +kernel
theorem tyJ6_ok : ∀ k, k < 0 → parseFieldDescriptor (TJ6 k).2.2.1 = some (tyJ6 k) := by decide +kernel
abbrev cJ6_bitCount_0f7a4 : ByteArray := prog_12_method_49_code
def yJ6_bitCount_0f7a4 : MethodName := ⟨RJ6, "bitCount", "(I)I"⟩
def RJ9 : String := "java/lang/Math"
def TJ9 : u_T := fun k => match k with
  | _ => ("", "", "", false)
def tyJ9 : Nat → FieldType := fun k => match k with
  | _ => .int
abbrev wsJ90 : List Cond := u_ws RJ9 TJ9 0
theorem nmJ9 : ∀ a, a < 0 → ∀ b, b < 0 → a ≠ b → (TJ9 a).2.1 ≠ (TJ9 b).2.1 := by decide +kernel
theorem tyJ9_ok : ∀ k, k < 0 → parseFieldDescriptor (TJ9 k).2.2.1 = some (tyJ9 k) := by decide +kernel
abbrev cJ9_max_7cf53 : ByteArray := prog_13_method_65_code
def yJ9_max_7cf53 : MethodName := ⟨RJ9, "max", "(II)I"⟩
abbrev cJ9_min_7cf53 : ByteArray := prog_13_method_69_code
def yJ9_min_7cf53 : MethodName := ⟨RJ9, "min", "(II)I"⟩
def RJ10 : String := "java/lang/System"
def TJ10 : u_T := fun k => match k with
  | _ => ("", "", "", false)
def tyJ10 : Nat → FieldType := fun k => match k with
  | _ => .int
abbrev wsJ100 : List Cond := u_ws RJ10 TJ10 0
theorem nmJ10 : ∀ a, a < 0 → ∀ b, b < 0 → a ≠ b → (TJ10 a).2.1 ≠ (TJ10 b).2.1 := by decide +kernel
theorem tyJ10_ok : ∀ k, k < 0 → parseFieldDescriptor (TJ10 k).2.2.1 = some (tyJ10 k) := by decide +kernel
def RJ7 : String := "java/util/Arrays"
def TJ7 : u_T := fun k => match k with
  | _ => ("", "", "", false)
def tyJ7 : Nat → FieldType := fun k => match k with
  | _ => .int
abbrev wsJ70 : List Cond := u_ws RJ7 TJ7 0
theorem nmJ7 : ∀ a, a < 0 → ∀ b, b < 0 → a ≠ b → (TJ7 a).2.1 ≠ (TJ7 b).2.1 := by decide +kernel
theorem tyJ7_ok : ∀ k, k < 0 → parseFieldDescriptor (TJ7 k).2.2.1 = some (tyJ7 k) := by decide +kernel
abbrev cJ7_fill_53178 : ByteArray := prog_15_method_103_code
def yJ7_fill_53178 : MethodName := ⟨RJ7, "fill", "([II)V"⟩
def RL : String := "UnderTextLaw"
abbrev cL_law : ByteArray := code
def yL_law : MethodName := ⟨RL, "law", "([I)Z"⟩
abbrev vwCl : List vw_C := [(RX0, TX0, 5), (RX1, TX1, 4), (RX2, TX2, 2), (RX3, TX3, 7), (RX4, TX4, 4), (RX5, TX5, 5), (RX6, TX6, 2), (RX7, TX7, 4), (RX8, TX8, 8), (RX9, TX9, 32)]
end
section
/-! our own table of words: those of lw_tbl that stay good over calls -/
def xw_T : List Cond := lw_tbl.filter goodWord
theorem xw_in {w : Cond} (i : Nat) (h : lw_tbl[i]? = some w) (hg : goodWord w = true) : w ∈ xw_T := List.mem_filter.mpr ⟨List.mem_of_getElem? h, hg⟩
theorem xw_good {x : Cond} {y : MethodName} {c : ByteArray} {n : Nat} {r : Option FieldType} (h : Cond.code y c n r ∈ xw_T) : GoodIn (x :: xw_T) (Cond.code y c n r :: xw_T) := by
  intro w hw
  have hm : w ∈ xw_T := by
    rcases List.mem_cons.mp hw with e | e
    · rw [e]; exact h
    · exact e
  exact ⟨List.mem_cons_of_mem _ hm, good_of_word (List.mem_filter.mp hm).2⟩
theorem xw_goodT {y : MethodName} {c : ByteArray} {n : Nat} {r : Option FieldType} (h : Cond.code y c n r ∈ xw_T) : GoodIn xw_T (Cond.code y c n r :: xw_T) := by
  intro w hw
  have hm : w ∈ xw_T := by
    rcases List.mem_cons.mp hw with e | e
    · rw [e]; exact h
    · exact e
  exact ⟨hm, good_of_word (List.mem_filter.mp hm).2⟩
theorem xw_0 : Cond.selects RX7 yX7_seekFault yX7_seekFault ∈ xw_T := xw_in 0 (by decide +kernel) (by decide +kernel)
theorem xw_1 : Cond.selects RX8 yX8_isSpot yX8_isSpot ∈ xw_T := xw_in 1 (by decide +kernel) (by decide +kernel)
theorem xw_2 : Cond.selects RX5 yX5_rowOf yX5_rowOf ∈ xw_T := xw_in 2 (by decide +kernel) (by decide +kernel)
theorem xw_3 : Cond.selects RX5 yX5_fillRow yX5_fillRow ∈ xw_T := xw_in 3 (by decide +kernel) (by decide +kernel)
theorem xw_4 : Cond.selects RX5 yX5_addSpot yX5_addSpot ∈ xw_T := xw_in 4 (by decide +kernel) (by decide +kernel)
theorem xw_5 : Cond.selects RX5 yX5_tryWay yX5_tryWay ∈ xw_T := xw_in 5 (by decide +kernel) (by decide +kernel)
theorem xw_6 : Cond.selects RX5 yX5_mayLie yX5_mayLie ∈ xw_T := xw_in 6 (by decide +kernel) (by decide +kernel)
theorem xw_7 : Cond.selects RX4 yX4_settleSet yX4_settleSet ∈ xw_T := xw_in 7 (by decide +kernel) (by decide +kernel)
theorem xw_8 : Cond.selects RX0 yX0_addLeaf yX0_addLeaf ∈ xw_T := xw_in 8 (by decide +kernel) (by decide +kernel)
theorem xw_9 : Cond.selects RX5 yX5_placesUpTo yX5_placesUpTo ∈ xw_T := xw_in 9 (by decide +kernel) (by decide +kernel)
theorem xw_10 : Cond.selects RX0 yX0_keepLists yX0_keepLists ∈ xw_T := xw_in 10 (by decide +kernel) (by decide +kernel)
theorem xw_11 : Cond.selects RX0 yX0_putInOrder yX0_putInOrder ∈ xw_T := xw_in 11 (by decide +kernel) (by decide +kernel)
theorem xw_12 : Cond.selects RX0 yX0_hasNext yX0_hasNext ∈ xw_T := xw_in 12 (by decide +kernel) (by decide +kernel)
theorem xw_13 : Cond.selects RX0 yX0_clashesBehind yX0_clashesBehind ∈ xw_T := xw_in 13 (by decide +kernel) (by decide +kernel)
theorem xw_14 : Cond.selects RX0 yX0_gapBehind yX0_gapBehind ∈ xw_T := xw_in 14 (by decide +kernel) (by decide +kernel)
theorem xw_15 : Cond.selects RX9 yX9_spotAt yX9_spotAt ∈ xw_T := xw_in 15 (by decide +kernel) (by decide +kernel)
theorem xw_16 : Cond.selects RX9 yX9_isHalf yX9_isHalf ∈ xw_T := xw_in 16 (by decide +kernel) (by decide +kernel)
theorem xw_17 : Cond.selects RX9 yX9_places yX9_places ∈ xw_T := xw_in 17 (by decide +kernel) (by decide +kernel)
theorem xw_18 : Cond.selects RX9 yX9_quarrelsOf yX9_quarrelsOf ∈ xw_T := xw_in 18 (by decide +kernel) (by decide +kernel)
theorem xw_19 : Cond.selects RX9 yX9_letterAt yX9_letterAt ∈ xw_T := xw_in 19 (by decide +kernel) (by decide +kernel)
theorem xw_20 : Cond.selects RX9 yX9_bests yX9_bests ∈ xw_T := xw_in 20 (by decide +kernel) (by decide +kernel)
theorem xw_21 : Cond.selects RX9 yX9_tries yX9_tries ∈ xw_T := xw_in 21 (by decide +kernel) (by decide +kernel)
theorem xw_22 : Cond.selects RX9 yX9_canBe yX9_canBe ∈ xw_T := xw_in 22 (by decide +kernel) (by decide +kernel)
theorem xw_23 : Cond.selects RX9 yX9_both yX9_both ∈ xw_T := xw_in 23 (by decide +kernel) (by decide +kernel)
theorem xw_24 : Cond.selects RX9 yX9_leaves yX9_leaves ∈ xw_T := xw_in 24 (by decide +kernel) (by decide +kernel)
theorem xw_25 : Cond.selects RX9 yX9_comes yX9_comes ∈ xw_T := xw_in 25 (by decide +kernel) (by decide +kernel)
theorem xw_26 : Cond.selects RX9 yX9_orders yX9_orders ∈ xw_T := xw_in 26 (by decide +kernel) (by decide +kernel)
theorem xw_27 : Cond.selects RX9 yX9_lostBehind yX9_lostBehind ∈ xw_T := xw_in 27 (by decide +kernel) (by decide +kernel)
theorem xw_28 : Cond.selects RX9 yX9_between yX9_between ∈ xw_T := xw_in 28 (by decide +kernel) (by decide +kernel)
theorem xw_29 : Cond.selects RX9 yX9_breaks yX9_breaks ∈ xw_T := xw_in 29 (by decide +kernel) (by decide +kernel)
theorem xw_30 : Cond.selects RX9 yX9_sideOf yX9_sideOf ∈ xw_T := xw_in 30 (by decide +kernel) (by decide +kernel)
theorem xw_31 : Cond.initialized RL ∈ xw_T := xw_in 31 (by decide +kernel) (by decide +kernel)
theorem xw_32 : Cond.initialized RX8 ∈ xw_T := xw_in 32 (by decide +kernel) (by decide +kernel)
theorem xw_33 : Cond.initialized RX6 ∈ xw_T := xw_in 33 (by decide +kernel) (by decide +kernel)
theorem xw_34 : Cond.initialized RX5 ∈ xw_T := xw_in 34 (by decide +kernel) (by decide +kernel)
theorem xw_35 : Cond.initialized RX7 ∈ xw_T := xw_in 35 (by decide +kernel) (by decide +kernel)
theorem xw_36 : Cond.initialized RX2 ∈ xw_T := xw_in 36 (by decide +kernel) (by decide +kernel)
theorem xw_37 : Cond.initialized RX1 ∈ xw_T := xw_in 37 (by decide +kernel) (by decide +kernel)
theorem xw_38 : Cond.initialized RX3 ∈ xw_T := xw_in 38 (by decide +kernel) (by decide +kernel)
theorem xw_39 : Cond.initialized RX4 ∈ xw_T := xw_in 39 (by decide +kernel) (by decide +kernel)
theorem xw_40 : Cond.initialized RX0 ∈ xw_T := xw_in 40 (by decide +kernel) (by decide +kernel)
theorem xw_41 : Cond.initialized RJ7 ∈ xw_T := xw_in 41 (by decide +kernel) (by decide +kernel)
theorem xw_42 : Cond.initialized RX9 ∈ xw_T := xw_in 42 (by decide +kernel) (by decide +kernel)
theorem xw_43 : Cond.initialized RJ6 ∈ xw_T := xw_in 43 (by decide +kernel) (by decide +kernel)
theorem xw_44 : Cond.initialized RJ9 ∈ xw_T := xw_in 44 (by decide +kernel) (by decide +kernel)
theorem xw_45 : Cond.initialized RJ10 ∈ xw_T := xw_in 45 (by decide +kernel) (by decide +kernel)
theorem xw_46 : Cond.classLink RL 7 RX8 ∈ xw_T := xw_in 46 (by decide +kernel) (by decide +kernel)
theorem xw_47 : Cond.instantiable RX8 8 ∈ xw_T := xw_in 47 (by decide +kernel) (by decide +kernel)
theorem xw_48 : Cond.methodLink RL 9 yX8_init ∈ xw_T := xw_in 48 (by decide +kernel) (by decide +kernel)
theorem xw_49 : Cond.instanceMethod yX8_init ∈ xw_T := xw_in 49 (by decide +kernel) (by decide +kernel)
theorem xw_50 : Cond.code yX8_init cX8_init 1 none ∈ xw_T := xw_in 50 (by decide +kernel) (by decide +kernel)
theorem xw_51 : Cond.methodLink RX8 1 (⟨"java/lang/Object", "<init>", "()V"⟩ : MethodName) ∈ xw_T := xw_in 51 (by decide +kernel) (by decide +kernel)
theorem xw_52 : Cond.instanceMethod (⟨"java/lang/Object", "<init>", "()V"⟩ : MethodName) ∈ xw_T := xw_in 52 (by decide +kernel) (by decide +kernel)
theorem xw_53 : Cond.code (⟨"java/lang/Object", "<init>", "()V"⟩ : MethodName) object_method_1_code 1 none ∈ xw_T := xw_in 53 (by decide +kernel) (by decide +kernel)
theorem xw_54 : Cond.classLink RX8 7 RX6 ∈ xw_T := xw_in 54 (by decide +kernel) (by decide +kernel)
theorem xw_55 : Cond.instantiable RX6 2 ∈ xw_T := xw_in 55 (by decide +kernel) (by decide +kernel)
theorem xw_57 : Cond.instanceMethod yX6_init ∈ xw_T := xw_in 57 (by decide +kernel) (by decide +kernel)
theorem xw_58 : Cond.code yX6_init cX6_init 1 none ∈ xw_T := xw_in 58 (by decide +kernel) (by decide +kernel)
theorem xw_59 : Cond.methodLink RX6 3 (⟨"java/lang/Object", "<init>", "()V"⟩ : MethodName) ∈ xw_T := xw_in 59 (by decide +kernel) (by decide +kernel)
theorem xw_60 : Cond.fieldLink RX6 9 "UnderText$Tape" "bytes" "[I" ∈ xw_T := xw_in 60 (by decide +kernel) (by decide +kernel)
theorem xw_61 : Cond.fieldLink RX6 15 "UnderText$Tape" "size" "I" ∈ xw_T := xw_in 61 (by decide +kernel) (by decide +kernel)
theorem xw_62 : Cond.fieldLink RX8 56 "UnderText$Tape" "size" "I" ∈ xw_T := xw_in 62 (by decide +kernel) (by decide +kernel)
theorem xw_63 : Cond.laysFinal RX6 "UnderText$Tape" "bytes" "[I" ∈ xw_T := xw_in 63 (by decide +kernel) (by decide +kernel)
theorem xw_65 : Cond.lays RX6 "UnderText$Tape" "size" "I" ∈ xw_T := xw_in 65 (by decide +kernel) (by decide +kernel)
theorem xw_68 : Cond.arrayClass .int ∈ xw_T := xw_in 68 (by decide +kernel) (by decide +kernel)
theorem xw_69 : Cond.classLink RX8 16 RX5 ∈ xw_T := xw_in 69 (by decide +kernel) (by decide +kernel)
theorem xw_70 : Cond.instantiable RX5 5 ∈ xw_T := xw_in 70 (by decide +kernel) (by decide +kernel)
theorem xw_72 : Cond.instanceMethod yX5_init ∈ xw_T := xw_in 72 (by decide +kernel) (by decide +kernel)
theorem xw_73 : Cond.code yX5_init cX5_init 1 none ∈ xw_T := xw_in 73 (by decide +kernel) (by decide +kernel)
theorem xw_74 : Cond.methodLink RX5 3 (⟨"java/lang/Object", "<init>", "()V"⟩ : MethodName) ∈ xw_T := xw_in 74 (by decide +kernel) (by decide +kernel)
theorem xw_75 : Cond.classLink RX5 9 RX7 ∈ xw_T := xw_in 75 (by decide +kernel) (by decide +kernel)
theorem xw_76 : Cond.instantiable RX7 4 ∈ xw_T := xw_in 76 (by decide +kernel) (by decide +kernel)
theorem xw_78 : Cond.instanceMethod yX7_init ∈ xw_T := xw_in 78 (by decide +kernel) (by decide +kernel)
theorem xw_79 : Cond.code yX7_init cX7_init 1 none ∈ xw_T := xw_in 79 (by decide +kernel) (by decide +kernel)
theorem xw_80 : Cond.methodLink RX7 3 (⟨"java/lang/Object", "<init>", "()V"⟩ : MethodName) ∈ xw_T := xw_in 80 (by decide +kernel) (by decide +kernel)
theorem xw_81 : Cond.fieldLink RX7 9 "UnderText$Work" "letters" "[I" ∈ xw_T := xw_in 81 (by decide +kernel) (by decide +kernel)
theorem xw_82 : Cond.fieldLink RX7 15 "UnderText$Work" "size" "I" ∈ xw_T := xw_in 82 (by decide +kernel) (by decide +kernel)
theorem xw_83 : Cond.fieldLink RX8 72 "UnderText$Work" "size" "I" ∈ xw_T := xw_in 83 (by decide +kernel) (by decide +kernel)
theorem xw_84 : Cond.fieldLink RX7 19 "UnderText$Work" "fault" "I" ∈ xw_T := xw_in 84 (by decide +kernel) (by decide +kernel)
theorem xw_85 : Cond.fieldLink RX8 73 "UnderText$Work" "fault" "I" ∈ xw_T := xw_in 85 (by decide +kernel) (by decide +kernel)
theorem xw_86 : Cond.fieldLink RX7 22 "UnderText$Work" "faultPlace" "I" ∈ xw_T := xw_in 86 (by decide +kernel) (by decide +kernel)
theorem xw_87 : Cond.fieldLink RX8 76 "UnderText$Work" "faultPlace" "I" ∈ xw_T := xw_in 87 (by decide +kernel) (by decide +kernel)
theorem xw_88 : Cond.laysFinal RX7 "UnderText$Work" "letters" "[I" ∈ xw_T := xw_in 88 (by decide +kernel) (by decide +kernel)
theorem xw_90 : Cond.lays RX7 "UnderText$Work" "size" "I" ∈ xw_T := xw_in 90 (by decide +kernel) (by decide +kernel)
theorem xw_92 : Cond.lays RX7 "UnderText$Work" "fault" "I" ∈ xw_T := xw_in 92 (by decide +kernel) (by decide +kernel)
theorem xw_94 : Cond.lays RX7 "UnderText$Work" "faultPlace" "I" ∈ xw_T := xw_in 94 (by decide +kernel) (by decide +kernel)
theorem xw_97 : Cond.classLink RX5 18 RX2 ∈ xw_T := xw_in 97 (by decide +kernel) (by decide +kernel)
theorem xw_98 : Cond.instantiable RX2 2 ∈ xw_T := xw_in 98 (by decide +kernel) (by decide +kernel)
theorem xw_99 : Cond.methodLink RX5 20 yX2_init ∈ xw_T := xw_in 99 (by decide +kernel) (by decide +kernel)
theorem xw_100 : Cond.instanceMethod yX2_init ∈ xw_T := xw_in 100 (by decide +kernel) (by decide +kernel)
theorem xw_101 : Cond.code yX2_init cX2_init 2 none ∈ xw_T := xw_in 101 (by decide +kernel) (by decide +kernel)
theorem xw_102 : Cond.methodLink RX2 3 (⟨"java/lang/Object", "<init>", "()V"⟩ : MethodName) ∈ xw_T := xw_in 102 (by decide +kernel) (by decide +kernel)
theorem xw_103 : Cond.classLink RX2 9 RX1 ∈ xw_T := xw_in 103 (by decide +kernel) (by decide +kernel)
theorem xw_105 : Cond.instantiable RX1 4 ∈ xw_T := xw_in 105 (by decide +kernel) (by decide +kernel)
theorem xw_107 : Cond.instanceMethod yX1_init ∈ xw_T := xw_in 107 (by decide +kernel) (by decide +kernel)
theorem xw_108 : Cond.code yX1_init cX1_init 1 none ∈ xw_T := xw_in 108 (by decide +kernel) (by decide +kernel)
theorem xw_109 : Cond.methodLink RX1 3 (⟨"java/lang/Object", "<init>", "()V"⟩ : MethodName) ∈ xw_T := xw_in 109 (by decide +kernel) (by decide +kernel)
theorem xw_110 : Cond.fieldLink RX1 9 "UnderText$Half" "part" "I" ∈ xw_T := xw_in 110 (by decide +kernel) (by decide +kernel)
theorem xw_111 : Cond.fieldLink RX2 22 "UnderText$Half" "part" "I" ∈ xw_T := xw_in 111 (by decide +kernel) (by decide +kernel)
theorem xw_112 : Cond.fieldLink RX1 15 "UnderText$Half" "side" "I" ∈ xw_T := xw_in 112 (by decide +kernel) (by decide +kernel)
theorem xw_113 : Cond.fieldLink RX2 25 "UnderText$Half" "side" "I" ∈ xw_T := xw_in 113 (by decide +kernel) (by decide +kernel)
theorem xw_114 : Cond.fieldLink RX5 147 "UnderText$Half" "side" "I" ∈ xw_T := xw_in 114 (by decide +kernel) (by decide +kernel)
theorem xw_115 : Cond.fieldLink RX1 18 "UnderText$Half" "ruling" "I" ∈ xw_T := xw_in 115 (by decide +kernel) (by decide +kernel)
theorem xw_116 : Cond.fieldLink RX2 28 "UnderText$Half" "ruling" "I" ∈ xw_T := xw_in 116 (by decide +kernel) (by decide +kernel)
theorem xw_117 : Cond.fieldLink RX1 21 "UnderText$Half" "lists" "[I" ∈ xw_T := xw_in 117 (by decide +kernel) (by decide +kernel)
theorem xw_118 : Cond.fieldLink RX2 31 "UnderText$Half" "lists" "[I" ∈ xw_T := xw_in 118 (by decide +kernel) (by decide +kernel)
theorem xw_119 : Cond.fieldLink RX5 71 "UnderText$Half" "lists" "[I" ∈ xw_T := xw_in 119 (by decide +kernel) (by decide +kernel)
theorem xw_120 : Cond.fieldLink RX0 88 "UnderText$Half" "lists" "[I" ∈ xw_T := xw_in 120 (by decide +kernel) (by decide +kernel)
theorem xw_121 : Cond.fieldLink RX8 98 "UnderText$Half" "lists" "[I" ∈ xw_T := xw_in 121 (by decide +kernel) (by decide +kernel)
theorem xw_122 : Cond.lays RX1 "UnderText$Half" "part" "I" ∈ xw_T := xw_in 122 (by decide +kernel) (by decide +kernel)
theorem xw_124 : Cond.lays RX1 "UnderText$Half" "side" "I" ∈ xw_T := xw_in 124 (by decide +kernel) (by decide +kernel)
theorem xw_126 : Cond.lays RX1 "UnderText$Half" "ruling" "I" ∈ xw_T := xw_in 126 (by decide +kernel) (by decide +kernel)
theorem xw_128 : Cond.laysFinal RX1 "UnderText$Half" "lists" "[I" ∈ xw_T := xw_in 128 (by decide +kernel) (by decide +kernel)
theorem xw_131 : Cond.fieldLink RX2 11 "UnderText$Halves" "all" "[LUnderText$Half;" ∈ xw_T := xw_in 131 (by decide +kernel) (by decide +kernel)
theorem xw_132 : Cond.fieldLink RX5 57 "UnderText$Halves" "all" "[LUnderText$Half;" ∈ xw_T := xw_in 132 (by decide +kernel) (by decide +kernel)
theorem xw_133 : Cond.fieldLink RX0 84 "UnderText$Halves" "all" "[LUnderText$Half;" ∈ xw_T := xw_in 133 (by decide +kernel) (by decide +kernel)
theorem xw_134 : Cond.fieldLink RX8 94 "UnderText$Halves" "all" "[LUnderText$Half;" ∈ xw_T := xw_in 134 (by decide +kernel) (by decide +kernel)
theorem xw_135 : Cond.fieldLink RX2 17 "UnderText$Halves" "size" "I" ∈ xw_T := xw_in 135 (by decide +kernel) (by decide +kernel)
theorem xw_136 : Cond.fieldLink RX5 41 "UnderText$Halves" "size" "I" ∈ xw_T := xw_in 136 (by decide +kernel) (by decide +kernel)
theorem xw_137 : Cond.fieldLink RX0 81 "UnderText$Halves" "size" "I" ∈ xw_T := xw_in 137 (by decide +kernel) (by decide +kernel)
theorem xw_138 : Cond.fieldLink RX8 146 "UnderText$Halves" "size" "I" ∈ xw_T := xw_in 138 (by decide +kernel) (by decide +kernel)
theorem xw_139 : Cond.laysFinal RX2 "UnderText$Halves" "all" "[LUnderText$Half;" ∈ xw_T := xw_in 139 (by decide +kernel) (by decide +kernel)
theorem xw_141 : Cond.lays RX2 "UnderText$Halves" "size" "I" ∈ xw_T := xw_in 141 (by decide +kernel) (by decide +kernel)
theorem xw_144 : Cond.classLink RX5 25 RX3 ∈ xw_T := xw_in 144 (by decide +kernel) (by decide +kernel)
theorem xw_145 : Cond.instantiable RX3 7 ∈ xw_T := xw_in 145 (by decide +kernel) (by decide +kernel)
theorem xw_147 : Cond.instanceMethod yX3_init ∈ xw_T := xw_in 147 (by decide +kernel) (by decide +kernel)
theorem xw_148 : Cond.code yX3_init cX3_init 1 none ∈ xw_T := xw_in 148 (by decide +kernel) (by decide +kernel)
theorem xw_149 : Cond.methodLink RX3 3 (⟨"java/lang/Object", "<init>", "()V"⟩ : MethodName) ∈ xw_T := xw_in 149 (by decide +kernel) (by decide +kernel)
theorem xw_150 : Cond.fieldLink RX3 9 "UnderText$Leaf" "upper" "I" ∈ xw_T := xw_in 150 (by decide +kernel) (by decide +kernel)
theorem xw_151 : Cond.fieldLink RX8 143 "UnderText$Leaf" "upper" "I" ∈ xw_T := xw_in 151 (by decide +kernel) (by decide +kernel)
theorem xw_152 : Cond.fieldLink RX5 129 "UnderText$Leaf" "upper" "I" ∈ xw_T := xw_in 152 (by decide +kernel) (by decide +kernel)
theorem xw_153 : Cond.fieldLink RX3 15 "UnderText$Leaf" "lower" "I" ∈ xw_T := xw_in 153 (by decide +kernel) (by decide +kernel)
theorem xw_154 : Cond.fieldLink RX5 132 "UnderText$Leaf" "lower" "I" ∈ xw_T := xw_in 154 (by decide +kernel) (by decide +kernel)
theorem xw_155 : Cond.fieldLink RX8 166 "UnderText$Leaf" "lower" "I" ∈ xw_T := xw_in 155 (by decide +kernel) (by decide +kernel)
theorem xw_156 : Cond.fieldLink RX3 18 "UnderText$Leaf" "place" "I" ∈ xw_T := xw_in 156 (by decide +kernel) (by decide +kernel)
theorem xw_157 : Cond.fieldLink RX0 98 "UnderText$Leaf" "place" "I" ∈ xw_T := xw_in 157 (by decide +kernel) (by decide +kernel)
theorem xw_158 : Cond.fieldLink RX8 140 "UnderText$Leaf" "place" "I" ∈ xw_T := xw_in 158 (by decide +kernel) (by decide +kernel)
theorem xw_159 : Cond.fieldLink RX5 135 "UnderText$Leaf" "place" "I" ∈ xw_T := xw_in 159 (by decide +kernel) (by decide +kernel)
theorem xw_160 : Cond.fieldLink RX3 21 "UnderText$Leaf" "quarrels" "I" ∈ xw_T := xw_in 160 (by decide +kernel) (by decide +kernel)
theorem xw_161 : Cond.fieldLink RX4 43 "UnderText$Leaf" "quarrels" "I" ∈ xw_T := xw_in 161 (by decide +kernel) (by decide +kernel)
theorem xw_162 : Cond.fieldLink RX5 120 "UnderText$Leaf" "quarrels" "I" ∈ xw_T := xw_in 162 (by decide +kernel) (by decide +kernel)
theorem xw_163 : Cond.fieldLink RX8 135 "UnderText$Leaf" "quarrels" "I" ∈ xw_T := xw_in 163 (by decide +kernel) (by decide +kernel)
theorem xw_164 : Cond.fieldLink RX0 117 "UnderText$Leaf" "quarrels" "I" ∈ xw_T := xw_in 164 (by decide +kernel) (by decide +kernel)
theorem xw_165 : Cond.fieldLink RX3 24 "UnderText$Leaf" "chance" "I" ∈ xw_T := xw_in 165 (by decide +kernel) (by decide +kernel)
theorem xw_166 : Cond.fieldLink RX5 144 "UnderText$Leaf" "chance" "I" ∈ xw_T := xw_in 166 (by decide +kernel) (by decide +kernel)
theorem xw_167 : Cond.fieldLink RX8 169 "UnderText$Leaf" "chance" "I" ∈ xw_T := xw_in 167 (by decide +kernel) (by decide +kernel)
theorem xw_168 : Cond.fieldLink RX3 27 "UnderText$Leaf" "places" "I" ∈ xw_T := xw_in 168 (by decide +kernel) (by decide +kernel)
theorem xw_169 : Cond.fieldLink RX5 138 "UnderText$Leaf" "places" "I" ∈ xw_T := xw_in 169 (by decide +kernel) (by decide +kernel)
theorem xw_170 : Cond.fieldLink RX8 172 "UnderText$Leaf" "places" "I" ∈ xw_T := xw_in 170 (by decide +kernel) (by decide +kernel)
theorem xw_171 : Cond.fieldLink RX3 30 "UnderText$Leaf" "frontSide" "I" ∈ xw_T := xw_in 171 (by decide +kernel) (by decide +kernel)
theorem xw_172 : Cond.fieldLink RX5 150 "UnderText$Leaf" "frontSide" "I" ∈ xw_T := xw_in 172 (by decide +kernel) (by decide +kernel)
theorem xw_173 : Cond.fieldLink RX0 114 "UnderText$Leaf" "frontSide" "I" ∈ xw_T := xw_in 173 (by decide +kernel) (by decide +kernel)
theorem xw_174 : Cond.lays RX3 "UnderText$Leaf" "upper" "I" ∈ xw_T := xw_in 174 (by decide +kernel) (by decide +kernel)
theorem xw_176 : Cond.lays RX3 "UnderText$Leaf" "lower" "I" ∈ xw_T := xw_in 176 (by decide +kernel) (by decide +kernel)
theorem xw_178 : Cond.lays RX3 "UnderText$Leaf" "place" "I" ∈ xw_T := xw_in 178 (by decide +kernel) (by decide +kernel)
theorem xw_180 : Cond.lays RX3 "UnderText$Leaf" "quarrels" "I" ∈ xw_T := xw_in 180 (by decide +kernel) (by decide +kernel)
theorem xw_182 : Cond.lays RX3 "UnderText$Leaf" "chance" "I" ∈ xw_T := xw_in 182 (by decide +kernel) (by decide +kernel)
theorem xw_184 : Cond.lays RX3 "UnderText$Leaf" "places" "I" ∈ xw_T := xw_in 184 (by decide +kernel) (by decide +kernel)
theorem xw_186 : Cond.lays RX3 "UnderText$Leaf" "frontSide" "I" ∈ xw_T := xw_in 186 (by decide +kernel) (by decide +kernel)
theorem xw_189 : Cond.classLink RX5 32 "[[I" ∈ xw_T := xw_in 189 (by decide +kernel) (by decide +kernel)
theorem xw_191 : Cond.fieldLink RX5 12 "UnderText$Scale" "work" "LUnderText$Work;" ∈ xw_T := xw_in 191 (by decide +kernel) (by decide +kernel)
theorem xw_192 : Cond.fieldLink RX8 23 "UnderText$Scale" "work" "LUnderText$Work;" ∈ xw_T := xw_in 192 (by decide +kernel) (by decide +kernel)
theorem xw_193 : Cond.fieldLink RX5 21 "UnderText$Scale" "halves" "LUnderText$Halves;" ∈ xw_T := xw_in 193 (by decide +kernel) (by decide +kernel)
theorem xw_194 : Cond.fieldLink RX8 30 "UnderText$Scale" "halves" "LUnderText$Halves;" ∈ xw_T := xw_in 194 (by decide +kernel) (by decide +kernel)
theorem xw_195 : Cond.fieldLink RX5 28 "UnderText$Scale" "found" "LUnderText$Leaf;" ∈ xw_T := xw_in 195 (by decide +kernel) (by decide +kernel)
theorem xw_196 : Cond.fieldLink RX4 39 "UnderText$Scale" "found" "LUnderText$Leaf;" ∈ xw_T := xw_in 196 (by decide +kernel) (by decide +kernel)
theorem xw_197 : Cond.fieldLink RX8 131 "UnderText$Scale" "found" "LUnderText$Leaf;" ∈ xw_T := xw_in 197 (by decide +kernel) (by decide +kernel)
theorem xw_198 : Cond.fieldLink RX5 34 "UnderText$Scale" "rows" "[[I" ∈ xw_T := xw_in 198 (by decide +kernel) (by decide +kernel)
theorem xw_199 : Cond.fieldLink RX5 37 "UnderText$Scale" "rowOfNoHalf" "[I" ∈ xw_T := xw_in 199 (by decide +kernel) (by decide +kernel)
theorem xw_200 : Cond.laysFinal RX5 "UnderText$Scale" "work" "LUnderText$Work;" ∈ xw_T := xw_in 200 (by decide +kernel) (by decide +kernel)
theorem xw_202 : Cond.laysFinal RX5 "UnderText$Scale" "halves" "LUnderText$Halves;" ∈ xw_T := xw_in 202 (by decide +kernel) (by decide +kernel)
theorem xw_204 : Cond.laysFinal RX5 "UnderText$Scale" "found" "LUnderText$Leaf;" ∈ xw_T := xw_in 204 (by decide +kernel) (by decide +kernel)
theorem xw_206 : Cond.laysFinal RX5 "UnderText$Scale" "rows" "[[I" ∈ xw_T := xw_in 206 (by decide +kernel) (by decide +kernel)
theorem xw_208 : Cond.laysFinal RX5 "UnderText$Scale" "rowOfNoHalf" "[I" ∈ xw_T := xw_in 208 (by decide +kernel) (by decide +kernel)
theorem xw_211 : Cond.classLink RX8 35 RX4 ∈ xw_T := xw_in 211 (by decide +kernel) (by decide +kernel)
theorem xw_212 : Cond.instantiable RX4 4 ∈ xw_T := xw_in 212 (by decide +kernel) (by decide +kernel)
theorem xw_214 : Cond.instanceMethod yX4_init ∈ xw_T := xw_in 214 (by decide +kernel) (by decide +kernel)
theorem xw_215 : Cond.code yX4_init cX4_init 1 none ∈ xw_T := xw_in 215 (by decide +kernel) (by decide +kernel)
theorem xw_216 : Cond.methodLink RX4 3 (⟨"java/lang/Object", "<init>", "()V"⟩ : MethodName) ∈ xw_T := xw_in 216 (by decide +kernel) (by decide +kernel)
theorem xw_217 : Cond.classLink RX4 9 "[[I" ∈ xw_T := xw_in 217 (by decide +kernel) (by decide +kernel)
theorem xw_218 : Cond.fieldLink RX4 11 "UnderText$Pairing" "costs" "[[I" ∈ xw_T := xw_in 218 (by decide +kernel) (by decide +kernel)
theorem xw_219 : Cond.fieldLink RX4 16 "UnderText$Pairing" "least" "[I" ∈ xw_T := xw_in 219 (by decide +kernel) (by decide +kernel)
theorem xw_220 : Cond.fieldLink RX4 20 "UnderText$Pairing" "mates" "[I" ∈ xw_T := xw_in 220 (by decide +kernel) (by decide +kernel)
theorem xw_221 : Cond.fieldLink RX4 23 "UnderText$Pairing" "whole" "I" ∈ xw_T := xw_in 221 (by decide +kernel) (by decide +kernel)
theorem xw_222 : Cond.laysFinal RX4 "UnderText$Pairing" "costs" "[[I" ∈ xw_T := xw_in 222 (by decide +kernel) (by decide +kernel)
theorem xw_224 : Cond.laysFinal RX4 "UnderText$Pairing" "least" "[I" ∈ xw_T := xw_in 224 (by decide +kernel) (by decide +kernel)
theorem xw_226 : Cond.laysFinal RX4 "UnderText$Pairing" "mates" "[I" ∈ xw_T := xw_in 226 (by decide +kernel) (by decide +kernel)
theorem xw_228 : Cond.lays RX4 "UnderText$Pairing" "whole" "I" ∈ xw_T := xw_in 228 (by decide +kernel) (by decide +kernel)
theorem xw_231 : Cond.classLink RX8 42 RX0 ∈ xw_T := xw_in 231 (by decide +kernel) (by decide +kernel)
theorem xw_232 : Cond.instantiable RX0 5 ∈ xw_T := xw_in 232 (by decide +kernel) (by decide +kernel)
theorem xw_233 : Cond.methodLink RX8 44 yX0_init ∈ xw_T := xw_in 233 (by decide +kernel) (by decide +kernel)
theorem xw_234 : Cond.instanceMethod yX0_init ∈ xw_T := xw_in 234 (by decide +kernel) (by decide +kernel)
theorem xw_235 : Cond.code yX0_init cX0_init 2 none ∈ xw_T := xw_in 235 (by decide +kernel) (by decide +kernel)
theorem xw_236 : Cond.methodLink RX0 3 (⟨"java/lang/Object", "<init>", "()V"⟩ : MethodName) ∈ xw_T := xw_in 236 (by decide +kernel) (by decide +kernel)
theorem xw_237 : Cond.classLink RX0 9 RX3 ∈ xw_T := xw_in 237 (by decide +kernel) (by decide +kernel)
theorem xw_239 : Cond.classLink RX0 24 "[[I" ∈ xw_T := xw_in 239 (by decide +kernel) (by decide +kernel)
theorem xw_241 : Cond.methodLink RX0 34 yJ7_fill_53178 ∈ xw_T := xw_in 241 (by decide +kernel) (by decide +kernel)
theorem xw_242 : Cond.static yJ7_fill_53178 ∈ xw_T := xw_in 242 (by decide +kernel) (by decide +kernel)
theorem xw_243 : Cond.code yJ7_fill_53178 cJ7_fill_53178 4 none ∈ xw_T := xw_in 243 (by decide +kernel) (by decide +kernel)
theorem xw_244 : Cond.fieldLink RX0 11 "UnderText$Book" "leaves" "[LUnderText$Leaf;" ∈ xw_T := xw_in 244 (by decide +kernel) (by decide +kernel)
theorem xw_245 : Cond.fieldLink RX8 162 "UnderText$Book" "leaves" "[LUnderText$Leaf;" ∈ xw_T := xw_in 245 (by decide +kernel) (by decide +kernel)
theorem xw_246 : Cond.fieldLink RX0 17 "UnderText$Book" "order" "[I" ∈ xw_T := xw_in 246 (by decide +kernel) (by decide +kernel)
theorem xw_247 : Cond.fieldLink RX8 174 "UnderText$Book" "order" "[I" ∈ xw_T := xw_in 247 (by decide +kernel) (by decide +kernel)
theorem xw_248 : Cond.fieldLink RX0 21 "UnderText$Book" "leafOf" "[I" ∈ xw_T := xw_in 248 (by decide +kernel) (by decide +kernel)
theorem xw_249 : Cond.fieldLink RX8 183 "UnderText$Book" "leafOf" "[I" ∈ xw_T := xw_in 249 (by decide +kernel) (by decide +kernel)
theorem xw_250 : Cond.fieldLink RX0 26 "UnderText$Book" "lists" "[[I" ∈ xw_T := xw_in 250 (by decide +kernel) (by decide +kernel)
theorem xw_251 : Cond.fieldLink RX8 195 "UnderText$Book" "lists" "[[I" ∈ xw_T := xw_in 251 (by decide +kernel) (by decide +kernel)
theorem xw_252 : Cond.fieldLink RX0 29 "UnderText$Book" "size" "I" ∈ xw_T := xw_in 252 (by decide +kernel) (by decide +kernel)
theorem xw_253 : Cond.fieldLink RX8 201 "UnderText$Book" "size" "I" ∈ xw_T := xw_in 253 (by decide +kernel) (by decide +kernel)
theorem xw_254 : Cond.laysFinal RX0 "UnderText$Book" "leaves" "[LUnderText$Leaf;" ∈ xw_T := xw_in 254 (by decide +kernel) (by decide +kernel)
theorem xw_256 : Cond.laysFinal RX0 "UnderText$Book" "order" "[I" ∈ xw_T := xw_in 256 (by decide +kernel) (by decide +kernel)
theorem xw_258 : Cond.laysFinal RX0 "UnderText$Book" "leafOf" "[I" ∈ xw_T := xw_in 258 (by decide +kernel) (by decide +kernel)
theorem xw_260 : Cond.laysFinal RX0 "UnderText$Book" "lists" "[[I" ∈ xw_T := xw_in 260 (by decide +kernel) (by decide +kernel)
theorem xw_262 : Cond.lays RX0 "UnderText$Book" "size" "I" ∈ xw_T := xw_in 262 (by decide +kernel) (by decide +kernel)
theorem xw_265 : Cond.fieldLink RX8 10 "UnderText" "tape" "LUnderText$Tape;" ∈ xw_T := xw_in 265 (by decide +kernel) (by decide +kernel)
theorem xw_266 : Cond.fieldLink RX8 19 "UnderText" "scale" "LUnderText$Scale;" ∈ xw_T := xw_in 266 (by decide +kernel) (by decide +kernel)
theorem xw_267 : Cond.fieldLink RX8 27 "UnderText" "text" "LUnderText$Work;" ∈ xw_T := xw_in 267 (by decide +kernel) (by decide +kernel)
theorem xw_268 : Cond.fieldLink RX8 34 "UnderText" "halves" "LUnderText$Halves;" ∈ xw_T := xw_in 268 (by decide +kernel) (by decide +kernel)
theorem xw_269 : Cond.fieldLink RX8 38 "UnderText" "pairing" "LUnderText$Pairing;" ∈ xw_T := xw_in 269 (by decide +kernel) (by decide +kernel)
theorem xw_270 : Cond.fieldLink RX8 45 "UnderText" "joined" "LUnderText$Book;" ∈ xw_T := xw_in 270 (by decide +kernel) (by decide +kernel)
theorem xw_271 : Cond.fieldLink RX8 49 "UnderText" "atOdds" "I" ∈ xw_T := xw_in 271 (by decide +kernel) (by decide +kernel)
theorem xw_272 : Cond.fieldLink RX8 53 "UnderText" "leafPrice" "I" ∈ xw_T := xw_in 272 (by decide +kernel) (by decide +kernel)
theorem xw_273 : Cond.laysFinal RX8 "UnderText" "tape" "LUnderText$Tape;" ∈ xw_T := xw_in 273 (by decide +kernel) (by decide +kernel)
theorem xw_275 : Cond.laysFinal RX8 "UnderText" "scale" "LUnderText$Scale;" ∈ xw_T := xw_in 275 (by decide +kernel) (by decide +kernel)
theorem xw_277 : Cond.laysFinal RX8 "UnderText" "text" "LUnderText$Work;" ∈ xw_T := xw_in 277 (by decide +kernel) (by decide +kernel)
theorem xw_279 : Cond.laysFinal RX8 "UnderText" "halves" "LUnderText$Halves;" ∈ xw_T := xw_in 279 (by decide +kernel) (by decide +kernel)
theorem xw_281 : Cond.laysFinal RX8 "UnderText" "pairing" "LUnderText$Pairing;" ∈ xw_T := xw_in 281 (by decide +kernel) (by decide +kernel)
theorem xw_283 : Cond.laysFinal RX8 "UnderText" "joined" "LUnderText$Book;" ∈ xw_T := xw_in 283 (by decide +kernel) (by decide +kernel)
theorem xw_285 : Cond.lays RX8 "UnderText" "atOdds" "I" ∈ xw_T := xw_in 285 (by decide +kernel) (by decide +kernel)
theorem xw_287 : Cond.lays RX8 "UnderText" "leafPrice" "I" ∈ xw_T := xw_in 287 (by decide +kernel) (by decide +kernel)
theorem xw_290 : Cond.methodLink RL 13 yX8_feed ∈ xw_T := xw_in 290 (by decide +kernel) (by decide +kernel)
theorem xw_291 : Cond.instanceMethod yX8_feed ∈ xw_T := xw_in 291 (by decide +kernel) (by decide +kernel)
theorem xw_292 : Cond.selects RX8 yX8_feed yX8_feed ∈ xw_T := xw_in 292 (by decide +kernel) (by decide +kernel)
theorem xw_293 : Cond.code yX8_feed cX8_feed 6 (some .int) ∈ xw_T := xw_in 293 (by decide +kernel) (by decide +kernel)
theorem xw_294 : Cond.methodLink RX8 59 yX6_put ∈ xw_T := xw_in 294 (by decide +kernel) (by decide +kernel)
theorem xw_295 : Cond.instanceMethod yX6_put ∈ xw_T := xw_in 295 (by decide +kernel) (by decide +kernel)
theorem xw_296 : Cond.selects RX6 yX6_put yX6_put ∈ xw_T := xw_in 296 (by decide +kernel) (by decide +kernel)
theorem xw_297 : Cond.code yX6_put cX6_put 3 none ∈ xw_T := xw_in 297 (by decide +kernel) (by decide +kernel)
theorem xw_298 : Cond.methodLink RL 18 yX8_work ∈ xw_T := xw_in 298 (by decide +kernel) (by decide +kernel)
theorem xw_299 : Cond.instanceMethod yX8_work ∈ xw_T := xw_in 299 (by decide +kernel) (by decide +kernel)
theorem xw_300 : Cond.selects RX8 yX8_work yX8_work ∈ xw_T := xw_in 300 (by decide +kernel) (by decide +kernel)
theorem xw_301 : Cond.code yX8_work cX8_work 3 (some .int) ∈ xw_T := xw_in 301 (by decide +kernel) (by decide +kernel)
theorem xw_302 : Cond.methodLink RX8 63 yX7_read ∈ xw_T := xw_in 302 (by decide +kernel) (by decide +kernel)
theorem xw_303 : Cond.instanceMethod yX7_read ∈ xw_T := xw_in 303 (by decide +kernel) (by decide +kernel)
theorem xw_304 : Cond.selects RX7 yX7_read yX7_read ∈ xw_T := xw_in 304 (by decide +kernel) (by decide +kernel)
theorem xw_305 : Cond.code yX7_read cX7_read 5 (some .boolean) ∈ xw_T := xw_in 305 (by decide +kernel) (by decide +kernel)
theorem xw_306 : Cond.methodLink RX7 25 yX7_seekFault ∈ xw_T := xw_in 306 (by decide +kernel) (by decide +kernel)
theorem xw_308 : Cond.instanceMethod yX7_seekFault ∈ xw_T := xw_in 308 (by decide +kernel) (by decide +kernel)
theorem xw_309 : Cond.code yX7_seekFault cX7_seekFault 6 none ∈ xw_T := xw_in 309 (by decide +kernel) (by decide +kernel)
theorem xw_310 : Cond.methodLink RX7 29 yX6_byteAt ∈ xw_T := xw_in 310 (by decide +kernel) (by decide +kernel)
theorem xw_311 : Cond.instanceMethod yX6_byteAt ∈ xw_T := xw_in 311 (by decide +kernel) (by decide +kernel)
theorem xw_312 : Cond.selects RX6 yX6_byteAt yX6_byteAt ∈ xw_T := xw_in 312 (by decide +kernel) (by decide +kernel)
theorem xw_313 : Cond.code yX6_byteAt cX6_byteAt 2 (some .int) ∈ xw_T := xw_in 313 (by decide +kernel) (by decide +kernel)
theorem xw_314 : Cond.methodLink RX7 35 yX7_isLetter ∈ xw_T := xw_in 314 (by decide +kernel) (by decide +kernel)
theorem xw_315 : Cond.static yX7_isLetter ∈ xw_T := xw_in 315 (by decide +kernel) (by decide +kernel)
theorem xw_316 : Cond.code yX7_isLetter cX7_isLetter 1 (some .boolean) ∈ xw_T := xw_in 316 (by decide +kernel) (by decide +kernel)
theorem xw_318 : Cond.static yX8_isWithin ∈ xw_T := xw_in 318 (by decide +kernel) (by decide +kernel)
theorem xw_319 : Cond.code yX8_isWithin cX8_isWithin 2 (some .boolean) ∈ xw_T := xw_in 319 (by decide +kernel) (by decide +kernel)
theorem xw_320 : Cond.methodLink RX8 69 yX0_clear ∈ xw_T := xw_in 320 (by decide +kernel) (by decide +kernel)
theorem xw_321 : Cond.instanceMethod yX0_clear ∈ xw_T := xw_in 321 (by decide +kernel) (by decide +kernel)
theorem xw_322 : Cond.selects RX0 yX0_clear yX0_clear ∈ xw_T := xw_in 322 (by decide +kernel) (by decide +kernel)
theorem xw_323 : Cond.code yX0_clear cX0_clear 1 none ∈ xw_T := xw_in 323 (by decide +kernel) (by decide +kernel)
theorem xw_324 : Cond.methodLink RL 23 yX8_fault ∈ xw_T := xw_in 324 (by decide +kernel) (by decide +kernel)
theorem xw_325 : Cond.instanceMethod yX8_fault ∈ xw_T := xw_in 325 (by decide +kernel) (by decide +kernel)
theorem xw_326 : Cond.selects RX8 yX8_fault yX8_fault ∈ xw_T := xw_in 326 (by decide +kernel) (by decide +kernel)
theorem xw_327 : Cond.code yX8_fault cX8_fault 2 (some .int) ∈ xw_T := xw_in 327 (by decide +kernel) (by decide +kernel)
theorem xw_328 : Cond.methodLink RL 27 yX8_half ∈ xw_T := xw_in 328 (by decide +kernel) (by decide +kernel)
theorem xw_329 : Cond.instanceMethod yX8_half ∈ xw_T := xw_in 329 (by decide +kernel) (by decide +kernel)
theorem xw_330 : Cond.selects RX8 yX8_half yX8_half ∈ xw_T := xw_in 330 (by decide +kernel) (by decide +kernel)
theorem xw_331 : Cond.code yX8_half cX8_half 5 (some .int) ∈ xw_T := xw_in 331 (by decide +kernel) (by decide +kernel)
theorem xw_332 : Cond.methodLink RX8 79 yX8_isWithin ∈ xw_T := xw_in 332 (by decide +kernel) (by decide +kernel)
theorem xw_333 : Cond.methodLink RX8 83 yX2_add ∈ xw_T := xw_in 333 (by decide +kernel) (by decide +kernel)
theorem xw_334 : Cond.instanceMethod yX2_add ∈ xw_T := xw_in 334 (by decide +kernel) (by decide +kernel)
theorem xw_335 : Cond.selects RX2 yX2_add yX2_add ∈ xw_T := xw_in 335 (by decide +kernel) (by decide +kernel)
theorem xw_336 : Cond.code yX2_add cX2_add 5 (some .int) ∈ xw_T := xw_in 336 (by decide +kernel) (by decide +kernel)
theorem xw_337 : Cond.constant RX2 35 (65535) ∈ xw_T := xw_in 337 (by decide +kernel) (by decide +kernel)
theorem xw_338 : Cond.methodLink RX2 36 yJ7_fill_53178 ∈ xw_T := xw_in 338 (by decide +kernel) (by decide +kernel)
theorem xw_339 : Cond.methodLink RL 32 yX8_light ∈ xw_T := xw_in 339 (by decide +kernel) (by decide +kernel)
theorem xw_340 : Cond.instanceMethod yX8_light ∈ xw_T := xw_in 340 (by decide +kernel) (by decide +kernel)
theorem xw_341 : Cond.selects RX8 yX8_light yX8_light ∈ xw_T := xw_in 341 (by decide +kernel) (by decide +kernel)
theorem xw_342 : Cond.code yX8_light cX8_light 8 (some .int) ∈ xw_T := xw_in 342 (by decide +kernel) (by decide +kernel)
theorem xw_343 : Cond.methodLink RX8 89 yX8_isSpot ∈ xw_T := xw_in 343 (by decide +kernel) (by decide +kernel)
theorem xw_345 : Cond.instanceMethod yX8_isSpot ∈ xw_T := xw_in 345 (by decide +kernel) (by decide +kernel)
theorem xw_346 : Cond.code yX8_isSpot cX8_isSpot 4 (some .boolean) ∈ xw_T := xw_in 346 (by decide +kernel) (by decide +kernel)
theorem xw_347 : Cond.methodLink RX8 114 yX2_has ∈ xw_T := xw_in 347 (by decide +kernel) (by decide +kernel)
theorem xw_348 : Cond.instanceMethod yX2_has ∈ xw_T := xw_in 348 (by decide +kernel) (by decide +kernel)
theorem xw_349 : Cond.selects RX2 yX2_has yX2_has ∈ xw_T := xw_in 349 (by decide +kernel) (by decide +kernel)
theorem xw_350 : Cond.code yX2_has cX2_has 2 (some .boolean) ∈ xw_T := xw_in 350 (by decide +kernel) (by decide +kernel)
theorem xw_351 : Cond.constant RX8 93 (65535) ∈ xw_T := xw_in 351 (by decide +kernel) (by decide +kernel)
theorem xw_352 : Cond.methodLink RX8 104 yX8_spotIndex ∈ xw_T := xw_in 352 (by decide +kernel) (by decide +kernel)
theorem xw_353 : Cond.static yX8_spotIndex ∈ xw_T := xw_in 353 (by decide +kernel) (by decide +kernel)
theorem xw_354 : Cond.code yX8_spotIndex cX8_spotIndex 2 (some .int) ∈ xw_T := xw_in 354 (by decide +kernel) (by decide +kernel)
theorem xw_355 : Cond.methodLink RX8 108 yJ6_bitCount_0f7a4 ∈ xw_T := xw_in 355 (by decide +kernel) (by decide +kernel)
theorem xw_356 : Cond.static yJ6_bitCount_0f7a4 ∈ xw_T := xw_in 356 (by decide +kernel) (by decide +kernel)
theorem xw_357 : Cond.code yJ6_bitCount_0f7a4 cJ6_bitCount_0f7a4 1 (some .int) ∈ xw_T := xw_in 357 (by decide +kernel) (by decide +kernel)
theorem xw_358 : Cond.constant RJ6 265 (1431655765) ∈ xw_T := xw_in 358 (by decide +kernel) (by decide +kernel)
theorem xw_359 : Cond.constant RJ6 266 (858993459) ∈ xw_T := xw_in 359 (by decide +kernel) (by decide +kernel)
theorem xw_360 : Cond.constant RJ6 267 (252645135) ∈ xw_T := xw_in 360 (by decide +kernel) (by decide +kernel)
theorem xw_361 : Cond.methodLink RL 37 yX8_list ∈ xw_T := xw_in 361 (by decide +kernel) (by decide +kernel)
theorem xw_362 : Cond.instanceMethod yX8_list ∈ xw_T := xw_in 362 (by decide +kernel) (by decide +kernel)
theorem xw_363 : Cond.selects RX8 yX8_list yX8_list ∈ xw_T := xw_in 363 (by decide +kernel) (by decide +kernel)
theorem xw_364 : Cond.code yX8_list cX8_list 4 (some .int) ∈ xw_T := xw_in 364 (by decide +kernel) (by decide +kernel)
theorem xw_365 : Cond.methodLink RL 41 yX8_quarrels ∈ xw_T := xw_in 365 (by decide +kernel) (by decide +kernel)
theorem xw_366 : Cond.instanceMethod yX8_quarrels ∈ xw_T := xw_in 366 (by decide +kernel) (by decide +kernel)
theorem xw_367 : Cond.selects RX8 yX8_quarrels yX8_quarrels ∈ xw_T := xw_in 367 (by decide +kernel) (by decide +kernel)
theorem xw_368 : Cond.code yX8_quarrels cX8_quarrels 4 (some .int) ∈ xw_T := xw_in 368 (by decide +kernel) (by decide +kernel)
theorem xw_369 : Cond.methodLink RX8 118 yX7_places ∈ xw_T := xw_in 369 (by decide +kernel) (by decide +kernel)
theorem xw_370 : Cond.instanceMethod yX7_places ∈ xw_T := xw_in 370 (by decide +kernel) (by decide +kernel)
theorem xw_371 : Cond.selects RX7 yX7_places yX7_places ∈ xw_T := xw_in 371 (by decide +kernel) (by decide +kernel)
theorem xw_372 : Cond.code yX7_places cX7_places 1 (some .int) ∈ xw_T := xw_in 372 (by decide +kernel) (by decide +kernel)
theorem xw_373 : Cond.methodLink RX7 43 yJ9_max_7cf53 ∈ xw_T := xw_in 373 (by decide +kernel) (by decide +kernel)
theorem xw_374 : Cond.static yJ9_max_7cf53 ∈ xw_T := xw_in 374 (by decide +kernel) (by decide +kernel)
theorem xw_375 : Cond.code yJ9_max_7cf53 cJ9_max_7cf53 2 (some .int) ∈ xw_T := xw_in 375 (by decide +kernel) (by decide +kernel)
theorem xw_376 : Cond.methodLink RX8 122 yX5_weigh ∈ xw_T := xw_in 376 (by decide +kernel) (by decide +kernel)
theorem xw_377 : Cond.instanceMethod yX5_weigh ∈ xw_T := xw_in 377 (by decide +kernel) (by decide +kernel)
theorem xw_378 : Cond.selects RX5 yX5_weigh yX5_weigh ∈ xw_T := xw_in 378 (by decide +kernel) (by decide +kernel)
theorem xw_379 : Cond.code yX5_weigh cX5_weigh 2 none ∈ xw_T := xw_in 379 (by decide +kernel) (by decide +kernel)
theorem xw_380 : Cond.methodLink RX5 49 yX2_has ∈ xw_T := xw_in 380 (by decide +kernel) (by decide +kernel)
theorem xw_381 : Cond.methodLink RX5 53 yX5_rowOf ∈ xw_T := xw_in 381 (by decide +kernel) (by decide +kernel)
theorem xw_383 : Cond.instanceMethod yX5_rowOf ∈ xw_T := xw_in 383 (by decide +kernel) (by decide +kernel)
theorem xw_384 : Cond.code yX5_rowOf cX5_rowOf 3 (some (.array .int)) ∈ xw_T := xw_in 384 (by decide +kernel) (by decide +kernel)
theorem xw_386 : Cond.methodLink RX5 61 yX5_fillRow ∈ xw_T := xw_in 386 (by decide +kernel) (by decide +kernel)
theorem xw_388 : Cond.instanceMethod yX5_fillRow ∈ xw_T := xw_in 388 (by decide +kernel) (by decide +kernel)
theorem xw_389 : Cond.code yX5_fillRow cX5_fillRow 5 none ∈ xw_T := xw_in 389 (by decide +kernel) (by decide +kernel)
theorem xw_390 : Cond.methodLink RX5 65 yJ7_fill_53178 ∈ xw_T := xw_in 390 (by decide +kernel) (by decide +kernel)
theorem xw_391 : Cond.constant RX5 76 (65535) ∈ xw_T := xw_in 391 (by decide +kernel) (by decide +kernel)
theorem xw_393 : Cond.static yX8_lettersAhead ∈ xw_T := xw_in 393 (by decide +kernel) (by decide +kernel)
theorem xw_394 : Cond.code yX8_lettersAhead cX8_lettersAhead 4 (some .int) ∈ xw_T := xw_in 394 (by decide +kernel) (by decide +kernel)
theorem xw_395 : Cond.methodLink RX5 81 yX5_addSpot ∈ xw_T := xw_in 395 (by decide +kernel) (by decide +kernel)
theorem xw_397 : Cond.instanceMethod yX5_addSpot ∈ xw_T := xw_in 397 (by decide +kernel) (by decide +kernel)
theorem xw_398 : Cond.code yX5_addSpot cX5_addSpot 6 none ∈ xw_T := xw_in 398 (by decide +kernel) (by decide +kernel)
theorem xw_399 : Cond.methodLink RX5 85 yX7_places ∈ xw_T := xw_in 399 (by decide +kernel) (by decide +kernel)
theorem xw_400 : Cond.methodLink RX5 89 yX7_letterAt ∈ xw_T := xw_in 400 (by decide +kernel) (by decide +kernel)
theorem xw_401 : Cond.instanceMethod yX7_letterAt ∈ xw_T := xw_in 401 (by decide +kernel) (by decide +kernel)
theorem xw_402 : Cond.selects RX7 yX7_letterAt yX7_letterAt ∈ xw_T := xw_in 402 (by decide +kernel) (by decide +kernel)
theorem xw_403 : Cond.code yX7_letterAt cX7_letterAt 2 (some .int) ∈ xw_T := xw_in 403 (by decide +kernel) (by decide +kernel)
theorem xw_405 : Cond.static yX8_hasLetter ∈ xw_T := xw_in 405 (by decide +kernel) (by decide +kernel)
theorem xw_406 : Cond.code yX8_hasLetter cX8_hasLetter 2 (some .boolean) ∈ xw_T := xw_in 406 (by decide +kernel) (by decide +kernel)
theorem xw_407 : Cond.methodLink RX8 125 yX5_quarrelsAs ∈ xw_T := xw_in 407 (by decide +kernel) (by decide +kernel)
theorem xw_408 : Cond.instanceMethod yX5_quarrelsAs ∈ xw_T := xw_in 408 (by decide +kernel) (by decide +kernel)
theorem xw_409 : Cond.selects RX5 yX5_quarrelsAs yX5_quarrelsAs ∈ xw_T := xw_in 409 (by decide +kernel) (by decide +kernel)
theorem xw_410 : Cond.code yX5_quarrelsAs cX5_quarrelsAs 4 (some .int) ∈ xw_T := xw_in 410 (by decide +kernel) (by decide +kernel)
theorem xw_411 : Cond.methodLink RL 45 yX8_best ∈ xw_T := xw_in 411 (by decide +kernel) (by decide +kernel)
end
section
theorem xw_412 : Cond.instanceMethod yX8_best ∈ xw_T := xw_in 412 (by decide +kernel) (by decide +kernel)
theorem xw_413 : Cond.selects RX8 yX8_best yX8_best ∈ xw_T := xw_in 413 (by decide +kernel) (by decide +kernel)
theorem xw_414 : Cond.code yX8_best cX8_best 4 (some .int) ∈ xw_T := xw_in 414 (by decide +kernel) (by decide +kernel)
theorem xw_415 : Cond.methodLink RX8 128 yX5_seekBest ∈ xw_T := xw_in 415 (by decide +kernel) (by decide +kernel)
theorem xw_416 : Cond.instanceMethod yX5_seekBest ∈ xw_T := xw_in 416 (by decide +kernel) (by decide +kernel)
theorem xw_417 : Cond.selects RX5 yX5_seekBest yX5_seekBest ∈ xw_T := xw_in 417 (by decide +kernel) (by decide +kernel)
theorem xw_418 : Cond.code yX5_seekBest cX5_seekBest 5 (some .boolean) ∈ xw_T := xw_in 418 (by decide +kernel) (by decide +kernel)
theorem xw_419 : Cond.methodLink RX5 100 yX3_lie ∈ xw_T := xw_in 419 (by decide +kernel) (by decide +kernel)
theorem xw_420 : Cond.instanceMethod yX3_lie ∈ xw_T := xw_in 420 (by decide +kernel) (by decide +kernel)
theorem xw_421 : Cond.selects RX3 yX3_lie yX3_lie ∈ xw_T := xw_in 421 (by decide +kernel) (by decide +kernel)
theorem xw_422 : Cond.code yX3_lie cX3_lie 5 none ∈ xw_T := xw_in 422 (by decide +kernel) (by decide +kernel)
theorem xw_423 : Cond.methodLink RX5 104 yJ9_min_7cf53 ∈ xw_T := xw_in 423 (by decide +kernel) (by decide +kernel)
theorem xw_424 : Cond.static yJ9_min_7cf53 ∈ xw_T := xw_in 424 (by decide +kernel) (by decide +kernel)
theorem xw_425 : Cond.code yJ9_min_7cf53 cJ9_min_7cf53 2 (some .int) ∈ xw_T := xw_in 425 (by decide +kernel) (by decide +kernel)
theorem xw_426 : Cond.methodLink RX5 109 yJ9_max_7cf53 ∈ xw_T := xw_in 426 (by decide +kernel) (by decide +kernel)
theorem xw_427 : Cond.methodLink RX5 112 yX5_tryWay ∈ xw_T := xw_in 427 (by decide +kernel) (by decide +kernel)
theorem xw_429 : Cond.instanceMethod yX5_tryWay ∈ xw_T := xw_in 429 (by decide +kernel) (by decide +kernel)
theorem xw_430 : Cond.code yX5_tryWay cX5_tryWay 8 none ∈ xw_T := xw_in 430 (by decide +kernel) (by decide +kernel)
theorem xw_431 : Cond.methodLink RX5 123 yX5_mayLie ∈ xw_T := xw_in 431 (by decide +kernel) (by decide +kernel)
theorem xw_433 : Cond.instanceMethod yX5_mayLie ∈ xw_T := xw_in 433 (by decide +kernel) (by decide +kernel)
theorem xw_434 : Cond.code yX5_mayLie cX5_mayLie 3 (some .boolean) ∈ xw_T := xw_in 434 (by decide +kernel) (by decide +kernel)
theorem xw_435 : Cond.methodLink RX5 126 yX1_mayLieAs ∈ xw_T := xw_in 435 (by decide +kernel) (by decide +kernel)
theorem xw_436 : Cond.instanceMethod yX1_mayLieAs ∈ xw_T := xw_in 436 (by decide +kernel) (by decide +kernel)
theorem xw_437 : Cond.selects RX1 yX1_mayLieAs yX1_mayLieAs ∈ xw_T := xw_in 437 (by decide +kernel) (by decide +kernel)
theorem xw_438 : Cond.code yX1_mayLieAs cX1_mayLieAs 2 (some .boolean) ∈ xw_T := xw_in 438 (by decide +kernel) (by decide +kernel)
theorem xw_439 : Cond.methodLink RX5 116 yX1_isLike ∈ xw_T := xw_in 439 (by decide +kernel) (by decide +kernel)
theorem xw_440 : Cond.instanceMethod yX1_isLike ∈ xw_T := xw_in 440 (by decide +kernel) (by decide +kernel)
theorem xw_441 : Cond.selects RX1 yX1_isLike yX1_isLike ∈ xw_T := xw_in 441 (by decide +kernel) (by decide +kernel)
theorem xw_442 : Cond.code yX1_isLike cX1_isLike 2 (some .boolean) ∈ xw_T := xw_in 442 (by decide +kernel) (by decide +kernel)
theorem xw_443 : Cond.methodLink RL 49 yX8_price ∈ xw_T := xw_in 443 (by decide +kernel) (by decide +kernel)
theorem xw_444 : Cond.instanceMethod yX8_price ∈ xw_T := xw_in 444 (by decide +kernel) (by decide +kernel)
theorem xw_445 : Cond.selects RX8 yX8_price yX8_price ∈ xw_T := xw_in 445 (by decide +kernel) (by decide +kernel)
theorem xw_446 : Cond.code yX8_price cX8_price 2 (some .boolean) ∈ xw_T := xw_in 446 (by decide +kernel) (by decide +kernel)
theorem xw_447 : Cond.methodLink RL 54 yX8_join ∈ xw_T := xw_in 447 (by decide +kernel) (by decide +kernel)
theorem xw_448 : Cond.instanceMethod yX8_join ∈ xw_T := xw_in 448 (by decide +kernel) (by decide +kernel)
theorem xw_449 : Cond.selects RX8 yX8_join yX8_join ∈ xw_T := xw_in 449 (by decide +kernel) (by decide +kernel)
theorem xw_450 : Cond.code yX8_join cX8_join 1 (some .int) ∈ xw_T := xw_in 450 (by decide +kernel) (by decide +kernel)
theorem xw_451 : Cond.methodLink RX8 147 yX5_weighAll ∈ xw_T := xw_in 451 (by decide +kernel) (by decide +kernel)
theorem xw_452 : Cond.instanceMethod yX5_weighAll ∈ xw_T := xw_in 452 (by decide +kernel) (by decide +kernel)
theorem xw_453 : Cond.selects RX5 yX5_weighAll yX5_weighAll ∈ xw_T := xw_in 453 (by decide +kernel) (by decide +kernel)
theorem xw_454 : Cond.code yX5_weighAll cX5_weighAll 2 none ∈ xw_T := xw_in 454 (by decide +kernel) (by decide +kernel)
theorem xw_455 : Cond.methodLink RX5 45 yX5_weigh ∈ xw_T := xw_in 455 (by decide +kernel) (by decide +kernel)
theorem xw_456 : Cond.methodLink RX8 150 yX4_settle ∈ xw_T := xw_in 456 (by decide +kernel) (by decide +kernel)
theorem xw_457 : Cond.instanceMethod yX4_settle ∈ xw_T := xw_in 457 (by decide +kernel) (by decide +kernel)
theorem xw_458 : Cond.selects RX4 yX4_settle yX4_settle ∈ xw_T := xw_in 458 (by decide +kernel) (by decide +kernel)
theorem xw_459 : Cond.code yX4_settle cX4_settle 7 none ∈ xw_T := xw_in 459 (by decide +kernel) (by decide +kernel)
theorem xw_460 : Cond.methodLink RX4 27 yJ9_min_7cf53 ∈ xw_T := xw_in 460 (by decide +kernel) (by decide +kernel)
theorem xw_461 : Cond.methodLink RX4 33 yX5_seekBest ∈ xw_T := xw_in 461 (by decide +kernel) (by decide +kernel)
theorem xw_462 : Cond.methodLink RX4 48 yX4_settleSet ∈ xw_T := xw_in 462 (by decide +kernel) (by decide +kernel)
theorem xw_464 : Cond.instanceMethod yX4_settleSet ∈ xw_T := xw_in 464 (by decide +kernel) (by decide +kernel)
theorem xw_465 : Cond.code yX4_settleSet cX4_settleSet 6 none ∈ xw_T := xw_in 465 (by decide +kernel) (by decide +kernel)
theorem xw_466 : Cond.methodLink RX4 52 yX4_firstOf ∈ xw_T := xw_in 466 (by decide +kernel) (by decide +kernel)
theorem xw_467 : Cond.static yX4_firstOf ∈ xw_T := xw_in 467 (by decide +kernel) (by decide +kernel)
theorem xw_468 : Cond.code yX4_firstOf cX4_firstOf 2 (some .int) ∈ xw_T := xw_in 468 (by decide +kernel) (by decide +kernel)
theorem xw_469 : Cond.methodLink RX4 56 yX4_isIn ∈ xw_T := xw_in 469 (by decide +kernel) (by decide +kernel)
theorem xw_470 : Cond.static yX4_isIn ∈ xw_T := xw_in 470 (by decide +kernel) (by decide +kernel)
theorem xw_471 : Cond.code yX4_isIn cX4_isIn 2 (some .boolean) ∈ xw_T := xw_in 471 (by decide +kernel) (by decide +kernel)
theorem xw_472 : Cond.methodLink RX4 59 yX4_without ∈ xw_T := xw_in 472 (by decide +kernel) (by decide +kernel)
theorem xw_473 : Cond.static yX4_without ∈ xw_T := xw_in 473 (by decide +kernel) (by decide +kernel)
theorem xw_474 : Cond.code yX4_without cX4_without 3 (some .int) ∈ xw_T := xw_in 474 (by decide +kernel) (by decide +kernel)
theorem xw_475 : Cond.methodLink RX8 154 yX0_keep ∈ xw_T := xw_in 475 (by decide +kernel) (by decide +kernel)
theorem xw_476 : Cond.instanceMethod yX0_keep ∈ xw_T := xw_in 476 (by decide +kernel) (by decide +kernel)
theorem xw_477 : Cond.selects RX0 yX0_keep yX0_keep ∈ xw_T := xw_in 477 (by decide +kernel) (by decide +kernel)
theorem xw_478 : Cond.code yX0_keep cX0_keep 8 none ∈ xw_T := xw_in 478 (by decide +kernel) (by decide +kernel)
theorem xw_479 : Cond.methodLink RX0 40 yX0_clear ∈ xw_T := xw_in 479 (by decide +kernel) (by decide +kernel)
theorem xw_480 : Cond.methodLink RX0 43 yX4_wholeSet ∈ xw_T := xw_in 480 (by decide +kernel) (by decide +kernel)
theorem xw_481 : Cond.instanceMethod yX4_wholeSet ∈ xw_T := xw_in 481 (by decide +kernel) (by decide +kernel)
theorem xw_482 : Cond.selects RX4 yX4_wholeSet yX4_wholeSet ∈ xw_T := xw_in 482 (by decide +kernel) (by decide +kernel)
theorem xw_483 : Cond.code yX4_wholeSet cX4_wholeSet 1 (some .int) ∈ xw_T := xw_in 483 (by decide +kernel) (by decide +kernel)
theorem xw_484 : Cond.methodLink RX0 49 yX4_firstOf ∈ xw_T := xw_in 484 (by decide +kernel) (by decide +kernel)
theorem xw_485 : Cond.methodLink RX0 53 yX4_mateOfFirst ∈ xw_T := xw_in 485 (by decide +kernel) (by decide +kernel)
theorem xw_486 : Cond.instanceMethod yX4_mateOfFirst ∈ xw_T := xw_in 486 (by decide +kernel) (by decide +kernel)
theorem xw_487 : Cond.selects RX4 yX4_mateOfFirst yX4_mateOfFirst ∈ xw_T := xw_in 487 (by decide +kernel) (by decide +kernel)
theorem xw_488 : Cond.code yX4_mateOfFirst cX4_mateOfFirst 2 (some .int) ∈ xw_T := xw_in 488 (by decide +kernel) (by decide +kernel)
theorem xw_490 : Cond.methodLink RX0 56 yX0_addLeaf ∈ xw_T := xw_in 490 (by decide +kernel) (by decide +kernel)
theorem xw_492 : Cond.instanceMethod yX0_addLeaf ∈ xw_T := xw_in 492 (by decide +kernel) (by decide +kernel)
theorem xw_493 : Cond.code yX0_addLeaf cX0_addLeaf 4 none ∈ xw_T := xw_in 493 (by decide +kernel) (by decide +kernel)
theorem xw_494 : Cond.methodLink RX0 71 yX5_seekBest ∈ xw_T := xw_in 494 (by decide +kernel) (by decide +kernel)
theorem xw_495 : Cond.methodLink RX0 77 yX5_copyFoundTo ∈ xw_T := xw_in 495 (by decide +kernel) (by decide +kernel)
theorem xw_496 : Cond.instanceMethod yX5_copyFoundTo ∈ xw_T := xw_in 496 (by decide +kernel) (by decide +kernel)
theorem xw_497 : Cond.selects RX5 yX5_copyFoundTo yX5_copyFoundTo ∈ xw_T := xw_in 497 (by decide +kernel) (by decide +kernel)
theorem xw_498 : Cond.code yX5_copyFoundTo cX5_copyFoundTo 3 none ∈ xw_T := xw_in 498 (by decide +kernel) (by decide +kernel)
theorem xw_499 : Cond.methodLink RX5 140 yX5_placesUpTo ∈ xw_T := xw_in 499 (by decide +kernel) (by decide +kernel)
theorem xw_501 : Cond.instanceMethod yX5_placesUpTo ∈ xw_T := xw_in 501 (by decide +kernel) (by decide +kernel)
theorem xw_502 : Cond.code yX5_placesUpTo cX5_placesUpTo 6 (some .int) ∈ xw_T := xw_in 502 (by decide +kernel) (by decide +kernel)
theorem xw_503 : Cond.methodLink RX0 60 yX4_without ∈ xw_T := xw_in 503 (by decide +kernel) (by decide +kernel)
theorem xw_504 : Cond.methodLink RX0 64 yX0_keepLists ∈ xw_T := xw_in 504 (by decide +kernel) (by decide +kernel)
theorem xw_506 : Cond.instanceMethod yX0_keepLists ∈ xw_T := xw_in 506 (by decide +kernel) (by decide +kernel)
theorem xw_507 : Cond.code yX0_keepLists cX0_keepLists 3 none ∈ xw_T := xw_in 507 (by decide +kernel) (by decide +kernel)
theorem xw_508 : Cond.methodLink RX0 92 (⟨"java/lang/System", "arraycopy", "(Ljava/lang/Object;ILjava/lang/Object;II)V"⟩ : MethodName) ∈ xw_T := xw_in 508 (by decide +kernel) (by decide +kernel)
theorem xw_509 : Cond.static (⟨"java/lang/System", "arraycopy", "(Ljava/lang/Object;ILjava/lang/Object;II)V"⟩ : MethodName) ∈ xw_T := xw_in 509 (by decide +kernel) (by decide +kernel)
theorem xw_510 : Cond.native (⟨"java/lang/System", "arraycopy", "(Ljava/lang/Object;ILjava/lang/Object;II)V"⟩ : MethodName) ∈ xw_T := xw_in 510 (by decide +kernel) (by decide +kernel)
theorem xw_511 : Cond.methodLink RX0 68 yX0_putInOrder ∈ xw_T := xw_in 511 (by decide +kernel) (by decide +kernel)
theorem xw_513 : Cond.instanceMethod yX0_putInOrder ∈ xw_T := xw_in 513 (by decide +kernel) (by decide +kernel)
theorem xw_514 : Cond.code yX0_putInOrder cX0_putInOrder 3 none ∈ xw_T := xw_in 514 (by decide +kernel) (by decide +kernel)
theorem xw_515 : Cond.methodLink RX8 158 yX4_sum ∈ xw_T := xw_in 515 (by decide +kernel) (by decide +kernel)
theorem xw_516 : Cond.instanceMethod yX4_sum ∈ xw_T := xw_in 516 (by decide +kernel) (by decide +kernel)
theorem xw_517 : Cond.selects RX4 yX4_sum yX4_sum ∈ xw_T := xw_in 517 (by decide +kernel) (by decide +kernel)
theorem xw_518 : Cond.code yX4_sum cX4_sum 1 (some .int) ∈ xw_T := xw_in 518 (by decide +kernel) (by decide +kernel)
theorem xw_519 : Cond.methodLink RL 59 yX8_leaf ∈ xw_T := xw_in 519 (by decide +kernel) (by decide +kernel)
theorem xw_520 : Cond.instanceMethod yX8_leaf ∈ xw_T := xw_in 520 (by decide +kernel) (by decide +kernel)
theorem xw_521 : Cond.selects RX8 yX8_leaf yX8_leaf ∈ xw_T := xw_in 521 (by decide +kernel) (by decide +kernel)
theorem xw_522 : Cond.code yX8_leaf cX8_leaf 4 (some .int) ∈ xw_T := xw_in 522 (by decide +kernel) (by decide +kernel)
theorem xw_523 : Cond.methodLink RX8 161 yX0_has ∈ xw_T := xw_in 523 (by decide +kernel) (by decide +kernel)
theorem xw_524 : Cond.instanceMethod yX0_has ∈ xw_T := xw_in 524 (by decide +kernel) (by decide +kernel)
theorem xw_525 : Cond.selects RX0 yX0_has yX0_has ∈ xw_T := xw_in 525 (by decide +kernel) (by decide +kernel)
theorem xw_526 : Cond.code yX0_has cX0_has 2 (some .boolean) ∈ xw_T := xw_in 526 (by decide +kernel) (by decide +kernel)
theorem xw_527 : Cond.methodLink RL 64 yX8_book ∈ xw_T := xw_in 527 (by decide +kernel) (by decide +kernel)
theorem xw_528 : Cond.instanceMethod yX8_book ∈ xw_T := xw_in 528 (by decide +kernel) (by decide +kernel)
theorem xw_529 : Cond.selects RX8 yX8_book yX8_book ∈ xw_T := xw_in 529 (by decide +kernel) (by decide +kernel)
theorem xw_530 : Cond.code yX8_book cX8_book 3 (some .int) ∈ xw_T := xw_in 530 (by decide +kernel) (by decide +kernel)
theorem xw_531 : Cond.methodLink RX8 177 yX0_lostBehind ∈ xw_T := xw_in 531 (by decide +kernel) (by decide +kernel)
theorem xw_532 : Cond.instanceMethod yX0_lostBehind ∈ xw_T := xw_in 532 (by decide +kernel) (by decide +kernel)
theorem xw_533 : Cond.selects RX0 yX0_lostBehind yX0_lostBehind ∈ xw_T := xw_in 533 (by decide +kernel) (by decide +kernel)
theorem xw_534 : Cond.code yX0_lostBehind cX0_lostBehind 2 (some .int) ∈ xw_T := xw_in 534 (by decide +kernel) (by decide +kernel)
theorem xw_535 : Cond.methodLink RX0 101 yX0_hasNext ∈ xw_T := xw_in 535 (by decide +kernel) (by decide +kernel)
theorem xw_537 : Cond.instanceMethod yX0_hasNext ∈ xw_T := xw_in 537 (by decide +kernel) (by decide +kernel)
theorem xw_538 : Cond.code yX0_hasNext cX0_hasNext 2 (some .boolean) ∈ xw_T := xw_in 538 (by decide +kernel) (by decide +kernel)
theorem xw_539 : Cond.methodLink RX0 108 yX0_clashesBehind ∈ xw_T := xw_in 539 (by decide +kernel) (by decide +kernel)
theorem xw_541 : Cond.instanceMethod yX0_clashesBehind ∈ xw_T := xw_in 541 (by decide +kernel) (by decide +kernel)
theorem xw_542 : Cond.code yX0_clashesBehind cX0_clashesBehind 2 (some .boolean) ∈ xw_T := xw_in 542 (by decide +kernel) (by decide +kernel)
theorem xw_543 : Cond.methodLink RX0 105 yX0_gapBehind ∈ xw_T := xw_in 543 (by decide +kernel) (by decide +kernel)
theorem xw_545 : Cond.instanceMethod yX0_gapBehind ∈ xw_T := xw_in 545 (by decide +kernel) (by decide +kernel)
theorem xw_546 : Cond.code yX0_gapBehind cX0_gapBehind 2 (some .int) ∈ xw_T := xw_in 546 (by decide +kernel) (by decide +kernel)
theorem xw_547 : Cond.methodLink RX8 180 yX0_breaksBehind ∈ xw_T := xw_in 547 (by decide +kernel) (by decide +kernel)
theorem xw_548 : Cond.instanceMethod yX0_breaksBehind ∈ xw_T := xw_in 548 (by decide +kernel) (by decide +kernel)
theorem xw_549 : Cond.selects RX0 yX0_breaksBehind yX0_breaksBehind ∈ xw_T := xw_in 549 (by decide +kernel) (by decide +kernel)
theorem xw_550 : Cond.code yX0_breaksBehind cX0_breaksBehind 2 (some .boolean) ∈ xw_T := xw_in 550 (by decide +kernel) (by decide +kernel)
theorem xw_551 : Cond.methodLink RX0 111 yX0_lostBehind ∈ xw_T := xw_in 551 (by decide +kernel) (by decide +kernel)
theorem xw_552 : Cond.methodLink RL 68 yX8_led ∈ xw_T := xw_in 552 (by decide +kernel) (by decide +kernel)
theorem xw_553 : Cond.instanceMethod yX8_led ∈ xw_T := xw_in 553 (by decide +kernel) (by decide +kernel)
theorem xw_554 : Cond.selects RX8 yX8_led yX8_led ∈ xw_T := xw_in 554 (by decide +kernel) (by decide +kernel)
theorem xw_555 : Cond.code yX8_led cX8_led 7 (some .int) ∈ xw_T := xw_in 555 (by decide +kernel) (by decide +kernel)
theorem xw_556 : Cond.methodLink RX8 186 yX3_partOf ∈ xw_T := xw_in 556 (by decide +kernel) (by decide +kernel)
theorem xw_557 : Cond.instanceMethod yX3_partOf ∈ xw_T := xw_in 557 (by decide +kernel) (by decide +kernel)
theorem xw_558 : Cond.selects RX3 yX3_partOf yX3_partOf ∈ xw_T := xw_in 558 (by decide +kernel) (by decide +kernel)
theorem xw_559 : Cond.code yX3_partOf cX3_partOf 2 (some .int) ∈ xw_T := xw_in 559 (by decide +kernel) (by decide +kernel)
theorem xw_560 : Cond.methodLink RX8 189 yX8_lettersAhead ∈ xw_T := xw_in 560 (by decide +kernel) (by decide +kernel)
theorem xw_561 : Cond.methodLink RX8 192 yX7_letterAt ∈ xw_T := xw_in 561 (by decide +kernel) (by decide +kernel)
theorem xw_562 : Cond.methodLink RX8 198 yX8_hasLetter ∈ xw_T := xw_in 562 (by decide +kernel) (by decide +kernel)
theorem xw_563 : Cond.methodLink RL 72 yX8_count ∈ xw_T := xw_in 563 (by decide +kernel) (by decide +kernel)
theorem xw_564 : Cond.instanceMethod yX8_count ∈ xw_T := xw_in 564 (by decide +kernel) (by decide +kernel)
theorem xw_565 : Cond.selects RX8 yX8_count yX8_count ∈ xw_T := xw_in 565 (by decide +kernel) (by decide +kernel)
theorem xw_566 : Cond.code yX8_count cX8_count 2 (some .int) ∈ xw_T := xw_in 566 (by decide +kernel) (by decide +kernel)
theorem xw_567 : Cond.methodLink RX8 202 yX0_allQuarrels ∈ xw_T := xw_in 567 (by decide +kernel) (by decide +kernel)
theorem xw_568 : Cond.instanceMethod yX0_allQuarrels ∈ xw_T := xw_in 568 (by decide +kernel) (by decide +kernel)
theorem xw_569 : Cond.selects RX0 yX0_allQuarrels yX0_allQuarrels ∈ xw_T := xw_in 569 (by decide +kernel) (by decide +kernel)
theorem xw_570 : Cond.code yX0_allQuarrels cX0_allQuarrels 3 (some .int) ∈ xw_T := xw_in 570 (by decide +kernel) (by decide +kernel)
theorem xw_571 : Cond.methodLink RX8 205 yX0_clashes ∈ xw_T := xw_in 571 (by decide +kernel) (by decide +kernel)
theorem xw_572 : Cond.instanceMethod yX0_clashes ∈ xw_T := xw_in 572 (by decide +kernel) (by decide +kernel)
theorem xw_573 : Cond.selects RX0 yX0_clashes yX0_clashes ∈ xw_T := xw_in 573 (by decide +kernel) (by decide +kernel)
theorem xw_574 : Cond.code yX0_clashes cX0_clashes 3 (some .int) ∈ xw_T := xw_in 574 (by decide +kernel) (by decide +kernel)
theorem xw_575 : Cond.methodLink RX8 208 yX0_breaks ∈ xw_T := xw_in 575 (by decide +kernel) (by decide +kernel)
theorem xw_576 : Cond.instanceMethod yX0_breaks ∈ xw_T := xw_in 576 (by decide +kernel) (by decide +kernel)
theorem xw_577 : Cond.selects RX0 yX0_breaks yX0_breaks ∈ xw_T := xw_in 577 (by decide +kernel) (by decide +kernel)
theorem xw_578 : Cond.code yX0_breaks cX0_breaks 3 (some .int) ∈ xw_T := xw_in 578 (by decide +kernel) (by decide +kernel)
theorem xw_579 : Cond.methodLink RX0 120 yX0_breaksBehind ∈ xw_T := xw_in 579 (by decide +kernel) (by decide +kernel)
theorem xw_580 : Cond.methodLink RX8 211 yX0_allLost ∈ xw_T := xw_in 580 (by decide +kernel) (by decide +kernel)
theorem xw_581 : Cond.instanceMethod yX0_allLost ∈ xw_T := xw_in 581 (by decide +kernel) (by decide +kernel)
theorem xw_582 : Cond.selects RX0 yX0_allLost yX0_allLost ∈ xw_T := xw_in 582 (by decide +kernel) (by decide +kernel)
theorem xw_583 : Cond.code yX0_allLost cX0_allLost 3 (some .int) ∈ xw_T := xw_in 583 (by decide +kernel) (by decide +kernel)
theorem xw_584 : Cond.methodLink RX0 123 yJ9_max_7cf53 ∈ xw_T := xw_in 584 (by decide +kernel) (by decide +kernel)
theorem xw_585 : Cond.classLink RL 10 RX9 ∈ xw_T := xw_in 585 (by decide +kernel) (by decide +kernel)
theorem xw_586 : Cond.instantiable RX9 32 ∈ xw_T := xw_in 586 (by decide +kernel) (by decide +kernel)
theorem xw_587 : Cond.methodLink RL 12 yX9_init ∈ xw_T := xw_in 587 (by decide +kernel) (by decide +kernel)
theorem xw_588 : Cond.instanceMethod yX9_init ∈ xw_T := xw_in 588 (by decide +kernel) (by decide +kernel)
theorem xw_589 : Cond.code yX9_init cX9_init 1 none ∈ xw_T := xw_in 589 (by decide +kernel) (by decide +kernel)
theorem xw_590 : Cond.methodLink RX9 1 (⟨"java/lang/Object", "<init>", "()V"⟩ : MethodName) ∈ xw_T := xw_in 590 (by decide +kernel) (by decide +kernel)
theorem xw_591 : Cond.fieldLink RX9 69 "UnderTextModel" "thrown" "I" ∈ xw_T := xw_in 591 (by decide +kernel) (by decide +kernel)
theorem xw_592 : Cond.fieldLink RX9 7 "UnderTextModel" "tape" "[I" ∈ xw_T := xw_in 592 (by decide +kernel) (by decide +kernel)
theorem xw_593 : Cond.fieldLink RX9 72 "UnderTextModel" "taped" "I" ∈ xw_T := xw_in 593 (by decide +kernel) (by decide +kernel)
theorem xw_594 : Cond.fieldLink RX9 13 "UnderTextModel" "work" "[I" ∈ xw_T := xw_in 594 (by decide +kernel) (by decide +kernel)
theorem xw_595 : Cond.fieldLink RX9 78 "UnderTextModel" "letters" "I" ∈ xw_T := xw_in 595 (by decide +kernel) (by decide +kernel)
theorem xw_596 : Cond.fieldLink RX9 75 "UnderTextModel" "faultKind" "I" ∈ xw_T := xw_in 596 (by decide +kernel) (by decide +kernel)
theorem xw_597 : Cond.fieldLink RX9 16 "UnderTextModel" "faultPlace" "I" ∈ xw_T := xw_in 597 (by decide +kernel) (by decide +kernel)
theorem xw_598 : Cond.fieldLink RX9 88 "UnderTextModel" "halves" "I" ∈ xw_T := xw_in 598 (by decide +kernel) (by decide +kernel)
theorem xw_599 : Cond.fieldLink RX9 20 "UnderTextModel" "part" "[I" ∈ xw_T := xw_in 599 (by decide +kernel) (by decide +kernel)
theorem xw_600 : Cond.fieldLink RX9 23 "UnderTextModel" "side" "[I" ∈ xw_T := xw_in 600 (by decide +kernel) (by decide +kernel)
theorem xw_601 : Cond.fieldLink RX9 26 "UnderTextModel" "ruling" "[I" ∈ xw_T := xw_in 601 (by decide +kernel) (by decide +kernel)
theorem xw_602 : Cond.fieldLink RX9 29 "UnderTextModel" "lists" "[I" ∈ xw_T := xw_in 602 (by decide +kernel) (by decide +kernel)
theorem xw_603 : Cond.fieldLink RX9 100 "UnderTextModel" "odds" "I" ∈ xw_T := xw_in 603 (by decide +kernel) (by decide +kernel)
theorem xw_604 : Cond.fieldLink RX9 120 "UnderTextModel" "leafQuarrels" "I" ∈ xw_T := xw_in 604 (by decide +kernel) (by decide +kernel)
theorem xw_605 : Cond.fieldLink RX9 123 "UnderTextModel" "leafPlace" "I" ∈ xw_T := xw_in 605 (by decide +kernel) (by decide +kernel)
theorem xw_606 : Cond.fieldLink RX9 126 "UnderTextModel" "leafUpper" "I" ∈ xw_T := xw_in 606 (by decide +kernel) (by decide +kernel)
theorem xw_607 : Cond.fieldLink RX9 129 "UnderTextModel" "leafLower" "I" ∈ xw_T := xw_in 607 (by decide +kernel) (by decide +kernel)
theorem xw_608 : Cond.fieldLink RX9 66 "UnderTextModel" "price" "I" ∈ xw_T := xw_in 608 (by decide +kernel) (by decide +kernel)
theorem xw_609 : Cond.fieldLink RX9 32 "UnderTextModel" "rest" "[I" ∈ xw_T := xw_in 609 (by decide +kernel) (by decide +kernel)
theorem xw_610 : Cond.fieldLink RX9 35 "UnderTextModel" "pair" "[I" ∈ xw_T := xw_in 610 (by decide +kernel) (by decide +kernel)
theorem xw_611 : Cond.fieldLink RX9 84 "UnderTextModel" "isJoined" "Z" ∈ xw_T := xw_in 611 (by decide +kernel) (by decide +kernel)
theorem xw_612 : Cond.fieldLink RX9 81 "UnderTextModel" "joined" "I" ∈ xw_T := xw_in 612 (by decide +kernel) (by decide +kernel)
theorem xw_613 : Cond.fieldLink RX9 38 "UnderTextModel" "leafA" "[I" ∈ xw_T := xw_in 613 (by decide +kernel) (by decide +kernel)
theorem xw_614 : Cond.fieldLink RX9 41 "UnderTextModel" "leafB" "[I" ∈ xw_T := xw_in 614 (by decide +kernel) (by decide +kernel)
theorem xw_615 : Cond.fieldLink RX9 44 "UnderTextModel" "leafAt" "[I" ∈ xw_T := xw_in 615 (by decide +kernel) (by decide +kernel)
theorem xw_616 : Cond.fieldLink RX9 47 "UnderTextModel" "leafWorst" "[I" ∈ xw_T := xw_in 616 (by decide +kernel) (by decide +kernel)
theorem xw_617 : Cond.fieldLink RX9 50 "UnderTextModel" "leafMany" "[I" ∈ xw_T := xw_in 617 (by decide +kernel) (by decide +kernel)
theorem xw_618 : Cond.fieldLink RX9 156 "UnderTextModel" "wasPlaces" "I" ∈ xw_T := xw_in 618 (by decide +kernel) (by decide +kernel)
theorem xw_619 : Cond.fieldLink RX9 53 "UnderTextModel" "wasLists" "[I" ∈ xw_T := xw_in 619 (by decide +kernel) (by decide +kernel)
theorem xw_620 : Cond.fieldLink RX9 56 "UnderTextModel" "wasLetter" "[I" ∈ xw_T := xw_in 620 (by decide +kernel) (by decide +kernel)
theorem xw_621 : Cond.fieldLink RX9 59 "UnderTextModel" "wasIn" "[Z" ∈ xw_T := xw_in 621 (by decide +kernel) (by decide +kernel)
theorem xw_622 : Cond.fieldLink RX9 63 "UnderTextModel" "bookOrder" "[I" ∈ xw_T := xw_in 622 (by decide +kernel) (by decide +kernel)
theorem xw_623 : Cond.lays RX9 "UnderTextModel" "thrown" "I" ∈ xw_T := xw_in 623 (by decide +kernel) (by decide +kernel)
theorem xw_625 : Cond.laysFinal RX9 "UnderTextModel" "tape" "[I" ∈ xw_T := xw_in 625 (by decide +kernel) (by decide +kernel)
theorem xw_627 : Cond.lays RX9 "UnderTextModel" "taped" "I" ∈ xw_T := xw_in 627 (by decide +kernel) (by decide +kernel)
theorem xw_629 : Cond.laysFinal RX9 "UnderTextModel" "work" "[I" ∈ xw_T := xw_in 629 (by decide +kernel) (by decide +kernel)
theorem xw_631 : Cond.lays RX9 "UnderTextModel" "letters" "I" ∈ xw_T := xw_in 631 (by decide +kernel) (by decide +kernel)
theorem xw_633 : Cond.lays RX9 "UnderTextModel" "faultKind" "I" ∈ xw_T := xw_in 633 (by decide +kernel) (by decide +kernel)
theorem xw_635 : Cond.lays RX9 "UnderTextModel" "faultPlace" "I" ∈ xw_T := xw_in 635 (by decide +kernel) (by decide +kernel)
theorem xw_637 : Cond.lays RX9 "UnderTextModel" "halves" "I" ∈ xw_T := xw_in 637 (by decide +kernel) (by decide +kernel)
theorem xw_639 : Cond.laysFinal RX9 "UnderTextModel" "part" "[I" ∈ xw_T := xw_in 639 (by decide +kernel) (by decide +kernel)
theorem xw_641 : Cond.laysFinal RX9 "UnderTextModel" "side" "[I" ∈ xw_T := xw_in 641 (by decide +kernel) (by decide +kernel)
theorem xw_643 : Cond.laysFinal RX9 "UnderTextModel" "ruling" "[I" ∈ xw_T := xw_in 643 (by decide +kernel) (by decide +kernel)
theorem xw_645 : Cond.laysFinal RX9 "UnderTextModel" "lists" "[I" ∈ xw_T := xw_in 645 (by decide +kernel) (by decide +kernel)
theorem xw_647 : Cond.lays RX9 "UnderTextModel" "odds" "I" ∈ xw_T := xw_in 647 (by decide +kernel) (by decide +kernel)
theorem xw_649 : Cond.lays RX9 "UnderTextModel" "leafQuarrels" "I" ∈ xw_T := xw_in 649 (by decide +kernel) (by decide +kernel)
theorem xw_651 : Cond.lays RX9 "UnderTextModel" "leafPlace" "I" ∈ xw_T := xw_in 651 (by decide +kernel) (by decide +kernel)
theorem xw_653 : Cond.lays RX9 "UnderTextModel" "leafUpper" "I" ∈ xw_T := xw_in 653 (by decide +kernel) (by decide +kernel)
theorem xw_655 : Cond.lays RX9 "UnderTextModel" "leafLower" "I" ∈ xw_T := xw_in 655 (by decide +kernel) (by decide +kernel)
theorem xw_657 : Cond.lays RX9 "UnderTextModel" "price" "I" ∈ xw_T := xw_in 657 (by decide +kernel) (by decide +kernel)
theorem xw_659 : Cond.laysFinal RX9 "UnderTextModel" "rest" "[I" ∈ xw_T := xw_in 659 (by decide +kernel) (by decide +kernel)
theorem xw_661 : Cond.laysFinal RX9 "UnderTextModel" "pair" "[I" ∈ xw_T := xw_in 661 (by decide +kernel) (by decide +kernel)
theorem xw_663 : Cond.lays RX9 "UnderTextModel" "isJoined" "Z" ∈ xw_T := xw_in 663 (by decide +kernel) (by decide +kernel)
theorem xw_665 : Cond.lays RX9 "UnderTextModel" "joined" "I" ∈ xw_T := xw_in 665 (by decide +kernel) (by decide +kernel)
theorem xw_667 : Cond.laysFinal RX9 "UnderTextModel" "leafA" "[I" ∈ xw_T := xw_in 667 (by decide +kernel) (by decide +kernel)
theorem xw_669 : Cond.laysFinal RX9 "UnderTextModel" "leafB" "[I" ∈ xw_T := xw_in 669 (by decide +kernel) (by decide +kernel)
theorem xw_671 : Cond.laysFinal RX9 "UnderTextModel" "leafAt" "[I" ∈ xw_T := xw_in 671 (by decide +kernel) (by decide +kernel)
theorem xw_673 : Cond.laysFinal RX9 "UnderTextModel" "leafWorst" "[I" ∈ xw_T := xw_in 673 (by decide +kernel) (by decide +kernel)
theorem xw_675 : Cond.laysFinal RX9 "UnderTextModel" "leafMany" "[I" ∈ xw_T := xw_in 675 (by decide +kernel) (by decide +kernel)
theorem xw_677 : Cond.lays RX9 "UnderTextModel" "wasPlaces" "I" ∈ xw_T := xw_in 677 (by decide +kernel) (by decide +kernel)
theorem xw_679 : Cond.laysFinal RX9 "UnderTextModel" "wasLists" "[I" ∈ xw_T := xw_in 679 (by decide +kernel) (by decide +kernel)
theorem xw_681 : Cond.laysFinal RX9 "UnderTextModel" "wasLetter" "[I" ∈ xw_T := xw_in 681 (by decide +kernel) (by decide +kernel)
theorem xw_683 : Cond.laysFinal RX9 "UnderTextModel" "wasIn" "[Z" ∈ xw_T := xw_in 683 (by decide +kernel) (by decide +kernel)
theorem xw_685 : Cond.laysFinal RX9 "UnderTextModel" "bookOrder" "[I" ∈ xw_T := xw_in 685 (by decide +kernel) (by decide +kernel)
theorem xw_688 : Cond.arrayClass .boolean ∈ xw_T := xw_in 688 (by decide +kernel) (by decide +kernel)
theorem xw_689 : Cond.methodLink RL 17 yX9_feed ∈ xw_T := xw_in 689 (by decide +kernel) (by decide +kernel)
theorem xw_690 : Cond.instanceMethod yX9_feed ∈ xw_T := xw_in 690 (by decide +kernel) (by decide +kernel)
theorem xw_691 : Cond.selects RX9 yX9_feed yX9_feed ∈ xw_T := xw_in 691 (by decide +kernel) (by decide +kernel)
theorem xw_692 : Cond.code yX9_feed cX9_feed 8 (some .int) ∈ xw_T := xw_in 692 (by decide +kernel) (by decide +kernel)
theorem xw_693 : Cond.methodLink RL 22 yX9_work ∈ xw_T := xw_in 693 (by decide +kernel) (by decide +kernel)
theorem xw_694 : Cond.instanceMethod yX9_work ∈ xw_T := xw_in 694 (by decide +kernel) (by decide +kernel)
theorem xw_695 : Cond.selects RX9 yX9_work yX9_work ∈ xw_T := xw_in 695 (by decide +kernel) (by decide +kernel)
theorem xw_696 : Cond.code yX9_work cX9_work 5 (some .int) ∈ xw_T := xw_in 696 (by decide +kernel) (by decide +kernel)
theorem xw_697 : Cond.methodLink RL 26 yX9_fault ∈ xw_T := xw_in 697 (by decide +kernel) (by decide +kernel)
theorem xw_698 : Cond.instanceMethod yX9_fault ∈ xw_T := xw_in 698 (by decide +kernel) (by decide +kernel)
theorem xw_699 : Cond.selects RX9 yX9_fault yX9_fault ∈ xw_T := xw_in 699 (by decide +kernel) (by decide +kernel)
theorem xw_700 : Cond.code yX9_fault cX9_fault 2 (some .int) ∈ xw_T := xw_in 700 (by decide +kernel) (by decide +kernel)
theorem xw_701 : Cond.methodLink RL 31 yX9_half ∈ xw_T := xw_in 701 (by decide +kernel) (by decide +kernel)
theorem xw_702 : Cond.instanceMethod yX9_half ∈ xw_T := xw_in 702 (by decide +kernel) (by decide +kernel)
theorem xw_703 : Cond.selects RX9 yX9_half yX9_half ∈ xw_T := xw_in 703 (by decide +kernel) (by decide +kernel)
theorem xw_704 : Cond.code yX9_half cX9_half 5 (some .int) ∈ xw_T := xw_in 704 (by decide +kernel) (by decide +kernel)
theorem xw_705 : Cond.constant RX9 91 (65535) ∈ xw_T := xw_in 705 (by decide +kernel) (by decide +kernel)
theorem xw_706 : Cond.methodLink RL 36 yX9_light ∈ xw_T := xw_in 706 (by decide +kernel) (by decide +kernel)
theorem xw_707 : Cond.instanceMethod yX9_light ∈ xw_T := xw_in 707 (by decide +kernel) (by decide +kernel)
theorem xw_708 : Cond.selects RX9 yX9_light yX9_light ∈ xw_T := xw_in 708 (by decide +kernel) (by decide +kernel)
theorem xw_709 : Cond.code yX9_light cX9_light 9 (some .int) ∈ xw_T := xw_in 709 (by decide +kernel) (by decide +kernel)
theorem xw_710 : Cond.methodLink RX9 96 yX9_spotAt ∈ xw_T := xw_in 710 (by decide +kernel) (by decide +kernel)
theorem xw_712 : Cond.instanceMethod yX9_spotAt ∈ xw_T := xw_in 712 (by decide +kernel) (by decide +kernel)
theorem xw_713 : Cond.code yX9_spotAt cX9_spotAt 4 (some .int) ∈ xw_T := xw_in 713 (by decide +kernel) (by decide +kernel)
theorem xw_714 : Cond.methodLink RX9 92 yX9_isHalf ∈ xw_T := xw_in 714 (by decide +kernel) (by decide +kernel)
theorem xw_716 : Cond.instanceMethod yX9_isHalf ∈ xw_T := xw_in 716 (by decide +kernel) (by decide +kernel)
theorem xw_717 : Cond.code yX9_isHalf cX9_isHalf 2 (some .boolean) ∈ xw_T := xw_in 717 (by decide +kernel) (by decide +kernel)
theorem xw_718 : Cond.methodLink RL 40 yX9_list ∈ xw_T := xw_in 718 (by decide +kernel) (by decide +kernel)
theorem xw_719 : Cond.instanceMethod yX9_list ∈ xw_T := xw_in 719 (by decide +kernel) (by decide +kernel)
theorem xw_720 : Cond.selects RX9 yX9_list yX9_list ∈ xw_T := xw_in 720 (by decide +kernel) (by decide +kernel)
theorem xw_721 : Cond.code yX9_list cX9_list 5 (some .int) ∈ xw_T := xw_in 721 (by decide +kernel) (by decide +kernel)
theorem xw_722 : Cond.methodLink RL 44 yX9_quarrels ∈ xw_T := xw_in 722 (by decide +kernel) (by decide +kernel)
theorem xw_723 : Cond.instanceMethod yX9_quarrels ∈ xw_T := xw_in 723 (by decide +kernel) (by decide +kernel)
theorem xw_724 : Cond.selects RX9 yX9_quarrels yX9_quarrels ∈ xw_T := xw_in 724 (by decide +kernel) (by decide +kernel)
theorem xw_725 : Cond.code yX9_quarrels cX9_quarrels 4 (some .int) ∈ xw_T := xw_in 725 (by decide +kernel) (by decide +kernel)
theorem xw_726 : Cond.methodLink RX9 106 yX9_places ∈ xw_T := xw_in 726 (by decide +kernel) (by decide +kernel)
theorem xw_728 : Cond.instanceMethod yX9_places ∈ xw_T := xw_in 728 (by decide +kernel) (by decide +kernel)
theorem xw_729 : Cond.code yX9_places cX9_places 1 (some .int) ∈ xw_T := xw_in 729 (by decide +kernel) (by decide +kernel)
theorem xw_730 : Cond.methodLink RX9 110 yX9_quarrelsOf ∈ xw_T := xw_in 730 (by decide +kernel) (by decide +kernel)
theorem xw_732 : Cond.instanceMethod yX9_quarrelsOf ∈ xw_T := xw_in 732 (by decide +kernel) (by decide +kernel)
theorem xw_733 : Cond.code yX9_quarrelsOf cX9_quarrelsOf 6 (some .int) ∈ xw_T := xw_in 733 (by decide +kernel) (by decide +kernel)
theorem xw_734 : Cond.methodLink RX9 103 yX9_letterAt ∈ xw_T := xw_in 734 (by decide +kernel) (by decide +kernel)
theorem xw_736 : Cond.instanceMethod yX9_letterAt ∈ xw_T := xw_in 736 (by decide +kernel) (by decide +kernel)
theorem xw_737 : Cond.code yX9_letterAt cX9_letterAt 4 (some .int) ∈ xw_T := xw_in 737 (by decide +kernel) (by decide +kernel)
theorem xw_738 : Cond.methodLink RL 48 yX9_best ∈ xw_T := xw_in 738 (by decide +kernel) (by decide +kernel)
theorem xw_739 : Cond.instanceMethod yX9_best ∈ xw_T := xw_in 739 (by decide +kernel) (by decide +kernel)
theorem xw_740 : Cond.selects RX9 yX9_best yX9_best ∈ xw_T := xw_in 740 (by decide +kernel) (by decide +kernel)
theorem xw_741 : Cond.code yX9_best cX9_best 4 (some .int) ∈ xw_T := xw_in 741 (by decide +kernel) (by decide +kernel)
theorem xw_742 : Cond.methodLink RX9 145 yX9_bests ∈ xw_T := xw_in 742 (by decide +kernel) (by decide +kernel)
theorem xw_744 : Cond.instanceMethod yX9_bests ∈ xw_T := xw_in 744 (by decide +kernel) (by decide +kernel)
theorem xw_745 : Cond.code yX9_bests cX9_bests 5 (some .boolean) ∈ xw_T := xw_in 745 (by decide +kernel) (by decide +kernel)
theorem xw_746 : Cond.methodLink RX9 132 yJ9_min_7cf53 ∈ xw_T := xw_in 746 (by decide +kernel) (by decide +kernel)
theorem xw_747 : Cond.methodLink RX9 138 yJ9_max_7cf53 ∈ xw_T := xw_in 747 (by decide +kernel) (by decide +kernel)
theorem xw_748 : Cond.methodLink RX9 141 yX9_tries ∈ xw_T := xw_in 748 (by decide +kernel) (by decide +kernel)
theorem xw_750 : Cond.instanceMethod yX9_tries ∈ xw_T := xw_in 750 (by decide +kernel) (by decide +kernel)
theorem xw_751 : Cond.code yX9_tries cX9_tries 5 none ∈ xw_T := xw_in 751 (by decide +kernel) (by decide +kernel)
theorem xw_752 : Cond.methodLink RX9 113 yX9_canBe ∈ xw_T := xw_in 752 (by decide +kernel) (by decide +kernel)
theorem xw_754 : Cond.instanceMethod yX9_canBe ∈ xw_T := xw_in 754 (by decide +kernel) (by decide +kernel)
theorem xw_755 : Cond.code yX9_canBe cX9_canBe 3 (some .boolean) ∈ xw_T := xw_in 755 (by decide +kernel) (by decide +kernel)
theorem xw_756 : Cond.methodLink RX9 117 yX9_both ∈ xw_T := xw_in 756 (by decide +kernel) (by decide +kernel)
theorem xw_758 : Cond.instanceMethod yX9_both ∈ xw_T := xw_in 758 (by decide +kernel) (by decide +kernel)
theorem xw_759 : Cond.code yX9_both cX9_both 4 (some .int) ∈ xw_T := xw_in 759 (by decide +kernel) (by decide +kernel)
theorem xw_760 : Cond.methodLink RL 53 yX9_price ∈ xw_T := xw_in 760 (by decide +kernel) (by decide +kernel)
theorem xw_761 : Cond.instanceMethod yX9_price ∈ xw_T := xw_in 761 (by decide +kernel) (by decide +kernel)
theorem xw_762 : Cond.selects RX9 yX9_price yX9_price ∈ xw_T := xw_in 762 (by decide +kernel) (by decide +kernel)
theorem xw_763 : Cond.code yX9_price cX9_price 2 (some .boolean) ∈ xw_T := xw_in 763 (by decide +kernel) (by decide +kernel)
theorem xw_764 : Cond.methodLink RL 58 yX9_join ∈ xw_T := xw_in 764 (by decide +kernel) (by decide +kernel)
theorem xw_765 : Cond.instanceMethod yX9_join ∈ xw_T := xw_in 765 (by decide +kernel) (by decide +kernel)
theorem xw_766 : Cond.selects RX9 yX9_join yX9_join ∈ xw_T := xw_in 766 (by decide +kernel) (by decide +kernel)
theorem xw_767 : Cond.code yX9_join cX9_join 4 (some .int) ∈ xw_T := xw_in 767 (by decide +kernel) (by decide +kernel)
theorem xw_768 : Cond.methodLink RX9 148 yX9_first ∈ xw_T := xw_in 768 (by decide +kernel) (by decide +kernel)
theorem xw_769 : Cond.static yX9_first ∈ xw_T := xw_in 769 (by decide +kernel) (by decide +kernel)
theorem xw_770 : Cond.code yX9_first cX9_first 2 (some .int) ∈ xw_T := xw_in 770 (by decide +kernel) (by decide +kernel)
theorem xw_771 : Cond.constant RX9 152 (1000000) ∈ xw_T := xw_in 771 (by decide +kernel) (by decide +kernel)
theorem xw_772 : Cond.methodLink RX9 153 yX9_leaves ∈ xw_T := xw_in 772 (by decide +kernel) (by decide +kernel)
theorem xw_774 : Cond.instanceMethod yX9_leaves ∈ xw_T := xw_in 774 (by decide +kernel) (by decide +kernel)
theorem xw_775 : Cond.code yX9_leaves cX9_leaves 4 none ∈ xw_T := xw_in 775 (by decide +kernel) (by decide +kernel)
theorem xw_776 : Cond.methodLink RX9 159 yX9_comes ∈ xw_T := xw_in 776 (by decide +kernel) (by decide +kernel)
theorem xw_778 : Cond.instanceMethod yX9_comes ∈ xw_T := xw_in 778 (by decide +kernel) (by decide +kernel)
theorem xw_779 : Cond.code yX9_comes cX9_comes 2 none ∈ xw_T := xw_in 779 (by decide +kernel) (by decide +kernel)
theorem xw_780 : Cond.methodLink RX9 162 yX9_orders ∈ xw_T := xw_in 780 (by decide +kernel) (by decide +kernel)
theorem xw_782 : Cond.instanceMethod yX9_orders ∈ xw_T := xw_in 782 (by decide +kernel) (by decide +kernel)
theorem xw_783 : Cond.code yX9_orders cX9_orders 3 none ∈ xw_T := xw_in 783 (by decide +kernel) (by decide +kernel)
theorem xw_784 : Cond.methodLink RL 63 yX9_leaf ∈ xw_T := xw_in 784 (by decide +kernel) (by decide +kernel)
theorem xw_785 : Cond.instanceMethod yX9_leaf ∈ xw_T := xw_in 785 (by decide +kernel) (by decide +kernel)
theorem xw_786 : Cond.selects RX9 yX9_leaf yX9_leaf ∈ xw_T := xw_in 786 (by decide +kernel) (by decide +kernel)
theorem xw_787 : Cond.code yX9_leaf cX9_leaf 3 (some .int) ∈ xw_T := xw_in 787 (by decide +kernel) (by decide +kernel)
theorem xw_788 : Cond.methodLink RL 67 yX9_book ∈ xw_T := xw_in 788 (by decide +kernel) (by decide +kernel)
theorem xw_789 : Cond.instanceMethod yX9_book ∈ xw_T := xw_in 789 (by decide +kernel) (by decide +kernel)
theorem xw_790 : Cond.selects RX9 yX9_book yX9_book ∈ xw_T := xw_in 790 (by decide +kernel) (by decide +kernel)
theorem xw_791 : Cond.code yX9_book cX9_book 3 (some .int) ∈ xw_T := xw_in 791 (by decide +kernel) (by decide +kernel)
theorem xw_792 : Cond.methodLink RX9 171 yX9_lostBehind ∈ xw_T := xw_in 792 (by decide +kernel) (by decide +kernel)
theorem xw_794 : Cond.instanceMethod yX9_lostBehind ∈ xw_T := xw_in 794 (by decide +kernel) (by decide +kernel)
theorem xw_795 : Cond.code yX9_lostBehind cX9_lostBehind 3 (some .int) ∈ xw_T := xw_in 795 (by decide +kernel) (by decide +kernel)
theorem xw_796 : Cond.methodLink RX9 165 yX9_between ∈ xw_T := xw_in 796 (by decide +kernel) (by decide +kernel)
theorem xw_798 : Cond.instanceMethod yX9_between ∈ xw_T := xw_in 798 (by decide +kernel) (by decide +kernel)
theorem xw_799 : Cond.code yX9_between cX9_between 2 (some .int) ∈ xw_T := xw_in 799 (by decide +kernel) (by decide +kernel)
theorem xw_800 : Cond.methodLink RX9 174 yX9_breaks ∈ xw_T := xw_in 800 (by decide +kernel) (by decide +kernel)
theorem xw_802 : Cond.instanceMethod yX9_breaks ∈ xw_T := xw_in 802 (by decide +kernel) (by decide +kernel)
theorem xw_803 : Cond.code yX9_breaks cX9_breaks 2 (some .boolean) ∈ xw_T := xw_in 803 (by decide +kernel) (by decide +kernel)
theorem xw_804 : Cond.methodLink RX9 168 yX9_sideOf ∈ xw_T := xw_in 804 (by decide +kernel) (by decide +kernel)
theorem xw_806 : Cond.instanceMethod yX9_sideOf ∈ xw_T := xw_in 806 (by decide +kernel) (by decide +kernel)
theorem xw_807 : Cond.code yX9_sideOf cX9_sideOf 2 (some .int) ∈ xw_T := xw_in 807 (by decide +kernel) (by decide +kernel)
theorem xw_808 : Cond.methodLink RL 71 yX9_led ∈ xw_T := xw_in 808 (by decide +kernel) (by decide +kernel)
theorem xw_809 : Cond.instanceMethod yX9_led ∈ xw_T := xw_in 809 (by decide +kernel) (by decide +kernel)
theorem xw_810 : Cond.selects RX9 yX9_led yX9_led ∈ xw_T := xw_in 810 (by decide +kernel) (by decide +kernel)
theorem xw_811 : Cond.code yX9_led cX9_led 5 (some .int) ∈ xw_T := xw_in 811 (by decide +kernel) (by decide +kernel)
theorem xw_812 : Cond.methodLink RL 75 yX9_count ∈ xw_T := xw_in 812 (by decide +kernel) (by decide +kernel)
theorem xw_813 : Cond.instanceMethod yX9_count ∈ xw_T := xw_in 813 (by decide +kernel) (by decide +kernel)
theorem xw_814 : Cond.selects RX9 yX9_count yX9_count ∈ xw_T := xw_in 814 (by decide +kernel) (by decide +kernel)
theorem xw_815 : Cond.code yX9_count cX9_count 8 (some .int) ∈ xw_T := xw_in 815 (by decide +kernel) (by decide +kernel)
theorem xu_0 : ∀ w ∈ u_ws RX0 TX0 5, w ∈ xw_T := by
  intro w hw
  obtain ⟨k, hk, rfl⟩ := List.mem_map.mp hw
  have hk := List.mem_range.mp hk
  match k, hk with
  | 0, _ => exact xw_254
  | 1, _ => exact xw_256
  | 2, _ => exact xw_258
  | 3, _ => exact xw_260
  | 4, _ => exact xw_262
  | k + 5, hk => exact absurd hk (by omega)
theorem xu_1 : ∀ w ∈ u_ws RX1 TX1 4, w ∈ xw_T := by
  intro w hw
  obtain ⟨k, hk, rfl⟩ := List.mem_map.mp hw
  have hk := List.mem_range.mp hk
  match k, hk with
  | 0, _ => exact xw_122
  | 1, _ => exact xw_124
  | 2, _ => exact xw_126
  | 3, _ => exact xw_128
  | k + 4, hk => exact absurd hk (by omega)
theorem xu_2 : ∀ w ∈ u_ws RX2 TX2 2, w ∈ xw_T := by
  intro w hw
  obtain ⟨k, hk, rfl⟩ := List.mem_map.mp hw
  have hk := List.mem_range.mp hk
  match k, hk with
  | 0, _ => exact xw_139
  | 1, _ => exact xw_141
  | k + 2, hk => exact absurd hk (by omega)
theorem xu_3 : ∀ w ∈ u_ws RX3 TX3 7, w ∈ xw_T := by
  intro w hw
  obtain ⟨k, hk, rfl⟩ := List.mem_map.mp hw
  have hk := List.mem_range.mp hk
  match k, hk with
  | 0, _ => exact xw_174
  | 1, _ => exact xw_176
  | 2, _ => exact xw_178
  | 3, _ => exact xw_180
  | 4, _ => exact xw_182
  | 5, _ => exact xw_184
  | 6, _ => exact xw_186
  | k + 7, hk => exact absurd hk (by omega)
theorem xu_4 : ∀ w ∈ u_ws RX4 TX4 4, w ∈ xw_T := by
  intro w hw
  obtain ⟨k, hk, rfl⟩ := List.mem_map.mp hw
  have hk := List.mem_range.mp hk
  match k, hk with
  | 0, _ => exact xw_222
  | 1, _ => exact xw_224
  | 2, _ => exact xw_226
  | 3, _ => exact xw_228
  | k + 4, hk => exact absurd hk (by omega)
theorem xu_5 : ∀ w ∈ u_ws RX5 TX5 5, w ∈ xw_T := by
  intro w hw
  obtain ⟨k, hk, rfl⟩ := List.mem_map.mp hw
  have hk := List.mem_range.mp hk
  match k, hk with
  | 0, _ => exact xw_200
  | 1, _ => exact xw_202
  | 2, _ => exact xw_204
  | 3, _ => exact xw_206
  | 4, _ => exact xw_208
  | k + 5, hk => exact absurd hk (by omega)
theorem xu_6 : ∀ w ∈ u_ws RX6 TX6 2, w ∈ xw_T := by
  intro w hw
  obtain ⟨k, hk, rfl⟩ := List.mem_map.mp hw
  have hk := List.mem_range.mp hk
  match k, hk with
  | 0, _ => exact xw_63
  | 1, _ => exact xw_65
  | k + 2, hk => exact absurd hk (by omega)
theorem xu_7 : ∀ w ∈ u_ws RX7 TX7 4, w ∈ xw_T := by
  intro w hw
  obtain ⟨k, hk, rfl⟩ := List.mem_map.mp hw
  have hk := List.mem_range.mp hk
  match k, hk with
  | 0, _ => exact xw_88
  | 1, _ => exact xw_90
  | 2, _ => exact xw_92
  | 3, _ => exact xw_94
  | k + 4, hk => exact absurd hk (by omega)
theorem xu_8 : ∀ w ∈ u_ws RX8 TX8 8, w ∈ xw_T := by
  intro w hw
  obtain ⟨k, hk, rfl⟩ := List.mem_map.mp hw
  have hk := List.mem_range.mp hk
  match k, hk with
  | 0, _ => exact xw_273
  | 1, _ => exact xw_275
  | 2, _ => exact xw_277
  | 3, _ => exact xw_279
  | 4, _ => exact xw_281
  | 5, _ => exact xw_283
  | 6, _ => exact xw_285
  | 7, _ => exact xw_287
  | k + 8, hk => exact absurd hk (by omega)
theorem xu_9 : ∀ w ∈ u_ws RX9 TX9 32, w ∈ xw_T := by
  intro w hw
  obtain ⟨k, hk, rfl⟩ := List.mem_map.mp hw
  have hk := List.mem_range.mp hk
  match k, hk with
  | 0, _ => exact xw_623
  | 1, _ => exact xw_625
  | 2, _ => exact xw_627
  | 3, _ => exact xw_629
  | 4, _ => exact xw_631
  | 5, _ => exact xw_633
  | 6, _ => exact xw_635
  | 7, _ => exact xw_637
  | 8, _ => exact xw_639
  | 9, _ => exact xw_641
  | 10, _ => exact xw_643
  | 11, _ => exact xw_645
  | 12, _ => exact xw_647
  | 13, _ => exact xw_649
  | 14, _ => exact xw_651
  | 15, _ => exact xw_653
  | 16, _ => exact xw_655
  | 17, _ => exact xw_657
  | 18, _ => exact xw_659
  | 19, _ => exact xw_661
  | 20, _ => exact xw_663
  | 21, _ => exact xw_665
  | 22, _ => exact xw_667
  | 23, _ => exact xw_669
  | 24, _ => exact xw_671
  | 25, _ => exact xw_673
  | 26, _ => exact xw_675
  | 27, _ => exact xw_677
  | 28, _ => exact xw_679
  | 29, _ => exact xw_681
  | 30, _ => exact xw_683
  | 31, _ => exact xw_685
  | k + 32, hk => exact absurd hk (by omega)
end
section
theorem dX0_init_0 : decode cX0_init 0 = .ok (.aload_n 0, 1) := by decide +kernel
theorem dX0_init_1 : decode cX0_init 1 = .ok (.invokespecial 3, 3) := by decide +kernel
theorem dX0_init_4 : decode cX0_init 4 = .ok (.aload_n 0, 1) := by decide +kernel
theorem dX0_init_5 : decode cX0_init 5 = .ok (.bipush 8, 2) := by decide +kernel
theorem dX0_init_7 : decode cX0_init 7 = .ok (.anewarray 9, 3) := by decide +kernel
theorem dX0_init_10 : decode cX0_init 10 = .ok (.putfield 11, 3) := by decide +kernel
theorem dX0_init_13 : decode cX0_init 13 = .ok (.aload_n 0, 1) := by decide +kernel
theorem dX0_init_14 : decode cX0_init 14 = .ok (.bipush 8, 2) := by decide +kernel
theorem dX0_init_16 : decode cX0_init 16 = .ok (.newarray .int, 2) := by decide +kernel
theorem dX0_init_18 : decode cX0_init 18 = .ok (.putfield 17, 3) := by decide +kernel
theorem dX0_init_21 : decode cX0_init 21 = .ok (.aload_n 0, 1) := by decide +kernel
theorem dX0_init_22 : decode cX0_init 22 = .ok (.bipush 8, 2) := by decide +kernel
theorem dX0_init_24 : decode cX0_init 24 = .ok (.newarray .int, 2) := by decide +kernel
theorem dX0_init_26 : decode cX0_init 26 = .ok (.putfield 21, 3) := by decide +kernel
theorem dX0_init_29 : decode cX0_init 29 = .ok (.aload_n 0, 1) := by decide +kernel
theorem dX0_init_30 : decode cX0_init 30 = .ok (.bipush 8, 2) := by decide +kernel
theorem dX0_init_32 : decode cX0_init 32 = .ok (.bipush 16, 2) := by decide +kernel
theorem dX0_init_34 : decode cX0_init 34 = .ok (.multianewarray 24 2, 4) := by decide +kernel
theorem dX0_init_38 : decode cX0_init 38 = .ok (.putfield 26, 3) := by decide +kernel
theorem dX0_init_41 : decode cX0_init 41 = .ok (.aload_n 0, 1) := by decide +kernel
theorem dX0_init_42 : decode cX0_init 42 = .ok (.iconst 0, 1) := by decide +kernel
theorem dX0_init_43 : decode cX0_init 43 = .ok (.putfield 29, 3) := by decide +kernel
theorem dX0_init_46 : decode cX0_init 46 = .ok (.iconst 0, 1) := by decide +kernel
theorem dX0_init_47 : decode cX0_init 47 = .ok (.istore_n 1, 1) := by decide +kernel
theorem dX0_init_48 : decode cX0_init 48 = .ok (.iload_n 1, 1) := by decide +kernel
theorem dX0_init_49 : decode cX0_init 49 = .ok (.bipush 8, 2) := by decide +kernel
theorem dX0_init_51 : decode cX0_init 51 = .ok (.if_icmp .ge 22, 3) := by decide +kernel
theorem dX0_init_54 : decode cX0_init 54 = .ok (.aload_n 0, 1) := by decide +kernel
theorem dX0_init_55 : decode cX0_init 55 = .ok (.getfield 11, 3) := by decide +kernel
theorem dX0_init_58 : decode cX0_init 58 = .ok (.iload_n 1, 1) := by decide +kernel
theorem dX0_init_59 : decode cX0_init 59 = .ok (.new 9, 3) := by decide +kernel
theorem dX0_init_62 : decode cX0_init 62 = .ok (.dup, 1) := by decide +kernel
theorem dX0_init_63 : decode cX0_init 63 = .ok (.invokespecial 33, 3) := by decide +kernel
theorem dX0_init_66 : decode cX0_init 66 = .ok (.aastore, 1) := by decide +kernel
theorem dX0_init_67 : decode cX0_init 67 = .ok (.iinc 1 1, 3) := by decide +kernel
theorem dX0_init_70 : decode cX0_init 70 = .ok (.goto (-22), 3) := by decide +kernel
theorem dX0_init_73 : decode cX0_init 73 = .ok (.aload_n 0, 1) := by decide +kernel
theorem dX0_init_74 : decode cX0_init 74 = .ok (.getfield 21, 3) := by decide +kernel
theorem dX0_init_77 : decode cX0_init 77 = .ok (.iconst (-1), 1) := by decide +kernel
theorem dX0_init_78 : decode cX0_init 78 = .ok (.invokestatic 34, 3) := by decide +kernel
theorem dX0_init_81 : decode cX0_init 81 = .ok (.return_, 1) := by decide +kernel
theorem dX0_clear_0 : decode cX0_clear 0 = .ok (.aload_n 0, 1) := by decide +kernel
theorem dX0_clear_1 : decode cX0_clear 1 = .ok (.iconst 0, 1) := by decide +kernel
theorem dX0_clear_2 : decode cX0_clear 2 = .ok (.putfield 29, 3) := by decide +kernel
theorem dX0_clear_5 : decode cX0_clear 5 = .ok (.aload_n 0, 1) := by decide +kernel
theorem dX0_clear_6 : decode cX0_clear 6 = .ok (.getfield 21, 3) := by decide +kernel
theorem dX0_clear_9 : decode cX0_clear 9 = .ok (.iconst (-1), 1) := by decide +kernel
theorem dX0_clear_10 : decode cX0_clear 10 = .ok (.invokestatic 34, 3) := by decide +kernel
theorem dX0_clear_13 : decode cX0_clear 13 = .ok (.return_, 1) := by decide +kernel
theorem dX0_has_0 : decode cX0_has 0 = .ok (.iload_n 1, 1) := by decide +kernel
theorem dX0_has_1 : decode cX0_has 1 = .ok (.ifCond .lt 21, 3) := by decide +kernel
theorem dX0_has_4 : decode cX0_has 4 = .ok (.iload_n 1, 1) := by decide +kernel
theorem dX0_has_5 : decode cX0_has 5 = .ok (.aload_n 0, 1) := by decide +kernel
theorem dX0_has_6 : decode cX0_has 6 = .ok (.getfield 29, 3) := by decide +kernel
theorem dX0_has_9 : decode cX0_has 9 = .ok (.if_icmp .ge 13, 3) := by decide +kernel
theorem dX0_has_12 : decode cX0_has 12 = .ok (.iload_n 1, 1) := by decide +kernel
theorem dX0_has_13 : decode cX0_has 13 = .ok (.bipush 8, 2) := by decide +kernel
theorem dX0_has_15 : decode cX0_has 15 = .ok (.if_icmp .ge 7, 3) := by decide +kernel
theorem dX0_has_18 : decode cX0_has 18 = .ok (.iconst 1, 1) := by decide +kernel
theorem dX0_has_19 : decode cX0_has 19 = .ok (.goto 4, 3) := by decide +kernel
theorem dX0_has_22 : decode cX0_has 22 = .ok (.iconst 0, 1) := by decide +kernel
theorem dX0_has_23 : decode cX0_has 23 = .ok (.ireturn, 1) := by decide +kernel
theorem dX0_keep_0 : decode cX0_keep 0 = .ok (.aload_n 0, 1) := by decide +kernel
theorem dX0_keep_1 : decode cX0_keep 1 = .ok (.invokevirtual 40, 3) := by decide +kernel
theorem dX0_keep_4 : decode cX0_keep 4 = .ok (.aload_n 2, 1) := by decide +kernel
theorem dX0_keep_5 : decode cX0_keep 5 = .ok (.invokevirtual 43, 3) := by decide +kernel
theorem dX0_keep_8 : decode cX0_keep 8 = .ok (.istore 4, 2) := by decide +kernel
theorem dX0_keep_10 : decode cX0_keep 10 = .ok (.iconst 0, 1) := by decide +kernel
theorem dX0_keep_11 : decode cX0_keep 11 = .ok (.istore 5, 2) := by decide +kernel
theorem dX0_keep_13 : decode cX0_keep 13 = .ok (.iload 5, 2) := by decide +kernel
theorem dX0_keep_15 : decode cX0_keep 15 = .ok (.bipush 8, 2) := by decide +kernel
theorem dX0_keep_17 : decode cX0_keep 17 = .ok (.if_icmp .ge 49, 3) := by decide +kernel
theorem dX0_keep_20 : decode cX0_keep 20 = .ok (.iload 4, 2) := by decide +kernel
theorem dX0_keep_22 : decode cX0_keep 22 = .ok (.ifCond .eq 44, 3) := by decide +kernel
theorem dX0_keep_25 : decode cX0_keep 25 = .ok (.iload 4, 2) := by decide +kernel
theorem dX0_keep_27 : decode cX0_keep 27 = .ok (.invokestatic 49, 3) := by decide +kernel
theorem dX0_keep_30 : decode cX0_keep 30 = .ok (.istore 6, 2) := by decide +kernel
theorem dX0_keep_32 : decode cX0_keep 32 = .ok (.aload_n 2, 1) := by decide +kernel
theorem dX0_keep_33 : decode cX0_keep 33 = .ok (.iload 4, 2) := by decide +kernel
theorem dX0_keep_35 : decode cX0_keep 35 = .ok (.invokevirtual 53, 3) := by decide +kernel
theorem dX0_keep_38 : decode cX0_keep 38 = .ok (.istore 7, 2) := by decide +kernel
theorem dX0_keep_40 : decode cX0_keep 40 = .ok (.aload_n 0, 1) := by decide +kernel
theorem dX0_keep_41 : decode cX0_keep 41 = .ok (.aload_n 1, 1) := by decide +kernel
theorem dX0_keep_42 : decode cX0_keep 42 = .ok (.iload 6, 2) := by decide +kernel
theorem dX0_keep_44 : decode cX0_keep 44 = .ok (.iload 7, 2) := by decide +kernel
theorem dX0_keep_46 : decode cX0_keep 46 = .ok (.invokevirtual 56, 3) := by decide +kernel
theorem dX0_keep_49 : decode cX0_keep 49 = .ok (.iload 4, 2) := by decide +kernel
theorem dX0_keep_51 : decode cX0_keep 51 = .ok (.iload 6, 2) := by decide +kernel
theorem dX0_keep_53 : decode cX0_keep 53 = .ok (.iload 7, 2) := by decide +kernel
theorem dX0_keep_55 : decode cX0_keep 55 = .ok (.invokestatic 60, 3) := by decide +kernel
theorem dX0_keep_58 : decode cX0_keep 58 = .ok (.istore 4, 2) := by decide +kernel
theorem dX0_keep_60 : decode cX0_keep 60 = .ok (.iinc 5 1, 3) := by decide +kernel
theorem dX0_keep_63 : decode cX0_keep 63 = .ok (.goto (-50), 3) := by decide +kernel
theorem dX0_keep_66 : decode cX0_keep 66 = .ok (.aload_n 0, 1) := by decide +kernel
theorem dX0_keep_67 : decode cX0_keep 67 = .ok (.aload_n 3, 1) := by decide +kernel
theorem dX0_keep_68 : decode cX0_keep 68 = .ok (.invokevirtual 64, 3) := by decide +kernel
theorem dX0_keep_71 : decode cX0_keep 71 = .ok (.aload_n 0, 1) := by decide +kernel
theorem dX0_keep_72 : decode cX0_keep 72 = .ok (.invokevirtual 68, 3) := by decide +kernel
theorem dX0_keep_75 : decode cX0_keep 75 = .ok (.return_, 1) := by decide +kernel
theorem dX0_addLeaf_0 : decode cX0_addLeaf 0 = .ok (.aload_n 0, 1) := by decide +kernel
theorem dX0_addLeaf_1 : decode cX0_addLeaf 1 = .ok (.getfield 29, 3) := by decide +kernel
theorem dX0_addLeaf_4 : decode cX0_addLeaf 4 = .ok (.bipush 8, 2) := by decide +kernel
theorem dX0_addLeaf_6 : decode cX0_addLeaf 6 = .ok (.if_icmp .ge 55, 3) := by decide +kernel
theorem dX0_addLeaf_9 : decode cX0_addLeaf 9 = .ok (.aload_n 1, 1) := by decide +kernel
theorem dX0_addLeaf_10 : decode cX0_addLeaf 10 = .ok (.iload_n 2, 1) := by decide +kernel
theorem dX0_addLeaf_11 : decode cX0_addLeaf 11 = .ok (.iload_n 3, 1) := by decide +kernel
theorem dX0_addLeaf_12 : decode cX0_addLeaf 12 = .ok (.invokevirtual 71, 3) := by decide +kernel
theorem dX0_addLeaf_15 : decode cX0_addLeaf 15 = .ok (.ifCond .eq 46, 3) := by decide +kernel
theorem dX0_addLeaf_18 : decode cX0_addLeaf 18 = .ok (.aload_n 1, 1) := by decide +kernel
theorem dX0_addLeaf_19 : decode cX0_addLeaf 19 = .ok (.aload_n 0, 1) := by decide +kernel
theorem dX0_addLeaf_20 : decode cX0_addLeaf 20 = .ok (.getfield 11, 3) := by decide +kernel
theorem dX0_addLeaf_23 : decode cX0_addLeaf 23 = .ok (.aload_n 0, 1) := by decide +kernel
theorem dX0_addLeaf_24 : decode cX0_addLeaf 24 = .ok (.getfield 29, 3) := by decide +kernel
theorem dX0_addLeaf_27 : decode cX0_addLeaf 27 = .ok (.aaload, 1) := by decide +kernel
theorem dX0_addLeaf_28 : decode cX0_addLeaf 28 = .ok (.invokevirtual 77, 3) := by decide +kernel
theorem dX0_addLeaf_31 : decode cX0_addLeaf 31 = .ok (.aload_n 0, 1) := by decide +kernel
theorem dX0_addLeaf_32 : decode cX0_addLeaf 32 = .ok (.getfield 21, 3) := by decide +kernel
theorem dX0_addLeaf_35 : decode cX0_addLeaf 35 = .ok (.iload_n 2, 1) := by decide +kernel
theorem dX0_addLeaf_36 : decode cX0_addLeaf 36 = .ok (.aload_n 0, 1) := by decide +kernel
theorem dX0_addLeaf_37 : decode cX0_addLeaf 37 = .ok (.getfield 29, 3) := by decide +kernel
theorem dX0_addLeaf_40 : decode cX0_addLeaf 40 = .ok (.iastore, 1) := by decide +kernel
theorem dX0_addLeaf_41 : decode cX0_addLeaf 41 = .ok (.aload_n 0, 1) := by decide +kernel
theorem dX0_addLeaf_42 : decode cX0_addLeaf 42 = .ok (.getfield 21, 3) := by decide +kernel
theorem dX0_addLeaf_45 : decode cX0_addLeaf 45 = .ok (.iload_n 3, 1) := by decide +kernel
theorem dX0_addLeaf_46 : decode cX0_addLeaf 46 = .ok (.aload_n 0, 1) := by decide +kernel
theorem dX0_addLeaf_47 : decode cX0_addLeaf 47 = .ok (.getfield 29, 3) := by decide +kernel
theorem dX0_addLeaf_50 : decode cX0_addLeaf 50 = .ok (.iastore, 1) := by decide +kernel
theorem dX0_addLeaf_51 : decode cX0_addLeaf 51 = .ok (.aload_n 0, 1) := by decide +kernel
theorem dX0_addLeaf_52 : decode cX0_addLeaf 52 = .ok (.dup, 1) := by decide +kernel
theorem dX0_addLeaf_53 : decode cX0_addLeaf 53 = .ok (.getfield 29, 3) := by decide +kernel
theorem dX0_addLeaf_56 : decode cX0_addLeaf 56 = .ok (.iconst 1, 1) := by decide +kernel
theorem dX0_addLeaf_57 : decode cX0_addLeaf 57 = .ok (.iadd, 1) := by decide +kernel
theorem dX0_addLeaf_58 : decode cX0_addLeaf 58 = .ok (.putfield 29, 3) := by decide +kernel
theorem dX0_addLeaf_61 : decode cX0_addLeaf 61 = .ok (.return_, 1) := by decide +kernel
theorem dX0_keepLists_0 : decode cX0_keepLists 0 = .ok (.iconst 0, 1) := by decide +kernel
theorem dX0_keepLists_1 : decode cX0_keepLists 1 = .ok (.istore_n 2, 1) := by decide +kernel
theorem dX0_keepLists_2 : decode cX0_keepLists 2 = .ok (.iload_n 2, 1) := by decide +kernel
theorem dX0_keepLists_3 : decode cX0_keepLists 3 = .ok (.aload_n 1, 1) := by decide +kernel
theorem dX0_keepLists_4 : decode cX0_keepLists 4 = .ok (.getfield 81, 3) := by decide +kernel
theorem dX0_keepLists_7 : decode cX0_keepLists 7 = .ok (.if_icmp .ge 31, 3) := by decide +kernel
theorem dX0_keepLists_10 : decode cX0_keepLists 10 = .ok (.aload_n 1, 1) := by decide +kernel
theorem dX0_keepLists_11 : decode cX0_keepLists 11 = .ok (.getfield 84, 3) := by decide +kernel
theorem dX0_keepLists_14 : decode cX0_keepLists 14 = .ok (.iload_n 2, 1) := by decide +kernel
theorem dX0_keepLists_15 : decode cX0_keepLists 15 = .ok (.aaload, 1) := by decide +kernel
theorem dX0_keepLists_16 : decode cX0_keepLists 16 = .ok (.getfield 88, 3) := by decide +kernel
theorem dX0_keepLists_19 : decode cX0_keepLists 19 = .ok (.iconst 0, 1) := by decide +kernel
theorem dX0_keepLists_20 : decode cX0_keepLists 20 = .ok (.aload_n 0, 1) := by decide +kernel
theorem dX0_keepLists_21 : decode cX0_keepLists 21 = .ok (.getfield 26, 3) := by decide +kernel
theorem dX0_keepLists_24 : decode cX0_keepLists 24 = .ok (.iload_n 2, 1) := by decide +kernel
theorem dX0_keepLists_25 : decode cX0_keepLists 25 = .ok (.aaload, 1) := by decide +kernel
theorem dX0_keepLists_26 : decode cX0_keepLists 26 = .ok (.iconst 0, 1) := by decide +kernel
theorem dX0_keepLists_27 : decode cX0_keepLists 27 = .ok (.bipush 16, 2) := by decide +kernel
theorem dX0_keepLists_29 : decode cX0_keepLists 29 = .ok (.invokestatic 92, 3) := by decide +kernel
theorem dX0_keepLists_32 : decode cX0_keepLists 32 = .ok (.iinc 2 1, 3) := by decide +kernel
theorem dX0_keepLists_35 : decode cX0_keepLists 35 = .ok (.goto (-33), 3) := by decide +kernel
theorem dX0_keepLists_38 : decode cX0_keepLists 38 = .ok (.return_, 1) := by decide +kernel
theorem dX0_putInOrder_0 : decode cX0_putInOrder 0 = .ok (.iconst 0, 1) := by decide +kernel
theorem dX0_putInOrder_1 : decode cX0_putInOrder 1 = .ok (.istore_n 1, 1) := by decide +kernel
theorem dX0_putInOrder_2 : decode cX0_putInOrder 2 = .ok (.iload_n 1, 1) := by decide +kernel
theorem dX0_putInOrder_3 : decode cX0_putInOrder 3 = .ok (.aload_n 0, 1) := by decide +kernel
theorem dX0_putInOrder_4 : decode cX0_putInOrder 4 = .ok (.getfield 29, 3) := by decide +kernel
theorem dX0_putInOrder_7 : decode cX0_putInOrder 7 = .ok (.if_icmp .ge 70, 3) := by decide +kernel
theorem dX0_putInOrder_10 : decode cX0_putInOrder 10 = .ok (.iload_n 1, 1) := by decide +kernel
theorem dX0_putInOrder_11 : decode cX0_putInOrder 11 = .ok (.istore_n 2, 1) := by decide +kernel
theorem dX0_putInOrder_12 : decode cX0_putInOrder 12 = .ok (.iload_n 2, 1) := by decide +kernel
theorem dX0_putInOrder_13 : decode cX0_putInOrder 13 = .ok (.ifCond .le 51, 3) := by decide +kernel
theorem dX0_putInOrder_16 : decode cX0_putInOrder 16 = .ok (.aload_n 0, 1) := by decide +kernel
theorem dX0_putInOrder_17 : decode cX0_putInOrder 17 = .ok (.getfield 11, 3) := by decide +kernel
theorem dX0_putInOrder_20 : decode cX0_putInOrder 20 = .ok (.aload_n 0, 1) := by decide +kernel
theorem dX0_putInOrder_21 : decode cX0_putInOrder 21 = .ok (.getfield 17, 3) := by decide +kernel
theorem dX0_putInOrder_24 : decode cX0_putInOrder 24 = .ok (.iload_n 2, 1) := by decide +kernel
theorem dX0_putInOrder_25 : decode cX0_putInOrder 25 = .ok (.iconst 1, 1) := by decide +kernel
theorem dX0_putInOrder_26 : decode cX0_putInOrder 26 = .ok (.isub, 1) := by decide +kernel
theorem dX0_putInOrder_27 : decode cX0_putInOrder 27 = .ok (.iaload, 1) := by decide +kernel
theorem dX0_putInOrder_28 : decode cX0_putInOrder 28 = .ok (.aaload, 1) := by decide +kernel
theorem dX0_putInOrder_29 : decode cX0_putInOrder 29 = .ok (.getfield 98, 3) := by decide +kernel
theorem dX0_putInOrder_32 : decode cX0_putInOrder 32 = .ok (.aload_n 0, 1) := by decide +kernel
theorem dX0_putInOrder_33 : decode cX0_putInOrder 33 = .ok (.getfield 11, 3) := by decide +kernel
theorem dX0_putInOrder_36 : decode cX0_putInOrder 36 = .ok (.iload_n 1, 1) := by decide +kernel
theorem dX0_putInOrder_37 : decode cX0_putInOrder 37 = .ok (.aaload, 1) := by decide +kernel
theorem dX0_putInOrder_38 : decode cX0_putInOrder 38 = .ok (.getfield 98, 3) := by decide +kernel
theorem dX0_putInOrder_41 : decode cX0_putInOrder 41 = .ok (.if_icmp .le 23, 3) := by decide +kernel
theorem dX0_putInOrder_44 : decode cX0_putInOrder 44 = .ok (.aload_n 0, 1) := by decide +kernel
theorem dX0_putInOrder_45 : decode cX0_putInOrder 45 = .ok (.getfield 17, 3) := by decide +kernel
theorem dX0_putInOrder_48 : decode cX0_putInOrder 48 = .ok (.iload_n 2, 1) := by decide +kernel
theorem dX0_putInOrder_49 : decode cX0_putInOrder 49 = .ok (.aload_n 0, 1) := by decide +kernel
theorem dX0_putInOrder_50 : decode cX0_putInOrder 50 = .ok (.getfield 17, 3) := by decide +kernel
theorem dX0_putInOrder_53 : decode cX0_putInOrder 53 = .ok (.iload_n 2, 1) := by decide +kernel
theorem dX0_putInOrder_54 : decode cX0_putInOrder 54 = .ok (.iconst 1, 1) := by decide +kernel
theorem dX0_putInOrder_55 : decode cX0_putInOrder 55 = .ok (.isub, 1) := by decide +kernel
theorem dX0_putInOrder_56 : decode cX0_putInOrder 56 = .ok (.iaload, 1) := by decide +kernel
theorem dX0_putInOrder_57 : decode cX0_putInOrder 57 = .ok (.iastore, 1) := by decide +kernel
theorem dX0_putInOrder_58 : decode cX0_putInOrder 58 = .ok (.iinc 2 (-1), 3) := by decide +kernel
theorem dX0_putInOrder_61 : decode cX0_putInOrder 61 = .ok (.goto (-49), 3) := by decide +kernel
theorem dX0_putInOrder_64 : decode cX0_putInOrder 64 = .ok (.aload_n 0, 1) := by decide +kernel
theorem dX0_putInOrder_65 : decode cX0_putInOrder 65 = .ok (.getfield 17, 3) := by decide +kernel
theorem dX0_putInOrder_68 : decode cX0_putInOrder 68 = .ok (.iload_n 2, 1) := by decide +kernel
theorem dX0_putInOrder_69 : decode cX0_putInOrder 69 = .ok (.iload_n 1, 1) := by decide +kernel
theorem dX0_putInOrder_70 : decode cX0_putInOrder 70 = .ok (.iastore, 1) := by decide +kernel
theorem dX0_putInOrder_71 : decode cX0_putInOrder 71 = .ok (.iinc 1 1, 3) := by decide +kernel
theorem dX0_putInOrder_74 : decode cX0_putInOrder 74 = .ok (.goto (-72), 3) := by decide +kernel
theorem dX0_putInOrder_77 : decode cX0_putInOrder 77 = .ok (.return_, 1) := by decide +kernel
theorem dX0_hasNext_0 : decode cX0_hasNext 0 = .ok (.iload_n 1, 1) := by decide +kernel
theorem dX0_hasNext_1 : decode cX0_hasNext 1 = .ok (.ifCond .lt 17, 3) := by decide +kernel
theorem dX0_hasNext_4 : decode cX0_hasNext 4 = .ok (.iload_n 1, 1) := by decide +kernel
theorem dX0_hasNext_5 : decode cX0_hasNext 5 = .ok (.iconst 1, 1) := by decide +kernel
theorem dX0_hasNext_6 : decode cX0_hasNext 6 = .ok (.iadd, 1) := by decide +kernel
theorem dX0_hasNext_7 : decode cX0_hasNext 7 = .ok (.aload_n 0, 1) := by decide +kernel
theorem dX0_hasNext_8 : decode cX0_hasNext 8 = .ok (.getfield 29, 3) := by decide +kernel
theorem dX0_hasNext_11 : decode cX0_hasNext 11 = .ok (.if_icmp .ge 7, 3) := by decide +kernel
theorem dX0_hasNext_14 : decode cX0_hasNext 14 = .ok (.iconst 1, 1) := by decide +kernel
theorem dX0_hasNext_15 : decode cX0_hasNext 15 = .ok (.goto 4, 3) := by decide +kernel
theorem dX0_hasNext_18 : decode cX0_hasNext 18 = .ok (.iconst 0, 1) := by decide +kernel
theorem dX0_hasNext_19 : decode cX0_hasNext 19 = .ok (.ireturn, 1) := by decide +kernel
theorem dX0_gapBehind_0 : decode cX0_gapBehind 0 = .ok (.aload_n 0, 1) := by decide +kernel
theorem dX0_gapBehind_1 : decode cX0_gapBehind 1 = .ok (.getfield 11, 3) := by decide +kernel
theorem dX0_gapBehind_4 : decode cX0_gapBehind 4 = .ok (.aload_n 0, 1) := by decide +kernel
theorem dX0_gapBehind_5 : decode cX0_gapBehind 5 = .ok (.getfield 17, 3) := by decide +kernel
theorem dX0_gapBehind_8 : decode cX0_gapBehind 8 = .ok (.iload_n 1, 1) := by decide +kernel
theorem dX0_gapBehind_9 : decode cX0_gapBehind 9 = .ok (.iconst 1, 1) := by decide +kernel
theorem dX0_gapBehind_10 : decode cX0_gapBehind 10 = .ok (.iadd, 1) := by decide +kernel
theorem dX0_gapBehind_11 : decode cX0_gapBehind 11 = .ok (.iaload, 1) := by decide +kernel
theorem dX0_gapBehind_12 : decode cX0_gapBehind 12 = .ok (.aaload, 1) := by decide +kernel
theorem dX0_gapBehind_13 : decode cX0_gapBehind 13 = .ok (.getfield 98, 3) := by decide +kernel
theorem dX0_gapBehind_16 : decode cX0_gapBehind 16 = .ok (.aload_n 0, 1) := by decide +kernel
theorem dX0_gapBehind_17 : decode cX0_gapBehind 17 = .ok (.getfield 11, 3) := by decide +kernel
theorem dX0_gapBehind_20 : decode cX0_gapBehind 20 = .ok (.aload_n 0, 1) := by decide +kernel
theorem dX0_gapBehind_21 : decode cX0_gapBehind 21 = .ok (.getfield 17, 3) := by decide +kernel
theorem dX0_gapBehind_24 : decode cX0_gapBehind 24 = .ok (.iload_n 1, 1) := by decide +kernel
theorem dX0_gapBehind_25 : decode cX0_gapBehind 25 = .ok (.iaload, 1) := by decide +kernel
theorem dX0_gapBehind_26 : decode cX0_gapBehind 26 = .ok (.aaload, 1) := by decide +kernel
theorem dX0_gapBehind_27 : decode cX0_gapBehind 27 = .ok (.getfield 98, 3) := by decide +kernel
theorem dX0_gapBehind_30 : decode cX0_gapBehind 30 = .ok (.bipush 32, 2) := by decide +kernel
theorem dX0_gapBehind_32 : decode cX0_gapBehind 32 = .ok (.iadd, 1) := by decide +kernel
theorem dX0_gapBehind_33 : decode cX0_gapBehind 33 = .ok (.isub, 1) := by decide +kernel
theorem dX0_gapBehind_34 : decode cX0_gapBehind 34 = .ok (.ireturn, 1) := by decide +kernel
theorem dX0_clashesBehind_0 : decode cX0_clashesBehind 0 = .ok (.aload_n 0, 1) := by decide +kernel
theorem dX0_clashesBehind_1 : decode cX0_clashesBehind 1 = .ok (.iload_n 1, 1) := by decide +kernel
theorem dX0_clashesBehind_2 : decode cX0_clashesBehind 2 = .ok (.invokevirtual 101, 3) := by decide +kernel
theorem dX0_clashesBehind_5 : decode cX0_clashesBehind 5 = .ok (.ifCond .eq 26, 3) := by decide +kernel
theorem dX0_clashesBehind_8 : decode cX0_clashesBehind 8 = .ok (.aload_n 0, 1) := by decide +kernel
theorem dX0_clashesBehind_9 : decode cX0_clashesBehind 9 = .ok (.iload_n 1, 1) := by decide +kernel
theorem dX0_clashesBehind_10 : decode cX0_clashesBehind 10 = .ok (.invokevirtual 105, 3) := by decide +kernel
theorem dX0_clashesBehind_13 : decode cX0_clashesBehind 13 = .ok (.ifCond .lt 14, 3) := by decide +kernel
theorem dX0_clashesBehind_16 : decode cX0_clashesBehind 16 = .ok (.aload_n 0, 1) := by decide +kernel
theorem dX0_clashesBehind_17 : decode cX0_clashesBehind 17 = .ok (.iload_n 1, 1) := by decide +kernel
theorem dX0_clashesBehind_18 : decode cX0_clashesBehind 18 = .ok (.invokevirtual 105, 3) := by decide +kernel
theorem dX0_clashesBehind_21 : decode cX0_clashesBehind 21 = .ok (.bipush 32, 2) := by decide +kernel
theorem dX0_clashesBehind_23 : decode cX0_clashesBehind 23 = .ok (.irem, 1) := by decide +kernel
theorem dX0_clashesBehind_24 : decode cX0_clashesBehind 24 = .ok (.ifCond .eq 7, 3) := by decide +kernel
theorem dX0_clashesBehind_27 : decode cX0_clashesBehind 27 = .ok (.iconst 1, 1) := by decide +kernel
theorem dX0_clashesBehind_28 : decode cX0_clashesBehind 28 = .ok (.goto 4, 3) := by decide +kernel
theorem dX0_clashesBehind_31 : decode cX0_clashesBehind 31 = .ok (.iconst 0, 1) := by decide +kernel
theorem dX0_clashesBehind_32 : decode cX0_clashesBehind 32 = .ok (.ireturn, 1) := by decide +kernel
theorem dX0_lostBehind_0 : decode cX0_lostBehind 0 = .ok (.aload_n 0, 1) := by decide +kernel
theorem dX0_lostBehind_1 : decode cX0_lostBehind 1 = .ok (.iload_n 1, 1) := by decide +kernel
theorem dX0_lostBehind_2 : decode cX0_lostBehind 2 = .ok (.invokevirtual 101, 3) := by decide +kernel
theorem dX0_lostBehind_5 : decode cX0_lostBehind 5 = .ok (.ifCond .eq 11, 3) := by decide +kernel
theorem dX0_lostBehind_8 : decode cX0_lostBehind 8 = .ok (.aload_n 0, 1) := by decide +kernel
theorem dX0_lostBehind_9 : decode cX0_lostBehind 9 = .ok (.iload_n 1, 1) := by decide +kernel
theorem dX0_lostBehind_10 : decode cX0_lostBehind 10 = .ok (.invokevirtual 108, 3) := by decide +kernel
theorem dX0_lostBehind_13 : decode cX0_lostBehind 13 = .ok (.ifCond .eq 7, 3) := by decide +kernel
theorem dX0_lostBehind_16 : decode cX0_lostBehind 16 = .ok (.iconst (-1), 1) := by decide +kernel
theorem dX0_lostBehind_17 : decode cX0_lostBehind 17 = .ok (.goto 11, 3) := by decide +kernel
theorem dX0_lostBehind_20 : decode cX0_lostBehind 20 = .ok (.aload_n 0, 1) := by decide +kernel
theorem dX0_lostBehind_21 : decode cX0_lostBehind 21 = .ok (.iload_n 1, 1) := by decide +kernel
theorem dX0_lostBehind_22 : decode cX0_lostBehind 22 = .ok (.invokevirtual 105, 3) := by decide +kernel
theorem dX0_lostBehind_25 : decode cX0_lostBehind 25 = .ok (.bipush 32, 2) := by decide +kernel
theorem dX0_lostBehind_27 : decode cX0_lostBehind 27 = .ok (.idiv, 1) := by decide +kernel
theorem dX0_lostBehind_28 : decode cX0_lostBehind 28 = .ok (.ireturn, 1) := by decide +kernel
theorem dX0_breaksBehind_0 : decode cX0_breaksBehind 0 = .ok (.aload_n 0, 1) := by decide +kernel
theorem dX0_breaksBehind_1 : decode cX0_breaksBehind 1 = .ok (.iload_n 1, 1) := by decide +kernel
theorem dX0_breaksBehind_2 : decode cX0_breaksBehind 2 = .ok (.invokevirtual 111, 3) := by decide +kernel
theorem dX0_breaksBehind_5 : decode cX0_breaksBehind 5 = .ok (.ifCond .ne 40, 3) := by decide +kernel
theorem dX0_breaksBehind_8 : decode cX0_breaksBehind 8 = .ok (.aload_n 0, 1) := by decide +kernel
theorem dX0_breaksBehind_9 : decode cX0_breaksBehind 9 = .ok (.getfield 11, 3) := by decide +kernel
theorem dX0_breaksBehind_12 : decode cX0_breaksBehind 12 = .ok (.aload_n 0, 1) := by decide +kernel
theorem dX0_breaksBehind_13 : decode cX0_breaksBehind 13 = .ok (.getfield 17, 3) := by decide +kernel
theorem dX0_breaksBehind_16 : decode cX0_breaksBehind 16 = .ok (.iload_n 1, 1) := by decide +kernel
theorem dX0_breaksBehind_17 : decode cX0_breaksBehind 17 = .ok (.iaload, 1) := by decide +kernel
theorem dX0_breaksBehind_18 : decode cX0_breaksBehind 18 = .ok (.aaload, 1) := by decide +kernel
theorem dX0_breaksBehind_19 : decode cX0_breaksBehind 19 = .ok (.getfield 114, 3) := by decide +kernel
theorem dX0_breaksBehind_22 : decode cX0_breaksBehind 22 = .ok (.aload_n 0, 1) := by decide +kernel
theorem dX0_breaksBehind_23 : decode cX0_breaksBehind 23 = .ok (.getfield 11, 3) := by decide +kernel
theorem dX0_breaksBehind_26 : decode cX0_breaksBehind 26 = .ok (.aload_n 0, 1) := by decide +kernel
theorem dX0_breaksBehind_27 : decode cX0_breaksBehind 27 = .ok (.getfield 17, 3) := by decide +kernel
theorem dX0_breaksBehind_30 : decode cX0_breaksBehind 30 = .ok (.iload_n 1, 1) := by decide +kernel
theorem dX0_breaksBehind_31 : decode cX0_breaksBehind 31 = .ok (.iconst 1, 1) := by decide +kernel
theorem dX0_breaksBehind_32 : decode cX0_breaksBehind 32 = .ok (.iadd, 1) := by decide +kernel
theorem dX0_breaksBehind_33 : decode cX0_breaksBehind 33 = .ok (.iaload, 1) := by decide +kernel
theorem dX0_breaksBehind_34 : decode cX0_breaksBehind 34 = .ok (.aaload, 1) := by decide +kernel
theorem dX0_breaksBehind_35 : decode cX0_breaksBehind 35 = .ok (.getfield 114, 3) := by decide +kernel
theorem dX0_breaksBehind_38 : decode cX0_breaksBehind 38 = .ok (.if_icmp .ne 7, 3) := by decide +kernel
theorem dX0_breaksBehind_41 : decode cX0_breaksBehind 41 = .ok (.iconst 1, 1) := by decide +kernel
theorem dX0_breaksBehind_42 : decode cX0_breaksBehind 42 = .ok (.goto 4, 3) := by decide +kernel
theorem dX0_breaksBehind_45 : decode cX0_breaksBehind 45 = .ok (.iconst 0, 1) := by decide +kernel
theorem dX0_breaksBehind_46 : decode cX0_breaksBehind 46 = .ok (.ireturn, 1) := by decide +kernel
theorem dX0_allQuarrels_0 : decode cX0_allQuarrels 0 = .ok (.iconst 0, 1) := by decide +kernel
theorem dX0_allQuarrels_1 : decode cX0_allQuarrels 1 = .ok (.istore_n 1, 1) := by decide +kernel
theorem dX0_allQuarrels_2 : decode cX0_allQuarrels 2 = .ok (.iconst 0, 1) := by decide +kernel
theorem dX0_allQuarrels_3 : decode cX0_allQuarrels 3 = .ok (.istore_n 2, 1) := by decide +kernel
theorem dX0_allQuarrels_4 : decode cX0_allQuarrels 4 = .ok (.iload_n 2, 1) := by decide +kernel
theorem dX0_allQuarrels_5 : decode cX0_allQuarrels 5 = .ok (.aload_n 0, 1) := by decide +kernel
theorem dX0_allQuarrels_6 : decode cX0_allQuarrels 6 = .ok (.getfield 29, 3) := by decide +kernel
theorem dX0_allQuarrels_9 : decode cX0_allQuarrels 9 = .ok (.if_icmp .ge 21, 3) := by decide +kernel
theorem dX0_allQuarrels_12 : decode cX0_allQuarrels 12 = .ok (.iload_n 1, 1) := by decide +kernel
theorem dX0_allQuarrels_13 : decode cX0_allQuarrels 13 = .ok (.aload_n 0, 1) := by decide +kernel
theorem dX0_allQuarrels_14 : decode cX0_allQuarrels 14 = .ok (.getfield 11, 3) := by decide +kernel
theorem dX0_allQuarrels_17 : decode cX0_allQuarrels 17 = .ok (.iload_n 2, 1) := by decide +kernel
theorem dX0_allQuarrels_18 : decode cX0_allQuarrels 18 = .ok (.aaload, 1) := by decide +kernel
theorem dX0_allQuarrels_19 : decode cX0_allQuarrels 19 = .ok (.getfield 117, 3) := by decide +kernel
theorem dX0_allQuarrels_22 : decode cX0_allQuarrels 22 = .ok (.iadd, 1) := by decide +kernel
theorem dX0_allQuarrels_23 : decode cX0_allQuarrels 23 = .ok (.istore_n 1, 1) := by decide +kernel
theorem dX0_allQuarrels_24 : decode cX0_allQuarrels 24 = .ok (.iinc 2 1, 3) := by decide +kernel
theorem dX0_allQuarrels_27 : decode cX0_allQuarrels 27 = .ok (.goto (-23), 3) := by decide +kernel
theorem dX0_allQuarrels_30 : decode cX0_allQuarrels 30 = .ok (.iload_n 1, 1) := by decide +kernel
theorem dX0_allQuarrels_31 : decode cX0_allQuarrels 31 = .ok (.ireturn, 1) := by decide +kernel
theorem dX0_clashes_0 : decode cX0_clashes 0 = .ok (.iconst 0, 1) := by decide +kernel
theorem dX0_clashes_1 : decode cX0_clashes 1 = .ok (.istore_n 1, 1) := by decide +kernel
theorem dX0_clashes_2 : decode cX0_clashes 2 = .ok (.iconst 0, 1) := by decide +kernel
theorem dX0_clashes_3 : decode cX0_clashes 3 = .ok (.istore_n 2, 1) := by decide +kernel
theorem dX0_clashes_4 : decode cX0_clashes 4 = .ok (.iload_n 2, 1) := by decide +kernel
theorem dX0_clashes_5 : decode cX0_clashes 5 = .ok (.aload_n 0, 1) := by decide +kernel
theorem dX0_clashes_6 : decode cX0_clashes 6 = .ok (.getfield 29, 3) := by decide +kernel
theorem dX0_clashes_9 : decode cX0_clashes 9 = .ok (.if_icmp .ge 25, 3) := by decide +kernel
theorem dX0_clashes_12 : decode cX0_clashes 12 = .ok (.iload_n 1, 1) := by decide +kernel
theorem dX0_clashes_13 : decode cX0_clashes 13 = .ok (.aload_n 0, 1) := by decide +kernel
theorem dX0_clashes_14 : decode cX0_clashes 14 = .ok (.iload_n 2, 1) := by decide +kernel
theorem dX0_clashes_15 : decode cX0_clashes 15 = .ok (.invokevirtual 108, 3) := by decide +kernel
theorem dX0_clashes_18 : decode cX0_clashes 18 = .ok (.ifCond .eq 7, 3) := by decide +kernel
theorem dX0_clashes_21 : decode cX0_clashes 21 = .ok (.iconst 1, 1) := by decide +kernel
theorem dX0_clashes_22 : decode cX0_clashes 22 = .ok (.goto 4, 3) := by decide +kernel
theorem dX0_clashes_25 : decode cX0_clashes 25 = .ok (.iconst 0, 1) := by decide +kernel
theorem dX0_clashes_26 : decode cX0_clashes 26 = .ok (.iadd, 1) := by decide +kernel
theorem dX0_clashes_27 : decode cX0_clashes 27 = .ok (.istore_n 1, 1) := by decide +kernel
theorem dX0_clashes_28 : decode cX0_clashes 28 = .ok (.iinc 2 1, 3) := by decide +kernel
theorem dX0_clashes_31 : decode cX0_clashes 31 = .ok (.goto (-27), 3) := by decide +kernel
theorem dX0_clashes_34 : decode cX0_clashes 34 = .ok (.iload_n 1, 1) := by decide +kernel
theorem dX0_clashes_35 : decode cX0_clashes 35 = .ok (.ireturn, 1) := by decide +kernel
theorem dX0_breaks_0 : decode cX0_breaks 0 = .ok (.iconst 0, 1) := by decide +kernel
theorem dX0_breaks_1 : decode cX0_breaks 1 = .ok (.istore_n 1, 1) := by decide +kernel
theorem dX0_breaks_2 : decode cX0_breaks 2 = .ok (.iconst 0, 1) := by decide +kernel
theorem dX0_breaks_3 : decode cX0_breaks 3 = .ok (.istore_n 2, 1) := by decide +kernel
theorem dX0_breaks_4 : decode cX0_breaks 4 = .ok (.iload_n 2, 1) := by decide +kernel
theorem dX0_breaks_5 : decode cX0_breaks 5 = .ok (.aload_n 0, 1) := by decide +kernel
theorem dX0_breaks_6 : decode cX0_breaks 6 = .ok (.getfield 29, 3) := by decide +kernel
theorem dX0_breaks_9 : decode cX0_breaks 9 = .ok (.if_icmp .ge 25, 3) := by decide +kernel
theorem dX0_breaks_12 : decode cX0_breaks 12 = .ok (.iload_n 1, 1) := by decide +kernel
theorem dX0_breaks_13 : decode cX0_breaks 13 = .ok (.aload_n 0, 1) := by decide +kernel
theorem dX0_breaks_14 : decode cX0_breaks 14 = .ok (.iload_n 2, 1) := by decide +kernel
theorem dX0_breaks_15 : decode cX0_breaks 15 = .ok (.invokevirtual 120, 3) := by decide +kernel
theorem dX0_breaks_18 : decode cX0_breaks 18 = .ok (.ifCond .eq 7, 3) := by decide +kernel
theorem dX0_breaks_21 : decode cX0_breaks 21 = .ok (.iconst 1, 1) := by decide +kernel
theorem dX0_breaks_22 : decode cX0_breaks 22 = .ok (.goto 4, 3) := by decide +kernel
theorem dX0_breaks_25 : decode cX0_breaks 25 = .ok (.iconst 0, 1) := by decide +kernel
theorem dX0_breaks_26 : decode cX0_breaks 26 = .ok (.iadd, 1) := by decide +kernel
theorem dX0_breaks_27 : decode cX0_breaks 27 = .ok (.istore_n 1, 1) := by decide +kernel
theorem dX0_breaks_28 : decode cX0_breaks 28 = .ok (.iinc 2 1, 3) := by decide +kernel
theorem dX0_breaks_31 : decode cX0_breaks 31 = .ok (.goto (-27), 3) := by decide +kernel
theorem dX0_breaks_34 : decode cX0_breaks 34 = .ok (.iload_n 1, 1) := by decide +kernel
theorem dX0_breaks_35 : decode cX0_breaks 35 = .ok (.ireturn, 1) := by decide +kernel
theorem dX0_allLost_0 : decode cX0_allLost 0 = .ok (.iconst 0, 1) := by decide +kernel
theorem dX0_allLost_1 : decode cX0_allLost 1 = .ok (.istore_n 1, 1) := by decide +kernel
theorem dX0_allLost_2 : decode cX0_allLost 2 = .ok (.iconst 0, 1) := by decide +kernel
theorem dX0_allLost_3 : decode cX0_allLost 3 = .ok (.istore_n 2, 1) := by decide +kernel
theorem dX0_allLost_4 : decode cX0_allLost 4 = .ok (.iload_n 2, 1) := by decide +kernel
theorem dX0_allLost_5 : decode cX0_allLost 5 = .ok (.aload_n 0, 1) := by decide +kernel
theorem dX0_allLost_6 : decode cX0_allLost 6 = .ok (.getfield 29, 3) := by decide +kernel
theorem dX0_allLost_9 : decode cX0_allLost 9 = .ok (.if_icmp .ge 21, 3) := by decide +kernel
theorem dX0_allLost_12 : decode cX0_allLost 12 = .ok (.iload_n 1, 1) := by decide +kernel
theorem dX0_allLost_13 : decode cX0_allLost 13 = .ok (.iconst 0, 1) := by decide +kernel
theorem dX0_allLost_14 : decode cX0_allLost 14 = .ok (.aload_n 0, 1) := by decide +kernel
theorem dX0_allLost_15 : decode cX0_allLost 15 = .ok (.iload_n 2, 1) := by decide +kernel
theorem dX0_allLost_16 : decode cX0_allLost 16 = .ok (.invokevirtual 111, 3) := by decide +kernel
theorem dX0_allLost_19 : decode cX0_allLost 19 = .ok (.invokestatic 123, 3) := by decide +kernel
theorem dX0_allLost_22 : decode cX0_allLost 22 = .ok (.iadd, 1) := by decide +kernel
theorem dX0_allLost_23 : decode cX0_allLost 23 = .ok (.istore_n 1, 1) := by decide +kernel
theorem dX0_allLost_24 : decode cX0_allLost 24 = .ok (.iinc 2 1, 3) := by decide +kernel
theorem dX0_allLost_27 : decode cX0_allLost 27 = .ok (.goto (-23), 3) := by decide +kernel
theorem dX0_allLost_30 : decode cX0_allLost 30 = .ok (.iload_n 1, 1) := by decide +kernel
theorem dX0_allLost_31 : decode cX0_allLost 31 = .ok (.ireturn, 1) := by decide +kernel
theorem dX1_init_0 : decode cX1_init 0 = .ok (.aload_n 0, 1) := by decide +kernel
theorem dX1_init_1 : decode cX1_init 1 = .ok (.invokespecial 3, 3) := by decide +kernel
theorem dX1_init_4 : decode cX1_init 4 = .ok (.aload_n 0, 1) := by decide +kernel
theorem dX1_init_5 : decode cX1_init 5 = .ok (.iconst 2, 1) := by decide +kernel
theorem dX1_init_6 : decode cX1_init 6 = .ok (.putfield 9, 3) := by decide +kernel
theorem dX1_init_9 : decode cX1_init 9 = .ok (.aload_n 0, 1) := by decide +kernel
theorem dX1_init_10 : decode cX1_init 10 = .ok (.iconst 0, 1) := by decide +kernel
theorem dX1_init_11 : decode cX1_init 11 = .ok (.putfield 15, 3) := by decide +kernel
theorem dX1_init_14 : decode cX1_init 14 = .ok (.aload_n 0, 1) := by decide +kernel
theorem dX1_init_15 : decode cX1_init 15 = .ok (.iconst 0, 1) := by decide +kernel
theorem dX1_init_16 : decode cX1_init 16 = .ok (.putfield 18, 3) := by decide +kernel
theorem dX1_init_19 : decode cX1_init 19 = .ok (.aload_n 0, 1) := by decide +kernel
theorem dX1_init_20 : decode cX1_init 20 = .ok (.bipush 16, 2) := by decide +kernel
theorem dX1_init_22 : decode cX1_init 22 = .ok (.newarray .int, 2) := by decide +kernel
theorem dX1_init_24 : decode cX1_init 24 = .ok (.putfield 21, 3) := by decide +kernel
theorem dX1_init_27 : decode cX1_init 27 = .ok (.return_, 1) := by decide +kernel
theorem dX1_mayLieAs_0 : decode cX1_mayLieAs 0 = .ok (.aload_n 0, 1) := by decide +kernel
theorem dX1_mayLieAs_1 : decode cX1_mayLieAs 1 = .ok (.getfield 9, 3) := by decide +kernel
theorem dX1_mayLieAs_4 : decode cX1_mayLieAs 4 = .ok (.iload_n 1, 1) := by decide +kernel
theorem dX1_mayLieAs_5 : decode cX1_mayLieAs 5 = .ok (.if_icmp .eq 11, 3) := by decide +kernel
theorem dX1_mayLieAs_8 : decode cX1_mayLieAs 8 = .ok (.aload_n 0, 1) := by decide +kernel
theorem dX1_mayLieAs_9 : decode cX1_mayLieAs 9 = .ok (.getfield 9, 3) := by decide +kernel
theorem dX1_mayLieAs_12 : decode cX1_mayLieAs 12 = .ok (.iconst 2, 1) := by decide +kernel
theorem dX1_mayLieAs_13 : decode cX1_mayLieAs 13 = .ok (.if_icmp .ne 7, 3) := by decide +kernel
theorem dX1_mayLieAs_16 : decode cX1_mayLieAs 16 = .ok (.iconst 1, 1) := by decide +kernel
theorem dX1_mayLieAs_17 : decode cX1_mayLieAs 17 = .ok (.goto 4, 3) := by decide +kernel
theorem dX1_mayLieAs_20 : decode cX1_mayLieAs 20 = .ok (.iconst 0, 1) := by decide +kernel
theorem dX1_mayLieAs_21 : decode cX1_mayLieAs 21 = .ok (.ireturn, 1) := by decide +kernel
theorem dX1_isLike_0 : decode cX1_isLike 0 = .ok (.aload_n 0, 1) := by decide +kernel
theorem dX1_isLike_1 : decode cX1_isLike 1 = .ok (.getfield 15, 3) := by decide +kernel
theorem dX1_isLike_4 : decode cX1_isLike 4 = .ok (.aload_n 1, 1) := by decide +kernel
theorem dX1_isLike_5 : decode cX1_isLike 5 = .ok (.getfield 15, 3) := by decide +kernel
theorem dX1_isLike_8 : decode cX1_isLike 8 = .ok (.if_icmp .ne 18, 3) := by decide +kernel
theorem dX1_isLike_11 : decode cX1_isLike 11 = .ok (.aload_n 0, 1) := by decide +kernel
theorem dX1_isLike_12 : decode cX1_isLike 12 = .ok (.getfield 18, 3) := by decide +kernel
theorem dX1_isLike_15 : decode cX1_isLike 15 = .ok (.aload_n 1, 1) := by decide +kernel
theorem dX1_isLike_16 : decode cX1_isLike 16 = .ok (.getfield 18, 3) := by decide +kernel
theorem dX1_isLike_19 : decode cX1_isLike 19 = .ok (.if_icmp .ne 7, 3) := by decide +kernel
theorem dX1_isLike_22 : decode cX1_isLike 22 = .ok (.iconst 1, 1) := by decide +kernel
theorem dX1_isLike_23 : decode cX1_isLike 23 = .ok (.goto 4, 3) := by decide +kernel
theorem dX1_isLike_26 : decode cX1_isLike 26 = .ok (.iconst 0, 1) := by decide +kernel
theorem dX1_isLike_27 : decode cX1_isLike 27 = .ok (.ireturn, 1) := by decide +kernel
theorem dX2_init_0 : decode cX2_init 0 = .ok (.aload_n 0, 1) := by decide +kernel
theorem dX2_init_1 : decode cX2_init 1 = .ok (.invokespecial 3, 3) := by decide +kernel
theorem dX2_init_4 : decode cX2_init 4 = .ok (.aload_n 0, 1) := by decide +kernel
theorem dX2_init_5 : decode cX2_init 5 = .ok (.bipush 8, 2) := by decide +kernel
theorem dX2_init_7 : decode cX2_init 7 = .ok (.anewarray 9, 3) := by decide +kernel
theorem dX2_init_10 : decode cX2_init 10 = .ok (.putfield 11, 3) := by decide +kernel
theorem dX2_init_13 : decode cX2_init 13 = .ok (.aload_n 0, 1) := by decide +kernel
theorem dX2_init_14 : decode cX2_init 14 = .ok (.iconst 0, 1) := by decide +kernel
theorem dX2_init_15 : decode cX2_init 15 = .ok (.putfield 17, 3) := by decide +kernel
theorem dX2_init_18 : decode cX2_init 18 = .ok (.iconst 0, 1) := by decide +kernel
theorem dX2_init_19 : decode cX2_init 19 = .ok (.istore_n 1, 1) := by decide +kernel
theorem dX2_init_20 : decode cX2_init 20 = .ok (.iload_n 1, 1) := by decide +kernel
theorem dX2_init_21 : decode cX2_init 21 = .ok (.bipush 8, 2) := by decide +kernel
theorem dX2_init_23 : decode cX2_init 23 = .ok (.if_icmp .ge 22, 3) := by decide +kernel
theorem dX2_init_26 : decode cX2_init 26 = .ok (.aload_n 0, 1) := by decide +kernel
theorem dX2_init_27 : decode cX2_init 27 = .ok (.getfield 11, 3) := by decide +kernel
theorem dX2_init_30 : decode cX2_init 30 = .ok (.iload_n 1, 1) := by decide +kernel
theorem dX2_init_31 : decode cX2_init 31 = .ok (.new 9, 3) := by decide +kernel
theorem dX2_init_34 : decode cX2_init 34 = .ok (.dup, 1) := by decide +kernel
theorem dX2_init_35 : decode cX2_init 35 = .ok (.invokespecial 21, 3) := by decide +kernel
theorem dX2_init_38 : decode cX2_init 38 = .ok (.aastore, 1) := by decide +kernel
theorem dX2_init_39 : decode cX2_init 39 = .ok (.iinc 1 1, 3) := by decide +kernel
theorem dX2_init_42 : decode cX2_init 42 = .ok (.goto (-22), 3) := by decide +kernel
theorem dX2_init_45 : decode cX2_init 45 = .ok (.return_, 1) := by decide +kernel
theorem dX2_has_0 : decode cX2_has 0 = .ok (.iload_n 1, 1) := by decide +kernel
theorem dX2_has_1 : decode cX2_has 1 = .ok (.ifCond .lt 21, 3) := by decide +kernel
theorem dX2_has_4 : decode cX2_has 4 = .ok (.iload_n 1, 1) := by decide +kernel
theorem dX2_has_5 : decode cX2_has 5 = .ok (.aload_n 0, 1) := by decide +kernel
theorem dX2_has_6 : decode cX2_has 6 = .ok (.getfield 17, 3) := by decide +kernel
theorem dX2_has_9 : decode cX2_has 9 = .ok (.if_icmp .ge 13, 3) := by decide +kernel
theorem dX2_has_12 : decode cX2_has 12 = .ok (.iload_n 1, 1) := by decide +kernel
theorem dX2_has_13 : decode cX2_has 13 = .ok (.bipush 8, 2) := by decide +kernel
theorem dX2_has_15 : decode cX2_has 15 = .ok (.if_icmp .ge 7, 3) := by decide +kernel
theorem dX2_has_18 : decode cX2_has 18 = .ok (.iconst 1, 1) := by decide +kernel
theorem dX2_has_19 : decode cX2_has 19 = .ok (.goto 4, 3) := by decide +kernel
theorem dX2_has_22 : decode cX2_has 22 = .ok (.iconst 0, 1) := by decide +kernel
theorem dX2_has_23 : decode cX2_has 23 = .ok (.ireturn, 1) := by decide +kernel
theorem dX2_add_0 : decode cX2_add 0 = .ok (.aload_n 0, 1) := by decide +kernel
theorem dX2_add_1 : decode cX2_add 1 = .ok (.getfield 17, 3) := by decide +kernel
theorem dX2_add_4 : decode cX2_add 4 = .ok (.bipush 8, 2) := by decide +kernel
theorem dX2_add_6 : decode cX2_add 6 = .ok (.if_icmp .lt 5, 3) := by decide +kernel
theorem dX2_add_9 : decode cX2_add 9 = .ok (.iconst (-1), 1) := by decide +kernel
theorem dX2_add_10 : decode cX2_add 10 = .ok (.ireturn, 1) := by decide +kernel
theorem dX2_add_11 : decode cX2_add 11 = .ok (.aload_n 0, 1) := by decide +kernel
theorem dX2_add_12 : decode cX2_add 12 = .ok (.getfield 11, 3) := by decide +kernel
theorem dX2_add_15 : decode cX2_add 15 = .ok (.aload_n 0, 1) := by decide +kernel
theorem dX2_add_16 : decode cX2_add 16 = .ok (.getfield 17, 3) := by decide +kernel
theorem dX2_add_19 : decode cX2_add 19 = .ok (.aaload, 1) := by decide +kernel
theorem dX2_add_20 : decode cX2_add 20 = .ok (.astore 4, 2) := by decide +kernel
theorem dX2_add_22 : decode cX2_add 22 = .ok (.aload 4, 2) := by decide +kernel
theorem dX2_add_24 : decode cX2_add 24 = .ok (.iload_n 1, 1) := by decide +kernel
theorem dX2_add_25 : decode cX2_add 25 = .ok (.putfield 22, 3) := by decide +kernel
theorem dX2_add_28 : decode cX2_add 28 = .ok (.aload 4, 2) := by decide +kernel
theorem dX2_add_30 : decode cX2_add 30 = .ok (.iload_n 2, 1) := by decide +kernel
theorem dX2_add_31 : decode cX2_add 31 = .ok (.putfield 25, 3) := by decide +kernel
theorem dX2_add_34 : decode cX2_add 34 = .ok (.aload 4, 2) := by decide +kernel
theorem dX2_add_36 : decode cX2_add 36 = .ok (.iload_n 3, 1) := by decide +kernel
theorem dX2_add_37 : decode cX2_add 37 = .ok (.putfield 28, 3) := by decide +kernel
theorem dX2_add_40 : decode cX2_add 40 = .ok (.aload 4, 2) := by decide +kernel
theorem dX2_add_42 : decode cX2_add 42 = .ok (.getfield 31, 3) := by decide +kernel
theorem dX2_add_45 : decode cX2_add 45 = .ok (.ldc 35, 2) := by decide +kernel
theorem dX2_add_47 : decode cX2_add 47 = .ok (.invokestatic 36, 3) := by decide +kernel
theorem dX2_add_50 : decode cX2_add 50 = .ok (.aload_n 0, 1) := by decide +kernel
theorem dX2_add_51 : decode cX2_add 51 = .ok (.dup, 1) := by decide +kernel
theorem dX2_add_52 : decode cX2_add 52 = .ok (.getfield 17, 3) := by decide +kernel
theorem dX2_add_55 : decode cX2_add 55 = .ok (.iconst 1, 1) := by decide +kernel
theorem dX2_add_56 : decode cX2_add 56 = .ok (.iadd, 1) := by decide +kernel
theorem dX2_add_57 : decode cX2_add 57 = .ok (.putfield 17, 3) := by decide +kernel
theorem dX2_add_60 : decode cX2_add 60 = .ok (.aload_n 0, 1) := by decide +kernel
theorem dX2_add_61 : decode cX2_add 61 = .ok (.getfield 17, 3) := by decide +kernel
theorem dX2_add_64 : decode cX2_add 64 = .ok (.iconst 1, 1) := by decide +kernel
theorem dX2_add_65 : decode cX2_add 65 = .ok (.isub, 1) := by decide +kernel
theorem dX2_add_66 : decode cX2_add 66 = .ok (.ireturn, 1) := by decide +kernel
theorem dX3_init_0 : decode cX3_init 0 = .ok (.aload_n 0, 1) := by decide +kernel
theorem dX3_init_1 : decode cX3_init 1 = .ok (.invokespecial 3, 3) := by decide +kernel
theorem dX3_init_4 : decode cX3_init 4 = .ok (.aload_n 0, 1) := by decide +kernel
theorem dX3_init_5 : decode cX3_init 5 = .ok (.iconst (-1), 1) := by decide +kernel
theorem dX3_init_6 : decode cX3_init 6 = .ok (.putfield 9, 3) := by decide +kernel
theorem dX3_init_9 : decode cX3_init 9 = .ok (.aload_n 0, 1) := by decide +kernel
theorem dX3_init_10 : decode cX3_init 10 = .ok (.iconst (-1), 1) := by decide +kernel
theorem dX3_init_11 : decode cX3_init 11 = .ok (.putfield 15, 3) := by decide +kernel
theorem dX3_init_14 : decode cX3_init 14 = .ok (.aload_n 0, 1) := by decide +kernel
theorem dX3_init_15 : decode cX3_init 15 = .ok (.iconst (-1), 1) := by decide +kernel
theorem dX3_init_16 : decode cX3_init 16 = .ok (.putfield 18, 3) := by decide +kernel
theorem dX3_init_19 : decode cX3_init 19 = .ok (.aload_n 0, 1) := by decide +kernel
theorem dX3_init_20 : decode cX3_init 20 = .ok (.iconst (-1), 1) := by decide +kernel
theorem dX3_init_21 : decode cX3_init 21 = .ok (.putfield 21, 3) := by decide +kernel
theorem dX3_init_24 : decode cX3_init 24 = .ok (.aload_n 0, 1) := by decide +kernel
theorem dX3_init_25 : decode cX3_init 25 = .ok (.iconst 0, 1) := by decide +kernel
theorem dX3_init_26 : decode cX3_init 26 = .ok (.putfield 24, 3) := by decide +kernel
theorem dX3_init_29 : decode cX3_init 29 = .ok (.aload_n 0, 1) := by decide +kernel
theorem dX3_init_30 : decode cX3_init 30 = .ok (.iconst 0, 1) := by decide +kernel
theorem dX3_init_31 : decode cX3_init 31 = .ok (.putfield 27, 3) := by decide +kernel
theorem dX3_init_34 : decode cX3_init 34 = .ok (.aload_n 0, 1) := by decide +kernel
theorem dX3_init_35 : decode cX3_init 35 = .ok (.iconst 0, 1) := by decide +kernel
theorem dX3_init_36 : decode cX3_init 36 = .ok (.putfield 30, 3) := by decide +kernel
theorem dX3_init_39 : decode cX3_init 39 = .ok (.return_, 1) := by decide +kernel
theorem dX3_lie_0 : decode cX3_lie 0 = .ok (.aload_n 0, 1) := by decide +kernel
theorem dX3_lie_1 : decode cX3_lie 1 = .ok (.iload_n 1, 1) := by decide +kernel
theorem dX3_lie_2 : decode cX3_lie 2 = .ok (.putfield 9, 3) := by decide +kernel
theorem dX3_lie_5 : decode cX3_lie 5 = .ok (.aload_n 0, 1) := by decide +kernel
theorem dX3_lie_6 : decode cX3_lie 6 = .ok (.iload_n 2, 1) := by decide +kernel
theorem dX3_lie_7 : decode cX3_lie 7 = .ok (.putfield 15, 3) := by decide +kernel
theorem dX3_lie_10 : decode cX3_lie 10 = .ok (.aload_n 0, 1) := by decide +kernel
theorem dX3_lie_11 : decode cX3_lie 11 = .ok (.iload_n 3, 1) := by decide +kernel
theorem dX3_lie_12 : decode cX3_lie 12 = .ok (.putfield 18, 3) := by decide +kernel
theorem dX3_lie_15 : decode cX3_lie 15 = .ok (.aload_n 0, 1) := by decide +kernel
theorem dX3_lie_16 : decode cX3_lie 16 = .ok (.iload 4, 2) := by decide +kernel
theorem dX3_lie_18 : decode cX3_lie 18 = .ok (.putfield 21, 3) := by decide +kernel
theorem dX3_lie_21 : decode cX3_lie 21 = .ok (.return_, 1) := by decide +kernel
theorem dX3_partOf_0 : decode cX3_partOf 0 = .ok (.iload_n 1, 1) := by decide +kernel
theorem dX3_partOf_1 : decode cX3_partOf 1 = .ok (.aload_n 0, 1) := by decide +kernel
theorem dX3_partOf_2 : decode cX3_partOf 2 = .ok (.getfield 9, 3) := by decide +kernel
theorem dX3_partOf_5 : decode cX3_partOf 5 = .ok (.if_icmp .ne 7, 3) := by decide +kernel
theorem dX3_partOf_8 : decode cX3_partOf 8 = .ok (.iconst 0, 1) := by decide +kernel
theorem dX3_partOf_9 : decode cX3_partOf 9 = .ok (.goto 4, 3) := by decide +kernel
theorem dX3_partOf_12 : decode cX3_partOf 12 = .ok (.iconst 1, 1) := by decide +kernel
theorem dX3_partOf_13 : decode cX3_partOf 13 = .ok (.ireturn, 1) := by decide +kernel
theorem dX4_init_0 : decode cX4_init 0 = .ok (.aload_n 0, 1) := by decide +kernel
theorem dX4_init_1 : decode cX4_init 1 = .ok (.invokespecial 3, 3) := by decide +kernel
theorem dX4_init_4 : decode cX4_init 4 = .ok (.aload_n 0, 1) := by decide +kernel
theorem dX4_init_5 : decode cX4_init 5 = .ok (.bipush 8, 2) := by decide +kernel
theorem dX4_init_7 : decode cX4_init 7 = .ok (.bipush 8, 2) := by decide +kernel
theorem dX4_init_9 : decode cX4_init 9 = .ok (.multianewarray 9 2, 4) := by decide +kernel
theorem dX4_init_13 : decode cX4_init 13 = .ok (.putfield 11, 3) := by decide +kernel
theorem dX4_init_16 : decode cX4_init 16 = .ok (.aload_n 0, 1) := by decide +kernel
theorem dX4_init_17 : decode cX4_init 17 = .ok (.sipush 256, 3) := by decide +kernel
theorem dX4_init_20 : decode cX4_init 20 = .ok (.newarray .int, 2) := by decide +kernel
theorem dX4_init_22 : decode cX4_init 22 = .ok (.putfield 16, 3) := by decide +kernel
theorem dX4_init_25 : decode cX4_init 25 = .ok (.aload_n 0, 1) := by decide +kernel
theorem dX4_init_26 : decode cX4_init 26 = .ok (.sipush 256, 3) := by decide +kernel
theorem dX4_init_29 : decode cX4_init 29 = .ok (.newarray .int, 2) := by decide +kernel
theorem dX4_init_31 : decode cX4_init 31 = .ok (.putfield 20, 3) := by decide +kernel
theorem dX4_init_34 : decode cX4_init 34 = .ok (.aload_n 0, 1) := by decide +kernel
theorem dX4_init_35 : decode cX4_init 35 = .ok (.iconst 0, 1) := by decide +kernel
theorem dX4_init_36 : decode cX4_init 36 = .ok (.putfield 23, 3) := by decide +kernel
theorem dX4_init_39 : decode cX4_init 39 = .ok (.return_, 1) := by decide +kernel
theorem dX4_settle_0 : decode cX4_settle 0 = .ok (.iload_n 2, 1) := by decide +kernel
theorem dX4_settle_1 : decode cX4_settle 1 = .ok (.bipush 8, 2) := by decide +kernel
theorem dX4_settle_3 : decode cX4_settle 3 = .ok (.invokestatic 27, 3) := by decide +kernel
theorem dX4_settle_6 : decode cX4_settle 6 = .ok (.istore 4, 2) := by decide +kernel
theorem dX4_settle_8 : decode cX4_settle 8 = .ok (.aload_n 0, 1) := by decide +kernel
theorem dX4_settle_9 : decode cX4_settle 9 = .ok (.iconst 1, 1) := by decide +kernel
theorem dX4_settle_10 : decode cX4_settle 10 = .ok (.iload 4, 2) := by decide +kernel
theorem dX4_settle_12 : decode cX4_settle 12 = .ok (.ishl, 1) := by decide +kernel
theorem dX4_settle_13 : decode cX4_settle 13 = .ok (.iconst 1, 1) := by decide +kernel
theorem dX4_settle_14 : decode cX4_settle 14 = .ok (.isub, 1) := by decide +kernel
theorem dX4_settle_15 : decode cX4_settle 15 = .ok (.putfield 23, 3) := by decide +kernel
theorem dX4_settle_18 : decode cX4_settle 18 = .ok (.iconst 0, 1) := by decide +kernel
theorem dX4_settle_19 : decode cX4_settle 19 = .ok (.istore 5, 2) := by decide +kernel
theorem dX4_settle_21 : decode cX4_settle 21 = .ok (.iload 5, 2) := by decide +kernel
theorem dX4_settle_23 : decode cX4_settle 23 = .ok (.iload 4, 2) := by decide +kernel
theorem dX4_settle_25 : decode cX4_settle 25 = .ok (.if_icmp .ge 60, 3) := by decide +kernel
theorem dX4_settle_28 : decode cX4_settle 28 = .ok (.iload 5, 2) := by decide +kernel
theorem dX4_settle_30 : decode cX4_settle 30 = .ok (.istore 6, 2) := by decide +kernel
theorem dX4_settle_32 : decode cX4_settle 32 = .ok (.iload 6, 2) := by decide +kernel
theorem dX4_settle_34 : decode cX4_settle 34 = .ok (.iload 4, 2) := by decide +kernel
theorem dX4_settle_36 : decode cX4_settle 36 = .ok (.if_icmp .ge 43, 3) := by decide +kernel
theorem dX4_settle_39 : decode cX4_settle 39 = .ok (.aload_n 0, 1) := by decide +kernel
theorem dX4_settle_40 : decode cX4_settle 40 = .ok (.getfield 11, 3) := by decide +kernel
theorem dX4_settle_43 : decode cX4_settle 43 = .ok (.iload 5, 2) := by decide +kernel
theorem dX4_settle_45 : decode cX4_settle 45 = .ok (.aaload, 1) := by decide +kernel
theorem dX4_settle_46 : decode cX4_settle 46 = .ok (.iload 6, 2) := by decide +kernel
theorem dX4_settle_48 : decode cX4_settle 48 = .ok (.aload_n 1, 1) := by decide +kernel
theorem dX4_settle_49 : decode cX4_settle 49 = .ok (.iload 5, 2) := by decide +kernel
theorem dX4_settle_51 : decode cX4_settle 51 = .ok (.iload 6, 2) := by decide +kernel
theorem dX4_settle_53 : decode cX4_settle 53 = .ok (.invokevirtual 33, 3) := by decide +kernel
theorem dX4_settle_56 : decode cX4_settle 56 = .ok (.ifCond .eq 15, 3) := by decide +kernel
theorem dX4_settle_59 : decode cX4_settle 59 = .ok (.aload_n 1, 1) := by decide +kernel
theorem dX4_settle_60 : decode cX4_settle 60 = .ok (.getfield 39, 3) := by decide +kernel
theorem dX4_settle_63 : decode cX4_settle 63 = .ok (.getfield 43, 3) := by decide +kernel
theorem dX4_settle_66 : decode cX4_settle 66 = .ok (.iload_n 3, 1) := by decide +kernel
theorem dX4_settle_67 : decode cX4_settle 67 = .ok (.iadd, 1) := by decide +kernel
theorem dX4_settle_68 : decode cX4_settle 68 = .ok (.goto 4, 3) := by decide +kernel
theorem dX4_settle_71 : decode cX4_settle 71 = .ok (.iconst (-1), 1) := by decide +kernel
theorem dX4_settle_72 : decode cX4_settle 72 = .ok (.iastore, 1) := by decide +kernel
theorem dX4_settle_73 : decode cX4_settle 73 = .ok (.iinc 6 1, 3) := by decide +kernel
theorem dX4_settle_76 : decode cX4_settle 76 = .ok (.goto (-44), 3) := by decide +kernel
theorem dX4_settle_79 : decode cX4_settle 79 = .ok (.iinc 5 1, 3) := by decide +kernel
theorem dX4_settle_82 : decode cX4_settle 82 = .ok (.goto (-61), 3) := by decide +kernel
theorem dX4_settle_85 : decode cX4_settle 85 = .ok (.aload_n 0, 1) := by decide +kernel
theorem dX4_settle_86 : decode cX4_settle 86 = .ok (.getfield 16, 3) := by decide +kernel
theorem dX4_settle_89 : decode cX4_settle 89 = .ok (.iconst 0, 1) := by decide +kernel
theorem dX4_settle_90 : decode cX4_settle 90 = .ok (.iconst 0, 1) := by decide +kernel
theorem dX4_settle_91 : decode cX4_settle 91 = .ok (.iastore, 1) := by decide +kernel
theorem dX4_settle_92 : decode cX4_settle 92 = .ok (.iconst 1, 1) := by decide +kernel
theorem dX4_settle_93 : decode cX4_settle 93 = .ok (.istore 5, 2) := by decide +kernel
theorem dX4_settle_95 : decode cX4_settle 95 = .ok (.iload 5, 2) := by decide +kernel
theorem dX4_settle_97 : decode cX4_settle 97 = .ok (.aload_n 0, 1) := by decide +kernel
theorem dX4_settle_98 : decode cX4_settle 98 = .ok (.getfield 23, 3) := by decide +kernel
theorem dX4_settle_101 : decode cX4_settle 101 = .ok (.if_icmp .gt 17, 3) := by decide +kernel
theorem dX4_settle_104 : decode cX4_settle 104 = .ok (.aload_n 0, 1) := by decide +kernel
theorem dX4_settle_105 : decode cX4_settle 105 = .ok (.iload 5, 2) := by decide +kernel
theorem dX4_settle_107 : decode cX4_settle 107 = .ok (.iload 4, 2) := by decide +kernel
theorem dX4_settle_109 : decode cX4_settle 109 = .ok (.invokevirtual 48, 3) := by decide +kernel
theorem dX4_settle_112 : decode cX4_settle 112 = .ok (.iinc 5 1, 3) := by decide +kernel
theorem dX4_settle_115 : decode cX4_settle 115 = .ok (.goto (-20), 3) := by decide +kernel
theorem dX4_settle_118 : decode cX4_settle 118 = .ok (.return_, 1) := by decide +kernel
theorem dX4_settleSet_0 : decode cX4_settleSet 0 = .ok (.iload_n 1, 1) := by decide +kernel
theorem dX4_settleSet_1 : decode cX4_settleSet 1 = .ok (.invokestatic 52, 3) := by decide +kernel
theorem dX4_settleSet_4 : decode cX4_settleSet 4 = .ok (.istore_n 3, 1) := by decide +kernel
theorem dX4_settleSet_5 : decode cX4_settleSet 5 = .ok (.aload_n 0, 1) := by decide +kernel
theorem dX4_settleSet_6 : decode cX4_settleSet 6 = .ok (.getfield 16, 3) := by decide +kernel
theorem dX4_settleSet_9 : decode cX4_settleSet 9 = .ok (.iload_n 1, 1) := by decide +kernel
theorem dX4_settleSet_10 : decode cX4_settleSet 10 = .ok (.iconst (-1), 1) := by decide +kernel
theorem dX4_settleSet_11 : decode cX4_settleSet 11 = .ok (.iastore, 1) := by decide +kernel
theorem dX4_settleSet_12 : decode cX4_settleSet 12 = .ok (.iload_n 3, 1) := by decide +kernel
theorem dX4_settleSet_13 : decode cX4_settleSet 13 = .ok (.istore 4, 2) := by decide +kernel
theorem dX4_settleSet_15 : decode cX4_settleSet 15 = .ok (.iload 4, 2) := by decide +kernel
theorem dX4_settleSet_17 : decode cX4_settleSet 17 = .ok (.iload_n 2, 1) := by decide +kernel
theorem dX4_settleSet_18 : decode cX4_settleSet 18 = .ok (.if_icmp .ge 95, 3) := by decide +kernel
theorem dX4_settleSet_21 : decode cX4_settleSet 21 = .ok (.iload_n 1, 1) := by decide +kernel
theorem dX4_settleSet_22 : decode cX4_settleSet 22 = .ok (.iload 4, 2) := by decide +kernel
theorem dX4_settleSet_24 : decode cX4_settleSet 24 = .ok (.invokestatic 56, 3) := by decide +kernel
theorem dX4_settleSet_27 : decode cX4_settleSet 27 = .ok (.ifCond .eq 80, 3) := by decide +kernel
theorem dX4_settleSet_30 : decode cX4_settleSet 30 = .ok (.aload_n 0, 1) := by decide +kernel
theorem dX4_settleSet_31 : decode cX4_settleSet 31 = .ok (.getfield 11, 3) := by decide +kernel
theorem dX4_settleSet_34 : decode cX4_settleSet 34 = .ok (.iload_n 3, 1) := by decide +kernel
theorem dX4_settleSet_35 : decode cX4_settleSet 35 = .ok (.aaload, 1) := by decide +kernel
theorem dX4_settleSet_36 : decode cX4_settleSet 36 = .ok (.iload 4, 2) := by decide +kernel
theorem dX4_settleSet_38 : decode cX4_settleSet 38 = .ok (.iaload, 1) := by decide +kernel
theorem dX4_settleSet_39 : decode cX4_settleSet 39 = .ok (.iconst (-1), 1) := by decide +kernel
theorem dX4_settleSet_40 : decode cX4_settleSet 40 = .ok (.if_icmp .ne 6, 3) := by decide +kernel
theorem dX4_settleSet_43 : decode cX4_settleSet 43 = .ok (.goto 64, 3) := by decide +kernel
theorem dX4_settleSet_46 : decode cX4_settleSet 46 = .ok (.aload_n 0, 1) := by decide +kernel
theorem dX4_settleSet_47 : decode cX4_settleSet 47 = .ok (.getfield 11, 3) := by decide +kernel
theorem dX4_settleSet_50 : decode cX4_settleSet 50 = .ok (.iload_n 3, 1) := by decide +kernel
theorem dX4_settleSet_51 : decode cX4_settleSet 51 = .ok (.aaload, 1) := by decide +kernel
theorem dX4_settleSet_52 : decode cX4_settleSet 52 = .ok (.iload 4, 2) := by decide +kernel
theorem dX4_settleSet_54 : decode cX4_settleSet 54 = .ok (.iaload, 1) := by decide +kernel
theorem dX4_settleSet_55 : decode cX4_settleSet 55 = .ok (.aload_n 0, 1) := by decide +kernel
theorem dX4_settleSet_56 : decode cX4_settleSet 56 = .ok (.getfield 16, 3) := by decide +kernel
theorem dX4_settleSet_59 : decode cX4_settleSet 59 = .ok (.iload_n 1, 1) := by decide +kernel
theorem dX4_settleSet_60 : decode cX4_settleSet 60 = .ok (.iload_n 3, 1) := by decide +kernel
theorem dX4_settleSet_61 : decode cX4_settleSet 61 = .ok (.iload 4, 2) := by decide +kernel
theorem dX4_settleSet_63 : decode cX4_settleSet 63 = .ok (.invokestatic 59, 3) := by decide +kernel
theorem dX4_settleSet_66 : decode cX4_settleSet 66 = .ok (.iaload, 1) := by decide +kernel
theorem dX4_settleSet_67 : decode cX4_settleSet 67 = .ok (.iadd, 1) := by decide +kernel
theorem dX4_settleSet_68 : decode cX4_settleSet 68 = .ok (.istore 5, 2) := by decide +kernel
theorem dX4_settleSet_70 : decode cX4_settleSet 70 = .ok (.aload_n 0, 1) := by decide +kernel
theorem dX4_settleSet_71 : decode cX4_settleSet 71 = .ok (.getfield 16, 3) := by decide +kernel
theorem dX4_settleSet_74 : decode cX4_settleSet 74 = .ok (.iload_n 1, 1) := by decide +kernel
theorem dX4_settleSet_75 : decode cX4_settleSet 75 = .ok (.iaload, 1) := by decide +kernel
theorem dX4_settleSet_76 : decode cX4_settleSet 76 = .ok (.iconst (-1), 1) := by decide +kernel
theorem dX4_settleSet_77 : decode cX4_settleSet 77 = .ok (.if_icmp .eq 14, 3) := by decide +kernel
theorem dX4_settleSet_80 : decode cX4_settleSet 80 = .ok (.iload 5, 2) := by decide +kernel
theorem dX4_settleSet_82 : decode cX4_settleSet 82 = .ok (.aload_n 0, 1) := by decide +kernel
theorem dX4_settleSet_83 : decode cX4_settleSet 83 = .ok (.getfield 16, 3) := by decide +kernel
theorem dX4_settleSet_86 : decode cX4_settleSet 86 = .ok (.iload_n 1, 1) := by decide +kernel
theorem dX4_settleSet_87 : decode cX4_settleSet 87 = .ok (.iaload, 1) := by decide +kernel
theorem dX4_settleSet_88 : decode cX4_settleSet 88 = .ok (.if_icmp .ge 19, 3) := by decide +kernel
theorem dX4_settleSet_91 : decode cX4_settleSet 91 = .ok (.aload_n 0, 1) := by decide +kernel
theorem dX4_settleSet_92 : decode cX4_settleSet 92 = .ok (.getfield 16, 3) := by decide +kernel
theorem dX4_settleSet_95 : decode cX4_settleSet 95 = .ok (.iload_n 1, 1) := by decide +kernel
theorem dX4_settleSet_96 : decode cX4_settleSet 96 = .ok (.iload 5, 2) := by decide +kernel
theorem dX4_settleSet_98 : decode cX4_settleSet 98 = .ok (.iastore, 1) := by decide +kernel
theorem dX4_settleSet_99 : decode cX4_settleSet 99 = .ok (.aload_n 0, 1) := by decide +kernel
theorem dX4_settleSet_100 : decode cX4_settleSet 100 = .ok (.getfield 20, 3) := by decide +kernel
theorem dX4_settleSet_103 : decode cX4_settleSet 103 = .ok (.iload_n 1, 1) := by decide +kernel
theorem dX4_settleSet_104 : decode cX4_settleSet 104 = .ok (.iload 4, 2) := by decide +kernel
theorem dX4_settleSet_106 : decode cX4_settleSet 106 = .ok (.iastore, 1) := by decide +kernel
theorem dX4_settleSet_107 : decode cX4_settleSet 107 = .ok (.iinc 4 1, 3) := by decide +kernel
theorem dX4_settleSet_110 : decode cX4_settleSet 110 = .ok (.goto (-95), 3) := by decide +kernel
theorem dX4_settleSet_113 : decode cX4_settleSet 113 = .ok (.return_, 1) := by decide +kernel
theorem dX4_wholeSet_0 : decode cX4_wholeSet 0 = .ok (.aload_n 0, 1) := by decide +kernel
theorem dX4_wholeSet_1 : decode cX4_wholeSet 1 = .ok (.getfield 23, 3) := by decide +kernel
theorem dX4_wholeSet_4 : decode cX4_wholeSet 4 = .ok (.ireturn, 1) := by decide +kernel
theorem dX4_sum_0 : decode cX4_sum 0 = .ok (.aload_n 0, 1) := by decide +kernel
theorem dX4_sum_1 : decode cX4_sum 1 = .ok (.getfield 16, 3) := by decide +kernel
theorem dX4_sum_4 : decode cX4_sum 4 = .ok (.aload_n 0, 1) := by decide +kernel
theorem dX4_sum_5 : decode cX4_sum 5 = .ok (.getfield 23, 3) := by decide +kernel
theorem dX4_sum_8 : decode cX4_sum 8 = .ok (.iaload, 1) := by decide +kernel
theorem dX4_sum_9 : decode cX4_sum 9 = .ok (.ireturn, 1) := by decide +kernel
theorem dX4_mateOfFirst_0 : decode cX4_mateOfFirst 0 = .ok (.iload_n 1, 1) := by decide +kernel
theorem dX4_mateOfFirst_1 : decode cX4_mateOfFirst 1 = .ok (.aload_n 0, 1) := by decide +kernel
theorem dX4_mateOfFirst_2 : decode cX4_mateOfFirst 2 = .ok (.getfield 23, 3) := by decide +kernel
theorem dX4_mateOfFirst_5 : decode cX4_mateOfFirst 5 = .ok (.invokestatic 63, 3) := by decide +kernel
theorem dX4_mateOfFirst_8 : decode cX4_mateOfFirst 8 = .ok (.ifCond .eq 12, 3) := by decide +kernel
theorem dX4_mateOfFirst_11 : decode cX4_mateOfFirst 11 = .ok (.aload_n 0, 1) := by decide +kernel
theorem dX4_mateOfFirst_12 : decode cX4_mateOfFirst 12 = .ok (.getfield 20, 3) := by decide +kernel
theorem dX4_mateOfFirst_15 : decode cX4_mateOfFirst 15 = .ok (.iload_n 1, 1) := by decide +kernel
theorem dX4_mateOfFirst_16 : decode cX4_mateOfFirst 16 = .ok (.iaload, 1) := by decide +kernel
theorem dX4_mateOfFirst_17 : decode cX4_mateOfFirst 17 = .ok (.goto 4, 3) := by decide +kernel
theorem dX4_mateOfFirst_20 : decode cX4_mateOfFirst 20 = .ok (.iconst (-1), 1) := by decide +kernel
theorem dX4_mateOfFirst_21 : decode cX4_mateOfFirst 21 = .ok (.ireturn, 1) := by decide +kernel
theorem dX4_firstOf_0 : decode cX4_firstOf 0 = .ok (.iconst 0, 1) := by decide +kernel
theorem dX4_firstOf_1 : decode cX4_firstOf 1 = .ok (.istore_n 1, 1) := by decide +kernel
theorem dX4_firstOf_2 : decode cX4_firstOf 2 = .ok (.iload_n 1, 1) := by decide +kernel
theorem dX4_firstOf_3 : decode cX4_firstOf 3 = .ok (.bipush 8, 2) := by decide +kernel
theorem dX4_firstOf_5 : decode cX4_firstOf 5 = .ok (.if_icmp .ge 19, 3) := by decide +kernel
theorem dX4_firstOf_8 : decode cX4_firstOf 8 = .ok (.iload_n 0, 1) := by decide +kernel
theorem dX4_firstOf_9 : decode cX4_firstOf 9 = .ok (.iload_n 1, 1) := by decide +kernel
theorem dX4_firstOf_10 : decode cX4_firstOf 10 = .ok (.invokestatic 56, 3) := by decide +kernel
theorem dX4_firstOf_13 : decode cX4_firstOf 13 = .ok (.ifCond .eq 5, 3) := by decide +kernel
theorem dX4_firstOf_16 : decode cX4_firstOf 16 = .ok (.iload_n 1, 1) := by decide +kernel
theorem dX4_firstOf_17 : decode cX4_firstOf 17 = .ok (.ireturn, 1) := by decide +kernel
theorem dX4_firstOf_18 : decode cX4_firstOf 18 = .ok (.iinc 1 1, 3) := by decide +kernel
theorem dX4_firstOf_21 : decode cX4_firstOf 21 = .ok (.goto (-19), 3) := by decide +kernel
theorem dX4_firstOf_24 : decode cX4_firstOf 24 = .ok (.bipush 8, 2) := by decide +kernel
theorem dX4_firstOf_26 : decode cX4_firstOf 26 = .ok (.ireturn, 1) := by decide +kernel
theorem dX4_isIn_0 : decode cX4_isIn 0 = .ok (.iload_n 0, 1) := by decide +kernel
theorem dX4_isIn_1 : decode cX4_isIn 1 = .ok (.iload_n 1, 1) := by decide +kernel
theorem dX4_isIn_2 : decode cX4_isIn 2 = .ok (.ishr, 1) := by decide +kernel
theorem dX4_isIn_3 : decode cX4_isIn 3 = .ok (.iconst 1, 1) := by decide +kernel
theorem dX4_isIn_4 : decode cX4_isIn 4 = .ok (.iand, 1) := by decide +kernel
theorem dX4_isIn_5 : decode cX4_isIn 5 = .ok (.iconst 1, 1) := by decide +kernel
theorem dX4_isIn_6 : decode cX4_isIn 6 = .ok (.if_icmp .ne 7, 3) := by decide +kernel
theorem dX4_isIn_9 : decode cX4_isIn 9 = .ok (.iconst 1, 1) := by decide +kernel
theorem dX4_isIn_10 : decode cX4_isIn 10 = .ok (.goto 4, 3) := by decide +kernel
theorem dX4_isIn_13 : decode cX4_isIn 13 = .ok (.iconst 0, 1) := by decide +kernel
theorem dX4_isIn_14 : decode cX4_isIn 14 = .ok (.ireturn, 1) := by decide +kernel
theorem dX4_without_0 : decode cX4_without 0 = .ok (.iload_n 0, 1) := by decide +kernel
theorem dX4_without_1 : decode cX4_without 1 = .ok (.iconst 1, 1) := by decide +kernel
theorem dX4_without_2 : decode cX4_without 2 = .ok (.iload_n 1, 1) := by decide +kernel
theorem dX4_without_3 : decode cX4_without 3 = .ok (.ishl, 1) := by decide +kernel
theorem dX4_without_4 : decode cX4_without 4 = .ok (.iconst (-1), 1) := by decide +kernel
theorem dX4_without_5 : decode cX4_without 5 = .ok (.ixor, 1) := by decide +kernel
theorem dX4_without_6 : decode cX4_without 6 = .ok (.iand, 1) := by decide +kernel
theorem dX4_without_7 : decode cX4_without 7 = .ok (.iconst 1, 1) := by decide +kernel
theorem dX4_without_8 : decode cX4_without 8 = .ok (.iload_n 2, 1) := by decide +kernel
theorem dX4_without_9 : decode cX4_without 9 = .ok (.ishl, 1) := by decide +kernel
theorem dX4_without_10 : decode cX4_without 10 = .ok (.iconst (-1), 1) := by decide +kernel
theorem dX4_without_11 : decode cX4_without 11 = .ok (.ixor, 1) := by decide +kernel
theorem dX4_without_12 : decode cX4_without 12 = .ok (.iand, 1) := by decide +kernel
theorem dX4_without_13 : decode cX4_without 13 = .ok (.ireturn, 1) := by decide +kernel
theorem dX5_init_0 : decode cX5_init 0 = .ok (.aload_n 0, 1) := by decide +kernel
theorem dX5_init_1 : decode cX5_init 1 = .ok (.invokespecial 3, 3) := by decide +kernel
theorem dX5_init_4 : decode cX5_init 4 = .ok (.aload_n 0, 1) := by decide +kernel
theorem dX5_init_5 : decode cX5_init 5 = .ok (.new 9, 3) := by decide +kernel
theorem dX5_init_8 : decode cX5_init 8 = .ok (.dup, 1) := by decide +kernel
theorem dX5_init_9 : decode cX5_init 9 = .ok (.invokespecial 11, 3) := by decide +kernel
theorem dX5_init_12 : decode cX5_init 12 = .ok (.putfield 12, 3) := by decide +kernel
theorem dX5_init_15 : decode cX5_init 15 = .ok (.aload_n 0, 1) := by decide +kernel
theorem dX5_init_16 : decode cX5_init 16 = .ok (.new 18, 3) := by decide +kernel
theorem dX5_init_19 : decode cX5_init 19 = .ok (.dup, 1) := by decide +kernel
theorem dX5_init_20 : decode cX5_init 20 = .ok (.invokespecial 20, 3) := by decide +kernel
theorem dX5_init_23 : decode cX5_init 23 = .ok (.putfield 21, 3) := by decide +kernel
theorem dX5_init_26 : decode cX5_init 26 = .ok (.aload_n 0, 1) := by decide +kernel
theorem dX5_init_27 : decode cX5_init 27 = .ok (.new 25, 3) := by decide +kernel
theorem dX5_init_30 : decode cX5_init 30 = .ok (.dup, 1) := by decide +kernel
theorem dX5_init_31 : decode cX5_init 31 = .ok (.invokespecial 27, 3) := by decide +kernel
theorem dX5_init_34 : decode cX5_init 34 = .ok (.putfield 28, 3) := by decide +kernel
theorem dX5_init_37 : decode cX5_init 37 = .ok (.aload_n 0, 1) := by decide +kernel
theorem dX5_init_38 : decode cX5_init 38 = .ok (.bipush 16, 2) := by decide +kernel
theorem dX5_init_40 : decode cX5_init 40 = .ok (.sipush 129, 3) := by decide +kernel
theorem dX5_init_43 : decode cX5_init 43 = .ok (.multianewarray 32 2, 4) := by decide +kernel
theorem dX5_init_47 : decode cX5_init 47 = .ok (.putfield 34, 3) := by decide +kernel
theorem dX5_init_50 : decode cX5_init 50 = .ok (.aload_n 0, 1) := by decide +kernel
theorem dX5_init_51 : decode cX5_init 51 = .ok (.sipush 129, 3) := by decide +kernel
theorem dX5_init_54 : decode cX5_init 54 = .ok (.newarray .int, 2) := by decide +kernel
theorem dX5_init_56 : decode cX5_init 56 = .ok (.putfield 37, 3) := by decide +kernel
theorem dX5_init_59 : decode cX5_init 59 = .ok (.return_, 1) := by decide +kernel
theorem dX5_weighAll_0 : decode cX5_weighAll 0 = .ok (.iconst 0, 1) := by decide +kernel
theorem dX5_weighAll_1 : decode cX5_weighAll 1 = .ok (.istore_n 1, 1) := by decide +kernel
theorem dX5_weighAll_2 : decode cX5_weighAll 2 = .ok (.iload_n 1, 1) := by decide +kernel
theorem dX5_weighAll_3 : decode cX5_weighAll 3 = .ok (.aload_n 0, 1) := by decide +kernel
theorem dX5_weighAll_4 : decode cX5_weighAll 4 = .ok (.getfield 21, 3) := by decide +kernel
theorem dX5_weighAll_7 : decode cX5_weighAll 7 = .ok (.getfield 41, 3) := by decide +kernel
theorem dX5_weighAll_10 : decode cX5_weighAll 10 = .ok (.if_icmp .ge 14, 3) := by decide +kernel
theorem dX5_weighAll_13 : decode cX5_weighAll 13 = .ok (.aload_n 0, 1) := by decide +kernel
theorem dX5_weighAll_14 : decode cX5_weighAll 14 = .ok (.iload_n 1, 1) := by decide +kernel
theorem dX5_weighAll_15 : decode cX5_weighAll 15 = .ok (.invokevirtual 45, 3) := by decide +kernel
theorem dX5_weighAll_18 : decode cX5_weighAll 18 = .ok (.iinc 1 1, 3) := by decide +kernel
theorem dX5_weighAll_21 : decode cX5_weighAll 21 = .ok (.goto (-19), 3) := by decide +kernel
theorem dX5_weighAll_24 : decode cX5_weighAll 24 = .ok (.return_, 1) := by decide +kernel
theorem dX5_weigh_0 : decode cX5_weigh 0 = .ok (.aload_n 0, 1) := by decide +kernel
theorem dX5_weigh_1 : decode cX5_weigh 1 = .ok (.getfield 21, 3) := by decide +kernel
theorem dX5_weigh_4 : decode cX5_weigh 4 = .ok (.iload_n 1, 1) := by decide +kernel
theorem dX5_weigh_5 : decode cX5_weigh 5 = .ok (.invokevirtual 49, 3) := by decide +kernel
theorem dX5_weigh_8 : decode cX5_weigh 8 = .ok (.ifCond .eq 43, 3) := by decide +kernel
theorem dX5_weigh_11 : decode cX5_weigh 11 = .ok (.aload_n 0, 1) := by decide +kernel
theorem dX5_weigh_12 : decode cX5_weigh 12 = .ok (.aload_n 0, 1) := by decide +kernel
theorem dX5_weigh_13 : decode cX5_weigh 13 = .ok (.iload_n 1, 1) := by decide +kernel
theorem dX5_weigh_14 : decode cX5_weigh 14 = .ok (.iconst 0, 1) := by decide +kernel
theorem dX5_weigh_15 : decode cX5_weigh 15 = .ok (.invokevirtual 53, 3) := by decide +kernel
theorem dX5_weigh_18 : decode cX5_weigh 18 = .ok (.aload_n 0, 1) := by decide +kernel
theorem dX5_weigh_19 : decode cX5_weigh 19 = .ok (.getfield 21, 3) := by decide +kernel
theorem dX5_weigh_22 : decode cX5_weigh 22 = .ok (.getfield 57, 3) := by decide +kernel
theorem dX5_weigh_25 : decode cX5_weigh 25 = .ok (.iload_n 1, 1) := by decide +kernel
theorem dX5_weigh_26 : decode cX5_weigh 26 = .ok (.aaload, 1) := by decide +kernel
theorem dX5_weigh_27 : decode cX5_weigh 27 = .ok (.iconst 0, 1) := by decide +kernel
theorem dX5_weigh_28 : decode cX5_weigh 28 = .ok (.invokevirtual 61, 3) := by decide +kernel
theorem dX5_weigh_31 : decode cX5_weigh 31 = .ok (.aload_n 0, 1) := by decide +kernel
theorem dX5_weigh_32 : decode cX5_weigh 32 = .ok (.aload_n 0, 1) := by decide +kernel
theorem dX5_weigh_33 : decode cX5_weigh 33 = .ok (.iload_n 1, 1) := by decide +kernel
theorem dX5_weigh_34 : decode cX5_weigh 34 = .ok (.iconst 1, 1) := by decide +kernel
theorem dX5_weigh_35 : decode cX5_weigh 35 = .ok (.invokevirtual 53, 3) := by decide +kernel
theorem dX5_weigh_38 : decode cX5_weigh 38 = .ok (.aload_n 0, 1) := by decide +kernel
theorem dX5_weigh_39 : decode cX5_weigh 39 = .ok (.getfield 21, 3) := by decide +kernel
theorem dX5_weigh_42 : decode cX5_weigh 42 = .ok (.getfield 57, 3) := by decide +kernel
theorem dX5_weigh_45 : decode cX5_weigh 45 = .ok (.iload_n 1, 1) := by decide +kernel
theorem dX5_weigh_46 : decode cX5_weigh 46 = .ok (.aaload, 1) := by decide +kernel
theorem dX5_weigh_47 : decode cX5_weigh 47 = .ok (.iconst 1, 1) := by decide +kernel
theorem dX5_weigh_48 : decode cX5_weigh 48 = .ok (.invokevirtual 61, 3) := by decide +kernel
theorem dX5_weigh_51 : decode cX5_weigh 51 = .ok (.return_, 1) := by decide +kernel
theorem dX5_fillRow_0 : decode cX5_fillRow 0 = .ok (.aload_n 1, 1) := by decide +kernel
theorem dX5_fillRow_1 : decode cX5_fillRow 1 = .ok (.iconst 0, 1) := by decide +kernel
theorem dX5_fillRow_2 : decode cX5_fillRow 2 = .ok (.invokestatic 65, 3) := by decide +kernel
theorem dX5_fillRow_5 : decode cX5_fillRow 5 = .ok (.iconst 0, 1) := by decide +kernel
theorem dX5_fillRow_6 : decode cX5_fillRow 6 = .ok (.istore 4, 2) := by decide +kernel
theorem dX5_fillRow_8 : decode cX5_fillRow 8 = .ok (.iload 4, 2) := by decide +kernel
theorem dX5_fillRow_10 : decode cX5_fillRow 10 = .ok (.bipush 16, 2) := by decide +kernel
theorem dX5_fillRow_12 : decode cX5_fillRow 12 = .ok (.if_icmp .ge 39, 3) := by decide +kernel
theorem dX5_fillRow_15 : decode cX5_fillRow 15 = .ok (.aload_n 2, 1) := by decide +kernel
theorem dX5_fillRow_16 : decode cX5_fillRow 16 = .ok (.getfield 71, 3) := by decide +kernel
theorem dX5_fillRow_19 : decode cX5_fillRow 19 = .ok (.iload 4, 2) := by decide +kernel
theorem dX5_fillRow_21 : decode cX5_fillRow 21 = .ok (.iaload, 1) := by decide +kernel
theorem dX5_fillRow_22 : decode cX5_fillRow 22 = .ok (.ldc 76, 2) := by decide +kernel
theorem dX5_fillRow_24 : decode cX5_fillRow 24 = .ok (.if_icmp .eq 21, 3) := by decide +kernel
theorem dX5_fillRow_27 : decode cX5_fillRow 27 = .ok (.aload_n 0, 1) := by decide +kernel
theorem dX5_fillRow_28 : decode cX5_fillRow 28 = .ok (.aload_n 1, 1) := by decide +kernel
theorem dX5_fillRow_29 : decode cX5_fillRow 29 = .ok (.aload_n 2, 1) := by decide +kernel
theorem dX5_fillRow_30 : decode cX5_fillRow 30 = .ok (.getfield 71, 3) := by decide +kernel
theorem dX5_fillRow_33 : decode cX5_fillRow 33 = .ok (.iload 4, 2) := by decide +kernel
theorem dX5_fillRow_35 : decode cX5_fillRow 35 = .ok (.iaload, 1) := by decide +kernel
theorem dX5_fillRow_36 : decode cX5_fillRow 36 = .ok (.iload_n 3, 1) := by decide +kernel
theorem dX5_fillRow_37 : decode cX5_fillRow 37 = .ok (.iload 4, 2) := by decide +kernel
theorem dX5_fillRow_39 : decode cX5_fillRow 39 = .ok (.invokestatic 77, 3) := by decide +kernel
theorem dX5_fillRow_42 : decode cX5_fillRow 42 = .ok (.invokevirtual 81, 3) := by decide +kernel
theorem dX5_fillRow_45 : decode cX5_fillRow 45 = .ok (.iinc 4 1, 3) := by decide +kernel
theorem dX5_fillRow_48 : decode cX5_fillRow 48 = .ok (.goto (-40), 3) := by decide +kernel
theorem dX5_fillRow_51 : decode cX5_fillRow 51 = .ok (.return_, 1) := by decide +kernel
theorem dX5_addSpot_0 : decode cX5_addSpot 0 = .ok (.aload_n 0, 1) := by decide +kernel
theorem dX5_addSpot_1 : decode cX5_addSpot 1 = .ok (.getfield 12, 3) := by decide +kernel
theorem dX5_addSpot_4 : decode cX5_addSpot 4 = .ok (.invokevirtual 85, 3) := by decide +kernel
theorem dX5_addSpot_7 : decode cX5_addSpot 7 = .ok (.istore 4, 2) := by decide +kernel
theorem dX5_addSpot_9 : decode cX5_addSpot 9 = .ok (.iconst 0, 1) := by decide +kernel
theorem dX5_addSpot_10 : decode cX5_addSpot 10 = .ok (.istore 5, 2) := by decide +kernel
theorem dX5_addSpot_12 : decode cX5_addSpot 12 = .ok (.iload 5, 2) := by decide +kernel
theorem dX5_addSpot_14 : decode cX5_addSpot 14 = .ok (.iload 4, 2) := by decide +kernel
theorem dX5_addSpot_16 : decode cX5_addSpot 16 = .ok (.if_icmp .ge 42, 3) := by decide +kernel
theorem dX5_addSpot_19 : decode cX5_addSpot 19 = .ok (.iload 5, 2) := by decide +kernel
theorem dX5_addSpot_21 : decode cX5_addSpot 21 = .ok (.aload_n 1, 1) := by decide +kernel
theorem dX5_addSpot_22 : decode cX5_addSpot 22 = .ok (.arraylength, 1) := by decide +kernel
theorem dX5_addSpot_23 : decode cX5_addSpot 23 = .ok (.if_icmp .ge 35, 3) := by decide +kernel
theorem dX5_addSpot_26 : decode cX5_addSpot 26 = .ok (.iload_n 2, 1) := by decide +kernel
theorem dX5_addSpot_27 : decode cX5_addSpot 27 = .ok (.aload_n 0, 1) := by decide +kernel
theorem dX5_addSpot_28 : decode cX5_addSpot 28 = .ok (.getfield 12, 3) := by decide +kernel
theorem dX5_addSpot_31 : decode cX5_addSpot 31 = .ok (.iload 5, 2) := by decide +kernel
theorem dX5_addSpot_33 : decode cX5_addSpot 33 = .ok (.iload_n 3, 1) := by decide +kernel
theorem dX5_addSpot_34 : decode cX5_addSpot 34 = .ok (.iadd, 1) := by decide +kernel
theorem dX5_addSpot_35 : decode cX5_addSpot 35 = .ok (.invokevirtual 89, 3) := by decide +kernel
theorem dX5_addSpot_38 : decode cX5_addSpot 38 = .ok (.invokestatic 93, 3) := by decide +kernel
theorem dX5_addSpot_41 : decode cX5_addSpot 41 = .ok (.ifCond .ne 11, 3) := by decide +kernel
theorem dX5_addSpot_44 : decode cX5_addSpot 44 = .ok (.aload_n 1, 1) := by decide +kernel
theorem dX5_addSpot_45 : decode cX5_addSpot 45 = .ok (.iload 5, 2) := by decide +kernel
theorem dX5_addSpot_47 : decode cX5_addSpot 47 = .ok (.dup2, 1) := by decide +kernel
theorem dX5_addSpot_48 : decode cX5_addSpot 48 = .ok (.iaload, 1) := by decide +kernel
theorem dX5_addSpot_49 : decode cX5_addSpot 49 = .ok (.iconst 1, 1) := by decide +kernel
theorem dX5_addSpot_50 : decode cX5_addSpot 50 = .ok (.iadd, 1) := by decide +kernel
theorem dX5_addSpot_51 : decode cX5_addSpot 51 = .ok (.iastore, 1) := by decide +kernel
theorem dX5_addSpot_52 : decode cX5_addSpot 52 = .ok (.iinc 5 1, 3) := by decide +kernel
theorem dX5_addSpot_55 : decode cX5_addSpot 55 = .ok (.goto (-43), 3) := by decide +kernel
theorem dX5_addSpot_58 : decode cX5_addSpot 58 = .ok (.return_, 1) := by decide +kernel
theorem dX5_rowOf_0 : decode cX5_rowOf 0 = .ok (.aload_n 0, 1) := by decide +kernel
theorem dX5_rowOf_1 : decode cX5_rowOf 1 = .ok (.getfield 21, 3) := by decide +kernel
theorem dX5_rowOf_4 : decode cX5_rowOf 4 = .ok (.iload_n 1, 1) := by decide +kernel
theorem dX5_rowOf_5 : decode cX5_rowOf 5 = .ok (.invokevirtual 49, 3) := by decide +kernel
theorem dX5_rowOf_8 : decode cX5_rowOf 8 = .ok (.ifCond .eq 24, 3) := by decide +kernel
theorem dX5_rowOf_11 : decode cX5_rowOf 11 = .ok (.iload_n 2, 1) := by decide +kernel
theorem dX5_rowOf_12 : decode cX5_rowOf 12 = .ok (.iconst 1, 1) := by decide +kernel
theorem dX5_rowOf_13 : decode cX5_rowOf 13 = .ok (.invokestatic 97, 3) := by decide +kernel
theorem dX5_rowOf_16 : decode cX5_rowOf 16 = .ok (.ifCond .eq 16, 3) := by decide +kernel
theorem dX5_rowOf_19 : decode cX5_rowOf 19 = .ok (.aload_n 0, 1) := by decide +kernel
theorem dX5_rowOf_20 : decode cX5_rowOf 20 = .ok (.getfield 34, 3) := by decide +kernel
theorem dX5_rowOf_23 : decode cX5_rowOf 23 = .ok (.iconst 2, 1) := by decide +kernel
theorem dX5_rowOf_24 : decode cX5_rowOf 24 = .ok (.iload_n 1, 1) := by decide +kernel
theorem dX5_rowOf_25 : decode cX5_rowOf 25 = .ok (.imul, 1) := by decide +kernel
theorem dX5_rowOf_26 : decode cX5_rowOf 26 = .ok (.iload_n 2, 1) := by decide +kernel
theorem dX5_rowOf_27 : decode cX5_rowOf 27 = .ok (.iadd, 1) := by decide +kernel
theorem dX5_rowOf_28 : decode cX5_rowOf 28 = .ok (.aaload, 1) := by decide +kernel
theorem dX5_rowOf_29 : decode cX5_rowOf 29 = .ok (.goto 7, 3) := by decide +kernel
theorem dX5_rowOf_32 : decode cX5_rowOf 32 = .ok (.aload_n 0, 1) := by decide +kernel
theorem dX5_rowOf_33 : decode cX5_rowOf 33 = .ok (.getfield 37, 3) := by decide +kernel
theorem dX5_rowOf_36 : decode cX5_rowOf 36 = .ok (.areturn, 1) := by decide +kernel
theorem dX5_quarrelsAs_0 : decode cX5_quarrelsAs 0 = .ok (.iload_n 3, 1) := by decide +kernel
theorem dX5_quarrelsAs_1 : decode cX5_quarrelsAs 1 = .ok (.sipush 128, 3) := by decide +kernel
theorem dX5_quarrelsAs_4 : decode cX5_quarrelsAs 4 = .ok (.invokestatic 97, 3) := by decide +kernel
theorem dX5_quarrelsAs_7 : decode cX5_quarrelsAs 7 = .ok (.ifCond .eq 14, 3) := by decide +kernel
theorem dX5_quarrelsAs_10 : decode cX5_quarrelsAs 10 = .ok (.aload_n 0, 1) := by decide +kernel
theorem dX5_quarrelsAs_11 : decode cX5_quarrelsAs 11 = .ok (.iload_n 1, 1) := by decide +kernel
theorem dX5_quarrelsAs_12 : decode cX5_quarrelsAs 12 = .ok (.iload_n 2, 1) := by decide +kernel
theorem dX5_quarrelsAs_13 : decode cX5_quarrelsAs 13 = .ok (.invokevirtual 53, 3) := by decide +kernel
theorem dX5_quarrelsAs_16 : decode cX5_quarrelsAs 16 = .ok (.iload_n 3, 1) := by decide +kernel
theorem dX5_quarrelsAs_17 : decode cX5_quarrelsAs 17 = .ok (.iaload, 1) := by decide +kernel
theorem dX5_quarrelsAs_18 : decode cX5_quarrelsAs 18 = .ok (.goto 4, 3) := by decide +kernel
theorem dX5_quarrelsAs_21 : decode cX5_quarrelsAs 21 = .ok (.iconst (-1), 1) := by decide +kernel
theorem dX5_quarrelsAs_22 : decode cX5_quarrelsAs 22 = .ok (.ireturn, 1) := by decide +kernel
theorem dX5_seekBest_0 : decode cX5_seekBest 0 = .ok (.aload_n 0, 1) := by decide +kernel
theorem dX5_seekBest_1 : decode cX5_seekBest 1 = .ok (.getfield 28, 3) := by decide +kernel
theorem dX5_seekBest_4 : decode cX5_seekBest 4 = .ok (.iconst (-1), 1) := by decide +kernel
theorem dX5_seekBest_5 : decode cX5_seekBest 5 = .ok (.iconst (-1), 1) := by decide +kernel
theorem dX5_seekBest_6 : decode cX5_seekBest 6 = .ok (.iconst (-1), 1) := by decide +kernel
theorem dX5_seekBest_7 : decode cX5_seekBest 7 = .ok (.iconst (-1), 1) := by decide +kernel
theorem dX5_seekBest_8 : decode cX5_seekBest 8 = .ok (.invokevirtual 100, 3) := by decide +kernel
theorem dX5_seekBest_11 : decode cX5_seekBest 11 = .ok (.iload_n 1, 1) := by decide +kernel
theorem dX5_seekBest_12 : decode cX5_seekBest 12 = .ok (.iload_n 2, 1) := by decide +kernel
theorem dX5_seekBest_13 : decode cX5_seekBest 13 = .ok (.invokestatic 104, 3) := by decide +kernel
theorem dX5_seekBest_16 : decode cX5_seekBest 16 = .ok (.istore_n 3, 1) := by decide +kernel
theorem dX5_seekBest_17 : decode cX5_seekBest 17 = .ok (.iload_n 1, 1) := by decide +kernel
theorem dX5_seekBest_18 : decode cX5_seekBest 18 = .ok (.iload_n 2, 1) := by decide +kernel
theorem dX5_seekBest_19 : decode cX5_seekBest 19 = .ok (.invokestatic 109, 3) := by decide +kernel
theorem dX5_seekBest_22 : decode cX5_seekBest 22 = .ok (.istore 4, 2) := by decide +kernel
theorem dX5_seekBest_24 : decode cX5_seekBest 24 = .ok (.aload_n 0, 1) := by decide +kernel
theorem dX5_seekBest_25 : decode cX5_seekBest 25 = .ok (.getfield 21, 3) := by decide +kernel
theorem dX5_seekBest_28 : decode cX5_seekBest 28 = .ok (.iload_n 3, 1) := by decide +kernel
theorem dX5_seekBest_29 : decode cX5_seekBest 29 = .ok (.invokevirtual 49, 3) := by decide +kernel
theorem dX5_seekBest_32 : decode cX5_seekBest 32 = .ok (.ifCond .eq 15, 3) := by decide +kernel
theorem dX5_seekBest_35 : decode cX5_seekBest 35 = .ok (.aload_n 0, 1) := by decide +kernel
theorem dX5_seekBest_36 : decode cX5_seekBest 36 = .ok (.getfield 21, 3) := by decide +kernel
theorem dX5_seekBest_39 : decode cX5_seekBest 39 = .ok (.iload 4, 2) := by decide +kernel
theorem dX5_seekBest_41 : decode cX5_seekBest 41 = .ok (.invokevirtual 49, 3) := by decide +kernel
theorem dX5_seekBest_44 : decode cX5_seekBest 44 = .ok (.ifCond .ne 5, 3) := by decide +kernel
theorem dX5_seekBest_47 : decode cX5_seekBest 47 = .ok (.iconst 0, 1) := by decide +kernel
theorem dX5_seekBest_48 : decode cX5_seekBest 48 = .ok (.ireturn, 1) := by decide +kernel
theorem dX5_seekBest_49 : decode cX5_seekBest 49 = .ok (.iload_n 3, 1) := by decide +kernel
theorem dX5_seekBest_50 : decode cX5_seekBest 50 = .ok (.iload 4, 2) := by decide +kernel
theorem dX5_seekBest_52 : decode cX5_seekBest 52 = .ok (.if_icmp .ne 18, 3) := by decide +kernel
theorem dX5_seekBest_55 : decode cX5_seekBest 55 = .ok (.aload_n 0, 1) := by decide +kernel
theorem dX5_seekBest_56 : decode cX5_seekBest 56 = .ok (.iload_n 3, 1) := by decide +kernel
theorem dX5_seekBest_57 : decode cX5_seekBest 57 = .ok (.iconst (-1), 1) := by decide +kernel
theorem dX5_seekBest_58 : decode cX5_seekBest 58 = .ok (.invokevirtual 112, 3) := by decide +kernel
theorem dX5_seekBest_61 : decode cX5_seekBest 61 = .ok (.aload_n 0, 1) := by decide +kernel
theorem dX5_seekBest_62 : decode cX5_seekBest 62 = .ok (.iconst (-1), 1) := by decide +kernel
theorem dX5_seekBest_63 : decode cX5_seekBest 63 = .ok (.iload_n 3, 1) := by decide +kernel
theorem dX5_seekBest_64 : decode cX5_seekBest 64 = .ok (.invokevirtual 112, 3) := by decide +kernel
theorem dX5_seekBest_67 : decode cX5_seekBest 67 = .ok (.goto 42, 3) := by decide +kernel
theorem dX5_seekBest_70 : decode cX5_seekBest 70 = .ok (.aload_n 0, 1) := by decide +kernel
theorem dX5_seekBest_71 : decode cX5_seekBest 71 = .ok (.getfield 21, 3) := by decide +kernel
theorem dX5_seekBest_74 : decode cX5_seekBest 74 = .ok (.getfield 57, 3) := by decide +kernel
theorem dX5_seekBest_77 : decode cX5_seekBest 77 = .ok (.iload_n 3, 1) := by decide +kernel
theorem dX5_seekBest_78 : decode cX5_seekBest 78 = .ok (.aaload, 1) := by decide +kernel
theorem dX5_seekBest_79 : decode cX5_seekBest 79 = .ok (.aload_n 0, 1) := by decide +kernel
theorem dX5_seekBest_80 : decode cX5_seekBest 80 = .ok (.getfield 21, 3) := by decide +kernel
theorem dX5_seekBest_83 : decode cX5_seekBest 83 = .ok (.getfield 57, 3) := by decide +kernel
theorem dX5_seekBest_86 : decode cX5_seekBest 86 = .ok (.iload 4, 2) := by decide +kernel
theorem dX5_seekBest_88 : decode cX5_seekBest 88 = .ok (.aaload, 1) := by decide +kernel
theorem dX5_seekBest_89 : decode cX5_seekBest 89 = .ok (.invokevirtual 116, 3) := by decide +kernel
theorem dX5_seekBest_92 : decode cX5_seekBest 92 = .ok (.ifCond .eq 17, 3) := by decide +kernel
theorem dX5_seekBest_95 : decode cX5_seekBest 95 = .ok (.aload_n 0, 1) := by decide +kernel
theorem dX5_seekBest_96 : decode cX5_seekBest 96 = .ok (.iload_n 3, 1) := by decide +kernel
theorem dX5_seekBest_97 : decode cX5_seekBest 97 = .ok (.iload 4, 2) := by decide +kernel
theorem dX5_seekBest_99 : decode cX5_seekBest 99 = .ok (.invokevirtual 112, 3) := by decide +kernel
theorem dX5_seekBest_102 : decode cX5_seekBest 102 = .ok (.aload_n 0, 1) := by decide +kernel
theorem dX5_seekBest_103 : decode cX5_seekBest 103 = .ok (.iload 4, 2) := by decide +kernel
theorem dX5_seekBest_105 : decode cX5_seekBest 105 = .ok (.iload_n 3, 1) := by decide +kernel
theorem dX5_seekBest_106 : decode cX5_seekBest 106 = .ok (.invokevirtual 112, 3) := by decide +kernel
theorem dX5_seekBest_109 : decode cX5_seekBest 109 = .ok (.aload_n 0, 1) := by decide +kernel
theorem dX5_seekBest_110 : decode cX5_seekBest 110 = .ok (.getfield 28, 3) := by decide +kernel
theorem dX5_seekBest_113 : decode cX5_seekBest 113 = .ok (.getfield 120, 3) := by decide +kernel
theorem dX5_seekBest_116 : decode cX5_seekBest 116 = .ok (.iconst (-1), 1) := by decide +kernel
theorem dX5_seekBest_117 : decode cX5_seekBest 117 = .ok (.if_icmp .eq 7, 3) := by decide +kernel
theorem dX5_seekBest_120 : decode cX5_seekBest 120 = .ok (.iconst 1, 1) := by decide +kernel
theorem dX5_seekBest_121 : decode cX5_seekBest 121 = .ok (.goto 4, 3) := by decide +kernel
theorem dX5_seekBest_124 : decode cX5_seekBest 124 = .ok (.iconst 0, 1) := by decide +kernel
theorem dX5_seekBest_125 : decode cX5_seekBest 125 = .ok (.ireturn, 1) := by decide +kernel
theorem dX5_tryWay_0 : decode cX5_tryWay 0 = .ok (.aload_n 0, 1) := by decide +kernel
theorem dX5_tryWay_1 : decode cX5_tryWay 1 = .ok (.iload_n 1, 1) := by decide +kernel
theorem dX5_tryWay_2 : decode cX5_tryWay 2 = .ok (.iconst 0, 1) := by decide +kernel
theorem dX5_tryWay_3 : decode cX5_tryWay 3 = .ok (.invokevirtual 123, 3) := by decide +kernel
theorem dX5_tryWay_6 : decode cX5_tryWay 6 = .ok (.ifCond .eq 12, 3) := by decide +kernel
theorem dX5_tryWay_9 : decode cX5_tryWay 9 = .ok (.aload_n 0, 1) := by decide +kernel
theorem dX5_tryWay_10 : decode cX5_tryWay 10 = .ok (.iload_n 2, 1) := by decide +kernel
theorem dX5_tryWay_11 : decode cX5_tryWay 11 = .ok (.iconst 1, 1) := by decide +kernel
theorem dX5_tryWay_12 : decode cX5_tryWay 12 = .ok (.invokevirtual 123, 3) := by decide +kernel
theorem dX5_tryWay_15 : decode cX5_tryWay 15 = .ok (.ifCond .ne 4, 3) := by decide +kernel
theorem dX5_tryWay_18 : decode cX5_tryWay 18 = .ok (.return_, 1) := by decide +kernel
theorem dX5_tryWay_19 : decode cX5_tryWay 19 = .ok (.aload_n 0, 1) := by decide +kernel
theorem dX5_tryWay_20 : decode cX5_tryWay 20 = .ok (.iload_n 1, 1) := by decide +kernel
theorem dX5_tryWay_21 : decode cX5_tryWay 21 = .ok (.iconst 0, 1) := by decide +kernel
theorem dX5_tryWay_22 : decode cX5_tryWay 22 = .ok (.invokevirtual 53, 3) := by decide +kernel
theorem dX5_tryWay_25 : decode cX5_tryWay 25 = .ok (.astore_n 3, 1) := by decide +kernel
theorem dX5_tryWay_26 : decode cX5_tryWay 26 = .ok (.aload_n 0, 1) := by decide +kernel
theorem dX5_tryWay_27 : decode cX5_tryWay 27 = .ok (.iload_n 2, 1) := by decide +kernel
theorem dX5_tryWay_28 : decode cX5_tryWay 28 = .ok (.iconst 1, 1) := by decide +kernel
theorem dX5_tryWay_29 : decode cX5_tryWay 29 = .ok (.invokevirtual 53, 3) := by decide +kernel
theorem dX5_tryWay_32 : decode cX5_tryWay 32 = .ok (.astore 4, 2) := by decide +kernel
end
section
theorem dX5_tryWay_34 : decode cX5_tryWay 34 = .ok (.aload_n 0, 1) := by decide +kernel
theorem dX5_tryWay_35 : decode cX5_tryWay 35 = .ok (.getfield 12, 3) := by decide +kernel
theorem dX5_tryWay_38 : decode cX5_tryWay 38 = .ok (.invokevirtual 85, 3) := by decide +kernel
theorem dX5_tryWay_41 : decode cX5_tryWay 41 = .ok (.istore 5, 2) := by decide +kernel
theorem dX5_tryWay_43 : decode cX5_tryWay 43 = .ok (.iconst 0, 1) := by decide +kernel
theorem dX5_tryWay_44 : decode cX5_tryWay 44 = .ok (.istore 6, 2) := by decide +kernel
theorem dX5_tryWay_46 : decode cX5_tryWay 46 = .ok (.iload 6, 2) := by decide +kernel
theorem dX5_tryWay_48 : decode cX5_tryWay 48 = .ok (.iload 5, 2) := by decide +kernel
theorem dX5_tryWay_50 : decode cX5_tryWay 50 = .ok (.if_icmp .ge 65, 3) := by decide +kernel
theorem dX5_tryWay_53 : decode cX5_tryWay 53 = .ok (.iload 6, 2) := by decide +kernel
theorem dX5_tryWay_55 : decode cX5_tryWay 55 = .ok (.sipush 129, 3) := by decide +kernel
theorem dX5_tryWay_58 : decode cX5_tryWay 58 = .ok (.if_icmp .ge 57, 3) := by decide +kernel
theorem dX5_tryWay_61 : decode cX5_tryWay 61 = .ok (.aload_n 3, 1) := by decide +kernel
theorem dX5_tryWay_62 : decode cX5_tryWay 62 = .ok (.iload 6, 2) := by decide +kernel
theorem dX5_tryWay_64 : decode cX5_tryWay 64 = .ok (.iaload, 1) := by decide +kernel
theorem dX5_tryWay_65 : decode cX5_tryWay 65 = .ok (.aload 4, 2) := by decide +kernel
theorem dX5_tryWay_67 : decode cX5_tryWay 67 = .ok (.iload 6, 2) := by decide +kernel
theorem dX5_tryWay_69 : decode cX5_tryWay 69 = .ok (.iaload, 1) := by decide +kernel
theorem dX5_tryWay_70 : decode cX5_tryWay 70 = .ok (.iadd, 1) := by decide +kernel
theorem dX5_tryWay_71 : decode cX5_tryWay 71 = .ok (.istore 7, 2) := by decide +kernel
theorem dX5_tryWay_73 : decode cX5_tryWay 73 = .ok (.aload_n 0, 1) := by decide +kernel
theorem dX5_tryWay_74 : decode cX5_tryWay 74 = .ok (.getfield 28, 3) := by decide +kernel
theorem dX5_tryWay_77 : decode cX5_tryWay 77 = .ok (.getfield 120, 3) := by decide +kernel
theorem dX5_tryWay_80 : decode cX5_tryWay 80 = .ok (.iconst (-1), 1) := by decide +kernel
theorem dX5_tryWay_81 : decode cX5_tryWay 81 = .ok (.if_icmp .eq 15, 3) := by decide +kernel
theorem dX5_tryWay_84 : decode cX5_tryWay 84 = .ok (.iload 7, 2) := by decide +kernel
theorem dX5_tryWay_86 : decode cX5_tryWay 86 = .ok (.aload_n 0, 1) := by decide +kernel
theorem dX5_tryWay_87 : decode cX5_tryWay 87 = .ok (.getfield 28, 3) := by decide +kernel
theorem dX5_tryWay_90 : decode cX5_tryWay 90 = .ok (.getfield 120, 3) := by decide +kernel
theorem dX5_tryWay_93 : decode cX5_tryWay 93 = .ok (.if_icmp .ge 16, 3) := by decide +kernel
theorem dX5_tryWay_96 : decode cX5_tryWay 96 = .ok (.aload_n 0, 1) := by decide +kernel
theorem dX5_tryWay_97 : decode cX5_tryWay 97 = .ok (.getfield 28, 3) := by decide +kernel
theorem dX5_tryWay_100 : decode cX5_tryWay 100 = .ok (.iload_n 1, 1) := by decide +kernel
theorem dX5_tryWay_101 : decode cX5_tryWay 101 = .ok (.iload_n 2, 1) := by decide +kernel
theorem dX5_tryWay_102 : decode cX5_tryWay 102 = .ok (.iload 6, 2) := by decide +kernel
theorem dX5_tryWay_104 : decode cX5_tryWay 104 = .ok (.iload 7, 2) := by decide +kernel
theorem dX5_tryWay_106 : decode cX5_tryWay 106 = .ok (.invokevirtual 100, 3) := by decide +kernel
theorem dX5_tryWay_109 : decode cX5_tryWay 109 = .ok (.iinc 6 1, 3) := by decide +kernel
theorem dX5_tryWay_112 : decode cX5_tryWay 112 = .ok (.goto (-66), 3) := by decide +kernel
theorem dX5_tryWay_115 : decode cX5_tryWay 115 = .ok (.return_, 1) := by decide +kernel
theorem dX5_mayLie_0 : decode cX5_mayLie 0 = .ok (.aload_n 0, 1) := by decide +kernel
theorem dX5_mayLie_1 : decode cX5_mayLie 1 = .ok (.getfield 21, 3) := by decide +kernel
theorem dX5_mayLie_4 : decode cX5_mayLie 4 = .ok (.iload_n 1, 1) := by decide +kernel
theorem dX5_mayLie_5 : decode cX5_mayLie 5 = .ok (.invokevirtual 49, 3) := by decide +kernel
theorem dX5_mayLie_8 : decode cX5_mayLie 8 = .ok (.ifCond .eq 19, 3) := by decide +kernel
theorem dX5_mayLie_11 : decode cX5_mayLie 11 = .ok (.aload_n 0, 1) := by decide +kernel
theorem dX5_mayLie_12 : decode cX5_mayLie 12 = .ok (.getfield 21, 3) := by decide +kernel
theorem dX5_mayLie_15 : decode cX5_mayLie 15 = .ok (.getfield 57, 3) := by decide +kernel
theorem dX5_mayLie_18 : decode cX5_mayLie 18 = .ok (.iload_n 1, 1) := by decide +kernel
theorem dX5_mayLie_19 : decode cX5_mayLie 19 = .ok (.aaload, 1) := by decide +kernel
theorem dX5_mayLie_20 : decode cX5_mayLie 20 = .ok (.iload_n 2, 1) := by decide +kernel
theorem dX5_mayLie_21 : decode cX5_mayLie 21 = .ok (.invokevirtual 126, 3) := by decide +kernel
theorem dX5_mayLie_24 : decode cX5_mayLie 24 = .ok (.ifCond .eq 7, 3) := by decide +kernel
theorem dX5_mayLie_27 : decode cX5_mayLie 27 = .ok (.iconst 1, 1) := by decide +kernel
theorem dX5_mayLie_28 : decode cX5_mayLie 28 = .ok (.goto 4, 3) := by decide +kernel
theorem dX5_mayLie_31 : decode cX5_mayLie 31 = .ok (.iconst 0, 1) := by decide +kernel
theorem dX5_mayLie_32 : decode cX5_mayLie 32 = .ok (.ireturn, 1) := by decide +kernel
theorem dX5_copyFoundTo_0 : decode cX5_copyFoundTo 0 = .ok (.aload_n 1, 1) := by decide +kernel
theorem dX5_copyFoundTo_1 : decode cX5_copyFoundTo 1 = .ok (.aload_n 0, 1) := by decide +kernel
theorem dX5_copyFoundTo_2 : decode cX5_copyFoundTo 2 = .ok (.getfield 28, 3) := by decide +kernel
theorem dX5_copyFoundTo_5 : decode cX5_copyFoundTo 5 = .ok (.getfield 129, 3) := by decide +kernel
theorem dX5_copyFoundTo_8 : decode cX5_copyFoundTo 8 = .ok (.aload_n 0, 1) := by decide +kernel
theorem dX5_copyFoundTo_9 : decode cX5_copyFoundTo 9 = .ok (.getfield 28, 3) := by decide +kernel
theorem dX5_copyFoundTo_12 : decode cX5_copyFoundTo 12 = .ok (.getfield 132, 3) := by decide +kernel
theorem dX5_copyFoundTo_15 : decode cX5_copyFoundTo 15 = .ok (.aload_n 0, 1) := by decide +kernel
theorem dX5_copyFoundTo_16 : decode cX5_copyFoundTo 16 = .ok (.getfield 28, 3) := by decide +kernel
theorem dX5_copyFoundTo_19 : decode cX5_copyFoundTo 19 = .ok (.getfield 135, 3) := by decide +kernel
theorem dX5_copyFoundTo_22 : decode cX5_copyFoundTo 22 = .ok (.aload_n 0, 1) := by decide +kernel
theorem dX5_copyFoundTo_23 : decode cX5_copyFoundTo 23 = .ok (.getfield 28, 3) := by decide +kernel
theorem dX5_copyFoundTo_26 : decode cX5_copyFoundTo 26 = .ok (.getfield 120, 3) := by decide +kernel
theorem dX5_copyFoundTo_29 : decode cX5_copyFoundTo 29 = .ok (.invokevirtual 100, 3) := by decide +kernel
theorem dX5_copyFoundTo_32 : decode cX5_copyFoundTo 32 = .ok (.aload_n 1, 1) := by decide +kernel
theorem dX5_copyFoundTo_33 : decode cX5_copyFoundTo 33 = .ok (.aload_n 0, 1) := by decide +kernel
theorem dX5_copyFoundTo_34 : decode cX5_copyFoundTo 34 = .ok (.getfield 12, 3) := by decide +kernel
theorem dX5_copyFoundTo_37 : decode cX5_copyFoundTo 37 = .ok (.invokevirtual 85, 3) := by decide +kernel
theorem dX5_copyFoundTo_40 : decode cX5_copyFoundTo 40 = .ok (.putfield 138, 3) := by decide +kernel
theorem dX5_copyFoundTo_43 : decode cX5_copyFoundTo 43 = .ok (.aload_n 1, 1) := by decide +kernel
theorem dX5_copyFoundTo_44 : decode cX5_copyFoundTo 44 = .ok (.aload_n 0, 1) := by decide +kernel
theorem dX5_copyFoundTo_45 : decode cX5_copyFoundTo 45 = .ok (.aload_n 1, 1) := by decide +kernel
theorem dX5_copyFoundTo_46 : decode cX5_copyFoundTo 46 = .ok (.invokevirtual 140, 3) := by decide +kernel
theorem dX5_copyFoundTo_49 : decode cX5_copyFoundTo 49 = .ok (.putfield 144, 3) := by decide +kernel
theorem dX5_copyFoundTo_52 : decode cX5_copyFoundTo 52 = .ok (.aload_n 1, 1) := by decide +kernel
theorem dX5_copyFoundTo_53 : decode cX5_copyFoundTo 53 = .ok (.getfield 129, 3) := by decide +kernel
theorem dX5_copyFoundTo_56 : decode cX5_copyFoundTo 56 = .ok (.aload_n 1, 1) := by decide +kernel
theorem dX5_copyFoundTo_57 : decode cX5_copyFoundTo 57 = .ok (.getfield 132, 3) := by decide +kernel
theorem dX5_copyFoundTo_60 : decode cX5_copyFoundTo 60 = .ok (.invokestatic 109, 3) := by decide +kernel
theorem dX5_copyFoundTo_63 : decode cX5_copyFoundTo 63 = .ok (.istore_n 2, 1) := by decide +kernel
theorem dX5_copyFoundTo_64 : decode cX5_copyFoundTo 64 = .ok (.aload_n 1, 1) := by decide +kernel
theorem dX5_copyFoundTo_65 : decode cX5_copyFoundTo 65 = .ok (.aload_n 0, 1) := by decide +kernel
theorem dX5_copyFoundTo_66 : decode cX5_copyFoundTo 66 = .ok (.getfield 21, 3) := by decide +kernel
theorem dX5_copyFoundTo_69 : decode cX5_copyFoundTo 69 = .ok (.iload_n 2, 1) := by decide +kernel
theorem dX5_copyFoundTo_70 : decode cX5_copyFoundTo 70 = .ok (.invokevirtual 49, 3) := by decide +kernel
theorem dX5_copyFoundTo_73 : decode cX5_copyFoundTo 73 = .ok (.ifCond .eq 18, 3) := by decide +kernel
theorem dX5_copyFoundTo_76 : decode cX5_copyFoundTo 76 = .ok (.aload_n 0, 1) := by decide +kernel
theorem dX5_copyFoundTo_77 : decode cX5_copyFoundTo 77 = .ok (.getfield 21, 3) := by decide +kernel
theorem dX5_copyFoundTo_80 : decode cX5_copyFoundTo 80 = .ok (.getfield 57, 3) := by decide +kernel
theorem dX5_copyFoundTo_83 : decode cX5_copyFoundTo 83 = .ok (.iload_n 2, 1) := by decide +kernel
theorem dX5_copyFoundTo_84 : decode cX5_copyFoundTo 84 = .ok (.aaload, 1) := by decide +kernel
theorem dX5_copyFoundTo_85 : decode cX5_copyFoundTo 85 = .ok (.getfield 147, 3) := by decide +kernel
theorem dX5_copyFoundTo_88 : decode cX5_copyFoundTo 88 = .ok (.goto 4, 3) := by decide +kernel
theorem dX5_copyFoundTo_91 : decode cX5_copyFoundTo 91 = .ok (.iconst 0, 1) := by decide +kernel
theorem dX5_copyFoundTo_92 : decode cX5_copyFoundTo 92 = .ok (.putfield 150, 3) := by decide +kernel
theorem dX5_copyFoundTo_95 : decode cX5_copyFoundTo 95 = .ok (.return_, 1) := by decide +kernel
theorem dX5_placesUpTo_0 : decode cX5_placesUpTo 0 = .ok (.aload_n 0, 1) := by decide +kernel
theorem dX5_placesUpTo_1 : decode cX5_placesUpTo 1 = .ok (.aload_n 1, 1) := by decide +kernel
theorem dX5_placesUpTo_2 : decode cX5_placesUpTo 2 = .ok (.getfield 129, 3) := by decide +kernel
theorem dX5_placesUpTo_5 : decode cX5_placesUpTo 5 = .ok (.iconst 0, 1) := by decide +kernel
theorem dX5_placesUpTo_6 : decode cX5_placesUpTo 6 = .ok (.invokevirtual 53, 3) := by decide +kernel
theorem dX5_placesUpTo_9 : decode cX5_placesUpTo 9 = .ok (.astore_n 2, 1) := by decide +kernel
theorem dX5_placesUpTo_10 : decode cX5_placesUpTo 10 = .ok (.aload_n 0, 1) := by decide +kernel
theorem dX5_placesUpTo_11 : decode cX5_placesUpTo 11 = .ok (.aload_n 1, 1) := by decide +kernel
theorem dX5_placesUpTo_12 : decode cX5_placesUpTo 12 = .ok (.getfield 132, 3) := by decide +kernel
theorem dX5_placesUpTo_15 : decode cX5_placesUpTo 15 = .ok (.iconst 1, 1) := by decide +kernel
theorem dX5_placesUpTo_16 : decode cX5_placesUpTo 16 = .ok (.invokevirtual 53, 3) := by decide +kernel
theorem dX5_placesUpTo_19 : decode cX5_placesUpTo 19 = .ok (.astore_n 3, 1) := by decide +kernel
theorem dX5_placesUpTo_20 : decode cX5_placesUpTo 20 = .ok (.iconst 0, 1) := by decide +kernel
theorem dX5_placesUpTo_21 : decode cX5_placesUpTo 21 = .ok (.istore 4, 2) := by decide +kernel
theorem dX5_placesUpTo_23 : decode cX5_placesUpTo 23 = .ok (.iconst 0, 1) := by decide +kernel
theorem dX5_placesUpTo_24 : decode cX5_placesUpTo 24 = .ok (.istore 5, 2) := by decide +kernel
theorem dX5_placesUpTo_26 : decode cX5_placesUpTo 26 = .ok (.iload 5, 2) := by decide +kernel
theorem dX5_placesUpTo_28 : decode cX5_placesUpTo 28 = .ok (.aload_n 1, 1) := by decide +kernel
theorem dX5_placesUpTo_29 : decode cX5_placesUpTo 29 = .ok (.getfield 138, 3) := by decide +kernel
theorem dX5_placesUpTo_32 : decode cX5_placesUpTo 32 = .ok (.if_icmp .ge 43, 3) := by decide +kernel
theorem dX5_placesUpTo_35 : decode cX5_placesUpTo 35 = .ok (.iload 5, 2) := by decide +kernel
theorem dX5_placesUpTo_37 : decode cX5_placesUpTo 37 = .ok (.sipush 129, 3) := by decide +kernel
theorem dX5_placesUpTo_40 : decode cX5_placesUpTo 40 = .ok (.if_icmp .ge 35, 3) := by decide +kernel
theorem dX5_placesUpTo_43 : decode cX5_placesUpTo 43 = .ok (.iload 4, 2) := by decide +kernel
theorem dX5_placesUpTo_45 : decode cX5_placesUpTo 45 = .ok (.aload_n 2, 1) := by decide +kernel
theorem dX5_placesUpTo_46 : decode cX5_placesUpTo 46 = .ok (.iload 5, 2) := by decide +kernel
theorem dX5_placesUpTo_48 : decode cX5_placesUpTo 48 = .ok (.iaload, 1) := by decide +kernel
theorem dX5_placesUpTo_49 : decode cX5_placesUpTo 49 = .ok (.aload_n 3, 1) := by decide +kernel
theorem dX5_placesUpTo_50 : decode cX5_placesUpTo 50 = .ok (.iload 5, 2) := by decide +kernel
theorem dX5_placesUpTo_52 : decode cX5_placesUpTo 52 = .ok (.iaload, 1) := by decide +kernel
theorem dX5_placesUpTo_53 : decode cX5_placesUpTo 53 = .ok (.iadd, 1) := by decide +kernel
theorem dX5_placesUpTo_54 : decode cX5_placesUpTo 54 = .ok (.aload_n 1, 1) := by decide +kernel
theorem dX5_placesUpTo_55 : decode cX5_placesUpTo 55 = .ok (.getfield 120, 3) := by decide +kernel
theorem dX5_placesUpTo_58 : decode cX5_placesUpTo 58 = .ok (.if_icmp .gt 7, 3) := by decide +kernel
theorem dX5_placesUpTo_61 : decode cX5_placesUpTo 61 = .ok (.iconst 1, 1) := by decide +kernel
theorem dX5_placesUpTo_62 : decode cX5_placesUpTo 62 = .ok (.goto 4, 3) := by decide +kernel
theorem dX5_placesUpTo_65 : decode cX5_placesUpTo 65 = .ok (.iconst 0, 1) := by decide +kernel
theorem dX5_placesUpTo_66 : decode cX5_placesUpTo 66 = .ok (.iadd, 1) := by decide +kernel
theorem dX5_placesUpTo_67 : decode cX5_placesUpTo 67 = .ok (.istore 4, 2) := by decide +kernel
theorem dX5_placesUpTo_69 : decode cX5_placesUpTo 69 = .ok (.iinc 5 1, 3) := by decide +kernel
theorem dX5_placesUpTo_72 : decode cX5_placesUpTo 72 = .ok (.goto (-46), 3) := by decide +kernel
theorem dX5_placesUpTo_75 : decode cX5_placesUpTo 75 = .ok (.iload 4, 2) := by decide +kernel
theorem dX5_placesUpTo_77 : decode cX5_placesUpTo 77 = .ok (.ireturn, 1) := by decide +kernel
theorem dX6_init_0 : decode cX6_init 0 = .ok (.aload_n 0, 1) := by decide +kernel
theorem dX6_init_1 : decode cX6_init 1 = .ok (.invokespecial 3, 3) := by decide +kernel
theorem dX6_init_4 : decode cX6_init 4 = .ok (.aload_n 0, 1) := by decide +kernel
theorem dX6_init_5 : decode cX6_init 5 = .ok (.sipush 400, 3) := by decide +kernel
theorem dX6_init_8 : decode cX6_init 8 = .ok (.newarray .int, 2) := by decide +kernel
theorem dX6_init_10 : decode cX6_init 10 = .ok (.putfield 9, 3) := by decide +kernel
theorem dX6_init_13 : decode cX6_init 13 = .ok (.aload_n 0, 1) := by decide +kernel
theorem dX6_init_14 : decode cX6_init 14 = .ok (.iconst 0, 1) := by decide +kernel
theorem dX6_init_15 : decode cX6_init 15 = .ok (.putfield 15, 3) := by decide +kernel
theorem dX6_init_18 : decode cX6_init 18 = .ok (.return_, 1) := by decide +kernel
theorem dX6_put_0 : decode cX6_put 0 = .ok (.aload_n 0, 1) := by decide +kernel
theorem dX6_put_1 : decode cX6_put 1 = .ok (.getfield 15, 3) := by decide +kernel
theorem dX6_put_4 : decode cX6_put 4 = .ok (.iconst 4, 1) := by decide +kernel
theorem dX6_put_5 : decode cX6_put 5 = .ok (.iadd, 1) := by decide +kernel
theorem dX6_put_6 : decode cX6_put 6 = .ok (.sipush 400, 3) := by decide +kernel
theorem dX6_put_9 : decode cX6_put 9 = .ok (.if_icmp .le 4, 3) := by decide +kernel
theorem dX6_put_12 : decode cX6_put 12 = .ok (.return_, 1) := by decide +kernel
theorem dX6_put_13 : decode cX6_put 13 = .ok (.bipush 24, 2) := by decide +kernel
theorem dX6_put_15 : decode cX6_put 15 = .ok (.istore_n 2, 1) := by decide +kernel
theorem dX6_put_16 : decode cX6_put 16 = .ok (.iload_n 2, 1) := by decide +kernel
theorem dX6_put_17 : decode cX6_put 17 = .ok (.ifCond .lt 35, 3) := by decide +kernel
theorem dX6_put_20 : decode cX6_put 20 = .ok (.aload_n 0, 1) := by decide +kernel
theorem dX6_put_21 : decode cX6_put 21 = .ok (.getfield 9, 3) := by decide +kernel
theorem dX6_put_24 : decode cX6_put 24 = .ok (.aload_n 0, 1) := by decide +kernel
theorem dX6_put_25 : decode cX6_put 25 = .ok (.getfield 15, 3) := by decide +kernel
theorem dX6_put_28 : decode cX6_put 28 = .ok (.iload_n 1, 1) := by decide +kernel
theorem dX6_put_29 : decode cX6_put 29 = .ok (.iload_n 2, 1) := by decide +kernel
theorem dX6_put_30 : decode cX6_put 30 = .ok (.iushr, 1) := by decide +kernel
theorem dX6_put_31 : decode cX6_put 31 = .ok (.sipush 255, 3) := by decide +kernel
theorem dX6_put_34 : decode cX6_put 34 = .ok (.iand, 1) := by decide +kernel
theorem dX6_put_35 : decode cX6_put 35 = .ok (.iastore, 1) := by decide +kernel
theorem dX6_put_36 : decode cX6_put 36 = .ok (.aload_n 0, 1) := by decide +kernel
theorem dX6_put_37 : decode cX6_put 37 = .ok (.dup, 1) := by decide +kernel
theorem dX6_put_38 : decode cX6_put 38 = .ok (.getfield 15, 3) := by decide +kernel
theorem dX6_put_41 : decode cX6_put 41 = .ok (.iconst 1, 1) := by decide +kernel
theorem dX6_put_42 : decode cX6_put 42 = .ok (.iadd, 1) := by decide +kernel
theorem dX6_put_43 : decode cX6_put 43 = .ok (.putfield 15, 3) := by decide +kernel
theorem dX6_put_46 : decode cX6_put 46 = .ok (.iinc 2 (-8), 3) := by decide +kernel
theorem dX6_put_49 : decode cX6_put 49 = .ok (.goto (-33), 3) := by decide +kernel
theorem dX6_put_52 : decode cX6_put 52 = .ok (.return_, 1) := by decide +kernel
theorem dX6_byteAt_0 : decode cX6_byteAt 0 = .ok (.iload_n 1, 1) := by decide +kernel
theorem dX6_byteAt_1 : decode cX6_byteAt 1 = .ok (.ifCond .lt 20, 3) := by decide +kernel
theorem dX6_byteAt_4 : decode cX6_byteAt 4 = .ok (.iload_n 1, 1) := by decide +kernel
theorem dX6_byteAt_5 : decode cX6_byteAt 5 = .ok (.aload_n 0, 1) := by decide +kernel
theorem dX6_byteAt_6 : decode cX6_byteAt 6 = .ok (.getfield 15, 3) := by decide +kernel
theorem dX6_byteAt_9 : decode cX6_byteAt 9 = .ok (.if_icmp .ge 12, 3) := by decide +kernel
theorem dX6_byteAt_12 : decode cX6_byteAt 12 = .ok (.aload_n 0, 1) := by decide +kernel
theorem dX6_byteAt_13 : decode cX6_byteAt 13 = .ok (.getfield 9, 3) := by decide +kernel
theorem dX6_byteAt_16 : decode cX6_byteAt 16 = .ok (.iload_n 1, 1) := by decide +kernel
theorem dX6_byteAt_17 : decode cX6_byteAt 17 = .ok (.iaload, 1) := by decide +kernel
theorem dX6_byteAt_18 : decode cX6_byteAt 18 = .ok (.goto 4, 3) := by decide +kernel
theorem dX6_byteAt_21 : decode cX6_byteAt 21 = .ok (.iconst (-1), 1) := by decide +kernel
theorem dX6_byteAt_22 : decode cX6_byteAt 22 = .ok (.ireturn, 1) := by decide +kernel
theorem dX7_init_0 : decode cX7_init 0 = .ok (.aload_n 0, 1) := by decide +kernel
theorem dX7_init_1 : decode cX7_init 1 = .ok (.invokespecial 3, 3) := by decide +kernel
theorem dX7_init_4 : decode cX7_init 4 = .ok (.aload_n 0, 1) := by decide +kernel
theorem dX7_init_5 : decode cX7_init 5 = .ok (.sipush 160, 3) := by decide +kernel
theorem dX7_init_8 : decode cX7_init 8 = .ok (.newarray .int, 2) := by decide +kernel
theorem dX7_init_10 : decode cX7_init 10 = .ok (.putfield 9, 3) := by decide +kernel
theorem dX7_init_13 : decode cX7_init 13 = .ok (.aload_n 0, 1) := by decide +kernel
theorem dX7_init_14 : decode cX7_init 14 = .ok (.iconst 0, 1) := by decide +kernel
theorem dX7_init_15 : decode cX7_init 15 = .ok (.putfield 15, 3) := by decide +kernel
theorem dX7_init_18 : decode cX7_init 18 = .ok (.aload_n 0, 1) := by decide +kernel
theorem dX7_init_19 : decode cX7_init 19 = .ok (.iconst 0, 1) := by decide +kernel
theorem dX7_init_20 : decode cX7_init 20 = .ok (.putfield 19, 3) := by decide +kernel
theorem dX7_init_23 : decode cX7_init 23 = .ok (.aload_n 0, 1) := by decide +kernel
theorem dX7_init_24 : decode cX7_init 24 = .ok (.iconst (-1), 1) := by decide +kernel
theorem dX7_init_25 : decode cX7_init 25 = .ok (.putfield 22, 3) := by decide +kernel
theorem dX7_init_28 : decode cX7_init 28 = .ok (.return_, 1) := by decide +kernel
theorem dX7_read_0 : decode cX7_read 0 = .ok (.aload_n 0, 1) := by decide +kernel
theorem dX7_read_1 : decode cX7_read 1 = .ok (.aload_n 1, 1) := by decide +kernel
theorem dX7_read_2 : decode cX7_read 2 = .ok (.iload_n 2, 1) := by decide +kernel
theorem dX7_read_3 : decode cX7_read 3 = .ok (.invokevirtual 25, 3) := by decide +kernel
theorem dX7_read_6 : decode cX7_read 6 = .ok (.aload_n 0, 1) := by decide +kernel
theorem dX7_read_7 : decode cX7_read 7 = .ok (.getfield 19, 3) := by decide +kernel
theorem dX7_read_10 : decode cX7_read 10 = .ok (.ifCond .eq 5, 3) := by decide +kernel
theorem dX7_read_13 : decode cX7_read 13 = .ok (.iconst 0, 1) := by decide +kernel
theorem dX7_read_14 : decode cX7_read 14 = .ok (.ireturn, 1) := by decide +kernel
theorem dX7_read_15 : decode cX7_read 15 = .ok (.aload_n 0, 1) := by decide +kernel
theorem dX7_read_16 : decode cX7_read 16 = .ok (.iconst 0, 1) := by decide +kernel
theorem dX7_read_17 : decode cX7_read 17 = .ok (.putfield 15, 3) := by decide +kernel
theorem dX7_read_20 : decode cX7_read 20 = .ok (.iconst 0, 1) := by decide +kernel
theorem dX7_read_21 : decode cX7_read 21 = .ok (.istore_n 3, 1) := by decide +kernel
theorem dX7_read_22 : decode cX7_read 22 = .ok (.iload_n 3, 1) := by decide +kernel
theorem dX7_read_23 : decode cX7_read 23 = .ok (.iload_n 2, 1) := by decide +kernel
theorem dX7_read_24 : decode cX7_read 24 = .ok (.if_icmp .ge 58, 3) := by decide +kernel
theorem dX7_read_27 : decode cX7_read 27 = .ok (.aload_n 1, 1) := by decide +kernel
theorem dX7_read_28 : decode cX7_read 28 = .ok (.iload_n 3, 1) := by decide +kernel
theorem dX7_read_29 : decode cX7_read 29 = .ok (.invokevirtual 29, 3) := by decide +kernel
theorem dX7_read_32 : decode cX7_read 32 = .ok (.istore 4, 2) := by decide +kernel
theorem dX7_read_34 : decode cX7_read 34 = .ok (.iload 4, 2) := by decide +kernel
theorem dX7_read_36 : decode cX7_read 36 = .ok (.invokestatic 35, 3) := by decide +kernel
theorem dX7_read_39 : decode cX7_read 39 = .ok (.ifCond .eq 37, 3) := by decide +kernel
theorem dX7_read_42 : decode cX7_read 42 = .ok (.aload_n 0, 1) := by decide +kernel
theorem dX7_read_43 : decode cX7_read 43 = .ok (.getfield 15, 3) := by decide +kernel
theorem dX7_read_46 : decode cX7_read 46 = .ok (.sipush 160, 3) := by decide +kernel
theorem dX7_read_49 : decode cX7_read 49 = .ok (.if_icmp .ge 27, 3) := by decide +kernel
theorem dX7_read_52 : decode cX7_read 52 = .ok (.aload_n 0, 1) := by decide +kernel
theorem dX7_read_53 : decode cX7_read 53 = .ok (.getfield 9, 3) := by decide +kernel
theorem dX7_read_56 : decode cX7_read 56 = .ok (.aload_n 0, 1) := by decide +kernel
theorem dX7_read_57 : decode cX7_read 57 = .ok (.getfield 15, 3) := by decide +kernel
theorem dX7_read_60 : decode cX7_read 60 = .ok (.iload 4, 2) := by decide +kernel
theorem dX7_read_62 : decode cX7_read 62 = .ok (.bipush 97, 2) := by decide +kernel
theorem dX7_read_64 : decode cX7_read 64 = .ok (.isub, 1) := by decide +kernel
theorem dX7_read_65 : decode cX7_read 65 = .ok (.iastore, 1) := by decide +kernel
theorem dX7_read_66 : decode cX7_read 66 = .ok (.aload_n 0, 1) := by decide +kernel
theorem dX7_read_67 : decode cX7_read 67 = .ok (.dup, 1) := by decide +kernel
theorem dX7_read_68 : decode cX7_read 68 = .ok (.getfield 15, 3) := by decide +kernel
theorem dX7_read_71 : decode cX7_read 71 = .ok (.iconst 1, 1) := by decide +kernel
theorem dX7_read_72 : decode cX7_read 72 = .ok (.iadd, 1) := by decide +kernel
theorem dX7_read_73 : decode cX7_read 73 = .ok (.putfield 15, 3) := by decide +kernel
theorem dX7_read_76 : decode cX7_read 76 = .ok (.iinc 3 1, 3) := by decide +kernel
theorem dX7_read_79 : decode cX7_read 79 = .ok (.goto (-57), 3) := by decide +kernel
theorem dX7_read_82 : decode cX7_read 82 = .ok (.iconst 1, 1) := by decide +kernel
theorem dX7_read_83 : decode cX7_read 83 = .ok (.ireturn, 1) := by decide +kernel
theorem dX7_seekFault_0 : decode cX7_seekFault 0 = .ok (.aload_n 0, 1) := by decide +kernel
theorem dX7_seekFault_1 : decode cX7_seekFault 1 = .ok (.iconst 0, 1) := by decide +kernel
theorem dX7_seekFault_2 : decode cX7_seekFault 2 = .ok (.putfield 19, 3) := by decide +kernel
theorem dX7_seekFault_5 : decode cX7_seekFault 5 = .ok (.aload_n 0, 1) := by decide +kernel
theorem dX7_seekFault_6 : decode cX7_seekFault 6 = .ok (.iconst (-1), 1) := by decide +kernel
theorem dX7_seekFault_7 : decode cX7_seekFault 7 = .ok (.putfield 22, 3) := by decide +kernel
theorem dX7_seekFault_10 : decode cX7_seekFault 10 = .ok (.iconst 0, 1) := by decide +kernel
theorem dX7_seekFault_11 : decode cX7_seekFault 11 = .ok (.istore_n 3, 1) := by decide +kernel
theorem dX7_seekFault_12 : decode cX7_seekFault 12 = .ok (.iconst 0, 1) := by decide +kernel
theorem dX7_seekFault_13 : decode cX7_seekFault 13 = .ok (.istore 4, 2) := by decide +kernel
theorem dX7_seekFault_15 : decode cX7_seekFault 15 = .ok (.iload 4, 2) := by decide +kernel
theorem dX7_seekFault_17 : decode cX7_seekFault 17 = .ok (.iload_n 2, 1) := by decide +kernel
theorem dX7_seekFault_18 : decode cX7_seekFault 18 = .ok (.if_icmp .ge 90, 3) := by decide +kernel
theorem dX7_seekFault_21 : decode cX7_seekFault 21 = .ok (.aload_n 0, 1) := by decide +kernel
theorem dX7_seekFault_22 : decode cX7_seekFault 22 = .ok (.getfield 19, 3) := by decide +kernel
theorem dX7_seekFault_25 : decode cX7_seekFault 25 = .ok (.ifCond .ne 83, 3) := by decide +kernel
theorem dX7_seekFault_28 : decode cX7_seekFault 28 = .ok (.aload_n 1, 1) := by decide +kernel
theorem dX7_seekFault_29 : decode cX7_seekFault 29 = .ok (.iload 4, 2) := by decide +kernel
theorem dX7_seekFault_31 : decode cX7_seekFault 31 = .ok (.invokevirtual 29, 3) := by decide +kernel
theorem dX7_seekFault_34 : decode cX7_seekFault 34 = .ok (.istore 5, 2) := by decide +kernel
theorem dX7_seekFault_36 : decode cX7_seekFault 36 = .ok (.iload 5, 2) := by decide +kernel
theorem dX7_seekFault_38 : decode cX7_seekFault 38 = .ok (.invokestatic 35, 3) := by decide +kernel
theorem dX7_seekFault_41 : decode cX7_seekFault 41 = .ok (.ifCond .eq 25, 3) := by decide +kernel
theorem dX7_seekFault_44 : decode cX7_seekFault 44 = .ok (.iinc 3 1, 3) := by decide +kernel
theorem dX7_seekFault_47 : decode cX7_seekFault 47 = .ok (.aload_n 0, 1) := by decide +kernel
theorem dX7_seekFault_48 : decode cX7_seekFault 48 = .ok (.iload_n 3, 1) := by decide +kernel
theorem dX7_seekFault_49 : decode cX7_seekFault 49 = .ok (.sipush 160, 3) := by decide +kernel
theorem dX7_seekFault_52 : decode cX7_seekFault 52 = .ok (.if_icmp .le 7, 3) := by decide +kernel
theorem dX7_seekFault_55 : decode cX7_seekFault 55 = .ok (.iconst 2, 1) := by decide +kernel
theorem dX7_seekFault_56 : decode cX7_seekFault 56 = .ok (.goto 4, 3) := by decide +kernel
theorem dX7_seekFault_59 : decode cX7_seekFault 59 = .ok (.iconst 0, 1) := by decide +kernel
theorem dX7_seekFault_60 : decode cX7_seekFault 60 = .ok (.putfield 19, 3) := by decide +kernel
theorem dX7_seekFault_63 : decode cX7_seekFault 63 = .ok (.goto 22, 3) := by decide +kernel
theorem dX7_seekFault_66 : decode cX7_seekFault 66 = .ok (.iload 5, 2) := by decide +kernel
theorem dX7_seekFault_68 : decode cX7_seekFault 68 = .ok (.bipush 10, 2) := by decide +kernel
theorem dX7_seekFault_70 : decode cX7_seekFault 70 = .ok (.if_icmp .eq 15, 3) := by decide +kernel
theorem dX7_seekFault_73 : decode cX7_seekFault 73 = .ok (.iload 5, 2) := by decide +kernel
theorem dX7_seekFault_75 : decode cX7_seekFault 75 = .ok (.bipush 32, 2) := by decide +kernel
theorem dX7_seekFault_77 : decode cX7_seekFault 77 = .ok (.if_icmp .eq 8, 3) := by decide +kernel
theorem dX7_seekFault_80 : decode cX7_seekFault 80 = .ok (.aload_n 0, 1) := by decide +kernel
theorem dX7_seekFault_81 : decode cX7_seekFault 81 = .ok (.iconst 1, 1) := by decide +kernel
theorem dX7_seekFault_82 : decode cX7_seekFault 82 = .ok (.putfield 19, 3) := by decide +kernel
theorem dX7_seekFault_85 : decode cX7_seekFault 85 = .ok (.aload_n 0, 1) := by decide +kernel
theorem dX7_seekFault_86 : decode cX7_seekFault 86 = .ok (.aload_n 0, 1) := by decide +kernel
theorem dX7_seekFault_87 : decode cX7_seekFault 87 = .ok (.getfield 19, 3) := by decide +kernel
theorem dX7_seekFault_90 : decode cX7_seekFault 90 = .ok (.ifCond .ne 7, 3) := by decide +kernel
theorem dX7_seekFault_93 : decode cX7_seekFault 93 = .ok (.iconst (-1), 1) := by decide +kernel
theorem dX7_seekFault_94 : decode cX7_seekFault 94 = .ok (.goto 5, 3) := by decide +kernel
theorem dX7_seekFault_97 : decode cX7_seekFault 97 = .ok (.iload 4, 2) := by decide +kernel
theorem dX7_seekFault_99 : decode cX7_seekFault 99 = .ok (.putfield 22, 3) := by decide +kernel
theorem dX7_seekFault_102 : decode cX7_seekFault 102 = .ok (.iinc 4 1, 3) := by decide +kernel
theorem dX7_seekFault_105 : decode cX7_seekFault 105 = .ok (.goto (-90), 3) := by decide +kernel
theorem dX7_seekFault_108 : decode cX7_seekFault 108 = .ok (.return_, 1) := by decide +kernel
theorem dX7_isLetter_0 : decode cX7_isLetter 0 = .ok (.iload_n 0, 1) := by decide +kernel
theorem dX7_isLetter_1 : decode cX7_isLetter 1 = .ok (.bipush 97, 2) := by decide +kernel
theorem dX7_isLetter_3 : decode cX7_isLetter 3 = .ok (.isub, 1) := by decide +kernel
theorem dX7_isLetter_4 : decode cX7_isLetter 4 = .ok (.bipush 15, 2) := by decide +kernel
theorem dX7_isLetter_6 : decode cX7_isLetter 6 = .ok (.invokestatic 39, 3) := by decide +kernel
theorem dX7_isLetter_9 : decode cX7_isLetter 9 = .ok (.ireturn, 1) := by decide +kernel
theorem dX7_letterAt_0 : decode cX7_letterAt 0 = .ok (.iload_n 1, 1) := by decide +kernel
theorem dX7_letterAt_1 : decode cX7_letterAt 1 = .ok (.ifCond .lt 20, 3) := by decide +kernel
theorem dX7_letterAt_4 : decode cX7_letterAt 4 = .ok (.iload_n 1, 1) := by decide +kernel
theorem dX7_letterAt_5 : decode cX7_letterAt 5 = .ok (.aload_n 0, 1) := by decide +kernel
theorem dX7_letterAt_6 : decode cX7_letterAt 6 = .ok (.getfield 15, 3) := by decide +kernel
theorem dX7_letterAt_9 : decode cX7_letterAt 9 = .ok (.if_icmp .ge 12, 3) := by decide +kernel
theorem dX7_letterAt_12 : decode cX7_letterAt 12 = .ok (.aload_n 0, 1) := by decide +kernel
theorem dX7_letterAt_13 : decode cX7_letterAt 13 = .ok (.getfield 9, 3) := by decide +kernel
theorem dX7_letterAt_16 : decode cX7_letterAt 16 = .ok (.iload_n 1, 1) := by decide +kernel
theorem dX7_letterAt_17 : decode cX7_letterAt 17 = .ok (.iaload, 1) := by decide +kernel
theorem dX7_letterAt_18 : decode cX7_letterAt 18 = .ok (.goto 4, 3) := by decide +kernel
theorem dX7_letterAt_21 : decode cX7_letterAt 21 = .ok (.iconst (-1), 1) := by decide +kernel
theorem dX7_letterAt_22 : decode cX7_letterAt 22 = .ok (.ireturn, 1) := by decide +kernel
theorem dX7_places_0 : decode cX7_places 0 = .ok (.iconst 0, 1) := by decide +kernel
theorem dX7_places_1 : decode cX7_places 1 = .ok (.aload_n 0, 1) := by decide +kernel
theorem dX7_places_2 : decode cX7_places 2 = .ok (.getfield 15, 3) := by decide +kernel
theorem dX7_places_5 : decode cX7_places 5 = .ok (.bipush 32, 2) := by decide +kernel
theorem dX7_places_7 : decode cX7_places 7 = .ok (.isub, 1) := by decide +kernel
theorem dX7_places_8 : decode cX7_places 8 = .ok (.iconst 1, 1) := by decide +kernel
theorem dX7_places_9 : decode cX7_places 9 = .ok (.iadd, 1) := by decide +kernel
theorem dX7_places_10 : decode cX7_places 10 = .ok (.invokestatic 43, 3) := by decide +kernel
theorem dX7_places_13 : decode cX7_places 13 = .ok (.ireturn, 1) := by decide +kernel
theorem dX8_init_0 : decode cX8_init 0 = .ok (.aload_n 0, 1) := by decide +kernel
theorem dX8_init_1 : decode cX8_init 1 = .ok (.invokespecial 1, 3) := by decide +kernel
theorem dX8_init_4 : decode cX8_init 4 = .ok (.aload_n 0, 1) := by decide +kernel
theorem dX8_init_5 : decode cX8_init 5 = .ok (.new 7, 3) := by decide +kernel
theorem dX8_init_8 : decode cX8_init 8 = .ok (.dup, 1) := by decide +kernel
theorem dX8_init_9 : decode cX8_init 9 = .ok (.invokespecial 9, 3) := by decide +kernel
theorem dX8_init_12 : decode cX8_init 12 = .ok (.putfield 10, 3) := by decide +kernel
theorem dX8_init_15 : decode cX8_init 15 = .ok (.aload_n 0, 1) := by decide +kernel
theorem dX8_init_16 : decode cX8_init 16 = .ok (.new 16, 3) := by decide +kernel
theorem dX8_init_19 : decode cX8_init 19 = .ok (.dup, 1) := by decide +kernel
theorem dX8_init_20 : decode cX8_init 20 = .ok (.invokespecial 18, 3) := by decide +kernel
theorem dX8_init_23 : decode cX8_init 23 = .ok (.putfield 19, 3) := by decide +kernel
theorem dX8_init_26 : decode cX8_init 26 = .ok (.aload_n 0, 1) := by decide +kernel
theorem dX8_init_27 : decode cX8_init 27 = .ok (.aload_n 0, 1) := by decide +kernel
theorem dX8_init_28 : decode cX8_init 28 = .ok (.getfield 19, 3) := by decide +kernel
theorem dX8_init_31 : decode cX8_init 31 = .ok (.getfield 23, 3) := by decide +kernel
theorem dX8_init_34 : decode cX8_init 34 = .ok (.putfield 27, 3) := by decide +kernel
theorem dX8_init_37 : decode cX8_init 37 = .ok (.aload_n 0, 1) := by decide +kernel
theorem dX8_init_38 : decode cX8_init 38 = .ok (.aload_n 0, 1) := by decide +kernel
theorem dX8_init_39 : decode cX8_init 39 = .ok (.getfield 19, 3) := by decide +kernel
theorem dX8_init_42 : decode cX8_init 42 = .ok (.getfield 30, 3) := by decide +kernel
theorem dX8_init_45 : decode cX8_init 45 = .ok (.putfield 34, 3) := by decide +kernel
theorem dX8_init_48 : decode cX8_init 48 = .ok (.aload_n 0, 1) := by decide +kernel
theorem dX8_init_49 : decode cX8_init 49 = .ok (.new 35, 3) := by decide +kernel
theorem dX8_init_52 : decode cX8_init 52 = .ok (.dup, 1) := by decide +kernel
theorem dX8_init_53 : decode cX8_init 53 = .ok (.invokespecial 37, 3) := by decide +kernel
theorem dX8_init_56 : decode cX8_init 56 = .ok (.putfield 38, 3) := by decide +kernel
theorem dX8_init_59 : decode cX8_init 59 = .ok (.aload_n 0, 1) := by decide +kernel
theorem dX8_init_60 : decode cX8_init 60 = .ok (.new 42, 3) := by decide +kernel
theorem dX8_init_63 : decode cX8_init 63 = .ok (.dup, 1) := by decide +kernel
theorem dX8_init_64 : decode cX8_init 64 = .ok (.invokespecial 44, 3) := by decide +kernel
theorem dX8_init_67 : decode cX8_init 67 = .ok (.putfield 45, 3) := by decide +kernel
theorem dX8_init_70 : decode cX8_init 70 = .ok (.aload_n 0, 1) := by decide +kernel
theorem dX8_init_71 : decode cX8_init 71 = .ok (.iconst 0, 1) := by decide +kernel
theorem dX8_init_72 : decode cX8_init 72 = .ok (.putfield 49, 3) := by decide +kernel
theorem dX8_init_75 : decode cX8_init 75 = .ok (.aload_n 0, 1) := by decide +kernel
theorem dX8_init_76 : decode cX8_init 76 = .ok (.iconst 3, 1) := by decide +kernel
theorem dX8_init_77 : decode cX8_init 77 = .ok (.putfield 53, 3) := by decide +kernel
theorem dX8_init_80 : decode cX8_init 80 = .ok (.return_, 1) := by decide +kernel
theorem dX8_feed_0 : decode cX8_feed 0 = .ok (.aload_n 0, 1) := by decide +kernel
theorem dX8_feed_1 : decode cX8_feed 1 = .ok (.getfield 10, 3) := by decide +kernel
theorem dX8_feed_4 : decode cX8_feed 4 = .ok (.getfield 56, 3) := by decide +kernel
theorem dX8_feed_7 : decode cX8_feed 7 = .ok (.bipush 20, 2) := by decide +kernel
theorem dX8_feed_9 : decode cX8_feed 9 = .ok (.iadd, 1) := by decide +kernel
theorem dX8_feed_10 : decode cX8_feed 10 = .ok (.sipush 400, 3) := by decide +kernel
theorem dX8_feed_13 : decode cX8_feed 13 = .ok (.if_icmp .le 5, 3) := by decide +kernel
theorem dX8_feed_16 : decode cX8_feed 16 = .ok (.iconst (-1), 1) := by decide +kernel
theorem dX8_feed_17 : decode cX8_feed 17 = .ok (.ireturn, 1) := by decide +kernel
theorem dX8_feed_18 : decode cX8_feed 18 = .ok (.aload_n 0, 1) := by decide +kernel
theorem dX8_feed_19 : decode cX8_feed 19 = .ok (.getfield 10, 3) := by decide +kernel
theorem dX8_feed_22 : decode cX8_feed 22 = .ok (.iload_n 1, 1) := by decide +kernel
theorem dX8_feed_23 : decode cX8_feed 23 = .ok (.invokevirtual 59, 3) := by decide +kernel
theorem dX8_feed_26 : decode cX8_feed 26 = .ok (.aload_n 0, 1) := by decide +kernel
theorem dX8_feed_27 : decode cX8_feed 27 = .ok (.getfield 10, 3) := by decide +kernel
theorem dX8_feed_30 : decode cX8_feed 30 = .ok (.iload_n 2, 1) := by decide +kernel
theorem dX8_feed_31 : decode cX8_feed 31 = .ok (.invokevirtual 59, 3) := by decide +kernel
theorem dX8_feed_34 : decode cX8_feed 34 = .ok (.aload_n 0, 1) := by decide +kernel
theorem dX8_feed_35 : decode cX8_feed 35 = .ok (.getfield 10, 3) := by decide +kernel
theorem dX8_feed_38 : decode cX8_feed 38 = .ok (.iload_n 3, 1) := by decide +kernel
theorem dX8_feed_39 : decode cX8_feed 39 = .ok (.invokevirtual 59, 3) := by decide +kernel
theorem dX8_feed_42 : decode cX8_feed 42 = .ok (.aload_n 0, 1) := by decide +kernel
theorem dX8_feed_43 : decode cX8_feed 43 = .ok (.getfield 10, 3) := by decide +kernel
theorem dX8_feed_46 : decode cX8_feed 46 = .ok (.iload 4, 2) := by decide +kernel
theorem dX8_feed_48 : decode cX8_feed 48 = .ok (.invokevirtual 59, 3) := by decide +kernel
theorem dX8_feed_51 : decode cX8_feed 51 = .ok (.aload_n 0, 1) := by decide +kernel
theorem dX8_feed_52 : decode cX8_feed 52 = .ok (.getfield 10, 3) := by decide +kernel
theorem dX8_feed_55 : decode cX8_feed 55 = .ok (.iload 5, 2) := by decide +kernel
theorem dX8_feed_57 : decode cX8_feed 57 = .ok (.invokevirtual 59, 3) := by decide +kernel
theorem dX8_feed_60 : decode cX8_feed 60 = .ok (.aload_n 0, 1) := by decide +kernel
theorem dX8_feed_61 : decode cX8_feed 61 = .ok (.getfield 10, 3) := by decide +kernel
theorem dX8_feed_64 : decode cX8_feed 64 = .ok (.getfield 56, 3) := by decide +kernel
theorem dX8_feed_67 : decode cX8_feed 67 = .ok (.ireturn, 1) := by decide +kernel
theorem dX8_work_0 : decode cX8_work 0 = .ok (.iload_n 1, 1) := by decide +kernel
theorem dX8_work_1 : decode cX8_work 1 = .ok (.ifCond .lt 14, 3) := by decide +kernel
theorem dX8_work_4 : decode cX8_work 4 = .ok (.iload_n 1, 1) := by decide +kernel
theorem dX8_work_5 : decode cX8_work 5 = .ok (.aload_n 0, 1) := by decide +kernel
theorem dX8_work_6 : decode cX8_work 6 = .ok (.getfield 10, 3) := by decide +kernel
theorem dX8_work_9 : decode cX8_work 9 = .ok (.getfield 56, 3) := by decide +kernel
theorem dX8_work_12 : decode cX8_work 12 = .ok (.if_icmp .le 6, 3) := by decide +kernel
theorem dX8_work_15 : decode cX8_work 15 = .ok (.bipush (-2), 2) := by decide +kernel
theorem dX8_work_17 : decode cX8_work 17 = .ok (.ireturn, 1) := by decide +kernel
theorem dX8_work_18 : decode cX8_work 18 = .ok (.aload_n 0, 1) := by decide +kernel
theorem dX8_work_19 : decode cX8_work 19 = .ok (.getfield 27, 3) := by decide +kernel
theorem dX8_work_22 : decode cX8_work 22 = .ok (.aload_n 0, 1) := by decide +kernel
theorem dX8_work_23 : decode cX8_work 23 = .ok (.getfield 10, 3) := by decide +kernel
theorem dX8_work_26 : decode cX8_work 26 = .ok (.iload_n 1, 1) := by decide +kernel
theorem dX8_work_27 : decode cX8_work 27 = .ok (.invokevirtual 63, 3) := by decide +kernel
theorem dX8_work_30 : decode cX8_work 30 = .ok (.istore_n 2, 1) := by decide +kernel
theorem dX8_work_31 : decode cX8_work 31 = .ok (.aload_n 0, 1) := by decide +kernel
theorem dX8_work_32 : decode cX8_work 32 = .ok (.getfield 10, 3) := by decide +kernel
theorem dX8_work_35 : decode cX8_work 35 = .ok (.iconst 0, 1) := by decide +kernel
theorem dX8_work_36 : decode cX8_work 36 = .ok (.putfield 56, 3) := by decide +kernel
theorem dX8_work_39 : decode cX8_work 39 = .ok (.iload_n 2, 1) := by decide +kernel
theorem dX8_work_40 : decode cX8_work 40 = .ok (.ifCond .ne 5, 3) := by decide +kernel
theorem dX8_work_43 : decode cX8_work 43 = .ok (.iconst (-1), 1) := by decide +kernel
theorem dX8_work_44 : decode cX8_work 44 = .ok (.ireturn, 1) := by decide +kernel
theorem dX8_work_45 : decode cX8_work 45 = .ok (.aload_n 0, 1) := by decide +kernel
theorem dX8_work_46 : decode cX8_work 46 = .ok (.getfield 45, 3) := by decide +kernel
theorem dX8_work_49 : decode cX8_work 49 = .ok (.invokevirtual 69, 3) := by decide +kernel
theorem dX8_work_52 : decode cX8_work 52 = .ok (.aload_n 0, 1) := by decide +kernel
theorem dX8_work_53 : decode cX8_work 53 = .ok (.getfield 27, 3) := by decide +kernel
theorem dX8_work_56 : decode cX8_work 56 = .ok (.getfield 72, 3) := by decide +kernel
theorem dX8_work_59 : decode cX8_work 59 = .ok (.ireturn, 1) := by decide +kernel
theorem dX8_fault_0 : decode cX8_fault 0 = .ok (.iload_n 1, 1) := by decide +kernel
theorem dX8_fault_1 : decode cX8_fault 1 = .ok (.lookupswitch 43 #[(0, 27), (1, 35)], 27) := by decide +kernel
theorem dX8_fault_28 : decode cX8_fault 28 = .ok (.aload_n 0, 1) := by decide +kernel
theorem dX8_fault_29 : decode cX8_fault 29 = .ok (.getfield 27, 3) := by decide +kernel
theorem dX8_fault_32 : decode cX8_fault 32 = .ok (.getfield 73, 3) := by decide +kernel
theorem dX8_fault_35 : decode cX8_fault 35 = .ok (.ireturn, 1) := by decide +kernel
theorem dX8_fault_36 : decode cX8_fault 36 = .ok (.aload_n 0, 1) := by decide +kernel
theorem dX8_fault_37 : decode cX8_fault 37 = .ok (.getfield 27, 3) := by decide +kernel
theorem dX8_fault_40 : decode cX8_fault 40 = .ok (.getfield 76, 3) := by decide +kernel
theorem dX8_fault_43 : decode cX8_fault 43 = .ok (.ireturn, 1) := by decide +kernel
theorem dX8_fault_44 : decode cX8_fault 44 = .ok (.iconst (-1), 1) := by decide +kernel
theorem dX8_fault_45 : decode cX8_fault 45 = .ok (.ireturn, 1) := by decide +kernel
theorem dX8_half_0 : decode cX8_half 0 = .ok (.iload_n 1, 1) := by decide +kernel
theorem dX8_half_1 : decode cX8_half 1 = .ok (.iconst 2, 1) := by decide +kernel
theorem dX8_half_2 : decode cX8_half 2 = .ok (.invokestatic 79, 3) := by decide +kernel
theorem dX8_half_5 : decode cX8_half 5 = .ok (.ifCond .eq 24, 3) := by decide +kernel
theorem dX8_half_8 : decode cX8_half 8 = .ok (.iload_n 2, 1) := by decide +kernel
theorem dX8_half_9 : decode cX8_half 9 = .ok (.iconst 1, 1) := by decide +kernel
theorem dX8_half_10 : decode cX8_half 10 = .ok (.invokestatic 79, 3) := by decide +kernel
theorem dX8_half_13 : decode cX8_half 13 = .ok (.ifCond .eq 16, 3) := by decide +kernel
theorem dX8_half_16 : decode cX8_half 16 = .ok (.iload_n 3, 1) := by decide +kernel
theorem dX8_half_17 : decode cX8_half 17 = .ok (.bipush 9, 2) := by decide +kernel
theorem dX8_half_19 : decode cX8_half 19 = .ok (.invokestatic 79, 3) := by decide +kernel
theorem dX8_half_22 : decode cX8_half 22 = .ok (.ifCond .eq 7, 3) := by decide +kernel
theorem dX8_half_25 : decode cX8_half 25 = .ok (.iconst 1, 1) := by decide +kernel
theorem dX8_half_26 : decode cX8_half 26 = .ok (.goto 4, 3) := by decide +kernel
theorem dX8_half_29 : decode cX8_half 29 = .ok (.iconst 0, 1) := by decide +kernel
theorem dX8_half_30 : decode cX8_half 30 = .ok (.istore 4, 2) := by decide +kernel
theorem dX8_half_32 : decode cX8_half 32 = .ok (.iload 4, 2) := by decide +kernel
theorem dX8_half_34 : decode cX8_half 34 = .ok (.ifCond .eq 16, 3) := by decide +kernel
theorem dX8_half_37 : decode cX8_half 37 = .ok (.aload_n 0, 1) := by decide +kernel
theorem dX8_half_38 : decode cX8_half 38 = .ok (.getfield 34, 3) := by decide +kernel
theorem dX8_half_41 : decode cX8_half 41 = .ok (.iload_n 1, 1) := by decide +kernel
theorem dX8_half_42 : decode cX8_half 42 = .ok (.iload_n 2, 1) := by decide +kernel
theorem dX8_half_43 : decode cX8_half 43 = .ok (.iload_n 3, 1) := by decide +kernel
theorem dX8_half_44 : decode cX8_half 44 = .ok (.invokevirtual 83, 3) := by decide +kernel
theorem dX8_half_47 : decode cX8_half 47 = .ok (.goto 4, 3) := by decide +kernel
theorem dX8_half_50 : decode cX8_half 50 = .ok (.iconst (-1), 1) := by decide +kernel
theorem dX8_half_51 : decode cX8_half 51 = .ok (.ireturn, 1) := by decide +kernel
theorem dX8_light_0 : decode cX8_light 0 = .ok (.aload_n 0, 1) := by decide +kernel
theorem dX8_light_1 : decode cX8_light 1 = .ok (.iload_n 1, 1) := by decide +kernel
theorem dX8_light_2 : decode cX8_light 2 = .ok (.iload_n 2, 1) := by decide +kernel
theorem dX8_light_3 : decode cX8_light 3 = .ok (.iload_n 3, 1) := by decide +kernel
theorem dX8_light_4 : decode cX8_light 4 = .ok (.invokevirtual 89, 3) := by decide +kernel
theorem dX8_light_7 : decode cX8_light 7 = .ok (.ifCond .eq 16, 3) := by decide +kernel
theorem dX8_light_10 : decode cX8_light 10 = .ok (.iload 4, 2) := by decide +kernel
theorem dX8_light_12 : decode cX8_light 12 = .ok (.iconst 1, 1) := by decide +kernel
theorem dX8_light_13 : decode cX8_light 13 = .ok (.if_icmp .lt 10, 3) := by decide +kernel
theorem dX8_light_16 : decode cX8_light 16 = .ok (.iload 4, 2) := by decide +kernel
theorem dX8_light_18 : decode cX8_light 18 = .ok (.ldc 93, 2) := by decide +kernel
theorem dX8_light_20 : decode cX8_light 20 = .ok (.if_icmp .le 5, 3) := by decide +kernel
theorem dX8_light_23 : decode cX8_light 23 = .ok (.iconst (-1), 1) := by decide +kernel
theorem dX8_light_24 : decode cX8_light 24 = .ok (.ireturn, 1) := by decide +kernel
theorem dX8_light_25 : decode cX8_light 25 = .ok (.aload_n 0, 1) := by decide +kernel
theorem dX8_light_26 : decode cX8_light 26 = .ok (.getfield 34, 3) := by decide +kernel
theorem dX8_light_29 : decode cX8_light 29 = .ok (.getfield 94, 3) := by decide +kernel
theorem dX8_light_32 : decode cX8_light 32 = .ok (.iload_n 1, 1) := by decide +kernel
theorem dX8_light_33 : decode cX8_light 33 = .ok (.aaload, 1) := by decide +kernel
theorem dX8_light_34 : decode cX8_light 34 = .ok (.getfield 98, 3) := by decide +kernel
theorem dX8_light_37 : decode cX8_light 37 = .ok (.astore 5, 2) := by decide +kernel
theorem dX8_light_39 : decode cX8_light 39 = .ok (.iload_n 2, 1) := by decide +kernel
theorem dX8_light_40 : decode cX8_light 40 = .ok (.iload_n 3, 1) := by decide +kernel
theorem dX8_light_41 : decode cX8_light 41 = .ok (.invokestatic 104, 3) := by decide +kernel
theorem dX8_light_44 : decode cX8_light 44 = .ok (.istore 6, 2) := by decide +kernel
theorem dX8_light_46 : decode cX8_light 46 = .ok (.aload 5, 2) := by decide +kernel
theorem dX8_light_48 : decode cX8_light 48 = .ok (.iload 6, 2) := by decide +kernel
theorem dX8_light_50 : decode cX8_light 50 = .ok (.iaload, 1) := by decide +kernel
theorem dX8_light_51 : decode cX8_light 51 = .ok (.iload 4, 2) := by decide +kernel
theorem dX8_light_53 : decode cX8_light 53 = .ok (.iand, 1) := by decide +kernel
theorem dX8_light_54 : decode cX8_light 54 = .ok (.istore 7, 2) := by decide +kernel
theorem dX8_light_56 : decode cX8_light 56 = .ok (.iload 7, 2) := by decide +kernel
theorem dX8_light_58 : decode cX8_light 58 = .ok (.ifCond .ne 16, 3) := by decide +kernel
theorem dX8_light_61 : decode cX8_light 61 = .ok (.aload_n 0, 1) := by decide +kernel
theorem dX8_light_62 : decode cX8_light 62 = .ok (.dup, 1) := by decide +kernel
theorem dX8_light_63 : decode cX8_light 63 = .ok (.getfield 49, 3) := by decide +kernel
theorem dX8_light_66 : decode cX8_light 66 = .ok (.iconst 1, 1) := by decide +kernel
theorem dX8_light_67 : decode cX8_light 67 = .ok (.iadd, 1) := by decide +kernel
theorem dX8_light_68 : decode cX8_light 68 = .ok (.putfield 49, 3) := by decide +kernel
theorem dX8_light_71 : decode cX8_light 71 = .ok (.bipush (-2), 2) := by decide +kernel
theorem dX8_light_73 : decode cX8_light 73 = .ok (.ireturn, 1) := by decide +kernel
theorem dX8_light_74 : decode cX8_light 74 = .ok (.aload 5, 2) := by decide +kernel
theorem dX8_light_76 : decode cX8_light 76 = .ok (.iload 6, 2) := by decide +kernel
theorem dX8_light_78 : decode cX8_light 78 = .ok (.iload 7, 2) := by decide +kernel
theorem dX8_light_80 : decode cX8_light 80 = .ok (.iastore, 1) := by decide +kernel
theorem dX8_light_81 : decode cX8_light 81 = .ok (.iload 7, 2) := by decide +kernel
theorem dX8_light_83 : decode cX8_light 83 = .ok (.invokestatic 108, 3) := by decide +kernel
theorem dX8_light_86 : decode cX8_light 86 = .ok (.ireturn, 1) := by decide +kernel
theorem dX8_list_0 : decode cX8_list 0 = .ok (.aload_n 0, 1) := by decide +kernel
theorem dX8_list_1 : decode cX8_list 1 = .ok (.iload_n 1, 1) := by decide +kernel
theorem dX8_list_2 : decode cX8_list 2 = .ok (.iload_n 2, 1) := by decide +kernel
theorem dX8_list_3 : decode cX8_list 3 = .ok (.iload_n 3, 1) := by decide +kernel
theorem dX8_list_4 : decode cX8_list 4 = .ok (.invokevirtual 89, 3) := by decide +kernel
theorem dX8_list_7 : decode cX8_list 7 = .ok (.ifCond .eq 24, 3) := by decide +kernel
theorem dX8_list_10 : decode cX8_list 10 = .ok (.aload_n 0, 1) := by decide +kernel
theorem dX8_list_11 : decode cX8_list 11 = .ok (.getfield 34, 3) := by decide +kernel
theorem dX8_list_14 : decode cX8_list 14 = .ok (.getfield 94, 3) := by decide +kernel
theorem dX8_list_17 : decode cX8_list 17 = .ok (.iload_n 1, 1) := by decide +kernel
theorem dX8_list_18 : decode cX8_list 18 = .ok (.aaload, 1) := by decide +kernel
theorem dX8_list_19 : decode cX8_list 19 = .ok (.getfield 98, 3) := by decide +kernel
theorem dX8_list_22 : decode cX8_list 22 = .ok (.iload_n 2, 1) := by decide +kernel
theorem dX8_list_23 : decode cX8_list 23 = .ok (.iload_n 3, 1) := by decide +kernel
theorem dX8_list_24 : decode cX8_list 24 = .ok (.invokestatic 104, 3) := by decide +kernel
theorem dX8_list_27 : decode cX8_list 27 = .ok (.iaload, 1) := by decide +kernel
theorem dX8_list_28 : decode cX8_list 28 = .ok (.goto 4, 3) := by decide +kernel
theorem dX8_list_31 : decode cX8_list 31 = .ok (.iconst (-1), 1) := by decide +kernel
theorem dX8_list_32 : decode cX8_list 32 = .ok (.ireturn, 1) := by decide +kernel
theorem dX8_quarrels_0 : decode cX8_quarrels 0 = .ok (.aload_n 0, 1) := by decide +kernel
theorem dX8_quarrels_1 : decode cX8_quarrels 1 = .ok (.getfield 34, 3) := by decide +kernel
theorem dX8_quarrels_4 : decode cX8_quarrels 4 = .ok (.iload_n 1, 1) := by decide +kernel
theorem dX8_quarrels_5 : decode cX8_quarrels 5 = .ok (.invokevirtual 114, 3) := by decide +kernel
theorem dX8_quarrels_8 : decode cX8_quarrels 8 = .ok (.ifCond .eq 27, 3) := by decide +kernel
theorem dX8_quarrels_11 : decode cX8_quarrels 11 = .ok (.iload_n 2, 1) := by decide +kernel
theorem dX8_quarrels_12 : decode cX8_quarrels 12 = .ok (.iconst 1, 1) := by decide +kernel
theorem dX8_quarrels_13 : decode cX8_quarrels 13 = .ok (.invokestatic 79, 3) := by decide +kernel
theorem dX8_quarrels_16 : decode cX8_quarrels 16 = .ok (.ifCond .eq 19, 3) := by decide +kernel
theorem dX8_quarrels_19 : decode cX8_quarrels 19 = .ok (.iload_n 3, 1) := by decide +kernel
theorem dX8_quarrels_20 : decode cX8_quarrels 20 = .ok (.aload_n 0, 1) := by decide +kernel
theorem dX8_quarrels_21 : decode cX8_quarrels 21 = .ok (.getfield 27, 3) := by decide +kernel
theorem dX8_quarrels_24 : decode cX8_quarrels 24 = .ok (.invokevirtual 118, 3) := by decide +kernel
theorem dX8_quarrels_27 : decode cX8_quarrels 27 = .ok (.iconst 1, 1) := by decide +kernel
theorem dX8_quarrels_28 : decode cX8_quarrels 28 = .ok (.isub, 1) := by decide +kernel
theorem dX8_quarrels_29 : decode cX8_quarrels 29 = .ok (.invokestatic 79, 3) := by decide +kernel
theorem dX8_quarrels_32 : decode cX8_quarrels 32 = .ok (.ifCond .ne 5, 3) := by decide +kernel
theorem dX8_quarrels_35 : decode cX8_quarrels 35 = .ok (.iconst (-1), 1) := by decide +kernel
theorem dX8_quarrels_36 : decode cX8_quarrels 36 = .ok (.ireturn, 1) := by decide +kernel
theorem dX8_quarrels_37 : decode cX8_quarrels 37 = .ok (.aload_n 0, 1) := by decide +kernel
theorem dX8_quarrels_38 : decode cX8_quarrels 38 = .ok (.getfield 19, 3) := by decide +kernel
theorem dX8_quarrels_41 : decode cX8_quarrels 41 = .ok (.iload_n 1, 1) := by decide +kernel
theorem dX8_quarrels_42 : decode cX8_quarrels 42 = .ok (.invokevirtual 122, 3) := by decide +kernel
theorem dX8_quarrels_45 : decode cX8_quarrels 45 = .ok (.aload_n 0, 1) := by decide +kernel
theorem dX8_quarrels_46 : decode cX8_quarrels 46 = .ok (.getfield 19, 3) := by decide +kernel
theorem dX8_quarrels_49 : decode cX8_quarrels 49 = .ok (.iload_n 1, 1) := by decide +kernel
theorem dX8_quarrels_50 : decode cX8_quarrels 50 = .ok (.iload_n 2, 1) := by decide +kernel
theorem dX8_quarrels_51 : decode cX8_quarrels 51 = .ok (.iload_n 3, 1) := by decide +kernel
theorem dX8_quarrels_52 : decode cX8_quarrels 52 = .ok (.invokevirtual 125, 3) := by decide +kernel
theorem dX8_quarrels_55 : decode cX8_quarrels 55 = .ok (.ireturn, 1) := by decide +kernel
theorem dX8_best_0 : decode cX8_best 0 = .ok (.aload_n 0, 1) := by decide +kernel
theorem dX8_best_1 : decode cX8_best 1 = .ok (.getfield 34, 3) := by decide +kernel
theorem dX8_best_4 : decode cX8_best 4 = .ok (.iload_n 1, 1) := by decide +kernel
theorem dX8_best_5 : decode cX8_best 5 = .ok (.invokevirtual 114, 3) := by decide +kernel
theorem dX8_best_8 : decode cX8_best 8 = .ok (.ifCond .eq 14, 3) := by decide +kernel
theorem dX8_best_11 : decode cX8_best 11 = .ok (.aload_n 0, 1) := by decide +kernel
theorem dX8_best_12 : decode cX8_best 12 = .ok (.getfield 34, 3) := by decide +kernel
theorem dX8_best_15 : decode cX8_best 15 = .ok (.iload_n 2, 1) := by decide +kernel
theorem dX8_best_16 : decode cX8_best 16 = .ok (.invokevirtual 114, 3) := by decide +kernel
theorem dX8_best_19 : decode cX8_best 19 = .ok (.ifCond .ne 5, 3) := by decide +kernel
theorem dX8_best_22 : decode cX8_best 22 = .ok (.iconst (-1), 1) := by decide +kernel
theorem dX8_best_23 : decode cX8_best 23 = .ok (.ireturn, 1) := by decide +kernel
theorem dX8_best_24 : decode cX8_best 24 = .ok (.aload_n 0, 1) := by decide +kernel
theorem dX8_best_25 : decode cX8_best 25 = .ok (.getfield 19, 3) := by decide +kernel
theorem dX8_best_28 : decode cX8_best 28 = .ok (.iload_n 1, 1) := by decide +kernel
theorem dX8_best_29 : decode cX8_best 29 = .ok (.invokevirtual 122, 3) := by decide +kernel
theorem dX8_best_32 : decode cX8_best 32 = .ok (.aload_n 0, 1) := by decide +kernel
theorem dX8_best_33 : decode cX8_best 33 = .ok (.getfield 19, 3) := by decide +kernel
theorem dX8_best_36 : decode cX8_best 36 = .ok (.iload_n 2, 1) := by decide +kernel
theorem dX8_best_37 : decode cX8_best 37 = .ok (.invokevirtual 122, 3) := by decide +kernel
theorem dX8_best_40 : decode cX8_best 40 = .ok (.aload_n 0, 1) := by decide +kernel
theorem dX8_best_41 : decode cX8_best 41 = .ok (.getfield 19, 3) := by decide +kernel
theorem dX8_best_44 : decode cX8_best 44 = .ok (.iload_n 1, 1) := by decide +kernel
theorem dX8_best_45 : decode cX8_best 45 = .ok (.iload_n 2, 1) := by decide +kernel
theorem dX8_best_46 : decode cX8_best 46 = .ok (.invokevirtual 128, 3) := by decide +kernel
theorem dX8_best_49 : decode cX8_best 49 = .ok (.ifCond .ne 5, 3) := by decide +kernel
theorem dX8_best_52 : decode cX8_best 52 = .ok (.iconst (-1), 1) := by decide +kernel
theorem dX8_best_53 : decode cX8_best 53 = .ok (.ireturn, 1) := by decide +kernel
theorem dX8_best_54 : decode cX8_best 54 = .ok (.iload_n 3, 1) := by decide +kernel
theorem dX8_best_55 : decode cX8_best 55 = .ok (.tableswitch 58 0 2 #[25, 36, 47], 25) := by decide +kernel
theorem dX8_best_80 : decode cX8_best 80 = .ok (.aload_n 0, 1) := by decide +kernel
theorem dX8_best_81 : decode cX8_best 81 = .ok (.getfield 19, 3) := by decide +kernel
theorem dX8_best_84 : decode cX8_best 84 = .ok (.getfield 131, 3) := by decide +kernel
theorem dX8_best_87 : decode cX8_best 87 = .ok (.getfield 135, 3) := by decide +kernel
theorem dX8_best_90 : decode cX8_best 90 = .ok (.ireturn, 1) := by decide +kernel
theorem dX8_best_91 : decode cX8_best 91 = .ok (.aload_n 0, 1) := by decide +kernel
theorem dX8_best_92 : decode cX8_best 92 = .ok (.getfield 19, 3) := by decide +kernel
theorem dX8_best_95 : decode cX8_best 95 = .ok (.getfield 131, 3) := by decide +kernel
theorem dX8_best_98 : decode cX8_best 98 = .ok (.getfield 140, 3) := by decide +kernel
theorem dX8_best_101 : decode cX8_best 101 = .ok (.ireturn, 1) := by decide +kernel
theorem dX8_best_102 : decode cX8_best 102 = .ok (.aload_n 0, 1) := by decide +kernel
theorem dX8_best_103 : decode cX8_best 103 = .ok (.getfield 19, 3) := by decide +kernel
theorem dX8_best_106 : decode cX8_best 106 = .ok (.getfield 131, 3) := by decide +kernel
theorem dX8_best_109 : decode cX8_best 109 = .ok (.getfield 143, 3) := by decide +kernel
theorem dX8_best_112 : decode cX8_best 112 = .ok (.ireturn, 1) := by decide +kernel
theorem dX8_best_113 : decode cX8_best 113 = .ok (.iconst (-1), 1) := by decide +kernel
theorem dX8_best_114 : decode cX8_best 114 = .ok (.ireturn, 1) := by decide +kernel
theorem dX8_price_0 : decode cX8_price 0 = .ok (.iload_n 1, 1) := by decide +kernel
theorem dX8_price_1 : decode cX8_price 1 = .ok (.bipush 99, 2) := by decide +kernel
theorem dX8_price_3 : decode cX8_price 3 = .ok (.invokestatic 79, 3) := by decide +kernel
theorem dX8_price_6 : decode cX8_price 6 = .ok (.ifCond .ne 5, 3) := by decide +kernel
theorem dX8_price_9 : decode cX8_price 9 = .ok (.iconst 0, 1) := by decide +kernel
theorem dX8_price_10 : decode cX8_price 10 = .ok (.ireturn, 1) := by decide +kernel
theorem dX8_price_11 : decode cX8_price 11 = .ok (.aload_n 0, 1) := by decide +kernel
theorem dX8_price_12 : decode cX8_price 12 = .ok (.iload_n 1, 1) := by decide +kernel
theorem dX8_price_13 : decode cX8_price 13 = .ok (.putfield 53, 3) := by decide +kernel
theorem dX8_price_16 : decode cX8_price 16 = .ok (.iconst 1, 1) := by decide +kernel
theorem dX8_price_17 : decode cX8_price 17 = .ok (.ireturn, 1) := by decide +kernel
theorem dX8_join_0 : decode cX8_join 0 = .ok (.aload_n 0, 1) := by decide +kernel
theorem dX8_join_1 : decode cX8_join 1 = .ok (.getfield 34, 3) := by decide +kernel
theorem dX8_join_4 : decode cX8_join 4 = .ok (.getfield 146, 3) := by decide +kernel
theorem dX8_join_7 : decode cX8_join 7 = .ok (.ifCond .eq 13, 3) := by decide +kernel
theorem dX8_join_10 : decode cX8_join 10 = .ok (.aload_n 0, 1) := by decide +kernel
theorem dX8_join_11 : decode cX8_join 11 = .ok (.getfield 27, 3) := by decide +kernel
theorem dX8_join_14 : decode cX8_join 14 = .ok (.invokevirtual 118, 3) := by decide +kernel
theorem dX8_join_17 : decode cX8_join 17 = .ok (.ifCond .ne 5, 3) := by decide +kernel
theorem dX8_join_20 : decode cX8_join 20 = .ok (.iconst (-1), 1) := by decide +kernel
theorem dX8_join_21 : decode cX8_join 21 = .ok (.ireturn, 1) := by decide +kernel
theorem dX8_join_22 : decode cX8_join 22 = .ok (.aload_n 0, 1) := by decide +kernel
theorem dX8_join_23 : decode cX8_join 23 = .ok (.getfield 19, 3) := by decide +kernel
theorem dX8_join_26 : decode cX8_join 26 = .ok (.invokevirtual 147, 3) := by decide +kernel
theorem dX8_join_29 : decode cX8_join 29 = .ok (.aload_n 0, 1) := by decide +kernel
theorem dX8_join_30 : decode cX8_join 30 = .ok (.getfield 38, 3) := by decide +kernel
theorem dX8_join_33 : decode cX8_join 33 = .ok (.aload_n 0, 1) := by decide +kernel
theorem dX8_join_34 : decode cX8_join 34 = .ok (.getfield 19, 3) := by decide +kernel
theorem dX8_join_37 : decode cX8_join 37 = .ok (.aload_n 0, 1) := by decide +kernel
theorem dX8_join_38 : decode cX8_join 38 = .ok (.getfield 34, 3) := by decide +kernel
theorem dX8_join_41 : decode cX8_join 41 = .ok (.getfield 146, 3) := by decide +kernel
theorem dX8_join_44 : decode cX8_join 44 = .ok (.aload_n 0, 1) := by decide +kernel
theorem dX8_join_45 : decode cX8_join 45 = .ok (.getfield 53, 3) := by decide +kernel
theorem dX8_join_48 : decode cX8_join 48 = .ok (.invokevirtual 150, 3) := by decide +kernel
theorem dX8_join_51 : decode cX8_join 51 = .ok (.aload_n 0, 1) := by decide +kernel
theorem dX8_join_52 : decode cX8_join 52 = .ok (.getfield 45, 3) := by decide +kernel
theorem dX8_join_55 : decode cX8_join 55 = .ok (.aload_n 0, 1) := by decide +kernel
theorem dX8_join_56 : decode cX8_join 56 = .ok (.getfield 19, 3) := by decide +kernel
theorem dX8_join_59 : decode cX8_join 59 = .ok (.aload_n 0, 1) := by decide +kernel
theorem dX8_join_60 : decode cX8_join 60 = .ok (.getfield 38, 3) := by decide +kernel
theorem dX8_join_63 : decode cX8_join 63 = .ok (.aload_n 0, 1) := by decide +kernel
theorem dX8_join_64 : decode cX8_join 64 = .ok (.getfield 34, 3) := by decide +kernel
theorem dX8_join_67 : decode cX8_join 67 = .ok (.invokevirtual 154, 3) := by decide +kernel
theorem dX8_join_70 : decode cX8_join 70 = .ok (.aload_n 0, 1) := by decide +kernel
theorem dX8_join_71 : decode cX8_join 71 = .ok (.getfield 38, 3) := by decide +kernel
theorem dX8_join_74 : decode cX8_join 74 = .ok (.invokevirtual 158, 3) := by decide +kernel
theorem dX8_join_77 : decode cX8_join 77 = .ok (.ireturn, 1) := by decide +kernel
theorem dX8_leaf_0 : decode cX8_leaf 0 = .ok (.aload_n 0, 1) := by decide +kernel
theorem dX8_leaf_1 : decode cX8_leaf 1 = .ok (.getfield 45, 3) := by decide +kernel
theorem dX8_leaf_4 : decode cX8_leaf 4 = .ok (.iload_n 1, 1) := by decide +kernel
theorem dX8_leaf_5 : decode cX8_leaf 5 = .ok (.invokevirtual 161, 3) := by decide +kernel
theorem dX8_leaf_8 : decode cX8_leaf 8 = .ok (.ifCond .ne 5, 3) := by decide +kernel
theorem dX8_leaf_11 : decode cX8_leaf 11 = .ok (.iconst (-1), 1) := by decide +kernel
theorem dX8_leaf_12 : decode cX8_leaf 12 = .ok (.ireturn, 1) := by decide +kernel
theorem dX8_leaf_13 : decode cX8_leaf 13 = .ok (.aload_n 0, 1) := by decide +kernel
theorem dX8_leaf_14 : decode cX8_leaf 14 = .ok (.getfield 45, 3) := by decide +kernel
theorem dX8_leaf_17 : decode cX8_leaf 17 = .ok (.getfield 162, 3) := by decide +kernel
theorem dX8_leaf_20 : decode cX8_leaf 20 = .ok (.iload_n 1, 1) := by decide +kernel
theorem dX8_leaf_21 : decode cX8_leaf 21 = .ok (.aaload, 1) := by decide +kernel
theorem dX8_leaf_22 : decode cX8_leaf 22 = .ok (.astore_n 3, 1) := by decide +kernel
theorem dX8_leaf_23 : decode cX8_leaf 23 = .ok (.iload_n 2, 1) := by decide +kernel
theorem dX8_leaf_24 : decode cX8_leaf 24 = .ok (.tableswitch 70 0 5 #[40, 45, 50, 55, 60, 65], 40) := by decide +kernel
theorem dX8_leaf_64 : decode cX8_leaf 64 = .ok (.aload_n 3, 1) := by decide +kernel
theorem dX8_leaf_65 : decode cX8_leaf 65 = .ok (.getfield 143, 3) := by decide +kernel
theorem dX8_leaf_68 : decode cX8_leaf 68 = .ok (.ireturn, 1) := by decide +kernel
theorem dX8_leaf_69 : decode cX8_leaf 69 = .ok (.aload_n 3, 1) := by decide +kernel
theorem dX8_leaf_70 : decode cX8_leaf 70 = .ok (.getfield 166, 3) := by decide +kernel
theorem dX8_leaf_73 : decode cX8_leaf 73 = .ok (.ireturn, 1) := by decide +kernel
theorem dX8_leaf_74 : decode cX8_leaf 74 = .ok (.aload_n 3, 1) := by decide +kernel
theorem dX8_leaf_75 : decode cX8_leaf 75 = .ok (.getfield 140, 3) := by decide +kernel
theorem dX8_leaf_78 : decode cX8_leaf 78 = .ok (.ireturn, 1) := by decide +kernel
theorem dX8_leaf_79 : decode cX8_leaf 79 = .ok (.aload_n 3, 1) := by decide +kernel
theorem dX8_leaf_80 : decode cX8_leaf 80 = .ok (.getfield 135, 3) := by decide +kernel
theorem dX8_leaf_83 : decode cX8_leaf 83 = .ok (.ireturn, 1) := by decide +kernel
theorem dX8_leaf_84 : decode cX8_leaf 84 = .ok (.aload_n 3, 1) := by decide +kernel
theorem dX8_leaf_85 : decode cX8_leaf 85 = .ok (.getfield 169, 3) := by decide +kernel
theorem dX8_leaf_88 : decode cX8_leaf 88 = .ok (.ireturn, 1) := by decide +kernel
theorem dX8_leaf_89 : decode cX8_leaf 89 = .ok (.aload_n 3, 1) := by decide +kernel
theorem dX8_leaf_90 : decode cX8_leaf 90 = .ok (.getfield 172, 3) := by decide +kernel
theorem dX8_leaf_93 : decode cX8_leaf 93 = .ok (.ireturn, 1) := by decide +kernel
theorem dX8_leaf_94 : decode cX8_leaf 94 = .ok (.iconst (-1), 1) := by decide +kernel
theorem dX8_leaf_95 : decode cX8_leaf 95 = .ok (.ireturn, 1) := by decide +kernel
theorem dX8_book_0 : decode cX8_book 0 = .ok (.aload_n 0, 1) := by decide +kernel
theorem dX8_book_1 : decode cX8_book 1 = .ok (.getfield 45, 3) := by decide +kernel
theorem dX8_book_4 : decode cX8_book 4 = .ok (.iload_n 1, 1) := by decide +kernel
theorem dX8_book_5 : decode cX8_book 5 = .ok (.invokevirtual 161, 3) := by decide +kernel
theorem dX8_book_8 : decode cX8_book 8 = .ok (.ifCond .ne 5, 3) := by decide +kernel
theorem dX8_book_11 : decode cX8_book 11 = .ok (.iconst (-1), 1) := by decide +kernel
theorem dX8_book_12 : decode cX8_book 12 = .ok (.ireturn, 1) := by decide +kernel
theorem dX8_book_13 : decode cX8_book 13 = .ok (.iload_n 2, 1) := by decide +kernel
theorem dX8_book_14 : decode cX8_book 14 = .ok (.tableswitch 62 0 2 #[26, 36, 45], 26) := by decide +kernel
theorem dX8_book_40 : decode cX8_book 40 = .ok (.aload_n 0, 1) := by decide +kernel
theorem dX8_book_41 : decode cX8_book 41 = .ok (.getfield 45, 3) := by decide +kernel
theorem dX8_book_44 : decode cX8_book 44 = .ok (.getfield 174, 3) := by decide +kernel
theorem dX8_book_47 : decode cX8_book 47 = .ok (.iload_n 1, 1) := by decide +kernel
theorem dX8_book_48 : decode cX8_book 48 = .ok (.iaload, 1) := by decide +kernel
theorem dX8_book_49 : decode cX8_book 49 = .ok (.ireturn, 1) := by decide +kernel
theorem dX8_book_50 : decode cX8_book 50 = .ok (.aload_n 0, 1) := by decide +kernel
theorem dX8_book_51 : decode cX8_book 51 = .ok (.getfield 45, 3) := by decide +kernel
theorem dX8_book_54 : decode cX8_book 54 = .ok (.iload_n 1, 1) := by decide +kernel
theorem dX8_book_55 : decode cX8_book 55 = .ok (.invokevirtual 177, 3) := by decide +kernel
theorem dX8_book_58 : decode cX8_book 58 = .ok (.ireturn, 1) := by decide +kernel
theorem dX8_book_59 : decode cX8_book 59 = .ok (.aload_n 0, 1) := by decide +kernel
theorem dX8_book_60 : decode cX8_book 60 = .ok (.getfield 45, 3) := by decide +kernel
theorem dX8_book_63 : decode cX8_book 63 = .ok (.iload_n 1, 1) := by decide +kernel
theorem dX8_book_64 : decode cX8_book 64 = .ok (.invokevirtual 180, 3) := by decide +kernel
theorem dX8_book_67 : decode cX8_book 67 = .ok (.ifCond .eq 7, 3) := by decide +kernel
theorem dX8_book_70 : decode cX8_book 70 = .ok (.iconst 1, 1) := by decide +kernel
theorem dX8_book_71 : decode cX8_book 71 = .ok (.goto 4, 3) := by decide +kernel
theorem dX8_book_74 : decode cX8_book 74 = .ok (.iconst 0, 1) := by decide +kernel
theorem dX8_book_75 : decode cX8_book 75 = .ok (.ireturn, 1) := by decide +kernel
theorem dX8_book_76 : decode cX8_book 76 = .ok (.iconst (-1), 1) := by decide +kernel
theorem dX8_book_77 : decode cX8_book 77 = .ok (.ireturn, 1) := by decide +kernel
theorem dX8_led_0 : decode cX8_led 0 = .ok (.aload_n 0, 1) := by decide +kernel
theorem dX8_led_1 : decode cX8_led 1 = .ok (.iload_n 1, 1) := by decide +kernel
theorem dX8_led_2 : decode cX8_led 2 = .ok (.iload_n 2, 1) := by decide +kernel
theorem dX8_led_3 : decode cX8_led 3 = .ok (.iload_n 3, 1) := by decide +kernel
theorem dX8_led_4 : decode cX8_led 4 = .ok (.invokevirtual 89, 3) := by decide +kernel
theorem dX8_led_7 : decode cX8_led 7 = .ok (.ifCond .eq 22, 3) := by decide +kernel
theorem dX8_led_10 : decode cX8_led 10 = .ok (.aload_n 0, 1) := by decide +kernel
theorem dX8_led_11 : decode cX8_led 11 = .ok (.getfield 45, 3) := by decide +kernel
theorem dX8_led_14 : decode cX8_led 14 = .ok (.aload_n 0, 1) := by decide +kernel
theorem dX8_led_15 : decode cX8_led 15 = .ok (.getfield 45, 3) := by decide +kernel
theorem dX8_led_18 : decode cX8_led 18 = .ok (.getfield 183, 3) := by decide +kernel
theorem dX8_led_21 : decode cX8_led 21 = .ok (.iload_n 1, 1) := by decide +kernel
theorem dX8_led_22 : decode cX8_led 22 = .ok (.iaload, 1) := by decide +kernel
theorem dX8_led_23 : decode cX8_led 23 = .ok (.invokevirtual 161, 3) := by decide +kernel
theorem dX8_led_26 : decode cX8_led 26 = .ok (.ifCond .ne 5, 3) := by decide +kernel
theorem dX8_led_29 : decode cX8_led 29 = .ok (.iconst (-1), 1) := by decide +kernel
theorem dX8_led_30 : decode cX8_led 30 = .ok (.ireturn, 1) := by decide +kernel
theorem dX8_led_31 : decode cX8_led 31 = .ok (.aload_n 0, 1) := by decide +kernel
theorem dX8_led_32 : decode cX8_led 32 = .ok (.getfield 45, 3) := by decide +kernel
theorem dX8_led_35 : decode cX8_led 35 = .ok (.getfield 162, 3) := by decide +kernel
theorem dX8_led_38 : decode cX8_led 38 = .ok (.aload_n 0, 1) := by decide +kernel
theorem dX8_led_39 : decode cX8_led 39 = .ok (.getfield 45, 3) := by decide +kernel
theorem dX8_led_42 : decode cX8_led 42 = .ok (.getfield 183, 3) := by decide +kernel
theorem dX8_led_45 : decode cX8_led 45 = .ok (.iload_n 1, 1) := by decide +kernel
theorem dX8_led_46 : decode cX8_led 46 = .ok (.iaload, 1) := by decide +kernel
theorem dX8_led_47 : decode cX8_led 47 = .ok (.aaload, 1) := by decide +kernel
theorem dX8_led_48 : decode cX8_led 48 = .ok (.astore 4, 2) := by decide +kernel
theorem dX8_led_50 : decode cX8_led 50 = .ok (.iload_n 2, 1) := by decide +kernel
theorem dX8_led_51 : decode cX8_led 51 = .ok (.iload_n 3, 1) := by decide +kernel
theorem dX8_led_52 : decode cX8_led 52 = .ok (.invokestatic 104, 3) := by decide +kernel
theorem dX8_led_55 : decode cX8_led 55 = .ok (.istore 5, 2) := by decide +kernel
theorem dX8_led_57 : decode cX8_led 57 = .ok (.aload_n 0, 1) := by decide +kernel
theorem dX8_led_58 : decode cX8_led 58 = .ok (.getfield 27, 3) := by decide +kernel
theorem dX8_led_61 : decode cX8_led 61 = .ok (.aload 4, 2) := by decide +kernel
theorem dX8_led_63 : decode cX8_led 63 = .ok (.getfield 140, 3) := by decide +kernel
theorem dX8_led_66 : decode cX8_led 66 = .ok (.aload 4, 2) := by decide +kernel
theorem dX8_led_68 : decode cX8_led 68 = .ok (.iload_n 1, 1) := by decide +kernel
theorem dX8_led_69 : decode cX8_led 69 = .ok (.invokevirtual 186, 3) := by decide +kernel
theorem dX8_led_72 : decode cX8_led 72 = .ok (.iload 5, 2) := by decide +kernel
theorem dX8_led_74 : decode cX8_led 74 = .ok (.invokestatic 189, 3) := by decide +kernel
theorem dX8_led_77 : decode cX8_led 77 = .ok (.iadd, 1) := by decide +kernel
theorem dX8_led_78 : decode cX8_led 78 = .ok (.invokevirtual 192, 3) := by decide +kernel
theorem dX8_led_81 : decode cX8_led 81 = .ok (.istore 6, 2) := by decide +kernel
theorem dX8_led_83 : decode cX8_led 83 = .ok (.aload_n 0, 1) := by decide +kernel
theorem dX8_led_84 : decode cX8_led 84 = .ok (.getfield 45, 3) := by decide +kernel
theorem dX8_led_87 : decode cX8_led 87 = .ok (.getfield 195, 3) := by decide +kernel
theorem dX8_led_90 : decode cX8_led 90 = .ok (.iload_n 1, 1) := by decide +kernel
theorem dX8_led_91 : decode cX8_led 91 = .ok (.aaload, 1) := by decide +kernel
theorem dX8_led_92 : decode cX8_led 92 = .ok (.iload 5, 2) := by decide +kernel
theorem dX8_led_94 : decode cX8_led 94 = .ok (.iaload, 1) := by decide +kernel
theorem dX8_led_95 : decode cX8_led 95 = .ok (.iload 6, 2) := by decide +kernel
theorem dX8_led_97 : decode cX8_led 97 = .ok (.invokestatic 198, 3) := by decide +kernel
theorem dX8_led_100 : decode cX8_led 100 = .ok (.ifCond .eq 8, 3) := by decide +kernel
theorem dX8_led_103 : decode cX8_led 103 = .ok (.iload 6, 2) := by decide +kernel
theorem dX8_led_105 : decode cX8_led 105 = .ok (.goto 4, 3) := by decide +kernel
theorem dX8_led_108 : decode cX8_led 108 = .ok (.iconst (-1), 1) := by decide +kernel
theorem dX8_led_109 : decode cX8_led 109 = .ok (.ireturn, 1) := by decide +kernel
theorem dX8_count_0 : decode cX8_count 0 = .ok (.iload_n 1, 1) := by decide +kernel
theorem dX8_count_1 : decode cX8_count 1 = .ok (.tableswitch 108 0 7 #[47, 55, 63, 68, 76, 84, 92, 100], 47) := by decide +kernel
theorem dX8_count_48 : decode cX8_count 48 = .ok (.aload_n 0, 1) := by decide +kernel
theorem dX8_count_49 : decode cX8_count 49 = .ok (.getfield 27, 3) := by decide +kernel
theorem dX8_count_52 : decode cX8_count 52 = .ok (.getfield 72, 3) := by decide +kernel
theorem dX8_count_55 : decode cX8_count 55 = .ok (.ireturn, 1) := by decide +kernel
theorem dX8_count_56 : decode cX8_count 56 = .ok (.aload_n 0, 1) := by decide +kernel
theorem dX8_count_57 : decode cX8_count 57 = .ok (.getfield 34, 3) := by decide +kernel
theorem dX8_count_60 : decode cX8_count 60 = .ok (.getfield 146, 3) := by decide +kernel
theorem dX8_count_63 : decode cX8_count 63 = .ok (.ireturn, 1) := by decide +kernel
theorem dX8_count_64 : decode cX8_count 64 = .ok (.aload_n 0, 1) := by decide +kernel
theorem dX8_count_65 : decode cX8_count 65 = .ok (.getfield 49, 3) := by decide +kernel
theorem dX8_count_68 : decode cX8_count 68 = .ok (.ireturn, 1) := by decide +kernel
theorem dX8_count_69 : decode cX8_count 69 = .ok (.aload_n 0, 1) := by decide +kernel
theorem dX8_count_70 : decode cX8_count 70 = .ok (.getfield 45, 3) := by decide +kernel
theorem dX8_count_73 : decode cX8_count 73 = .ok (.getfield 201, 3) := by decide +kernel
theorem dX8_count_76 : decode cX8_count 76 = .ok (.ireturn, 1) := by decide +kernel
theorem dX8_count_77 : decode cX8_count 77 = .ok (.aload_n 0, 1) := by decide +kernel
theorem dX8_count_78 : decode cX8_count 78 = .ok (.getfield 45, 3) := by decide +kernel
theorem dX8_count_81 : decode cX8_count 81 = .ok (.invokevirtual 202, 3) := by decide +kernel
theorem dX8_count_84 : decode cX8_count 84 = .ok (.ireturn, 1) := by decide +kernel
theorem dX8_count_85 : decode cX8_count 85 = .ok (.aload_n 0, 1) := by decide +kernel
theorem dX8_count_86 : decode cX8_count 86 = .ok (.getfield 45, 3) := by decide +kernel
theorem dX8_count_89 : decode cX8_count 89 = .ok (.invokevirtual 205, 3) := by decide +kernel
theorem dX8_count_92 : decode cX8_count 92 = .ok (.ireturn, 1) := by decide +kernel
theorem dX8_count_93 : decode cX8_count 93 = .ok (.aload_n 0, 1) := by decide +kernel
theorem dX8_count_94 : decode cX8_count 94 = .ok (.getfield 45, 3) := by decide +kernel
theorem dX8_count_97 : decode cX8_count 97 = .ok (.invokevirtual 208, 3) := by decide +kernel
theorem dX8_count_100 : decode cX8_count 100 = .ok (.ireturn, 1) := by decide +kernel
theorem dX8_count_101 : decode cX8_count 101 = .ok (.aload_n 0, 1) := by decide +kernel
theorem dX8_count_102 : decode cX8_count 102 = .ok (.getfield 45, 3) := by decide +kernel
theorem dX8_count_105 : decode cX8_count 105 = .ok (.invokevirtual 211, 3) := by decide +kernel
theorem dX8_count_108 : decode cX8_count 108 = .ok (.ireturn, 1) := by decide +kernel
theorem dX8_count_109 : decode cX8_count 109 = .ok (.iconst (-1), 1) := by decide +kernel
theorem dX8_count_110 : decode cX8_count 110 = .ok (.ireturn, 1) := by decide +kernel
theorem dX8_isSpot_0 : decode cX8_isSpot 0 = .ok (.aload_n 0, 1) := by decide +kernel
theorem dX8_isSpot_1 : decode cX8_isSpot 1 = .ok (.getfield 34, 3) := by decide +kernel
theorem dX8_isSpot_4 : decode cX8_isSpot 4 = .ok (.iload_n 1, 1) := by decide +kernel
theorem dX8_isSpot_5 : decode cX8_isSpot 5 = .ok (.invokevirtual 114, 3) := by decide +kernel
theorem dX8_isSpot_8 : decode cX8_isSpot 8 = .ok (.ifCond .eq 24, 3) := by decide +kernel
theorem dX8_isSpot_11 : decode cX8_isSpot 11 = .ok (.iload_n 2, 1) := by decide +kernel
theorem dX8_isSpot_12 : decode cX8_isSpot 12 = .ok (.iconst 1, 1) := by decide +kernel
theorem dX8_isSpot_13 : decode cX8_isSpot 13 = .ok (.invokestatic 79, 3) := by decide +kernel
theorem dX8_isSpot_16 : decode cX8_isSpot 16 = .ok (.ifCond .eq 16, 3) := by decide +kernel
theorem dX8_isSpot_19 : decode cX8_isSpot 19 = .ok (.iload_n 3, 1) := by decide +kernel
theorem dX8_isSpot_20 : decode cX8_isSpot 20 = .ok (.bipush 7, 2) := by decide +kernel
theorem dX8_isSpot_22 : decode cX8_isSpot 22 = .ok (.invokestatic 79, 3) := by decide +kernel
theorem dX8_isSpot_25 : decode cX8_isSpot 25 = .ok (.ifCond .eq 7, 3) := by decide +kernel
theorem dX8_isSpot_28 : decode cX8_isSpot 28 = .ok (.iconst 1, 1) := by decide +kernel
theorem dX8_isSpot_29 : decode cX8_isSpot 29 = .ok (.goto 4, 3) := by decide +kernel
theorem dX8_isSpot_32 : decode cX8_isSpot 32 = .ok (.iconst 0, 1) := by decide +kernel
theorem dX8_isSpot_33 : decode cX8_isSpot 33 = .ok (.ireturn, 1) := by decide +kernel
theorem dX8_isWithin_0 : decode cX8_isWithin 0 = .ok (.iload_n 0, 1) := by decide +kernel
theorem dX8_isWithin_1 : decode cX8_isWithin 1 = .ok (.ifCond .lt 12, 3) := by decide +kernel
theorem dX8_isWithin_4 : decode cX8_isWithin 4 = .ok (.iload_n 0, 1) := by decide +kernel
theorem dX8_isWithin_5 : decode cX8_isWithin 5 = .ok (.iload_n 1, 1) := by decide +kernel
theorem dX8_isWithin_6 : decode cX8_isWithin 6 = .ok (.if_icmp .gt 7, 3) := by decide +kernel
theorem dX8_isWithin_9 : decode cX8_isWithin 9 = .ok (.iconst 1, 1) := by decide +kernel
theorem dX8_isWithin_10 : decode cX8_isWithin 10 = .ok (.goto 4, 3) := by decide +kernel
theorem dX8_isWithin_13 : decode cX8_isWithin 13 = .ok (.iconst 0, 1) := by decide +kernel
theorem dX8_isWithin_14 : decode cX8_isWithin 14 = .ok (.ireturn, 1) := by decide +kernel
theorem dX8_spotIndex_0 : decode cX8_spotIndex 0 = .ok (.iload_n 0, 1) := by decide +kernel
theorem dX8_spotIndex_1 : decode cX8_spotIndex 1 = .ok (.bipush 8, 2) := by decide +kernel
theorem dX8_spotIndex_3 : decode cX8_spotIndex 3 = .ok (.imul, 1) := by decide +kernel
theorem dX8_spotIndex_4 : decode cX8_spotIndex 4 = .ok (.iload_n 1, 1) := by decide +kernel
theorem dX8_spotIndex_5 : decode cX8_spotIndex 5 = .ok (.iadd, 1) := by decide +kernel
theorem dX8_spotIndex_6 : decode cX8_spotIndex 6 = .ok (.ireturn, 1) := by decide +kernel
theorem dX8_lettersAhead_0 : decode cX8_lettersAhead 0 = .ok (.iload_n 1, 1) := by decide +kernel
theorem dX8_lettersAhead_1 : decode cX8_lettersAhead 1 = .ok (.bipush 8, 2) := by decide +kernel
theorem dX8_lettersAhead_3 : decode cX8_lettersAhead 3 = .ok (.idiv, 1) := by decide +kernel
theorem dX8_lettersAhead_4 : decode cX8_lettersAhead 4 = .ok (.istore_n 2, 1) := by decide +kernel
theorem dX8_lettersAhead_5 : decode cX8_lettersAhead 5 = .ok (.iload_n 2, 1) := by decide +kernel
theorem dX8_lettersAhead_6 : decode cX8_lettersAhead 6 = .ok (.iconst 2, 1) := by decide +kernel
theorem dX8_lettersAhead_7 : decode cX8_lettersAhead 7 = .ok (.imul, 1) := by decide +kernel
theorem dX8_lettersAhead_8 : decode cX8_lettersAhead 8 = .ok (.iload_n 0, 1) := by decide +kernel
theorem dX8_lettersAhead_9 : decode cX8_lettersAhead 9 = .ok (.iadd, 1) := by decide +kernel
theorem dX8_lettersAhead_10 : decode cX8_lettersAhead 10 = .ok (.istore_n 3, 1) := by decide +kernel
theorem dX8_lettersAhead_11 : decode cX8_lettersAhead 11 = .ok (.iload_n 3, 1) := by decide +kernel
theorem dX8_lettersAhead_12 : decode cX8_lettersAhead 12 = .ok (.bipush 8, 2) := by decide +kernel
theorem dX8_lettersAhead_14 : decode cX8_lettersAhead 14 = .ok (.imul, 1) := by decide +kernel
theorem dX8_lettersAhead_15 : decode cX8_lettersAhead 15 = .ok (.iload_n 1, 1) := by decide +kernel
theorem dX8_lettersAhead_16 : decode cX8_lettersAhead 16 = .ok (.bipush 8, 2) := by decide +kernel
theorem dX8_lettersAhead_18 : decode cX8_lettersAhead 18 = .ok (.irem, 1) := by decide +kernel
theorem dX8_lettersAhead_19 : decode cX8_lettersAhead 19 = .ok (.iadd, 1) := by decide +kernel
theorem dX8_lettersAhead_20 : decode cX8_lettersAhead 20 = .ok (.ireturn, 1) := by decide +kernel
theorem dX8_hasLetter_0 : decode cX8_hasLetter 0 = .ok (.iload_n 1, 1) := by decide +kernel
theorem dX8_hasLetter_1 : decode cX8_hasLetter 1 = .ok (.bipush 15, 2) := by decide +kernel
theorem dX8_hasLetter_3 : decode cX8_hasLetter 3 = .ok (.invokestatic 79, 3) := by decide +kernel
theorem dX8_hasLetter_6 : decode cX8_hasLetter 6 = .ok (.ifCond .eq 16, 3) := by decide +kernel
theorem dX8_hasLetter_9 : decode cX8_hasLetter 9 = .ok (.iload_n 0, 1) := by decide +kernel
theorem dX8_hasLetter_10 : decode cX8_hasLetter 10 = .ok (.iload_n 1, 1) := by decide +kernel
theorem dX8_hasLetter_11 : decode cX8_hasLetter 11 = .ok (.ishr, 1) := by decide +kernel
theorem dX8_hasLetter_12 : decode cX8_hasLetter 12 = .ok (.iconst 1, 1) := by decide +kernel
theorem dX8_hasLetter_13 : decode cX8_hasLetter 13 = .ok (.iand, 1) := by decide +kernel
theorem dX8_hasLetter_14 : decode cX8_hasLetter 14 = .ok (.iconst 1, 1) := by decide +kernel
theorem dX8_hasLetter_15 : decode cX8_hasLetter 15 = .ok (.if_icmp .ne 7, 3) := by decide +kernel
theorem dX8_hasLetter_18 : decode cX8_hasLetter 18 = .ok (.iconst 1, 1) := by decide +kernel
theorem dX8_hasLetter_19 : decode cX8_hasLetter 19 = .ok (.goto 4, 3) := by decide +kernel
theorem dX8_hasLetter_22 : decode cX8_hasLetter 22 = .ok (.iconst 0, 1) := by decide +kernel
theorem dX8_hasLetter_23 : decode cX8_hasLetter 23 = .ok (.ireturn, 1) := by decide +kernel
theorem dX9_init_0 : decode cX9_init 0 = .ok (.aload_n 0, 1) := by decide +kernel
theorem dX9_init_1 : decode cX9_init 1 = .ok (.invokespecial 1, 3) := by decide +kernel
theorem dX9_init_4 : decode cX9_init 4 = .ok (.aload_n 0, 1) := by decide +kernel
theorem dX9_init_5 : decode cX9_init 5 = .ok (.sipush 400, 3) := by decide +kernel
theorem dX9_init_8 : decode cX9_init 8 = .ok (.newarray .int, 2) := by decide +kernel
theorem dX9_init_10 : decode cX9_init 10 = .ok (.putfield 7, 3) := by decide +kernel
theorem dX9_init_13 : decode cX9_init 13 = .ok (.aload_n 0, 1) := by decide +kernel
theorem dX9_init_14 : decode cX9_init 14 = .ok (.sipush 320, 3) := by decide +kernel
theorem dX9_init_17 : decode cX9_init 17 = .ok (.newarray .int, 2) := by decide +kernel
theorem dX9_init_19 : decode cX9_init 19 = .ok (.putfield 13, 3) := by decide +kernel
theorem dX9_init_22 : decode cX9_init 22 = .ok (.aload_n 0, 1) := by decide +kernel
theorem dX9_init_23 : decode cX9_init 23 = .ok (.iconst (-1), 1) := by decide +kernel
theorem dX9_init_24 : decode cX9_init 24 = .ok (.putfield 16, 3) := by decide +kernel
theorem dX9_init_27 : decode cX9_init 27 = .ok (.aload_n 0, 1) := by decide +kernel
theorem dX9_init_28 : decode cX9_init 28 = .ok (.bipush 8, 2) := by decide +kernel
theorem dX9_init_30 : decode cX9_init 30 = .ok (.newarray .int, 2) := by decide +kernel
theorem dX9_init_32 : decode cX9_init 32 = .ok (.putfield 20, 3) := by decide +kernel
theorem dX9_init_35 : decode cX9_init 35 = .ok (.aload_n 0, 1) := by decide +kernel
theorem dX9_init_36 : decode cX9_init 36 = .ok (.bipush 8, 2) := by decide +kernel
theorem dX9_init_38 : decode cX9_init 38 = .ok (.newarray .int, 2) := by decide +kernel
theorem dX9_init_40 : decode cX9_init 40 = .ok (.putfield 23, 3) := by decide +kernel
theorem dX9_init_43 : decode cX9_init 43 = .ok (.aload_n 0, 1) := by decide +kernel
theorem dX9_init_44 : decode cX9_init 44 = .ok (.bipush 8, 2) := by decide +kernel
theorem dX9_init_46 : decode cX9_init 46 = .ok (.newarray .int, 2) := by decide +kernel
theorem dX9_init_48 : decode cX9_init 48 = .ok (.putfield 26, 3) := by decide +kernel
theorem dX9_init_51 : decode cX9_init 51 = .ok (.aload_n 0, 1) := by decide +kernel
theorem dX9_init_52 : decode cX9_init 52 = .ok (.sipush 128, 3) := by decide +kernel
theorem dX9_init_55 : decode cX9_init 55 = .ok (.newarray .int, 2) := by decide +kernel
theorem dX9_init_57 : decode cX9_init 57 = .ok (.putfield 29, 3) := by decide +kernel
theorem dX9_init_60 : decode cX9_init 60 = .ok (.aload_n 0, 1) := by decide +kernel
theorem dX9_init_61 : decode cX9_init 61 = .ok (.sipush 256, 3) := by decide +kernel
theorem dX9_init_64 : decode cX9_init 64 = .ok (.newarray .int, 2) := by decide +kernel
theorem dX9_init_66 : decode cX9_init 66 = .ok (.putfield 32, 3) := by decide +kernel
theorem dX9_init_69 : decode cX9_init 69 = .ok (.aload_n 0, 1) := by decide +kernel
theorem dX9_init_70 : decode cX9_init 70 = .ok (.bipush 64, 2) := by decide +kernel
theorem dX9_init_72 : decode cX9_init 72 = .ok (.newarray .int, 2) := by decide +kernel
theorem dX9_init_74 : decode cX9_init 74 = .ok (.putfield 35, 3) := by decide +kernel
theorem dX9_init_77 : decode cX9_init 77 = .ok (.aload_n 0, 1) := by decide +kernel
theorem dX9_init_78 : decode cX9_init 78 = .ok (.bipush 8, 2) := by decide +kernel
theorem dX9_init_80 : decode cX9_init 80 = .ok (.newarray .int, 2) := by decide +kernel
theorem dX9_init_82 : decode cX9_init 82 = .ok (.putfield 38, 3) := by decide +kernel
theorem dX9_init_85 : decode cX9_init 85 = .ok (.aload_n 0, 1) := by decide +kernel
theorem dX9_init_86 : decode cX9_init 86 = .ok (.bipush 8, 2) := by decide +kernel
theorem dX9_init_88 : decode cX9_init 88 = .ok (.newarray .int, 2) := by decide +kernel
theorem dX9_init_90 : decode cX9_init 90 = .ok (.putfield 41, 3) := by decide +kernel
theorem dX9_init_93 : decode cX9_init 93 = .ok (.aload_n 0, 1) := by decide +kernel
theorem dX9_init_94 : decode cX9_init 94 = .ok (.bipush 8, 2) := by decide +kernel
theorem dX9_init_96 : decode cX9_init 96 = .ok (.newarray .int, 2) := by decide +kernel
theorem dX9_init_98 : decode cX9_init 98 = .ok (.putfield 44, 3) := by decide +kernel
theorem dX9_init_101 : decode cX9_init 101 = .ok (.aload_n 0, 1) := by decide +kernel
theorem dX9_init_102 : decode cX9_init 102 = .ok (.bipush 8, 2) := by decide +kernel
theorem dX9_init_104 : decode cX9_init 104 = .ok (.newarray .int, 2) := by decide +kernel
theorem dX9_init_106 : decode cX9_init 106 = .ok (.putfield 47, 3) := by decide +kernel
theorem dX9_init_109 : decode cX9_init 109 = .ok (.aload_n 0, 1) := by decide +kernel
theorem dX9_init_110 : decode cX9_init 110 = .ok (.bipush 8, 2) := by decide +kernel
theorem dX9_init_112 : decode cX9_init 112 = .ok (.newarray .int, 2) := by decide +kernel
theorem dX9_init_114 : decode cX9_init 114 = .ok (.putfield 50, 3) := by decide +kernel
theorem dX9_init_117 : decode cX9_init 117 = .ok (.aload_n 0, 1) := by decide +kernel
theorem dX9_init_118 : decode cX9_init 118 = .ok (.sipush 128, 3) := by decide +kernel
theorem dX9_init_121 : decode cX9_init 121 = .ok (.newarray .int, 2) := by decide +kernel
theorem dX9_init_123 : decode cX9_init 123 = .ok (.putfield 53, 3) := by decide +kernel
theorem dX9_init_126 : decode cX9_init 126 = .ok (.aload_n 0, 1) := by decide +kernel
theorem dX9_init_127 : decode cX9_init 127 = .ok (.sipush 128, 3) := by decide +kernel
theorem dX9_init_130 : decode cX9_init 130 = .ok (.newarray .int, 2) := by decide +kernel
theorem dX9_init_132 : decode cX9_init 132 = .ok (.putfield 56, 3) := by decide +kernel
theorem dX9_init_135 : decode cX9_init 135 = .ok (.aload_n 0, 1) := by decide +kernel
theorem dX9_init_136 : decode cX9_init 136 = .ok (.bipush 8, 2) := by decide +kernel
theorem dX9_init_138 : decode cX9_init 138 = .ok (.newarray .boolean, 2) := by decide +kernel
theorem dX9_init_140 : decode cX9_init 140 = .ok (.putfield 59, 3) := by decide +kernel
theorem dX9_init_143 : decode cX9_init 143 = .ok (.aload_n 0, 1) := by decide +kernel
theorem dX9_init_144 : decode cX9_init 144 = .ok (.bipush 8, 2) := by decide +kernel
theorem dX9_init_146 : decode cX9_init 146 = .ok (.newarray .int, 2) := by decide +kernel
theorem dX9_init_148 : decode cX9_init 148 = .ok (.putfield 63, 3) := by decide +kernel
theorem dX9_init_151 : decode cX9_init 151 = .ok (.aload_n 0, 1) := by decide +kernel
theorem dX9_init_152 : decode cX9_init 152 = .ok (.iconst 3, 1) := by decide +kernel
theorem dX9_init_153 : decode cX9_init 153 = .ok (.putfield 66, 3) := by decide +kernel
theorem dX9_init_156 : decode cX9_init 156 = .ok (.return_, 1) := by decide +kernel
theorem dX9_feed_0 : decode cX9_feed 0 = .ok (.aload_n 0, 1) := by decide +kernel
theorem dX9_feed_1 : decode cX9_feed 1 = .ok (.iconst 0, 1) := by decide +kernel
theorem dX9_feed_2 : decode cX9_feed 2 = .ok (.putfield 69, 3) := by decide +kernel
theorem dX9_feed_5 : decode cX9_feed 5 = .ok (.aload_n 0, 1) := by decide +kernel
theorem dX9_feed_6 : decode cX9_feed 6 = .ok (.getfield 72, 3) := by decide +kernel
theorem dX9_feed_9 : decode cX9_feed 9 = .ok (.sipush 380, 3) := by decide +kernel
theorem dX9_feed_12 : decode cX9_feed 12 = .ok (.if_icmp .le 5, 3) := by decide +kernel
theorem dX9_feed_15 : decode cX9_feed 15 = .ok (.iconst (-1), 1) := by decide +kernel
theorem dX9_feed_16 : decode cX9_feed 16 = .ok (.ireturn, 1) := by decide +kernel
theorem dX9_feed_17 : decode cX9_feed 17 = .ok (.iconst 0, 1) := by decide +kernel
theorem dX9_feed_18 : decode cX9_feed 18 = .ok (.istore 6, 2) := by decide +kernel
theorem dX9_feed_20 : decode cX9_feed 20 = .ok (.iload 6, 2) := by decide +kernel
theorem dX9_feed_22 : decode cX9_feed 22 = .ok (.bipush 20, 2) := by decide +kernel
theorem dX9_feed_24 : decode cX9_feed 24 = .ok (.if_icmp .ge 86, 3) := by decide +kernel
theorem dX9_feed_27 : decode cX9_feed 27 = .ok (.iload 6, 2) := by decide +kernel
theorem dX9_feed_29 : decode cX9_feed 29 = .ok (.iconst 4, 1) := by decide +kernel
theorem dX9_feed_30 : decode cX9_feed 30 = .ok (.if_icmp .ge 7, 3) := by decide +kernel
theorem dX9_feed_33 : decode cX9_feed 33 = .ok (.iload_n 1, 1) := by decide +kernel
theorem dX9_feed_34 : decode cX9_feed 34 = .ok (.goto 39, 3) := by decide +kernel
theorem dX9_feed_37 : decode cX9_feed 37 = .ok (.iload 6, 2) := by decide +kernel
theorem dX9_feed_39 : decode cX9_feed 39 = .ok (.bipush 8, 2) := by decide +kernel
theorem dX9_feed_41 : decode cX9_feed 41 = .ok (.if_icmp .ge 7, 3) := by decide +kernel
theorem dX9_feed_44 : decode cX9_feed 44 = .ok (.iload_n 2, 1) := by decide +kernel
theorem dX9_feed_45 : decode cX9_feed 45 = .ok (.goto 28, 3) := by decide +kernel
theorem dX9_feed_48 : decode cX9_feed 48 = .ok (.iload 6, 2) := by decide +kernel
end
section
theorem dX9_feed_50 : decode cX9_feed 50 = .ok (.bipush 12, 2) := by decide +kernel
theorem dX9_feed_52 : decode cX9_feed 52 = .ok (.if_icmp .ge 7, 3) := by decide +kernel
theorem dX9_feed_55 : decode cX9_feed 55 = .ok (.iload_n 3, 1) := by decide +kernel
theorem dX9_feed_56 : decode cX9_feed 56 = .ok (.goto 17, 3) := by decide +kernel
theorem dX9_feed_59 : decode cX9_feed 59 = .ok (.iload 6, 2) := by decide +kernel
theorem dX9_feed_61 : decode cX9_feed 61 = .ok (.bipush 16, 2) := by decide +kernel
theorem dX9_feed_63 : decode cX9_feed 63 = .ok (.if_icmp .ge 8, 3) := by decide +kernel
theorem dX9_feed_66 : decode cX9_feed 66 = .ok (.iload 4, 2) := by decide +kernel
theorem dX9_feed_68 : decode cX9_feed 68 = .ok (.goto 5, 3) := by decide +kernel
theorem dX9_feed_71 : decode cX9_feed 71 = .ok (.iload 5, 2) := by decide +kernel
theorem dX9_feed_73 : decode cX9_feed 73 = .ok (.istore 7, 2) := by decide +kernel
theorem dX9_feed_75 : decode cX9_feed 75 = .ok (.aload_n 0, 1) := by decide +kernel
theorem dX9_feed_76 : decode cX9_feed 76 = .ok (.getfield 7, 3) := by decide +kernel
theorem dX9_feed_79 : decode cX9_feed 79 = .ok (.aload_n 0, 1) := by decide +kernel
theorem dX9_feed_80 : decode cX9_feed 80 = .ok (.getfield 72, 3) := by decide +kernel
theorem dX9_feed_83 : decode cX9_feed 83 = .ok (.iload 6, 2) := by decide +kernel
theorem dX9_feed_85 : decode cX9_feed 85 = .ok (.iadd, 1) := by decide +kernel
theorem dX9_feed_86 : decode cX9_feed 86 = .ok (.iload 7, 2) := by decide +kernel
theorem dX9_feed_88 : decode cX9_feed 88 = .ok (.bipush 24, 2) := by decide +kernel
theorem dX9_feed_90 : decode cX9_feed 90 = .ok (.bipush 8, 2) := by decide +kernel
theorem dX9_feed_92 : decode cX9_feed 92 = .ok (.iload 6, 2) := by decide +kernel
theorem dX9_feed_94 : decode cX9_feed 94 = .ok (.iconst 4, 1) := by decide +kernel
theorem dX9_feed_95 : decode cX9_feed 95 = .ok (.irem, 1) := by decide +kernel
theorem dX9_feed_96 : decode cX9_feed 96 = .ok (.imul, 1) := by decide +kernel
theorem dX9_feed_97 : decode cX9_feed 97 = .ok (.isub, 1) := by decide +kernel
theorem dX9_feed_98 : decode cX9_feed 98 = .ok (.ishr, 1) := by decide +kernel
theorem dX9_feed_99 : decode cX9_feed 99 = .ok (.sipush 255, 3) := by decide +kernel
theorem dX9_feed_102 : decode cX9_feed 102 = .ok (.iand, 1) := by decide +kernel
theorem dX9_feed_103 : decode cX9_feed 103 = .ok (.iastore, 1) := by decide +kernel
theorem dX9_feed_104 : decode cX9_feed 104 = .ok (.iinc 6 1, 3) := by decide +kernel
theorem dX9_feed_107 : decode cX9_feed 107 = .ok (.goto (-87), 3) := by decide +kernel
theorem dX9_feed_110 : decode cX9_feed 110 = .ok (.aload_n 0, 1) := by decide +kernel
theorem dX9_feed_111 : decode cX9_feed 111 = .ok (.dup, 1) := by decide +kernel
theorem dX9_feed_112 : decode cX9_feed 112 = .ok (.getfield 72, 3) := by decide +kernel
theorem dX9_feed_115 : decode cX9_feed 115 = .ok (.bipush 20, 2) := by decide +kernel
theorem dX9_feed_117 : decode cX9_feed 117 = .ok (.iadd, 1) := by decide +kernel
theorem dX9_feed_118 : decode cX9_feed 118 = .ok (.putfield 72, 3) := by decide +kernel
theorem dX9_feed_121 : decode cX9_feed 121 = .ok (.aload_n 0, 1) := by decide +kernel
theorem dX9_feed_122 : decode cX9_feed 122 = .ok (.getfield 72, 3) := by decide +kernel
theorem dX9_feed_125 : decode cX9_feed 125 = .ok (.ireturn, 1) := by decide +kernel
theorem dX9_work_0 : decode cX9_work 0 = .ok (.aload_n 0, 1) := by decide +kernel
theorem dX9_work_1 : decode cX9_work 1 = .ok (.iconst 0, 1) := by decide +kernel
theorem dX9_work_2 : decode cX9_work 2 = .ok (.putfield 69, 3) := by decide +kernel
theorem dX9_work_5 : decode cX9_work 5 = .ok (.iload_n 1, 1) := by decide +kernel
theorem dX9_work_6 : decode cX9_work 6 = .ok (.ifCond .lt 11, 3) := by decide +kernel
theorem dX9_work_9 : decode cX9_work 9 = .ok (.iload_n 1, 1) := by decide +kernel
theorem dX9_work_10 : decode cX9_work 10 = .ok (.aload_n 0, 1) := by decide +kernel
theorem dX9_work_11 : decode cX9_work 11 = .ok (.getfield 72, 3) := by decide +kernel
theorem dX9_work_14 : decode cX9_work 14 = .ok (.if_icmp .le 6, 3) := by decide +kernel
theorem dX9_work_17 : decode cX9_work 17 = .ok (.bipush (-2), 2) := by decide +kernel
theorem dX9_work_19 : decode cX9_work 19 = .ok (.ireturn, 1) := by decide +kernel
theorem dX9_work_20 : decode cX9_work 20 = .ok (.aload_n 0, 1) := by decide +kernel
theorem dX9_work_21 : decode cX9_work 21 = .ok (.iconst 0, 1) := by decide +kernel
theorem dX9_work_22 : decode cX9_work 22 = .ok (.putfield 72, 3) := by decide +kernel
theorem dX9_work_25 : decode cX9_work 25 = .ok (.aload_n 0, 1) := by decide +kernel
theorem dX9_work_26 : decode cX9_work 26 = .ok (.iconst 0, 1) := by decide +kernel
theorem dX9_work_27 : decode cX9_work 27 = .ok (.putfield 75, 3) := by decide +kernel
theorem dX9_work_30 : decode cX9_work 30 = .ok (.aload_n 0, 1) := by decide +kernel
theorem dX9_work_31 : decode cX9_work 31 = .ok (.iconst (-1), 1) := by decide +kernel
theorem dX9_work_32 : decode cX9_work 32 = .ok (.putfield 16, 3) := by decide +kernel
theorem dX9_work_35 : decode cX9_work 35 = .ok (.iconst 0, 1) := by decide +kernel
theorem dX9_work_36 : decode cX9_work 36 = .ok (.istore_n 2, 1) := by decide +kernel
theorem dX9_work_37 : decode cX9_work 37 = .ok (.iconst 0, 1) := by decide +kernel
theorem dX9_work_38 : decode cX9_work 38 = .ok (.istore_n 3, 1) := by decide +kernel
theorem dX9_work_39 : decode cX9_work 39 = .ok (.iload_n 3, 1) := by decide +kernel
theorem dX9_work_40 : decode cX9_work 40 = .ok (.iload_n 1, 1) := by decide +kernel
theorem dX9_work_41 : decode cX9_work 41 = .ok (.if_icmp .ge 100, 3) := by decide +kernel
theorem dX9_work_44 : decode cX9_work 44 = .ok (.aload_n 0, 1) := by decide +kernel
theorem dX9_work_45 : decode cX9_work 45 = .ok (.getfield 7, 3) := by decide +kernel
theorem dX9_work_48 : decode cX9_work 48 = .ok (.iload_n 3, 1) := by decide +kernel
theorem dX9_work_49 : decode cX9_work 49 = .ok (.iaload, 1) := by decide +kernel
theorem dX9_work_50 : decode cX9_work 50 = .ok (.istore 4, 2) := by decide +kernel
theorem dX9_work_52 : decode cX9_work 52 = .ok (.iload 4, 2) := by decide +kernel
theorem dX9_work_54 : decode cX9_work 54 = .ok (.bipush 10, 2) := by decide +kernel
theorem dX9_work_56 : decode cX9_work 56 = .ok (.if_icmp .eq 79, 3) := by decide +kernel
theorem dX9_work_59 : decode cX9_work 59 = .ok (.iload 4, 2) := by decide +kernel
theorem dX9_work_61 : decode cX9_work 61 = .ok (.bipush 32, 2) := by decide +kernel
theorem dX9_work_63 : decode cX9_work 63 = .ok (.if_icmp .ne 6, 3) := by decide +kernel
theorem dX9_work_66 : decode cX9_work 66 = .ok (.goto 69, 3) := by decide +kernel
theorem dX9_work_69 : decode cX9_work 69 = .ok (.aload_n 0, 1) := by decide +kernel
theorem dX9_work_70 : decode cX9_work 70 = .ok (.iload 4, 2) := by decide +kernel
theorem dX9_work_72 : decode cX9_work 72 = .ok (.bipush 97, 2) := by decide +kernel
theorem dX9_work_74 : decode cX9_work 74 = .ok (.if_icmp .lt 10, 3) := by decide +kernel
theorem dX9_work_77 : decode cX9_work 77 = .ok (.iload 4, 2) := by decide +kernel
theorem dX9_work_79 : decode cX9_work 79 = .ok (.bipush 112, 2) := by decide +kernel
theorem dX9_work_81 : decode cX9_work 81 = .ok (.if_icmp .le 7, 3) := by decide +kernel
theorem dX9_work_84 : decode cX9_work 84 = .ok (.iconst 1, 1) := by decide +kernel
theorem dX9_work_85 : decode cX9_work 85 = .ok (.goto 15, 3) := by decide +kernel
theorem dX9_work_88 : decode cX9_work 88 = .ok (.iload_n 2, 1) := by decide +kernel
theorem dX9_work_89 : decode cX9_work 89 = .ok (.sipush 160, 3) := by decide +kernel
theorem dX9_work_92 : decode cX9_work 92 = .ok (.if_icmp .ne 7, 3) := by decide +kernel
theorem dX9_work_95 : decode cX9_work 95 = .ok (.iconst 2, 1) := by decide +kernel
theorem dX9_work_96 : decode cX9_work 96 = .ok (.goto 4, 3) := by decide +kernel
theorem dX9_work_99 : decode cX9_work 99 = .ok (.iconst 0, 1) := by decide +kernel
theorem dX9_work_100 : decode cX9_work 100 = .ok (.putfield 75, 3) := by decide +kernel
theorem dX9_work_103 : decode cX9_work 103 = .ok (.aload_n 0, 1) := by decide +kernel
theorem dX9_work_104 : decode cX9_work 104 = .ok (.getfield 75, 3) := by decide +kernel
theorem dX9_work_107 : decode cX9_work 107 = .ok (.ifCond .eq 10, 3) := by decide +kernel
theorem dX9_work_110 : decode cX9_work 110 = .ok (.aload_n 0, 1) := by decide +kernel
theorem dX9_work_111 : decode cX9_work 111 = .ok (.iload_n 3, 1) := by decide +kernel
theorem dX9_work_112 : decode cX9_work 112 = .ok (.putfield 16, 3) := by decide +kernel
theorem dX9_work_115 : decode cX9_work 115 = .ok (.iconst (-1), 1) := by decide +kernel
theorem dX9_work_116 : decode cX9_work 116 = .ok (.ireturn, 1) := by decide +kernel
theorem dX9_work_117 : decode cX9_work 117 = .ok (.aload_n 0, 1) := by decide +kernel
theorem dX9_work_118 : decode cX9_work 118 = .ok (.getfield 13, 3) := by decide +kernel
theorem dX9_work_121 : decode cX9_work 121 = .ok (.sipush 160, 3) := by decide +kernel
theorem dX9_work_124 : decode cX9_work 124 = .ok (.iload_n 2, 1) := by decide +kernel
theorem dX9_work_125 : decode cX9_work 125 = .ok (.iadd, 1) := by decide +kernel
theorem dX9_work_126 : decode cX9_work 126 = .ok (.iload 4, 2) := by decide +kernel
theorem dX9_work_128 : decode cX9_work 128 = .ok (.bipush 97, 2) := by decide +kernel
theorem dX9_work_130 : decode cX9_work 130 = .ok (.isub, 1) := by decide +kernel
theorem dX9_work_131 : decode cX9_work 131 = .ok (.iastore, 1) := by decide +kernel
theorem dX9_work_132 : decode cX9_work 132 = .ok (.iinc 2 1, 3) := by decide +kernel
theorem dX9_work_135 : decode cX9_work 135 = .ok (.iinc 3 1, 3) := by decide +kernel
theorem dX9_work_138 : decode cX9_work 138 = .ok (.goto (-99), 3) := by decide +kernel
theorem dX9_work_141 : decode cX9_work 141 = .ok (.aload_n 0, 1) := by decide +kernel
theorem dX9_work_142 : decode cX9_work 142 = .ok (.iload_n 2, 1) := by decide +kernel
theorem dX9_work_143 : decode cX9_work 143 = .ok (.putfield 78, 3) := by decide +kernel
theorem dX9_work_146 : decode cX9_work 146 = .ok (.iconst 0, 1) := by decide +kernel
theorem dX9_work_147 : decode cX9_work 147 = .ok (.istore_n 3, 1) := by decide +kernel
theorem dX9_work_148 : decode cX9_work 148 = .ok (.iload_n 3, 1) := by decide +kernel
theorem dX9_work_149 : decode cX9_work 149 = .ok (.iload_n 2, 1) := by decide +kernel
theorem dX9_work_150 : decode cX9_work 150 = .ok (.if_icmp .ge 25, 3) := by decide +kernel
theorem dX9_work_153 : decode cX9_work 153 = .ok (.aload_n 0, 1) := by decide +kernel
theorem dX9_work_154 : decode cX9_work 154 = .ok (.getfield 13, 3) := by decide +kernel
theorem dX9_work_157 : decode cX9_work 157 = .ok (.iload_n 3, 1) := by decide +kernel
theorem dX9_work_158 : decode cX9_work 158 = .ok (.aload_n 0, 1) := by decide +kernel
theorem dX9_work_159 : decode cX9_work 159 = .ok (.getfield 13, 3) := by decide +kernel
theorem dX9_work_162 : decode cX9_work 162 = .ok (.sipush 160, 3) := by decide +kernel
theorem dX9_work_165 : decode cX9_work 165 = .ok (.iload_n 3, 1) := by decide +kernel
theorem dX9_work_166 : decode cX9_work 166 = .ok (.iadd, 1) := by decide +kernel
theorem dX9_work_167 : decode cX9_work 167 = .ok (.iaload, 1) := by decide +kernel
theorem dX9_work_168 : decode cX9_work 168 = .ok (.iastore, 1) := by decide +kernel
theorem dX9_work_169 : decode cX9_work 169 = .ok (.iinc 3 1, 3) := by decide +kernel
theorem dX9_work_172 : decode cX9_work 172 = .ok (.goto (-24), 3) := by decide +kernel
theorem dX9_work_175 : decode cX9_work 175 = .ok (.aload_n 0, 1) := by decide +kernel
theorem dX9_work_176 : decode cX9_work 176 = .ok (.iconst 0, 1) := by decide +kernel
theorem dX9_work_177 : decode cX9_work 177 = .ok (.putfield 81, 3) := by decide +kernel
theorem dX9_work_180 : decode cX9_work 180 = .ok (.aload_n 0, 1) := by decide +kernel
theorem dX9_work_181 : decode cX9_work 181 = .ok (.iconst 0, 1) := by decide +kernel
theorem dX9_work_182 : decode cX9_work 182 = .ok (.putfield 84, 3) := by decide +kernel
theorem dX9_work_185 : decode cX9_work 185 = .ok (.aload_n 0, 1) := by decide +kernel
theorem dX9_work_186 : decode cX9_work 186 = .ok (.getfield 78, 3) := by decide +kernel
theorem dX9_work_189 : decode cX9_work 189 = .ok (.ireturn, 1) := by decide +kernel
theorem dX9_fault_0 : decode cX9_fault 0 = .ok (.aload_n 0, 1) := by decide +kernel
theorem dX9_fault_1 : decode cX9_fault 1 = .ok (.iconst 0, 1) := by decide +kernel
theorem dX9_fault_2 : decode cX9_fault 2 = .ok (.putfield 69, 3) := by decide +kernel
theorem dX9_fault_5 : decode cX9_fault 5 = .ok (.iload_n 1, 1) := by decide +kernel
theorem dX9_fault_6 : decode cX9_fault 6 = .ok (.ifCond .ne 10, 3) := by decide +kernel
theorem dX9_fault_9 : decode cX9_fault 9 = .ok (.aload_n 0, 1) := by decide +kernel
theorem dX9_fault_10 : decode cX9_fault 10 = .ok (.getfield 75, 3) := by decide +kernel
theorem dX9_fault_13 : decode cX9_fault 13 = .ok (.goto 16, 3) := by decide +kernel
theorem dX9_fault_16 : decode cX9_fault 16 = .ok (.iload_n 1, 1) := by decide +kernel
theorem dX9_fault_17 : decode cX9_fault 17 = .ok (.iconst 1, 1) := by decide +kernel
theorem dX9_fault_18 : decode cX9_fault 18 = .ok (.if_icmp .ne 10, 3) := by decide +kernel
theorem dX9_fault_21 : decode cX9_fault 21 = .ok (.aload_n 0, 1) := by decide +kernel
theorem dX9_fault_22 : decode cX9_fault 22 = .ok (.getfield 16, 3) := by decide +kernel
theorem dX9_fault_25 : decode cX9_fault 25 = .ok (.goto 4, 3) := by decide +kernel
theorem dX9_fault_28 : decode cX9_fault 28 = .ok (.iconst (-1), 1) := by decide +kernel
theorem dX9_fault_29 : decode cX9_fault 29 = .ok (.ireturn, 1) := by decide +kernel
theorem dX9_isHalf_0 : decode cX9_isHalf 0 = .ok (.iload_n 1, 1) := by decide +kernel
theorem dX9_isHalf_1 : decode cX9_isHalf 1 = .ok (.ifCond .lt 15, 3) := by decide +kernel
theorem dX9_isHalf_4 : decode cX9_isHalf 4 = .ok (.iload_n 1, 1) := by decide +kernel
theorem dX9_isHalf_5 : decode cX9_isHalf 5 = .ok (.aload_n 0, 1) := by decide +kernel
theorem dX9_isHalf_6 : decode cX9_isHalf 6 = .ok (.getfield 88, 3) := by decide +kernel
theorem dX9_isHalf_9 : decode cX9_isHalf 9 = .ok (.if_icmp .ge 7, 3) := by decide +kernel
theorem dX9_isHalf_12 : decode cX9_isHalf 12 = .ok (.iconst 1, 1) := by decide +kernel
theorem dX9_isHalf_13 : decode cX9_isHalf 13 = .ok (.goto 4, 3) := by decide +kernel
theorem dX9_isHalf_16 : decode cX9_isHalf 16 = .ok (.iconst 0, 1) := by decide +kernel
theorem dX9_isHalf_17 : decode cX9_isHalf 17 = .ok (.ireturn, 1) := by decide +kernel
theorem dX9_half_0 : decode cX9_half 0 = .ok (.aload_n 0, 1) := by decide +kernel
theorem dX9_half_1 : decode cX9_half 1 = .ok (.iconst 0, 1) := by decide +kernel
theorem dX9_half_2 : decode cX9_half 2 = .ok (.putfield 69, 3) := by decide +kernel
theorem dX9_half_5 : decode cX9_half 5 = .ok (.iload_n 1, 1) := by decide +kernel
theorem dX9_half_6 : decode cX9_half 6 = .ok (.ifCond .lt 36, 3) := by decide +kernel
theorem dX9_half_9 : decode cX9_half 9 = .ok (.iload_n 1, 1) := by decide +kernel
theorem dX9_half_10 : decode cX9_half 10 = .ok (.iconst 2, 1) := by decide +kernel
theorem dX9_half_11 : decode cX9_half 11 = .ok (.if_icmp .gt 31, 3) := by decide +kernel
theorem dX9_half_14 : decode cX9_half 14 = .ok (.iload_n 2, 1) := by decide +kernel
theorem dX9_half_15 : decode cX9_half 15 = .ok (.ifCond .lt 27, 3) := by decide +kernel
theorem dX9_half_18 : decode cX9_half 18 = .ok (.iload_n 2, 1) := by decide +kernel
theorem dX9_half_19 : decode cX9_half 19 = .ok (.iconst 1, 1) := by decide +kernel
theorem dX9_half_20 : decode cX9_half 20 = .ok (.if_icmp .gt 22, 3) := by decide +kernel
theorem dX9_half_23 : decode cX9_half 23 = .ok (.iload_n 3, 1) := by decide +kernel
theorem dX9_half_24 : decode cX9_half 24 = .ok (.ifCond .lt 18, 3) := by decide +kernel
theorem dX9_half_27 : decode cX9_half 27 = .ok (.iload_n 3, 1) := by decide +kernel
theorem dX9_half_28 : decode cX9_half 28 = .ok (.bipush 9, 2) := by decide +kernel
theorem dX9_half_30 : decode cX9_half 30 = .ok (.if_icmp .gt 12, 3) := by decide +kernel
theorem dX9_half_33 : decode cX9_half 33 = .ok (.aload_n 0, 1) := by decide +kernel
theorem dX9_half_34 : decode cX9_half 34 = .ok (.getfield 88, 3) := by decide +kernel
theorem dX9_half_37 : decode cX9_half 37 = .ok (.bipush 8, 2) := by decide +kernel
theorem dX9_half_39 : decode cX9_half 39 = .ok (.if_icmp .ne 5, 3) := by decide +kernel
theorem dX9_half_42 : decode cX9_half 42 = .ok (.iconst (-1), 1) := by decide +kernel
theorem dX9_half_43 : decode cX9_half 43 = .ok (.ireturn, 1) := by decide +kernel
theorem dX9_half_44 : decode cX9_half 44 = .ok (.aload_n 0, 1) := by decide +kernel
theorem dX9_half_45 : decode cX9_half 45 = .ok (.getfield 20, 3) := by decide +kernel
theorem dX9_half_48 : decode cX9_half 48 = .ok (.aload_n 0, 1) := by decide +kernel
theorem dX9_half_49 : decode cX9_half 49 = .ok (.getfield 88, 3) := by decide +kernel
theorem dX9_half_52 : decode cX9_half 52 = .ok (.iload_n 1, 1) := by decide +kernel
theorem dX9_half_53 : decode cX9_half 53 = .ok (.iastore, 1) := by decide +kernel
theorem dX9_half_54 : decode cX9_half 54 = .ok (.aload_n 0, 1) := by decide +kernel
theorem dX9_half_55 : decode cX9_half 55 = .ok (.getfield 23, 3) := by decide +kernel
theorem dX9_half_58 : decode cX9_half 58 = .ok (.aload_n 0, 1) := by decide +kernel
theorem dX9_half_59 : decode cX9_half 59 = .ok (.getfield 88, 3) := by decide +kernel
theorem dX9_half_62 : decode cX9_half 62 = .ok (.iload_n 2, 1) := by decide +kernel
theorem dX9_half_63 : decode cX9_half 63 = .ok (.iastore, 1) := by decide +kernel
theorem dX9_half_64 : decode cX9_half 64 = .ok (.aload_n 0, 1) := by decide +kernel
theorem dX9_half_65 : decode cX9_half 65 = .ok (.getfield 26, 3) := by decide +kernel
theorem dX9_half_68 : decode cX9_half 68 = .ok (.aload_n 0, 1) := by decide +kernel
theorem dX9_half_69 : decode cX9_half 69 = .ok (.getfield 88, 3) := by decide +kernel
theorem dX9_half_72 : decode cX9_half 72 = .ok (.iload_n 3, 1) := by decide +kernel
theorem dX9_half_73 : decode cX9_half 73 = .ok (.iastore, 1) := by decide +kernel
theorem dX9_half_74 : decode cX9_half 74 = .ok (.iconst 0, 1) := by decide +kernel
theorem dX9_half_75 : decode cX9_half 75 = .ok (.istore 4, 2) := by decide +kernel
theorem dX9_half_77 : decode cX9_half 77 = .ok (.iload 4, 2) := by decide +kernel
theorem dX9_half_79 : decode cX9_half 79 = .ok (.bipush 16, 2) := by decide +kernel
theorem dX9_half_81 : decode cX9_half 81 = .ok (.if_icmp .ge 26, 3) := by decide +kernel
theorem dX9_half_84 : decode cX9_half 84 = .ok (.aload_n 0, 1) := by decide +kernel
theorem dX9_half_85 : decode cX9_half 85 = .ok (.getfield 29, 3) := by decide +kernel
theorem dX9_half_88 : decode cX9_half 88 = .ok (.bipush 16, 2) := by decide +kernel
theorem dX9_half_90 : decode cX9_half 90 = .ok (.aload_n 0, 1) := by decide +kernel
theorem dX9_half_91 : decode cX9_half 91 = .ok (.getfield 88, 3) := by decide +kernel
theorem dX9_half_94 : decode cX9_half 94 = .ok (.imul, 1) := by decide +kernel
theorem dX9_half_95 : decode cX9_half 95 = .ok (.iload 4, 2) := by decide +kernel
theorem dX9_half_97 : decode cX9_half 97 = .ok (.iadd, 1) := by decide +kernel
theorem dX9_half_98 : decode cX9_half 98 = .ok (.ldc 91, 2) := by decide +kernel
theorem dX9_half_100 : decode cX9_half 100 = .ok (.iastore, 1) := by decide +kernel
theorem dX9_half_101 : decode cX9_half 101 = .ok (.iinc 4 1, 3) := by decide +kernel
theorem dX9_half_104 : decode cX9_half 104 = .ok (.goto (-27), 3) := by decide +kernel
theorem dX9_half_107 : decode cX9_half 107 = .ok (.aload_n 0, 1) := by decide +kernel
theorem dX9_half_108 : decode cX9_half 108 = .ok (.dup, 1) := by decide +kernel
theorem dX9_half_109 : decode cX9_half 109 = .ok (.getfield 88, 3) := by decide +kernel
theorem dX9_half_112 : decode cX9_half 112 = .ok (.iconst 1, 1) := by decide +kernel
theorem dX9_half_113 : decode cX9_half 113 = .ok (.iadd, 1) := by decide +kernel
theorem dX9_half_114 : decode cX9_half 114 = .ok (.putfield 88, 3) := by decide +kernel
theorem dX9_half_117 : decode cX9_half 117 = .ok (.aload_n 0, 1) := by decide +kernel
theorem dX9_half_118 : decode cX9_half 118 = .ok (.getfield 88, 3) := by decide +kernel
theorem dX9_half_121 : decode cX9_half 121 = .ok (.iconst 1, 1) := by decide +kernel
theorem dX9_half_122 : decode cX9_half 122 = .ok (.isub, 1) := by decide +kernel
theorem dX9_half_123 : decode cX9_half 123 = .ok (.ireturn, 1) := by decide +kernel
theorem dX9_spotAt_0 : decode cX9_spotAt 0 = .ok (.aload_n 0, 1) := by decide +kernel
theorem dX9_spotAt_1 : decode cX9_spotAt 1 = .ok (.iload_n 1, 1) := by decide +kernel
theorem dX9_spotAt_2 : decode cX9_spotAt 2 = .ok (.invokevirtual 92, 3) := by decide +kernel
theorem dX9_spotAt_5 : decode cX9_spotAt 5 = .ok (.ifCond .eq 36, 3) := by decide +kernel
theorem dX9_spotAt_8 : decode cX9_spotAt 8 = .ok (.iload_n 2, 1) := by decide +kernel
theorem dX9_spotAt_9 : decode cX9_spotAt 9 = .ok (.ifCond .lt 32, 3) := by decide +kernel
theorem dX9_spotAt_12 : decode cX9_spotAt 12 = .ok (.iload_n 2, 1) := by decide +kernel
theorem dX9_spotAt_13 : decode cX9_spotAt 13 = .ok (.iconst 1, 1) := by decide +kernel
theorem dX9_spotAt_14 : decode cX9_spotAt 14 = .ok (.if_icmp .gt 27, 3) := by decide +kernel
theorem dX9_spotAt_17 : decode cX9_spotAt 17 = .ok (.iload_n 3, 1) := by decide +kernel
theorem dX9_spotAt_18 : decode cX9_spotAt 18 = .ok (.ifCond .lt 23, 3) := by decide +kernel
theorem dX9_spotAt_21 : decode cX9_spotAt 21 = .ok (.iload_n 3, 1) := by decide +kernel
theorem dX9_spotAt_22 : decode cX9_spotAt 22 = .ok (.bipush 7, 2) := by decide +kernel
theorem dX9_spotAt_24 : decode cX9_spotAt 24 = .ok (.if_icmp .gt 17, 3) := by decide +kernel
theorem dX9_spotAt_27 : decode cX9_spotAt 27 = .ok (.bipush 16, 2) := by decide +kernel
theorem dX9_spotAt_29 : decode cX9_spotAt 29 = .ok (.iload_n 1, 1) := by decide +kernel
theorem dX9_spotAt_30 : decode cX9_spotAt 30 = .ok (.imul, 1) := by decide +kernel
theorem dX9_spotAt_31 : decode cX9_spotAt 31 = .ok (.bipush 8, 2) := by decide +kernel
theorem dX9_spotAt_33 : decode cX9_spotAt 33 = .ok (.iload_n 2, 1) := by decide +kernel
theorem dX9_spotAt_34 : decode cX9_spotAt 34 = .ok (.imul, 1) := by decide +kernel
theorem dX9_spotAt_35 : decode cX9_spotAt 35 = .ok (.iadd, 1) := by decide +kernel
theorem dX9_spotAt_36 : decode cX9_spotAt 36 = .ok (.iload_n 3, 1) := by decide +kernel
theorem dX9_spotAt_37 : decode cX9_spotAt 37 = .ok (.iadd, 1) := by decide +kernel
theorem dX9_spotAt_38 : decode cX9_spotAt 38 = .ok (.goto 4, 3) := by decide +kernel
theorem dX9_spotAt_41 : decode cX9_spotAt 41 = .ok (.iconst (-1), 1) := by decide +kernel
theorem dX9_spotAt_42 : decode cX9_spotAt 42 = .ok (.ireturn, 1) := by decide +kernel
theorem dX9_light_0 : decode cX9_light 0 = .ok (.aload_n 0, 1) := by decide +kernel
theorem dX9_light_1 : decode cX9_light 1 = .ok (.iconst 0, 1) := by decide +kernel
theorem dX9_light_2 : decode cX9_light 2 = .ok (.putfield 69, 3) := by decide +kernel
theorem dX9_light_5 : decode cX9_light 5 = .ok (.aload_n 0, 1) := by decide +kernel
theorem dX9_light_6 : decode cX9_light 6 = .ok (.iload_n 1, 1) := by decide +kernel
theorem dX9_light_7 : decode cX9_light 7 = .ok (.iload_n 2, 1) := by decide +kernel
theorem dX9_light_8 : decode cX9_light 8 = .ok (.iload_n 3, 1) := by decide +kernel
theorem dX9_light_9 : decode cX9_light 9 = .ok (.invokevirtual 96, 3) := by decide +kernel
theorem dX9_light_12 : decode cX9_light 12 = .ok (.istore 5, 2) := by decide +kernel
theorem dX9_light_14 : decode cX9_light 14 = .ok (.iload 5, 2) := by decide +kernel
theorem dX9_light_16 : decode cX9_light 16 = .ok (.iconst (-1), 1) := by decide +kernel
theorem dX9_light_17 : decode cX9_light 17 = .ok (.if_icmp .eq 16, 3) := by decide +kernel
theorem dX9_light_20 : decode cX9_light 20 = .ok (.iload 4, 2) := by decide +kernel
theorem dX9_light_22 : decode cX9_light 22 = .ok (.iconst 1, 1) := by decide +kernel
theorem dX9_light_23 : decode cX9_light 23 = .ok (.if_icmp .lt 10, 3) := by decide +kernel
theorem dX9_light_26 : decode cX9_light 26 = .ok (.iload 4, 2) := by decide +kernel
theorem dX9_light_28 : decode cX9_light 28 = .ok (.ldc 91, 2) := by decide +kernel
theorem dX9_light_30 : decode cX9_light 30 = .ok (.if_icmp .le 5, 3) := by decide +kernel
theorem dX9_light_33 : decode cX9_light 33 = .ok (.iconst (-1), 1) := by decide +kernel
theorem dX9_light_34 : decode cX9_light 34 = .ok (.ireturn, 1) := by decide +kernel
theorem dX9_light_35 : decode cX9_light 35 = .ok (.aload_n 0, 1) := by decide +kernel
theorem dX9_light_36 : decode cX9_light 36 = .ok (.getfield 29, 3) := by decide +kernel
theorem dX9_light_39 : decode cX9_light 39 = .ok (.iload 5, 2) := by decide +kernel
theorem dX9_light_41 : decode cX9_light 41 = .ok (.iaload, 1) := by decide +kernel
theorem dX9_light_42 : decode cX9_light 42 = .ok (.iload 4, 2) := by decide +kernel
theorem dX9_light_44 : decode cX9_light 44 = .ok (.iand, 1) := by decide +kernel
theorem dX9_light_45 : decode cX9_light 45 = .ok (.istore 6, 2) := by decide +kernel
theorem dX9_light_47 : decode cX9_light 47 = .ok (.iload 6, 2) := by decide +kernel
theorem dX9_light_49 : decode cX9_light 49 = .ok (.ifCond .ne 16, 3) := by decide +kernel
theorem dX9_light_52 : decode cX9_light 52 = .ok (.aload_n 0, 1) := by decide +kernel
theorem dX9_light_53 : decode cX9_light 53 = .ok (.dup, 1) := by decide +kernel
theorem dX9_light_54 : decode cX9_light 54 = .ok (.getfield 100, 3) := by decide +kernel
theorem dX9_light_57 : decode cX9_light 57 = .ok (.iconst 1, 1) := by decide +kernel
theorem dX9_light_58 : decode cX9_light 58 = .ok (.iadd, 1) := by decide +kernel
theorem dX9_light_59 : decode cX9_light 59 = .ok (.putfield 100, 3) := by decide +kernel
theorem dX9_light_62 : decode cX9_light 62 = .ok (.bipush (-2), 2) := by decide +kernel
theorem dX9_light_64 : decode cX9_light 64 = .ok (.ireturn, 1) := by decide +kernel
theorem dX9_light_65 : decode cX9_light 65 = .ok (.aload_n 0, 1) := by decide +kernel
theorem dX9_light_66 : decode cX9_light 66 = .ok (.getfield 29, 3) := by decide +kernel
theorem dX9_light_69 : decode cX9_light 69 = .ok (.iload 5, 2) := by decide +kernel
theorem dX9_light_71 : decode cX9_light 71 = .ok (.iload 6, 2) := by decide +kernel
theorem dX9_light_73 : decode cX9_light 73 = .ok (.iastore, 1) := by decide +kernel
theorem dX9_light_74 : decode cX9_light 74 = .ok (.iconst 0, 1) := by decide +kernel
theorem dX9_light_75 : decode cX9_light 75 = .ok (.istore 7, 2) := by decide +kernel
theorem dX9_light_77 : decode cX9_light 77 = .ok (.iconst 0, 1) := by decide +kernel
theorem dX9_light_78 : decode cX9_light 78 = .ok (.istore 8, 2) := by decide +kernel
theorem dX9_light_80 : decode cX9_light 80 = .ok (.iload 8, 2) := by decide +kernel
theorem dX9_light_82 : decode cX9_light 82 = .ok (.bipush 16, 2) := by decide +kernel
theorem dX9_light_84 : decode cX9_light 84 = .ok (.if_icmp .ge 21, 3) := by decide +kernel
theorem dX9_light_87 : decode cX9_light 87 = .ok (.iload 7, 2) := by decide +kernel
theorem dX9_light_89 : decode cX9_light 89 = .ok (.iload 6, 2) := by decide +kernel
theorem dX9_light_91 : decode cX9_light 91 = .ok (.iload 8, 2) := by decide +kernel
theorem dX9_light_93 : decode cX9_light 93 = .ok (.ishr, 1) := by decide +kernel
theorem dX9_light_94 : decode cX9_light 94 = .ok (.iconst 1, 1) := by decide +kernel
theorem dX9_light_95 : decode cX9_light 95 = .ok (.iand, 1) := by decide +kernel
theorem dX9_light_96 : decode cX9_light 96 = .ok (.iadd, 1) := by decide +kernel
theorem dX9_light_97 : decode cX9_light 97 = .ok (.istore 7, 2) := by decide +kernel
theorem dX9_light_99 : decode cX9_light 99 = .ok (.iinc 8 1, 3) := by decide +kernel
theorem dX9_light_102 : decode cX9_light 102 = .ok (.goto (-22), 3) := by decide +kernel
theorem dX9_light_105 : decode cX9_light 105 = .ok (.iload 7, 2) := by decide +kernel
theorem dX9_light_107 : decode cX9_light 107 = .ok (.ireturn, 1) := by decide +kernel
theorem dX9_list_0 : decode cX9_list 0 = .ok (.aload_n 0, 1) := by decide +kernel
theorem dX9_list_1 : decode cX9_list 1 = .ok (.iconst 0, 1) := by decide +kernel
theorem dX9_list_2 : decode cX9_list 2 = .ok (.putfield 69, 3) := by decide +kernel
theorem dX9_list_5 : decode cX9_list 5 = .ok (.aload_n 0, 1) := by decide +kernel
theorem dX9_list_6 : decode cX9_list 6 = .ok (.iload_n 1, 1) := by decide +kernel
theorem dX9_list_7 : decode cX9_list 7 = .ok (.iload_n 2, 1) := by decide +kernel
theorem dX9_list_8 : decode cX9_list 8 = .ok (.iload_n 3, 1) := by decide +kernel
theorem dX9_list_9 : decode cX9_list 9 = .ok (.invokevirtual 96, 3) := by decide +kernel
theorem dX9_list_12 : decode cX9_list 12 = .ok (.istore 4, 2) := by decide +kernel
theorem dX9_list_14 : decode cX9_list 14 = .ok (.iload 4, 2) := by decide +kernel
theorem dX9_list_16 : decode cX9_list 16 = .ok (.iconst (-1), 1) := by decide +kernel
theorem dX9_list_17 : decode cX9_list 17 = .ok (.if_icmp .ne 7, 3) := by decide +kernel
theorem dX9_list_20 : decode cX9_list 20 = .ok (.iconst (-1), 1) := by decide +kernel
theorem dX9_list_21 : decode cX9_list 21 = .ok (.goto 10, 3) := by decide +kernel
theorem dX9_list_24 : decode cX9_list 24 = .ok (.aload_n 0, 1) := by decide +kernel
theorem dX9_list_25 : decode cX9_list 25 = .ok (.getfield 29, 3) := by decide +kernel
theorem dX9_list_28 : decode cX9_list 28 = .ok (.iload 4, 2) := by decide +kernel
theorem dX9_list_30 : decode cX9_list 30 = .ok (.iaload, 1) := by decide +kernel
theorem dX9_list_31 : decode cX9_list 31 = .ok (.ireturn, 1) := by decide +kernel
theorem dX9_places_0 : decode cX9_places 0 = .ok (.aload_n 0, 1) := by decide +kernel
theorem dX9_places_1 : decode cX9_places 1 = .ok (.getfield 78, 3) := by decide +kernel
theorem dX9_places_4 : decode cX9_places 4 = .ok (.bipush 31, 2) := by decide +kernel
theorem dX9_places_6 : decode cX9_places 6 = .ok (.isub, 1) := by decide +kernel
theorem dX9_places_7 : decode cX9_places 7 = .ok (.ireturn, 1) := by decide +kernel
theorem dX9_letterAt_0 : decode cX9_letterAt 0 = .ok (.aload_n 0, 1) := by decide +kernel
theorem dX9_letterAt_1 : decode cX9_letterAt 1 = .ok (.getfield 13, 3) := by decide +kernel
theorem dX9_letterAt_4 : decode cX9_letterAt 4 = .ok (.iload_n 2, 1) := by decide +kernel
theorem dX9_letterAt_5 : decode cX9_letterAt 5 = .ok (.bipush 16, 2) := by decide +kernel
theorem dX9_letterAt_7 : decode cX9_letterAt 7 = .ok (.iload_n 3, 1) := by decide +kernel
theorem dX9_letterAt_8 : decode cX9_letterAt 8 = .ok (.bipush 8, 2) := by decide +kernel
theorem dX9_letterAt_10 : decode cX9_letterAt 10 = .ok (.idiv, 1) := by decide +kernel
theorem dX9_letterAt_11 : decode cX9_letterAt 11 = .ok (.imul, 1) := by decide +kernel
theorem dX9_letterAt_12 : decode cX9_letterAt 12 = .ok (.iadd, 1) := by decide +kernel
theorem dX9_letterAt_13 : decode cX9_letterAt 13 = .ok (.bipush 8, 2) := by decide +kernel
theorem dX9_letterAt_15 : decode cX9_letterAt 15 = .ok (.iload_n 1, 1) := by decide +kernel
theorem dX9_letterAt_16 : decode cX9_letterAt 16 = .ok (.imul, 1) := by decide +kernel
theorem dX9_letterAt_17 : decode cX9_letterAt 17 = .ok (.iadd, 1) := by decide +kernel
theorem dX9_letterAt_18 : decode cX9_letterAt 18 = .ok (.iload_n 3, 1) := by decide +kernel
theorem dX9_letterAt_19 : decode cX9_letterAt 19 = .ok (.bipush 8, 2) := by decide +kernel
theorem dX9_letterAt_21 : decode cX9_letterAt 21 = .ok (.irem, 1) := by decide +kernel
theorem dX9_letterAt_22 : decode cX9_letterAt 22 = .ok (.iadd, 1) := by decide +kernel
theorem dX9_letterAt_23 : decode cX9_letterAt 23 = .ok (.iaload, 1) := by decide +kernel
theorem dX9_letterAt_24 : decode cX9_letterAt 24 = .ok (.ireturn, 1) := by decide +kernel
theorem dX9_quarrelsOf_0 : decode cX9_quarrelsOf 0 = .ok (.iconst 0, 1) := by decide +kernel
theorem dX9_quarrelsOf_1 : decode cX9_quarrelsOf 1 = .ok (.istore 4, 2) := by decide +kernel
theorem dX9_quarrelsOf_3 : decode cX9_quarrelsOf 3 = .ok (.iconst 0, 1) := by decide +kernel
theorem dX9_quarrelsOf_4 : decode cX9_quarrelsOf 4 = .ok (.istore 5, 2) := by decide +kernel
theorem dX9_quarrelsOf_6 : decode cX9_quarrelsOf 6 = .ok (.iload 5, 2) := by decide +kernel
theorem dX9_quarrelsOf_8 : decode cX9_quarrelsOf 8 = .ok (.bipush 16, 2) := by decide +kernel
theorem dX9_quarrelsOf_10 : decode cX9_quarrelsOf 10 = .ok (.if_icmp .ge 46, 3) := by decide +kernel
theorem dX9_quarrelsOf_13 : decode cX9_quarrelsOf 13 = .ok (.iload 4, 2) := by decide +kernel
theorem dX9_quarrelsOf_15 : decode cX9_quarrelsOf 15 = .ok (.aload_n 0, 1) := by decide +kernel
theorem dX9_quarrelsOf_16 : decode cX9_quarrelsOf 16 = .ok (.getfield 29, 3) := by decide +kernel
theorem dX9_quarrelsOf_19 : decode cX9_quarrelsOf 19 = .ok (.bipush 16, 2) := by decide +kernel
theorem dX9_quarrelsOf_21 : decode cX9_quarrelsOf 21 = .ok (.iload_n 1, 1) := by decide +kernel
theorem dX9_quarrelsOf_22 : decode cX9_quarrelsOf 22 = .ok (.imul, 1) := by decide +kernel
theorem dX9_quarrelsOf_23 : decode cX9_quarrelsOf 23 = .ok (.iload 5, 2) := by decide +kernel
theorem dX9_quarrelsOf_25 : decode cX9_quarrelsOf 25 = .ok (.iadd, 1) := by decide +kernel
theorem dX9_quarrelsOf_26 : decode cX9_quarrelsOf 26 = .ok (.iaload, 1) := by decide +kernel
theorem dX9_quarrelsOf_27 : decode cX9_quarrelsOf 27 = .ok (.aload_n 0, 1) := by decide +kernel
theorem dX9_quarrelsOf_28 : decode cX9_quarrelsOf 28 = .ok (.iload_n 2, 1) := by decide +kernel
theorem dX9_quarrelsOf_29 : decode cX9_quarrelsOf 29 = .ok (.iload_n 3, 1) := by decide +kernel
theorem dX9_quarrelsOf_30 : decode cX9_quarrelsOf 30 = .ok (.iload 5, 2) := by decide +kernel
theorem dX9_quarrelsOf_32 : decode cX9_quarrelsOf 32 = .ok (.invokevirtual 103, 3) := by decide +kernel
theorem dX9_quarrelsOf_35 : decode cX9_quarrelsOf 35 = .ok (.ishr, 1) := by decide +kernel
theorem dX9_quarrelsOf_36 : decode cX9_quarrelsOf 36 = .ok (.iconst 1, 1) := by decide +kernel
theorem dX9_quarrelsOf_37 : decode cX9_quarrelsOf 37 = .ok (.iand, 1) := by decide +kernel
theorem dX9_quarrelsOf_38 : decode cX9_quarrelsOf 38 = .ok (.iconst 1, 1) := by decide +kernel
theorem dX9_quarrelsOf_39 : decode cX9_quarrelsOf 39 = .ok (.if_icmp .ne 7, 3) := by decide +kernel
theorem dX9_quarrelsOf_42 : decode cX9_quarrelsOf 42 = .ok (.iconst 0, 1) := by decide +kernel
theorem dX9_quarrelsOf_43 : decode cX9_quarrelsOf 43 = .ok (.goto 4, 3) := by decide +kernel
theorem dX9_quarrelsOf_46 : decode cX9_quarrelsOf 46 = .ok (.iconst 1, 1) := by decide +kernel
theorem dX9_quarrelsOf_47 : decode cX9_quarrelsOf 47 = .ok (.iadd, 1) := by decide +kernel
theorem dX9_quarrelsOf_48 : decode cX9_quarrelsOf 48 = .ok (.istore 4, 2) := by decide +kernel
theorem dX9_quarrelsOf_50 : decode cX9_quarrelsOf 50 = .ok (.iinc 5 1, 3) := by decide +kernel
theorem dX9_quarrelsOf_53 : decode cX9_quarrelsOf 53 = .ok (.goto (-47), 3) := by decide +kernel
theorem dX9_quarrelsOf_56 : decode cX9_quarrelsOf 56 = .ok (.iload 4, 2) := by decide +kernel
theorem dX9_quarrelsOf_58 : decode cX9_quarrelsOf 58 = .ok (.ireturn, 1) := by decide +kernel
theorem dX9_quarrels_0 : decode cX9_quarrels 0 = .ok (.aload_n 0, 1) := by decide +kernel
theorem dX9_quarrels_1 : decode cX9_quarrels 1 = .ok (.iconst 0, 1) := by decide +kernel
theorem dX9_quarrels_2 : decode cX9_quarrels 2 = .ok (.putfield 69, 3) := by decide +kernel
theorem dX9_quarrels_5 : decode cX9_quarrels 5 = .ok (.aload_n 0, 1) := by decide +kernel
theorem dX9_quarrels_6 : decode cX9_quarrels 6 = .ok (.iload_n 1, 1) := by decide +kernel
theorem dX9_quarrels_7 : decode cX9_quarrels 7 = .ok (.invokevirtual 92, 3) := by decide +kernel
theorem dX9_quarrels_10 : decode cX9_quarrels 10 = .ok (.ifCond .eq 24, 3) := by decide +kernel
theorem dX9_quarrels_13 : decode cX9_quarrels 13 = .ok (.iload_n 2, 1) := by decide +kernel
theorem dX9_quarrels_14 : decode cX9_quarrels 14 = .ok (.ifCond .lt 20, 3) := by decide +kernel
theorem dX9_quarrels_17 : decode cX9_quarrels 17 = .ok (.iload_n 2, 1) := by decide +kernel
theorem dX9_quarrels_18 : decode cX9_quarrels 18 = .ok (.iconst 1, 1) := by decide +kernel
theorem dX9_quarrels_19 : decode cX9_quarrels 19 = .ok (.if_icmp .gt 15, 3) := by decide +kernel
theorem dX9_quarrels_22 : decode cX9_quarrels 22 = .ok (.iload_n 3, 1) := by decide +kernel
theorem dX9_quarrels_23 : decode cX9_quarrels 23 = .ok (.ifCond .lt 11, 3) := by decide +kernel
theorem dX9_quarrels_26 : decode cX9_quarrels 26 = .ok (.iload_n 3, 1) := by decide +kernel
theorem dX9_quarrels_27 : decode cX9_quarrels 27 = .ok (.aload_n 0, 1) := by decide +kernel
theorem dX9_quarrels_28 : decode cX9_quarrels 28 = .ok (.invokevirtual 106, 3) := by decide +kernel
theorem dX9_quarrels_31 : decode cX9_quarrels 31 = .ok (.if_icmp .lt 7, 3) := by decide +kernel
theorem dX9_quarrels_34 : decode cX9_quarrels 34 = .ok (.iconst (-1), 1) := by decide +kernel
theorem dX9_quarrels_35 : decode cX9_quarrels 35 = .ok (.goto 10, 3) := by decide +kernel
theorem dX9_quarrels_38 : decode cX9_quarrels 38 = .ok (.aload_n 0, 1) := by decide +kernel
theorem dX9_quarrels_39 : decode cX9_quarrels 39 = .ok (.iload_n 1, 1) := by decide +kernel
theorem dX9_quarrels_40 : decode cX9_quarrels 40 = .ok (.iload_n 2, 1) := by decide +kernel
theorem dX9_quarrels_41 : decode cX9_quarrels 41 = .ok (.iload_n 3, 1) := by decide +kernel
theorem dX9_quarrels_42 : decode cX9_quarrels 42 = .ok (.invokevirtual 110, 3) := by decide +kernel
theorem dX9_quarrels_45 : decode cX9_quarrels 45 = .ok (.ireturn, 1) := by decide +kernel
theorem dX9_canBe_0 : decode cX9_canBe 0 = .ok (.aload_n 0, 1) := by decide +kernel
theorem dX9_canBe_1 : decode cX9_canBe 1 = .ok (.getfield 20, 3) := by decide +kernel
theorem dX9_canBe_4 : decode cX9_canBe 4 = .ok (.iload_n 1, 1) := by decide +kernel
theorem dX9_canBe_5 : decode cX9_canBe 5 = .ok (.iaload, 1) := by decide +kernel
theorem dX9_canBe_6 : decode cX9_canBe 6 = .ok (.iconst 2, 1) := by decide +kernel
theorem dX9_canBe_7 : decode cX9_canBe 7 = .ok (.if_icmp .eq 13, 3) := by decide +kernel
theorem dX9_canBe_10 : decode cX9_canBe 10 = .ok (.aload_n 0, 1) := by decide +kernel
theorem dX9_canBe_11 : decode cX9_canBe 11 = .ok (.getfield 20, 3) := by decide +kernel
theorem dX9_canBe_14 : decode cX9_canBe 14 = .ok (.iload_n 1, 1) := by decide +kernel
theorem dX9_canBe_15 : decode cX9_canBe 15 = .ok (.iaload, 1) := by decide +kernel
theorem dX9_canBe_16 : decode cX9_canBe 16 = .ok (.iload_n 2, 1) := by decide +kernel
theorem dX9_canBe_17 : decode cX9_canBe 17 = .ok (.if_icmp .ne 7, 3) := by decide +kernel
theorem dX9_canBe_20 : decode cX9_canBe 20 = .ok (.iconst 1, 1) := by decide +kernel
theorem dX9_canBe_21 : decode cX9_canBe 21 = .ok (.goto 4, 3) := by decide +kernel
theorem dX9_canBe_24 : decode cX9_canBe 24 = .ok (.iconst 0, 1) := by decide +kernel
theorem dX9_canBe_25 : decode cX9_canBe 25 = .ok (.ireturn, 1) := by decide +kernel
theorem dX9_both_0 : decode cX9_both 0 = .ok (.iload_n 1, 1) := by decide +kernel
theorem dX9_both_1 : decode cX9_both 1 = .ok (.iconst (-1), 1) := by decide +kernel
theorem dX9_both_2 : decode cX9_both 2 = .ok (.if_icmp .ne 7, 3) := by decide +kernel
theorem dX9_both_5 : decode cX9_both 5 = .ok (.iconst 0, 1) := by decide +kernel
theorem dX9_both_6 : decode cX9_both 6 = .ok (.goto 10, 3) := by decide +kernel
theorem dX9_both_9 : decode cX9_both 9 = .ok (.aload_n 0, 1) := by decide +kernel
theorem dX9_both_10 : decode cX9_both 10 = .ok (.iload_n 1, 1) := by decide +kernel
theorem dX9_both_11 : decode cX9_both 11 = .ok (.iconst 0, 1) := by decide +kernel
theorem dX9_both_12 : decode cX9_both 12 = .ok (.iload_n 3, 1) := by decide +kernel
theorem dX9_both_13 : decode cX9_both 13 = .ok (.invokevirtual 110, 3) := by decide +kernel
theorem dX9_both_16 : decode cX9_both 16 = .ok (.iload_n 2, 1) := by decide +kernel
theorem dX9_both_17 : decode cX9_both 17 = .ok (.iconst (-1), 1) := by decide +kernel
theorem dX9_both_18 : decode cX9_both 18 = .ok (.if_icmp .ne 7, 3) := by decide +kernel
theorem dX9_both_21 : decode cX9_both 21 = .ok (.iconst 0, 1) := by decide +kernel
theorem dX9_both_22 : decode cX9_both 22 = .ok (.goto 10, 3) := by decide +kernel
theorem dX9_both_25 : decode cX9_both 25 = .ok (.aload_n 0, 1) := by decide +kernel
theorem dX9_both_26 : decode cX9_both 26 = .ok (.iload_n 2, 1) := by decide +kernel
theorem dX9_both_27 : decode cX9_both 27 = .ok (.iconst 1, 1) := by decide +kernel
theorem dX9_both_28 : decode cX9_both 28 = .ok (.iload_n 3, 1) := by decide +kernel
theorem dX9_both_29 : decode cX9_both 29 = .ok (.invokevirtual 110, 3) := by decide +kernel
theorem dX9_both_32 : decode cX9_both 32 = .ok (.iadd, 1) := by decide +kernel
theorem dX9_both_33 : decode cX9_both 33 = .ok (.ireturn, 1) := by decide +kernel
theorem dX9_tries_0 : decode cX9_tries 0 = .ok (.iload_n 1, 1) := by decide +kernel
theorem dX9_tries_1 : decode cX9_tries 1 = .ok (.iconst (-1), 1) := by decide +kernel
theorem dX9_tries_2 : decode cX9_tries 2 = .ok (.if_icmp .eq 12, 3) := by decide +kernel
theorem dX9_tries_5 : decode cX9_tries 5 = .ok (.aload_n 0, 1) := by decide +kernel
theorem dX9_tries_6 : decode cX9_tries 6 = .ok (.iload_n 1, 1) := by decide +kernel
theorem dX9_tries_7 : decode cX9_tries 7 = .ok (.iconst 0, 1) := by decide +kernel
theorem dX9_tries_8 : decode cX9_tries 8 = .ok (.invokevirtual 113, 3) := by decide +kernel
theorem dX9_tries_11 : decode cX9_tries 11 = .ok (.ifCond .eq 17, 3) := by decide +kernel
theorem dX9_tries_14 : decode cX9_tries 14 = .ok (.iload_n 2, 1) := by decide +kernel
theorem dX9_tries_15 : decode cX9_tries 15 = .ok (.iconst (-1), 1) := by decide +kernel
theorem dX9_tries_16 : decode cX9_tries 16 = .ok (.if_icmp .eq 13, 3) := by decide +kernel
theorem dX9_tries_19 : decode cX9_tries 19 = .ok (.aload_n 0, 1) := by decide +kernel
theorem dX9_tries_20 : decode cX9_tries 20 = .ok (.iload_n 2, 1) := by decide +kernel
theorem dX9_tries_21 : decode cX9_tries 21 = .ok (.iconst 1, 1) := by decide +kernel
theorem dX9_tries_22 : decode cX9_tries 22 = .ok (.invokevirtual 113, 3) := by decide +kernel
theorem dX9_tries_25 : decode cX9_tries 25 = .ok (.ifCond .ne 4, 3) := by decide +kernel
theorem dX9_tries_28 : decode cX9_tries 28 = .ok (.return_, 1) := by decide +kernel
theorem dX9_tries_29 : decode cX9_tries 29 = .ok (.iconst 0, 1) := by decide +kernel
theorem dX9_tries_30 : decode cX9_tries 30 = .ok (.istore_n 3, 1) := by decide +kernel
theorem dX9_tries_31 : decode cX9_tries 31 = .ok (.iload_n 3, 1) := by decide +kernel
theorem dX9_tries_32 : decode cX9_tries 32 = .ok (.aload_n 0, 1) := by decide +kernel
theorem dX9_tries_33 : decode cX9_tries 33 = .ok (.invokevirtual 106, 3) := by decide +kernel
theorem dX9_tries_36 : decode cX9_tries 36 = .ok (.if_icmp .ge 59, 3) := by decide +kernel
theorem dX9_tries_39 : decode cX9_tries 39 = .ok (.aload_n 0, 1) := by decide +kernel
theorem dX9_tries_40 : decode cX9_tries 40 = .ok (.iload_n 1, 1) := by decide +kernel
theorem dX9_tries_41 : decode cX9_tries 41 = .ok (.iload_n 2, 1) := by decide +kernel
theorem dX9_tries_42 : decode cX9_tries 42 = .ok (.iload_n 3, 1) := by decide +kernel
theorem dX9_tries_43 : decode cX9_tries 43 = .ok (.invokevirtual 117, 3) := by decide +kernel
theorem dX9_tries_46 : decode cX9_tries 46 = .ok (.istore 4, 2) := by decide +kernel
theorem dX9_tries_48 : decode cX9_tries 48 = .ok (.aload_n 0, 1) := by decide +kernel
theorem dX9_tries_49 : decode cX9_tries 49 = .ok (.getfield 120, 3) := by decide +kernel
theorem dX9_tries_52 : decode cX9_tries 52 = .ok (.iconst (-1), 1) := by decide +kernel
theorem dX9_tries_53 : decode cX9_tries 53 = .ok (.if_icmp .eq 15, 3) := by decide +kernel
theorem dX9_tries_56 : decode cX9_tries 56 = .ok (.iload 4, 2) := by decide +kernel
theorem dX9_tries_58 : decode cX9_tries 58 = .ok (.aload_n 0, 1) := by decide +kernel
theorem dX9_tries_59 : decode cX9_tries 59 = .ok (.getfield 120, 3) := by decide +kernel
theorem dX9_tries_62 : decode cX9_tries 62 = .ok (.if_icmp .lt 6, 3) := by decide +kernel
theorem dX9_tries_65 : decode cX9_tries 65 = .ok (.goto 24, 3) := by decide +kernel
theorem dX9_tries_68 : decode cX9_tries 68 = .ok (.aload_n 0, 1) := by decide +kernel
theorem dX9_tries_69 : decode cX9_tries 69 = .ok (.iload 4, 2) := by decide +kernel
theorem dX9_tries_71 : decode cX9_tries 71 = .ok (.putfield 120, 3) := by decide +kernel
theorem dX9_tries_74 : decode cX9_tries 74 = .ok (.aload_n 0, 1) := by decide +kernel
theorem dX9_tries_75 : decode cX9_tries 75 = .ok (.iload_n 3, 1) := by decide +kernel
theorem dX9_tries_76 : decode cX9_tries 76 = .ok (.putfield 123, 3) := by decide +kernel
theorem dX9_tries_79 : decode cX9_tries 79 = .ok (.aload_n 0, 1) := by decide +kernel
theorem dX9_tries_80 : decode cX9_tries 80 = .ok (.iload_n 1, 1) := by decide +kernel
theorem dX9_tries_81 : decode cX9_tries 81 = .ok (.putfield 126, 3) := by decide +kernel
theorem dX9_tries_84 : decode cX9_tries 84 = .ok (.aload_n 0, 1) := by decide +kernel
theorem dX9_tries_85 : decode cX9_tries 85 = .ok (.iload_n 2, 1) := by decide +kernel
theorem dX9_tries_86 : decode cX9_tries 86 = .ok (.putfield 129, 3) := by decide +kernel
theorem dX9_tries_89 : decode cX9_tries 89 = .ok (.iinc 3 1, 3) := by decide +kernel
theorem dX9_tries_92 : decode cX9_tries 92 = .ok (.goto (-61), 3) := by decide +kernel
theorem dX9_tries_95 : decode cX9_tries 95 = .ok (.return_, 1) := by decide +kernel
theorem dX9_bests_0 : decode cX9_bests 0 = .ok (.iload_n 1, 1) := by decide +kernel
theorem dX9_bests_1 : decode cX9_bests 1 = .ok (.iload_n 2, 1) := by decide +kernel
theorem dX9_bests_2 : decode cX9_bests 2 = .ok (.invokestatic 132, 3) := by decide +kernel
theorem dX9_bests_5 : decode cX9_bests 5 = .ok (.istore_n 3, 1) := by decide +kernel
theorem dX9_bests_6 : decode cX9_bests 6 = .ok (.iload_n 1, 1) := by decide +kernel
theorem dX9_bests_7 : decode cX9_bests 7 = .ok (.iload_n 2, 1) := by decide +kernel
theorem dX9_bests_8 : decode cX9_bests 8 = .ok (.invokestatic 138, 3) := by decide +kernel
theorem dX9_bests_11 : decode cX9_bests 11 = .ok (.istore 4, 2) := by decide +kernel
theorem dX9_bests_13 : decode cX9_bests 13 = .ok (.aload_n 0, 1) := by decide +kernel
theorem dX9_bests_14 : decode cX9_bests 14 = .ok (.iconst (-1), 1) := by decide +kernel
theorem dX9_bests_15 : decode cX9_bests 15 = .ok (.putfield 120, 3) := by decide +kernel
theorem dX9_bests_18 : decode cX9_bests 18 = .ok (.iload_n 3, 1) := by decide +kernel
theorem dX9_bests_19 : decode cX9_bests 19 = .ok (.iload 4, 2) := by decide +kernel
theorem dX9_bests_21 : decode cX9_bests 21 = .ok (.if_icmp .ne 18, 3) := by decide +kernel
theorem dX9_bests_24 : decode cX9_bests 24 = .ok (.aload_n 0, 1) := by decide +kernel
theorem dX9_bests_25 : decode cX9_bests 25 = .ok (.iload_n 3, 1) := by decide +kernel
theorem dX9_bests_26 : decode cX9_bests 26 = .ok (.iconst (-1), 1) := by decide +kernel
theorem dX9_bests_27 : decode cX9_bests 27 = .ok (.invokevirtual 141, 3) := by decide +kernel
theorem dX9_bests_30 : decode cX9_bests 30 = .ok (.aload_n 0, 1) := by decide +kernel
theorem dX9_bests_31 : decode cX9_bests 31 = .ok (.iconst (-1), 1) := by decide +kernel
theorem dX9_bests_32 : decode cX9_bests 32 = .ok (.iload_n 3, 1) := by decide +kernel
theorem dX9_bests_33 : decode cX9_bests 33 = .ok (.invokevirtual 141, 3) := by decide +kernel
theorem dX9_bests_36 : decode cX9_bests 36 = .ok (.goto 49, 3) := by decide +kernel
theorem dX9_bests_39 : decode cX9_bests 39 = .ok (.aload_n 0, 1) := by decide +kernel
theorem dX9_bests_40 : decode cX9_bests 40 = .ok (.getfield 26, 3) := by decide +kernel
theorem dX9_bests_43 : decode cX9_bests 43 = .ok (.iload_n 3, 1) := by decide +kernel
theorem dX9_bests_44 : decode cX9_bests 44 = .ok (.iaload, 1) := by decide +kernel
theorem dX9_bests_45 : decode cX9_bests 45 = .ok (.aload_n 0, 1) := by decide +kernel
theorem dX9_bests_46 : decode cX9_bests 46 = .ok (.getfield 26, 3) := by decide +kernel
theorem dX9_bests_49 : decode cX9_bests 49 = .ok (.iload 4, 2) := by decide +kernel
theorem dX9_bests_51 : decode cX9_bests 51 = .ok (.iaload, 1) := by decide +kernel
theorem dX9_bests_52 : decode cX9_bests 52 = .ok (.if_icmp .ne 33, 3) := by decide +kernel
theorem dX9_bests_55 : decode cX9_bests 55 = .ok (.aload_n 0, 1) := by decide +kernel
theorem dX9_bests_56 : decode cX9_bests 56 = .ok (.getfield 23, 3) := by decide +kernel
theorem dX9_bests_59 : decode cX9_bests 59 = .ok (.iload_n 3, 1) := by decide +kernel
theorem dX9_bests_60 : decode cX9_bests 60 = .ok (.iaload, 1) := by decide +kernel
theorem dX9_bests_61 : decode cX9_bests 61 = .ok (.aload_n 0, 1) := by decide +kernel
theorem dX9_bests_62 : decode cX9_bests 62 = .ok (.getfield 23, 3) := by decide +kernel
theorem dX9_bests_65 : decode cX9_bests 65 = .ok (.iload 4, 2) := by decide +kernel
theorem dX9_bests_67 : decode cX9_bests 67 = .ok (.iaload, 1) := by decide +kernel
theorem dX9_bests_68 : decode cX9_bests 68 = .ok (.if_icmp .ne 17, 3) := by decide +kernel
theorem dX9_bests_71 : decode cX9_bests 71 = .ok (.aload_n 0, 1) := by decide +kernel
theorem dX9_bests_72 : decode cX9_bests 72 = .ok (.iload_n 3, 1) := by decide +kernel
theorem dX9_bests_73 : decode cX9_bests 73 = .ok (.iload 4, 2) := by decide +kernel
theorem dX9_bests_75 : decode cX9_bests 75 = .ok (.invokevirtual 141, 3) := by decide +kernel
theorem dX9_bests_78 : decode cX9_bests 78 = .ok (.aload_n 0, 1) := by decide +kernel
theorem dX9_bests_79 : decode cX9_bests 79 = .ok (.iload 4, 2) := by decide +kernel
theorem dX9_bests_81 : decode cX9_bests 81 = .ok (.iload_n 3, 1) := by decide +kernel
theorem dX9_bests_82 : decode cX9_bests 82 = .ok (.invokevirtual 141, 3) := by decide +kernel
theorem dX9_bests_85 : decode cX9_bests 85 = .ok (.aload_n 0, 1) := by decide +kernel
theorem dX9_bests_86 : decode cX9_bests 86 = .ok (.getfield 120, 3) := by decide +kernel
theorem dX9_bests_89 : decode cX9_bests 89 = .ok (.iconst (-1), 1) := by decide +kernel
theorem dX9_bests_90 : decode cX9_bests 90 = .ok (.if_icmp .eq 7, 3) := by decide +kernel
theorem dX9_bests_93 : decode cX9_bests 93 = .ok (.iconst 1, 1) := by decide +kernel
theorem dX9_bests_94 : decode cX9_bests 94 = .ok (.goto 4, 3) := by decide +kernel
theorem dX9_bests_97 : decode cX9_bests 97 = .ok (.iconst 0, 1) := by decide +kernel
theorem dX9_bests_98 : decode cX9_bests 98 = .ok (.ireturn, 1) := by decide +kernel
theorem dX9_best_0 : decode cX9_best 0 = .ok (.aload_n 0, 1) := by decide +kernel
theorem dX9_best_1 : decode cX9_best 1 = .ok (.iconst 0, 1) := by decide +kernel
theorem dX9_best_2 : decode cX9_best 2 = .ok (.putfield 69, 3) := by decide +kernel
theorem dX9_best_5 : decode cX9_best 5 = .ok (.aload_n 0, 1) := by decide +kernel
theorem dX9_best_6 : decode cX9_best 6 = .ok (.iload_n 1, 1) := by decide +kernel
theorem dX9_best_7 : decode cX9_best 7 = .ok (.invokevirtual 92, 3) := by decide +kernel
theorem dX9_best_10 : decode cX9_best 10 = .ok (.ifCond .eq 20, 3) := by decide +kernel
theorem dX9_best_13 : decode cX9_best 13 = .ok (.aload_n 0, 1) := by decide +kernel
theorem dX9_best_14 : decode cX9_best 14 = .ok (.iload_n 2, 1) := by decide +kernel
theorem dX9_best_15 : decode cX9_best 15 = .ok (.invokevirtual 92, 3) := by decide +kernel
theorem dX9_best_18 : decode cX9_best 18 = .ok (.ifCond .eq 12, 3) := by decide +kernel
theorem dX9_best_21 : decode cX9_best 21 = .ok (.aload_n 0, 1) := by decide +kernel
theorem dX9_best_22 : decode cX9_best 22 = .ok (.iload_n 1, 1) := by decide +kernel
theorem dX9_best_23 : decode cX9_best 23 = .ok (.iload_n 2, 1) := by decide +kernel
theorem dX9_best_24 : decode cX9_best 24 = .ok (.invokevirtual 145, 3) := by decide +kernel
theorem dX9_best_27 : decode cX9_best 27 = .ok (.ifCond .ne 5, 3) := by decide +kernel
theorem dX9_best_30 : decode cX9_best 30 = .ok (.iconst (-1), 1) := by decide +kernel
theorem dX9_best_31 : decode cX9_best 31 = .ok (.ireturn, 1) := by decide +kernel
theorem dX9_best_32 : decode cX9_best 32 = .ok (.iload_n 3, 1) := by decide +kernel
theorem dX9_best_33 : decode cX9_best 33 = .ok (.ifCond .ne 10, 3) := by decide +kernel
theorem dX9_best_36 : decode cX9_best 36 = .ok (.aload_n 0, 1) := by decide +kernel
theorem dX9_best_37 : decode cX9_best 37 = .ok (.getfield 120, 3) := by decide +kernel
theorem dX9_best_40 : decode cX9_best 40 = .ok (.goto 28, 3) := by decide +kernel
theorem dX9_best_43 : decode cX9_best 43 = .ok (.iload_n 3, 1) := by decide +kernel
theorem dX9_best_44 : decode cX9_best 44 = .ok (.iconst 1, 1) := by decide +kernel
theorem dX9_best_45 : decode cX9_best 45 = .ok (.if_icmp .ne 10, 3) := by decide +kernel
theorem dX9_best_48 : decode cX9_best 48 = .ok (.aload_n 0, 1) := by decide +kernel
theorem dX9_best_49 : decode cX9_best 49 = .ok (.getfield 123, 3) := by decide +kernel
theorem dX9_best_52 : decode cX9_best 52 = .ok (.goto 16, 3) := by decide +kernel
theorem dX9_best_55 : decode cX9_best 55 = .ok (.iload_n 3, 1) := by decide +kernel
theorem dX9_best_56 : decode cX9_best 56 = .ok (.iconst 2, 1) := by decide +kernel
theorem dX9_best_57 : decode cX9_best 57 = .ok (.if_icmp .ne 10, 3) := by decide +kernel
theorem dX9_best_60 : decode cX9_best 60 = .ok (.aload_n 0, 1) := by decide +kernel
theorem dX9_best_61 : decode cX9_best 61 = .ok (.getfield 126, 3) := by decide +kernel
theorem dX9_best_64 : decode cX9_best 64 = .ok (.goto 4, 3) := by decide +kernel
theorem dX9_best_67 : decode cX9_best 67 = .ok (.iconst (-1), 1) := by decide +kernel
theorem dX9_best_68 : decode cX9_best 68 = .ok (.ireturn, 1) := by decide +kernel
theorem dX9_price_0 : decode cX9_price 0 = .ok (.aload_n 0, 1) := by decide +kernel
theorem dX9_price_1 : decode cX9_price 1 = .ok (.iconst 0, 1) := by decide +kernel
theorem dX9_price_2 : decode cX9_price 2 = .ok (.putfield 69, 3) := by decide +kernel
theorem dX9_price_5 : decode cX9_price 5 = .ok (.iload_n 1, 1) := by decide +kernel
theorem dX9_price_6 : decode cX9_price 6 = .ok (.ifCond .lt 9, 3) := by decide +kernel
theorem dX9_price_9 : decode cX9_price 9 = .ok (.iload_n 1, 1) := by decide +kernel
theorem dX9_price_10 : decode cX9_price 10 = .ok (.bipush 99, 2) := by decide +kernel
theorem dX9_price_12 : decode cX9_price 12 = .ok (.if_icmp .le 5, 3) := by decide +kernel
theorem dX9_price_15 : decode cX9_price 15 = .ok (.iconst 0, 1) := by decide +kernel
theorem dX9_price_16 : decode cX9_price 16 = .ok (.ireturn, 1) := by decide +kernel
theorem dX9_price_17 : decode cX9_price 17 = .ok (.aload_n 0, 1) := by decide +kernel
theorem dX9_price_18 : decode cX9_price 18 = .ok (.iload_n 1, 1) := by decide +kernel
theorem dX9_price_19 : decode cX9_price 19 = .ok (.putfield 66, 3) := by decide +kernel
theorem dX9_price_22 : decode cX9_price 22 = .ok (.iconst 1, 1) := by decide +kernel
theorem dX9_price_23 : decode cX9_price 23 = .ok (.ireturn, 1) := by decide +kernel
theorem dX9_first_0 : decode cX9_first 0 = .ok (.iconst 0, 1) := by decide +kernel
theorem dX9_first_1 : decode cX9_first 1 = .ok (.istore_n 1, 1) := by decide +kernel
theorem dX9_first_2 : decode cX9_first 2 = .ok (.iload_n 0, 1) := by decide +kernel
theorem dX9_first_3 : decode cX9_first 3 = .ok (.iload_n 1, 1) := by decide +kernel
theorem dX9_first_4 : decode cX9_first 4 = .ok (.ishr, 1) := by decide +kernel
theorem dX9_first_5 : decode cX9_first 5 = .ok (.iconst 1, 1) := by decide +kernel
theorem dX9_first_6 : decode cX9_first 6 = .ok (.iand, 1) := by decide +kernel
theorem dX9_first_7 : decode cX9_first 7 = .ok (.ifCond .ne 9, 3) := by decide +kernel
theorem dX9_first_10 : decode cX9_first 10 = .ok (.iinc 1 1, 3) := by decide +kernel
theorem dX9_first_13 : decode cX9_first 13 = .ok (.goto (-11), 3) := by decide +kernel
theorem dX9_first_16 : decode cX9_first 16 = .ok (.iload_n 1, 1) := by decide +kernel
theorem dX9_first_17 : decode cX9_first 17 = .ok (.ireturn, 1) := by decide +kernel
theorem dX9_join_0 : decode cX9_join 0 = .ok (.aload_n 0, 1) := by decide +kernel
theorem dX9_join_1 : decode cX9_join 1 = .ok (.iconst 0, 1) := by decide +kernel
theorem dX9_join_2 : decode cX9_join 2 = .ok (.putfield 69, 3) := by decide +kernel
theorem dX9_join_5 : decode cX9_join 5 = .ok (.aload_n 0, 1) := by decide +kernel
theorem dX9_join_6 : decode cX9_join 6 = .ok (.getfield 88, 3) := by decide +kernel
theorem dX9_join_9 : decode cX9_join 9 = .ok (.ifCond .eq 11, 3) := by decide +kernel
theorem dX9_join_12 : decode cX9_join 12 = .ok (.aload_n 0, 1) := by decide +kernel
theorem dX9_join_13 : decode cX9_join 13 = .ok (.invokevirtual 106, 3) := by decide +kernel
theorem dX9_join_16 : decode cX9_join 16 = .ok (.iconst 1, 1) := by decide +kernel
theorem dX9_join_17 : decode cX9_join 17 = .ok (.if_icmp .ge 5, 3) := by decide +kernel
theorem dX9_join_20 : decode cX9_join 20 = .ok (.iconst (-1), 1) := by decide +kernel
theorem dX9_join_21 : decode cX9_join 21 = .ok (.ireturn, 1) := by decide +kernel
theorem dX9_join_22 : decode cX9_join 22 = .ok (.iconst 0, 1) := by decide +kernel
theorem dX9_join_23 : decode cX9_join 23 = .ok (.istore_n 1, 1) := by decide +kernel
theorem dX9_join_24 : decode cX9_join 24 = .ok (.iload_n 1, 1) := by decide +kernel
theorem dX9_join_25 : decode cX9_join 25 = .ok (.aload_n 0, 1) := by decide +kernel
theorem dX9_join_26 : decode cX9_join 26 = .ok (.getfield 88, 3) := by decide +kernel
theorem dX9_join_29 : decode cX9_join 29 = .ok (.if_icmp .ge 58, 3) := by decide +kernel
theorem dX9_join_32 : decode cX9_join 32 = .ok (.iload_n 1, 1) := by decide +kernel
theorem dX9_join_33 : decode cX9_join 33 = .ok (.istore_n 2, 1) := by decide +kernel
theorem dX9_join_34 : decode cX9_join 34 = .ok (.iload_n 2, 1) := by decide +kernel
theorem dX9_join_35 : decode cX9_join 35 = .ok (.aload_n 0, 1) := by decide +kernel
theorem dX9_join_36 : decode cX9_join 36 = .ok (.getfield 88, 3) := by decide +kernel
theorem dX9_join_39 : decode cX9_join 39 = .ok (.if_icmp .ge 42, 3) := by decide +kernel
theorem dX9_join_42 : decode cX9_join 42 = .ok (.aload_n 0, 1) := by decide +kernel
theorem dX9_join_43 : decode cX9_join 43 = .ok (.getfield 35, 3) := by decide +kernel
theorem dX9_join_46 : decode cX9_join 46 = .ok (.bipush 8, 2) := by decide +kernel
theorem dX9_join_48 : decode cX9_join 48 = .ok (.iload_n 1, 1) := by decide +kernel
theorem dX9_join_49 : decode cX9_join 49 = .ok (.imul, 1) := by decide +kernel
theorem dX9_join_50 : decode cX9_join 50 = .ok (.iload_n 2, 1) := by decide +kernel
theorem dX9_join_51 : decode cX9_join 51 = .ok (.iadd, 1) := by decide +kernel
theorem dX9_join_52 : decode cX9_join 52 = .ok (.aload_n 0, 1) := by decide +kernel
theorem dX9_join_53 : decode cX9_join 53 = .ok (.iload_n 1, 1) := by decide +kernel
theorem dX9_join_54 : decode cX9_join 54 = .ok (.iload_n 2, 1) := by decide +kernel
theorem dX9_join_55 : decode cX9_join 55 = .ok (.invokevirtual 145, 3) := by decide +kernel
theorem dX9_join_58 : decode cX9_join 58 = .ok (.ifCond .eq 15, 3) := by decide +kernel
theorem dX9_join_61 : decode cX9_join 61 = .ok (.aload_n 0, 1) := by decide +kernel
theorem dX9_join_62 : decode cX9_join 62 = .ok (.getfield 120, 3) := by decide +kernel
theorem dX9_join_65 : decode cX9_join 65 = .ok (.aload_n 0, 1) := by decide +kernel
theorem dX9_join_66 : decode cX9_join 66 = .ok (.getfield 66, 3) := by decide +kernel
theorem dX9_join_69 : decode cX9_join 69 = .ok (.iadd, 1) := by decide +kernel
theorem dX9_join_70 : decode cX9_join 70 = .ok (.goto 4, 3) := by decide +kernel
theorem dX9_join_73 : decode cX9_join 73 = .ok (.iconst (-1), 1) := by decide +kernel
theorem dX9_join_74 : decode cX9_join 74 = .ok (.iastore, 1) := by decide +kernel
theorem dX9_join_75 : decode cX9_join 75 = .ok (.iinc 2 1, 3) := by decide +kernel
theorem dX9_join_78 : decode cX9_join 78 = .ok (.goto (-44), 3) := by decide +kernel
theorem dX9_join_81 : decode cX9_join 81 = .ok (.iinc 1 1, 3) := by decide +kernel
theorem dX9_join_84 : decode cX9_join 84 = .ok (.goto (-60), 3) := by decide +kernel
theorem dX9_join_87 : decode cX9_join 87 = .ok (.aload_n 0, 1) := by decide +kernel
theorem dX9_join_88 : decode cX9_join 88 = .ok (.getfield 32, 3) := by decide +kernel
theorem dX9_join_91 : decode cX9_join 91 = .ok (.iconst 0, 1) := by decide +kernel
theorem dX9_join_92 : decode cX9_join 92 = .ok (.iconst 0, 1) := by decide +kernel
theorem dX9_join_93 : decode cX9_join 93 = .ok (.iastore, 1) := by decide +kernel
theorem dX9_join_94 : decode cX9_join 94 = .ok (.iconst 1, 1) := by decide +kernel
theorem dX9_join_95 : decode cX9_join 95 = .ok (.istore_n 1, 1) := by decide +kernel
theorem dX9_join_96 : decode cX9_join 96 = .ok (.iload_n 1, 1) := by decide +kernel
theorem dX9_join_97 : decode cX9_join 97 = .ok (.iconst 1, 1) := by decide +kernel
theorem dX9_join_98 : decode cX9_join 98 = .ok (.aload_n 0, 1) := by decide +kernel
theorem dX9_join_99 : decode cX9_join 99 = .ok (.getfield 88, 3) := by decide +kernel
theorem dX9_join_102 : decode cX9_join 102 = .ok (.ishl, 1) := by decide +kernel
theorem dX9_join_103 : decode cX9_join 103 = .ok (.if_icmp .ge 107, 3) := by decide +kernel
theorem dX9_join_106 : decode cX9_join 106 = .ok (.iload_n 1, 1) := by decide +kernel
theorem dX9_join_107 : decode cX9_join 107 = .ok (.invokestatic 148, 3) := by decide +kernel
theorem dX9_join_110 : decode cX9_join 110 = .ok (.istore_n 2, 1) := by decide +kernel
theorem dX9_join_111 : decode cX9_join 111 = .ok (.aload_n 0, 1) := by decide +kernel
theorem dX9_join_112 : decode cX9_join 112 = .ok (.getfield 32, 3) := by decide +kernel
theorem dX9_join_115 : decode cX9_join 115 = .ok (.iload_n 1, 1) := by decide +kernel
theorem dX9_join_116 : decode cX9_join 116 = .ok (.ldc 152, 2) := by decide +kernel
theorem dX9_join_118 : decode cX9_join 118 = .ok (.iastore, 1) := by decide +kernel
theorem dX9_join_119 : decode cX9_join 119 = .ok (.iload_n 2, 1) := by decide +kernel
theorem dX9_join_120 : decode cX9_join 120 = .ok (.istore_n 3, 1) := by decide +kernel
theorem dX9_join_121 : decode cX9_join 121 = .ok (.iload_n 3, 1) := by decide +kernel
theorem dX9_join_122 : decode cX9_join 122 = .ok (.aload_n 0, 1) := by decide +kernel
theorem dX9_join_123 : decode cX9_join 123 = .ok (.getfield 88, 3) := by decide +kernel
theorem dX9_join_126 : decode cX9_join 126 = .ok (.if_icmp .ge 78, 3) := by decide +kernel
theorem dX9_join_129 : decode cX9_join 129 = .ok (.iload_n 1, 1) := by decide +kernel
theorem dX9_join_130 : decode cX9_join 130 = .ok (.iload_n 3, 1) := by decide +kernel
theorem dX9_join_131 : decode cX9_join 131 = .ok (.ishr, 1) := by decide +kernel
theorem dX9_join_132 : decode cX9_join 132 = .ok (.iconst 1, 1) := by decide +kernel
theorem dX9_join_133 : decode cX9_join 133 = .ok (.iand, 1) := by decide +kernel
theorem dX9_join_134 : decode cX9_join 134 = .ok (.iconst 1, 1) := by decide +kernel
theorem dX9_join_135 : decode cX9_join 135 = .ok (.if_icmp .ne 63, 3) := by decide +kernel
theorem dX9_join_138 : decode cX9_join 138 = .ok (.aload_n 0, 1) := by decide +kernel
theorem dX9_join_139 : decode cX9_join 139 = .ok (.getfield 35, 3) := by decide +kernel
theorem dX9_join_142 : decode cX9_join 142 = .ok (.bipush 8, 2) := by decide +kernel
theorem dX9_join_144 : decode cX9_join 144 = .ok (.iload_n 2, 1) := by decide +kernel
theorem dX9_join_145 : decode cX9_join 145 = .ok (.imul, 1) := by decide +kernel
theorem dX9_join_146 : decode cX9_join 146 = .ok (.iload_n 3, 1) := by decide +kernel
theorem dX9_join_147 : decode cX9_join 147 = .ok (.iadd, 1) := by decide +kernel
theorem dX9_join_148 : decode cX9_join 148 = .ok (.iaload, 1) := by decide +kernel
theorem dX9_join_149 : decode cX9_join 149 = .ok (.iconst (-1), 1) := by decide +kernel
theorem dX9_join_150 : decode cX9_join 150 = .ok (.if_icmp .eq 48, 3) := by decide +kernel
theorem dX9_join_153 : decode cX9_join 153 = .ok (.aload_n 0, 1) := by decide +kernel
theorem dX9_join_154 : decode cX9_join 154 = .ok (.getfield 32, 3) := by decide +kernel
theorem dX9_join_157 : decode cX9_join 157 = .ok (.iload_n 1, 1) := by decide +kernel
theorem dX9_join_158 : decode cX9_join 158 = .ok (.aload_n 0, 1) := by decide +kernel
theorem dX9_join_159 : decode cX9_join 159 = .ok (.getfield 32, 3) := by decide +kernel
theorem dX9_join_162 : decode cX9_join 162 = .ok (.iload_n 1, 1) := by decide +kernel
theorem dX9_join_163 : decode cX9_join 163 = .ok (.iaload, 1) := by decide +kernel
theorem dX9_join_164 : decode cX9_join 164 = .ok (.aload_n 0, 1) := by decide +kernel
theorem dX9_join_165 : decode cX9_join 165 = .ok (.getfield 35, 3) := by decide +kernel
theorem dX9_join_168 : decode cX9_join 168 = .ok (.bipush 8, 2) := by decide +kernel
theorem dX9_join_170 : decode cX9_join 170 = .ok (.iload_n 2, 1) := by decide +kernel
theorem dX9_join_171 : decode cX9_join 171 = .ok (.imul, 1) := by decide +kernel
theorem dX9_join_172 : decode cX9_join 172 = .ok (.iload_n 3, 1) := by decide +kernel
theorem dX9_join_173 : decode cX9_join 173 = .ok (.iadd, 1) := by decide +kernel
theorem dX9_join_174 : decode cX9_join 174 = .ok (.iaload, 1) := by decide +kernel
theorem dX9_join_175 : decode cX9_join 175 = .ok (.aload_n 0, 1) := by decide +kernel
theorem dX9_join_176 : decode cX9_join 176 = .ok (.getfield 32, 3) := by decide +kernel
theorem dX9_join_179 : decode cX9_join 179 = .ok (.iload_n 1, 1) := by decide +kernel
theorem dX9_join_180 : decode cX9_join 180 = .ok (.iconst 1, 1) := by decide +kernel
theorem dX9_join_181 : decode cX9_join 181 = .ok (.iload_n 2, 1) := by decide +kernel
theorem dX9_join_182 : decode cX9_join 182 = .ok (.ishl, 1) := by decide +kernel
theorem dX9_join_183 : decode cX9_join 183 = .ok (.iconst (-1), 1) := by decide +kernel
theorem dX9_join_184 : decode cX9_join 184 = .ok (.ixor, 1) := by decide +kernel
theorem dX9_join_185 : decode cX9_join 185 = .ok (.iand, 1) := by decide +kernel
theorem dX9_join_186 : decode cX9_join 186 = .ok (.iconst 1, 1) := by decide +kernel
theorem dX9_join_187 : decode cX9_join 187 = .ok (.iload_n 3, 1) := by decide +kernel
theorem dX9_join_188 : decode cX9_join 188 = .ok (.ishl, 1) := by decide +kernel
theorem dX9_join_189 : decode cX9_join 189 = .ok (.iconst (-1), 1) := by decide +kernel
theorem dX9_join_190 : decode cX9_join 190 = .ok (.ixor, 1) := by decide +kernel
theorem dX9_join_191 : decode cX9_join 191 = .ok (.iand, 1) := by decide +kernel
theorem dX9_join_192 : decode cX9_join 192 = .ok (.iaload, 1) := by decide +kernel
theorem dX9_join_193 : decode cX9_join 193 = .ok (.iadd, 1) := by decide +kernel
theorem dX9_join_194 : decode cX9_join 194 = .ok (.invokestatic 132, 3) := by decide +kernel
theorem dX9_join_197 : decode cX9_join 197 = .ok (.iastore, 1) := by decide +kernel
theorem dX9_join_198 : decode cX9_join 198 = .ok (.iinc 3 1, 3) := by decide +kernel
theorem dX9_join_201 : decode cX9_join 201 = .ok (.goto (-80), 3) := by decide +kernel
theorem dX9_join_204 : decode cX9_join 204 = .ok (.iinc 1 1, 3) := by decide +kernel
theorem dX9_join_207 : decode cX9_join 207 = .ok (.goto (-111), 3) := by decide +kernel
theorem dX9_join_210 : decode cX9_join 210 = .ok (.aload_n 0, 1) := by decide +kernel
theorem dX9_join_211 : decode cX9_join 211 = .ok (.invokevirtual 153, 3) := by decide +kernel
theorem dX9_join_214 : decode cX9_join 214 = .ok (.aload_n 0, 1) := by decide +kernel
theorem dX9_join_215 : decode cX9_join 215 = .ok (.getfield 32, 3) := by decide +kernel
theorem dX9_join_218 : decode cX9_join 218 = .ok (.iconst 1, 1) := by decide +kernel
theorem dX9_join_219 : decode cX9_join 219 = .ok (.aload_n 0, 1) := by decide +kernel
theorem dX9_join_220 : decode cX9_join 220 = .ok (.getfield 88, 3) := by decide +kernel
theorem dX9_join_223 : decode cX9_join 223 = .ok (.ishl, 1) := by decide +kernel
theorem dX9_join_224 : decode cX9_join 224 = .ok (.iconst 1, 1) := by decide +kernel
theorem dX9_join_225 : decode cX9_join 225 = .ok (.isub, 1) := by decide +kernel
theorem dX9_join_226 : decode cX9_join 226 = .ok (.iaload, 1) := by decide +kernel
theorem dX9_join_227 : decode cX9_join 227 = .ok (.ireturn, 1) := by decide +kernel
theorem dX9_leaves_0 : decode cX9_leaves 0 = .ok (.iconst 1, 1) := by decide +kernel
theorem dX9_leaves_1 : decode cX9_leaves 1 = .ok (.aload_n 0, 1) := by decide +kernel
theorem dX9_leaves_2 : decode cX9_leaves 2 = .ok (.getfield 88, 3) := by decide +kernel
theorem dX9_leaves_5 : decode cX9_leaves 5 = .ok (.ishl, 1) := by decide +kernel
theorem dX9_leaves_6 : decode cX9_leaves 6 = .ok (.iconst 1, 1) := by decide +kernel
theorem dX9_leaves_7 : decode cX9_leaves 7 = .ok (.isub, 1) := by decide +kernel
theorem dX9_leaves_8 : decode cX9_leaves 8 = .ok (.istore_n 1, 1) := by decide +kernel
theorem dX9_leaves_9 : decode cX9_leaves 9 = .ok (.aload_n 0, 1) := by decide +kernel
theorem dX9_leaves_10 : decode cX9_leaves 10 = .ok (.iconst 1, 1) := by decide +kernel
theorem dX9_leaves_11 : decode cX9_leaves 11 = .ok (.putfield 84, 3) := by decide +kernel
theorem dX9_leaves_14 : decode cX9_leaves 14 = .ok (.aload_n 0, 1) := by decide +kernel
theorem dX9_leaves_15 : decode cX9_leaves 15 = .ok (.iconst 0, 1) := by decide +kernel
theorem dX9_leaves_16 : decode cX9_leaves 16 = .ok (.putfield 81, 3) := by decide +kernel
theorem dX9_leaves_19 : decode cX9_leaves 19 = .ok (.aload_n 0, 1) := by decide +kernel
theorem dX9_leaves_20 : decode cX9_leaves 20 = .ok (.aload_n 0, 1) := by decide +kernel
theorem dX9_leaves_21 : decode cX9_leaves 21 = .ok (.invokevirtual 106, 3) := by decide +kernel
theorem dX9_leaves_24 : decode cX9_leaves 24 = .ok (.putfield 156, 3) := by decide +kernel
theorem dX9_leaves_27 : decode cX9_leaves 27 = .ok (.iconst 0, 1) := by decide +kernel
theorem dX9_leaves_28 : decode cX9_leaves 28 = .ok (.istore_n 2, 1) := by decide +kernel
theorem dX9_leaves_29 : decode cX9_leaves 29 = .ok (.iload_n 2, 1) := by decide +kernel
theorem dX9_leaves_30 : decode cX9_leaves 30 = .ok (.sipush 128, 3) := by decide +kernel
theorem dX9_leaves_33 : decode cX9_leaves 33 = .ok (.if_icmp .ge 21, 3) := by decide +kernel
theorem dX9_leaves_36 : decode cX9_leaves 36 = .ok (.aload_n 0, 1) := by decide +kernel
theorem dX9_leaves_37 : decode cX9_leaves 37 = .ok (.getfield 53, 3) := by decide +kernel
theorem dX9_leaves_40 : decode cX9_leaves 40 = .ok (.iload_n 2, 1) := by decide +kernel
theorem dX9_leaves_41 : decode cX9_leaves 41 = .ok (.aload_n 0, 1) := by decide +kernel
theorem dX9_leaves_42 : decode cX9_leaves 42 = .ok (.getfield 29, 3) := by decide +kernel
theorem dX9_leaves_45 : decode cX9_leaves 45 = .ok (.iload_n 2, 1) := by decide +kernel
theorem dX9_leaves_46 : decode cX9_leaves 46 = .ok (.iaload, 1) := by decide +kernel
theorem dX9_leaves_47 : decode cX9_leaves 47 = .ok (.iastore, 1) := by decide +kernel
theorem dX9_leaves_48 : decode cX9_leaves 48 = .ok (.iinc 2 1, 3) := by decide +kernel
theorem dX9_leaves_51 : decode cX9_leaves 51 = .ok (.goto (-22), 3) := by decide +kernel
theorem dX9_leaves_54 : decode cX9_leaves 54 = .ok (.iconst 0, 1) := by decide +kernel
theorem dX9_leaves_55 : decode cX9_leaves 55 = .ok (.istore_n 2, 1) := by decide +kernel
theorem dX9_leaves_56 : decode cX9_leaves 56 = .ok (.iload_n 2, 1) := by decide +kernel
theorem dX9_leaves_57 : decode cX9_leaves 57 = .ok (.bipush 8, 2) := by decide +kernel
theorem dX9_leaves_59 : decode cX9_leaves 59 = .ok (.if_icmp .ge 28, 3) := by decide +kernel
theorem dX9_leaves_62 : decode cX9_leaves 62 = .ok (.aload_n 0, 1) := by decide +kernel
theorem dX9_leaves_63 : decode cX9_leaves 63 = .ok (.getfield 59, 3) := by decide +kernel
theorem dX9_leaves_66 : decode cX9_leaves 66 = .ok (.iload_n 2, 1) := by decide +kernel
theorem dX9_leaves_67 : decode cX9_leaves 67 = .ok (.iload_n 2, 1) := by decide +kernel
theorem dX9_leaves_68 : decode cX9_leaves 68 = .ok (.aload_n 0, 1) := by decide +kernel
theorem dX9_leaves_69 : decode cX9_leaves 69 = .ok (.getfield 88, 3) := by decide +kernel
theorem dX9_leaves_72 : decode cX9_leaves 72 = .ok (.if_icmp .ge 7, 3) := by decide +kernel
theorem dX9_leaves_75 : decode cX9_leaves 75 = .ok (.iconst 1, 1) := by decide +kernel
theorem dX9_leaves_76 : decode cX9_leaves 76 = .ok (.goto 4, 3) := by decide +kernel
theorem dX9_leaves_79 : decode cX9_leaves 79 = .ok (.iconst 0, 1) := by decide +kernel
theorem dX9_leaves_80 : decode cX9_leaves 80 = .ok (.bastore, 1) := by decide +kernel
theorem dX9_leaves_81 : decode cX9_leaves 81 = .ok (.iinc 2 1, 3) := by decide +kernel
theorem dX9_leaves_84 : decode cX9_leaves 84 = .ok (.goto (-28), 3) := by decide +kernel
theorem dX9_leaves_87 : decode cX9_leaves 87 = .ok (.iload_n 1, 1) := by decide +kernel
theorem dX9_leaves_88 : decode cX9_leaves 88 = .ok (.ifCond .eq 106, 3) := by decide +kernel
theorem dX9_leaves_91 : decode cX9_leaves 91 = .ok (.iload_n 1, 1) := by decide +kernel
theorem dX9_leaves_92 : decode cX9_leaves 92 = .ok (.invokestatic 148, 3) := by decide +kernel
theorem dX9_leaves_95 : decode cX9_leaves 95 = .ok (.istore_n 2, 1) := by decide +kernel
theorem dX9_leaves_96 : decode cX9_leaves 96 = .ok (.iload_n 2, 1) := by decide +kernel
theorem dX9_leaves_97 : decode cX9_leaves 97 = .ok (.istore_n 3, 1) := by decide +kernel
theorem dX9_leaves_98 : decode cX9_leaves 98 = .ok (.iload_n 1, 1) := by decide +kernel
theorem dX9_leaves_99 : decode cX9_leaves 99 = .ok (.iload_n 3, 1) := by decide +kernel
theorem dX9_leaves_100 : decode cX9_leaves 100 = .ok (.ishr, 1) := by decide +kernel
theorem dX9_leaves_101 : decode cX9_leaves 101 = .ok (.iconst 1, 1) := by decide +kernel
theorem dX9_leaves_102 : decode cX9_leaves 102 = .ok (.iand, 1) := by decide +kernel
theorem dX9_leaves_103 : decode cX9_leaves 103 = .ok (.ifCond .eq 57, 3) := by decide +kernel
theorem dX9_leaves_106 : decode cX9_leaves 106 = .ok (.aload_n 0, 1) := by decide +kernel
theorem dX9_leaves_107 : decode cX9_leaves 107 = .ok (.getfield 35, 3) := by decide +kernel
theorem dX9_leaves_110 : decode cX9_leaves 110 = .ok (.bipush 8, 2) := by decide +kernel
theorem dX9_leaves_112 : decode cX9_leaves 112 = .ok (.iload_n 2, 1) := by decide +kernel
theorem dX9_leaves_113 : decode cX9_leaves 113 = .ok (.imul, 1) := by decide +kernel
theorem dX9_leaves_114 : decode cX9_leaves 114 = .ok (.iload_n 3, 1) := by decide +kernel
theorem dX9_leaves_115 : decode cX9_leaves 115 = .ok (.iadd, 1) := by decide +kernel
theorem dX9_leaves_116 : decode cX9_leaves 116 = .ok (.iaload, 1) := by decide +kernel
theorem dX9_leaves_117 : decode cX9_leaves 117 = .ok (.iconst (-1), 1) := by decide +kernel
theorem dX9_leaves_118 : decode cX9_leaves 118 = .ok (.if_icmp .eq 42, 3) := by decide +kernel
theorem dX9_leaves_121 : decode cX9_leaves 121 = .ok (.aload_n 0, 1) := by decide +kernel
theorem dX9_leaves_122 : decode cX9_leaves 122 = .ok (.getfield 35, 3) := by decide +kernel
theorem dX9_leaves_125 : decode cX9_leaves 125 = .ok (.bipush 8, 2) := by decide +kernel
theorem dX9_leaves_127 : decode cX9_leaves 127 = .ok (.iload_n 2, 1) := by decide +kernel
theorem dX9_leaves_128 : decode cX9_leaves 128 = .ok (.imul, 1) := by decide +kernel
theorem dX9_leaves_129 : decode cX9_leaves 129 = .ok (.iload_n 3, 1) := by decide +kernel
theorem dX9_leaves_130 : decode cX9_leaves 130 = .ok (.iadd, 1) := by decide +kernel
theorem dX9_leaves_131 : decode cX9_leaves 131 = .ok (.iaload, 1) := by decide +kernel
theorem dX9_leaves_132 : decode cX9_leaves 132 = .ok (.aload_n 0, 1) := by decide +kernel
theorem dX9_leaves_133 : decode cX9_leaves 133 = .ok (.getfield 32, 3) := by decide +kernel
theorem dX9_leaves_136 : decode cX9_leaves 136 = .ok (.iload_n 1, 1) := by decide +kernel
theorem dX9_leaves_137 : decode cX9_leaves 137 = .ok (.iconst 1, 1) := by decide +kernel
theorem dX9_leaves_138 : decode cX9_leaves 138 = .ok (.iload_n 2, 1) := by decide +kernel
theorem dX9_leaves_139 : decode cX9_leaves 139 = .ok (.ishl, 1) := by decide +kernel
theorem dX9_leaves_140 : decode cX9_leaves 140 = .ok (.iconst (-1), 1) := by decide +kernel
theorem dX9_leaves_141 : decode cX9_leaves 141 = .ok (.ixor, 1) := by decide +kernel
theorem dX9_leaves_142 : decode cX9_leaves 142 = .ok (.iand, 1) := by decide +kernel
theorem dX9_leaves_143 : decode cX9_leaves 143 = .ok (.iconst 1, 1) := by decide +kernel
theorem dX9_leaves_144 : decode cX9_leaves 144 = .ok (.iload_n 3, 1) := by decide +kernel
theorem dX9_leaves_145 : decode cX9_leaves 145 = .ok (.ishl, 1) := by decide +kernel
theorem dX9_leaves_146 : decode cX9_leaves 146 = .ok (.iconst (-1), 1) := by decide +kernel
theorem dX9_leaves_147 : decode cX9_leaves 147 = .ok (.ixor, 1) := by decide +kernel
theorem dX9_leaves_148 : decode cX9_leaves 148 = .ok (.iand, 1) := by decide +kernel
theorem dX9_leaves_149 : decode cX9_leaves 149 = .ok (.iaload, 1) := by decide +kernel
theorem dX9_leaves_150 : decode cX9_leaves 150 = .ok (.iadd, 1) := by decide +kernel
theorem dX9_leaves_151 : decode cX9_leaves 151 = .ok (.aload_n 0, 1) := by decide +kernel
theorem dX9_leaves_152 : decode cX9_leaves 152 = .ok (.getfield 32, 3) := by decide +kernel
theorem dX9_leaves_155 : decode cX9_leaves 155 = .ok (.iload_n 1, 1) := by decide +kernel
theorem dX9_leaves_156 : decode cX9_leaves 156 = .ok (.iaload, 1) := by decide +kernel
theorem dX9_leaves_157 : decode cX9_leaves 157 = .ok (.if_icmp .eq 9, 3) := by decide +kernel
theorem dX9_leaves_160 : decode cX9_leaves 160 = .ok (.iinc 3 1, 3) := by decide +kernel
theorem dX9_leaves_163 : decode cX9_leaves 163 = .ok (.goto (-65), 3) := by decide +kernel
theorem dX9_leaves_166 : decode cX9_leaves 166 = .ok (.aload_n 0, 1) := by decide +kernel
theorem dX9_leaves_167 : decode cX9_leaves 167 = .ok (.iload_n 2, 1) := by decide +kernel
theorem dX9_leaves_168 : decode cX9_leaves 168 = .ok (.iload_n 3, 1) := by decide +kernel
theorem dX9_leaves_169 : decode cX9_leaves 169 = .ok (.invokevirtual 145, 3) := by decide +kernel
theorem dX9_leaves_172 : decode cX9_leaves 172 = .ok (.pop, 1) := by decide +kernel
theorem dX9_leaves_173 : decode cX9_leaves 173 = .ok (.aload_n 0, 1) := by decide +kernel
theorem dX9_leaves_174 : decode cX9_leaves 174 = .ok (.invokevirtual 159, 3) := by decide +kernel
theorem dX9_leaves_177 : decode cX9_leaves 177 = .ok (.iload_n 1, 1) := by decide +kernel
theorem dX9_leaves_178 : decode cX9_leaves 178 = .ok (.iconst 1, 1) := by decide +kernel
theorem dX9_leaves_179 : decode cX9_leaves 179 = .ok (.iload_n 2, 1) := by decide +kernel
theorem dX9_leaves_180 : decode cX9_leaves 180 = .ok (.ishl, 1) := by decide +kernel
theorem dX9_leaves_181 : decode cX9_leaves 181 = .ok (.iconst (-1), 1) := by decide +kernel
theorem dX9_leaves_182 : decode cX9_leaves 182 = .ok (.ixor, 1) := by decide +kernel
theorem dX9_leaves_183 : decode cX9_leaves 183 = .ok (.iconst 1, 1) := by decide +kernel
theorem dX9_leaves_184 : decode cX9_leaves 184 = .ok (.iload_n 3, 1) := by decide +kernel
theorem dX9_leaves_185 : decode cX9_leaves 185 = .ok (.ishl, 1) := by decide +kernel
theorem dX9_leaves_186 : decode cX9_leaves 186 = .ok (.iconst (-1), 1) := by decide +kernel
theorem dX9_leaves_187 : decode cX9_leaves 187 = .ok (.ixor, 1) := by decide +kernel
theorem dX9_leaves_188 : decode cX9_leaves 188 = .ok (.iand, 1) := by decide +kernel
theorem dX9_leaves_189 : decode cX9_leaves 189 = .ok (.iand, 1) := by decide +kernel
theorem dX9_leaves_190 : decode cX9_leaves 190 = .ok (.istore_n 1, 1) := by decide +kernel
theorem dX9_leaves_191 : decode cX9_leaves 191 = .ok (.goto (-104), 3) := by decide +kernel
theorem dX9_leaves_194 : decode cX9_leaves 194 = .ok (.aload_n 0, 1) := by decide +kernel
theorem dX9_leaves_195 : decode cX9_leaves 195 = .ok (.invokevirtual 162, 3) := by decide +kernel
theorem dX9_leaves_198 : decode cX9_leaves 198 = .ok (.return_, 1) := by decide +kernel
theorem dX9_comes_0 : decode cX9_comes 0 = .ok (.aload_n 0, 1) := by decide +kernel
theorem dX9_comes_1 : decode cX9_comes 1 = .ok (.getfield 38, 3) := by decide +kernel
theorem dX9_comes_4 : decode cX9_comes 4 = .ok (.aload_n 0, 1) := by decide +kernel
theorem dX9_comes_5 : decode cX9_comes 5 = .ok (.getfield 81, 3) := by decide +kernel
theorem dX9_comes_8 : decode cX9_comes 8 = .ok (.aload_n 0, 1) := by decide +kernel
theorem dX9_comes_9 : decode cX9_comes 9 = .ok (.getfield 126, 3) := by decide +kernel
theorem dX9_comes_12 : decode cX9_comes 12 = .ok (.iastore, 1) := by decide +kernel
theorem dX9_comes_13 : decode cX9_comes 13 = .ok (.aload_n 0, 1) := by decide +kernel
theorem dX9_comes_14 : decode cX9_comes 14 = .ok (.getfield 41, 3) := by decide +kernel
theorem dX9_comes_17 : decode cX9_comes 17 = .ok (.aload_n 0, 1) := by decide +kernel
theorem dX9_comes_18 : decode cX9_comes 18 = .ok (.getfield 81, 3) := by decide +kernel
theorem dX9_comes_21 : decode cX9_comes 21 = .ok (.aload_n 0, 1) := by decide +kernel
theorem dX9_comes_22 : decode cX9_comes 22 = .ok (.getfield 129, 3) := by decide +kernel
theorem dX9_comes_25 : decode cX9_comes 25 = .ok (.iastore, 1) := by decide +kernel
theorem dX9_comes_26 : decode cX9_comes 26 = .ok (.aload_n 0, 1) := by decide +kernel
theorem dX9_comes_27 : decode cX9_comes 27 = .ok (.getfield 44, 3) := by decide +kernel
theorem dX9_comes_30 : decode cX9_comes 30 = .ok (.aload_n 0, 1) := by decide +kernel
theorem dX9_comes_31 : decode cX9_comes 31 = .ok (.getfield 81, 3) := by decide +kernel
theorem dX9_comes_34 : decode cX9_comes 34 = .ok (.aload_n 0, 1) := by decide +kernel
theorem dX9_comes_35 : decode cX9_comes 35 = .ok (.getfield 123, 3) := by decide +kernel
theorem dX9_comes_38 : decode cX9_comes 38 = .ok (.iastore, 1) := by decide +kernel
theorem dX9_comes_39 : decode cX9_comes 39 = .ok (.aload_n 0, 1) := by decide +kernel
theorem dX9_comes_40 : decode cX9_comes 40 = .ok (.getfield 47, 3) := by decide +kernel
theorem dX9_comes_43 : decode cX9_comes 43 = .ok (.aload_n 0, 1) := by decide +kernel
theorem dX9_comes_44 : decode cX9_comes 44 = .ok (.getfield 81, 3) := by decide +kernel
theorem dX9_comes_47 : decode cX9_comes 47 = .ok (.aload_n 0, 1) := by decide +kernel
theorem dX9_comes_48 : decode cX9_comes 48 = .ok (.getfield 120, 3) := by decide +kernel
theorem dX9_comes_51 : decode cX9_comes 51 = .ok (.iastore, 1) := by decide +kernel
theorem dX9_comes_52 : decode cX9_comes 52 = .ok (.aload_n 0, 1) := by decide +kernel
theorem dX9_comes_53 : decode cX9_comes 53 = .ok (.getfield 50, 3) := by decide +kernel
theorem dX9_comes_56 : decode cX9_comes 56 = .ok (.aload_n 0, 1) := by decide +kernel
theorem dX9_comes_57 : decode cX9_comes 57 = .ok (.getfield 81, 3) := by decide +kernel
theorem dX9_comes_60 : decode cX9_comes 60 = .ok (.iconst 0, 1) := by decide +kernel
theorem dX9_comes_61 : decode cX9_comes 61 = .ok (.iastore, 1) := by decide +kernel
theorem dX9_comes_62 : decode cX9_comes 62 = .ok (.iconst 0, 1) := by decide +kernel
theorem dX9_comes_63 : decode cX9_comes 63 = .ok (.istore_n 1, 1) := by decide +kernel
theorem dX9_comes_64 : decode cX9_comes 64 = .ok (.iload_n 1, 1) := by decide +kernel
theorem dX9_comes_65 : decode cX9_comes 65 = .ok (.aload_n 0, 1) := by decide +kernel
theorem dX9_comes_66 : decode cX9_comes 66 = .ok (.invokevirtual 106, 3) := by decide +kernel
theorem dX9_comes_69 : decode cX9_comes 69 = .ok (.if_icmp .ge 46, 3) := by decide +kernel
theorem dX9_comes_72 : decode cX9_comes 72 = .ok (.aload_n 0, 1) := by decide +kernel
theorem dX9_comes_73 : decode cX9_comes 73 = .ok (.getfield 50, 3) := by decide +kernel
theorem dX9_comes_76 : decode cX9_comes 76 = .ok (.aload_n 0, 1) := by decide +kernel
theorem dX9_comes_77 : decode cX9_comes 77 = .ok (.getfield 81, 3) := by decide +kernel
theorem dX9_comes_80 : decode cX9_comes 80 = .ok (.dup2, 1) := by decide +kernel
theorem dX9_comes_81 : decode cX9_comes 81 = .ok (.iaload, 1) := by decide +kernel
theorem dX9_comes_82 : decode cX9_comes 82 = .ok (.aload_n 0, 1) := by decide +kernel
theorem dX9_comes_83 : decode cX9_comes 83 = .ok (.aload_n 0, 1) := by decide +kernel
theorem dX9_comes_84 : decode cX9_comes 84 = .ok (.getfield 126, 3) := by decide +kernel
theorem dX9_comes_87 : decode cX9_comes 87 = .ok (.aload_n 0, 1) := by decide +kernel
theorem dX9_comes_88 : decode cX9_comes 88 = .ok (.getfield 129, 3) := by decide +kernel
theorem dX9_comes_91 : decode cX9_comes 91 = .ok (.iload_n 1, 1) := by decide +kernel
theorem dX9_comes_92 : decode cX9_comes 92 = .ok (.invokevirtual 117, 3) := by decide +kernel
theorem dX9_comes_95 : decode cX9_comes 95 = .ok (.aload_n 0, 1) := by decide +kernel
theorem dX9_comes_96 : decode cX9_comes 96 = .ok (.getfield 120, 3) := by decide +kernel
theorem dX9_comes_99 : decode cX9_comes 99 = .ok (.if_icmp .gt 7, 3) := by decide +kernel
theorem dX9_comes_102 : decode cX9_comes 102 = .ok (.iconst 1, 1) := by decide +kernel
theorem dX9_comes_103 : decode cX9_comes 103 = .ok (.goto 4, 3) := by decide +kernel
theorem dX9_comes_106 : decode cX9_comes 106 = .ok (.iconst 0, 1) := by decide +kernel
theorem dX9_comes_107 : decode cX9_comes 107 = .ok (.iadd, 1) := by decide +kernel
theorem dX9_comes_108 : decode cX9_comes 108 = .ok (.iastore, 1) := by decide +kernel
theorem dX9_comes_109 : decode cX9_comes 109 = .ok (.iinc 1 1, 3) := by decide +kernel
theorem dX9_comes_112 : decode cX9_comes 112 = .ok (.goto (-48), 3) := by decide +kernel
theorem dX9_comes_115 : decode cX9_comes 115 = .ok (.iconst 0, 1) := by decide +kernel
theorem dX9_comes_116 : decode cX9_comes 116 = .ok (.istore_n 1, 1) := by decide +kernel
theorem dX9_comes_117 : decode cX9_comes 117 = .ok (.iload_n 1, 1) := by decide +kernel
theorem dX9_comes_118 : decode cX9_comes 118 = .ok (.bipush 16, 2) := by decide +kernel
theorem dX9_comes_120 : decode cX9_comes 120 = .ok (.if_icmp .ge 73, 3) := by decide +kernel
theorem dX9_comes_123 : decode cX9_comes 123 = .ok (.aload_n 0, 1) := by decide +kernel
theorem dX9_comes_124 : decode cX9_comes 124 = .ok (.getfield 126, 3) := by decide +kernel
theorem dX9_comes_127 : decode cX9_comes 127 = .ok (.iconst (-1), 1) := by decide +kernel
theorem dX9_comes_128 : decode cX9_comes 128 = .ok (.if_icmp .eq 27, 3) := by decide +kernel
theorem dX9_comes_131 : decode cX9_comes 131 = .ok (.aload_n 0, 1) := by decide +kernel
theorem dX9_comes_132 : decode cX9_comes 132 = .ok (.getfield 56, 3) := by decide +kernel
theorem dX9_comes_135 : decode cX9_comes 135 = .ok (.bipush 16, 2) := by decide +kernel
theorem dX9_comes_137 : decode cX9_comes 137 = .ok (.aload_n 0, 1) := by decide +kernel
theorem dX9_comes_138 : decode cX9_comes 138 = .ok (.getfield 126, 3) := by decide +kernel
theorem dX9_comes_141 : decode cX9_comes 141 = .ok (.imul, 1) := by decide +kernel
theorem dX9_comes_142 : decode cX9_comes 142 = .ok (.iload_n 1, 1) := by decide +kernel
theorem dX9_comes_143 : decode cX9_comes 143 = .ok (.iadd, 1) := by decide +kernel
theorem dX9_comes_144 : decode cX9_comes 144 = .ok (.aload_n 0, 1) := by decide +kernel
theorem dX9_comes_145 : decode cX9_comes 145 = .ok (.iconst 0, 1) := by decide +kernel
theorem dX9_comes_146 : decode cX9_comes 146 = .ok (.aload_n 0, 1) := by decide +kernel
theorem dX9_comes_147 : decode cX9_comes 147 = .ok (.getfield 123, 3) := by decide +kernel
theorem dX9_comes_150 : decode cX9_comes 150 = .ok (.iload_n 1, 1) := by decide +kernel
end
section
theorem dX9_comes_151 : decode cX9_comes 151 = .ok (.invokevirtual 103, 3) := by decide +kernel
theorem dX9_comes_154 : decode cX9_comes 154 = .ok (.iastore, 1) := by decide +kernel
theorem dX9_comes_155 : decode cX9_comes 155 = .ok (.aload_n 0, 1) := by decide +kernel
theorem dX9_comes_156 : decode cX9_comes 156 = .ok (.getfield 129, 3) := by decide +kernel
theorem dX9_comes_159 : decode cX9_comes 159 = .ok (.iconst (-1), 1) := by decide +kernel
theorem dX9_comes_160 : decode cX9_comes 160 = .ok (.if_icmp .eq 27, 3) := by decide +kernel
theorem dX9_comes_163 : decode cX9_comes 163 = .ok (.aload_n 0, 1) := by decide +kernel
theorem dX9_comes_164 : decode cX9_comes 164 = .ok (.getfield 56, 3) := by decide +kernel
theorem dX9_comes_167 : decode cX9_comes 167 = .ok (.bipush 16, 2) := by decide +kernel
theorem dX9_comes_169 : decode cX9_comes 169 = .ok (.aload_n 0, 1) := by decide +kernel
theorem dX9_comes_170 : decode cX9_comes 170 = .ok (.getfield 129, 3) := by decide +kernel
theorem dX9_comes_173 : decode cX9_comes 173 = .ok (.imul, 1) := by decide +kernel
theorem dX9_comes_174 : decode cX9_comes 174 = .ok (.iload_n 1, 1) := by decide +kernel
theorem dX9_comes_175 : decode cX9_comes 175 = .ok (.iadd, 1) := by decide +kernel
theorem dX9_comes_176 : decode cX9_comes 176 = .ok (.aload_n 0, 1) := by decide +kernel
theorem dX9_comes_177 : decode cX9_comes 177 = .ok (.iconst 1, 1) := by decide +kernel
theorem dX9_comes_178 : decode cX9_comes 178 = .ok (.aload_n 0, 1) := by decide +kernel
theorem dX9_comes_179 : decode cX9_comes 179 = .ok (.getfield 123, 3) := by decide +kernel
theorem dX9_comes_182 : decode cX9_comes 182 = .ok (.iload_n 1, 1) := by decide +kernel
theorem dX9_comes_183 : decode cX9_comes 183 = .ok (.invokevirtual 103, 3) := by decide +kernel
theorem dX9_comes_186 : decode cX9_comes 186 = .ok (.iastore, 1) := by decide +kernel
theorem dX9_comes_187 : decode cX9_comes 187 = .ok (.iinc 1 1, 3) := by decide +kernel
theorem dX9_comes_190 : decode cX9_comes 190 = .ok (.goto (-73), 3) := by decide +kernel
theorem dX9_comes_193 : decode cX9_comes 193 = .ok (.aload_n 0, 1) := by decide +kernel
theorem dX9_comes_194 : decode cX9_comes 194 = .ok (.dup, 1) := by decide +kernel
theorem dX9_comes_195 : decode cX9_comes 195 = .ok (.getfield 81, 3) := by decide +kernel
theorem dX9_comes_198 : decode cX9_comes 198 = .ok (.iconst 1, 1) := by decide +kernel
theorem dX9_comes_199 : decode cX9_comes 199 = .ok (.iadd, 1) := by decide +kernel
theorem dX9_comes_200 : decode cX9_comes 200 = .ok (.putfield 81, 3) := by decide +kernel
theorem dX9_comes_203 : decode cX9_comes 203 = .ok (.return_, 1) := by decide +kernel
theorem dX9_orders_0 : decode cX9_orders 0 = .ok (.iconst 0, 1) := by decide +kernel
theorem dX9_orders_1 : decode cX9_orders 1 = .ok (.istore_n 1, 1) := by decide +kernel
theorem dX9_orders_2 : decode cX9_orders 2 = .ok (.iload_n 1, 1) := by decide +kernel
theorem dX9_orders_3 : decode cX9_orders 3 = .ok (.aload_n 0, 1) := by decide +kernel
theorem dX9_orders_4 : decode cX9_orders 4 = .ok (.getfield 81, 3) := by decide +kernel
theorem dX9_orders_7 : decode cX9_orders 7 = .ok (.if_icmp .ge 64, 3) := by decide +kernel
theorem dX9_orders_10 : decode cX9_orders 10 = .ok (.iload_n 1, 1) := by decide +kernel
theorem dX9_orders_11 : decode cX9_orders 11 = .ok (.istore_n 2, 1) := by decide +kernel
theorem dX9_orders_12 : decode cX9_orders 12 = .ok (.iload_n 2, 1) := by decide +kernel
theorem dX9_orders_13 : decode cX9_orders 13 = .ok (.ifCond .le 45, 3) := by decide +kernel
theorem dX9_orders_16 : decode cX9_orders 16 = .ok (.aload_n 0, 1) := by decide +kernel
theorem dX9_orders_17 : decode cX9_orders 17 = .ok (.getfield 44, 3) := by decide +kernel
theorem dX9_orders_20 : decode cX9_orders 20 = .ok (.aload_n 0, 1) := by decide +kernel
theorem dX9_orders_21 : decode cX9_orders 21 = .ok (.getfield 63, 3) := by decide +kernel
theorem dX9_orders_24 : decode cX9_orders 24 = .ok (.iload_n 2, 1) := by decide +kernel
theorem dX9_orders_25 : decode cX9_orders 25 = .ok (.iconst 1, 1) := by decide +kernel
theorem dX9_orders_26 : decode cX9_orders 26 = .ok (.isub, 1) := by decide +kernel
theorem dX9_orders_27 : decode cX9_orders 27 = .ok (.iaload, 1) := by decide +kernel
theorem dX9_orders_28 : decode cX9_orders 28 = .ok (.iaload, 1) := by decide +kernel
theorem dX9_orders_29 : decode cX9_orders 29 = .ok (.aload_n 0, 1) := by decide +kernel
theorem dX9_orders_30 : decode cX9_orders 30 = .ok (.getfield 44, 3) := by decide +kernel
theorem dX9_orders_33 : decode cX9_orders 33 = .ok (.iload_n 1, 1) := by decide +kernel
theorem dX9_orders_34 : decode cX9_orders 34 = .ok (.iaload, 1) := by decide +kernel
theorem dX9_orders_35 : decode cX9_orders 35 = .ok (.if_icmp .le 23, 3) := by decide +kernel
theorem dX9_orders_38 : decode cX9_orders 38 = .ok (.aload_n 0, 1) := by decide +kernel
theorem dX9_orders_39 : decode cX9_orders 39 = .ok (.getfield 63, 3) := by decide +kernel
theorem dX9_orders_42 : decode cX9_orders 42 = .ok (.iload_n 2, 1) := by decide +kernel
theorem dX9_orders_43 : decode cX9_orders 43 = .ok (.aload_n 0, 1) := by decide +kernel
theorem dX9_orders_44 : decode cX9_orders 44 = .ok (.getfield 63, 3) := by decide +kernel
theorem dX9_orders_47 : decode cX9_orders 47 = .ok (.iload_n 2, 1) := by decide +kernel
theorem dX9_orders_48 : decode cX9_orders 48 = .ok (.iconst 1, 1) := by decide +kernel
theorem dX9_orders_49 : decode cX9_orders 49 = .ok (.isub, 1) := by decide +kernel
theorem dX9_orders_50 : decode cX9_orders 50 = .ok (.iaload, 1) := by decide +kernel
theorem dX9_orders_51 : decode cX9_orders 51 = .ok (.iastore, 1) := by decide +kernel
theorem dX9_orders_52 : decode cX9_orders 52 = .ok (.iinc 2 (-1), 3) := by decide +kernel
theorem dX9_orders_55 : decode cX9_orders 55 = .ok (.goto (-43), 3) := by decide +kernel
theorem dX9_orders_58 : decode cX9_orders 58 = .ok (.aload_n 0, 1) := by decide +kernel
theorem dX9_orders_59 : decode cX9_orders 59 = .ok (.getfield 63, 3) := by decide +kernel
theorem dX9_orders_62 : decode cX9_orders 62 = .ok (.iload_n 2, 1) := by decide +kernel
theorem dX9_orders_63 : decode cX9_orders 63 = .ok (.iload_n 1, 1) := by decide +kernel
theorem dX9_orders_64 : decode cX9_orders 64 = .ok (.iastore, 1) := by decide +kernel
theorem dX9_orders_65 : decode cX9_orders 65 = .ok (.iinc 1 1, 3) := by decide +kernel
theorem dX9_orders_68 : decode cX9_orders 68 = .ok (.goto (-66), 3) := by decide +kernel
theorem dX9_orders_71 : decode cX9_orders 71 = .ok (.return_, 1) := by decide +kernel
theorem dX9_leaf_0 : decode cX9_leaf 0 = .ok (.aload_n 0, 1) := by decide +kernel
theorem dX9_leaf_1 : decode cX9_leaf 1 = .ok (.iconst 0, 1) := by decide +kernel
theorem dX9_leaf_2 : decode cX9_leaf 2 = .ok (.putfield 69, 3) := by decide +kernel
theorem dX9_leaf_5 : decode cX9_leaf 5 = .ok (.iload_n 1, 1) := by decide +kernel
theorem dX9_leaf_6 : decode cX9_leaf 6 = .ok (.ifCond .lt 11, 3) := by decide +kernel
theorem dX9_leaf_9 : decode cX9_leaf 9 = .ok (.iload_n 1, 1) := by decide +kernel
theorem dX9_leaf_10 : decode cX9_leaf 10 = .ok (.aload_n 0, 1) := by decide +kernel
theorem dX9_leaf_11 : decode cX9_leaf 11 = .ok (.getfield 81, 3) := by decide +kernel
theorem dX9_leaf_14 : decode cX9_leaf 14 = .ok (.if_icmp .lt 5, 3) := by decide +kernel
theorem dX9_leaf_17 : decode cX9_leaf 17 = .ok (.iconst (-1), 1) := by decide +kernel
theorem dX9_leaf_18 : decode cX9_leaf 18 = .ok (.ireturn, 1) := by decide +kernel
theorem dX9_leaf_19 : decode cX9_leaf 19 = .ok (.iload_n 2, 1) := by decide +kernel
theorem dX9_leaf_20 : decode cX9_leaf 20 = .ok (.tableswitch 80 0 5 #[40, 47, 54, 61, 68, 75], 40) := by decide +kernel
theorem dX9_leaf_60 : decode cX9_leaf 60 = .ok (.aload_n 0, 1) := by decide +kernel
theorem dX9_leaf_61 : decode cX9_leaf 61 = .ok (.getfield 38, 3) := by decide +kernel
theorem dX9_leaf_64 : decode cX9_leaf 64 = .ok (.iload_n 1, 1) := by decide +kernel
theorem dX9_leaf_65 : decode cX9_leaf 65 = .ok (.iaload, 1) := by decide +kernel
theorem dX9_leaf_66 : decode cX9_leaf 66 = .ok (.ireturn, 1) := by decide +kernel
theorem dX9_leaf_67 : decode cX9_leaf 67 = .ok (.aload_n 0, 1) := by decide +kernel
theorem dX9_leaf_68 : decode cX9_leaf 68 = .ok (.getfield 41, 3) := by decide +kernel
theorem dX9_leaf_71 : decode cX9_leaf 71 = .ok (.iload_n 1, 1) := by decide +kernel
theorem dX9_leaf_72 : decode cX9_leaf 72 = .ok (.iaload, 1) := by decide +kernel
theorem dX9_leaf_73 : decode cX9_leaf 73 = .ok (.ireturn, 1) := by decide +kernel
theorem dX9_leaf_74 : decode cX9_leaf 74 = .ok (.aload_n 0, 1) := by decide +kernel
theorem dX9_leaf_75 : decode cX9_leaf 75 = .ok (.getfield 44, 3) := by decide +kernel
theorem dX9_leaf_78 : decode cX9_leaf 78 = .ok (.iload_n 1, 1) := by decide +kernel
theorem dX9_leaf_79 : decode cX9_leaf 79 = .ok (.iaload, 1) := by decide +kernel
theorem dX9_leaf_80 : decode cX9_leaf 80 = .ok (.ireturn, 1) := by decide +kernel
theorem dX9_leaf_81 : decode cX9_leaf 81 = .ok (.aload_n 0, 1) := by decide +kernel
theorem dX9_leaf_82 : decode cX9_leaf 82 = .ok (.getfield 47, 3) := by decide +kernel
theorem dX9_leaf_85 : decode cX9_leaf 85 = .ok (.iload_n 1, 1) := by decide +kernel
theorem dX9_leaf_86 : decode cX9_leaf 86 = .ok (.iaload, 1) := by decide +kernel
theorem dX9_leaf_87 : decode cX9_leaf 87 = .ok (.ireturn, 1) := by decide +kernel
theorem dX9_leaf_88 : decode cX9_leaf 88 = .ok (.aload_n 0, 1) := by decide +kernel
theorem dX9_leaf_89 : decode cX9_leaf 89 = .ok (.getfield 50, 3) := by decide +kernel
theorem dX9_leaf_92 : decode cX9_leaf 92 = .ok (.iload_n 1, 1) := by decide +kernel
theorem dX9_leaf_93 : decode cX9_leaf 93 = .ok (.iaload, 1) := by decide +kernel
theorem dX9_leaf_94 : decode cX9_leaf 94 = .ok (.ireturn, 1) := by decide +kernel
theorem dX9_leaf_95 : decode cX9_leaf 95 = .ok (.aload_n 0, 1) := by decide +kernel
theorem dX9_leaf_96 : decode cX9_leaf 96 = .ok (.getfield 156, 3) := by decide +kernel
theorem dX9_leaf_99 : decode cX9_leaf 99 = .ok (.ireturn, 1) := by decide +kernel
theorem dX9_leaf_100 : decode cX9_leaf 100 = .ok (.iconst (-1), 1) := by decide +kernel
theorem dX9_leaf_101 : decode cX9_leaf 101 = .ok (.ireturn, 1) := by decide +kernel
theorem dX9_between_0 : decode cX9_between 0 = .ok (.aload_n 0, 1) := by decide +kernel
theorem dX9_between_1 : decode cX9_between 1 = .ok (.getfield 44, 3) := by decide +kernel
theorem dX9_between_4 : decode cX9_between 4 = .ok (.aload_n 0, 1) := by decide +kernel
theorem dX9_between_5 : decode cX9_between 5 = .ok (.getfield 63, 3) := by decide +kernel
theorem dX9_between_8 : decode cX9_between 8 = .ok (.iload_n 1, 1) := by decide +kernel
theorem dX9_between_9 : decode cX9_between 9 = .ok (.iconst 1, 1) := by decide +kernel
theorem dX9_between_10 : decode cX9_between 10 = .ok (.iadd, 1) := by decide +kernel
theorem dX9_between_11 : decode cX9_between 11 = .ok (.iaload, 1) := by decide +kernel
theorem dX9_between_12 : decode cX9_between 12 = .ok (.iaload, 1) := by decide +kernel
theorem dX9_between_13 : decode cX9_between 13 = .ok (.aload_n 0, 1) := by decide +kernel
theorem dX9_between_14 : decode cX9_between 14 = .ok (.getfield 44, 3) := by decide +kernel
theorem dX9_between_17 : decode cX9_between 17 = .ok (.aload_n 0, 1) := by decide +kernel
theorem dX9_between_18 : decode cX9_between 18 = .ok (.getfield 63, 3) := by decide +kernel
theorem dX9_between_21 : decode cX9_between 21 = .ok (.iload_n 1, 1) := by decide +kernel
theorem dX9_between_22 : decode cX9_between 22 = .ok (.iaload, 1) := by decide +kernel
theorem dX9_between_23 : decode cX9_between 23 = .ok (.iaload, 1) := by decide +kernel
theorem dX9_between_24 : decode cX9_between 24 = .ok (.isub, 1) := by decide +kernel
theorem dX9_between_25 : decode cX9_between 25 = .ok (.bipush 32, 2) := by decide +kernel
theorem dX9_between_27 : decode cX9_between 27 = .ok (.isub, 1) := by decide +kernel
theorem dX9_between_28 : decode cX9_between 28 = .ok (.ireturn, 1) := by decide +kernel
theorem dX9_lostBehind_0 : decode cX9_lostBehind 0 = .ok (.aload_n 0, 1) := by decide +kernel
theorem dX9_lostBehind_1 : decode cX9_lostBehind 1 = .ok (.iload_n 1, 1) := by decide +kernel
theorem dX9_lostBehind_2 : decode cX9_lostBehind 2 = .ok (.invokevirtual 165, 3) := by decide +kernel
theorem dX9_lostBehind_5 : decode cX9_lostBehind 5 = .ok (.istore_n 2, 1) := by decide +kernel
theorem dX9_lostBehind_6 : decode cX9_lostBehind 6 = .ok (.iload_n 2, 1) := by decide +kernel
theorem dX9_lostBehind_7 : decode cX9_lostBehind 7 = .ok (.ifCond .lt 10, 3) := by decide +kernel
theorem dX9_lostBehind_10 : decode cX9_lostBehind 10 = .ok (.iload_n 2, 1) := by decide +kernel
theorem dX9_lostBehind_11 : decode cX9_lostBehind 11 = .ok (.bipush 32, 2) := by decide +kernel
theorem dX9_lostBehind_13 : decode cX9_lostBehind 13 = .ok (.irem, 1) := by decide +kernel
theorem dX9_lostBehind_14 : decode cX9_lostBehind 14 = .ok (.ifCond .eq 7, 3) := by decide +kernel
theorem dX9_lostBehind_17 : decode cX9_lostBehind 17 = .ok (.iconst (-1), 1) := by decide +kernel
theorem dX9_lostBehind_18 : decode cX9_lostBehind 18 = .ok (.goto 7, 3) := by decide +kernel
theorem dX9_lostBehind_21 : decode cX9_lostBehind 21 = .ok (.iload_n 2, 1) := by decide +kernel
theorem dX9_lostBehind_22 : decode cX9_lostBehind 22 = .ok (.bipush 32, 2) := by decide +kernel
theorem dX9_lostBehind_24 : decode cX9_lostBehind 24 = .ok (.idiv, 1) := by decide +kernel
theorem dX9_lostBehind_25 : decode cX9_lostBehind 25 = .ok (.ireturn, 1) := by decide +kernel
theorem dX9_sideOf_0 : decode cX9_sideOf 0 = .ok (.aload_n 0, 1) := by decide +kernel
theorem dX9_sideOf_1 : decode cX9_sideOf 1 = .ok (.getfield 23, 3) := by decide +kernel
theorem dX9_sideOf_4 : decode cX9_sideOf 4 = .ok (.aload_n 0, 1) := by decide +kernel
theorem dX9_sideOf_5 : decode cX9_sideOf 5 = .ok (.getfield 38, 3) := by decide +kernel
theorem dX9_sideOf_8 : decode cX9_sideOf 8 = .ok (.iload_n 1, 1) := by decide +kernel
theorem dX9_sideOf_9 : decode cX9_sideOf 9 = .ok (.iaload, 1) := by decide +kernel
theorem dX9_sideOf_10 : decode cX9_sideOf 10 = .ok (.iconst (-1), 1) := by decide +kernel
theorem dX9_sideOf_11 : decode cX9_sideOf 11 = .ok (.if_icmp .ne 12, 3) := by decide +kernel
theorem dX9_sideOf_14 : decode cX9_sideOf 14 = .ok (.aload_n 0, 1) := by decide +kernel
theorem dX9_sideOf_15 : decode cX9_sideOf 15 = .ok (.getfield 41, 3) := by decide +kernel
theorem dX9_sideOf_18 : decode cX9_sideOf 18 = .ok (.iload_n 1, 1) := by decide +kernel
theorem dX9_sideOf_19 : decode cX9_sideOf 19 = .ok (.iaload, 1) := by decide +kernel
theorem dX9_sideOf_20 : decode cX9_sideOf 20 = .ok (.goto 9, 3) := by decide +kernel
theorem dX9_sideOf_23 : decode cX9_sideOf 23 = .ok (.aload_n 0, 1) := by decide +kernel
theorem dX9_sideOf_24 : decode cX9_sideOf 24 = .ok (.getfield 38, 3) := by decide +kernel
theorem dX9_sideOf_27 : decode cX9_sideOf 27 = .ok (.iload_n 1, 1) := by decide +kernel
theorem dX9_sideOf_28 : decode cX9_sideOf 28 = .ok (.iaload, 1) := by decide +kernel
theorem dX9_sideOf_29 : decode cX9_sideOf 29 = .ok (.iaload, 1) := by decide +kernel
theorem dX9_sideOf_30 : decode cX9_sideOf 30 = .ok (.ireturn, 1) := by decide +kernel
theorem dX9_breaks_0 : decode cX9_breaks 0 = .ok (.aload_n 0, 1) := by decide +kernel
theorem dX9_breaks_1 : decode cX9_breaks 1 = .ok (.iload_n 1, 1) := by decide +kernel
theorem dX9_breaks_2 : decode cX9_breaks 2 = .ok (.invokevirtual 165, 3) := by decide +kernel
theorem dX9_breaks_5 : decode cX9_breaks 5 = .ok (.ifCond .ne 34, 3) := by decide +kernel
theorem dX9_breaks_8 : decode cX9_breaks 8 = .ok (.iconst 1, 1) := by decide +kernel
theorem dX9_breaks_9 : decode cX9_breaks 9 = .ok (.aload_n 0, 1) := by decide +kernel
theorem dX9_breaks_10 : decode cX9_breaks 10 = .ok (.aload_n 0, 1) := by decide +kernel
theorem dX9_breaks_11 : decode cX9_breaks 11 = .ok (.getfield 63, 3) := by decide +kernel
theorem dX9_breaks_14 : decode cX9_breaks 14 = .ok (.iload_n 1, 1) := by decide +kernel
theorem dX9_breaks_15 : decode cX9_breaks 15 = .ok (.iaload, 1) := by decide +kernel
theorem dX9_breaks_16 : decode cX9_breaks 16 = .ok (.invokevirtual 168, 3) := by decide +kernel
theorem dX9_breaks_19 : decode cX9_breaks 19 = .ok (.isub, 1) := by decide +kernel
theorem dX9_breaks_20 : decode cX9_breaks 20 = .ok (.aload_n 0, 1) := by decide +kernel
theorem dX9_breaks_21 : decode cX9_breaks 21 = .ok (.aload_n 0, 1) := by decide +kernel
theorem dX9_breaks_22 : decode cX9_breaks 22 = .ok (.getfield 63, 3) := by decide +kernel
theorem dX9_breaks_25 : decode cX9_breaks 25 = .ok (.iload_n 1, 1) := by decide +kernel
theorem dX9_breaks_26 : decode cX9_breaks 26 = .ok (.iconst 1, 1) := by decide +kernel
theorem dX9_breaks_27 : decode cX9_breaks 27 = .ok (.iadd, 1) := by decide +kernel
theorem dX9_breaks_28 : decode cX9_breaks 28 = .ok (.iaload, 1) := by decide +kernel
theorem dX9_breaks_29 : decode cX9_breaks 29 = .ok (.invokevirtual 168, 3) := by decide +kernel
theorem dX9_breaks_32 : decode cX9_breaks 32 = .ok (.if_icmp .eq 7, 3) := by decide +kernel
theorem dX9_breaks_35 : decode cX9_breaks 35 = .ok (.iconst 1, 1) := by decide +kernel
theorem dX9_breaks_36 : decode cX9_breaks 36 = .ok (.goto 4, 3) := by decide +kernel
theorem dX9_breaks_39 : decode cX9_breaks 39 = .ok (.iconst 0, 1) := by decide +kernel
theorem dX9_breaks_40 : decode cX9_breaks 40 = .ok (.ireturn, 1) := by decide +kernel
theorem dX9_book_0 : decode cX9_book 0 = .ok (.aload_n 0, 1) := by decide +kernel
theorem dX9_book_1 : decode cX9_book 1 = .ok (.iconst 0, 1) := by decide +kernel
theorem dX9_book_2 : decode cX9_book 2 = .ok (.putfield 69, 3) := by decide +kernel
theorem dX9_book_5 : decode cX9_book 5 = .ok (.iload_n 1, 1) := by decide +kernel
theorem dX9_book_6 : decode cX9_book 6 = .ok (.ifCond .lt 11, 3) := by decide +kernel
theorem dX9_book_9 : decode cX9_book 9 = .ok (.iload_n 1, 1) := by decide +kernel
theorem dX9_book_10 : decode cX9_book 10 = .ok (.aload_n 0, 1) := by decide +kernel
theorem dX9_book_11 : decode cX9_book 11 = .ok (.getfield 81, 3) := by decide +kernel
theorem dX9_book_14 : decode cX9_book 14 = .ok (.if_icmp .lt 5, 3) := by decide +kernel
theorem dX9_book_17 : decode cX9_book 17 = .ok (.iconst (-1), 1) := by decide +kernel
theorem dX9_book_18 : decode cX9_book 18 = .ok (.ireturn, 1) := by decide +kernel
theorem dX9_book_19 : decode cX9_book 19 = .ok (.iload_n 2, 1) := by decide +kernel
theorem dX9_book_20 : decode cX9_book 20 = .ok (.tableswitch 79 0 2 #[28, 35, 55], 28) := by decide +kernel
theorem dX9_book_48 : decode cX9_book 48 = .ok (.aload_n 0, 1) := by decide +kernel
theorem dX9_book_49 : decode cX9_book 49 = .ok (.getfield 63, 3) := by decide +kernel
theorem dX9_book_52 : decode cX9_book 52 = .ok (.iload_n 1, 1) := by decide +kernel
theorem dX9_book_53 : decode cX9_book 53 = .ok (.iaload, 1) := by decide +kernel
theorem dX9_book_54 : decode cX9_book 54 = .ok (.ireturn, 1) := by decide +kernel
theorem dX9_book_55 : decode cX9_book 55 = .ok (.iload_n 1, 1) := by decide +kernel
theorem dX9_book_56 : decode cX9_book 56 = .ok (.aload_n 0, 1) := by decide +kernel
theorem dX9_book_57 : decode cX9_book 57 = .ok (.getfield 81, 3) := by decide +kernel
theorem dX9_book_60 : decode cX9_book 60 = .ok (.iconst 1, 1) := by decide +kernel
theorem dX9_book_61 : decode cX9_book 61 = .ok (.isub, 1) := by decide +kernel
theorem dX9_book_62 : decode cX9_book 62 = .ok (.if_icmp .ne 7, 3) := by decide +kernel
theorem dX9_book_65 : decode cX9_book 65 = .ok (.iconst (-1), 1) := by decide +kernel
theorem dX9_book_66 : decode cX9_book 66 = .ok (.goto 8, 3) := by decide +kernel
theorem dX9_book_69 : decode cX9_book 69 = .ok (.aload_n 0, 1) := by decide +kernel
theorem dX9_book_70 : decode cX9_book 70 = .ok (.iload_n 1, 1) := by decide +kernel
theorem dX9_book_71 : decode cX9_book 71 = .ok (.invokevirtual 171, 3) := by decide +kernel
theorem dX9_book_74 : decode cX9_book 74 = .ok (.ireturn, 1) := by decide +kernel
theorem dX9_book_75 : decode cX9_book 75 = .ok (.iload_n 1, 1) := by decide +kernel
theorem dX9_book_76 : decode cX9_book 76 = .ok (.aload_n 0, 1) := by decide +kernel
theorem dX9_book_77 : decode cX9_book 77 = .ok (.getfield 81, 3) := by decide +kernel
theorem dX9_book_80 : decode cX9_book 80 = .ok (.iconst 1, 1) := by decide +kernel
theorem dX9_book_81 : decode cX9_book 81 = .ok (.isub, 1) := by decide +kernel
theorem dX9_book_82 : decode cX9_book 82 = .ok (.if_icmp .ge 15, 3) := by decide +kernel
theorem dX9_book_85 : decode cX9_book 85 = .ok (.aload_n 0, 1) := by decide +kernel
theorem dX9_book_86 : decode cX9_book 86 = .ok (.iload_n 1, 1) := by decide +kernel
theorem dX9_book_87 : decode cX9_book 87 = .ok (.invokevirtual 174, 3) := by decide +kernel
theorem dX9_book_90 : decode cX9_book 90 = .ok (.ifCond .eq 7, 3) := by decide +kernel
theorem dX9_book_93 : decode cX9_book 93 = .ok (.iconst 1, 1) := by decide +kernel
theorem dX9_book_94 : decode cX9_book 94 = .ok (.goto 4, 3) := by decide +kernel
theorem dX9_book_97 : decode cX9_book 97 = .ok (.iconst 0, 1) := by decide +kernel
theorem dX9_book_98 : decode cX9_book 98 = .ok (.ireturn, 1) := by decide +kernel
theorem dX9_book_99 : decode cX9_book 99 = .ok (.iconst (-1), 1) := by decide +kernel
theorem dX9_book_100 : decode cX9_book 100 = .ok (.ireturn, 1) := by decide +kernel
theorem dX9_led_0 : decode cX9_led 0 = .ok (.aload_n 0, 1) := by decide +kernel
theorem dX9_led_1 : decode cX9_led 1 = .ok (.iconst 0, 1) := by decide +kernel
theorem dX9_led_2 : decode cX9_led 2 = .ok (.putfield 69, 3) := by decide +kernel
theorem dX9_led_5 : decode cX9_led 5 = .ok (.aload_n 0, 1) := by decide +kernel
theorem dX9_led_6 : decode cX9_led 6 = .ok (.iload_n 1, 1) := by decide +kernel
theorem dX9_led_7 : decode cX9_led 7 = .ok (.iload_n 2, 1) := by decide +kernel
theorem dX9_led_8 : decode cX9_led 8 = .ok (.iload_n 3, 1) := by decide +kernel
theorem dX9_led_9 : decode cX9_led 9 = .ok (.invokevirtual 96, 3) := by decide +kernel
theorem dX9_led_12 : decode cX9_led 12 = .ok (.istore 4, 2) := by decide +kernel
theorem dX9_led_14 : decode cX9_led 14 = .ok (.iload 4, 2) := by decide +kernel
theorem dX9_led_16 : decode cX9_led 16 = .ok (.iconst (-1), 1) := by decide +kernel
theorem dX9_led_17 : decode cX9_led 17 = .ok (.if_icmp .eq 19, 3) := by decide +kernel
theorem dX9_led_20 : decode cX9_led 20 = .ok (.aload_n 0, 1) := by decide +kernel
theorem dX9_led_21 : decode cX9_led 21 = .ok (.getfield 84, 3) := by decide +kernel
theorem dX9_led_24 : decode cX9_led 24 = .ok (.ifCond .eq 12, 3) := by decide +kernel
theorem dX9_led_27 : decode cX9_led 27 = .ok (.aload_n 0, 1) := by decide +kernel
theorem dX9_led_28 : decode cX9_led 28 = .ok (.getfield 59, 3) := by decide +kernel
theorem dX9_led_31 : decode cX9_led 31 = .ok (.iload_n 1, 1) := by decide +kernel
theorem dX9_led_32 : decode cX9_led 32 = .ok (.baload, 1) := by decide +kernel
theorem dX9_led_33 : decode cX9_led 33 = .ok (.ifCond .ne 5, 3) := by decide +kernel
theorem dX9_led_36 : decode cX9_led 36 = .ok (.iconst (-1), 1) := by decide +kernel
theorem dX9_led_37 : decode cX9_led 37 = .ok (.ireturn, 1) := by decide +kernel
theorem dX9_led_38 : decode cX9_led 38 = .ok (.aload_n 0, 1) := by decide +kernel
theorem dX9_led_39 : decode cX9_led 39 = .ok (.getfield 53, 3) := by decide +kernel
theorem dX9_led_42 : decode cX9_led 42 = .ok (.iload 4, 2) := by decide +kernel
theorem dX9_led_44 : decode cX9_led 44 = .ok (.iaload, 1) := by decide +kernel
theorem dX9_led_45 : decode cX9_led 45 = .ok (.aload_n 0, 1) := by decide +kernel
theorem dX9_led_46 : decode cX9_led 46 = .ok (.getfield 56, 3) := by decide +kernel
theorem dX9_led_49 : decode cX9_led 49 = .ok (.iload 4, 2) := by decide +kernel
theorem dX9_led_51 : decode cX9_led 51 = .ok (.iaload, 1) := by decide +kernel
theorem dX9_led_52 : decode cX9_led 52 = .ok (.ishr, 1) := by decide +kernel
theorem dX9_led_53 : decode cX9_led 53 = .ok (.iconst 1, 1) := by decide +kernel
theorem dX9_led_54 : decode cX9_led 54 = .ok (.iand, 1) := by decide +kernel
theorem dX9_led_55 : decode cX9_led 55 = .ok (.iconst 1, 1) := by decide +kernel
theorem dX9_led_56 : decode cX9_led 56 = .ok (.if_icmp .ne 13, 3) := by decide +kernel
theorem dX9_led_59 : decode cX9_led 59 = .ok (.aload_n 0, 1) := by decide +kernel
theorem dX9_led_60 : decode cX9_led 60 = .ok (.getfield 56, 3) := by decide +kernel
theorem dX9_led_63 : decode cX9_led 63 = .ok (.iload 4, 2) := by decide +kernel
theorem dX9_led_65 : decode cX9_led 65 = .ok (.iaload, 1) := by decide +kernel
theorem dX9_led_66 : decode cX9_led 66 = .ok (.goto 4, 3) := by decide +kernel
theorem dX9_led_69 : decode cX9_led 69 = .ok (.iconst (-1), 1) := by decide +kernel
theorem dX9_led_70 : decode cX9_led 70 = .ok (.ireturn, 1) := by decide +kernel
theorem dX9_count_0 : decode cX9_count 0 = .ok (.aload_n 0, 1) := by decide +kernel
theorem dX9_count_1 : decode cX9_count 1 = .ok (.iconst 0, 1) := by decide +kernel
theorem dX9_count_2 : decode cX9_count 2 = .ok (.putfield 69, 3) := by decide +kernel
theorem dX9_count_5 : decode cX9_count 5 = .ok (.iconst 0, 1) := by decide +kernel
theorem dX9_count_6 : decode cX9_count 6 = .ok (.istore_n 2, 1) := by decide +kernel
theorem dX9_count_7 : decode cX9_count 7 = .ok (.iconst 0, 1) := by decide +kernel
theorem dX9_count_8 : decode cX9_count 8 = .ok (.istore_n 3, 1) := by decide +kernel
theorem dX9_count_9 : decode cX9_count 9 = .ok (.iconst 0, 1) := by decide +kernel
theorem dX9_count_10 : decode cX9_count 10 = .ok (.istore 4, 2) := by decide +kernel
theorem dX9_count_12 : decode cX9_count 12 = .ok (.iconst 0, 1) := by decide +kernel
theorem dX9_count_13 : decode cX9_count 13 = .ok (.istore 5, 2) := by decide +kernel
theorem dX9_count_15 : decode cX9_count 15 = .ok (.iconst 0, 1) := by decide +kernel
theorem dX9_count_16 : decode cX9_count 16 = .ok (.istore 6, 2) := by decide +kernel
theorem dX9_count_18 : decode cX9_count 18 = .ok (.iload 6, 2) := by decide +kernel
theorem dX9_count_20 : decode cX9_count 20 = .ok (.aload_n 0, 1) := by decide +kernel
theorem dX9_count_21 : decode cX9_count 21 = .ok (.getfield 81, 3) := by decide +kernel
theorem dX9_count_24 : decode cX9_count 24 = .ok (.if_icmp .ge 19, 3) := by decide +kernel
theorem dX9_count_27 : decode cX9_count 27 = .ok (.iload_n 2, 1) := by decide +kernel
theorem dX9_count_28 : decode cX9_count 28 = .ok (.aload_n 0, 1) := by decide +kernel
theorem dX9_count_29 : decode cX9_count 29 = .ok (.getfield 47, 3) := by decide +kernel
theorem dX9_count_32 : decode cX9_count 32 = .ok (.iload 6, 2) := by decide +kernel
theorem dX9_count_34 : decode cX9_count 34 = .ok (.iaload, 1) := by decide +kernel
theorem dX9_count_35 : decode cX9_count 35 = .ok (.iadd, 1) := by decide +kernel
theorem dX9_count_36 : decode cX9_count 36 = .ok (.istore_n 2, 1) := by decide +kernel
theorem dX9_count_37 : decode cX9_count 37 = .ok (.iinc 6 1, 3) := by decide +kernel
theorem dX9_count_40 : decode cX9_count 40 = .ok (.goto (-22), 3) := by decide +kernel
theorem dX9_count_43 : decode cX9_count 43 = .ok (.iconst 0, 1) := by decide +kernel
theorem dX9_count_44 : decode cX9_count 44 = .ok (.istore 6, 2) := by decide +kernel
theorem dX9_count_46 : decode cX9_count 46 = .ok (.iload 6, 2) := by decide +kernel
theorem dX9_count_48 : decode cX9_count 48 = .ok (.iconst 1, 1) := by decide +kernel
theorem dX9_count_49 : decode cX9_count 49 = .ok (.iadd, 1) := by decide +kernel
theorem dX9_count_50 : decode cX9_count 50 = .ok (.aload_n 0, 1) := by decide +kernel
theorem dX9_count_51 : decode cX9_count 51 = .ok (.getfield 81, 3) := by decide +kernel
theorem dX9_count_54 : decode cX9_count 54 = .ok (.if_icmp .ge 61, 3) := by decide +kernel
theorem dX9_count_57 : decode cX9_count 57 = .ok (.aload_n 0, 1) := by decide +kernel
theorem dX9_count_58 : decode cX9_count 58 = .ok (.iload 6, 2) := by decide +kernel
theorem dX9_count_60 : decode cX9_count 60 = .ok (.invokevirtual 171, 3) := by decide +kernel
theorem dX9_count_63 : decode cX9_count 63 = .ok (.istore 7, 2) := by decide +kernel
theorem dX9_count_65 : decode cX9_count 65 = .ok (.iload_n 3, 1) := by decide +kernel
theorem dX9_count_66 : decode cX9_count 66 = .ok (.iload 7, 2) := by decide +kernel
theorem dX9_count_68 : decode cX9_count 68 = .ok (.iconst (-1), 1) := by decide +kernel
theorem dX9_count_69 : decode cX9_count 69 = .ok (.if_icmp .ne 7, 3) := by decide +kernel
theorem dX9_count_72 : decode cX9_count 72 = .ok (.iconst 1, 1) := by decide +kernel
theorem dX9_count_73 : decode cX9_count 73 = .ok (.goto 4, 3) := by decide +kernel
theorem dX9_count_76 : decode cX9_count 76 = .ok (.iconst 0, 1) := by decide +kernel
theorem dX9_count_77 : decode cX9_count 77 = .ok (.iadd, 1) := by decide +kernel
theorem dX9_count_78 : decode cX9_count 78 = .ok (.istore_n 3, 1) := by decide +kernel
theorem dX9_count_79 : decode cX9_count 79 = .ok (.iload 5, 2) := by decide +kernel
theorem dX9_count_81 : decode cX9_count 81 = .ok (.iconst 0, 1) := by decide +kernel
theorem dX9_count_82 : decode cX9_count 82 = .ok (.iload 7, 2) := by decide +kernel
theorem dX9_count_84 : decode cX9_count 84 = .ok (.invokestatic 138, 3) := by decide +kernel
theorem dX9_count_87 : decode cX9_count 87 = .ok (.iadd, 1) := by decide +kernel
theorem dX9_count_88 : decode cX9_count 88 = .ok (.istore 5, 2) := by decide +kernel
theorem dX9_count_90 : decode cX9_count 90 = .ok (.iload 4, 2) := by decide +kernel
theorem dX9_count_92 : decode cX9_count 92 = .ok (.aload_n 0, 1) := by decide +kernel
theorem dX9_count_93 : decode cX9_count 93 = .ok (.iload 6, 2) := by decide +kernel
theorem dX9_count_95 : decode cX9_count 95 = .ok (.invokevirtual 174, 3) := by decide +kernel
theorem dX9_count_98 : decode cX9_count 98 = .ok (.ifCond .eq 7, 3) := by decide +kernel
theorem dX9_count_101 : decode cX9_count 101 = .ok (.iconst 1, 1) := by decide +kernel
theorem dX9_count_102 : decode cX9_count 102 = .ok (.goto 4, 3) := by decide +kernel
theorem dX9_count_105 : decode cX9_count 105 = .ok (.iconst 0, 1) := by decide +kernel
theorem dX9_count_106 : decode cX9_count 106 = .ok (.iadd, 1) := by decide +kernel
theorem dX9_count_107 : decode cX9_count 107 = .ok (.istore 4, 2) := by decide +kernel
theorem dX9_count_109 : decode cX9_count 109 = .ok (.iinc 6 1, 3) := by decide +kernel
theorem dX9_count_112 : decode cX9_count 112 = .ok (.goto (-66), 3) := by decide +kernel
theorem dX9_count_115 : decode cX9_count 115 = .ok (.iload_n 1, 1) := by decide +kernel
theorem dX9_count_116 : decode cX9_count 116 = .ok (.tableswitch 78 0 7 #[48, 53, 58, 63, 68, 70, 72, 75], 48) := by decide +kernel
theorem dX9_count_164 : decode cX9_count 164 = .ok (.aload_n 0, 1) := by decide +kernel
theorem dX9_count_165 : decode cX9_count 165 = .ok (.getfield 78, 3) := by decide +kernel
theorem dX9_count_168 : decode cX9_count 168 = .ok (.ireturn, 1) := by decide +kernel
theorem dX9_count_169 : decode cX9_count 169 = .ok (.aload_n 0, 1) := by decide +kernel
theorem dX9_count_170 : decode cX9_count 170 = .ok (.getfield 88, 3) := by decide +kernel
theorem dX9_count_173 : decode cX9_count 173 = .ok (.ireturn, 1) := by decide +kernel
theorem dX9_count_174 : decode cX9_count 174 = .ok (.aload_n 0, 1) := by decide +kernel
theorem dX9_count_175 : decode cX9_count 175 = .ok (.getfield 100, 3) := by decide +kernel
theorem dX9_count_178 : decode cX9_count 178 = .ok (.ireturn, 1) := by decide +kernel
theorem dX9_count_179 : decode cX9_count 179 = .ok (.aload_n 0, 1) := by decide +kernel
theorem dX9_count_180 : decode cX9_count 180 = .ok (.getfield 81, 3) := by decide +kernel
theorem dX9_count_183 : decode cX9_count 183 = .ok (.ireturn, 1) := by decide +kernel
theorem dX9_count_184 : decode cX9_count 184 = .ok (.iload_n 2, 1) := by decide +kernel
theorem dX9_count_185 : decode cX9_count 185 = .ok (.ireturn, 1) := by decide +kernel
theorem dX9_count_186 : decode cX9_count 186 = .ok (.iload_n 3, 1) := by decide +kernel
theorem dX9_count_187 : decode cX9_count 187 = .ok (.ireturn, 1) := by decide +kernel
theorem dX9_count_188 : decode cX9_count 188 = .ok (.iload 4, 2) := by decide +kernel
theorem dX9_count_190 : decode cX9_count 190 = .ok (.ireturn, 1) := by decide +kernel
theorem dX9_count_191 : decode cX9_count 191 = .ok (.iload 5, 2) := by decide +kernel
theorem dX9_count_193 : decode cX9_count 193 = .ok (.ireturn, 1) := by decide +kernel
theorem dX9_count_194 : decode cX9_count 194 = .ok (.iconst (-1), 1) := by decide +kernel
theorem dX9_count_195 : decode cX9_count 195 = .ok (.ireturn, 1) := by decide +kernel
theorem dJ6_bitCount_0f7a4_0 : decode cJ6_bitCount_0f7a4 0 = .ok (.iload_n 0, 1) := by decide +kernel
theorem dJ6_bitCount_0f7a4_1 : decode cJ6_bitCount_0f7a4 1 = .ok (.iload_n 0, 1) := by decide +kernel
theorem dJ6_bitCount_0f7a4_2 : decode cJ6_bitCount_0f7a4 2 = .ok (.iconst 1, 1) := by decide +kernel
theorem dJ6_bitCount_0f7a4_3 : decode cJ6_bitCount_0f7a4 3 = .ok (.iushr, 1) := by decide +kernel
theorem dJ6_bitCount_0f7a4_4 : decode cJ6_bitCount_0f7a4 4 = .ok (.ldc_w 265, 3) := by decide +kernel
theorem dJ6_bitCount_0f7a4_7 : decode cJ6_bitCount_0f7a4 7 = .ok (.iand, 1) := by decide +kernel
theorem dJ6_bitCount_0f7a4_8 : decode cJ6_bitCount_0f7a4 8 = .ok (.isub, 1) := by decide +kernel
theorem dJ6_bitCount_0f7a4_9 : decode cJ6_bitCount_0f7a4 9 = .ok (.istore_n 0, 1) := by decide +kernel
theorem dJ6_bitCount_0f7a4_10 : decode cJ6_bitCount_0f7a4 10 = .ok (.iload_n 0, 1) := by decide +kernel
theorem dJ6_bitCount_0f7a4_11 : decode cJ6_bitCount_0f7a4 11 = .ok (.ldc_w 266, 3) := by decide +kernel
theorem dJ6_bitCount_0f7a4_14 : decode cJ6_bitCount_0f7a4 14 = .ok (.iand, 1) := by decide +kernel
theorem dJ6_bitCount_0f7a4_15 : decode cJ6_bitCount_0f7a4 15 = .ok (.iload_n 0, 1) := by decide +kernel
theorem dJ6_bitCount_0f7a4_16 : decode cJ6_bitCount_0f7a4 16 = .ok (.iconst 2, 1) := by decide +kernel
theorem dJ6_bitCount_0f7a4_17 : decode cJ6_bitCount_0f7a4 17 = .ok (.iushr, 1) := by decide +kernel
theorem dJ6_bitCount_0f7a4_18 : decode cJ6_bitCount_0f7a4 18 = .ok (.ldc_w 266, 3) := by decide +kernel
theorem dJ6_bitCount_0f7a4_21 : decode cJ6_bitCount_0f7a4 21 = .ok (.iand, 1) := by decide +kernel
theorem dJ6_bitCount_0f7a4_22 : decode cJ6_bitCount_0f7a4 22 = .ok (.iadd, 1) := by decide +kernel
theorem dJ6_bitCount_0f7a4_23 : decode cJ6_bitCount_0f7a4 23 = .ok (.istore_n 0, 1) := by decide +kernel
theorem dJ6_bitCount_0f7a4_24 : decode cJ6_bitCount_0f7a4 24 = .ok (.iload_n 0, 1) := by decide +kernel
theorem dJ6_bitCount_0f7a4_25 : decode cJ6_bitCount_0f7a4 25 = .ok (.iload_n 0, 1) := by decide +kernel
theorem dJ6_bitCount_0f7a4_26 : decode cJ6_bitCount_0f7a4 26 = .ok (.iconst 4, 1) := by decide +kernel
theorem dJ6_bitCount_0f7a4_27 : decode cJ6_bitCount_0f7a4 27 = .ok (.iushr, 1) := by decide +kernel
theorem dJ6_bitCount_0f7a4_28 : decode cJ6_bitCount_0f7a4 28 = .ok (.iadd, 1) := by decide +kernel
theorem dJ6_bitCount_0f7a4_29 : decode cJ6_bitCount_0f7a4 29 = .ok (.ldc_w 267, 3) := by decide +kernel
theorem dJ6_bitCount_0f7a4_32 : decode cJ6_bitCount_0f7a4 32 = .ok (.iand, 1) := by decide +kernel
theorem dJ6_bitCount_0f7a4_33 : decode cJ6_bitCount_0f7a4 33 = .ok (.istore_n 0, 1) := by decide +kernel
theorem dJ6_bitCount_0f7a4_34 : decode cJ6_bitCount_0f7a4 34 = .ok (.iload_n 0, 1) := by decide +kernel
theorem dJ6_bitCount_0f7a4_35 : decode cJ6_bitCount_0f7a4 35 = .ok (.iload_n 0, 1) := by decide +kernel
theorem dJ6_bitCount_0f7a4_36 : decode cJ6_bitCount_0f7a4 36 = .ok (.bipush 8, 2) := by decide +kernel
theorem dJ6_bitCount_0f7a4_38 : decode cJ6_bitCount_0f7a4 38 = .ok (.iushr, 1) := by decide +kernel
theorem dJ6_bitCount_0f7a4_39 : decode cJ6_bitCount_0f7a4 39 = .ok (.iadd, 1) := by decide +kernel
theorem dJ6_bitCount_0f7a4_40 : decode cJ6_bitCount_0f7a4 40 = .ok (.istore_n 0, 1) := by decide +kernel
theorem dJ6_bitCount_0f7a4_41 : decode cJ6_bitCount_0f7a4 41 = .ok (.iload_n 0, 1) := by decide +kernel
theorem dJ6_bitCount_0f7a4_42 : decode cJ6_bitCount_0f7a4 42 = .ok (.iload_n 0, 1) := by decide +kernel
theorem dJ6_bitCount_0f7a4_43 : decode cJ6_bitCount_0f7a4 43 = .ok (.bipush 16, 2) := by decide +kernel
theorem dJ6_bitCount_0f7a4_45 : decode cJ6_bitCount_0f7a4 45 = .ok (.iushr, 1) := by decide +kernel
theorem dJ6_bitCount_0f7a4_46 : decode cJ6_bitCount_0f7a4 46 = .ok (.iadd, 1) := by decide +kernel
theorem dJ6_bitCount_0f7a4_47 : decode cJ6_bitCount_0f7a4 47 = .ok (.istore_n 0, 1) := by decide +kernel
theorem dJ6_bitCount_0f7a4_48 : decode cJ6_bitCount_0f7a4 48 = .ok (.iload_n 0, 1) := by decide +kernel
theorem dJ6_bitCount_0f7a4_49 : decode cJ6_bitCount_0f7a4 49 = .ok (.bipush 63, 2) := by decide +kernel
theorem dJ6_bitCount_0f7a4_51 : decode cJ6_bitCount_0f7a4 51 = .ok (.iand, 1) := by decide +kernel
theorem dJ6_bitCount_0f7a4_52 : decode cJ6_bitCount_0f7a4 52 = .ok (.ireturn, 1) := by decide +kernel
theorem dJ9_max_7cf53_0 : decode cJ9_max_7cf53 0 = .ok (.iload_n 0, 1) := by decide +kernel
theorem dJ9_max_7cf53_1 : decode cJ9_max_7cf53 1 = .ok (.iload_n 1, 1) := by decide +kernel
theorem dJ9_max_7cf53_2 : decode cJ9_max_7cf53 2 = .ok (.if_icmp .lt 7, 3) := by decide +kernel
theorem dJ9_max_7cf53_5 : decode cJ9_max_7cf53 5 = .ok (.iload_n 0, 1) := by decide +kernel
theorem dJ9_max_7cf53_6 : decode cJ9_max_7cf53 6 = .ok (.goto 4, 3) := by decide +kernel
theorem dJ9_max_7cf53_9 : decode cJ9_max_7cf53 9 = .ok (.iload_n 1, 1) := by decide +kernel
theorem dJ9_max_7cf53_10 : decode cJ9_max_7cf53 10 = .ok (.ireturn, 1) := by decide +kernel
theorem dJ9_min_7cf53_0 : decode cJ9_min_7cf53 0 = .ok (.iload_n 0, 1) := by decide +kernel
theorem dJ9_min_7cf53_1 : decode cJ9_min_7cf53 1 = .ok (.iload_n 1, 1) := by decide +kernel
theorem dJ9_min_7cf53_2 : decode cJ9_min_7cf53 2 = .ok (.if_icmp .gt 7, 3) := by decide +kernel
theorem dJ9_min_7cf53_5 : decode cJ9_min_7cf53 5 = .ok (.iload_n 0, 1) := by decide +kernel
theorem dJ9_min_7cf53_6 : decode cJ9_min_7cf53 6 = .ok (.goto 4, 3) := by decide +kernel
theorem dJ9_min_7cf53_9 : decode cJ9_min_7cf53 9 = .ok (.iload_n 1, 1) := by decide +kernel
theorem dJ9_min_7cf53_10 : decode cJ9_min_7cf53 10 = .ok (.ireturn, 1) := by decide +kernel
theorem dJ7_fill_53178_0 : decode cJ7_fill_53178 0 = .ok (.iconst 0, 1) := by decide +kernel
theorem dJ7_fill_53178_1 : decode cJ7_fill_53178 1 = .ok (.istore_n 2, 1) := by decide +kernel
theorem dJ7_fill_53178_2 : decode cJ7_fill_53178 2 = .ok (.aload_n 0, 1) := by decide +kernel
theorem dJ7_fill_53178_3 : decode cJ7_fill_53178 3 = .ok (.arraylength, 1) := by decide +kernel
theorem dJ7_fill_53178_4 : decode cJ7_fill_53178 4 = .ok (.istore_n 3, 1) := by decide +kernel
theorem dJ7_fill_53178_5 : decode cJ7_fill_53178 5 = .ok (.iload_n 2, 1) := by decide +kernel
theorem dJ7_fill_53178_6 : decode cJ7_fill_53178 6 = .ok (.iload_n 3, 1) := by decide +kernel
theorem dJ7_fill_53178_7 : decode cJ7_fill_53178 7 = .ok (.if_icmp .ge 13, 3) := by decide +kernel
theorem dJ7_fill_53178_10 : decode cJ7_fill_53178 10 = .ok (.aload_n 0, 1) := by decide +kernel
theorem dJ7_fill_53178_11 : decode cJ7_fill_53178 11 = .ok (.iload_n 2, 1) := by decide +kernel
theorem dJ7_fill_53178_12 : decode cJ7_fill_53178 12 = .ok (.iload_n 1, 1) := by decide +kernel
theorem dJ7_fill_53178_13 : decode cJ7_fill_53178 13 = .ok (.iastore, 1) := by decide +kernel
theorem dJ7_fill_53178_14 : decode cJ7_fill_53178 14 = .ok (.iinc 2 1, 3) := by decide +kernel
theorem dJ7_fill_53178_17 : decode cJ7_fill_53178 17 = .ok (.goto (-12), 3) := by decide +kernel
theorem dJ7_fill_53178_20 : decode cJ7_fill_53178 20 = .ok (.return_, 1) := by decide +kernel
theorem dL_law_0 : decode cL_law 0 = .ok (.new 7, 3) := by decide +kernel
theorem dL_law_3 : decode cL_law 3 = .ok (.dup, 1) := by decide +kernel
theorem dL_law_4 : decode cL_law 4 = .ok (.invokespecial 9, 3) := by decide +kernel
theorem dL_law_7 : decode cL_law 7 = .ok (.astore_n 1, 1) := by decide +kernel
theorem dL_law_8 : decode cL_law 8 = .ok (.new 10, 3) := by decide +kernel
theorem dL_law_11 : decode cL_law 11 = .ok (.dup, 1) := by decide +kernel
theorem dL_law_12 : decode cL_law 12 = .ok (.invokespecial 12, 3) := by decide +kernel
theorem dL_law_15 : decode cL_law 15 = .ok (.astore_n 2, 1) := by decide +kernel
theorem dL_law_16 : decode cL_law 16 = .ok (.iconst 0, 1) := by decide +kernel
theorem dL_law_17 : decode cL_law 17 = .ok (.istore_n 3, 1) := by decide +kernel
theorem dL_law_18 : decode cL_law 18 = .ok (.iload_n 3, 1) := by decide +kernel
theorem dL_law_19 : decode cL_law 19 = .ok (.aload_n 0, 1) := by decide +kernel
theorem dL_law_20 : decode cL_law 20 = .ok (.arraylength, 1) := by decide +kernel
theorem dL_law_21 : decode cL_law 21 = .ok (.bipush 6, 2) := by decide +kernel
theorem dL_law_23 : decode cL_law 23 = .ok (.isub, 1) := by decide +kernel
theorem dL_law_24 : decode cL_law 24 = .ok (.if_icmp .gt 588, 3) := by decide +kernel
theorem dL_law_27 : decode cL_law 27 = .ok (.aload_n 0, 1) := by decide +kernel
theorem dL_law_28 : decode cL_law 28 = .ok (.iload_n 3, 1) := by decide +kernel
theorem dL_law_29 : decode cL_law 29 = .ok (.iaload, 1) := by decide +kernel
theorem dL_law_30 : decode cL_law 30 = .ok (.bipush 15, 2) := by decide +kernel
theorem dL_law_32 : decode cL_law 32 = .ok (.iand, 1) := by decide +kernel
theorem dL_law_33 : decode cL_law 33 = .ok (.tableswitch 573 0 13 #[71, 134, 157, 180, 223, 276, 319, 362, 405, 428, 441, 474, 507, 550], 71) := by decide +kernel
theorem dL_law_104 : decode cL_law 104 = .ok (.aload_n 1, 1) := by decide +kernel
theorem dL_law_105 : decode cL_law 105 = .ok (.aload_n 0, 1) := by decide +kernel
theorem dL_law_106 : decode cL_law 106 = .ok (.iload_n 3, 1) := by decide +kernel
theorem dL_law_107 : decode cL_law 107 = .ok (.iconst 1, 1) := by decide +kernel
theorem dL_law_108 : decode cL_law 108 = .ok (.iadd, 1) := by decide +kernel
theorem dL_law_109 : decode cL_law 109 = .ok (.iaload, 1) := by decide +kernel
theorem dL_law_110 : decode cL_law 110 = .ok (.aload_n 0, 1) := by decide +kernel
theorem dL_law_111 : decode cL_law 111 = .ok (.iload_n 3, 1) := by decide +kernel
theorem dL_law_112 : decode cL_law 112 = .ok (.iconst 2, 1) := by decide +kernel
theorem dL_law_113 : decode cL_law 113 = .ok (.iadd, 1) := by decide +kernel
theorem dL_law_114 : decode cL_law 114 = .ok (.iaload, 1) := by decide +kernel
theorem dL_law_115 : decode cL_law 115 = .ok (.aload_n 0, 1) := by decide +kernel
theorem dL_law_116 : decode cL_law 116 = .ok (.iload_n 3, 1) := by decide +kernel
theorem dL_law_117 : decode cL_law 117 = .ok (.iconst 3, 1) := by decide +kernel
theorem dL_law_118 : decode cL_law 118 = .ok (.iadd, 1) := by decide +kernel
theorem dL_law_119 : decode cL_law 119 = .ok (.iaload, 1) := by decide +kernel
theorem dL_law_120 : decode cL_law 120 = .ok (.aload_n 0, 1) := by decide +kernel
theorem dL_law_121 : decode cL_law 121 = .ok (.iload_n 3, 1) := by decide +kernel
theorem dL_law_122 : decode cL_law 122 = .ok (.iconst 4, 1) := by decide +kernel
theorem dL_law_123 : decode cL_law 123 = .ok (.iadd, 1) := by decide +kernel
theorem dL_law_124 : decode cL_law 124 = .ok (.iaload, 1) := by decide +kernel
theorem dL_law_125 : decode cL_law 125 = .ok (.aload_n 0, 1) := by decide +kernel
theorem dL_law_126 : decode cL_law 126 = .ok (.iload_n 3, 1) := by decide +kernel
theorem dL_law_127 : decode cL_law 127 = .ok (.iconst 5, 1) := by decide +kernel
theorem dL_law_128 : decode cL_law 128 = .ok (.iadd, 1) := by decide +kernel
theorem dL_law_129 : decode cL_law 129 = .ok (.iaload, 1) := by decide +kernel
theorem dL_law_130 : decode cL_law 130 = .ok (.invokevirtual 13, 3) := by decide +kernel
theorem dL_law_133 : decode cL_law 133 = .ok (.aload_n 2, 1) := by decide +kernel
theorem dL_law_134 : decode cL_law 134 = .ok (.aload_n 0, 1) := by decide +kernel
theorem dL_law_135 : decode cL_law 135 = .ok (.iload_n 3, 1) := by decide +kernel
theorem dL_law_136 : decode cL_law 136 = .ok (.iconst 1, 1) := by decide +kernel
theorem dL_law_137 : decode cL_law 137 = .ok (.iadd, 1) := by decide +kernel
theorem dL_law_138 : decode cL_law 138 = .ok (.iaload, 1) := by decide +kernel
theorem dL_law_139 : decode cL_law 139 = .ok (.aload_n 0, 1) := by decide +kernel
theorem dL_law_140 : decode cL_law 140 = .ok (.iload_n 3, 1) := by decide +kernel
theorem dL_law_141 : decode cL_law 141 = .ok (.iconst 2, 1) := by decide +kernel
theorem dL_law_142 : decode cL_law 142 = .ok (.iadd, 1) := by decide +kernel
theorem dL_law_143 : decode cL_law 143 = .ok (.iaload, 1) := by decide +kernel
theorem dL_law_144 : decode cL_law 144 = .ok (.aload_n 0, 1) := by decide +kernel
theorem dL_law_145 : decode cL_law 145 = .ok (.iload_n 3, 1) := by decide +kernel
theorem dL_law_146 : decode cL_law 146 = .ok (.iconst 3, 1) := by decide +kernel
theorem dL_law_147 : decode cL_law 147 = .ok (.iadd, 1) := by decide +kernel
theorem dL_law_148 : decode cL_law 148 = .ok (.iaload, 1) := by decide +kernel
theorem dL_law_149 : decode cL_law 149 = .ok (.aload_n 0, 1) := by decide +kernel
theorem dL_law_150 : decode cL_law 150 = .ok (.iload_n 3, 1) := by decide +kernel
theorem dL_law_151 : decode cL_law 151 = .ok (.iconst 4, 1) := by decide +kernel
theorem dL_law_152 : decode cL_law 152 = .ok (.iadd, 1) := by decide +kernel
theorem dL_law_153 : decode cL_law 153 = .ok (.iaload, 1) := by decide +kernel
theorem dL_law_154 : decode cL_law 154 = .ok (.aload_n 0, 1) := by decide +kernel
theorem dL_law_155 : decode cL_law 155 = .ok (.iload_n 3, 1) := by decide +kernel
theorem dL_law_156 : decode cL_law 156 = .ok (.iconst 5, 1) := by decide +kernel
theorem dL_law_157 : decode cL_law 157 = .ok (.iadd, 1) := by decide +kernel
theorem dL_law_158 : decode cL_law 158 = .ok (.iaload, 1) := by decide +kernel
theorem dL_law_159 : decode cL_law 159 = .ok (.invokevirtual 17, 3) := by decide +kernel
theorem dL_law_162 : decode cL_law 162 = .ok (.if_icmp .eq 444, 3) := by decide +kernel
theorem dL_law_165 : decode cL_law 165 = .ok (.iconst 0, 1) := by decide +kernel
theorem dL_law_166 : decode cL_law 166 = .ok (.ireturn, 1) := by decide +kernel
theorem dL_law_167 : decode cL_law 167 = .ok (.aload_n 1, 1) := by decide +kernel
theorem dL_law_168 : decode cL_law 168 = .ok (.aload_n 0, 1) := by decide +kernel
theorem dL_law_169 : decode cL_law 169 = .ok (.iload_n 3, 1) := by decide +kernel
theorem dL_law_170 : decode cL_law 170 = .ok (.iconst 1, 1) := by decide +kernel
theorem dL_law_171 : decode cL_law 171 = .ok (.iadd, 1) := by decide +kernel
theorem dL_law_172 : decode cL_law 172 = .ok (.iaload, 1) := by decide +kernel
theorem dL_law_173 : decode cL_law 173 = .ok (.invokevirtual 18, 3) := by decide +kernel
theorem dL_law_176 : decode cL_law 176 = .ok (.aload_n 2, 1) := by decide +kernel
theorem dL_law_177 : decode cL_law 177 = .ok (.aload_n 0, 1) := by decide +kernel
theorem dL_law_178 : decode cL_law 178 = .ok (.iload_n 3, 1) := by decide +kernel
theorem dL_law_179 : decode cL_law 179 = .ok (.iconst 1, 1) := by decide +kernel
theorem dL_law_180 : decode cL_law 180 = .ok (.iadd, 1) := by decide +kernel
theorem dL_law_181 : decode cL_law 181 = .ok (.iaload, 1) := by decide +kernel
theorem dL_law_182 : decode cL_law 182 = .ok (.invokevirtual 22, 3) := by decide +kernel
theorem dL_law_185 : decode cL_law 185 = .ok (.if_icmp .eq 421, 3) := by decide +kernel
theorem dL_law_188 : decode cL_law 188 = .ok (.iconst 0, 1) := by decide +kernel
theorem dL_law_189 : decode cL_law 189 = .ok (.ireturn, 1) := by decide +kernel
theorem dL_law_190 : decode cL_law 190 = .ok (.aload_n 1, 1) := by decide +kernel
theorem dL_law_191 : decode cL_law 191 = .ok (.aload_n 0, 1) := by decide +kernel
theorem dL_law_192 : decode cL_law 192 = .ok (.iload_n 3, 1) := by decide +kernel
theorem dL_law_193 : decode cL_law 193 = .ok (.iconst 1, 1) := by decide +kernel
theorem dL_law_194 : decode cL_law 194 = .ok (.iadd, 1) := by decide +kernel
theorem dL_law_195 : decode cL_law 195 = .ok (.iaload, 1) := by decide +kernel
theorem dL_law_196 : decode cL_law 196 = .ok (.invokevirtual 23, 3) := by decide +kernel
theorem dL_law_199 : decode cL_law 199 = .ok (.aload_n 2, 1) := by decide +kernel
theorem dL_law_200 : decode cL_law 200 = .ok (.aload_n 0, 1) := by decide +kernel
theorem dL_law_201 : decode cL_law 201 = .ok (.iload_n 3, 1) := by decide +kernel
theorem dL_law_202 : decode cL_law 202 = .ok (.iconst 1, 1) := by decide +kernel
theorem dL_law_203 : decode cL_law 203 = .ok (.iadd, 1) := by decide +kernel
theorem dL_law_204 : decode cL_law 204 = .ok (.iaload, 1) := by decide +kernel
theorem dL_law_205 : decode cL_law 205 = .ok (.invokevirtual 26, 3) := by decide +kernel
theorem dL_law_208 : decode cL_law 208 = .ok (.if_icmp .eq 398, 3) := by decide +kernel
theorem dL_law_211 : decode cL_law 211 = .ok (.iconst 0, 1) := by decide +kernel
theorem dL_law_212 : decode cL_law 212 = .ok (.ireturn, 1) := by decide +kernel
theorem dL_law_213 : decode cL_law 213 = .ok (.aload_n 1, 1) := by decide +kernel
theorem dL_law_214 : decode cL_law 214 = .ok (.aload_n 0, 1) := by decide +kernel
theorem dL_law_215 : decode cL_law 215 = .ok (.iload_n 3, 1) := by decide +kernel
theorem dL_law_216 : decode cL_law 216 = .ok (.iconst 1, 1) := by decide +kernel
theorem dL_law_217 : decode cL_law 217 = .ok (.iadd, 1) := by decide +kernel
theorem dL_law_218 : decode cL_law 218 = .ok (.iaload, 1) := by decide +kernel
theorem dL_law_219 : decode cL_law 219 = .ok (.aload_n 0, 1) := by decide +kernel
theorem dL_law_220 : decode cL_law 220 = .ok (.iload_n 3, 1) := by decide +kernel
theorem dL_law_221 : decode cL_law 221 = .ok (.iconst 2, 1) := by decide +kernel
theorem dL_law_222 : decode cL_law 222 = .ok (.iadd, 1) := by decide +kernel
theorem dL_law_223 : decode cL_law 223 = .ok (.iaload, 1) := by decide +kernel
theorem dL_law_224 : decode cL_law 224 = .ok (.aload_n 0, 1) := by decide +kernel
theorem dL_law_225 : decode cL_law 225 = .ok (.iload_n 3, 1) := by decide +kernel
theorem dL_law_226 : decode cL_law 226 = .ok (.iconst 3, 1) := by decide +kernel
theorem dL_law_227 : decode cL_law 227 = .ok (.iadd, 1) := by decide +kernel
theorem dL_law_228 : decode cL_law 228 = .ok (.iaload, 1) := by decide +kernel
theorem dL_law_229 : decode cL_law 229 = .ok (.invokevirtual 27, 3) := by decide +kernel
theorem dL_law_232 : decode cL_law 232 = .ok (.aload_n 2, 1) := by decide +kernel
theorem dL_law_233 : decode cL_law 233 = .ok (.aload_n 0, 1) := by decide +kernel
theorem dL_law_234 : decode cL_law 234 = .ok (.iload_n 3, 1) := by decide +kernel
theorem dL_law_235 : decode cL_law 235 = .ok (.iconst 1, 1) := by decide +kernel
theorem dL_law_236 : decode cL_law 236 = .ok (.iadd, 1) := by decide +kernel
theorem dL_law_237 : decode cL_law 237 = .ok (.iaload, 1) := by decide +kernel
theorem dL_law_238 : decode cL_law 238 = .ok (.aload_n 0, 1) := by decide +kernel
theorem dL_law_239 : decode cL_law 239 = .ok (.iload_n 3, 1) := by decide +kernel
theorem dL_law_240 : decode cL_law 240 = .ok (.iconst 2, 1) := by decide +kernel
theorem dL_law_241 : decode cL_law 241 = .ok (.iadd, 1) := by decide +kernel
theorem dL_law_242 : decode cL_law 242 = .ok (.iaload, 1) := by decide +kernel
theorem dL_law_243 : decode cL_law 243 = .ok (.aload_n 0, 1) := by decide +kernel
theorem dL_law_244 : decode cL_law 244 = .ok (.iload_n 3, 1) := by decide +kernel
theorem dL_law_245 : decode cL_law 245 = .ok (.iconst 3, 1) := by decide +kernel
theorem dL_law_246 : decode cL_law 246 = .ok (.iadd, 1) := by decide +kernel
theorem dL_law_247 : decode cL_law 247 = .ok (.iaload, 1) := by decide +kernel
theorem dL_law_248 : decode cL_law 248 = .ok (.invokevirtual 31, 3) := by decide +kernel
theorem dL_law_251 : decode cL_law 251 = .ok (.if_icmp .eq 355, 3) := by decide +kernel
theorem dL_law_254 : decode cL_law 254 = .ok (.iconst 0, 1) := by decide +kernel
theorem dL_law_255 : decode cL_law 255 = .ok (.ireturn, 1) := by decide +kernel
theorem dL_law_256 : decode cL_law 256 = .ok (.aload_n 1, 1) := by decide +kernel
theorem dL_law_257 : decode cL_law 257 = .ok (.aload_n 0, 1) := by decide +kernel
theorem dL_law_258 : decode cL_law 258 = .ok (.iload_n 3, 1) := by decide +kernel
theorem dL_law_259 : decode cL_law 259 = .ok (.iconst 1, 1) := by decide +kernel
theorem dL_law_260 : decode cL_law 260 = .ok (.iadd, 1) := by decide +kernel
theorem dL_law_261 : decode cL_law 261 = .ok (.iaload, 1) := by decide +kernel
theorem dL_law_262 : decode cL_law 262 = .ok (.aload_n 0, 1) := by decide +kernel
theorem dL_law_263 : decode cL_law 263 = .ok (.iload_n 3, 1) := by decide +kernel
theorem dL_law_264 : decode cL_law 264 = .ok (.iconst 2, 1) := by decide +kernel
theorem dL_law_265 : decode cL_law 265 = .ok (.iadd, 1) := by decide +kernel
theorem dL_law_266 : decode cL_law 266 = .ok (.iaload, 1) := by decide +kernel
theorem dL_law_267 : decode cL_law 267 = .ok (.aload_n 0, 1) := by decide +kernel
theorem dL_law_268 : decode cL_law 268 = .ok (.iload_n 3, 1) := by decide +kernel
theorem dL_law_269 : decode cL_law 269 = .ok (.iconst 3, 1) := by decide +kernel
theorem dL_law_270 : decode cL_law 270 = .ok (.iadd, 1) := by decide +kernel
theorem dL_law_271 : decode cL_law 271 = .ok (.iaload, 1) := by decide +kernel
theorem dL_law_272 : decode cL_law 272 = .ok (.aload_n 0, 1) := by decide +kernel
theorem dL_law_273 : decode cL_law 273 = .ok (.iload_n 3, 1) := by decide +kernel
theorem dL_law_274 : decode cL_law 274 = .ok (.iconst 4, 1) := by decide +kernel
theorem dL_law_275 : decode cL_law 275 = .ok (.iadd, 1) := by decide +kernel
theorem dL_law_276 : decode cL_law 276 = .ok (.iaload, 1) := by decide +kernel
theorem dL_law_277 : decode cL_law 277 = .ok (.invokevirtual 32, 3) := by decide +kernel
theorem dL_law_280 : decode cL_law 280 = .ok (.aload_n 2, 1) := by decide +kernel
theorem dL_law_281 : decode cL_law 281 = .ok (.aload_n 0, 1) := by decide +kernel
theorem dL_law_282 : decode cL_law 282 = .ok (.iload_n 3, 1) := by decide +kernel
theorem dL_law_283 : decode cL_law 283 = .ok (.iconst 1, 1) := by decide +kernel
theorem dL_law_284 : decode cL_law 284 = .ok (.iadd, 1) := by decide +kernel
theorem dL_law_285 : decode cL_law 285 = .ok (.iaload, 1) := by decide +kernel
theorem dL_law_286 : decode cL_law 286 = .ok (.aload_n 0, 1) := by decide +kernel
theorem dL_law_287 : decode cL_law 287 = .ok (.iload_n 3, 1) := by decide +kernel
theorem dL_law_288 : decode cL_law 288 = .ok (.iconst 2, 1) := by decide +kernel
theorem dL_law_289 : decode cL_law 289 = .ok (.iadd, 1) := by decide +kernel
theorem dL_law_290 : decode cL_law 290 = .ok (.iaload, 1) := by decide +kernel
theorem dL_law_291 : decode cL_law 291 = .ok (.aload_n 0, 1) := by decide +kernel
theorem dL_law_292 : decode cL_law 292 = .ok (.iload_n 3, 1) := by decide +kernel
theorem dL_law_293 : decode cL_law 293 = .ok (.iconst 3, 1) := by decide +kernel
theorem dL_law_294 : decode cL_law 294 = .ok (.iadd, 1) := by decide +kernel
theorem dL_law_295 : decode cL_law 295 = .ok (.iaload, 1) := by decide +kernel
theorem dL_law_296 : decode cL_law 296 = .ok (.aload_n 0, 1) := by decide +kernel
theorem dL_law_297 : decode cL_law 297 = .ok (.iload_n 3, 1) := by decide +kernel
theorem dL_law_298 : decode cL_law 298 = .ok (.iconst 4, 1) := by decide +kernel
theorem dL_law_299 : decode cL_law 299 = .ok (.iadd, 1) := by decide +kernel
theorem dL_law_300 : decode cL_law 300 = .ok (.iaload, 1) := by decide +kernel
theorem dL_law_301 : decode cL_law 301 = .ok (.invokevirtual 36, 3) := by decide +kernel
theorem dL_law_304 : decode cL_law 304 = .ok (.if_icmp .eq 302, 3) := by decide +kernel
theorem dL_law_307 : decode cL_law 307 = .ok (.iconst 0, 1) := by decide +kernel
theorem dL_law_308 : decode cL_law 308 = .ok (.ireturn, 1) := by decide +kernel
theorem dL_law_309 : decode cL_law 309 = .ok (.aload_n 1, 1) := by decide +kernel
theorem dL_law_310 : decode cL_law 310 = .ok (.aload_n 0, 1) := by decide +kernel
theorem dL_law_311 : decode cL_law 311 = .ok (.iload_n 3, 1) := by decide +kernel
theorem dL_law_312 : decode cL_law 312 = .ok (.iconst 1, 1) := by decide +kernel
theorem dL_law_313 : decode cL_law 313 = .ok (.iadd, 1) := by decide +kernel
theorem dL_law_314 : decode cL_law 314 = .ok (.iaload, 1) := by decide +kernel
theorem dL_law_315 : decode cL_law 315 = .ok (.aload_n 0, 1) := by decide +kernel
theorem dL_law_316 : decode cL_law 316 = .ok (.iload_n 3, 1) := by decide +kernel
theorem dL_law_317 : decode cL_law 317 = .ok (.iconst 2, 1) := by decide +kernel
theorem dL_law_318 : decode cL_law 318 = .ok (.iadd, 1) := by decide +kernel
theorem dL_law_319 : decode cL_law 319 = .ok (.iaload, 1) := by decide +kernel
theorem dL_law_320 : decode cL_law 320 = .ok (.aload_n 0, 1) := by decide +kernel
theorem dL_law_321 : decode cL_law 321 = .ok (.iload_n 3, 1) := by decide +kernel
theorem dL_law_322 : decode cL_law 322 = .ok (.iconst 3, 1) := by decide +kernel
theorem dL_law_323 : decode cL_law 323 = .ok (.iadd, 1) := by decide +kernel
theorem dL_law_324 : decode cL_law 324 = .ok (.iaload, 1) := by decide +kernel
theorem dL_law_325 : decode cL_law 325 = .ok (.invokevirtual 37, 3) := by decide +kernel
theorem dL_law_328 : decode cL_law 328 = .ok (.aload_n 2, 1) := by decide +kernel
theorem dL_law_329 : decode cL_law 329 = .ok (.aload_n 0, 1) := by decide +kernel
theorem dL_law_330 : decode cL_law 330 = .ok (.iload_n 3, 1) := by decide +kernel
theorem dL_law_331 : decode cL_law 331 = .ok (.iconst 1, 1) := by decide +kernel
theorem dL_law_332 : decode cL_law 332 = .ok (.iadd, 1) := by decide +kernel
theorem dL_law_333 : decode cL_law 333 = .ok (.iaload, 1) := by decide +kernel
theorem dL_law_334 : decode cL_law 334 = .ok (.aload_n 0, 1) := by decide +kernel
theorem dL_law_335 : decode cL_law 335 = .ok (.iload_n 3, 1) := by decide +kernel
theorem dL_law_336 : decode cL_law 336 = .ok (.iconst 2, 1) := by decide +kernel
theorem dL_law_337 : decode cL_law 337 = .ok (.iadd, 1) := by decide +kernel
theorem dL_law_338 : decode cL_law 338 = .ok (.iaload, 1) := by decide +kernel
theorem dL_law_339 : decode cL_law 339 = .ok (.aload_n 0, 1) := by decide +kernel
theorem dL_law_340 : decode cL_law 340 = .ok (.iload_n 3, 1) := by decide +kernel
theorem dL_law_341 : decode cL_law 341 = .ok (.iconst 3, 1) := by decide +kernel
theorem dL_law_342 : decode cL_law 342 = .ok (.iadd, 1) := by decide +kernel
theorem dL_law_343 : decode cL_law 343 = .ok (.iaload, 1) := by decide +kernel
theorem dL_law_344 : decode cL_law 344 = .ok (.invokevirtual 40, 3) := by decide +kernel
theorem dL_law_347 : decode cL_law 347 = .ok (.if_icmp .eq 259, 3) := by decide +kernel
theorem dL_law_350 : decode cL_law 350 = .ok (.iconst 0, 1) := by decide +kernel
theorem dL_law_351 : decode cL_law 351 = .ok (.ireturn, 1) := by decide +kernel
theorem dL_law_352 : decode cL_law 352 = .ok (.aload_n 1, 1) := by decide +kernel
theorem dL_law_353 : decode cL_law 353 = .ok (.aload_n 0, 1) := by decide +kernel
theorem dL_law_354 : decode cL_law 354 = .ok (.iload_n 3, 1) := by decide +kernel
theorem dL_law_355 : decode cL_law 355 = .ok (.iconst 1, 1) := by decide +kernel
theorem dL_law_356 : decode cL_law 356 = .ok (.iadd, 1) := by decide +kernel
theorem dL_law_357 : decode cL_law 357 = .ok (.iaload, 1) := by decide +kernel
theorem dL_law_358 : decode cL_law 358 = .ok (.aload_n 0, 1) := by decide +kernel
theorem dL_law_359 : decode cL_law 359 = .ok (.iload_n 3, 1) := by decide +kernel
theorem dL_law_360 : decode cL_law 360 = .ok (.iconst 2, 1) := by decide +kernel
theorem dL_law_361 : decode cL_law 361 = .ok (.iadd, 1) := by decide +kernel
theorem dL_law_362 : decode cL_law 362 = .ok (.iaload, 1) := by decide +kernel
theorem dL_law_363 : decode cL_law 363 = .ok (.aload_n 0, 1) := by decide +kernel
theorem dL_law_364 : decode cL_law 364 = .ok (.iload_n 3, 1) := by decide +kernel
theorem dL_law_365 : decode cL_law 365 = .ok (.iconst 3, 1) := by decide +kernel
theorem dL_law_366 : decode cL_law 366 = .ok (.iadd, 1) := by decide +kernel
theorem dL_law_367 : decode cL_law 367 = .ok (.iaload, 1) := by decide +kernel
theorem dL_law_368 : decode cL_law 368 = .ok (.invokevirtual 41, 3) := by decide +kernel
theorem dL_law_371 : decode cL_law 371 = .ok (.aload_n 2, 1) := by decide +kernel
theorem dL_law_372 : decode cL_law 372 = .ok (.aload_n 0, 1) := by decide +kernel
theorem dL_law_373 : decode cL_law 373 = .ok (.iload_n 3, 1) := by decide +kernel
theorem dL_law_374 : decode cL_law 374 = .ok (.iconst 1, 1) := by decide +kernel
theorem dL_law_375 : decode cL_law 375 = .ok (.iadd, 1) := by decide +kernel
theorem dL_law_376 : decode cL_law 376 = .ok (.iaload, 1) := by decide +kernel
theorem dL_law_377 : decode cL_law 377 = .ok (.aload_n 0, 1) := by decide +kernel
theorem dL_law_378 : decode cL_law 378 = .ok (.iload_n 3, 1) := by decide +kernel
theorem dL_law_379 : decode cL_law 379 = .ok (.iconst 2, 1) := by decide +kernel
theorem dL_law_380 : decode cL_law 380 = .ok (.iadd, 1) := by decide +kernel
theorem dL_law_381 : decode cL_law 381 = .ok (.iaload, 1) := by decide +kernel
theorem dL_law_382 : decode cL_law 382 = .ok (.aload_n 0, 1) := by decide +kernel
theorem dL_law_383 : decode cL_law 383 = .ok (.iload_n 3, 1) := by decide +kernel
theorem dL_law_384 : decode cL_law 384 = .ok (.iconst 3, 1) := by decide +kernel
theorem dL_law_385 : decode cL_law 385 = .ok (.iadd, 1) := by decide +kernel
theorem dL_law_386 : decode cL_law 386 = .ok (.iaload, 1) := by decide +kernel
theorem dL_law_387 : decode cL_law 387 = .ok (.invokevirtual 44, 3) := by decide +kernel
theorem dL_law_390 : decode cL_law 390 = .ok (.if_icmp .eq 216, 3) := by decide +kernel
theorem dL_law_393 : decode cL_law 393 = .ok (.iconst 0, 1) := by decide +kernel
theorem dL_law_394 : decode cL_law 394 = .ok (.ireturn, 1) := by decide +kernel
theorem dL_law_395 : decode cL_law 395 = .ok (.aload_n 1, 1) := by decide +kernel
theorem dL_law_396 : decode cL_law 396 = .ok (.aload_n 0, 1) := by decide +kernel
theorem dL_law_397 : decode cL_law 397 = .ok (.iload_n 3, 1) := by decide +kernel
theorem dL_law_398 : decode cL_law 398 = .ok (.iconst 1, 1) := by decide +kernel
theorem dL_law_399 : decode cL_law 399 = .ok (.iadd, 1) := by decide +kernel
theorem dL_law_400 : decode cL_law 400 = .ok (.iaload, 1) := by decide +kernel
theorem dL_law_401 : decode cL_law 401 = .ok (.aload_n 0, 1) := by decide +kernel
theorem dL_law_402 : decode cL_law 402 = .ok (.iload_n 3, 1) := by decide +kernel
theorem dL_law_403 : decode cL_law 403 = .ok (.iconst 2, 1) := by decide +kernel
theorem dL_law_404 : decode cL_law 404 = .ok (.iadd, 1) := by decide +kernel
theorem dL_law_405 : decode cL_law 405 = .ok (.iaload, 1) := by decide +kernel
theorem dL_law_406 : decode cL_law 406 = .ok (.aload_n 0, 1) := by decide +kernel
theorem dL_law_407 : decode cL_law 407 = .ok (.iload_n 3, 1) := by decide +kernel
theorem dL_law_408 : decode cL_law 408 = .ok (.iconst 3, 1) := by decide +kernel
theorem dL_law_409 : decode cL_law 409 = .ok (.iadd, 1) := by decide +kernel
theorem dL_law_410 : decode cL_law 410 = .ok (.iaload, 1) := by decide +kernel
theorem dL_law_411 : decode cL_law 411 = .ok (.invokevirtual 45, 3) := by decide +kernel
theorem dL_law_414 : decode cL_law 414 = .ok (.aload_n 2, 1) := by decide +kernel
theorem dL_law_415 : decode cL_law 415 = .ok (.aload_n 0, 1) := by decide +kernel
theorem dL_law_416 : decode cL_law 416 = .ok (.iload_n 3, 1) := by decide +kernel
theorem dL_law_417 : decode cL_law 417 = .ok (.iconst 1, 1) := by decide +kernel
theorem dL_law_418 : decode cL_law 418 = .ok (.iadd, 1) := by decide +kernel
theorem dL_law_419 : decode cL_law 419 = .ok (.iaload, 1) := by decide +kernel
theorem dL_law_420 : decode cL_law 420 = .ok (.aload_n 0, 1) := by decide +kernel
theorem dL_law_421 : decode cL_law 421 = .ok (.iload_n 3, 1) := by decide +kernel
theorem dL_law_422 : decode cL_law 422 = .ok (.iconst 2, 1) := by decide +kernel
theorem dL_law_423 : decode cL_law 423 = .ok (.iadd, 1) := by decide +kernel
theorem dL_law_424 : decode cL_law 424 = .ok (.iaload, 1) := by decide +kernel
theorem dL_law_425 : decode cL_law 425 = .ok (.aload_n 0, 1) := by decide +kernel
theorem dL_law_426 : decode cL_law 426 = .ok (.iload_n 3, 1) := by decide +kernel
theorem dL_law_427 : decode cL_law 427 = .ok (.iconst 3, 1) := by decide +kernel
theorem dL_law_428 : decode cL_law 428 = .ok (.iadd, 1) := by decide +kernel
theorem dL_law_429 : decode cL_law 429 = .ok (.iaload, 1) := by decide +kernel
theorem dL_law_430 : decode cL_law 430 = .ok (.invokevirtual 48, 3) := by decide +kernel
theorem dL_law_433 : decode cL_law 433 = .ok (.if_icmp .eq 173, 3) := by decide +kernel
theorem dL_law_436 : decode cL_law 436 = .ok (.iconst 0, 1) := by decide +kernel
theorem dL_law_437 : decode cL_law 437 = .ok (.ireturn, 1) := by decide +kernel
theorem dL_law_438 : decode cL_law 438 = .ok (.aload_n 1, 1) := by decide +kernel
theorem dL_law_439 : decode cL_law 439 = .ok (.aload_n 0, 1) := by decide +kernel
theorem dL_law_440 : decode cL_law 440 = .ok (.iload_n 3, 1) := by decide +kernel
theorem dL_law_441 : decode cL_law 441 = .ok (.iconst 1, 1) := by decide +kernel
theorem dL_law_442 : decode cL_law 442 = .ok (.iadd, 1) := by decide +kernel
theorem dL_law_443 : decode cL_law 443 = .ok (.iaload, 1) := by decide +kernel
theorem dL_law_444 : decode cL_law 444 = .ok (.invokevirtual 49, 3) := by decide +kernel
theorem dL_law_447 : decode cL_law 447 = .ok (.aload_n 2, 1) := by decide +kernel
theorem dL_law_448 : decode cL_law 448 = .ok (.aload_n 0, 1) := by decide +kernel
theorem dL_law_449 : decode cL_law 449 = .ok (.iload_n 3, 1) := by decide +kernel
theorem dL_law_450 : decode cL_law 450 = .ok (.iconst 1, 1) := by decide +kernel
theorem dL_law_451 : decode cL_law 451 = .ok (.iadd, 1) := by decide +kernel
theorem dL_law_452 : decode cL_law 452 = .ok (.iaload, 1) := by decide +kernel
theorem dL_law_453 : decode cL_law 453 = .ok (.invokevirtual 53, 3) := by decide +kernel
theorem dL_law_456 : decode cL_law 456 = .ok (.if_icmp .eq 150, 3) := by decide +kernel
theorem dL_law_459 : decode cL_law 459 = .ok (.iconst 0, 1) := by decide +kernel
theorem dL_law_460 : decode cL_law 460 = .ok (.ireturn, 1) := by decide +kernel
theorem dL_law_461 : decode cL_law 461 = .ok (.aload_n 1, 1) := by decide +kernel
theorem dL_law_462 : decode cL_law 462 = .ok (.invokevirtual 54, 3) := by decide +kernel
theorem dL_law_465 : decode cL_law 465 = .ok (.aload_n 2, 1) := by decide +kernel
theorem dL_law_466 : decode cL_law 466 = .ok (.invokevirtual 58, 3) := by decide +kernel
theorem dL_law_469 : decode cL_law 469 = .ok (.if_icmp .eq 137, 3) := by decide +kernel
theorem dL_law_472 : decode cL_law 472 = .ok (.iconst 0, 1) := by decide +kernel
theorem dL_law_473 : decode cL_law 473 = .ok (.ireturn, 1) := by decide +kernel
theorem dL_law_474 : decode cL_law 474 = .ok (.aload_n 1, 1) := by decide +kernel
theorem dL_law_475 : decode cL_law 475 = .ok (.aload_n 0, 1) := by decide +kernel
theorem dL_law_476 : decode cL_law 476 = .ok (.iload_n 3, 1) := by decide +kernel
theorem dL_law_477 : decode cL_law 477 = .ok (.iconst 1, 1) := by decide +kernel
theorem dL_law_478 : decode cL_law 478 = .ok (.iadd, 1) := by decide +kernel
theorem dL_law_479 : decode cL_law 479 = .ok (.iaload, 1) := by decide +kernel
theorem dL_law_480 : decode cL_law 480 = .ok (.aload_n 0, 1) := by decide +kernel
theorem dL_law_481 : decode cL_law 481 = .ok (.iload_n 3, 1) := by decide +kernel
theorem dL_law_482 : decode cL_law 482 = .ok (.iconst 2, 1) := by decide +kernel
theorem dL_law_483 : decode cL_law 483 = .ok (.iadd, 1) := by decide +kernel
theorem dL_law_484 : decode cL_law 484 = .ok (.iaload, 1) := by decide +kernel
theorem dL_law_485 : decode cL_law 485 = .ok (.invokevirtual 59, 3) := by decide +kernel
theorem dL_law_488 : decode cL_law 488 = .ok (.aload_n 2, 1) := by decide +kernel
theorem dL_law_489 : decode cL_law 489 = .ok (.aload_n 0, 1) := by decide +kernel
theorem dL_law_490 : decode cL_law 490 = .ok (.iload_n 3, 1) := by decide +kernel
theorem dL_law_491 : decode cL_law 491 = .ok (.iconst 1, 1) := by decide +kernel
theorem dL_law_492 : decode cL_law 492 = .ok (.iadd, 1) := by decide +kernel
theorem dL_law_493 : decode cL_law 493 = .ok (.iaload, 1) := by decide +kernel
theorem dL_law_494 : decode cL_law 494 = .ok (.aload_n 0, 1) := by decide +kernel
theorem dL_law_495 : decode cL_law 495 = .ok (.iload_n 3, 1) := by decide +kernel
theorem dL_law_496 : decode cL_law 496 = .ok (.iconst 2, 1) := by decide +kernel
theorem dL_law_497 : decode cL_law 497 = .ok (.iadd, 1) := by decide +kernel
theorem dL_law_498 : decode cL_law 498 = .ok (.iaload, 1) := by decide +kernel
theorem dL_law_499 : decode cL_law 499 = .ok (.invokevirtual 63, 3) := by decide +kernel
theorem dL_law_502 : decode cL_law 502 = .ok (.if_icmp .eq 104, 3) := by decide +kernel
theorem dL_law_505 : decode cL_law 505 = .ok (.iconst 0, 1) := by decide +kernel
theorem dL_law_506 : decode cL_law 506 = .ok (.ireturn, 1) := by decide +kernel
theorem dL_law_507 : decode cL_law 507 = .ok (.aload_n 1, 1) := by decide +kernel
theorem dL_law_508 : decode cL_law 508 = .ok (.aload_n 0, 1) := by decide +kernel
theorem dL_law_509 : decode cL_law 509 = .ok (.iload_n 3, 1) := by decide +kernel
theorem dL_law_510 : decode cL_law 510 = .ok (.iconst 1, 1) := by decide +kernel
theorem dL_law_511 : decode cL_law 511 = .ok (.iadd, 1) := by decide +kernel
theorem dL_law_512 : decode cL_law 512 = .ok (.iaload, 1) := by decide +kernel
theorem dL_law_513 : decode cL_law 513 = .ok (.aload_n 0, 1) := by decide +kernel
theorem dL_law_514 : decode cL_law 514 = .ok (.iload_n 3, 1) := by decide +kernel
theorem dL_law_515 : decode cL_law 515 = .ok (.iconst 2, 1) := by decide +kernel
theorem dL_law_516 : decode cL_law 516 = .ok (.iadd, 1) := by decide +kernel
theorem dL_law_517 : decode cL_law 517 = .ok (.iaload, 1) := by decide +kernel
theorem dL_law_518 : decode cL_law 518 = .ok (.invokevirtual 64, 3) := by decide +kernel
theorem dL_law_521 : decode cL_law 521 = .ok (.aload_n 2, 1) := by decide +kernel
theorem dL_law_522 : decode cL_law 522 = .ok (.aload_n 0, 1) := by decide +kernel
theorem dL_law_523 : decode cL_law 523 = .ok (.iload_n 3, 1) := by decide +kernel
theorem dL_law_524 : decode cL_law 524 = .ok (.iconst 1, 1) := by decide +kernel
theorem dL_law_525 : decode cL_law 525 = .ok (.iadd, 1) := by decide +kernel
theorem dL_law_526 : decode cL_law 526 = .ok (.iaload, 1) := by decide +kernel
theorem dL_law_527 : decode cL_law 527 = .ok (.aload_n 0, 1) := by decide +kernel
theorem dL_law_528 : decode cL_law 528 = .ok (.iload_n 3, 1) := by decide +kernel
theorem dL_law_529 : decode cL_law 529 = .ok (.iconst 2, 1) := by decide +kernel
theorem dL_law_530 : decode cL_law 530 = .ok (.iadd, 1) := by decide +kernel
theorem dL_law_531 : decode cL_law 531 = .ok (.iaload, 1) := by decide +kernel
theorem dL_law_532 : decode cL_law 532 = .ok (.invokevirtual 67, 3) := by decide +kernel
theorem dL_law_535 : decode cL_law 535 = .ok (.if_icmp .eq 71, 3) := by decide +kernel
theorem dL_law_538 : decode cL_law 538 = .ok (.iconst 0, 1) := by decide +kernel
theorem dL_law_539 : decode cL_law 539 = .ok (.ireturn, 1) := by decide +kernel
theorem dL_law_540 : decode cL_law 540 = .ok (.aload_n 1, 1) := by decide +kernel
theorem dL_law_541 : decode cL_law 541 = .ok (.aload_n 0, 1) := by decide +kernel
theorem dL_law_542 : decode cL_law 542 = .ok (.iload_n 3, 1) := by decide +kernel
theorem dL_law_543 : decode cL_law 543 = .ok (.iconst 1, 1) := by decide +kernel
theorem dL_law_544 : decode cL_law 544 = .ok (.iadd, 1) := by decide +kernel
theorem dL_law_545 : decode cL_law 545 = .ok (.iaload, 1) := by decide +kernel
theorem dL_law_546 : decode cL_law 546 = .ok (.aload_n 0, 1) := by decide +kernel
theorem dL_law_547 : decode cL_law 547 = .ok (.iload_n 3, 1) := by decide +kernel
theorem dL_law_548 : decode cL_law 548 = .ok (.iconst 2, 1) := by decide +kernel
theorem dL_law_549 : decode cL_law 549 = .ok (.iadd, 1) := by decide +kernel
theorem dL_law_550 : decode cL_law 550 = .ok (.iaload, 1) := by decide +kernel
theorem dL_law_551 : decode cL_law 551 = .ok (.aload_n 0, 1) := by decide +kernel
theorem dL_law_552 : decode cL_law 552 = .ok (.iload_n 3, 1) := by decide +kernel
theorem dL_law_553 : decode cL_law 553 = .ok (.iconst 3, 1) := by decide +kernel
theorem dL_law_554 : decode cL_law 554 = .ok (.iadd, 1) := by decide +kernel
theorem dL_law_555 : decode cL_law 555 = .ok (.iaload, 1) := by decide +kernel
theorem dL_law_556 : decode cL_law 556 = .ok (.invokevirtual 68, 3) := by decide +kernel
theorem dL_law_559 : decode cL_law 559 = .ok (.aload_n 2, 1) := by decide +kernel
theorem dL_law_560 : decode cL_law 560 = .ok (.aload_n 0, 1) := by decide +kernel
theorem dL_law_561 : decode cL_law 561 = .ok (.iload_n 3, 1) := by decide +kernel
theorem dL_law_562 : decode cL_law 562 = .ok (.iconst 1, 1) := by decide +kernel
theorem dL_law_563 : decode cL_law 563 = .ok (.iadd, 1) := by decide +kernel
theorem dL_law_564 : decode cL_law 564 = .ok (.iaload, 1) := by decide +kernel
theorem dL_law_565 : decode cL_law 565 = .ok (.aload_n 0, 1) := by decide +kernel
theorem dL_law_566 : decode cL_law 566 = .ok (.iload_n 3, 1) := by decide +kernel
theorem dL_law_567 : decode cL_law 567 = .ok (.iconst 2, 1) := by decide +kernel
theorem dL_law_568 : decode cL_law 568 = .ok (.iadd, 1) := by decide +kernel
theorem dL_law_569 : decode cL_law 569 = .ok (.iaload, 1) := by decide +kernel
theorem dL_law_570 : decode cL_law 570 = .ok (.aload_n 0, 1) := by decide +kernel
theorem dL_law_571 : decode cL_law 571 = .ok (.iload_n 3, 1) := by decide +kernel
theorem dL_law_572 : decode cL_law 572 = .ok (.iconst 3, 1) := by decide +kernel
theorem dL_law_573 : decode cL_law 573 = .ok (.iadd, 1) := by decide +kernel
theorem dL_law_574 : decode cL_law 574 = .ok (.iaload, 1) := by decide +kernel
theorem dL_law_575 : decode cL_law 575 = .ok (.invokevirtual 71, 3) := by decide +kernel
theorem dL_law_578 : decode cL_law 578 = .ok (.if_icmp .eq 28, 3) := by decide +kernel
theorem dL_law_581 : decode cL_law 581 = .ok (.iconst 0, 1) := by decide +kernel
theorem dL_law_582 : decode cL_law 582 = .ok (.ireturn, 1) := by decide +kernel
theorem dL_law_583 : decode cL_law 583 = .ok (.aload_n 1, 1) := by decide +kernel
theorem dL_law_584 : decode cL_law 584 = .ok (.aload_n 0, 1) := by decide +kernel
theorem dL_law_585 : decode cL_law 585 = .ok (.iload_n 3, 1) := by decide +kernel
theorem dL_law_586 : decode cL_law 586 = .ok (.iconst 1, 1) := by decide +kernel
theorem dL_law_587 : decode cL_law 587 = .ok (.iadd, 1) := by decide +kernel
theorem dL_law_588 : decode cL_law 588 = .ok (.iaload, 1) := by decide +kernel
theorem dL_law_589 : decode cL_law 589 = .ok (.invokevirtual 72, 3) := by decide +kernel
theorem dL_law_592 : decode cL_law 592 = .ok (.aload_n 2, 1) := by decide +kernel
theorem dL_law_593 : decode cL_law 593 = .ok (.aload_n 0, 1) := by decide +kernel
theorem dL_law_594 : decode cL_law 594 = .ok (.iload_n 3, 1) := by decide +kernel
theorem dL_law_595 : decode cL_law 595 = .ok (.iconst 1, 1) := by decide +kernel
theorem dL_law_596 : decode cL_law 596 = .ok (.iadd, 1) := by decide +kernel
theorem dL_law_597 : decode cL_law 597 = .ok (.iaload, 1) := by decide +kernel
theorem dL_law_598 : decode cL_law 598 = .ok (.invokevirtual 75, 3) := by decide +kernel
theorem dL_law_601 : decode cL_law 601 = .ok (.if_icmp .eq 5, 3) := by decide +kernel
theorem dL_law_604 : decode cL_law 604 = .ok (.iconst 0, 1) := by decide +kernel
theorem dL_law_605 : decode cL_law 605 = .ok (.ireturn, 1) := by decide +kernel
theorem dL_law_606 : decode cL_law 606 = .ok (.iinc 3 6, 3) := by decide +kernel
theorem dL_law_609 : decode cL_law 609 = .ok (.goto (-591), 3) := by decide +kernel
theorem dL_law_612 : decode cL_law 612 = .ok (.iconst 1, 1) := by decide +kernel
theorem dL_law_613 : decode cL_law 613 = .ok (.ireturn, 1) := by decide +kernel
end
section
/-! 02a: cells by their numbers beyond the old heap O; the judgement gv; a row an instruction -/
abbrev xg_G : Type := va_G × (Nat → ClassId)
def xg_tys (a : Nat → ClassId) : List (ClassId × FieldType) := [(a 0, .int), (a 1, .array .int), (a 2, .object "UnderText$Half"), (a 3, .object "UnderText$Leaf"), (a 4, .boolean)]
def xg_nest : List (String × Nat × MethodName) := [(RX8, 9, yX6_init), (RX8, 18, yX5_init), (RX5, 11, yX7_init), (RX2, 21, yX1_init), (RX5, 27, yX3_init), (RX8, 37, yX4_init), (RX0, 33, yX3_init), (RX7, 39, yX8_isWithin), (RX5, 97, yX8_isWithin), (RX5, 77, yX8_lettersAhead), (RX5, 93, yX8_hasLetter), (RX4, 63, yX8_isWithin)]
/-- what the tables say, beside the words -/
def xg_K (G : xg_G) (U : State) : Prop := va_K G.1 vwCl (xg_tys G.2) U ∧ (∀ q ∈ xg_nest, va_Nw (.methodLinkNest q.1 q.2.1 q.2.2 RX8) U) ∧ va_AO "UnderText$Half" U ∧ va_AO "UnderText$Leaf" U ∧ (Cond.arrayOver (.array .int)).before #[] U = true
theorem xg_K.warm {G : xg_G} {s U : State} (hW : s.WarmedH U.vm) (h : xg_K G s) : xg_K G U :=
  ⟨va_K.moved hW.alike h.1, fun q hq => va_Nw.warmM hW (h.2.1 q hq), va_AO.moved hW.alike h.2.2.1, va_AO.moved hW.alike h.2.2.2.1, over_moved hW.alike h.2.2.2.2⟩
theorem xg_K.calling {G : xg_G} {U : State} {g : JFrame} {mk : MethodId} {a : Array Value} (h : xg_K G U) : xg_K G (U.calling g mk a) :=
  ⟨va_K.moved (u := U) (Vm.Alike.refl U.vm) h.1, fun q hq => va_Nw.same (u := U) rfl rfl (h.2.1 q hq), va_AO.moved (u := U) (Vm.Alike.refl U.vm) h.2.2.1, va_AO.moved (u := U) (Vm.Alike.refl U.vm) h.2.2.2.1, over_moved (u := U) (Vm.Alike.refl U.vm) h.2.2.2.2⟩
def xg_up (w : Nat → va_E) (k : Nat) (e : va_E) : Nat → va_E := fun j => if j = k then e else w j
/-- the heap holds the cells w 0 .. w (n-1) behind the old heap O, which is as it was -/
def xg_hp (G : xg_G) (O : Heap) (w : Nat → va_E) (n : Nat) (H : Heap) : Prop := (∀ k, k < n → va_at G.1 vwCl (O.size + k, w k) H) ∧ ∀ q, q < O.size → H[q]? = O[q]?
theorem xg_hp.set {G : xg_G} {O : Heap} {w : Nat → va_E} {n : Nat} {H H1 : Heap} (h : xg_hp G O w n H) {k : Nat} (e : va_E) (hat : va_at G.1 vwCl (O.size + k, e) H1) (oq : ∀ q, q ≠ O.size + k → H1[q]? = H[q]?) : xg_hp G O (xg_up w k e) n H1 := by
  refine ⟨fun j hj => ?_, fun q hq => ?_⟩
  · unfold xg_up
    by_cases hjk : j = k
    · rw [if_pos hjk, hjk]; exact hat
    · rw [if_neg hjk]
      exact (h.1 j hj).kept (oq _ (by show O.size + j ≠ O.size + k; omega))
  · rw [oq q (by omega)]; exact h.2 q hq
theorem xg_hp.push {G : xg_G} {O : Heap} {w : Nat → va_E} {n : Nat} {H H1 : Heap} (h : xg_hp G O w n H) (e : va_E) (hat : va_at G.1 vwCl (O.size + n, e) H1) (oq : ∀ q, q < O.size + n → H1[q]? = H[q]?) : xg_hp G O (xg_up w n e) (n + 1) H1 := by
  refine ⟨fun j hj => ?_, fun q hq => ?_⟩
  · unfold xg_up
    by_cases hjk : j = n
    · rw [if_pos hjk, hjk]; exact hat
    · rw [if_neg hjk]
      exact (h.1 j (by omega)).kept (oq _ (by show O.size + j < O.size + n; omega))
  · rw [oq q (by omega)]; exact h.2 q hq
/-- one cell of the world as a list -/
theorem xg_hp.one {G : xg_G} {O : Heap} {w : Nat → va_E} {n : Nat} {H : Heap} (h : xg_hp G O w n H) {k : Nat} (hk : k < n) : va_P G.1 vwCl [(O.size + k, w k)] H := by
  intro i q hq
  match i, hq with
  | 0, hq => cases hq; exact h.1 k hk
  | i + 1, hq => simp at hq
/-- the locals: those that are known, of one word each -/
def xl_has (ls : Array Slot) (nL : Nat) (L : List (Option Value)) : Prop := ls.size = nL ∧ lv_wf ls ∧ L.length = nL ∧ ∀ (i : Nat) (v : Value), L[i]? = some (some v) → ls[i]? = some (.val v) ∧ v.category = 1
theorem xl_has.at {ls : Array Slot} {nL : Nat} {L : List (Option Value)} (h : xl_has ls nL L) {i : Nat} {v : Value} (hi : L[i]? = some (some v)) : ls[i]? = some (.val v) := (h.2.2.2 i v hi).1
def xl_ps (L : List (Option Value)) : List (Nat × Value) := (List.range L.length).filterMap (fun i => match L[i]? with | some (some v) => some (i, v) | _ => none)
theorem xl_ps_mem {L : List (Option Value)} {j : Nat} {u : Value} (h : L[j]? = some (some u)) : (j, u) ∈ xl_ps L := by
  refine List.mem_filterMap.mpr ⟨j, List.mem_range.mpr (List.getElem?_eq_some_iff.mp h).1, ?_⟩
  rw [h]
theorem xl_ps_of {L : List (Option Value)} {q : Nat × Value} (h : q ∈ xl_ps L) : L[q.1]? = some (some q.2) := by
  obtain ⟨i, -, hi⟩ := List.mem_filterMap.mp h
  revert hi
  split
  · rename_i v hv
    intro hi
    cases hi
    exact hv
  · intro hi; cases hi
theorem xl_has.lv {ls : Array Slot} {nL : Nat} {L : List (Option Value)} (h : xl_has ls nL L) : lv_has ls nL (xl_ps L) := ⟨h.1, h.2.1, fun q hq => h.at (xl_ps_of hq)⟩
theorem xl_has.store {ls ls' : Array Slot} {nL : Nat} {L : List (Option Value)} (h : xl_has ls nL L) {i : Nat} {v : Value} (hc : v.category = 1) (hi : i < nL) (h' : lv_has ls' nL ((i, v) :: (xl_ps L).filter (fun q => !(q.1 == i) && !(q.1 + 1 == i && q.2.category == 2)))) : xl_has ls' nL (L.set i (some v)) := by
  refine ⟨h'.1, h'.2.1, by rw [List.length_set]; exact h.2.2.1, fun j u hj => ?_⟩
  by_cases hji : j = i
  · subst hji
    rw [List.getElem?_set_self (by rw [h.2.2.1]; exact hi)] at hj
    cases hj
    exact ⟨h'.2.2 _ List.mem_cons_self, hc⟩
  · rw [List.getElem?_set_ne (Ne.symm hji)] at hj
    have hu := (h.2.2.2 j u hj).2
    refine ⟨h'.2.2 (j, u) (List.mem_cons_of_mem _ (List.mem_filter.mpr ⟨xl_ps_mem hj, ?_⟩)), hu⟩
    simp [hji, hu]
theorem xl_args : ∀ (vs : List Value) (i : Nat), (∀ v ∈ vs, v.category = 1) → ∀ (j : Nat) (u : Value), vs[j]? = some u → (i + j, u) ∈ lv_args i vs
  | [], _, _, j, u, h => by simp at h
  | v :: vs, i, hc, j, u, h => by
    unfold lv_args
    have h1 : ¬ v.category = 2 := by rw [hc v List.mem_cons_self]; decide
    rw [if_neg h1]
    match j, h with
    | 0, h => simp at h; subst h; simp
    | j + 1, h =>
      have h2 : vs[j]? = some u := by simpa using h
      have := xl_args vs (i + 1) (fun v hv => hc v (List.mem_cons_of_mem _ hv)) j u h2
      rw [show i + (j + 1) = i + 1 + j by omega]
      exact List.mem_cons_of_mem _ this
theorem xl_entry (vs : List Value) (k : Nat) (hc : ∀ v ∈ vs, v.category = 1) {n : Nat} (hn : vs.length + k = n) : ∃ ls, (∀ m : MethodId, entryFrame m vs.toArray n = F0 m 0 ls []) ∧ xl_has ls n (vs.map some ++ List.replicate k none) := by
  have hlen : ∀ (vs : List Value), (∀ v ∈ vs, v.category = 1) → (lg_sl vs).length = vs.length := by
    intro vs
    induction vs with
    | nil => intro _; rfl
    | cons v vs ih =>
      intro hc
      have h1 := hc v List.mem_cons_self
      have h2 := ih (fun v hv => hc v (List.mem_cons_of_mem _ hv))
      simp only [lg_sl] at h2 ⊢
      simp_all
  have hl := lv_entry vs (n := n) (by rw [hlen vs hc]; omega)
  refine ⟨_, fun m => lg_entry_eq m vs n, hl.1, hl.2.1, by simp; exact hn, fun i v hi => ?_⟩
  have hv : vs[i]? = some v := by
    rcases Nat.lt_or_ge i vs.length with q | q
    · rw [List.getElem?_append_left (by simpa using q), List.getElem?_map] at hi
      cases hvi : vs[i]? with
      | none => rw [hvi] at hi; cases hi
      | some u => rw [hvi] at hi; cases hi; rfl
    · rw [List.getElem?_append_right (by simpa using q)] at hi
      have := (List.getElem?_eq_some_iff.mp hi).2
      simp at this
  have := xl_args vs 0 hc i v hv
  rw [Nat.zero_add] at this
  exact ⟨hl.2.2 _ this, hc v (List.mem_of_getElem? hv)⟩
/-- the walk: at pc, with the locals L, the stack st and the cells w (n of them; z: the heap ends with them) -/
def gv (z : Prop) (p : Program) (l : Launch) (e : Env) (R : Room) (s : State) (m : MethodId) (args : Array Value) (below : List Frame) (meth : Method) (c : Code) (nL : Nat) (G : xg_G) (O : Heap) (cells slots : Nat) (Q : State → Prop) (n : Nat) (w : Nat → va_E) (L : List (Option Value)) (pc : Nat) (st : List Value) : Prop :=
  ∀ (H : Heap) (ls : Array Slot) (locs : List Loc), xl_has ls nL L → xg_hp G O w n H → (z → H.size = O.size + n) → (∀ q ∈ locs, O.size ≤ q.base) → W p l e R s m args below meth c H locs cells slots Q (F0 m pc ls st)
/-- what is fixed over a walk -/
def xg_X (p : Program) (m : MethodId) (c : Code) (cc : ByteArray) (nL : Nat) (s : State) (args : Array Value) (own : String) (G : xg_G) : Prop := CallFix p m c cc nL s args xw_T own ∧ xg_K G s
section XB
variable {z : Prop} {p : Program} {l : Launch} {e : Env} {R : Room} {s : State} {m : MethodId} {args : Array Value} {below : List Frame} {meth : Method} {c : Code} {nL : Nat} {G : xg_G} {O : Heap} {cells slots : Nat} {Q : State → Prop} {n : Nat} {w : Nat → va_E} {L : List (Option Value)} {pc : Nat} {rest : List Value} {cc : ByteArray} {own : String}
theorem g_iconst (X : xg_X p m c cc nL s args own G) {k : Int} {v : Int32} (hd : decode cc pc = .ok (.iconst k, 1)) (hv : Int32.ofInt k = v) (kk : gv z p l e R s m args below meth c nL G O cells slots Q n w L (pc + 1) (.int v :: rest)) : gv z p l e R s m args below meth c nL G O cells slots Q n w L (pc) (rest) :=
  fun H ls locs hl hh hz hq => lv_iconst X.1.1 X.1.2.1 hd hv (kk H ls locs hl hh hz hq)
theorem g_bipush (X : xg_X p m c cc nL s args own G) {k : Int} {v : Int32} (hd : decode cc pc = .ok (.bipush k, 2)) (hv : (Int8.ofInt k).toInt32 = v) (kk : gv z p l e R s m args below meth c nL G O cells slots Q n w L (pc + 2) (.int v :: rest)) : gv z p l e R s m args below meth c nL G O cells slots Q n w L (pc) (rest) :=
  fun H ls locs hl hh hz hq => lv_bipush X.1.1 X.1.2.1 hd hv (kk H ls locs hl hh hz hq)
theorem g_sipush (X : xg_X p m c cc nL s args own G) {k : Int} {v : Int32} (hd : decode cc pc = .ok (.sipush k, 3)) (hv : (Int16.ofInt k).toInt32 = v) (kk : gv z p l e R s m args below meth c nL G O cells slots Q n w L (pc + 3) (.int v :: rest)) : gv z p l e R s m args below meth c nL G O cells slots Q n w L (pc) (rest) :=
  fun H ls locs hl hh hz hq => lv_sipush X.1.1 X.1.2.1 hd hv (kk H ls locs hl hh hz hq)
theorem g_iload_n (X : xg_X p m c cc nL s args own G) {k : Fin 4} {i : Nat} {x : Int32} (hd : decode cc pc = .ok (.iload_n k, 1)) (hi : (k : Nat) = i) (hx : L[i]? = some (some (.int x))) (kk : gv z p l e R s m args below meth c nL G O cells slots Q n w L (pc + 1) (.int x :: rest)) : gv z p l e R s m args below meth c nL G O cells slots Q n w L (pc) (rest) :=
  fun H ls locs hl hh hz hq => lv_iload_n X.1.1 X.1.2.1 hd hi (hl.at hx) (kk H ls locs hl hh hz hq)
theorem g_iload (X : xg_X p m c cc nL s args own G) {i : Nat} {x : Int32} (hd : decode cc pc = .ok (.iload i, 2)) (hx : L[i]? = some (some (.int x))) (kk : gv z p l e R s m args below meth c nL G O cells slots Q n w L (pc + 2) (.int x :: rest)) : gv z p l e R s m args below meth c nL G O cells slots Q n w L (pc) (rest) :=
  fun H ls locs hl hh hz hq => lv_iload X.1.1 X.1.2.1 hd (hl.at hx) (kk H ls locs hl hh hz hq)
theorem g_aload_n (X : xg_X p m c cc nL s args own G) {k : Fin 4} {i : Nat} {x : Nat} (hd : decode cc pc = .ok (.aload_n k, 1)) (hi : (k : Nat) = i) (hx : L[i]? = some (some (.ref x))) (kk : gv z p l e R s m args below meth c nL G O cells slots Q n w L (pc + 1) (.ref x :: rest)) : gv z p l e R s m args below meth c nL G O cells slots Q n w L (pc) (rest) :=
  fun H ls locs hl hh hz hq => lv_aload_n X.1.1 X.1.2.1 hd hi (hl.at hx) (kk H ls locs hl hh hz hq)
theorem g_aload (X : xg_X p m c cc nL s args own G) {i : Nat} {x : Nat} (hd : decode cc pc = .ok (.aload i, 2)) (hx : L[i]? = some (some (.ref x))) (kk : gv z p l e R s m args below meth c nL G O cells slots Q n w L (pc + 2) (.ref x :: rest)) : gv z p l e R s m args below meth c nL G O cells slots Q n w L (pc) (rest) :=
  fun H ls locs hl hh hz hq => lv_aload X.1.1 X.1.2.1 hd (hl.at hx) (kk H ls locs hl hh hz hq)
theorem g_istore_n (X : xg_X p m c cc nL s args own G) {k : Fin 4} {i : Nat} {x : Int32} (hd : decode cc pc = .ok (.istore_n k, 1)) (hi : (k : Nat) = i) (hn : i < nL) (kk : gv z p l e R s m args below meth c nL G O cells slots Q n w (L.set i (some (.int x))) (pc + 1) (rest)) : gv z p l e R s m args below meth c nL G O cells slots Q n w L (pc) (.int x :: rest) :=
  fun H ls locs hl hh hz hq => lv_istore_n X.1.1 X.1.2.1 hd hi hl.lv hn rfl (fun ls2 hl2 => kk H ls2 locs (hl.store rfl hn hl2) hh hz hq)
theorem g_istore (X : xg_X p m c cc nL s args own G) {i : Nat} {x : Int32} (hd : decode cc pc = .ok (.istore i, 2)) (hn : i < nL) (kk : gv z p l e R s m args below meth c nL G O cells slots Q n w (L.set i (some (.int x))) (pc + 2) (rest)) : gv z p l e R s m args below meth c nL G O cells slots Q n w L (pc) (.int x :: rest) :=
  fun H ls locs hl hh hz hq => lv_istore X.1.1 X.1.2.1 hd hl.lv hn rfl (fun ls2 hl2 => kk H ls2 locs (hl.store rfl hn hl2) hh hz hq)
theorem g_astore_n (X : xg_X p m c cc nL s args own G) {k : Fin 4} {i : Nat} {x : Nat} (hd : decode cc pc = .ok (.astore_n k, 1)) (hi : (k : Nat) = i) (hn : i < nL) (kk : gv z p l e R s m args below meth c nL G O cells slots Q n w (L.set i (some (.ref x))) (pc + 1) (rest)) : gv z p l e R s m args below meth c nL G O cells slots Q n w L (pc) (.ref x :: rest) :=
  fun H ls locs hl hh hz hq => lv_astore_n X.1.1 X.1.2.1 hd hi hl.lv hn rfl (fun ls2 hl2 => kk H ls2 locs (hl.store rfl hn hl2) hh hz hq)
theorem g_astore (X : xg_X p m c cc nL s args own G) {i : Nat} {x : Nat} (hd : decode cc pc = .ok (.astore i, 2)) (hn : i < nL) (kk : gv z p l e R s m args below meth c nL G O cells slots Q n w (L.set i (some (.ref x))) (pc + 2) (rest)) : gv z p l e R s m args below meth c nL G O cells slots Q n w L (pc) (.ref x :: rest) :=
  fun H ls locs hl hh hz hq => lv_astore X.1.1 X.1.2.1 hd hl.lv hn rfl (fun ls2 hl2 => kk H ls2 locs (hl.store rfl hn hl2) hh hz hq)
theorem g_iinc (X : xg_X p m c cc nL s args own G) {i : Nat} {k : Int} {x v : Int32} (hd : decode cc pc = .ok (.iinc i k, 3)) (hx : L[i]? = some (some (.int x))) (hv : x + Int32.ofInt k = v) (hn : i < nL) (kk : gv z p l e R s m args below meth c nL G O cells slots Q n w (L.set i (some (.int v))) (pc + 3) (rest)) : gv z p l e R s m args below meth c nL G O cells slots Q n w L (pc) (rest) := by
  intro H ls locs hl hh hz hq
  obtain ⟨j, hj⟩ := List.getElem?_of_mem (xl_ps_mem hx)
  exact lv_iinc X.1.1 X.1.2.1 hd hl.lv hj hv hn rfl (fun ls2 hl2 => kk H ls2 locs (hl.store rfl hn hl2) hh hz hq)
theorem g_iadd (X : xg_X p m c cc nL s args own G) {x y : Int32} (hd : decode cc pc = .ok (.iadd, 1)) (kk : gv z p l e R s m args below meth c nL G O cells slots Q n w L (pc + 1) (.int (x + y) :: rest)) : gv z p l e R s m args below meth c nL G O cells slots Q n w L (pc) (.int y :: .int x :: rest) :=
  fun H ls locs hl hh hz hq => lv_iadd X.1.1 X.1.2.1 hd (kk H ls locs hl hh hz hq)
theorem g_isub (X : xg_X p m c cc nL s args own G) {x y : Int32} (hd : decode cc pc = .ok (.isub, 1)) (kk : gv z p l e R s m args below meth c nL G O cells slots Q n w L (pc + 1) (.int (x - y) :: rest)) : gv z p l e R s m args below meth c nL G O cells slots Q n w L (pc) (.int y :: .int x :: rest) :=
  fun H ls locs hl hh hz hq => lv_isub X.1.1 X.1.2.1 hd (kk H ls locs hl hh hz hq)
theorem g_imul (X : xg_X p m c cc nL s args own G) {x y : Int32} (hd : decode cc pc = .ok (.imul, 1)) (kk : gv z p l e R s m args below meth c nL G O cells slots Q n w L (pc + 1) (.int (x * y) :: rest)) : gv z p l e R s m args below meth c nL G O cells slots Q n w L (pc) (.int y :: .int x :: rest) :=
  fun H ls locs hl hh hz hq => lv_imul X.1.1 X.1.2.1 hd (kk H ls locs hl hh hz hq)
theorem g_iand (X : xg_X p m c cc nL s args own G) {x y : Int32} (hd : decode cc pc = .ok (.iand, 1)) (kk : gv z p l e R s m args below meth c nL G O cells slots Q n w L (pc + 1) (.int (x &&& y) :: rest)) : gv z p l e R s m args below meth c nL G O cells slots Q n w L (pc) (.int y :: .int x :: rest) :=
  fun H ls locs hl hh hz hq => lv_iand X.1.1 X.1.2.1 hd (kk H ls locs hl hh hz hq)
theorem g_ixor (X : xg_X p m c cc nL s args own G) {x y : Int32} (hd : decode cc pc = .ok (.ixor, 1)) (kk : gv z p l e R s m args below meth c nL G O cells slots Q n w L (pc + 1) (.int (x ^^^ y) :: rest)) : gv z p l e R s m args below meth c nL G O cells slots Q n w L (pc) (.int y :: .int x :: rest) :=
  fun H ls locs hl hh hz hq => lv_ixor X.1.1 X.1.2.1 hd (kk H ls locs hl hh hz hq)
theorem g_ishl (X : xg_X p m c cc nL s args own G) {x y : Int32} (hd : decode cc pc = .ok (.ishl, 1)) (kk : gv z p l e R s m args below meth c nL G O cells slots Q n w L (pc + 1) (.int (x <<< (y &&& 31)) :: rest)) : gv z p l e R s m args below meth c nL G O cells slots Q n w L (pc) (.int y :: .int x :: rest) :=
  fun H ls locs hl hh hz hq => lv_ishl X.1.1 X.1.2.1 hd (kk H ls locs hl hh hz hq)
theorem g_ishr (X : xg_X p m c cc nL s args own G) {x y : Int32} (hd : decode cc pc = .ok (.ishr, 1)) (kk : gv z p l e R s m args below meth c nL G O cells slots Q n w L (pc + 1) (.int (x >>> (y &&& 31)) :: rest)) : gv z p l e R s m args below meth c nL G O cells slots Q n w L (pc) (.int y :: .int x :: rest) :=
  fun H ls locs hl hh hz hq => lv_ishr X.1.1 X.1.2.1 hd (kk H ls locs hl hh hz hq)
theorem g_iushr (X : xg_X p m c cc nL s args own G) {x y v : Int32} (hd : decode cc pc = .ok (.iushr, 1)) (hv : (x.toUInt32 >>> (y.toUInt32 &&& Int32.toUInt32 31)).toInt32 = v) (kk : gv z p l e R s m args below meth c nL G O cells slots Q n w L (pc + 1) (.int v :: rest)) : gv z p l e R s m args below meth c nL G O cells slots Q n w L (pc) (.int y :: .int x :: rest) :=
  fun H ls locs hl hh hz hq => lv_iushr X.1.1 X.1.2.1 hd hv (kk H ls locs hl hh hz hq)
theorem g_idiv (X : xg_X p m c cc nL s args own G) {x y : Int32} (hd : decode cc pc = .ok (.idiv, 1)) (hne : ¬ y = 0) (kk : gv z p l e R s m args below meth c nL G O cells slots Q n w L (pc + 1) (.int (x / y) :: rest)) : gv z p l e R s m args below meth c nL G O cells slots Q n w L (pc) (.int y :: .int x :: rest) :=
  fun H ls locs hl hh hz hq => lv_idiv X.1.1 X.1.2.1 hd hne (kk H ls locs hl hh hz hq)
theorem g_irem (X : xg_X p m c cc nL s args own G) {x y : Int32} (hd : decode cc pc = .ok (.irem, 1)) (hne : ¬ y = 0) (kk : gv z p l e R s m args below meth c nL G O cells slots Q n w L (pc + 1) (.int (x - x / y * y) :: rest)) : gv z p l e R s m args below meth c nL G O cells slots Q n w L (pc) (.int y :: .int x :: rest) :=
  fun H ls locs hl hh hz hq => lv_irem X.1.1 X.1.2.1 hd hne (kk H ls locs hl hh hz hq)
theorem g_dup (X : xg_X p m c cc nL s args own G) {a : Value} (hd : decode cc pc = .ok (.dup, 1)) (ha : a.category = 1) (kk : gv z p l e R s m args below meth c nL G O cells slots Q n w L (pc + 1) (a :: a :: rest)) : gv z p l e R s m args below meth c nL G O cells slots Q n w L (pc) (a :: rest) :=
  fun H ls locs hl hh hz hq => lv_dup X.1.1 X.1.2.1 hd ha (kk H ls locs hl hh hz hq)
theorem g_dup2 (X : xg_X p m c cc nL s args own G) {a b : Value} (hd : decode cc pc = .ok (.dup2, 1)) (ha : a.category = 1) (hb : b.category = 1) (kk : gv z p l e R s m args below meth c nL G O cells slots Q n w L (pc + 1) (a :: b :: a :: b :: rest)) : gv z p l e R s m args below meth c nL G O cells slots Q n w L (pc) (a :: b :: rest) :=
  fun H ls locs hl hh hz hq => lv_dup2_11 X.1.1 X.1.2.1 hd ha hb (kk H ls locs hl hh hz hq)
theorem g_pop (X : xg_X p m c cc nL s args own G) {a : Value} (hd : decode cc pc = .ok (.pop, 1)) (ha : a.category = 1) (kk : gv z p l e R s m args below meth c nL G O cells slots Q n w L (pc + 1) (rest)) : gv z p l e R s m args below meth c nL G O cells slots Q n w L (pc) (a :: rest) :=
  fun H ls locs hl hh hz hq => lv_pop X.1.1 X.1.2.1 hd ha (kk H ls locs hl hh hz hq)
theorem g_goto (X : xg_X p m c cc nL s args own G) {off : Int} {tgt : Nat} (hd : decode cc pc = .ok (.goto off, 3)) (ht : (pc : Int) + off = (tgt : Int)) (kk : gv z p l e R s m args below meth c nL G O cells slots Q n w L (tgt) (rest)) : gv z p l e R s m args below meth c nL G O cells slots Q n w L (pc) (rest) :=
  fun H ls locs hl hh hz hq => lv_goto X.1.1 X.1.2.1 hd ht (kk H ls locs hl hh hz hq)
theorem g_if_eq (X : xg_X p m c cc nL s args own G) {x : Int32} {off : Int} {tgt : Nat} (hd : decode cc pc = .ok (.ifCond .eq off, 3)) (ht : (pc : Int) + off = (tgt : Int)) (kt : x = 0 → gv z p l e R s m args below meth c nL G O cells slots Q n w L (tgt) (rest)) (kf : ¬ (x = 0) → gv z p l e R s m args below meth c nL G O cells slots Q n w L (pc + 3) (rest)) : gv z p l e R s m args below meth c nL G O cells slots Q n w L (pc) (.int x :: rest) :=
  fun H ls locs hl hh hz hq => lv_if_eq X.1.1 X.1.2.1 hd ht (fun h => kt h H ls locs hl hh hz hq) (fun h => kf h H ls locs hl hh hz hq)
theorem g_icmp_eq (X : xg_X p m c cc nL s args own G) {x y : Int32} {off : Int} {tgt : Nat} (hd : decode cc pc = .ok (.if_icmp .eq off, 3)) (ht : (pc : Int) + off = (tgt : Int)) (kt : x = y → gv z p l e R s m args below meth c nL G O cells slots Q n w L (tgt) (rest)) (kf : ¬ (x = y) → gv z p l e R s m args below meth c nL G O cells slots Q n w L (pc + 3) (rest)) : gv z p l e R s m args below meth c nL G O cells slots Q n w L (pc) (.int y :: .int x :: rest) :=
  fun H ls locs hl hh hz hq => lv_icmp_eq X.1.1 X.1.2.1 hd ht (fun h => kt h H ls locs hl hh hz hq) (fun h => kf h H ls locs hl hh hz hq)
theorem g_if_ne (X : xg_X p m c cc nL s args own G) {x : Int32} {off : Int} {tgt : Nat} (hd : decode cc pc = .ok (.ifCond .ne off, 3)) (ht : (pc : Int) + off = (tgt : Int)) (kt : ¬ x = 0 → gv z p l e R s m args below meth c nL G O cells slots Q n w L (tgt) (rest)) (kf : x = 0 → gv z p l e R s m args below meth c nL G O cells slots Q n w L (pc + 3) (rest)) : gv z p l e R s m args below meth c nL G O cells slots Q n w L (pc) (.int x :: rest) :=
  fun H ls locs hl hh hz hq => lv_if_ne X.1.1 X.1.2.1 hd ht (fun h => kt h H ls locs hl hh hz hq) (fun h => kf h H ls locs hl hh hz hq)
theorem g_icmp_ne (X : xg_X p m c cc nL s args own G) {x y : Int32} {off : Int} {tgt : Nat} (hd : decode cc pc = .ok (.if_icmp .ne off, 3)) (ht : (pc : Int) + off = (tgt : Int)) (kt : ¬ x = y → gv z p l e R s m args below meth c nL G O cells slots Q n w L (tgt) (rest)) (kf : x = y → gv z p l e R s m args below meth c nL G O cells slots Q n w L (pc + 3) (rest)) : gv z p l e R s m args below meth c nL G O cells slots Q n w L (pc) (.int y :: .int x :: rest) :=
  fun H ls locs hl hh hz hq => lv_icmp_ne X.1.1 X.1.2.1 hd ht (fun h => kt h H ls locs hl hh hz hq) (fun h => kf h H ls locs hl hh hz hq)
theorem g_if_lt (X : xg_X p m c cc nL s args own G) {x : Int32} {off : Int} {tgt : Nat} (hd : decode cc pc = .ok (.ifCond .lt off, 3)) (ht : (pc : Int) + off = (tgt : Int)) (kt : x < 0 → gv z p l e R s m args below meth c nL G O cells slots Q n w L (tgt) (rest)) (kf : ¬ (x < 0) → gv z p l e R s m args below meth c nL G O cells slots Q n w L (pc + 3) (rest)) : gv z p l e R s m args below meth c nL G O cells slots Q n w L (pc) (.int x :: rest) :=
  fun H ls locs hl hh hz hq => lv_if_lt X.1.1 X.1.2.1 hd ht (fun h => kt h H ls locs hl hh hz hq) (fun h => kf h H ls locs hl hh hz hq)
theorem g_icmp_lt (X : xg_X p m c cc nL s args own G) {x y : Int32} {off : Int} {tgt : Nat} (hd : decode cc pc = .ok (.if_icmp .lt off, 3)) (ht : (pc : Int) + off = (tgt : Int)) (kt : x < y → gv z p l e R s m args below meth c nL G O cells slots Q n w L (tgt) (rest)) (kf : ¬ (x < y) → gv z p l e R s m args below meth c nL G O cells slots Q n w L (pc + 3) (rest)) : gv z p l e R s m args below meth c nL G O cells slots Q n w L (pc) (.int y :: .int x :: rest) :=
  fun H ls locs hl hh hz hq => lv_icmp_lt X.1.1 X.1.2.1 hd ht (fun h => kt h H ls locs hl hh hz hq) (fun h => kf h H ls locs hl hh hz hq)
theorem g_if_ge (X : xg_X p m c cc nL s args own G) {x : Int32} {off : Int} {tgt : Nat} (hd : decode cc pc = .ok (.ifCond .ge off, 3)) (ht : (pc : Int) + off = (tgt : Int)) (kt : 0 ≤ x → gv z p l e R s m args below meth c nL G O cells slots Q n w L (tgt) (rest)) (kf : ¬ (0 ≤ x) → gv z p l e R s m args below meth c nL G O cells slots Q n w L (pc + 3) (rest)) : gv z p l e R s m args below meth c nL G O cells slots Q n w L (pc) (.int x :: rest) :=
  fun H ls locs hl hh hz hq => lv_if_ge X.1.1 X.1.2.1 hd ht (fun h => kt h H ls locs hl hh hz hq) (fun h => kf h H ls locs hl hh hz hq)
theorem g_icmp_ge (X : xg_X p m c cc nL s args own G) {x y : Int32} {off : Int} {tgt : Nat} (hd : decode cc pc = .ok (.if_icmp .ge off, 3)) (ht : (pc : Int) + off = (tgt : Int)) (kt : y ≤ x → gv z p l e R s m args below meth c nL G O cells slots Q n w L (tgt) (rest)) (kf : ¬ (y ≤ x) → gv z p l e R s m args below meth c nL G O cells slots Q n w L (pc + 3) (rest)) : gv z p l e R s m args below meth c nL G O cells slots Q n w L (pc) (.int y :: .int x :: rest) :=
  fun H ls locs hl hh hz hq => lv_icmp_ge X.1.1 X.1.2.1 hd ht (fun h => kt h H ls locs hl hh hz hq) (fun h => kf h H ls locs hl hh hz hq)
theorem g_if_gt (X : xg_X p m c cc nL s args own G) {x : Int32} {off : Int} {tgt : Nat} (hd : decode cc pc = .ok (.ifCond .gt off, 3)) (ht : (pc : Int) + off = (tgt : Int)) (kt : 0 < x → gv z p l e R s m args below meth c nL G O cells slots Q n w L (tgt) (rest)) (kf : ¬ (0 < x) → gv z p l e R s m args below meth c nL G O cells slots Q n w L (pc + 3) (rest)) : gv z p l e R s m args below meth c nL G O cells slots Q n w L (pc) (.int x :: rest) :=
  fun H ls locs hl hh hz hq => lv_if_gt X.1.1 X.1.2.1 hd ht (fun h => kt h H ls locs hl hh hz hq) (fun h => kf h H ls locs hl hh hz hq)
theorem g_icmp_gt (X : xg_X p m c cc nL s args own G) {x y : Int32} {off : Int} {tgt : Nat} (hd : decode cc pc = .ok (.if_icmp .gt off, 3)) (ht : (pc : Int) + off = (tgt : Int)) (kt : y < x → gv z p l e R s m args below meth c nL G O cells slots Q n w L (tgt) (rest)) (kf : ¬ (y < x) → gv z p l e R s m args below meth c nL G O cells slots Q n w L (pc + 3) (rest)) : gv z p l e R s m args below meth c nL G O cells slots Q n w L (pc) (.int y :: .int x :: rest) :=
  fun H ls locs hl hh hz hq => lv_icmp_gt X.1.1 X.1.2.1 hd ht (fun h => kt h H ls locs hl hh hz hq) (fun h => kf h H ls locs hl hh hz hq)
theorem g_if_le (X : xg_X p m c cc nL s args own G) {x : Int32} {off : Int} {tgt : Nat} (hd : decode cc pc = .ok (.ifCond .le off, 3)) (ht : (pc : Int) + off = (tgt : Int)) (kt : x ≤ 0 → gv z p l e R s m args below meth c nL G O cells slots Q n w L (tgt) (rest)) (kf : ¬ (x ≤ 0) → gv z p l e R s m args below meth c nL G O cells slots Q n w L (pc + 3) (rest)) : gv z p l e R s m args below meth c nL G O cells slots Q n w L (pc) (.int x :: rest) :=
  fun H ls locs hl hh hz hq => lv_if_le X.1.1 X.1.2.1 hd ht (fun h => kt h H ls locs hl hh hz hq) (fun h => kf h H ls locs hl hh hz hq)
theorem g_icmp_le (X : xg_X p m c cc nL s args own G) {x y : Int32} {off : Int} {tgt : Nat} (hd : decode cc pc = .ok (.if_icmp .le off, 3)) (ht : (pc : Int) + off = (tgt : Int)) (kt : x ≤ y → gv z p l e R s m args below meth c nL G O cells slots Q n w L (tgt) (rest)) (kf : ¬ (x ≤ y) → gv z p l e R s m args below meth c nL G O cells slots Q n w L (pc + 3) (rest)) : gv z p l e R s m args below meth c nL G O cells slots Q n w L (pc) (.int y :: .int x :: rest) :=
  fun H ls locs hl hh hz hq => lv_icmp_le X.1.1 X.1.2.1 hd ht (fun h => kt h H ls locs hl hh hz hq) (fun h => kf h H ls locs hl hh hz hq)
theorem g_ldc (X : xg_X p m c cc nL s args own G) {index : Nat} {v : Int32} (hd : decode cc pc = .ok (.ldc index, 2)) (hw : Cond.constant own index v ∈ xw_T) (kk : gv z p l e R s m args below meth c nL G O cells slots Q n w L (pc + 2) (.int v :: rest)) : gv z p l e R s m args below meth c nL G O cells slots Q n w L (pc) (rest) :=
  fun H ls locs hl hh hz hq => lv_ldc X.1.1 X.1.2.1 X.1.2.2.2.1 (X.1.2.2.2.2 _ hw) hd (kk H ls locs hl hh hz hq)
theorem g_ldcw (X : xg_X p m c cc nL s args own G) {index : Nat} {v : Int32} (hd : decode cc pc = .ok (.ldc_w index, 3)) (hw : Cond.constant own index v ∈ xw_T) (kk : gv z p l e R s m args below meth c nL G O cells slots Q n w L (pc + 3) (.int v :: rest)) : gv z p l e R s m args below meth c nL G O cells slots Q n w L (pc) (rest) :=
  fun H ls locs hl hh hz hq => lv_ldcw X.1.1 X.1.2.1 X.1.2.2.2.1 (X.1.2.2.2.2 _ hw) hd (kk H ls locs hl hh hz hq)
theorem g_tabOut (X : xg_X p m c cc nL s args own G) {dflt lo hi : Int} {offs : Array Int} {len : Nat} {x : Int32} {tgt : Nat} (hd : decode cc pc = .ok (.tableswitch dflt lo hi offs, len)) (h : x.toInt < lo ∨ hi < x.toInt) (ht : (pc : Int) + dflt = (tgt : Int)) (kk : gv z p l e R s m args below meth c nL G O cells slots Q n w L (tgt) (rest)) : gv z p l e R s m args below meth c nL G O cells slots Q n w L (pc) (.int x :: rest) :=
  fun H ls locs hl hh hz hq => lv_tableOut X.1.1 X.1.2.1 hd h ht (kk H ls locs hl hh hz hq)
theorem g_tabIn (X : xg_X p m c cc nL s args own G) {dflt lo hi : Int} {offs : Array Int} {len : Nat} {x : Int32} {off : Int} {tgt : Nat} (hd : decode cc pc = .ok (.tableswitch dflt lo hi offs, len)) (h1 : ¬ x.toInt < lo) (h2 : ¬ hi < x.toInt) (ho : offs[(x.toInt - lo).toNat]? = some off) (ht : (pc : Int) + off = (tgt : Int)) (kk : gv z p l e R s m args below meth c nL G O cells slots Q n w L (tgt) (rest)) : gv z p l e R s m args below meth c nL G O cells slots Q n w L (pc) (.int x :: rest) :=
  fun H ls locs hl hh hz hq => lv_tableIn X.1.1 X.1.2.1 hd h1 h2 ho ht (kk H ls locs hl hh hz hq)
theorem g_topi {x : Int32} (kk : ∀ y : Int32, y = x → gv z p l e R s m args below meth c nL G O cells slots Q n w L (pc) (.int y :: rest)) : gv z p l e R s m args below meth c nL G O cells slots Q n w L (pc) (.int x :: rest) := kk x rfl
theorem g_eq {st st2 : List Value} {L2 : List (Option Value)} {w2 : Nat → va_E} (h1 : st = st2) (h2 : L = L2) (h3 : w = w2) (kk : gv z p l e R s m args below meth c nL G O cells slots Q n w2 L2 (pc) (st2)) : gv z p l e R s m args below meth c nL G O cells slots Q n w L (pc) (st) := by subst h1; subst h2; subst h3; exact kk
theorem g_get (X : xg_X p m c cc nL s args own G) {k ci j index : Nat} {fs : List Value} {v : Value} {C : String} {T : u_T} {N : Nat} (hd : decode cc pc = .ok (.getfield index, 3)) (hk : k < n) (hw : w k = .inr (ci, fs)) (hc : vwCl[ci]? = some (C, T, N)) (hin : ∀ w ∈ u_ws C T N, w ∈ xw_T) (hj : j < N) (fl : Cond.fieldLink own index (T j).1 (T j).2.1 (T j).2.2.1 ∈ xw_T) (hv : fs[j]? = some v) (kk : gv z p l e R s m args below meth c nL G O cells slots Q n w L (pc + 3) (v :: rest)) : gv z p l e R s m args below meth c nL G O cells slots Q n w L (pc) (.ref (O.size + k) :: rest) := by
  intro H ls locs hl hh hz hq
  exact va_get X.1.1 X.1.2.1 X.1.2.2.2.2 hin X.1.2.2.2.1 X.2.1 (hh.one hk) 0 (by rw [hw]; rfl) hc j hj (X.1.2.2.2.2 _ fl) (fun _ h => h) hv hd (kk H ls locs hl hh hz hq)
theorem g_put (X : xg_X p m c cc nL s args own G) {k ci j index : Nat} {fs : List Value} {v : Value} {ty : FieldType} {C : String} {T : u_T} {N : Nat} (ty0 : Nat → FieldType) (hd : decode cc pc = .ok (.putfield index, 3)) (hk : k < n) (hw : w k = .inr (ci, fs)) (hc : vwCl[ci]? = some (C, T, N)) (hin : ∀ w ∈ u_ws C T N, w ∈ xw_T) (hty : ∀ k, k < N → parseFieldDescriptor (T k).2.2.1 = some (ty0 k)) (hnm : ∀ a, a < N → ∀ b, b < N → a ≠ b → (T a).2.1 ≠ (T b).2.1) (hj : j < N) (hjl : j < fs.length) (fl : Cond.fieldLink own index (T j).1 (T j).2.1 (T j).2.2.1 ∈ xw_T) (hf : (T j).2.2.2 = false ∨ ((T j).2.2.2 = true ∧ meth.name = "<init>" ∧ (T j).1 = own)) (hdn : ty0 j = ty) (hn : narrow ty v = v) (hfit : fits ty v = true) (kk : gv z p l e R s m args below meth c nL G O cells slots Q n (xg_up w k (.inr (ci, fs.set j v))) L (pc + 3) (rest)) : gv z p l e R s m args below meth c nL G O cells slots Q n w L (pc) (v :: .ref (O.size + k) :: rest) := by
  intro H ls locs hl hh hz hq
  have hap := va_apart (own := own) X.1.2.2.2.2 hin ty0 hty hnm X.2.1 hc
  have h0 := hh.1 k hk
  rw [hw] at h0
  obtain ⟨r, h1, cell, q1, q2, q3, q4⟩ := h0
  have hr : r = (C, T, N) := Option.some.inj (h1.symm.trans hc)
  subst hr
  obtain ⟨hS, hfc, kC, hkC, hkind⟩ := X.2.1.1 ci _ hc
  obtain ⟨cf, kf, fi, f, hi, hsl⟩ := hS j hj
  have hlay := X.1.2.2.2.2 _ (hin _ (u_in_lay hj))
  have hst := (u_facts hfc hkC (u_lays X.1.2.2.2.2 hin hj) hi).1
  have hdesc : parseFieldDescriptor (T j).2.2.1 = some ty := by rw [hty j hj, hdn]
  have done : ∀ H1 : Heap, H1[O.size + k]? = some (cell.setSlot f.slot v) → H1.size = H.size → (∀ q, q ≠ O.size + k → H1[q]? = H[q]?) → W p l e R s m args below meth c H1 (locs ++ [⟨O.size + k, f.slot⟩]) cells slots Q (F0 m (pc + 3) ls rest) := by
    intro H1 e1 e2 e3
    rw [hsl] at e1 ⊢
    refine kk H1 ls _ hl (hh.set _ ⟨_, hc, t_OB.to (V := updV (vp_V fs) j v) ⟨_, e1, q2, q3, t_set q4 hap hj v⟩ (fun i _ => vp_updV_set hjl v i)⟩ e3) (fun hz1 => by rw [e2]; exact hz hz1) (fun q hq1 => ?_)
    rcases List.mem_append.mp hq1 with h | h
    · exact hq q h
    · rw [List.mem_singleton.mp h]; exact Nat.le_add_right _ _
  unfold u_lay at hlay
  rcases hf with hf | ⟨hf, hin2, hdecl⟩
  · rw [if_neg (by rw [hf]; decide)] at hlay
    have h6 := u_store hfc hkC hkind hlay hi hdesc hn hfit
    exact W.putK X.1.1 X.1.2.1 (f := f) ⟨X.1.2.2.2.1, X.1.2.2.2.2 _ fl, ⟨_, _, _, hi⟩, hst⟩ (by rw [q2]; exact h6) q1 q3 (by rw [hsl]; exact k2_hasslot (q4 j hj)) rfl rfl hd done
  · rw [if_pos hf] at hlay
    have hcf : m.cls = cf := by
      obtain ⟨_, _, c', _, _, _, -, -, hf', -, -, -, hown2, -⟩ := Cond.laysFinal_spec hlay
      have e1 : c' = cf := by have := hi.symm.trans hf'; simp at this; exact this.1.symm
      rw [hdecl] at hown2
      rw [← e1]; exact Option.some.inj (X.1.2.2.2.1.symm.trans hown2)
    have h6 := u_fits hfc hkC hkind (Or.inr hlay) hi hdesc hn hfit
    exact W.putFinK X.1.1 X.1.2.1 X.1.2.2.2.1 (X.1.2.2.2.2 _ fl) hi hst hcf hin2 (by rw [q2]; exact h6) q1 q3 (by rw [hsl]; exact k2_hasslot (q4 j hj)) rfl rfl hd done
theorem g_iald (X : xg_X p m c cc nL s args own G) {k ln : Nat} {f : Nat → Int32} {i : Int32} {cA : ClassId} (hd : decode cc pc = .ok (.iaload, 1)) (hk : k < n) (hw : w k = .inl (cA, ln, .inl f)) (hA : cA = G.2 0) (hi : vp_in i ln) (kk : gv z p l e R s m args below meth c nL G O cells slots Q n w L (pc + 1) (.int (f i.toNatClampNeg) :: rest)) : gv z p l e R s m args below meth c nL G O cells slots Q n w L (pc) (.int i :: .ref (O.size + k) :: rest) := by
  intro H ls locs hl hh hz hq
  subst hA
  exact va_iald X.1.1 X.1.2.1 X.2.1 (hh.one hk) 0 0 (by rw [hw]; rfl) rfl hi hd (kk H ls locs hl hh hz hq)
theorem g_zald (X : xg_X p m c cc nL s args own G) {k ln : Nat} {f : Nat → Int32} {i : Int32} {cA : ClassId} (hd : decode cc pc = .ok (.baload, 1)) (hk : k < n) (hw : w k = .inl (cA, ln, .inl f)) (hA : cA = G.2 4) (hi : vp_in i ln) (kk : gv z p l e R s m args below meth c nL G O cells slots Q n w L (pc + 1) (.int (f i.toNatClampNeg) :: rest)) : gv z p l e R s m args below meth c nL G O cells slots Q n w L (pc) (.int i :: .ref (O.size + k) :: rest) := by
  intro H ls locs hl hh hz hq
  subst hA
  exact va_zald X.1.1 X.1.2.1 X.2.1 (hh.one hk) 0 4 (by rw [hw]; rfl) rfl hi hd (kk H ls locs hl hh hz hq)
theorem g_alen (X : xg_X p m c cc nL s args own G) {k : Nat} {t : vp_A} {v : Int32} {cA : ClassId} (t0 : Nat) (ty : FieldType) (hd : decode cc pc = .ok (.arraylength, 1)) (hk : k < n) (hw : w k = .inl (cA, t)) (ht : (xg_tys G.2)[t0]? = some (cA, ty)) (hv : Int32.ofNat t.1 = v) (kk : gv z p l e R s m args below meth c nL G O cells slots Q n w L (pc + 1) (.int v :: rest)) : gv z p l e R s m args below meth c nL G O cells slots Q n w L (pc) (.ref (O.size + k) :: rest) := by
  intro H ls locs hl hh hz hq
  exact va_alen X.1.1 X.1.2.1 X.2.1 (hh.one hk) 0 t0 (by rw [hw]; rfl) ht hv hd (kk H ls locs hl hh hz hq)
theorem g_aald (X : xg_X p m c cc nL s args own G) {k ln : Nat} {f : Nat → Option Nat} {i : Int32} {cA : ClassId} (t0 : Nat) (ty : FieldType) (hd : decode cc pc = .ok (.aaload, 1)) (hk : k < n) (hw : w k = .inl (cA, ln, .inr (.inr (.inr (.inr f))))) (ht : (xg_tys G.2)[t0]? = some (cA, ty)) (hr : ty.isReference = true) (hi : vp_in i ln) (kk : gv z p l e R s m args below meth c nL G O cells slots Q n w L (pc + 1) (va_rf (f i.toNatClampNeg) :: rest)) : gv z p l e R s m args below meth c nL G O cells slots Q n w L (pc) (.int i :: .ref (O.size + k) :: rest) := by
  intro H ls locs hl hh hz hq
  have h0 := hh.1 k hk
  rw [hw] at h0
  have hlt : i.toNatClampNeg < ln := Nat.not_le.mp fun q => hi (Or.inr q)
  exact W.aald (v := va_rf (f i.toNatClampNeg)) (ty := ty) X.1.1 X.1.2.1 h0 ((X.2.1.2 t0 _ ht).1 ln (fun j => va_rf (f j))) hr (fun q => by cases q) (by show ¬ (i < 0 ∨ (arrV _ _ _).slots.size ≤ _); rw [arrV_size]; exact hi) (by show (arrV _ _ _).slots[_]? = _; rw [arrV_read _ _ hlt]) rfl rfl hd (kk H ls locs hl hh hz hq)
theorem g_iast (X : xg_X p m c cc nL s args own G) {k ln : Nat} {f : Nat → Int32} {i x : Int32} {cA : ClassId} (hd : decode cc pc = .ok (.iastore, 1)) (hk : k < n) (hw : w k = .inl (cA, ln, .inl f)) (hA : cA = G.2 0) (hi : vp_in i ln) (kk : gv z p l e R s m args below meth c nL G O cells slots Q n (xg_up w k (.inl (cA, ln, .inl (upd f i.toNatClampNeg x)))) L (pc + 1) (rest)) : gv z p l e R s m args below meth c nL G O cells slots Q n w L (pc) (.int x :: .int i :: .ref (O.size + k) :: rest) := by
  intro H ls locs hl hh hz hq
  subst hA
  have h0 := hh.1 k hk
  rw [hw] at h0
  refine W.iast X.1.1 X.1.2.1 h0 ((X.2.1.2 0 _ rfl).1 ln (fun j => .int (f j))) (fun q => by cases q) (by show ¬ (i < 0 ∨ (arrV _ _ _).slots.size ≤ _); rw [arrV_size]; exact hi) rfl rfl hd fun H1 e1 e2 e3 => ?_
  refine kk H1 ls _ hl (hh.set _ ?_ e3) (fun hz1 => by rw [e2]; exact hz hz1) (fun q hq1 => ?_)
  · show H1[O.size + k]? = some (vp_cell _ _)
    rw [e1]
    rw [vp_cell_i, vp_cell_i, arrV_store]
    congr 2
    funext q
    by_cases hq : q = i.toNatClampNeg
    · subst hq; simp [updV, upd]
    · simp [updV, upd, hq]
  · rcases List.mem_append.mp hq1 with h | h
    · exact hq q h
    · rw [List.mem_singleton.mp h]; exact Nat.le_add_right _ _
theorem g_zast (X : xg_X p m c cc nL s args own G) {k ln : Nat} {f : Nat → Int32} {i x : Int32} {cA : ClassId} (hd : decode cc pc = .ok (.bastore, 1)) (hk : k < n) (hw : w k = .inl (cA, ln, .inl f)) (hA : cA = G.2 4) (hi : vp_in i ln) (kk : gv z p l e R s m args below meth c nL G O cells slots Q n (xg_up w k (.inl (cA, ln, .inl (upd f i.toNatClampNeg (vp_nar .boolean x))))) L (pc + 1) (rest)) : gv z p l e R s m args below meth c nL G O cells slots Q n w L (pc) (.int x :: .int i :: .ref (O.size + k) :: rest) := by
  intro H ls locs hl hh hz hq
  subst hA
  have h0 := hh.1 k hk
  rw [hw] at h0
  refine W.zast X.1.1 X.1.2.1 h0 ((X.2.1.2 4 _ rfl).1 ln (fun j => .int (f j))) (fun q => by cases q) (by show ¬ (i < 0 ∨ (arrV _ _ _).slots.size ≤ _); rw [arrV_size]; exact hi) rfl rfl hd fun H1 e1 e2 e3 => ?_
  refine kk H1 ls _ hl (hh.set _ ?_ e3) (fun hz1 => by rw [e2]; exact hz hz1) (fun q hq1 => ?_)
  · show H1[O.size + k]? = some (vp_cell _ _)
    rw [e1]
    rw [vp_cell_i, vp_cell_i, arrV_store]
    congr 2
    funext q
    by_cases hq : q = i.toNatClampNeg
    · subst hq; simp [updV, upd, vp_nar]; try rfl
    · simp [updV, upd, hq]
  · rcases List.mem_append.mp hq1 with h | h
    · exact hq q h
    · rw [List.mem_singleton.mp h]; exact Nat.le_add_right _ _
end XB
end
section
/-! 02b: contracts over cells by numbers, entry, returns, calls -/
def xg_P (z : Prop) (G : xg_G) (O : Heap) (n : Nat) (w : Nat → va_E) (as : List Value) : Array Value → State → Prop := fun v U => v = as.toArray ∧ xg_hp G O w n U.heap ∧ (z → U.heap.size = O.size + n) ∧ xg_K G U
def xg_Qc (z : Prop) (G : xg_G) (O : Heap) (n' : Nat) (post : Option Value → (Nat → va_E) → Prop) : Array Value → State → Outcome → State → Prop := fun _ _ o t => ∃ (r : Option Value) (w' : Nat → va_E), o = .returned r ∧ post r w' ∧ xg_hp G O w' n' t.heap ∧ (z → t.heap.size = O.size + n')
/-- a contract: from the cells w the method comes to its end with an answer and cells of which post is said -/
def xg_M (z : Prop) (l : Launch) (y : MethodName) (cb : ByteArray) (ml : Nat) (ret : Option FieldType) (rm : Room) (G : xg_G) (O : Heap) (n : Nat) (w : Nat → va_E) (as : List Value) (n' mc ms : Nat) (post : Option Value → (Nat → va_E) → Prop) : Prop :=
  Met l y (Cond.code y cb ml ret :: xw_T) rm (xg_P z G O n w as) (xg_Qc z G O n' post) mc ms (fun q => O.size ≤ q)
theorem xg_P.blind {z : Prop} {G : xg_G} {O : Heap} {n : Nat} {w : Nat → va_E} {as : List Value} : FrameBlind (xg_P z G O n w as) := fun _ _ _ _ h => ⟨h.1, h.2.1, h.2.2.1, h.2.2.2.calling⟩
theorem xg_enter {z : Prop} {l : Launch} {y : MethodName} {cb : ByteArray} {ml : Nat} {ret : Option FieldType} {rm : Room} {G : xg_G} {O : Heap} {n : Nat} {w : Nat → va_E} {as : List Value} {n' mc ms : Nat} {post : Option Value → (Nat → va_E) → Prop} (hy : plainName y.cls = true) (k : Nat) (hc : as.all (fun v => v.category == 1) = true) (hk : as.length + k = ml)
    (body : ∀ (p : Program) (e : Env) (s : State) (m : MethodId) (args : Array Value) (below : List Frame) (meth : Method) (c : Code), xg_X p m c cb ml s args y.cls G → meth.sig.returnType = ret → meth.locks = false → meth.name = y.name →
      gv z p l e rm s m args below meth c ml G O 0 0 (MQ below (xg_Qc z G O n' post) args s mc ms (fun q => O.size ≤ q)) n w (as.map some ++ List.replicate k none) 0 []) : xg_M z l y cb ml ret rm G O n w as n' mc ms post := by
  refine Met.ofW (cc := cb) (maxL := ml) (ret := ret) hy rfl ?_
  intro p e s m args below meth c s₁ B hml hv
  obtain ⟨rfl, hh, hz, hK⟩ := hv
  obtain ⟨ls, he, hl⟩ := xl_entry as k (fun v hv => by have := List.all_eq_true.mp hc v hv; simpa using this) hk
  rw [he]
  have hts := atoms_spec (ws := Cond.code y cb ml ret :: xw_T) B.pre
  exact body p e s m _ below meth c ⟨⟨B.exec, B.bytes, hml, findClass_of_methodNamed B.named, fun w hw => hts w (List.mem_cons_of_mem _ hw)⟩, hK⟩ B.returns B.notSynchronized (name_of_methodNamed B.named B.method).1 s.heap ls [] hl hh hz (fun q h => by cases h)
theorem xw_goodL {ws : List Cond} (h : ∀ w ∈ ws, w ∈ xw_T) : GoodIn xw_T ws := fun w hw => ⟨h w hw, good_of_word (List.mem_filter.mp (h w hw)).2⟩
/-- what a call's link rests on, by its kind -/
def xc_D (y : MethodName) (na : Nat) : Prop := y.cls ≠ "java/lang/invoke/MethodHandle" ∧ y.cls ≠ "java/lang/invoke/VarHandle" ∧ (parseMethodDescriptor y.desc).map (fun d => d.parameters.length) = some na
def xc_V (own : String) (index : Nat) (C : String) (y : MethodName) (cb : ByteArray) (ml : Nat) (ret : Option FieldType) (na : Nat) : Prop := Cond.methodLink own index y ∈ xw_T ∧ Cond.instanceMethod y ∈ xw_T ∧ Cond.selects C y y ∈ xw_T ∧ Cond.initialized C ∈ xw_T ∧ Cond.code y cb ml ret ∈ xw_T ∧ y.cls = C ∧ xc_D y na
def xc_S (own : String) (index : Nat) (y : MethodName) (cb : ByteArray) (ml : Nat) (ret : Option FieldType) (na : Nat) : Prop := Cond.methodLink own index y ∈ xw_T ∧ Cond.static y ∈ xw_T ∧ Cond.initialized y.cls ∈ xw_T ∧ Cond.code y cb ml ret ∈ xw_T ∧ xc_D y na
def xc_SN (own : String) (index : Nat) (y : MethodName) (cb : ByteArray) (ml : Nat) (ret : Option FieldType) (na : Nat) : Prop := (own, index, y) ∈ xg_nest ∧ Cond.static y ∈ xw_T ∧ Cond.initialized y.cls ∈ xw_T ∧ Cond.code y cb ml ret ∈ xw_T ∧ xc_D y na
def xc_I (own : String) (index : Nat) (y : MethodName) (cb : ByteArray) (ml : Nat) (na : Nat) : Prop := Cond.methodLink own index y ∈ xw_T ∧ Cond.instanceMethod y ∈ xw_T ∧ Cond.initialized y.cls ∈ xw_T ∧ Cond.code y cb ml none ∈ xw_T ∧ y.name = "<init>" ∧ xc_D y na
def xc_IN (own : String) (index : Nat) (y : MethodName) (cb : ByteArray) (ml : Nat) (na : Nat) : Prop := (own, index, y) ∈ xg_nest ∧ Cond.instanceMethod y ∈ xw_T ∧ Cond.initialized y.cls ∈ xw_T ∧ Cond.code y cb ml none ∈ xw_T ∧ y.name = "<init>" ∧ xc_D y na
/-- the callee's room within the caller's -/
def xr_ok (rm R : Room) (ml mc ms cells slots : Nat) : Bool := rm.cells == mc && rm.slots == ms && decide (rm.frames + 1 ≤ R.frames) && decide (8 + (ml + 11) + rm.locals ≤ R.locals) && decide (cells + mc ≤ R.cells) && decide (slots + ms ≤ R.slots)
theorem xr_of {rm R : Room} {ml mc ms cells slots : Nat} (h : xr_ok rm R ml mc ms cells slots = true) : (rm.cells = mc ∧ rm.slots = ms) ∧ (rm.frames + 1 ≤ R.frames ∧ 8 + (ml + 11) + rm.locals ≤ R.locals) ∧ (cells + mc ≤ R.cells ∧ slots + ms ≤ R.slots) := by
  simp only [xr_ok, Bool.and_eq_true, beq_iff_eq, decide_eq_true_eq] at h
  omega
section XC
variable {z : Prop} {p : Program} {l : Launch} {e : Env} {R : Room} {s : State} {m : MethodId} {args : Array Value} {below : List Frame} {meth : Method} {c : Code} {nL : Nat} {G : xg_G} {O : Heap} {cells slots : Nat} {Q : State → Prop} {n : Nat} {w : Nat → va_E} {L : List (Option Value)} {pc : Nat} {rest : List Value} {cc : ByteArray} {own : String}
variable {y : MethodName} {cb : ByteArray} {ml : Nat} {ret : Option FieldType} {rm : Room} {as : List Value} {n' mc ms na index : Nat} {post : Option Value → (Nat → va_E) → Prop} {st : List Value}
theorem g_iret (X : xg_X p m c cc nL s args own G) (hr : meth.sig.returnType = some .int) (hk : meth.locks = false) {v : Int32} (hd : decode cc pc = .ok (.ireturn, 1)) (hp : post (some (.int v)) w) : gv z p l e R s m args below meth c nL G O cells slots (MQ below (xg_Qc z G O n post) args s cells slots (fun q => O.size ≤ q)) n w L pc [.int v] :=
  fun H ls locs hl hh hz hq => W.iret (v := v) X.1.1 X.1.2.1 hr (fun t ht _ => ⟨some (.int v), w, rfl, hp, by rw [ht]; exact hh, fun h => by rw [ht]; exact hz h⟩) hq hd (hlocks := hk)
theorem g_zret (X : xg_X p m c cc nL s args own G) (hr : meth.sig.returnType = some .boolean) (hk : meth.locks = false) {v : Int32} (hd : decode cc pc = .ok (.ireturn, 1)) (hv : v = 0 ∨ v = 1) (hp : post (some (.int v)) w) : gv z p l e R s m args below meth c nL G O cells slots (MQ below (xg_Qc z G O n post) args s cells slots (fun q => O.size ≤ q)) n w L pc [.int v] :=
  fun H ls locs hl hh hz hq => W.zret (v := v) X.1.1 X.1.2.1 hr (by rcases hv with rfl | rfl <;> rfl) (fun t ht _ => ⟨some (.int v), w, rfl, hp, by rw [ht]; exact hh, fun h => by rw [ht]; exact hz h⟩) hq hd (hlocks := hk)
theorem g_vret (X : xg_X p m c cc nL s args own G) (hr : meth.sig.returnType = none) (hk : meth.locks = false) (hd : decode cc pc = .ok (.return_, 1)) (hp : post none w) : gv z p l e R s m args below meth c nL G O cells slots (MQ below (xg_Qc z G O n post) args s cells slots (fun q => O.size ≤ q)) n w L pc [] :=
  fun H ls locs hl hh hz hq => W.vret X.1.1 X.1.2.1 hr (fun t ht _ => ⟨none, w, rfl, hp, by rw [ht]; exact hh, fun h => by rw [ht]; exact hz h⟩) hq hd (hlocks := hk)
theorem g_aret (X : xg_X p m c cc nL s args own G) {rt : FieldType} (hr : meth.sig.returnType = some rt) (hrt : (∃ n, rt = .object n) ∨ ∃ t, rt = .array t) (hk : meth.locks = false) {a : Nat} (hd : decode cc pc = .ok (.areturn, 1)) (hp : post (some (.ref a)) w) : gv z p l e R s m args below meth c nL G O cells slots (MQ below (xg_Qc z G O n post) args s cells slots (fun q => O.size ≤ q)) n w L pc [.ref a] :=
  fun H ls locs hl hh hz hq => W.aret (v := .ref a) X.1.1 X.1.2.1 hr hrt (Or.inr ⟨a, rfl⟩) (fun t ht _ => ⟨some (.ref a), w, rfl, hp, by rw [ht]; exact hh, fun h => by rw [ht]; exact hz h⟩) hq hd (hlocks := hk)
theorem g_widen {k k2 : Nat} (h1 : cells ≤ k) (h2 : slots ≤ k2) (kk : gv z p l e R s m args below meth c nL G O k k2 Q n w L pc st) : gv z p l e R s m args below meth c nL G O cells slots Q n w L pc st :=
  fun H ls locs hl hh hz hq => W.widen h1 h2 (kk H ls locs hl hh hz hq)
/-- behind a call -/
theorem g_run {H : Heap} {ls : Array Slot} {locs : List Loc} {a : Array Value} (hl : xl_has ls nL L) (hq : ∀ q ∈ locs, O.size ≤ q.base) (hr : va_Run p l e R s m args below meth c H locs cells slots mc ms (F0 m pc ls st) rest (xg_Qc z G O n' post a) (fun q => O.size ≤ q))
    (kk : ∀ (r : Option Value) (w' : Nat → va_E), post r w' → gv z p l e R s m args below meth c nL G O (cells + mc) (slots + ms) Q n' w' L (pc + 3) (r.toList ++ rest)) : W p l e R s m args below meth c H locs cells slots Q (F0 m pc ls st) := by
  intro T hT X
  obtain ⟨v, st₀, t, T', Lc, h0, X', hL, e1, e2, ⟨r, w', hv, hp, hh, hz⟩, stp⟩ := hr T hT X
  cases hv
  obtain ⟨t2, a1, b1⟩ := kk v w' hp T'.heap ls (locs ++ Lc) hl (by rw [e1]; exact hh) (fun h => by rw [e1]; exact hz h) (fun q hq1 => by
    rcases List.mem_append.mp hq1 with h | h
    · exact hq q h
    · exact hL q h) T' rfl X'
  exact ⟨t2, stp t2 a1, b1⟩
theorem g_callV (X : xg_X p m c cc nL s args own G) {C : String} {T : u_T} {N k ci : Nat} {fs : List Value} (cv : xc_V own index C y cb ml ret na) (hM : xg_M z l y cb ml ret rm G O n w (.ref (O.size + k) :: as) n' mc ms post) (hd : decode cc pc = .ok (.invokevirtual index, 3)) (hk : k < n) (hw : w k = .inr (ci, fs)) (hc : vwCl[ci]? = some (C, T, N)) (hst : st = as.reverse ++ .ref (O.size + k) :: rest) (hna : as.length = na) (hR : xr_ok rm R ml mc ms cells slots = true) (hrs : (rest.map fun v => v.category).sum ≤ 8)
    (kk : ∀ (r : Option Value) (w' : Nat → va_E), post r w' → gv z p l e R s m args below meth c nL G O (cells + mc) (slots + ms) Q n' w' L (pc + 3) (r.toList ++ rest)) : gv z p l e R s m args below meth c nL G O cells slots Q n w L pc st := by
  intro H ls locs hl hh hz hq
  obtain ⟨hr1, hr2, hr3⟩ := xr_of hR
  obtain ⟨v1, v2, v3, v4, v5, v6, v7⟩ := cv
  have hrec : ∃ cell : Cell, H[O.size + k]? = some cell ∧ cell.vm.isStatics = false ∧ s.vm.findClass C = some cell.cls := va_recv (ci := ci) (q := (C, T, N)) (fs := fs) X.2.1 (hh.one hk) hc (q0 := 0) (by rw [hw]; rfl)
  refine g_run hl hq (va_runV (As := as) (C := C) (b := O.size + k) X.1 hM (cwV na X.1.2.2.2.2 (xw_goodL ?_) rfl hr1.1 hr1.2 ⟨v6, v7⟩ hr2) ⟨xg_P.blind, hrec, fun U hU hW => ⟨rfl, by rw [hU]; exact hh, fun h => by rw [hU]; exact hz h, X.2.warm hW⟩⟩ rfl hna hl.1 hst (lv_room hrs) hd hr3) kk
  intro w hw
  simp only [wsV, List.mem_append, List.mem_cons, List.not_mem_nil, or_false] at hw
  rcases hw with (rfl | rfl | rfl | rfl) | rfl | hw
  · exact v1
  · exact v2
  · exact v3
  · exact v4
  · exact v5
  · exact hw
theorem g_callS (X : xg_X p m c cc nL s args own G) (cv : xc_S own index y cb ml ret na) (hM : xg_M z l y cb ml ret rm G O n w as n' mc ms post) (hd : decode cc pc = .ok (.invokestatic index, 3)) (hst : st = as.reverse ++ rest) (hna : as.length = na) (hR : xr_ok rm R ml mc ms cells slots = true) (hrs : (rest.map fun v => v.category).sum ≤ 8)
    (kk : ∀ (r : Option Value) (w' : Nat → va_E), post r w' → gv z p l e R s m args below meth c nL G O (cells + mc) (slots + ms) Q n' w' L (pc + 3) (r.toList ++ rest)) : gv z p l e R s m args below meth c nL G O cells slots Q n w L pc st := by
  intro H ls locs hl hh hz hq
  obtain ⟨hr1, hr2, hr3⟩ := xr_of hR
  obtain ⟨v1, v2, v3, v4, v5⟩ := cv
  have ht := X.1.2.2.2.2
  exact g_run hl hq (va_runS (As := as) X.1 hM ⟨callB_of na ht (xw_goodT v4) rfl hr1.1 hr1.2 (ht _ v3) (ht _ v1) v5 hr2, ht _ v2⟩ ⟨xg_P.blind, fun U hU hW => ⟨rfl, by rw [hU]; exact hh, fun h => by rw [hU]; exact hz h, X.2.warm hW⟩⟩ rfl hna hl.1 hst (lv_room hrs) hd hr3) kk
theorem g_callSN (X : xg_X p m c cc nL s args own G) (cv : xc_SN own index y cb ml ret na) (hM : xg_M z l y cb ml ret rm G O n w as n' mc ms post) (hd : decode cc pc = .ok (.invokestatic index, 3)) (hst : st = as.reverse ++ rest) (hna : as.length = na) (hR : xr_ok rm R ml mc ms cells slots = true) (hrs : (rest.map fun v => v.category).sum ≤ 8)
    (kk : ∀ (r : Option Value) (w' : Nat → va_E), post r w' → gv z p l e R s m args below meth c nL G O (cells + mc) (slots + ms) Q n' w' L (pc + 3) (r.toList ++ rest)) : gv z p l e R s m args below meth c nL G O cells slots Q n w L pc st := by
  intro H ls locs hl hh hz hq
  obtain ⟨hr1, hr2, hr3⟩ := xr_of hR
  obtain ⟨v1, v2, v3, v4, v5⟩ := cv
  have ht := X.1.2.2.2.2
  exact g_run hl hq (va_runSN (As := as) X.1 hM ⟨va_cnB na ht (xw_goodT v4) rfl hr1.1 hr1.2 (X.2.2.1 _ v1) (ht _ v3) v5 hr2, ht _ v2, trivial⟩ ⟨xg_P.blind, fun U hU hW => ⟨rfl, by rw [hU]; exact hh, fun h => by rw [hU]; exact hz h, X.2.warm hW⟩⟩ rfl hna hl.1 hst (lv_room hrs) hd hr3) kk
theorem g_callI (X : xg_X p m c cc nL s args own G) {a : Nat} (cv : xc_I own index y cb ml na) (hM : xg_M z l y cb ml none rm G O n w (.ref a :: as) n' mc ms post) (hd : decode cc pc = .ok (.invokespecial index, 3)) (hst : st = as.reverse ++ .ref a :: rest) (hna : as.length = na) (hR : xr_ok rm R ml mc ms cells slots = true) (hrs : (rest.map fun v => v.category).sum ≤ 8)
    (kk : ∀ (r : Option Value) (w' : Nat → va_E), post r w' → gv z p l e R s m args below meth c nL G O (cells + mc) (slots + ms) Q n' w' L (pc + 3) (r.toList ++ rest)) : gv z p l e R s m args below meth c nL G O cells slots Q n w L pc st := by
  intro H ls locs hl hh hz hq
  obtain ⟨hr1, hr2, hr3⟩ := xr_of hR
  obtain ⟨v1, v2, v3, v4, v5, v6⟩ := cv
  have ht := X.1.2.2.2.2
  exact g_run hl hq (va_runI (As := as) (b := a) X.1 hM ⟨callB_of na ht (xw_goodT v4) rfl hr1.1 hr1.2 (ht _ v3) (ht _ v1) v6 hr2, v5, ht _ v2⟩ ⟨xg_P.blind, fun U hU hW => ⟨rfl, by rw [hU]; exact hh, fun h => by rw [hU]; exact hz h, X.2.warm hW⟩⟩ rfl hna hl.1 hst (lv_room hrs) hd hr3) kk
theorem g_callIN (X : xg_X p m c cc nL s args own G) {a : Nat} (cv : xc_IN own index y cb ml na) (hM : xg_M z l y cb ml none rm G O n w (.ref a :: as) n' mc ms post) (hd : decode cc pc = .ok (.invokespecial index, 3)) (hst : st = as.reverse ++ .ref a :: rest) (hna : as.length = na) (hR : xr_ok rm R ml mc ms cells slots = true) (hrs : (rest.map fun v => v.category).sum ≤ 8)
    (kk : ∀ (r : Option Value) (w' : Nat → va_E), post r w' → gv z p l e R s m args below meth c nL G O (cells + mc) (slots + ms) Q n' w' L (pc + 3) (r.toList ++ rest)) : gv z p l e R s m args below meth c nL G O cells slots Q n w L pc st := by
  intro H ls locs hl hh hz hq
  obtain ⟨hr1, hr2, hr3⟩ := xr_of hR
  obtain ⟨v1, v2, v3, v4, v5, v6⟩ := cv
  have ht := X.1.2.2.2.2
  exact g_run hl hq (va_runIN (As := as) (b := a) X.1 hM ⟨va_cnB na ht (xw_goodT v4) rfl hr1.1 hr1.2 (X.2.2.1 _ v1) (ht _ v3) v6 hr2, v5, ht _ v2⟩ ⟨xg_P.blind, fun U hU hW => ⟨rfl, by rw [hU]; exact hh, fun h => by rw [hU]; exact hz h, X.2.warm hW⟩⟩ rfl hna hl.1 hst (lv_room hrs) hd hr3) kk
theorem g_objInit (X : xg_X p m c cc nL s args own G) {a : Nat} (hd : decode cc pc = .ok (.invokespecial index, 3)) (h1 : Cond.methodLink own index objectInit ∈ xw_T) (h2 : Cond.instanceMethod objectInit ∈ xw_T) (h3 : Cond.code objectInit ⟨#[0xb1]⟩ 1 none ∈ xw_T) (hf : 1 ≤ R.frames) (hrs : (rest.map fun v => v.category).sum + 12 ≤ R.locals) (kk : gv z p l e R s m args below meth c nL G O cells slots Q n w L (pc + 3) rest) : gv z p l e R s m args below meth c nL G O cells slots Q n w L pc (.ref a :: rest) := by
  intro H ls locs hl hh hz hq
  have ht := X.1.2.2.2.2
  exact W.objInit X.1.1 X.1.2.1 X.1.2.2.2.1 (ht _ h1) (ht _ h2) (ht _ h3) rfl (by rw [X.1.2.2.1]; exact hl.1) (rest := rest) rfl hd hf (by show 2 * 0 + _ + 12 ≤ _; omega) (kk H ls locs hl hh hz hq)
theorem g_max (X : xg_X p m c cc nL s args own G) {x y : Int32} (hd : decode cc pc = .ok (.invokestatic index, 3)) (h1 : Cond.methodLink own index Lib.Math.max.name ∈ xw_T) (h2 : Cond.static Lib.Math.max.name ∈ xw_T) (h3 : Cond.initialized "java/lang/Math" ∈ xw_T) (h4 : Cond.code Lib.Math.max.name Lib.Math.max.code 2 (some .int) ∈ xw_T) (hf : 1 ≤ R.frames) (hrs : (rest.map fun v => v.category).sum + 13 ≤ R.locals) (hc : cells ≤ R.cells) (hs : slots ≤ R.slots) (kk : gv z p l e R s m args below meth c nL G O cells slots Q n w L (pc + 3) (.int (if x < y then y else x) :: rest)) : gv z p l e R s m args below meth c nL G O cells slots Q n w L pc (.int y :: .int x :: rest) := by
  intro H ls locs hl hh hz hq
  have ht := X.1.2.2.2.2
  exact va_mmax X.1.1 X.1.2.1 (by rw [X.1.2.2.1, hl.1]) X.1.2.2.2.1 (ht _ h1) (ht _ h2) (ht _ h3) (ht _ h4) hf hrs hc hs hd (kk H ls locs hl hh hz hq)
theorem g_min (X : xg_X p m c cc nL s args own G) {x y : Int32} (hd : decode cc pc = .ok (.invokestatic index, 3)) (h1 : Cond.methodLink own index Lib.Math.min.name ∈ xw_T) (h2 : Cond.static Lib.Math.min.name ∈ xw_T) (h3 : Cond.initialized "java/lang/Math" ∈ xw_T) (h4 : Cond.code Lib.Math.min.name Lib.Math.min.code 2 (some .int) ∈ xw_T) (hf : 1 ≤ R.frames) (hrs : (rest.map fun v => v.category).sum + 13 ≤ R.locals) (hc : cells ≤ R.cells) (hs : slots ≤ R.slots) (kk : gv z p l e R s m args below meth c nL G O cells slots Q n w L (pc + 3) (.int (if y < x then y else x) :: rest)) : gv z p l e R s m args below meth c nL G O cells slots Q n w L pc (.int y :: .int x :: rest) := by
  intro H ls locs hl hh hz hq
  have ht := X.1.2.2.2.2
  exact va_mmin X.1.1 X.1.2.1 (by rw [X.1.2.2.1, hl.1]) X.1.2.2.2.1 (ht _ h1) (ht _ h2) (ht _ h3) (ht _ h4) hf hrs hc hs hd (kk H ls locs hl hh hz hq)
end XC
end
section
/-! 02c: the shape of the cells once both objects are made: kinds, lengths, fixed references; the ints are t k j -/
def xs_KD : List Nat := [8, 6, 10, 5, 7, 10, 2, 12, 1, 10, 1, 10, 1, 10, 1, 10, 1, 10, 1, 10, 1, 10, 1, 10, 3, 11, 10, 10, 10, 10, 10, 10, 10, 10, 10, 10, 10, 10, 10, 10, 10, 10, 10, 4, 11, 10, 10, 10, 10, 10, 10, 10, 10, 10, 10, 0, 13, 10, 10, 11, 10, 10, 10, 10, 10, 10, 10, 10, 3, 3, 3, 3, 3, 3, 3, 3, 9, 10, 10, 10, 10, 10, 10, 10, 10, 10, 10, 10, 10, 10, 10, 10, 14, 10]
def xs_LN : List Nat := [0, 0, 400, 0, 0, 160, 0, 8, 0, 16, 0, 16, 0, 16, 0, 16, 0, 16, 0, 16, 0, 16, 0, 16, 0, 16, 129, 129, 129, 129, 129, 129, 129, 129, 129, 129, 129, 129, 129, 129, 129, 129, 129, 0, 8, 8, 8, 8, 8, 8, 8, 8, 8, 256, 256, 0, 8, 8, 8, 8, 16, 16, 16, 16, 16, 16, 16, 16, 0, 0, 0, 0, 0, 0, 0, 0, 0, 400, 320, 8, 8, 8, 128, 256, 64, 8, 8, 8, 8, 8, 128, 128, 8, 8]
def xs_SR : List (List Nat) := [[1, 3, 4, 6, 43, 55], [2], [], [4, 6, 24, 25, 42], [5], [], [7], [8, 10, 12, 14, 16, 18, 20, 22], [0, 0, 0, 9], [], [0, 0, 0, 11], [], [0, 0, 0, 13], [], [0, 0, 0, 15], [], [0, 0, 0, 17], [], [0, 0, 0, 19], [], [0, 0, 0, 21], [], [0, 0, 0, 23], [], [], [26, 27, 28, 29, 30, 31, 32, 33, 34, 35, 36, 37, 38, 39, 40, 41], [], [], [], [], [], [], [], [], [], [], [], [], [], [], [], [], [], [44, 53, 54], [45, 46, 47, 48, 49, 50, 51, 52], [], [], [], [], [], [], [], [], [], [], [56, 57, 58, 59], [68, 69, 70, 71, 72, 73, 74, 75], [], [], [60, 61, 62, 63, 64, 65, 66, 67], [], [], [], [], [], [], [], [], [], [], [], [], [], [], [], [], [0, 77, 0, 78, 0, 0, 0, 0, 79, 80, 81, 82, 0, 0, 0, 0, 0, 0, 83, 84, 0, 0, 85, 86, 87, 88, 89, 0, 90, 91, 92, 93], [], [], [], [], [], [], [], [], [], [], [], [], [], [], [], [], []]
def xs_NF : List Nat := [5, 4, 2, 7, 4, 5, 2, 4, 8, 32]
def xs_RF : List (List Bool) := [[true, true, true, true, false], [false, false, false, true], [true, false], [false, false, false, false, false, false, false], [true, true, true, false], [true, true, true, true, true], [true, false], [true, false, false, false], [true, true, true, true, true, true, false, false], [false, true, false, true, false, false, false, false, true, true, true, true, false, false, false, false, false, false, true, true, false, false, true, true, true, true, true, false, true, true, true, true]]
def kd (k : Nat) : Nat := xs_KD.getD k 99
def ln (k : Nat) : Nat := xs_LN.getD k 0
def sr (k j : Nat) : Nat := (xs_SR.getD k []).getD j 0
def nf (c : Nat) : Nat := xs_NF.getD c 0
def isr (c j : Nat) : Bool := (xs_RF.getD c []).getD j false
theorem kd_lt {k c : Nat} (h : kd k = c) (hc : c < 99) : k < 94 := by
  rcases Nat.lt_or_ge k 94 with q | q
  · exact q
  · have : kd k = 99 := by unfold kd; rw [List.getD_eq_getElem?_getD, List.getElem?_eq_none (by show 94 ≤ k; exact q)]; rfl
    omega
theorem kd_half : ∀ h, h < 8 → kd (8 + 2 * h) = 1 ∧ sr 7 h = 8 + 2 * h ∧ sr (8 + 2 * h) 3 = 9 + 2 * h ∧ kd (9 + 2 * h) = 10 ∧ ln (9 + 2 * h) = 16 := by decide
theorem kd_row : ∀ r, r < 16 → sr 25 r = 26 + r ∧ kd (26 + r) = 10 ∧ ln (26 + r) = 129 := by decide
theorem kd_cost : ∀ a, a < 8 → sr 44 a = 45 + a ∧ kd (45 + a) = 10 ∧ ln (45 + a) = 8 := by decide
theorem kd_leaf : ∀ k, k < 8 → sr 56 k = 68 + k ∧ kd (68 + k) = 3 := by decide
theorem kd_was : ∀ h, h < 8 → sr 59 h = 60 + h ∧ kd (60 + h) = 10 ∧ ln (60 + h) = 16 := by decide
/-- the ints of the state, by cell and place -/
abbrev xT : Type := Nat → Nat → Int32
def xt (t : xT) (k j : Nat) (v : Int32) : xT := fun a b => if a = k ∧ b = j then v else t a b
def xd_f (O : Heap) (t : xT) (k c : Nat) : List Value := (List.range (nf c)).map (fun j => if isr c j = true then Value.ref (O.size + sr k j) else .int (t k j))
def xd (G : xg_G) (O : Heap) (t : xT) (k : Nat) : va_E :=
  if kd k < 10 then .inr (kd k, xd_f O t k (kd k)) else if kd k = 10 then .inl (G.2 0, ln k, .inl (t k)) else if kd k = 14 then .inl (G.2 4, ln k, .inl (t k))
  else .inl (G.2 (kd k - 10), ln k, .inr (.inr (.inr (.inr (fun j => if j < ln k then some (O.size + sr k j) else none)))))
theorem xd_obj {G : xg_G} {O : Heap} {t : xT} {k c : Nat} (hk : kd k = c) (hc : c < 10) : xd G O t k = .inr (c, xd_f O t k c) := by
  unfold xd; rw [hk, if_pos hc]
theorem xd_ints {G : xg_G} {O : Heap} {t : xT} {k : Nat} (hk : kd k = 10) : xd G O t k = .inl (G.2 0, ln k, .inl (t k)) := by
  unfold xd; rw [hk, if_neg (by decide), if_pos rfl]
theorem xd_bits {G : xg_G} {O : Heap} {t : xT} {k : Nat} (hk : kd k = 14) : xd G O t k = .inl (G.2 4, ln k, .inl (t k)) := by
  unfold xd; rw [hk, if_neg (by decide), if_neg (by decide), if_pos rfl]
theorem xd_refs {G : xg_G} {O : Heap} {t : xT} {k c : Nat} (hk : kd k = c) (h1 : 10 < c) (h2 : c < 14) : xd G O t k = .inl (G.2 (c - 10), ln k, .inr (.inr (.inr (.inr (fun j => if j < ln k then some (O.size + sr k j) else none))))) := by
  unfold xd; rw [hk, if_neg (by omega), if_neg (by omega), if_neg (by omega)]
theorem xd_f_at {O : Heap} {t : xT} {k c j : Nat} (hj : j < nf c) : (xd_f O t k c)[j]? = some (if isr c j = true then .ref (O.size + sr k j) else .int (t k j)) := by
  unfold xd_f; rw [List.getElem?_map, List.getElem?_range hj]; rfl
theorem xd_f_len {O : Heap} {t : xT} {k c : Nat} : (xd_f O t k c).length = nf c := by simp [xd_f]
theorem xt_same (t : xT) (k j : Nat) (v : Int32) : xt t k j v k j = v := by simp [xt]
theorem xt_ne (t : xT) {k j a b : Nat} (v : Int32) (h : a ≠ k ∨ b ≠ j) : xt t k j v a b = t a b := by
  unfold xt; rw [if_neg]; intro q; rcases h with h | h
  · exact h q.1
  · exact h q.2
theorem xd_other {G : xg_G} {O : Heap} {t : xT} {k j a : Nat} {v : Int32} (h : a ≠ k) : xd G O (xt t k j v) a = xd G O t a := by
  have e : xt t k j v a = t a := funext fun b => xt_ne t v (Or.inl h)
  unfold xd xd_f; rw [e]
theorem xd_put {G : xg_G} {O : Heap} {t : xT} {k c j : Nat} {v : Int32} (hk : kd k = c) (hc : c < 10) (hr : isr c j = false) : xg_up (xd G O t) k (.inr (c, (xd_f O t k c).set j (.int v))) = xd G O (xt t k j v) := by
  funext a
  unfold xg_up
  by_cases h : a = k
  · subst h
    rw [if_pos rfl, xd_obj hk hc]
    congr 2
    apply List.ext_getElem?
    intro i
    by_cases hi : i < nf c
    · rw [xd_f_at hi]
      by_cases hij : i = j
      · subst hij
        rw [List.getElem?_set_self (by rw [xd_f_len]; exact hi), hr, xt_same]; simp
      · rw [List.getElem?_set_ne (Ne.symm hij), xd_f_at hi, xt_ne t v (Or.inr hij)]
    · rw [List.getElem?_eq_none (by rw [List.length_set, xd_f_len]; omega), List.getElem?_eq_none (by rw [xd_f_len]; omega)]
  · rw [if_neg h, xd_other h]
theorem xd_ast {G : xg_G} {O : Heap} {t : xT} {k j : Nat} {v : Int32} (hk : kd k = 10) : xg_up (xd G O t) k (.inl (G.2 0, ln k, .inl (upd (t k) j v))) = xd G O (xt t k j v) := by
  funext a
  unfold xg_up
  by_cases h : a = k
  · subst h
    rw [if_pos rfl, xd_ints hk]
    have e : upd (t a) j v = xt t a j v a := by funext b; unfold upd xt; simp
    rw [e]
  · rw [if_neg h, xd_other h]
theorem xd_zst {G : xg_G} {O : Heap} {t : xT} {k j : Nat} {v : Int32} (hk : kd k = 14) : xg_up (xd G O t) k (.inl (G.2 4, ln k, .inl (upd (t k) j v))) = xd G O (xt t k j v) := by
  funext a
  unfold xg_up
  by_cases h : a = k
  · subst h
    rw [if_pos rfl, xd_bits hk]
    have e : upd (t a) j v = xt t a j v a := by funext b; unfold upd xt; simp
    rw [e]
  · rw [if_neg h, xd_other h]
/-- the walk over the made cells, which hold the ints t -/
abbrev gm (p : Program) (l : Launch) (e : Env) (R : Room) (s : State) (m : MethodId) (args : Array Value) (below : List Frame) (meth : Method) (c : Code) (nL : Nat) (G : xg_G) (O : Heap) (Q : State → Prop) (t : xT) (L : List (Option Value)) (pc : Nat) (st : List Value) : Prop :=
  gv False p l e R s m args below meth c nL G O 0 0 Q 94 (xd G O t) L pc st
/-- a contract over the made cells -/
def xm (l : Launch) (y : MethodName) (cb : ByteArray) (ml : Nat) (ret : Option FieldType) (rm : Room) (G : xg_G) (O : Heap) (t : xT) (as : List Value) (post : Option Value → xT → Prop) : Prop :=
  xg_M False l y cb ml ret rm G O 94 (xd G O t) as 94 0 0 (fun r w' => ∃ t' : xT, w' = xd G O t' ∧ post r t')
def xi (P : Int32 → xT → Prop) : Option Value → xT → Prop := fun r t => ∃ v : Int32, r = some (.int v) ∧ P v t
def xv (P : xT → Prop) : Option Value → xT → Prop := fun r t => r = none ∧ P t
def xa (O : Heap) (P : Nat → xT → Prop) : Option Value → xT → Prop := fun r t => ∃ k : Nat, r = some (.ref (O.size + k)) ∧ P k t
/-- where a method over the made cells ends -/
abbrev xmQ (below : List Frame) (G : xg_G) (O : Heap) (post : Option Value → xT → Prop) (args : Array Value) (s : State) : State → Prop := MQ below (xg_Qc False G O 94 (fun r w' => ∃ t' : xT, w' = xd G O t' ∧ post r t')) args s 0 0 (fun q => O.size ≤ q)
section XM
variable {p : Program} {l : Launch} {e : Env} {R : Room} {s : State} {m : MethodId} {args : Array Value} {below : List Frame} {meth : Method} {c : Code} {nL : Nat} {G : xg_G} {O : Heap} {Q : State → Prop} {t : xT} {L : List (Option Value)} {pc : Nat} {rest : List Value} {cc : ByteArray} {own : String}
variable {y : MethodName} {cb : ByteArray} {ml : Nat} {ret : Option FieldType} {rm : Room} {as : List Value} {na index : Nat} {post : Option Value → xT → Prop} {st : List Value}
theorem xm_enter (hy : plainName y.cls = true) (k : Nat) (hc : as.all (fun v => v.category == 1) = true) (hk : as.length + k = ml)
    (body : ∀ (p : Program) (e : Env) (s : State) (m : MethodId) (args : Array Value) (below : List Frame) (meth : Method) (c : Code), xg_X p m c cb ml s args y.cls G → meth.sig.returnType = ret → meth.locks = false → gm p l e rm s m args below meth c ml G O (xmQ below G O post args s) t (as.map some ++ List.replicate k none) 0 []) : xm l y cb ml ret rm G O t as post :=
  xg_enter hy k hc hk (fun p e s m args below meth c X hr hk _ => body p e s m args below meth c X hr hk)
theorem gm_iret {P : Int32 → xT → Prop} (X : xg_X p m c cc nL s args own G) (hr : meth.sig.returnType = some .int) (hk : meth.locks = false) {v : Int32} (hd : decode cc pc = .ok (.ireturn, 1)) (hp : P v t) : gm p l e R s m args below meth c nL G O (xmQ below G O (xi P) args s) t L pc [.int v] :=
  g_iret X hr hk hd ⟨t, rfl, v, rfl, hp⟩
theorem gm_zret {P : Int32 → xT → Prop} (X : xg_X p m c cc nL s args own G) (hr : meth.sig.returnType = some .boolean) (hk : meth.locks = false) {v : Int32} (hd : decode cc pc = .ok (.ireturn, 1)) (hv : v = 0 ∨ v = 1) (hp : P v t) : gm p l e R s m args below meth c nL G O (xmQ below G O (xi P) args s) t L pc [.int v] :=
  g_zret X hr hk hd hv ⟨t, rfl, v, rfl, hp⟩
theorem gm_vret {P : xT → Prop} (X : xg_X p m c cc nL s args own G) (hr : meth.sig.returnType = none) (hk : meth.locks = false) (hd : decode cc pc = .ok (.return_, 1)) (hp : P t) : gm p l e R s m args below meth c nL G O (xmQ below G O (xv P) args s) t L pc [] :=
  g_vret X hr hk hd ⟨t, rfl, rfl, hp⟩
theorem gm_aret {P : Nat → xT → Prop} (X : xg_X p m c cc nL s args own G) {ty : FieldType} (hr : meth.sig.returnType = some (.array ty)) (hk : meth.locks = false) {k : Nat} (hd : decode cc pc = .ok (.areturn, 1)) (hp : P k t) : gm p l e R s m args below meth c nL G O (xmQ below G O (xa O P) args s) t L pc [.ref (O.size + k)] :=
  g_aret X hr (Or.inr ⟨ty, rfl⟩) hk hd ⟨t, rfl, k, rfl, hp⟩
theorem gm_getI (X : xg_X p m c cc nL s args own G) {k j : Nat} {C : String} {T : u_T} {N : Nat} (ci : Nat) (hd : decode cc pc = .ok (.getfield index, 3)) (hk : kd k = ci) (hc10 : ci < 10) (hc : vwCl[ci]? = some (C, T, N)) (hin : ∀ w ∈ u_ws C T N, w ∈ xw_T) (hj : j < N) (hN : nf ci = N) (fl : Cond.fieldLink own index (T j).1 (T j).2.1 (T j).2.2.1 ∈ xw_T) (hr : isr ci j = false) (kk : gm p l e R s m args below meth c nL G O Q t L (pc + 3) (.int (t k j) :: rest)) : gm p l e R s m args below meth c nL G O Q t L pc (.ref (O.size + k) :: rest) :=
  g_get X hd (kd_lt hk (by omega)) (xd_obj hk hc10) hc hin hj fl (by rw [xd_f_at (by rw [hN]; exact hj), hr]; rfl) kk
theorem gm_getR (X : xg_X p m c cc nL s args own G) {k j k' : Nat} {C : String} {T : u_T} {N : Nat} (ci : Nat) (hd : decode cc pc = .ok (.getfield index, 3)) (hk : kd k = ci) (hc10 : ci < 10) (hc : vwCl[ci]? = some (C, T, N)) (hin : ∀ w ∈ u_ws C T N, w ∈ xw_T) (hj : j < N) (hN : nf ci = N) (fl : Cond.fieldLink own index (T j).1 (T j).2.1 (T j).2.2.1 ∈ xw_T) (hr : isr ci j = true) (hs : sr k j = k') (kk : gm p l e R s m args below meth c nL G O Q t L (pc + 3) (.ref (O.size + k') :: rest)) : gm p l e R s m args below meth c nL G O Q t L pc (.ref (O.size + k) :: rest) :=
  g_get X hd (kd_lt hk (by omega)) (xd_obj hk hc10) hc hin hj fl (by rw [xd_f_at (by rw [hN]; exact hj), hr, hs]; rfl) kk
theorem gm_putI (X : xg_X p m c cc nL s args own G) {k j : Nat} {v : Int32} {C : String} {T : u_T} {N : Nat} (ci : Nat) (ty0 : Nat → FieldType) (hd : decode cc pc = .ok (.putfield index, 3)) (hk : kd k = ci) (hc10 : ci < 10) (hc : vwCl[ci]? = some (C, T, N)) (hin : ∀ w ∈ u_ws C T N, w ∈ xw_T) (hty : ∀ k, k < N → parseFieldDescriptor (T k).2.2.1 = some (ty0 k)) (hnm : ∀ a, a < N → ∀ b, b < N → a ≠ b → (T a).2.1 ≠ (T b).2.1) (hj : j < N) (hN : nf ci = N) (fl : Cond.fieldLink own index (T j).1 (T j).2.1 (T j).2.2.1 ∈ xw_T) (hf : (T j).2.2.2 = false) (hr : isr ci j = false) (hdn : ty0 j = .int ∨ (ty0 j = .boolean ∧ (v = 0 ∨ v = 1))) (kk : gm p l e R s m args below meth c nL G O Q (xt t k j v) L (pc + 3) rest) : gm p l e R s m args below meth c nL G O Q t L pc (.int v :: .ref (O.size + k) :: rest) := by
  have h1 : narrow (ty0 j) (.int v) = .int v := by
    rcases hdn with h | ⟨h, rfl | rfl⟩ <;> rw [h] <;> rfl
  have h2 : fits (ty0 j) (.int v) = true := by
    rcases hdn with h | ⟨h, rfl | rfl⟩ <;> rw [h] <;> rfl
  refine g_put X ty0 hd (kd_lt hk (by omega)) (xd_obj hk hc10) hc hin hty hnm hj (by rw [xd_f_len, hN]; exact hj) fl (Or.inl hf) rfl h1 h2 ?_
  rw [xd_put hk hc10 hr]
  exact kk
theorem gm_iald (X : xg_X p m c cc nL s args own G) {k : Nat} {i : Int32} (j : Nat) (hd : decode cc pc = .ok (.iaload, 1)) (hk : kd k = 10) (hi : i = nI j) (hj : j < ln k) (hl : ln k ≤ 400) (kk : gm p l e R s m args below meth c nL G O Q t L (pc + 1) (.int (t k j) :: rest)) : gm p l e R s m args below meth c nL G O Q t L pc (.int i :: .ref (O.size + k) :: rest) := by
  subst hi
  refine g_iald X hd (kd_lt hk (by omega)) (xd_ints hk) rfl (vp_in_nI hj (by omega)) ?_
  rw [nI_clamp (by omega)]
  exact kk
theorem gm_zald (X : xg_X p m c cc nL s args own G) {k : Nat} {i : Int32} (j : Nat) (hd : decode cc pc = .ok (.baload, 1)) (hk : kd k = 14) (hi : i = nI j) (hj : j < ln k) (hl : ln k ≤ 400) (kk : gm p l e R s m args below meth c nL G O Q t L (pc + 1) (.int (t k j) :: rest)) : gm p l e R s m args below meth c nL G O Q t L pc (.int i :: .ref (O.size + k) :: rest) := by
  subst hi
  refine g_zald X hd (kd_lt hk (by omega)) (xd_bits hk) rfl (vp_in_nI hj (by omega)) ?_
  rw [nI_clamp (by omega)]
  exact kk
theorem gm_iast (X : xg_X p m c cc nL s args own G) {k : Nat} {i v : Int32} (j : Nat) (hd : decode cc pc = .ok (.iastore, 1)) (hk : kd k = 10) (hi : i = nI j) (hj : j < ln k) (hl : ln k ≤ 400) (kk : gm p l e R s m args below meth c nL G O Q (xt t k j v) L (pc + 1) rest) : gm p l e R s m args below meth c nL G O Q t L pc (.int v :: .int i :: .ref (O.size + k) :: rest) := by
  subst hi
  refine g_iast X hd (kd_lt hk (by omega)) (xd_ints hk) rfl (vp_in_nI hj (by omega)) ?_
  rw [nI_clamp (by omega), xd_ast hk]
  exact kk
theorem gm_zast (X : xg_X p m c cc nL s args own G) {k : Nat} {i v : Int32} (j : Nat) (hd : decode cc pc = .ok (.bastore, 1)) (hk : kd k = 14) (hi : i = nI j) (hj : j < ln k) (hl : ln k ≤ 400) (hv : v = 0 ∨ v = 1) (kk : gm p l e R s m args below meth c nL G O Q (xt t k j v) L (pc + 1) rest) : gm p l e R s m args below meth c nL G O Q t L pc (.int v :: .int i :: .ref (O.size + k) :: rest) := by
  subst hi
  refine g_zast X hd (kd_lt hk (by omega)) (xd_bits hk) rfl (vp_in_nI hj (by omega)) ?_
  rw [nI_clamp (by omega), show vp_nar .boolean v = v by rcases hv with rfl | rfl <;> rfl, xd_zst hk]
  exact kk
theorem gm_aald (X : xg_X p m c cc nL s args own G) {k k' : Nat} {i : Int32} (ci j : Nat) (ty : FieldType) (hd : decode cc pc = .ok (.aaload, 1)) (hk : kd k = ci) (h1 : 10 < ci) (h2 : ci < 14) (ht : (xg_tys G.2)[ci - 10]? = some (G.2 (ci - 10), ty)) (hr : ty.isReference = true) (hi : i = nI j) (hj : j < ln k) (hl : ln k ≤ 400) (hs : sr k j = k') (kk : gm p l e R s m args below meth c nL G O Q t L (pc + 1) (.ref (O.size + k') :: rest)) : gm p l e R s m args below meth c nL G O Q t L pc (.int i :: .ref (O.size + k) :: rest) := by
  subst hi
  refine g_aald X (ci - 10) ty hd (kd_lt hk (by omega)) (xd_refs hk h1 h2) ht hr (vp_in_nI hj (by omega)) ?_
  rw [nI_clamp (by omega), if_pos hj, hs]
  exact kk
theorem gm_alen (X : xg_X p m c cc nL s args own G) {k : Nat} {v : Int32} (hd : decode cc pc = .ok (.arraylength, 1)) (hk : kd k = 10) (hv : Int32.ofNat (ln k) = v) (kk : gm p l e R s m args below meth c nL G O Q t L (pc + 1) (.int v :: rest)) : gm p l e R s m args below meth c nL G O Q t L pc (.ref (O.size + k) :: rest) :=
  g_alen X 0 .int hd (kd_lt hk (by omega)) (xd_ints hk) rfl hv kk
theorem gm_callV (X : xg_X p m c cc nL s args own G) {C : String} {T : u_T} {N k : Nat} (ci : Nat) (cv : xc_V own index C y cb ml ret na) (hM : xm l y cb ml ret rm G O t (.ref (O.size + k) :: as) post) (hd : decode cc pc = .ok (.invokevirtual index, 3)) (hk : kd k = ci) (hc10 : ci < 10) (hc : vwCl[ci]? = some (C, T, N)) (hst : st = as.reverse ++ .ref (O.size + k) :: rest) (hna : as.length = na) (hR : xr_ok rm R ml 0 0 0 0 = true) (hrs : (rest.map fun v => v.category).sum ≤ 8)
    (kk : ∀ (r : Option Value) (t' : xT), post r t' → gm p l e R s m args below meth c nL G O Q t' L (pc + 3) (r.toList ++ rest)) : gm p l e R s m args below meth c nL G O Q t L pc st :=
  g_callV X cv hM hd (kd_lt hk (by omega)) (xd_obj hk hc10) hc hst hna hR hrs (fun r w' h => by obtain ⟨t', rfl, h⟩ := h; exact kk r t' h)
theorem gm_callS (X : xg_X p m c cc nL s args own G) (cv : xc_S own index y cb ml ret na) (hM : xm l y cb ml ret rm G O t as post) (hd : decode cc pc = .ok (.invokestatic index, 3)) (hst : st = as.reverse ++ rest) (hna : as.length = na) (hR : xr_ok rm R ml 0 0 0 0 = true) (hrs : (rest.map fun v => v.category).sum ≤ 8)
    (kk : ∀ (r : Option Value) (t' : xT), post r t' → gm p l e R s m args below meth c nL G O Q t' L (pc + 3) (r.toList ++ rest)) : gm p l e R s m args below meth c nL G O Q t L pc st :=
  g_callS X cv hM hd hst hna hR hrs (fun r w' h => by obtain ⟨t', rfl, h⟩ := h; exact kk r t' h)
theorem gm_callSN (X : xg_X p m c cc nL s args own G) (cv : xc_SN own index y cb ml ret na) (hM : xm l y cb ml ret rm G O t as post) (hd : decode cc pc = .ok (.invokestatic index, 3)) (hst : st = as.reverse ++ rest) (hna : as.length = na) (hR : xr_ok rm R ml 0 0 0 0 = true) (hrs : (rest.map fun v => v.category).sum ≤ 8)
    (kk : ∀ (r : Option Value) (t' : xT), post r t' → gm p l e R s m args below meth c nL G O Q t' L (pc + 3) (r.toList ++ rest)) : gm p l e R s m args below meth c nL G O Q t L pc st :=
  g_callSN X cv hM hd hst hna hR hrs (fun r w' h => by obtain ⟨t', rfl, h⟩ := h; exact kk r t' h)
theorem gm_Vi {P : Int32 → xT → Prop} (X : xg_X p m c cc nL s args own G) {C : String} {T : u_T} {N k : Nat} (ci : Nat) (cv : xc_V own index C y cb ml ret na) (hM : xm l y cb ml ret rm G O t (.ref (O.size + k) :: as) (xi P)) (hd : decode cc pc = .ok (.invokevirtual index, 3)) (hk : kd k = ci) (hc10 : ci < 10) (hc : vwCl[ci]? = some (C, T, N)) (hst : st = as.reverse ++ .ref (O.size + k) :: rest) (hna : as.length = na) (hR : xr_ok rm R ml 0 0 0 0 = true) (hrs : (rest.map fun v => v.category).sum ≤ 8) (kk : ∀ (v : Int32) (t' : xT), P v t' → gm p l e R s m args below meth c nL G O Q t' L (pc + 3) (.int v :: rest)) : gm p l e R s m args below meth c nL G O Q t L pc st :=
  gm_callV X ci cv hM hd hk hc10 hc hst hna hR hrs (fun r t' h => by obtain ⟨v, rfl, h⟩ := h; exact kk v t' h)
theorem gm_Vv {P : xT → Prop} (X : xg_X p m c cc nL s args own G) {C : String} {T : u_T} {N k : Nat} (ci : Nat) (cv : xc_V own index C y cb ml ret na) (hM : xm l y cb ml ret rm G O t (.ref (O.size + k) :: as) (xv P)) (hd : decode cc pc = .ok (.invokevirtual index, 3)) (hk : kd k = ci) (hc10 : ci < 10) (hc : vwCl[ci]? = some (C, T, N)) (hst : st = as.reverse ++ .ref (O.size + k) :: rest) (hna : as.length = na) (hR : xr_ok rm R ml 0 0 0 0 = true) (hrs : (rest.map fun v => v.category).sum ≤ 8) (kk : ∀ (t' : xT), P t' → gm p l e R s m args below meth c nL G O Q t' L (pc + 3) rest) : gm p l e R s m args below meth c nL G O Q t L pc st :=
  gm_callV X ci cv hM hd hk hc10 hc hst hna hR hrs (fun r t' h => by obtain ⟨rfl, h⟩ := h; exact kk t' h)
theorem gm_Va {P : Nat → xT → Prop} (X : xg_X p m c cc nL s args own G) {C : String} {T : u_T} {N k : Nat} (ci : Nat) (cv : xc_V own index C y cb ml ret na) (hM : xm l y cb ml ret rm G O t (.ref (O.size + k) :: as) (xa O P)) (hd : decode cc pc = .ok (.invokevirtual index, 3)) (hk : kd k = ci) (hc10 : ci < 10) (hc : vwCl[ci]? = some (C, T, N)) (hst : st = as.reverse ++ .ref (O.size + k) :: rest) (hna : as.length = na) (hR : xr_ok rm R ml 0 0 0 0 = true) (hrs : (rest.map fun v => v.category).sum ≤ 8) (kk : ∀ (k' : Nat) (t' : xT), P k' t' → gm p l e R s m args below meth c nL G O Q t' L (pc + 3) (.ref (O.size + k') :: rest)) : gm p l e R s m args below meth c nL G O Q t L pc st :=
  gm_callV X ci cv hM hd hk hc10 hc hst hna hR hrs (fun r t' h => by obtain ⟨v, rfl, h⟩ := h; exact kk v t' h)
theorem gm_Si {P : Int32 → xT → Prop} (X : xg_X p m c cc nL s args own G) (cv : xc_S own index y cb ml ret na) (hM : xm l y cb ml ret rm G O t as (xi P)) (hd : decode cc pc = .ok (.invokestatic index, 3)) (hst : st = as.reverse ++ rest) (hna : as.length = na) (hR : xr_ok rm R ml 0 0 0 0 = true) (hrs : (rest.map fun v => v.category).sum ≤ 8) (kk : ∀ (v : Int32) (t' : xT), P v t' → gm p l e R s m args below meth c nL G O Q t' L (pc + 3) (.int v :: rest)) : gm p l e R s m args below meth c nL G O Q t L pc st :=
  gm_callS X cv hM hd hst hna hR hrs (fun r t' h => by obtain ⟨v, rfl, h⟩ := h; exact kk v t' h)
theorem gm_Sv {P : xT → Prop} (X : xg_X p m c cc nL s args own G) (cv : xc_S own index y cb ml ret na) (hM : xm l y cb ml ret rm G O t as (xv P)) (hd : decode cc pc = .ok (.invokestatic index, 3)) (hst : st = as.reverse ++ rest) (hna : as.length = na) (hR : xr_ok rm R ml 0 0 0 0 = true) (hrs : (rest.map fun v => v.category).sum ≤ 8) (kk : ∀ (t' : xT), P t' → gm p l e R s m args below meth c nL G O Q t' L (pc + 3) rest) : gm p l e R s m args below meth c nL G O Q t L pc st :=
  gm_callS X cv hM hd hst hna hR hrs (fun r t' h => by obtain ⟨rfl, h⟩ := h; exact kk t' h)
theorem gm_Sa {P : Nat → xT → Prop} (X : xg_X p m c cc nL s args own G) (cv : xc_S own index y cb ml ret na) (hM : xm l y cb ml ret rm G O t as (xa O P)) (hd : decode cc pc = .ok (.invokestatic index, 3)) (hst : st = as.reverse ++ rest) (hna : as.length = na) (hR : xr_ok rm R ml 0 0 0 0 = true) (hrs : (rest.map fun v => v.category).sum ≤ 8) (kk : ∀ (k' : Nat) (t' : xT), P k' t' → gm p l e R s m args below meth c nL G O Q t' L (pc + 3) (.ref (O.size + k') :: rest)) : gm p l e R s m args below meth c nL G O Q t L pc st :=
  gm_callS X cv hM hd hst hna hR hrs (fun r t' h => by obtain ⟨v, rfl, h⟩ := h; exact kk v t' h)
theorem gm_SNi {P : Int32 → xT → Prop} (X : xg_X p m c cc nL s args own G) (cv : xc_SN own index y cb ml ret na) (hM : xm l y cb ml ret rm G O t as (xi P)) (hd : decode cc pc = .ok (.invokestatic index, 3)) (hst : st = as.reverse ++ rest) (hna : as.length = na) (hR : xr_ok rm R ml 0 0 0 0 = true) (hrs : (rest.map fun v => v.category).sum ≤ 8) (kk : ∀ (v : Int32) (t' : xT), P v t' → gm p l e R s m args below meth c nL G O Q t' L (pc + 3) (.int v :: rest)) : gm p l e R s m args below meth c nL G O Q t L pc st :=
  gm_callSN X cv hM hd hst hna hR hrs (fun r t' h => by obtain ⟨v, rfl, h⟩ := h; exact kk v t' h)
theorem gm_SNv {P : xT → Prop} (X : xg_X p m c cc nL s args own G) (cv : xc_SN own index y cb ml ret na) (hM : xm l y cb ml ret rm G O t as (xv P)) (hd : decode cc pc = .ok (.invokestatic index, 3)) (hst : st = as.reverse ++ rest) (hna : as.length = na) (hR : xr_ok rm R ml 0 0 0 0 = true) (hrs : (rest.map fun v => v.category).sum ≤ 8) (kk : ∀ (t' : xT), P t' → gm p l e R s m args below meth c nL G O Q t' L (pc + 3) rest) : gm p l e R s m args below meth c nL G O Q t L pc st :=
  gm_callSN X cv hM hd hst hna hR hrs (fun r t' h => by obtain ⟨rfl, h⟩ := h; exact kk t' h)
theorem gm_SNa {P : Nat → xT → Prop} (X : xg_X p m c cc nL s args own G) (cv : xc_SN own index y cb ml ret na) (hM : xm l y cb ml ret rm G O t as (xa O P)) (hd : decode cc pc = .ok (.invokestatic index, 3)) (hst : st = as.reverse ++ rest) (hna : as.length = na) (hR : xr_ok rm R ml 0 0 0 0 = true) (hrs : (rest.map fun v => v.category).sum ≤ 8) (kk : ∀ (k' : Nat) (t' : xT), P k' t' → gm p l e R s m args below meth c nL G O Q t' L (pc + 3) (.ref (O.size + k') :: rest)) : gm p l e R s m args below meth c nL G O Q t L pc st :=
  gm_callSN X cv hM hd hst hna hR hrs (fun r t' h => by obtain ⟨v, rfl, h⟩ := h; exact kk v t' h)
end XM
end
section
/-! 02d: what each call rests on, and the room that each method needs -/
theorem xc_X0_33 : xc_IN RX0 33 yX3_init cX3_init 1 0 := ⟨by decide +kernel, xw_147, xw_38, xw_148, rfl, ⟨by decide +kernel, by decide +kernel, by decide +kernel⟩⟩
theorem xc_X0_34 : xc_S RX0 34 yJ7_fill_53178 cJ7_fill_53178 4 none 2 := ⟨xw_241, xw_242, xw_41, xw_243, ⟨by decide +kernel, by decide +kernel, by decide +kernel⟩⟩
theorem xc_X0_40 : xc_V RX0 40 RX0 yX0_clear cX0_clear 1 none 0 := ⟨xw_479, xw_321, xw_322, xw_40, xw_323, rfl, ⟨by decide +kernel, by decide +kernel, by decide +kernel⟩⟩
theorem xc_X0_43 : xc_V RX0 43 RX4 yX4_wholeSet cX4_wholeSet 1 (some .int) 0 := ⟨xw_480, xw_481, xw_482, xw_39, xw_483, rfl, ⟨by decide +kernel, by decide +kernel, by decide +kernel⟩⟩
theorem xc_X0_49 : xc_S RX0 49 yX4_firstOf cX4_firstOf 2 (some .int) 1 := ⟨xw_484, xw_467, xw_39, xw_468, ⟨by decide +kernel, by decide +kernel, by decide +kernel⟩⟩
theorem xc_X0_53 : xc_V RX0 53 RX4 yX4_mateOfFirst cX4_mateOfFirst 2 (some .int) 1 := ⟨xw_485, xw_486, xw_487, xw_39, xw_488, rfl, ⟨by decide +kernel, by decide +kernel, by decide +kernel⟩⟩
theorem xc_X0_56 : xc_V RX0 56 RX0 yX0_addLeaf cX0_addLeaf 4 none 3 := ⟨xw_490, xw_492, xw_8, xw_40, xw_493, rfl, ⟨by decide +kernel, by decide +kernel, by decide +kernel⟩⟩
theorem xc_X0_60 : xc_S RX0 60 yX4_without cX4_without 3 (some .int) 3 := ⟨xw_503, xw_473, xw_39, xw_474, ⟨by decide +kernel, by decide +kernel, by decide +kernel⟩⟩
theorem xc_X0_64 : xc_V RX0 64 RX0 yX0_keepLists cX0_keepLists 3 none 1 := ⟨xw_504, xw_506, xw_10, xw_40, xw_507, rfl, ⟨by decide +kernel, by decide +kernel, by decide +kernel⟩⟩
theorem xc_X0_68 : xc_V RX0 68 RX0 yX0_putInOrder cX0_putInOrder 3 none 0 := ⟨xw_511, xw_513, xw_11, xw_40, xw_514, rfl, ⟨by decide +kernel, by decide +kernel, by decide +kernel⟩⟩
theorem xc_X0_71 : xc_V RX0 71 RX5 yX5_seekBest cX5_seekBest 5 (some .boolean) 2 := ⟨xw_494, xw_416, xw_417, xw_34, xw_418, rfl, ⟨by decide +kernel, by decide +kernel, by decide +kernel⟩⟩
theorem xc_X0_77 : xc_V RX0 77 RX5 yX5_copyFoundTo cX5_copyFoundTo 3 none 1 := ⟨xw_495, xw_496, xw_497, xw_34, xw_498, rfl, ⟨by decide +kernel, by decide +kernel, by decide +kernel⟩⟩
theorem xc_X0_101 : xc_V RX0 101 RX0 yX0_hasNext cX0_hasNext 2 (some .boolean) 1 := ⟨xw_535, xw_537, xw_12, xw_40, xw_538, rfl, ⟨by decide +kernel, by decide +kernel, by decide +kernel⟩⟩
theorem xc_X0_105 : xc_V RX0 105 RX0 yX0_gapBehind cX0_gapBehind 2 (some .int) 1 := ⟨xw_543, xw_545, xw_14, xw_40, xw_546, rfl, ⟨by decide +kernel, by decide +kernel, by decide +kernel⟩⟩
theorem xc_X0_108 : xc_V RX0 108 RX0 yX0_clashesBehind cX0_clashesBehind 2 (some .boolean) 1 := ⟨xw_539, xw_541, xw_13, xw_40, xw_542, rfl, ⟨by decide +kernel, by decide +kernel, by decide +kernel⟩⟩
theorem xc_X0_111 : xc_V RX0 111 RX0 yX0_lostBehind cX0_lostBehind 2 (some .int) 1 := ⟨xw_551, xw_532, xw_533, xw_40, xw_534, rfl, ⟨by decide +kernel, by decide +kernel, by decide +kernel⟩⟩
theorem xc_X0_120 : xc_V RX0 120 RX0 yX0_breaksBehind cX0_breaksBehind 2 (some .boolean) 1 := ⟨xw_579, xw_548, xw_549, xw_40, xw_550, rfl, ⟨by decide +kernel, by decide +kernel, by decide +kernel⟩⟩
theorem xc_X2_21 : xc_IN RX2 21 yX1_init cX1_init 1 0 := ⟨by decide +kernel, xw_107, xw_37, xw_108, rfl, ⟨by decide +kernel, by decide +kernel, by decide +kernel⟩⟩
theorem xc_X2_36 : xc_S RX2 36 yJ7_fill_53178 cJ7_fill_53178 4 none 2 := ⟨xw_338, xw_242, xw_41, xw_243, ⟨by decide +kernel, by decide +kernel, by decide +kernel⟩⟩
theorem xc_X4_33 : xc_V RX4 33 RX5 yX5_seekBest cX5_seekBest 5 (some .boolean) 2 := ⟨xw_461, xw_416, xw_417, xw_34, xw_418, rfl, ⟨by decide +kernel, by decide +kernel, by decide +kernel⟩⟩
theorem xc_X4_48 : xc_V RX4 48 RX4 yX4_settleSet cX4_settleSet 6 none 2 := ⟨xw_462, xw_464, xw_7, xw_39, xw_465, rfl, ⟨by decide +kernel, by decide +kernel, by decide +kernel⟩⟩
theorem xc_X4_52 : xc_S RX4 52 yX4_firstOf cX4_firstOf 2 (some .int) 1 := ⟨xw_466, xw_467, xw_39, xw_468, ⟨by decide +kernel, by decide +kernel, by decide +kernel⟩⟩
theorem xc_X4_56 : xc_S RX4 56 yX4_isIn cX4_isIn 2 (some .boolean) 2 := ⟨xw_469, xw_470, xw_39, xw_471, ⟨by decide +kernel, by decide +kernel, by decide +kernel⟩⟩
theorem xc_X4_59 : xc_S RX4 59 yX4_without cX4_without 3 (some .int) 3 := ⟨xw_472, xw_473, xw_39, xw_474, ⟨by decide +kernel, by decide +kernel, by decide +kernel⟩⟩
theorem xc_X4_63 : xc_SN RX4 63 yX8_isWithin cX8_isWithin 2 (some .boolean) 2 := ⟨by decide +kernel, xw_318, xw_32, xw_319, ⟨by decide +kernel, by decide +kernel, by decide +kernel⟩⟩
theorem xc_X5_11 : xc_IN RX5 11 yX7_init cX7_init 1 0 := ⟨by decide +kernel, xw_78, xw_35, xw_79, rfl, ⟨by decide +kernel, by decide +kernel, by decide +kernel⟩⟩
theorem xc_X5_20 : xc_I RX5 20 yX2_init cX2_init 2 0 := ⟨xw_99, xw_100, xw_36, xw_101, rfl, ⟨by decide +kernel, by decide +kernel, by decide +kernel⟩⟩
theorem xc_X5_27 : xc_IN RX5 27 yX3_init cX3_init 1 0 := ⟨by decide +kernel, xw_147, xw_38, xw_148, rfl, ⟨by decide +kernel, by decide +kernel, by decide +kernel⟩⟩
theorem xc_X5_45 : xc_V RX5 45 RX5 yX5_weigh cX5_weigh 2 none 1 := ⟨xw_455, xw_377, xw_378, xw_34, xw_379, rfl, ⟨by decide +kernel, by decide +kernel, by decide +kernel⟩⟩
theorem xc_X5_49 : xc_V RX5 49 RX2 yX2_has cX2_has 2 (some .boolean) 1 := ⟨xw_380, xw_348, xw_349, xw_36, xw_350, rfl, ⟨by decide +kernel, by decide +kernel, by decide +kernel⟩⟩
theorem xc_X5_53 : xc_V RX5 53 RX5 yX5_rowOf cX5_rowOf 3 (some (.array .int)) 2 := ⟨xw_381, xw_383, xw_2, xw_34, xw_384, rfl, ⟨by decide +kernel, by decide +kernel, by decide +kernel⟩⟩
theorem xc_X5_61 : xc_V RX5 61 RX5 yX5_fillRow cX5_fillRow 5 none 3 := ⟨xw_386, xw_388, xw_3, xw_34, xw_389, rfl, ⟨by decide +kernel, by decide +kernel, by decide +kernel⟩⟩
theorem xc_X5_65 : xc_S RX5 65 yJ7_fill_53178 cJ7_fill_53178 4 none 2 := ⟨xw_390, xw_242, xw_41, xw_243, ⟨by decide +kernel, by decide +kernel, by decide +kernel⟩⟩
theorem xc_X5_77 : xc_SN RX5 77 yX8_lettersAhead cX8_lettersAhead 4 (some .int) 2 := ⟨by decide +kernel, xw_393, xw_32, xw_394, ⟨by decide +kernel, by decide +kernel, by decide +kernel⟩⟩
theorem xc_X5_81 : xc_V RX5 81 RX5 yX5_addSpot cX5_addSpot 6 none 3 := ⟨xw_395, xw_397, xw_4, xw_34, xw_398, rfl, ⟨by decide +kernel, by decide +kernel, by decide +kernel⟩⟩
theorem xc_X5_85 : xc_V RX5 85 RX7 yX7_places cX7_places 1 (some .int) 0 := ⟨xw_399, xw_370, xw_371, xw_35, xw_372, rfl, ⟨by decide +kernel, by decide +kernel, by decide +kernel⟩⟩
theorem xc_X5_89 : xc_V RX5 89 RX7 yX7_letterAt cX7_letterAt 2 (some .int) 1 := ⟨xw_400, xw_401, xw_402, xw_35, xw_403, rfl, ⟨by decide +kernel, by decide +kernel, by decide +kernel⟩⟩
theorem xc_X5_93 : xc_SN RX5 93 yX8_hasLetter cX8_hasLetter 2 (some .boolean) 2 := ⟨by decide +kernel, xw_405, xw_32, xw_406, ⟨by decide +kernel, by decide +kernel, by decide +kernel⟩⟩
theorem xc_X5_97 : xc_SN RX5 97 yX8_isWithin cX8_isWithin 2 (some .boolean) 2 := ⟨by decide +kernel, xw_318, xw_32, xw_319, ⟨by decide +kernel, by decide +kernel, by decide +kernel⟩⟩
theorem xc_X5_100 : xc_V RX5 100 RX3 yX3_lie cX3_lie 5 none 4 := ⟨xw_419, xw_420, xw_421, xw_38, xw_422, rfl, ⟨by decide +kernel, by decide +kernel, by decide +kernel⟩⟩
theorem xc_X5_112 : xc_V RX5 112 RX5 yX5_tryWay cX5_tryWay 8 none 2 := ⟨xw_427, xw_429, xw_5, xw_34, xw_430, rfl, ⟨by decide +kernel, by decide +kernel, by decide +kernel⟩⟩
theorem xc_X5_116 : xc_V RX5 116 RX1 yX1_isLike cX1_isLike 2 (some .boolean) 1 := ⟨xw_439, xw_440, xw_441, xw_37, xw_442, rfl, ⟨by decide +kernel, by decide +kernel, by decide +kernel⟩⟩
theorem xc_X5_123 : xc_V RX5 123 RX5 yX5_mayLie cX5_mayLie 3 (some .boolean) 2 := ⟨xw_431, xw_433, xw_6, xw_34, xw_434, rfl, ⟨by decide +kernel, by decide +kernel, by decide +kernel⟩⟩
theorem xc_X5_126 : xc_V RX5 126 RX1 yX1_mayLieAs cX1_mayLieAs 2 (some .boolean) 1 := ⟨xw_435, xw_436, xw_437, xw_37, xw_438, rfl, ⟨by decide +kernel, by decide +kernel, by decide +kernel⟩⟩
theorem xc_X5_140 : xc_V RX5 140 RX5 yX5_placesUpTo cX5_placesUpTo 6 (some .int) 1 := ⟨xw_499, xw_501, xw_9, xw_34, xw_502, rfl, ⟨by decide +kernel, by decide +kernel, by decide +kernel⟩⟩
theorem xc_X7_25 : xc_V RX7 25 RX7 yX7_seekFault cX7_seekFault 6 none 2 := ⟨xw_306, xw_308, xw_0, xw_35, xw_309, rfl, ⟨by decide +kernel, by decide +kernel, by decide +kernel⟩⟩
theorem xc_X7_29 : xc_V RX7 29 RX6 yX6_byteAt cX6_byteAt 2 (some .int) 1 := ⟨xw_310, xw_311, xw_312, xw_33, xw_313, rfl, ⟨by decide +kernel, by decide +kernel, by decide +kernel⟩⟩
theorem xc_X7_35 : xc_S RX7 35 yX7_isLetter cX7_isLetter 1 (some .boolean) 1 := ⟨xw_314, xw_315, xw_35, xw_316, ⟨by decide +kernel, by decide +kernel, by decide +kernel⟩⟩
theorem xc_X7_39 : xc_SN RX7 39 yX8_isWithin cX8_isWithin 2 (some .boolean) 2 := ⟨by decide +kernel, xw_318, xw_32, xw_319, ⟨by decide +kernel, by decide +kernel, by decide +kernel⟩⟩
theorem xc_X8_9 : xc_IN RX8 9 yX6_init cX6_init 1 0 := ⟨by decide +kernel, xw_57, xw_33, xw_58, rfl, ⟨by decide +kernel, by decide +kernel, by decide +kernel⟩⟩
theorem xc_X8_18 : xc_IN RX8 18 yX5_init cX5_init 1 0 := ⟨by decide +kernel, xw_72, xw_34, xw_73, rfl, ⟨by decide +kernel, by decide +kernel, by decide +kernel⟩⟩
theorem xc_X8_37 : xc_IN RX8 37 yX4_init cX4_init 1 0 := ⟨by decide +kernel, xw_214, xw_39, xw_215, rfl, ⟨by decide +kernel, by decide +kernel, by decide +kernel⟩⟩
theorem xc_X8_44 : xc_I RX8 44 yX0_init cX0_init 2 0 := ⟨xw_233, xw_234, xw_40, xw_235, rfl, ⟨by decide +kernel, by decide +kernel, by decide +kernel⟩⟩
theorem xc_X8_59 : xc_V RX8 59 RX6 yX6_put cX6_put 3 none 1 := ⟨xw_294, xw_295, xw_296, xw_33, xw_297, rfl, ⟨by decide +kernel, by decide +kernel, by decide +kernel⟩⟩
theorem xc_X8_63 : xc_V RX8 63 RX7 yX7_read cX7_read 5 (some .boolean) 2 := ⟨xw_302, xw_303, xw_304, xw_35, xw_305, rfl, ⟨by decide +kernel, by decide +kernel, by decide +kernel⟩⟩
theorem xc_X8_69 : xc_V RX8 69 RX0 yX0_clear cX0_clear 1 none 0 := ⟨xw_320, xw_321, xw_322, xw_40, xw_323, rfl, ⟨by decide +kernel, by decide +kernel, by decide +kernel⟩⟩
theorem xc_X8_79 : xc_S RX8 79 yX8_isWithin cX8_isWithin 2 (some .boolean) 2 := ⟨xw_332, xw_318, xw_32, xw_319, ⟨by decide +kernel, by decide +kernel, by decide +kernel⟩⟩
theorem xc_X8_83 : xc_V RX8 83 RX2 yX2_add cX2_add 5 (some .int) 3 := ⟨xw_333, xw_334, xw_335, xw_36, xw_336, rfl, ⟨by decide +kernel, by decide +kernel, by decide +kernel⟩⟩
theorem xc_X8_89 : xc_V RX8 89 RX8 yX8_isSpot cX8_isSpot 4 (some .boolean) 3 := ⟨xw_343, xw_345, xw_1, xw_32, xw_346, rfl, ⟨by decide +kernel, by decide +kernel, by decide +kernel⟩⟩
theorem xc_X8_104 : xc_S RX8 104 yX8_spotIndex cX8_spotIndex 2 (some .int) 2 := ⟨xw_352, xw_353, xw_32, xw_354, ⟨by decide +kernel, by decide +kernel, by decide +kernel⟩⟩
theorem xc_X8_108 : xc_S RX8 108 yJ6_bitCount_0f7a4 cJ6_bitCount_0f7a4 1 (some .int) 1 := ⟨xw_355, xw_356, xw_43, xw_357, ⟨by decide +kernel, by decide +kernel, by decide +kernel⟩⟩
theorem xc_X8_114 : xc_V RX8 114 RX2 yX2_has cX2_has 2 (some .boolean) 1 := ⟨xw_347, xw_348, xw_349, xw_36, xw_350, rfl, ⟨by decide +kernel, by decide +kernel, by decide +kernel⟩⟩
theorem xc_X8_118 : xc_V RX8 118 RX7 yX7_places cX7_places 1 (some .int) 0 := ⟨xw_369, xw_370, xw_371, xw_35, xw_372, rfl, ⟨by decide +kernel, by decide +kernel, by decide +kernel⟩⟩
theorem xc_X8_122 : xc_V RX8 122 RX5 yX5_weigh cX5_weigh 2 none 1 := ⟨xw_376, xw_377, xw_378, xw_34, xw_379, rfl, ⟨by decide +kernel, by decide +kernel, by decide +kernel⟩⟩
theorem xc_X8_125 : xc_V RX8 125 RX5 yX5_quarrelsAs cX5_quarrelsAs 4 (some .int) 3 := ⟨xw_407, xw_408, xw_409, xw_34, xw_410, rfl, ⟨by decide +kernel, by decide +kernel, by decide +kernel⟩⟩
theorem xc_X8_128 : xc_V RX8 128 RX5 yX5_seekBest cX5_seekBest 5 (some .boolean) 2 := ⟨xw_415, xw_416, xw_417, xw_34, xw_418, rfl, ⟨by decide +kernel, by decide +kernel, by decide +kernel⟩⟩
theorem xc_X8_147 : xc_V RX8 147 RX5 yX5_weighAll cX5_weighAll 2 none 0 := ⟨xw_451, xw_452, xw_453, xw_34, xw_454, rfl, ⟨by decide +kernel, by decide +kernel, by decide +kernel⟩⟩
theorem xc_X8_150 : xc_V RX8 150 RX4 yX4_settle cX4_settle 7 none 3 := ⟨xw_456, xw_457, xw_458, xw_39, xw_459, rfl, ⟨by decide +kernel, by decide +kernel, by decide +kernel⟩⟩
theorem xc_X8_154 : xc_V RX8 154 RX0 yX0_keep cX0_keep 8 none 3 := ⟨xw_475, xw_476, xw_477, xw_40, xw_478, rfl, ⟨by decide +kernel, by decide +kernel, by decide +kernel⟩⟩
theorem xc_X8_158 : xc_V RX8 158 RX4 yX4_sum cX4_sum 1 (some .int) 0 := ⟨xw_515, xw_516, xw_517, xw_39, xw_518, rfl, ⟨by decide +kernel, by decide +kernel, by decide +kernel⟩⟩
theorem xc_X8_161 : xc_V RX8 161 RX0 yX0_has cX0_has 2 (some .boolean) 1 := ⟨xw_523, xw_524, xw_525, xw_40, xw_526, rfl, ⟨by decide +kernel, by decide +kernel, by decide +kernel⟩⟩
theorem xc_X8_177 : xc_V RX8 177 RX0 yX0_lostBehind cX0_lostBehind 2 (some .int) 1 := ⟨xw_531, xw_532, xw_533, xw_40, xw_534, rfl, ⟨by decide +kernel, by decide +kernel, by decide +kernel⟩⟩
theorem xc_X8_180 : xc_V RX8 180 RX0 yX0_breaksBehind cX0_breaksBehind 2 (some .boolean) 1 := ⟨xw_547, xw_548, xw_549, xw_40, xw_550, rfl, ⟨by decide +kernel, by decide +kernel, by decide +kernel⟩⟩
theorem xc_X8_186 : xc_V RX8 186 RX3 yX3_partOf cX3_partOf 2 (some .int) 1 := ⟨xw_556, xw_557, xw_558, xw_38, xw_559, rfl, ⟨by decide +kernel, by decide +kernel, by decide +kernel⟩⟩
theorem xc_X8_189 : xc_S RX8 189 yX8_lettersAhead cX8_lettersAhead 4 (some .int) 2 := ⟨xw_560, xw_393, xw_32, xw_394, ⟨by decide +kernel, by decide +kernel, by decide +kernel⟩⟩
theorem xc_X8_192 : xc_V RX8 192 RX7 yX7_letterAt cX7_letterAt 2 (some .int) 1 := ⟨xw_561, xw_401, xw_402, xw_35, xw_403, rfl, ⟨by decide +kernel, by decide +kernel, by decide +kernel⟩⟩
theorem xc_X8_198 : xc_S RX8 198 yX8_hasLetter cX8_hasLetter 2 (some .boolean) 2 := ⟨xw_562, xw_405, xw_32, xw_406, ⟨by decide +kernel, by decide +kernel, by decide +kernel⟩⟩
theorem xc_X8_202 : xc_V RX8 202 RX0 yX0_allQuarrels cX0_allQuarrels 3 (some .int) 0 := ⟨xw_567, xw_568, xw_569, xw_40, xw_570, rfl, ⟨by decide +kernel, by decide +kernel, by decide +kernel⟩⟩
theorem xc_X8_205 : xc_V RX8 205 RX0 yX0_clashes cX0_clashes 3 (some .int) 0 := ⟨xw_571, xw_572, xw_573, xw_40, xw_574, rfl, ⟨by decide +kernel, by decide +kernel, by decide +kernel⟩⟩
theorem xc_X8_208 : xc_V RX8 208 RX0 yX0_breaks cX0_breaks 3 (some .int) 0 := ⟨xw_575, xw_576, xw_577, xw_40, xw_578, rfl, ⟨by decide +kernel, by decide +kernel, by decide +kernel⟩⟩
theorem xc_X8_211 : xc_V RX8 211 RX0 yX0_allLost cX0_allLost 3 (some .int) 0 := ⟨xw_580, xw_581, xw_582, xw_40, xw_583, rfl, ⟨by decide +kernel, by decide +kernel, by decide +kernel⟩⟩
theorem xc_X9_92 : xc_V RX9 92 RX9 yX9_isHalf cX9_isHalf 2 (some .boolean) 1 := ⟨xw_714, xw_716, xw_16, xw_42, xw_717, rfl, ⟨by decide +kernel, by decide +kernel, by decide +kernel⟩⟩
theorem xc_X9_96 : xc_V RX9 96 RX9 yX9_spotAt cX9_spotAt 4 (some .int) 3 := ⟨xw_710, xw_712, xw_15, xw_42, xw_713, rfl, ⟨by decide +kernel, by decide +kernel, by decide +kernel⟩⟩
theorem xc_X9_103 : xc_V RX9 103 RX9 yX9_letterAt cX9_letterAt 4 (some .int) 3 := ⟨xw_734, xw_736, xw_19, xw_42, xw_737, rfl, ⟨by decide +kernel, by decide +kernel, by decide +kernel⟩⟩
theorem xc_X9_106 : xc_V RX9 106 RX9 yX9_places cX9_places 1 (some .int) 0 := ⟨xw_726, xw_728, xw_17, xw_42, xw_729, rfl, ⟨by decide +kernel, by decide +kernel, by decide +kernel⟩⟩
theorem xc_X9_110 : xc_V RX9 110 RX9 yX9_quarrelsOf cX9_quarrelsOf 6 (some .int) 3 := ⟨xw_730, xw_732, xw_18, xw_42, xw_733, rfl, ⟨by decide +kernel, by decide +kernel, by decide +kernel⟩⟩
theorem xc_X9_113 : xc_V RX9 113 RX9 yX9_canBe cX9_canBe 3 (some .boolean) 2 := ⟨xw_752, xw_754, xw_22, xw_42, xw_755, rfl, ⟨by decide +kernel, by decide +kernel, by decide +kernel⟩⟩
theorem xc_X9_117 : xc_V RX9 117 RX9 yX9_both cX9_both 4 (some .int) 3 := ⟨xw_756, xw_758, xw_23, xw_42, xw_759, rfl, ⟨by decide +kernel, by decide +kernel, by decide +kernel⟩⟩
theorem xc_X9_141 : xc_V RX9 141 RX9 yX9_tries cX9_tries 5 none 2 := ⟨xw_748, xw_750, xw_21, xw_42, xw_751, rfl, ⟨by decide +kernel, by decide +kernel, by decide +kernel⟩⟩
theorem xc_X9_145 : xc_V RX9 145 RX9 yX9_bests cX9_bests 5 (some .boolean) 2 := ⟨xw_742, xw_744, xw_20, xw_42, xw_745, rfl, ⟨by decide +kernel, by decide +kernel, by decide +kernel⟩⟩
theorem xc_X9_148 : xc_S RX9 148 yX9_first cX9_first 2 (some .int) 1 := ⟨xw_768, xw_769, xw_42, xw_770, ⟨by decide +kernel, by decide +kernel, by decide +kernel⟩⟩
theorem xc_X9_153 : xc_V RX9 153 RX9 yX9_leaves cX9_leaves 4 none 0 := ⟨xw_772, xw_774, xw_24, xw_42, xw_775, rfl, ⟨by decide +kernel, by decide +kernel, by decide +kernel⟩⟩
theorem xc_X9_159 : xc_V RX9 159 RX9 yX9_comes cX9_comes 2 none 0 := ⟨xw_776, xw_778, xw_25, xw_42, xw_779, rfl, ⟨by decide +kernel, by decide +kernel, by decide +kernel⟩⟩
theorem xc_X9_162 : xc_V RX9 162 RX9 yX9_orders cX9_orders 3 none 0 := ⟨xw_780, xw_782, xw_26, xw_42, xw_783, rfl, ⟨by decide +kernel, by decide +kernel, by decide +kernel⟩⟩
theorem xc_X9_165 : xc_V RX9 165 RX9 yX9_between cX9_between 2 (some .int) 1 := ⟨xw_796, xw_798, xw_28, xw_42, xw_799, rfl, ⟨by decide +kernel, by decide +kernel, by decide +kernel⟩⟩
theorem xc_X9_168 : xc_V RX9 168 RX9 yX9_sideOf cX9_sideOf 2 (some .int) 1 := ⟨xw_804, xw_806, xw_30, xw_42, xw_807, rfl, ⟨by decide +kernel, by decide +kernel, by decide +kernel⟩⟩
theorem xc_X9_171 : xc_V RX9 171 RX9 yX9_lostBehind cX9_lostBehind 3 (some .int) 1 := ⟨xw_792, xw_794, xw_27, xw_42, xw_795, rfl, ⟨by decide +kernel, by decide +kernel, by decide +kernel⟩⟩
theorem xc_X9_174 : xc_V RX9 174 RX9 yX9_breaks cX9_breaks 2 (some .boolean) 1 := ⟨xw_800, xw_802, xw_29, xw_42, xw_803, rfl, ⟨by decide +kernel, by decide +kernel, by decide +kernel⟩⟩
theorem xc_L_9 : xc_I RL 9 yX8_init cX8_init 1 0 := ⟨xw_48, xw_49, xw_32, xw_50, rfl, ⟨by decide +kernel, by decide +kernel, by decide +kernel⟩⟩
theorem xc_L_12 : xc_I RL 12 yX9_init cX9_init 1 0 := ⟨xw_587, xw_588, xw_42, xw_589, rfl, ⟨by decide +kernel, by decide +kernel, by decide +kernel⟩⟩
theorem xc_L_13 : xc_V RL 13 RX8 yX8_feed cX8_feed 6 (some .int) 5 := ⟨xw_290, xw_291, xw_292, xw_32, xw_293, rfl, ⟨by decide +kernel, by decide +kernel, by decide +kernel⟩⟩
theorem xc_L_17 : xc_V RL 17 RX9 yX9_feed cX9_feed 8 (some .int) 5 := ⟨xw_689, xw_690, xw_691, xw_42, xw_692, rfl, ⟨by decide +kernel, by decide +kernel, by decide +kernel⟩⟩
theorem xc_L_18 : xc_V RL 18 RX8 yX8_work cX8_work 3 (some .int) 1 := ⟨xw_298, xw_299, xw_300, xw_32, xw_301, rfl, ⟨by decide +kernel, by decide +kernel, by decide +kernel⟩⟩
theorem xc_L_22 : xc_V RL 22 RX9 yX9_work cX9_work 5 (some .int) 1 := ⟨xw_693, xw_694, xw_695, xw_42, xw_696, rfl, ⟨by decide +kernel, by decide +kernel, by decide +kernel⟩⟩
theorem xc_L_23 : xc_V RL 23 RX8 yX8_fault cX8_fault 2 (some .int) 1 := ⟨xw_324, xw_325, xw_326, xw_32, xw_327, rfl, ⟨by decide +kernel, by decide +kernel, by decide +kernel⟩⟩
theorem xc_L_26 : xc_V RL 26 RX9 yX9_fault cX9_fault 2 (some .int) 1 := ⟨xw_697, xw_698, xw_699, xw_42, xw_700, rfl, ⟨by decide +kernel, by decide +kernel, by decide +kernel⟩⟩
theorem xc_L_27 : xc_V RL 27 RX8 yX8_half cX8_half 5 (some .int) 3 := ⟨xw_328, xw_329, xw_330, xw_32, xw_331, rfl, ⟨by decide +kernel, by decide +kernel, by decide +kernel⟩⟩
theorem xc_L_31 : xc_V RL 31 RX9 yX9_half cX9_half 5 (some .int) 3 := ⟨xw_701, xw_702, xw_703, xw_42, xw_704, rfl, ⟨by decide +kernel, by decide +kernel, by decide +kernel⟩⟩
theorem xc_L_32 : xc_V RL 32 RX8 yX8_light cX8_light 8 (some .int) 4 := ⟨xw_339, xw_340, xw_341, xw_32, xw_342, rfl, ⟨by decide +kernel, by decide +kernel, by decide +kernel⟩⟩
theorem xc_L_36 : xc_V RL 36 RX9 yX9_light cX9_light 9 (some .int) 4 := ⟨xw_706, xw_707, xw_708, xw_42, xw_709, rfl, ⟨by decide +kernel, by decide +kernel, by decide +kernel⟩⟩
theorem xc_L_37 : xc_V RL 37 RX8 yX8_list cX8_list 4 (some .int) 3 := ⟨xw_361, xw_362, xw_363, xw_32, xw_364, rfl, ⟨by decide +kernel, by decide +kernel, by decide +kernel⟩⟩
theorem xc_L_40 : xc_V RL 40 RX9 yX9_list cX9_list 5 (some .int) 3 := ⟨xw_718, xw_719, xw_720, xw_42, xw_721, rfl, ⟨by decide +kernel, by decide +kernel, by decide +kernel⟩⟩
theorem xc_L_41 : xc_V RL 41 RX8 yX8_quarrels cX8_quarrels 4 (some .int) 3 := ⟨xw_365, xw_366, xw_367, xw_32, xw_368, rfl, ⟨by decide +kernel, by decide +kernel, by decide +kernel⟩⟩
theorem xc_L_44 : xc_V RL 44 RX9 yX9_quarrels cX9_quarrels 4 (some .int) 3 := ⟨xw_722, xw_723, xw_724, xw_42, xw_725, rfl, ⟨by decide +kernel, by decide +kernel, by decide +kernel⟩⟩
theorem xc_L_45 : xc_V RL 45 RX8 yX8_best cX8_best 4 (some .int) 3 := ⟨xw_411, xw_412, xw_413, xw_32, xw_414, rfl, ⟨by decide +kernel, by decide +kernel, by decide +kernel⟩⟩
theorem xc_L_48 : xc_V RL 48 RX9 yX9_best cX9_best 4 (some .int) 3 := ⟨xw_738, xw_739, xw_740, xw_42, xw_741, rfl, ⟨by decide +kernel, by decide +kernel, by decide +kernel⟩⟩
theorem xc_L_49 : xc_V RL 49 RX8 yX8_price cX8_price 2 (some .boolean) 1 := ⟨xw_443, xw_444, xw_445, xw_32, xw_446, rfl, ⟨by decide +kernel, by decide +kernel, by decide +kernel⟩⟩
theorem xc_L_53 : xc_V RL 53 RX9 yX9_price cX9_price 2 (some .boolean) 1 := ⟨xw_760, xw_761, xw_762, xw_42, xw_763, rfl, ⟨by decide +kernel, by decide +kernel, by decide +kernel⟩⟩
theorem xc_L_54 : xc_V RL 54 RX8 yX8_join cX8_join 1 (some .int) 0 := ⟨xw_447, xw_448, xw_449, xw_32, xw_450, rfl, ⟨by decide +kernel, by decide +kernel, by decide +kernel⟩⟩
theorem xc_L_58 : xc_V RL 58 RX9 yX9_join cX9_join 4 (some .int) 0 := ⟨xw_764, xw_765, xw_766, xw_42, xw_767, rfl, ⟨by decide +kernel, by decide +kernel, by decide +kernel⟩⟩
theorem xc_L_59 : xc_V RL 59 RX8 yX8_leaf cX8_leaf 4 (some .int) 2 := ⟨xw_519, xw_520, xw_521, xw_32, xw_522, rfl, ⟨by decide +kernel, by decide +kernel, by decide +kernel⟩⟩
theorem xc_L_63 : xc_V RL 63 RX9 yX9_leaf cX9_leaf 3 (some .int) 2 := ⟨xw_784, xw_785, xw_786, xw_42, xw_787, rfl, ⟨by decide +kernel, by decide +kernel, by decide +kernel⟩⟩
theorem xc_L_64 : xc_V RL 64 RX8 yX8_book cX8_book 3 (some .int) 2 := ⟨xw_527, xw_528, xw_529, xw_32, xw_530, rfl, ⟨by decide +kernel, by decide +kernel, by decide +kernel⟩⟩
theorem xc_L_67 : xc_V RL 67 RX9 yX9_book cX9_book 3 (some .int) 2 := ⟨xw_788, xw_789, xw_790, xw_42, xw_791, rfl, ⟨by decide +kernel, by decide +kernel, by decide +kernel⟩⟩
theorem xc_L_68 : xc_V RL 68 RX8 yX8_led cX8_led 7 (some .int) 3 := ⟨xw_552, xw_553, xw_554, xw_32, xw_555, rfl, ⟨by decide +kernel, by decide +kernel, by decide +kernel⟩⟩
theorem xc_L_71 : xc_V RL 71 RX9 yX9_led cX9_led 5 (some .int) 3 := ⟨xw_808, xw_809, xw_810, xw_42, xw_811, rfl, ⟨by decide +kernel, by decide +kernel, by decide +kernel⟩⟩
theorem xc_L_72 : xc_V RL 72 RX8 yX8_count cX8_count 2 (some .int) 1 := ⟨xw_563, xw_564, xw_565, xw_32, xw_566, rfl, ⟨by decide +kernel, by decide +kernel, by decide +kernel⟩⟩
theorem xc_L_75 : xc_V RL 75 RX9 yX9_count cX9_count 8 (some .int) 1 := ⟨xw_812, xw_813, xw_814, xw_42, xw_815, rfl, ⟨by decide +kernel, by decide +kernel, by decide +kernel⟩⟩
abbrev rmJ6_bitCount_0f7a4 : Room := { frames := 0, cells := 0, slots := 0, locals := 0 }
abbrev rmJ7_fill_53178 : Room := { frames := 0, cells := 0, slots := 0, locals := 0 }
abbrev rmX0_addLeaf : Room := { frames := 4, cells := 0, slots := 0, locals := 94 }
abbrev rmX0_allLost : Room := { frames := 3, cells := 0, slots := 0, locals := 63 }
abbrev rmX0_allQuarrels : Room := { frames := 0, cells := 0, slots := 0, locals := 0 }
abbrev rmX0_breaks : Room := { frames := 4, cells := 0, slots := 0, locals := 84 }
abbrev rmX0_breaksBehind : Room := { frames := 3, cells := 0, slots := 0, locals := 63 }
abbrev rmX0_clashes : Room := { frames := 2, cells := 0, slots := 0, locals := 42 }
abbrev rmX0_clashesBehind : Room := { frames := 1, cells := 0, slots := 0, locals := 21 }
abbrev rmX0_clear : Room := { frames := 1, cells := 0, slots := 0, locals := 23 }
abbrev rmX0_gapBehind : Room := { frames := 0, cells := 0, slots := 0, locals := 0 }
abbrev rmX0_has : Room := { frames := 0, cells := 0, slots := 0, locals := 0 }
abbrev rmX0_hasNext : Room := { frames := 0, cells := 0, slots := 0, locals := 0 }
abbrev rmX0_keep : Room := { frames := 5, cells := 0, slots := 0, locals := 117 }
abbrev rmX0_keepLists : Room := { frames := 1, cells := 0, slots := 0, locals := 48 }
abbrev rmX0_lostBehind : Room := { frames := 2, cells := 0, slots := 0, locals := 42 }
abbrev rmX0_putInOrder : Room := { frames := 0, cells := 0, slots := 0, locals := 0 }
abbrev rmX1_isLike : Room := { frames := 0, cells := 0, slots := 0, locals := 0 }
abbrev rmX1_mayLieAs : Room := { frames := 0, cells := 0, slots := 0, locals := 0 }
abbrev rmX2_add : Room := { frames := 1, cells := 0, slots := 0, locals := 23 }
abbrev rmX2_has : Room := { frames := 0, cells := 0, slots := 0, locals := 0 }
abbrev rmX3_lie : Room := { frames := 0, cells := 0, slots := 0, locals := 0 }
abbrev rmX3_partOf : Room := { frames := 0, cells := 0, slots := 0, locals := 0 }
abbrev rmX4_firstOf : Room := { frames := 1, cells := 0, slots := 0, locals := 21 }
abbrev rmX4_isIn : Room := { frames := 0, cells := 0, slots := 0, locals := 0 }
abbrev rmX4_mateOfFirst : Room := { frames := 1, cells := 0, slots := 0, locals := 21 }
abbrev rmX4_settle : Room := { frames := 4, cells := 0, slots := 0, locals := 94 }
abbrev rmX4_settleSet : Room := { frames := 2, cells := 0, slots := 0, locals := 42 }
abbrev rmX4_sum : Room := { frames := 0, cells := 0, slots := 0, locals := 0 }
abbrev rmX4_wholeSet : Room := { frames := 0, cells := 0, slots := 0, locals := 0 }
abbrev rmX4_without : Room := { frames := 0, cells := 0, slots := 0, locals := 0 }
abbrev rmX5_addSpot : Room := { frames := 2, cells := 0, slots := 0, locals := 42 }
abbrev rmX5_copyFoundTo : Room := { frames := 3, cells := 0, slots := 0, locals := 68 }
abbrev rmX5_fillRow : Room := { frames := 3, cells := 0, slots := 0, locals := 67 }
abbrev rmX5_mayLie : Room := { frames := 1, cells := 0, slots := 0, locals := 21 }
abbrev rmX5_placesUpTo : Room := { frames := 2, cells := 0, slots := 0, locals := 43 }
abbrev rmX5_quarrelsAs : Room := { frames := 2, cells := 0, slots := 0, locals := 43 }
abbrev rmX5_rowOf : Room := { frames := 1, cells := 0, slots := 0, locals := 21 }
abbrev rmX5_seekBest : Room := { frames := 3, cells := 0, slots := 0, locals := 70 }
abbrev rmX5_tryWay : Room := { frames := 2, cells := 0, slots := 0, locals := 43 }
abbrev rmX5_weigh : Room := { frames := 4, cells := 0, slots := 0, locals := 91 }
abbrev rmX5_weighAll : Room := { frames := 5, cells := 0, slots := 0, locals := 112 }
abbrev rmX6_byteAt : Room := { frames := 0, cells := 0, slots := 0, locals := 0 }
abbrev rmX6_put : Room := { frames := 0, cells := 0, slots := 0, locals := 0 }
abbrev rmX7_isLetter : Room := { frames := 1, cells := 0, slots := 0, locals := 21 }
abbrev rmX7_letterAt : Room := { frames := 0, cells := 0, slots := 0, locals := 0 }
abbrev rmX7_places : Room := { frames := 1, cells := 0, slots := 0, locals := 21 }
abbrev rmX7_read : Room := { frames := 3, cells := 0, slots := 0, locals := 66 }
abbrev rmX7_seekFault : Room := { frames := 2, cells := 0, slots := 0, locals := 41 }
abbrev rmX8_best : Room := { frames := 5, cells := 0, slots := 0, locals := 112 }
abbrev rmX8_book : Room := { frames := 4, cells := 0, slots := 0, locals := 84 }
abbrev rmX8_count : Room := { frames := 5, cells := 0, slots := 0, locals := 106 }
abbrev rmX8_fault : Room := { frames := 0, cells := 0, slots := 0, locals := 0 }
abbrev rmX8_feed : Room := { frames := 1, cells := 0, slots := 0, locals := 22 }
abbrev rmX8_half : Room := { frames := 2, cells := 0, slots := 0, locals := 47 }
abbrev rmX8_hasLetter : Room := { frames := 1, cells := 0, slots := 0, locals := 21 }
abbrev rmX8_isSpot : Room := { frames := 1, cells := 0, slots := 0, locals := 21 }
abbrev rmX8_isWithin : Room := { frames := 0, cells := 0, slots := 0, locals := 0 }
abbrev rmX8_join : Room := { frames := 6, cells := 0, slots := 0, locals := 144 }
abbrev rmX8_leaf : Room := { frames := 1, cells := 0, slots := 0, locals := 21 }
abbrev rmX8_led : Room := { frames := 2, cells := 0, slots := 0, locals := 44 }
abbrev rmX8_lettersAhead : Room := { frames := 0, cells := 0, slots := 0, locals := 0 }
abbrev rmX8_light : Room := { frames := 2, cells := 0, slots := 0, locals := 44 }
abbrev rmX8_list : Room := { frames := 2, cells := 0, slots := 0, locals := 44 }
abbrev rmX8_price : Room := { frames := 1, cells := 0, slots := 0, locals := 21 }
abbrev rmX8_quarrels : Room := { frames := 5, cells := 0, slots := 0, locals := 112 }
abbrev rmX8_spotIndex : Room := { frames := 0, cells := 0, slots := 0, locals := 0 }
abbrev rmX8_work : Room := { frames := 4, cells := 0, slots := 0, locals := 90 }
abbrev rmX9_best : Room := { frames := 5, cells := 0, slots := 0, locals := 119 }
abbrev rmX9_bests : Room := { frames := 4, cells := 0, slots := 0, locals := 95 }
abbrev rmX9_between : Room := { frames := 0, cells := 0, slots := 0, locals := 0 }
abbrev rmX9_book : Room := { frames := 2, cells := 0, slots := 0, locals := 43 }
abbrev rmX9_both : Room := { frames := 2, cells := 0, slots := 0, locals := 48 }
abbrev rmX9_breaks : Room := { frames := 1, cells := 0, slots := 0, locals := 21 }
abbrev rmX9_canBe : Room := { frames := 0, cells := 0, slots := 0, locals := 0 }
abbrev rmX9_comes : Room := { frames := 3, cells := 0, slots := 0, locals := 71 }
abbrev rmX9_count : Room := { frames := 2, cells := 0, slots := 0, locals := 43 }
abbrev rmX9_fault : Room := { frames := 0, cells := 0, slots := 0, locals := 0 }
abbrev rmX9_feed : Room := { frames := 0, cells := 0, slots := 0, locals := 0 }
abbrev rmX9_first : Room := { frames := 0, cells := 0, slots := 0, locals := 0 }
abbrev rmX9_half : Room := { frames := 0, cells := 0, slots := 0, locals := 0 }
abbrev rmX9_isHalf : Room := { frames := 0, cells := 0, slots := 0, locals := 0 }
abbrev rmX9_join : Room := { frames := 6, cells := 0, slots := 0, locals := 142 }
abbrev rmX9_leaf : Room := { frames := 0, cells := 0, slots := 0, locals := 0 }
abbrev rmX9_leaves : Room := { frames := 5, cells := 0, slots := 0, locals := 119 }
abbrev rmX9_led : Room := { frames := 2, cells := 0, slots := 0, locals := 44 }
abbrev rmX9_letterAt : Room := { frames := 0, cells := 0, slots := 0, locals := 0 }
abbrev rmX9_light : Room := { frames := 2, cells := 0, slots := 0, locals := 44 }
abbrev rmX9_list : Room := { frames := 2, cells := 0, slots := 0, locals := 44 }
abbrev rmX9_lostBehind : Room := { frames := 1, cells := 0, slots := 0, locals := 21 }
abbrev rmX9_orders : Room := { frames := 0, cells := 0, slots := 0, locals := 0 }
abbrev rmX9_places : Room := { frames := 0, cells := 0, slots := 0, locals := 0 }
abbrev rmX9_price : Room := { frames := 0, cells := 0, slots := 0, locals := 0 }
abbrev rmX9_quarrels : Room := { frames := 2, cells := 0, slots := 0, locals := 48 }
abbrev rmX9_quarrelsOf : Room := { frames := 1, cells := 0, slots := 0, locals := 23 }
abbrev rmX9_sideOf : Room := { frames := 0, cells := 0, slots := 0, locals := 0 }
abbrev rmX9_spotAt : Room := { frames := 1, cells := 0, slots := 0, locals := 21 }
abbrev rmX9_tries : Room := { frames := 3, cells := 0, slots := 0, locals := 71 }
abbrev rmX9_work : Room := { frames := 0, cells := 0, slots := 0, locals := 0 }
end
section
/-! 02e: more rows; words for answers -/
def bi (c : Prop) [Decidable c] : Int32 := if c then 1 else 0
theorem bi_t {c : Prop} [Decidable c] (h : c) : bi c = 1 := if_pos h
theorem bi_f {c : Prop} [Decidable c] (h : ¬ c) : bi c = 0 := if_neg h
theorem bi_01 (c : Prop) [Decidable c] : bi c = 0 ∨ bi c = 1 := by
  unfold bi; split
  · exact Or.inr rfl
  · exact Or.inl rfl
theorem bi_1 {c : Prop} [Decidable c] (h : ¬ bi c = 0) : c := by
  unfold bi at h; split at h
  · assumption
  · exact absurd rfl h
theorem bi_0 {c : Prop} [Decidable c] (h : bi c = 0) : ¬ c := by
  intro q; rw [bi_t q] at h; exact absurd h (by decide)
section XE
variable {z : Prop} {p : Program} {l : Launch} {e : Env} {R : Room} {s : State} {m : MethodId} {args : Array Value} {below : List Frame} {meth : Method} {c : Code} {nL : Nat} {G : xg_G} {O : Heap} {cells slots : Nat} {Q : State → Prop} {n : Nat} {w : Nat → va_E} {L : List (Option Value)} {pc : Nat} {rest : List Value} {cc : ByteArray} {own : String}
theorem g_inc (X : xg_X p m c cc nL s args own G) {i : Nat} {k : Int} {x kv : Int32} (hd : decode cc pc = .ok (.iinc i k, 3)) (hk : Int32.ofInt k = kv) (hx : L[i]? = some (some (.int x))) (hn : i < nL) (kk : gv z p l e R s m args below meth c nL G O cells slots Q n w (L.set i (some (.int (x + kv)))) (pc + 3) rest) : gv z p l e R s m args below meth c nL G O cells slots Q n w L pc rest :=
  g_iinc X hd hx (by rw [hk]) hn kk
theorem xs_out {x : Int32} {hi : Nat} (h31 : hi < 2 ^ 31) (h : ∀ k, k ≤ hi → ¬ x = nI k) : x.toInt < 0 ∨ (hi : Int) < x.toInt := by
  rcases Int.lt_or_le x.toInt 0 with q | q
  · exact Or.inl q
  · obtain ⟨j, hj, e⟩ := nI_of (x := x) (fun hx => by
      have h2 : x.toInt < (0 : Int32).toInt := Int32.lt_iff_toInt_lt.mp hx
      have h3 : (0 : Int32).toInt = 0 := rfl
      omega)
    refine Or.inr ?_
    rcases Nat.lt_or_ge hi j with q2 | q2
    · rw [e, nI_toInt hj]; omega
    · exact absurd e (h j q2)
theorem g_swIn (X : xg_X p m c cc nL s args own G) {dflt lo hi : Int} {offs : Array Int} {len : Nat} {x : Int32} {off : Int} {tgt : Nat} (k : Nat) (hd : decode cc pc = .ok (.tableswitch dflt lo hi offs, len)) (hx : x = nI k) (hk : k < 2 ^ 31) (hlo : lo = 0) (hhi : (k : Int) ≤ hi) (ho : offs[k]? = some off) (ht : (pc : Int) + off = (tgt : Int)) (kk : gv z p l e R s m args below meth c nL G O cells slots Q n w L tgt rest) : gv z p l e R s m args below meth c nL G O cells slots Q n w L pc (.int x :: rest) := by
  subst hx
  subst hlo
  refine g_tabIn X hd (by rw [nI_toInt hk]; omega) (by rw [nI_toInt hk]; omega) ?_ ht kk
  rw [nI_toInt hk, show ((k : Int) - 0).toNat = k by omega]
  exact ho
theorem g_swOut (X : xg_X p m c cc nL s args own G) {dflt lo hi : Int} {offs : Array Int} {len : Nat} {x : Int32} {tgt : Nat} (hn : Nat) (hd : decode cc pc = .ok (.tableswitch dflt lo hi offs, len)) (hlo : lo = 0) (hhi : hi = (hn : Int)) (h31 : hn < 2 ^ 31) (h : ∀ k, k ≤ hn → ¬ x = nI k) (ht : (pc : Int) + dflt = (tgt : Int)) (kk : gv z p l e R s m args below meth c nL G O cells slots Q n w L tgt rest) : gv z p l e R s m args below meth c nL G O cells slots Q n w L pc (.int x :: rest) := by
  subst hlo
  subst hhi
  exact g_tabOut X hd (xs_out h31 h) ht kk
end XE
end
section
/-! 03: small methods of the class -/
set_option maxRecDepth 100000 in
set_option maxHeartbeats 4000000 in
theorem c_isWithin (l : Launch) (G : xg_G) (O : Heap) (t : xT) (a b : Int32)  : xm l yX8_isWithin cX8_isWithin 2 (some .boolean) rmX8_isWithin G O t [.int a, .int b] (xi (fun v t' => v = bi (0 ≤ a ∧ a ≤ b) ∧ t' = t)) := by
  refine xm_enter (by decide) 0 rfl rfl ?_
  intro p e s m args below meth c X hr hk
  refine g_eq (L2 := [some (.int a), some (.int b)]) rfl rfl rfl ?_
  refine g_iload_n (pc := 0) X dX8_isWithin_0 rfl rfl ?_
  refine g_if_lt (pc := 1) (tgt := 13) X dX8_isWithin_1 (by decide) (fun hc_1 => ?_) (fun hc_1 => ?_)
  · refine g_iconst (pc := 13) (v := 0) X dX8_isWithin_13 (by decide) ?_
    exact gm_zret (pc := 14) X hr hk dX8_isWithin_14 (by first | exact Or.inl rfl | exact Or.inr rfl) (⟨(bi_f (by simp only [Int32.le_iff_toInt_le, Int32.lt_iff_toInt_lt, Int32.reduceToInt] at *; omega)).symm, rfl⟩)
  · refine g_iload_n (pc := 4) X dX8_isWithin_4 rfl rfl ?_
    refine g_iload_n (pc := 5) X dX8_isWithin_5 rfl rfl ?_
    refine g_icmp_gt (pc := 6) (tgt := 13) X dX8_isWithin_6 (by decide) (fun hc_6 => ?_) (fun hc_6 => ?_)
    · refine g_iconst (pc := 13) (v := 0) X dX8_isWithin_13 (by decide) ?_
      exact gm_zret (pc := 14) X hr hk dX8_isWithin_14 (by first | exact Or.inl rfl | exact Or.inr rfl) (⟨(bi_f (by simp only [Int32.le_iff_toInt_le, Int32.lt_iff_toInt_lt, Int32.reduceToInt] at *; omega)).symm, rfl⟩)
    · refine g_iconst (pc := 9) (v := 1) X dX8_isWithin_9 (by decide) ?_
      refine g_goto (pc := 10) (tgt := 14) X dX8_isWithin_10 (by decide) ?_
      exact gm_zret (pc := 14) X hr hk dX8_isWithin_14 (by first | exact Or.inl rfl | exact Or.inr rfl) (⟨(bi_t (by simp only [Int32.le_iff_toInt_le, Int32.lt_iff_toInt_lt, Int32.reduceToInt] at *; omega)).symm, rfl⟩)
set_option maxRecDepth 100000 in
set_option maxHeartbeats 4000000 in
theorem c_spotIndex (l : Launch) (G : xg_G) (O : Heap) (t : xT) (a b : Int32)  : xm l yX8_spotIndex cX8_spotIndex 2 (some .int) rmX8_spotIndex G O t [.int a, .int b] (xi (fun v t' => v = a * 8 + b ∧ t' = t)) := by
  refine xm_enter (by decide) 0 rfl rfl ?_
  intro p e s m args below meth c X hr hk
  refine g_eq (L2 := [some (.int a), some (.int b)]) rfl rfl rfl ?_
  refine g_iload_n (pc := 0) X dX8_spotIndex_0 rfl rfl ?_
  refine g_bipush (pc := 1) (v := 8) X dX8_spotIndex_1 (by decide) ?_
  refine g_imul (pc := 3) X dX8_spotIndex_3 ?_
  refine g_iload_n (pc := 4) X dX8_spotIndex_4 rfl rfl ?_
  refine g_iadd (pc := 5) X dX8_spotIndex_5 ?_
  exact gm_iret (pc := 6) X hr hk dX8_spotIndex_6 (⟨rfl, rfl⟩)
set_option maxRecDepth 100000 in
set_option maxHeartbeats 4000000 in
theorem c_hasLetter (l : Launch) (G : xg_G) (O : Heap) (t : xT) (a b : Int32)  : xm l yX8_hasLetter cX8_hasLetter 2 (some .boolean) rmX8_hasLetter G O t [.int a, .int b] (xi (fun v t' => v = bi ((0 ≤ b ∧ b ≤ 15) ∧ (a >>> (b &&& 31)) &&& 1 = 1) ∧ t' = t)) := by
  refine xm_enter (by decide) 0 rfl rfl ?_
  intro p e s m args below meth c X hr hk
  refine g_eq (L2 := [some (.int a), some (.int b)]) rfl rfl rfl ?_
  refine g_iload_n (pc := 0) X dX8_hasLetter_0 rfl rfl ?_
  refine g_bipush (pc := 1) (v := 15) X dX8_hasLetter_1 (by decide) ?_
  refine gm_Si (pc := 3) X xc_X8_79 (c_isWithin l G O t b 15) dX8_hasLetter_3 rfl rfl rfl (Nat.le_of_ble_eq_true rfl) (fun v_3 t_3 hp => ?_)
  obtain ⟨rfl, rfl⟩ := hp
  refine g_if_eq (pc := 6) (tgt := 22) X dX8_hasLetter_6 (by decide) (fun hc_6 => ?_) (fun hc_6 => ?_)
  · refine g_iconst (pc := 22) (v := 0) X dX8_hasLetter_22 (by decide) ?_
    exact gm_zret (pc := 23) X hr hk dX8_hasLetter_23 (by first | exact Or.inl rfl | exact Or.inr rfl) (⟨(bi_f (fun h => bi_0 hc_6 h.1)).symm, rfl⟩)
  · refine g_iload_n (pc := 9) X dX8_hasLetter_9 rfl rfl ?_
    refine g_iload_n (pc := 10) X dX8_hasLetter_10 rfl rfl ?_
    refine g_ishr (pc := 11) X dX8_hasLetter_11 ?_
    refine g_iconst (pc := 12) (v := 1) X dX8_hasLetter_12 (by decide) ?_
    refine g_iand (pc := 13) X dX8_hasLetter_13 ?_
    refine g_iconst (pc := 14) (v := 1) X dX8_hasLetter_14 (by decide) ?_
    refine g_icmp_ne (pc := 15) (tgt := 22) X dX8_hasLetter_15 (by decide) (fun hc_15 => ?_) (fun hc_15 => ?_)
    · refine g_iconst (pc := 22) (v := 0) X dX8_hasLetter_22 (by decide) ?_
      exact gm_zret (pc := 23) X hr hk dX8_hasLetter_23 (by first | exact Or.inl rfl | exact Or.inr rfl) (⟨(bi_f (fun h => hc_15 h.2)).symm, rfl⟩)
    · refine g_iconst (pc := 18) (v := 1) X dX8_hasLetter_18 (by decide) ?_
      refine g_goto (pc := 19) (tgt := 23) X dX8_hasLetter_19 (by decide) ?_
      exact gm_zret (pc := 23) X hr hk dX8_hasLetter_23 (by first | exact Or.inl rfl | exact Or.inr rfl) (⟨(bi_t ⟨bi_1 hc_6, hc_15⟩).symm, rfl⟩)
def la (q s : Nat) : Nat := (s / 8 * 2 + q) * 8 + s % 8
theorem la_eq : ∀ q, q < 2 → ∀ s, s < 16 → (nI s / 8 * 2 + nI q) * 8 + (nI s - nI s / 8 * 8) = nI (la q s) := by decide
theorem la_lt : ∀ q, q < 2 → ∀ s, s < 16 → la q s < 32 := by decide
set_option maxRecDepth 100000 in
set_option maxHeartbeats 4000000 in
theorem c_lettersAhead (l : Launch) (G : xg_G) (O : Heap) (t : xT) (q s : Nat) (hq : q < 2) (hs : s < 16) : xm l yX8_lettersAhead cX8_lettersAhead 4 (some .int) rmX8_lettersAhead G O t [.int (nI q), .int (nI s)] (xi (fun v t' => v = nI (la q s) ∧ t' = t)) := by
  refine xm_enter (by decide) 2 rfl rfl ?_
  intro p e s0 m args below meth c X hr hk
  refine g_eq (L2 := [some (.int (nI q)), some (.int (nI s)), none, none]) rfl rfl rfl ?_
  refine g_iload_n (pc := 0) X dX8_lettersAhead_0 rfl rfl ?_
  refine g_bipush (pc := 1) (v := 8) X dX8_lettersAhead_1 (by decide) ?_
  refine g_idiv (pc := 3) X dX8_lettersAhead_3 (by decide) ?_
  refine g_istore_n (pc := 4) X dX8_lettersAhead_4 rfl (by decide) ?_
  refine g_iload_n (pc := 5) X dX8_lettersAhead_5 rfl rfl ?_
  refine g_iconst (pc := 6) (v := 2) X dX8_lettersAhead_6 (by decide) ?_
  refine g_imul (pc := 7) X dX8_lettersAhead_7 ?_
  refine g_iload_n (pc := 8) X dX8_lettersAhead_8 rfl rfl ?_
  refine g_iadd (pc := 9) X dX8_lettersAhead_9 ?_
  refine g_istore_n (pc := 10) X dX8_lettersAhead_10 rfl (by decide) ?_
  refine g_iload_n (pc := 11) X dX8_lettersAhead_11 rfl rfl ?_
  refine g_bipush (pc := 12) (v := 8) X dX8_lettersAhead_12 (by decide) ?_
  refine g_imul (pc := 14) X dX8_lettersAhead_14 ?_
  refine g_iload_n (pc := 15) X dX8_lettersAhead_15 rfl rfl ?_
  refine g_bipush (pc := 16) (v := 8) X dX8_lettersAhead_16 (by decide) ?_
  refine g_irem (pc := 18) X dX8_lettersAhead_18 (by decide) ?_
  refine g_iadd (pc := 19) X dX8_lettersAhead_19 ?_
  exact gm_iret (pc := 20) X hr hk dX8_lettersAhead_20 (⟨la_eq q hq s hs, rfl⟩)
end
section
/-! 03b: small methods of the class that read or write a few cells -/
/-- t but v at the places below n of the cell k -/
def xf (t : xT) (k n : Nat) (v : Int32) : xT := fun a b => if a = k ∧ b < n then v else t a b
theorem xf_0 (t : xT) (k : Nat) (v : Int32) : xf t k 0 v = t := by funext a b; simp [xf]
theorem xf_s (t : xT) (k n : Nat) (v : Int32) : xt (xf t k n v) k n v = xf t k (n + 1) v := by
  funext a b
  unfold xt xf
  by_cases h1 : a = k
  · subst h1
    by_cases h2 : b = n
    · subst h2; simp
    · by_cases h3 : b < n
      · simp [h2, h3, Nat.lt_succ_of_lt h3]
      · simp [h2, h3, show ¬ b < n + 1 by omega]
  · simp [h1]
theorem i_lt (a b : Int32) : a < b ↔ a.toInt < b.toInt := Int32.lt_iff_toInt_lt
theorem i_le (a b : Int32) : a ≤ b ↔ a.toInt ≤ b.toInt := Int32.le_iff_toInt_le
theorem i_eq (a b : Int32) : a = b ↔ a.toInt = b.toInt := Int32.toInt_inj.symm
theorem i_0 : (0 : Int32).toInt = 0 := rfl
theorem i_1 : (1 : Int32).toInt = 1 := rfl
theorem i_m1 : (-1 : Int32).toInt = -1 := rfl
theorem i_8 : (8 : Int32).toInt = 8 := rfl
/-- an int between 0 and n is a number below n -/
theorem i_in {x : Int32} {n : Nat} (hn : n < 2 ^ 31) : (0 ≤ x ∧ x < nI n) ↔ ∃ k, k < n ∧ x = nI k := by
  constructor
  · intro h
    obtain ⟨j, hj, e⟩ := nI_of (x := x) (fun q => by rw [i_lt, i_0] at q; have := (i_le _ _).mp h.1; rw [i_0] at this; omega)
    refine ⟨j, ?_, e⟩
    rw [e] at h
    exact (nI_ltI hj hn).mp h.2
  · rintro ⟨k, hk, rfl⟩
    exact ⟨nI_pos' (by omega), nI_lt hk hn⟩
set_option maxRecDepth 100000 in
set_option maxHeartbeats 4000000 in
theorem c_fill (l : Launch) (G : xg_G) (O : Heap) (t : xT) (k : Nat) (v : Int32) (hkd : kd k = 10) (hln : ln k ≤ 400) : xm l yJ7_fill_53178 cJ7_fill_53178 4 none rmJ7_fill_53178 G O t [.ref (O.size + k), .int v] (xv (fun t' => t' = xf t k (ln k) v)) := by
  refine xm_enter (by decide) 2 rfl rfl ?_
  intro p e s m args below meth c X hr hk
  refine g_eq (L2 := [some (.ref (O.size + k)), some (.int v), none, none]) rfl rfl rfl ?_
  have loop : ∀ (z9 : Nat) (i : Nat), ln k - i < z9 → i ≤ ln k → gm p l e rmJ7_fill_53178 s m args below meth c 4 G O (xmQ below G O (xv (fun t' => t' = xf t k (ln k) v)) args s) (xf t k i v) [some (.ref (O.size + k)), some (.int (v)), some (.int (nI i)), some (.int (nI (ln k)))] 5 [] := by
    intro z9
    induction z9 with
    | zero => intro i h9; exact absurd h9 (Nat.not_lt_zero _)
    | succ z9 ih =>
      intro i h9 hi
      refine g_iload_n (pc := 5) X dJ7_fill_53178_5 rfl rfl ?_
      refine g_iload_n (pc := 6) X dJ7_fill_53178_6 rfl rfl ?_
      refine g_icmp_ge (pc := 7) (tgt := 20) X dJ7_fill_53178_7 (by decide) (fun hc_7 => ?_) (fun hc_7 => ?_)
      · exact gm_vret (pc := 20) X hr hk dJ7_fill_53178_20 (by have := (nI_leI (a := ln k) (b := i) (by omega) (by omega)).mp hc_7; rw [show i = ln k by omega])
      · refine g_aload_n (pc := 10) X dJ7_fill_53178_10 rfl rfl ?_
        refine g_iload_n (pc := 11) X dJ7_fill_53178_11 rfl rfl ?_
        refine g_iload_n (pc := 12) X dJ7_fill_53178_12 rfl rfl ?_
        refine gm_iast (pc := 13) X (i) dJ7_fill_53178_13 hkd rfl (by have := hc_7; rw [nI_leI (by omega) (by omega)] at this; omega) hln ?_
        refine g_inc (pc := 14) (kv := 1) X dJ7_fill_53178_14 (by decide) rfl (by decide) ?_
        refine g_goto (pc := 17) (tgt := 5) X dJ7_fill_53178_17 (by decide) ?_
        rw [xf_s, nI_1]
        exact ih (i + 1) (by have := hc_7; rw [nI_leI (by omega) (by omega)] at this; omega) (by have := hc_7; rw [nI_leI (by omega) (by omega)] at this; omega)
  refine g_iconst (pc := 0) (v := 0) X dJ7_fill_53178_0 (by decide) ?_
  refine g_istore_n (pc := 1) X dJ7_fill_53178_1 rfl (by decide) ?_
  refine g_aload_n (pc := 2) X dJ7_fill_53178_2 rfl rfl ?_
  refine gm_alen (pc := 3) X dJ7_fill_53178_3 hkd rfl ?_
  refine g_istore_n (pc := 4) X dJ7_fill_53178_4 rfl (by decide) ?_
  have h0 := loop (ln k + 1) 0 (by omega) (Nat.zero_le _)
  rw [xf_0] at h0
  exact h0

set_option maxRecDepth 100000 in
set_option maxHeartbeats 4000000 in
theorem c_byteAt (l : Launch) (G : xg_G) (O : Heap) (t : xT) (nt j : Nat) (hnt : nt ≤ 400) (h1 : t 1 1 = nI nt) (hj : j < nt) : xm l yX6_byteAt cX6_byteAt 2 (some .int) rmX6_byteAt G O t [.ref (O.size + 1), .int (nI j)] (xi (fun v t' => v = t 2 j ∧ t' = t)) := by
  refine xm_enter (by decide) 0 rfl rfl ?_
  intro p e s m args below meth c X hr hk
  refine g_eq (L2 := [some (.ref (O.size + 1)), some (.int (nI j))]) rfl rfl rfl ?_
  refine g_iload_n (pc := 0) X dX6_byteAt_0 rfl rfl ?_
  refine g_if_lt (pc := 1) (tgt := 21) X dX6_byteAt_1 (by decide) (fun hc_1 => ?_) (fun hc_1 => ?_)
  · exact absurd hc_1 (nI_pos (by omega))
  · refine g_iload_n (pc := 4) X dX6_byteAt_4 rfl rfl ?_
    refine g_aload_n (pc := 5) X dX6_byteAt_5 rfl rfl ?_
    refine gm_getI (pc := 6) (j := 1) X 6 dX6_byteAt_6 rfl (by decide) rfl xu_6 (by decide) rfl xw_61 rfl ?_
    refine g_icmp_ge (pc := 9) (tgt := 21) X dX6_byteAt_9 (by decide) (fun hc_9 => ?_) (fun hc_9 => ?_)
    · rw [h1, nI_leI (by omega) (by omega)] at hc_9
      exact absurd hc_9 (by omega)
    · refine g_aload_n (pc := 12) X dX6_byteAt_12 rfl rfl ?_
      refine gm_getR (k' := 2) (pc := 13) (j := 0) X 6 dX6_byteAt_13 rfl (by decide) rfl xu_6 (by decide) rfl xw_60 rfl rfl ?_
      refine g_iload_n (pc := 16) X dX6_byteAt_16 rfl rfl ?_
      refine gm_iald (pc := 17) X (j) dX6_byteAt_17 rfl rfl (show j < 400 from by omega) (by decide) ?_
      refine g_goto (pc := 18) (tgt := 22) X dX6_byteAt_18 (by decide) ?_
      exact gm_iret (pc := 22) X hr hk dX6_byteAt_22 (⟨rfl, rfl⟩)

set_option maxRecDepth 100000 in
set_option maxHeartbeats 4000000 in
theorem c_isLetter (l : Launch) (G : xg_G) (O : Heap) (t : xT) (b : Int32)  : xm l yX7_isLetter cX7_isLetter 1 (some .boolean) rmX7_isLetter G O t [.int b] (xi (fun v t' => v = bi (0 ≤ b - 97 ∧ b - 97 ≤ 15) ∧ t' = t)) := by
  refine xm_enter (by decide) 0 rfl rfl ?_
  intro p e s m args below meth c X hr hk
  refine g_eq (L2 := [some (.int b)]) rfl rfl rfl ?_
  refine g_iload_n (pc := 0) X dX7_isLetter_0 rfl rfl ?_
  refine g_bipush (pc := 1) (v := 97) X dX7_isLetter_1 (by decide) ?_
  refine g_isub (pc := 3) X dX7_isLetter_3 ?_
  refine g_bipush (pc := 4) (v := 15) X dX7_isLetter_4 (by decide) ?_
  refine gm_SNi (pc := 6) X xc_X7_39 (c_isWithin l G O t (b - 97) 15) dX7_isLetter_6 rfl rfl rfl (Nat.le_of_ble_eq_true rfl) (fun v_6 t_6 hp => ?_)
  obtain ⟨rfl, hq9⟩ := hp
  have hq9 := hq9.symm
  subst hq9
  exact gm_zret (pc := 9) X hr hk dX7_isLetter_9 (bi_01 _) (⟨rfl, rfl⟩)

set_option maxRecDepth 100000 in
set_option maxHeartbeats 4000000 in
theorem c_letterAt (l : Launch) (G : xg_G) (O : Heap) (t : xT) (nl j : Nat) (hnl : nl ≤ 160) (h1 : t 4 1 = nI nl) (hj : j < nl) : xm l yX7_letterAt cX7_letterAt 2 (some .int) rmX7_letterAt G O t [.ref (O.size + 4), .int (nI j)] (xi (fun v t' => v = t 5 j ∧ t' = t)) := by
  refine xm_enter (by decide) 0 rfl rfl ?_
  intro p e s m args below meth c X hr hk
  refine g_eq (L2 := [some (.ref (O.size + 4)), some (.int (nI j))]) rfl rfl rfl ?_
  refine g_iload_n (pc := 0) X dX7_letterAt_0 rfl rfl ?_
  refine g_if_lt (pc := 1) (tgt := 21) X dX7_letterAt_1 (by decide) (fun hc_1 => ?_) (fun hc_1 => ?_)
  · exact absurd hc_1 (nI_pos (by omega))
  · refine g_iload_n (pc := 4) X dX7_letterAt_4 rfl rfl ?_
    refine g_aload_n (pc := 5) X dX7_letterAt_5 rfl rfl ?_
    refine gm_getI (pc := 6) (j := 1) X 7 dX7_letterAt_6 rfl (by decide) rfl xu_7 (by decide) rfl xw_82 rfl ?_
    refine g_icmp_ge (pc := 9) (tgt := 21) X dX7_letterAt_9 (by decide) (fun hc_9 => ?_) (fun hc_9 => ?_)
    · rw [h1, nI_leI (by omega) (by omega)] at hc_9
      exact absurd hc_9 (by omega)
    · refine g_aload_n (pc := 12) X dX7_letterAt_12 rfl rfl ?_
      refine gm_getR (k' := 5) (pc := 13) (j := 0) X 7 dX7_letterAt_13 rfl (by decide) rfl xu_7 (by decide) rfl xw_81 rfl rfl ?_
      refine g_iload_n (pc := 16) X dX7_letterAt_16 rfl rfl ?_
      refine gm_iald (pc := 17) X (j) dX7_letterAt_17 rfl rfl (show j < 160 from by omega) (by decide) ?_
      refine g_goto (pc := 18) (tgt := 22) X dX7_letterAt_18 (by decide) ?_
      exact gm_iret (pc := 22) X hr hk dX7_letterAt_22 (⟨rfl, rfl⟩)

theorem places_eq {n : Nat} (h : n ≤ 160) : (if (0 : Int32) < nI n - 32 + 1 then nI n - 32 + 1 else 0) = nI (n - 31) := by
  have e : ∀ n : Nat, n < 161 → (if (0 : Int32) < nI n - 32 + 1 then nI n - 32 + 1 else 0) = nI (n - 31) := by decide +kernel
  exact e n (by omega)
set_option maxRecDepth 100000 in
set_option maxHeartbeats 4000000 in
theorem c_places (l : Launch) (G : xg_G) (O : Heap) (t : xT) (nl : Nat) (hnl : nl ≤ 160) (h1 : t 4 1 = nI nl) : xm l yX7_places cX7_places 1 (some .int) rmX7_places G O t [.ref (O.size + 4)] (xi (fun v t' => v = nI (nl - 31) ∧ t' = t)) := by
  refine xm_enter (by decide) 0 rfl rfl ?_
  intro p e s m args below meth c X hr hk
  refine g_eq (L2 := [some (.ref (O.size + 4))]) rfl rfl rfl ?_
  refine g_iconst (pc := 0) (v := 0) X dX7_places_0 (by decide) ?_
  refine g_aload_n (pc := 1) X dX7_places_1 rfl rfl ?_
  refine gm_getI (pc := 2) (j := 1) X 7 dX7_places_2 rfl (by decide) rfl xu_7 (by decide) rfl xw_82 rfl ?_
  refine g_bipush (pc := 5) (v := 32) X dX7_places_5 (by decide) ?_
  refine g_isub (pc := 7) X dX7_places_7 ?_
  refine g_iconst (pc := 8) (v := 1) X dX7_places_8 (by decide) ?_
  refine g_iadd (pc := 9) X dX7_places_9 ?_
  refine g_max (pc := 10) X dX7_places_10 xw_373 xw_374 xw_44 xw_375 (by decide) (Nat.le_of_ble_eq_true rfl) (Nat.zero_le _) (Nat.zero_le _) ?_
  exact gm_iret (pc := 13) X hr hk dX7_places_13 (⟨by rw [h1]; exact places_eq hnl, rfl⟩)

set_option maxRecDepth 100000 in
set_option maxHeartbeats 4000000 in
theorem c_has (l : Launch) (G : xg_G) (O : Heap) (t : xT) (nh : Nat) (h : Int32) (hnh : nh ≤ 8) (h1 : t 6 1 = nI nh) : xm l yX2_has cX2_has 2 (some .boolean) rmX2_has G O t [.ref (O.size + 6), .int h] (xi (fun v t' => v = bi (0 ≤ h ∧ h < nI nh) ∧ t' = t)) := by
  refine xm_enter (by decide) 0 rfl rfl ?_
  intro p e s m args below meth c X hr hk
  refine g_eq (L2 := [some (.ref (O.size + 6)), some (.int h)]) rfl rfl rfl ?_
  refine g_iload_n (pc := 0) X dX2_has_0 rfl rfl ?_
  refine g_if_lt (pc := 1) (tgt := 22) X dX2_has_1 (by decide) (fun hc_1 => ?_) (fun hc_1 => ?_)
  · refine g_iconst (pc := 22) (v := 0) X dX2_has_22 (by decide) ?_
    exact gm_zret (pc := 23) X hr hk dX2_has_23 (by first | exact Or.inl rfl | exact Or.inr rfl) (⟨(bi_f (by simp only [i_le, i_lt, i_0, i_8, nI_toInt (show nh < 2 ^ 31 by omega)] at *; omega)).symm, rfl⟩)
  · refine g_iload_n (pc := 4) X dX2_has_4 rfl rfl ?_
    refine g_aload_n (pc := 5) X dX2_has_5 rfl rfl ?_
    refine gm_getI (pc := 6) (j := 1) X 2 dX2_has_6 rfl (by decide) rfl xu_2 (by decide) rfl xw_135 rfl ?_
    refine g_icmp_ge (pc := 9) (tgt := 22) X dX2_has_9 (by decide) (fun hc_9 => ?_) (fun hc_9 => ?_)
    · refine g_iconst (pc := 22) (v := 0) X dX2_has_22 (by decide) ?_
      exact gm_zret (pc := 23) X hr hk dX2_has_23 (by first | exact Or.inl rfl | exact Or.inr rfl) (⟨(bi_f (by rw [h1] at hc_9; simp only [i_le, i_lt, i_0, i_8, nI_toInt (show nh < 2 ^ 31 by omega)] at *; omega)).symm, rfl⟩)
    · refine g_iload_n (pc := 12) X dX2_has_12 rfl rfl ?_
      refine g_bipush (pc := 13) (v := 8) X dX2_has_13 (by decide) ?_
      refine g_icmp_ge (pc := 15) (tgt := 22) X dX2_has_15 (by decide) (fun hc_15 => ?_) (fun hc_15 => ?_)
      · refine g_iconst (pc := 22) (v := 0) X dX2_has_22 (by decide) ?_
        exact gm_zret (pc := 23) X hr hk dX2_has_23 (by first | exact Or.inl rfl | exact Or.inr rfl) (⟨(bi_f (by rw [h1] at hc_9; simp only [i_le, i_lt, i_0, i_8, nI_toInt (show nh < 2 ^ 31 by omega)] at *; omega)).symm, rfl⟩)
      · refine g_iconst (pc := 18) (v := 1) X dX2_has_18 (by decide) ?_
        refine g_goto (pc := 19) (tgt := 23) X dX2_has_19 (by decide) ?_
        exact gm_zret (pc := 23) X hr hk dX2_has_23 (by first | exact Or.inl rfl | exact Or.inr rfl) (⟨(bi_t (by rw [h1] at hc_9; simp only [i_le, i_lt, i_0, i_8, nI_toInt (show nh < 2 ^ 31 by omega)] at *; omega)).symm, rfl⟩)

set_option maxRecDepth 100000 in
set_option maxHeartbeats 4000000 in
theorem c_mayLieAs (l : Launch) (G : xg_G) (O : Heap) (t : xT) (h : Nat) (q : Int32) (hh : h < 8) : xm l yX1_mayLieAs cX1_mayLieAs 2 (some .boolean) rmX1_mayLieAs G O t [.ref (O.size + (8 + 2 * h)), .int q] (xi (fun v t' => v = bi (t (8 + 2 * h) 0 = q ∨ t (8 + 2 * h) 0 = 2) ∧ t' = t)) := by
  refine xm_enter (by decide) 0 rfl rfl ?_
  intro p e s m args below meth c X hr hk
  refine g_eq (L2 := [some (.ref (O.size + (8 + 2 * h))), some (.int q)]) rfl rfl rfl ?_
  refine g_aload_n (pc := 0) X dX1_mayLieAs_0 rfl rfl ?_
  refine gm_getI (pc := 1) (j := 0) X 1 dX1_mayLieAs_1 (kd_half h hh).1 (by decide) rfl xu_1 (by decide) rfl xw_110 rfl ?_
  refine g_iload_n (pc := 4) X dX1_mayLieAs_4 rfl rfl ?_
  refine g_icmp_eq (pc := 5) (tgt := 16) X dX1_mayLieAs_5 (by decide) (fun hc_5 => ?_) (fun hc_5 => ?_)
  · refine g_iconst (pc := 16) (v := 1) X dX1_mayLieAs_16 (by decide) ?_
    refine g_goto (pc := 17) (tgt := 21) X dX1_mayLieAs_17 (by decide) ?_
    exact gm_zret (pc := 21) X hr hk dX1_mayLieAs_21 (by first | exact Or.inl rfl | exact Or.inr rfl) (⟨(bi_t (Or.inl hc_5)).symm, rfl⟩)
  · refine g_aload_n (pc := 8) X dX1_mayLieAs_8 rfl rfl ?_
    refine gm_getI (pc := 9) (j := 0) X 1 dX1_mayLieAs_9 (kd_half h hh).1 (by decide) rfl xu_1 (by decide) rfl xw_110 rfl ?_
    refine g_iconst (pc := 12) (v := 2) X dX1_mayLieAs_12 (by decide) ?_
    refine g_icmp_ne (pc := 13) (tgt := 20) X dX1_mayLieAs_13 (by decide) (fun hc_13 => ?_) (fun hc_13 => ?_)
    · refine g_iconst (pc := 20) (v := 0) X dX1_mayLieAs_20 (by decide) ?_
      exact gm_zret (pc := 21) X hr hk dX1_mayLieAs_21 (by first | exact Or.inl rfl | exact Or.inr rfl) (⟨(bi_f (by rintro (q | q); exact hc_5 q; exact hc_13 q)).symm, rfl⟩)
    · refine g_iconst (pc := 16) (v := 1) X dX1_mayLieAs_16 (by decide) ?_
      refine g_goto (pc := 17) (tgt := 21) X dX1_mayLieAs_17 (by decide) ?_
      exact gm_zret (pc := 21) X hr hk dX1_mayLieAs_21 (by first | exact Or.inl rfl | exact Or.inr rfl) (⟨(bi_t (Or.inr hc_13)).symm, rfl⟩)

set_option maxRecDepth 100000 in
set_option maxHeartbeats 4000000 in
theorem c_isLike (l : Launch) (G : xg_G) (O : Heap) (t : xT) (h g : Nat) (hh : h < 8) (hg : g < 8) : xm l yX1_isLike cX1_isLike 2 (some .boolean) rmX1_isLike G O t [.ref (O.size + (8 + 2 * h)), .ref (O.size + (8 + 2 * g))] (xi (fun v t' => v = bi (t (8 + 2 * h) 1 = t (8 + 2 * g) 1 ∧ t (8 + 2 * h) 2 = t (8 + 2 * g) 2) ∧ t' = t)) := by
  refine xm_enter (by decide) 0 rfl rfl ?_
  intro p e s m args below meth c X hr hk
  refine g_eq (L2 := [some (.ref (O.size + (8 + 2 * h))), some (.ref (O.size + (8 + 2 * g)))]) rfl rfl rfl ?_
  refine g_aload_n (pc := 0) X dX1_isLike_0 rfl rfl ?_
  refine gm_getI (pc := 1) (j := 1) X 1 dX1_isLike_1 (kd_half h hh).1 (by decide) rfl xu_1 (by decide) rfl xw_112 rfl ?_
  refine g_aload_n (pc := 4) X dX1_isLike_4 rfl rfl ?_
  refine gm_getI (pc := 5) (j := 1) X 1 dX1_isLike_5 (kd_half g hg).1 (by decide) rfl xu_1 (by decide) rfl xw_112 rfl ?_
  refine g_icmp_ne (pc := 8) (tgt := 26) X dX1_isLike_8 (by decide) (fun hc_8 => ?_) (fun hc_8 => ?_)
  · refine g_iconst (pc := 26) (v := 0) X dX1_isLike_26 (by decide) ?_
    exact gm_zret (pc := 27) X hr hk dX1_isLike_27 (by first | exact Or.inl rfl | exact Or.inr rfl) (⟨(bi_f (fun q => hc_8 q.1)).symm, rfl⟩)
  · refine g_aload_n (pc := 11) X dX1_isLike_11 rfl rfl ?_
    refine gm_getI (pc := 12) (j := 2) X 1 dX1_isLike_12 (kd_half h hh).1 (by decide) rfl xu_1 (by decide) rfl xw_115 rfl ?_
    refine g_aload_n (pc := 15) X dX1_isLike_15 rfl rfl ?_
    refine gm_getI (pc := 16) (j := 2) X 1 dX1_isLike_16 (kd_half g hg).1 (by decide) rfl xu_1 (by decide) rfl xw_115 rfl ?_
    refine g_icmp_ne (pc := 19) (tgt := 26) X dX1_isLike_19 (by decide) (fun hc_19 => ?_) (fun hc_19 => ?_)
    · refine g_iconst (pc := 26) (v := 0) X dX1_isLike_26 (by decide) ?_
      exact gm_zret (pc := 27) X hr hk dX1_isLike_27 (by first | exact Or.inl rfl | exact Or.inr rfl) (⟨(bi_f (fun q => hc_19 q.2)).symm, rfl⟩)
    · refine g_iconst (pc := 22) (v := 1) X dX1_isLike_22 (by decide) ?_
      refine g_goto (pc := 23) (tgt := 27) X dX1_isLike_23 (by decide) ?_
      exact gm_zret (pc := 27) X hr hk dX1_isLike_27 (by first | exact Or.inl rfl | exact Or.inr rfl) (⟨(bi_t ⟨hc_8, hc_19⟩).symm, rfl⟩)

set_option maxRecDepth 100000 in
set_option maxHeartbeats 4000000 in
theorem c_lie (l : Launch) (G : xg_G) (O : Heap) (t : xT) (k : Nat) (a b c d : Int32) (hkd : kd k = 3) : xm l yX3_lie cX3_lie 5 none rmX3_lie G O t [.ref (O.size + k), .int a, .int b, .int c, .int d] (xv (fun t' => t' = xt (xt (xt (xt t k 0 a) k 1 b) k 2 c) k 3 d)) := by
  refine xm_enter (by decide) 0 rfl rfl ?_
  intro p e s m args below meth c0 X hr hk
  refine g_eq (L2 := [some (.ref (O.size + k)), some (.int a), some (.int b), some (.int c), some (.int d)]) rfl rfl rfl ?_
  refine g_aload_n (pc := 0) X dX3_lie_0 rfl rfl ?_
  refine g_iload_n (pc := 1) X dX3_lie_1 rfl rfl ?_
  refine gm_putI (pc := 2) (j := 0) X 3 tyX3 dX3_lie_2 hkd (by decide) rfl xu_3 tyX3_ok nmX3 (by decide) rfl xw_150 rfl rfl (Or.inl rfl) ?_
  refine g_aload_n (pc := 5) X dX3_lie_5 rfl rfl ?_
  refine g_iload_n (pc := 6) X dX3_lie_6 rfl rfl ?_
  refine gm_putI (pc := 7) (j := 1) X 3 tyX3 dX3_lie_7 hkd (by decide) rfl xu_3 tyX3_ok nmX3 (by decide) rfl xw_153 rfl rfl (Or.inl rfl) ?_
  refine g_aload_n (pc := 10) X dX3_lie_10 rfl rfl ?_
  refine g_iload_n (pc := 11) X dX3_lie_11 rfl rfl ?_
  refine gm_putI (pc := 12) (j := 2) X 3 tyX3 dX3_lie_12 hkd (by decide) rfl xu_3 tyX3_ok nmX3 (by decide) rfl xw_156 rfl rfl (Or.inl rfl) ?_
  refine g_aload_n (pc := 15) X dX3_lie_15 rfl rfl ?_
  refine g_iload (pc := 16) X dX3_lie_16 rfl ?_
  refine gm_putI (pc := 18) (j := 3) X 3 tyX3 dX3_lie_18 hkd (by decide) rfl xu_3 tyX3_ok nmX3 (by decide) rfl xw_160 rfl rfl (Or.inl rfl) ?_
  exact gm_vret (pc := 21) X hr hk dX3_lie_21 (rfl)

set_option maxRecDepth 100000 in
set_option maxHeartbeats 4000000 in
theorem c_partOf (l : Launch) (G : xg_G) (O : Heap) (t : xT) (k : Nat) (h : Int32) (hkd : kd k = 3) : xm l yX3_partOf cX3_partOf 2 (some .int) rmX3_partOf G O t [.ref (O.size + k), .int h] (xi (fun v t' => v = (if h = t k 0 then 0 else 1) ∧ t' = t)) := by
  refine xm_enter (by decide) 0 rfl rfl ?_
  intro p e s m args below meth c X hr hk
  refine g_eq (L2 := [some (.ref (O.size + k)), some (.int h)]) rfl rfl rfl ?_
  refine g_iload_n (pc := 0) X dX3_partOf_0 rfl rfl ?_
  refine g_aload_n (pc := 1) X dX3_partOf_1 rfl rfl ?_
  refine gm_getI (pc := 2) (j := 0) X 3 dX3_partOf_2 hkd (by decide) rfl xu_3 (by decide) rfl xw_150 rfl ?_
  refine g_icmp_ne (pc := 5) (tgt := 12) X dX3_partOf_5 (by decide) (fun hc_5 => ?_) (fun hc_5 => ?_)
  · refine g_iconst (pc := 12) (v := 1) X dX3_partOf_12 (by decide) ?_
    exact gm_iret (pc := 13) X hr hk dX3_partOf_13 (⟨(if_neg hc_5).symm, rfl⟩)
  · refine g_iconst (pc := 8) (v := 0) X dX3_partOf_8 (by decide) ?_
    refine g_goto (pc := 9) (tgt := 13) X dX3_partOf_9 (by decide) ?_
    exact gm_iret (pc := 13) X hr hk dX3_partOf_13 (⟨(if_pos hc_5).symm, rfl⟩)
end
section
/-! 03c: pure words: bits of a list, quarrels, rows, the best of a leaf -/
def hb (a b : Int32) : Bool := decide ((a >>> (b &&& 31)) &&& 1 = 1)
def qn (f g : Nat → Int32) (q p : Nat) : Nat → Nat
  | 0 => 0
  | n + 1 => qn f g q p n + (if hb (f n) (g (p + la q n)) = true then 0 else 1)
theorem qn_le (f g : Nat → Int32) (q p : Nat) : ∀ n, qn f g q p n ≤ n
  | 0 => Nat.le_refl 0
  | n + 1 => by
    have := qn_le f g q p n
    unfold qn
    split <;> omega
theorem qn_cong {f f2 g g2 : Nat → Int32} {q p : Nat} : ∀ {n : Nat}, (∀ s, s < n → f s = f2 s) → (∀ s, s < n → g (p + la q s) = g2 (p + la q s)) → qn f g q p n = qn f2 g2 q p n
  | 0, _, _ => rfl
  | n + 1, h1, h2 => by
    unfold qn
    rw [qn_cong (fun s hs => h1 s (by omega)) (fun s hs => h2 s (by omega)), h1 n (by omega), h2 n (by omega)]
theorem hb_all : ∀ c, c < 16 → hb 65535 (nI c) = true := by decide
def ov : Option Nat → Int32
  | none => -1
  | some k => nI k
def rcell : Option Nat → Nat → Nat
  | none, _ => 42
  | some k, q => 26 + (2 * k + q)
theorem rcell_ok {u : Option Nat} {q : Nat} (hu : ∀ k, u = some k → k < 8) (hq : q < 2) : kd (rcell u q) = 10 ∧ ln (rcell u q) = 129 ∧ 26 ≤ rcell u q ∧ rcell u q < 43 := by
  cases u with
  | none => exact ⟨rfl, rfl, by show 26 ≤ 42; omega, by show 42 < 43; omega⟩
  | some k =>
    have h := hu k rfl
    have h2 := kd_row (2 * k + q) (by omega)
    exact ⟨h2.2.1, h2.2.2, by show 26 ≤ 26 + (2 * k + q); omega, by show 26 + (2 * k + q) < 43; omega⟩
def mayb (pt : Nat → Int32) : Option Nat → Int32 → Bool
  | none, _ => true
  | some k, q => decide (pt k = q ∨ pt k = 2)
theorem idx_row (k q : Nat) : (2 : Int32) * nI k + nI q = nI (2 * k + q) := by
  rw [show (2 : Int32) = nI 2 from rfl, pk_mul, nI_add]
/-- t but f y more at the places y below n of the cell k -/
def xadd (t : xT) (k n : Nat) (f : Nat → Int32) : xT := fun x y => if x = k ∧ y < n then t x y + f y else t x y
theorem xadd_0 (t : xT) (k : Nat) (f : Nat → Int32) : xadd t k 0 f = t := by funext x y; simp [xadd]
theorem xadd_ne (t : xT) {k n x : Nat} (f : Nat → Int32) (y : Nat) (h : x ≠ k) : xadd t k n f x y = t x y := by simp [xadd, h]
theorem xadd_same (t : xT) {k n : Nat} (f : Nat → Int32) : xadd t k n f k n = t k n := by simp [xadd]
theorem xadd_s0 (t : xT) (k n : Nat) (f : Nat → Int32) (h : f n = 0) : xadd t k n f = xadd t k (n + 1) f := by
  funext x y
  unfold xadd
  by_cases h1 : x = k
  · subst h1
    by_cases h2 : y = n
    · subst h2; simp [h]
    · by_cases h3 : y < n
      · simp [h3, Nat.lt_succ_of_lt h3]
      · simp [h3, show ¬ y < n + 1 by omega]
  · simp [h1]
theorem xadd_s (t : xT) (k n : Nat) (f : Nat → Int32) : xt (xadd t k n f) k n (t k n + f n) = xadd t k (n + 1) f := by
  funext x y
  unfold xt xadd
  by_cases h1 : x = k
  · subst h1
    by_cases h2 : y = n
    · subst h2; simp
    · by_cases h3 : y < n
      · simp [h2, h3, Nat.lt_succ_of_lt h3]
      · simp [h2, h3, show ¬ y < n + 1 by omega]
  · simp [h1]
/-- the row k of quarrels: the first n spots counted -/
def xrow (t : xT) (k pl : Nat) (f g : Nat → Int32) (q n : Nat) : xT := fun x y => if x = k ∧ y < 129 then (if y < pl then nI (qn f g q y n) else 0) else t x y
theorem xrow_0 (t : xT) (k pl : Nat) (f g : Nat → Int32) (q : Nat) : xf t k 129 0 = xrow t k pl f g q 0 := by
  funext x y
  unfold xf xrow qn
  split
  · split <;> rfl
  · rfl
theorem xrow_ne (t : xT) {k x : Nat} (pl : Nat) (f g : Nat → Int32) (q n y : Nat) (h : x ≠ k) : xrow t k pl f g q n x y = t x y := by simp [xrow, h]
theorem xrow_ne1 (t : xT) {k x : Nat} (pl : Nat) (f g : Nat → Int32) (q n : Nat) (h : x ≠ k) : xrow t k pl f g q n x = t x := funext fun y => xrow_ne t pl f g q n y h
theorem xrow_skip (t : xT) (k pl : Nat) (f g : Nat → Int32) (q n : Nat) (h : ∀ y, y < pl → hb (f n) (g (y + la q n)) = true) : xrow t k pl f g q n = xrow t k pl f g q (n + 1) := by
  funext x y
  unfold xrow
  split
  · split
    · rename_i h1
      show _ = nI (qn f g q y n + _)
      rw [if_pos (h y h1)]; rfl
    · rfl
  · rfl
theorem xrow_add (t : xT) (k pl : Nat) (f g : Nat → Int32) (q n : Nat) (hp : pl ≤ 129) : xadd (xrow t k pl f g q n) k pl (fun y => if hb (f n) (g (y + la q n)) = true then 0 else 1) = xrow t k pl f g q (n + 1) := by
  funext x y
  unfold xadd xrow
  by_cases h1 : x = k
  · subst h1
    by_cases h3 : y < pl
    · have h4 : y < 129 := by omega
      simp only [h3, h4, and_self, if_true]
      show nI _ + _ = nI (qn f g q y n + _)
      split
      · exact Int32.add_zero _
      · exact nI_1 _
    · simp [h3]
  · simp [h1]
abbrev B4 : Type := Int32 × Int32 × Int32 × Int32
def getB (t : xT) : B4 := (t 24 0, t 24 1, t 24 2, t 24 3)
def setB (t : xT) (b : B4) : xT := xt (xt (xt (xt t 24 0 b.1) 24 1 b.2.1) 24 2 b.2.2.1) 24 3 b.2.2.2
theorem setB_ne (t : xT) (b : B4) {x : Nat} (y : Nat) (h : x ≠ 24) : setB t b x y = t x y := by simp [setB, xt, h]
theorem setB_ne1 (t : xT) (b : B4) {x : Nat} (h : x ≠ 24) : setB t b x = t x := funext fun y => setB_ne t b y h
theorem setB_get (t : xT) : setB t (getB t) = t := by
  funext x y
  unfold setB getB xt
  by_cases h : x = 24
  · subst h
    by_cases h0 : y = 0
    · subst h0; simp
    · by_cases h1 : y = 1
      · subst h1; simp
      · by_cases h2 : y = 2
        · subst h2; simp
        · by_cases h3 : y = 3
          · subst h3; simp
          · simp [h0, h1, h2, h3]
  · simp [h]
theorem setB_set (t : xT) (b c : B4) : setB (setB t b) c = setB t c := by
  funext x y
  unfold setB xt
  by_cases h : x = 24
  · subst h
    by_cases h0 : y = 0
    · subst h0; simp
    · by_cases h1 : y = 1
      · subst h1; simp
      · by_cases h2 : y = 2
        · subst h2; simp
        · by_cases h3 : y = 3
          · subst h3; simp
          · simp [h0, h1, h2, h3]
  · simp [h]
theorem getB_set (t : xT) (b : B4) : getB (setB t b) = b := by
  obtain ⟨b0, b1, b2, b3⟩ := b
  simp [getB, setB, xt]
theorem setB_q (t : xT) (b : B4) : setB t b 24 3 = b.2.2.2 := by simp [setB, xt]
def tw (u l : Int32) (f : Nat → Int32) : Nat → B4 → B4
  | 0, b => b
  | n + 1, b => if (tw u l f n b).2.2.2 = -1 ∨ f n < (tw u l f n b).2.2.2 then (u, l, nI n, f n) else tw u l f n b
theorem tw_cong {u l : Int32} {f g : Nat → Int32} {b : B4} : ∀ {n : Nat}, (∀ p, p < n → f p = g p) → tw u l f n b = tw u l g n b
  | 0, _ => rfl
  | n + 1, h => by
    unfold tw
    rw [tw_cong (n := n) (fun p hp => h p (by omega)), h n (by omega)]
def trg (pt : Nat → Int32) (f : Option Nat → Option Nat → Nat → Int32) (pl : Nat) (u l : Option Nat) (b : B4) : B4 := if (mayb pt u 0 && mayb pt l 1) = true then tw (ov u) (ov l) (f u l) pl b else b
def bsg (pt sd rl : Nat → Int32) (f : Option Nat → Option Nat → Nat → Int32) (pl x y : Nat) (b0 : B4) : B4 :=
  if x = y then trg pt f pl none (some x) (trg pt f pl (some x) none b0) else if sd x = sd y ∧ rl x = rl y then trg pt f pl (some y) (some x) (trg pt f pl (some x) (some y) b0) else b0
theorem min_nI {a b : Nat} (ha : a < 2 ^ 31) (hb : b < 2 ^ 31) : (if nI b < nI a then nI b else nI a) = nI (min a b) := by
  by_cases h : b < a
  · rw [if_pos ((nI_ltI hb ha).mpr h), Nat.min_eq_right (by omega)]
  · rw [if_neg (fun q => h ((nI_ltI hb ha).mp q)), Nat.min_eq_left (by omega)]
theorem max_nI {a b : Nat} (ha : a < 2 ^ 31) (hb : b < 2 ^ 31) : (if nI a < nI b then nI b else nI a) = nI (max a b) := by
  by_cases h : a < b
  · rw [if_pos ((nI_ltI ha hb).mpr h), Nat.max_eq_right (by omega)]
  · rw [if_neg (fun q => h ((nI_ltI ha hb).mp q)), Nat.max_eq_left (by omega)]
theorem n_gt {a b : Nat} (h : ¬ nI a ≤ nI b) (ha : a < 2 ^ 31 := by omega) (hb : b < 2 ^ 31 := by omega) : b < a := by
  have : ¬ a ≤ b := fun q => h ((nI_leI ha hb).mpr q)
  omega
theorem n_ge {a b : Nat} (h : nI a ≤ nI b) (ha : a < 2 ^ 31 := by omega) (hb : b < 2 ^ 31 := by omega) : a ≤ b := (nI_leI ha hb).mp h
theorem n_l {a b : Nat} (h : nI a < nI b) (ha : a < 2 ^ 31 := by omega) (hb : b < 2 ^ 31 := by omega) : a < b := (nI_ltI ha hb).mp h
theorem n_nl {a b : Nat} (h : ¬ nI a < nI b) (ha : a < 2 ^ 31 := by omega) (hb : b < 2 ^ 31 := by omega) : b ≤ a := by
  have : ¬ a < b := fun q => h ((nI_ltI ha hb).mpr q)
  omega
theorem xadd_s1 (t : xT) (k n : Nat) (f : Nat → Int32) (h : f n = 1) : xt (xadd t k n f) k n (xadd t k n f k n + 1) = xadd t k (n + 1) f := by
  rw [xadd_same, ← h, xadd_s]
end
section
/-! 04a: Scale, first part -/
set_option maxRecDepth 100000 in
set_option maxHeartbeats 4000000 in
theorem c_mayLie (l : Launch) (G : xg_G) (O : Heap) (t : xT) (nh : Nat) (u : Option Nat) (q : Int32) (hnh : nh ≤ 8) (h1 : t 6 1 = nI nh) (hu : ∀ k, u = some k → k < nh) : xm l yX5_mayLie cX5_mayLie 3 (some .boolean) rmX5_mayLie G O t [.ref (O.size + 3), .int (ov u), .int q] (xi (fun v t' => v = bi (mayb (fun k => t (8 + 2 * k) 0) u q = true) ∧ t' = t)) := by
  refine xm_enter (by decide) 0 rfl rfl ?_
  intro p e s m args below meth c X hr hk
  refine g_eq (L2 := [some (.ref (O.size + 3)), some (.int (ov u)), some (.int q)]) rfl rfl rfl ?_
  cases u with
  | none =>
    refine g_aload_n (pc := 0) X dX5_mayLie_0 rfl rfl ?_
    refine gm_getR (k' := 6) (pc := 1) (j := 1) X 5 dX5_mayLie_1 rfl (by decide) rfl xu_5 (by decide) rfl xw_193 rfl rfl ?_
    refine g_iload_n (pc := 4) X dX5_mayLie_4 rfl rfl ?_
    refine gm_Vi (pc := 5) X 2 xc_X5_49 (c_has l G O t nh (ov none) hnh h1) dX5_mayLie_5 rfl (by decide) rfl rfl rfl rfl (Nat.le_of_ble_eq_true rfl) (fun v_5 t_5 hp => ?_)
    obtain ⟨rfl, hq9⟩ := hp
    have hq9 := hq9.symm
    subst hq9
    refine g_if_eq (pc := 8) (tgt := 27) X dX5_mayLie_8 (by decide) (fun hc_8 => ?_) (fun hc_8 => ?_)
    · refine g_iconst (pc := 27) (v := 1) X dX5_mayLie_27 (by decide) ?_
      refine g_goto (pc := 28) (tgt := 32) X dX5_mayLie_28 (by decide) ?_
      exact gm_zret (pc := 32) X hr hk dX5_mayLie_32 (by first | exact Or.inl rfl | exact Or.inr rfl) (⟨(bi_t rfl).symm, rfl⟩)
    · exact absurd (bi_1 hc_8).1 (by decide)
  | some k =>
    have hk8 : k < 8 := by have := hu k rfl; omega
    refine g_aload_n (pc := 0) X dX5_mayLie_0 rfl rfl ?_
    refine gm_getR (k' := 6) (pc := 1) (j := 1) X 5 dX5_mayLie_1 rfl (by decide) rfl xu_5 (by decide) rfl xw_193 rfl rfl ?_
    refine g_iload_n (pc := 4) X dX5_mayLie_4 rfl rfl ?_
    refine gm_Vi (pc := 5) X 2 xc_X5_49 (c_has l G O t nh (nI k) hnh h1) dX5_mayLie_5 rfl (by decide) rfl rfl rfl rfl (Nat.le_of_ble_eq_true rfl) (fun v_5 t_5 hp => ?_)
    obtain ⟨rfl, hq9⟩ := hp
    have hq9 := hq9.symm
    subst hq9
    refine g_if_eq (pc := 8) (tgt := 27) X dX5_mayLie_8 (by decide) (fun hc_8 => ?_) (fun hc_8 => ?_)
    · exact absurd ⟨nI_pos' (by omega), nI_lt (hu k rfl) (by omega)⟩ (bi_0 hc_8)
    · refine g_aload_n (pc := 11) X dX5_mayLie_11 rfl rfl ?_
      refine gm_getR (k' := 6) (pc := 12) (j := 1) X 5 dX5_mayLie_12 rfl (by decide) rfl xu_5 (by decide) rfl xw_193 rfl rfl ?_
      refine gm_getR (k' := 7) (pc := 15) (j := 0) X 2 dX5_mayLie_15 rfl (by decide) rfl xu_2 (by decide) rfl xw_132 rfl rfl ?_
      refine g_iload_n (pc := 18) X dX5_mayLie_18 rfl rfl ?_
      refine gm_aald (pc := 19) (k' := (8 + 2 * k)) X 12 (k) (.object "UnderText$Half") dX5_mayLie_19 rfl (by decide) (by decide) rfl rfl rfl (show k < 8 from by omega) (by decide) (kd_half k hk8).2.1 ?_
      refine g_iload_n (pc := 20) X dX5_mayLie_20 rfl rfl ?_
      refine gm_Vi (pc := 21) X 1 xc_X5_126 (c_mayLieAs l G O t k q hk8) dX5_mayLie_21 (kd_half k hk8).1 (by decide) rfl rfl rfl rfl (Nat.le_of_ble_eq_true rfl) (fun v_21 t_21 hp => ?_)
      obtain ⟨rfl, hq9⟩ := hp
      have hq9 := hq9.symm
      subst hq9
      refine g_if_eq (pc := 24) (tgt := 31) X dX5_mayLie_24 (by decide) (fun hc_24 => ?_) (fun hc_24 => ?_)
      · refine g_iconst (pc := 31) (v := 0) X dX5_mayLie_31 (by decide) ?_
        exact gm_zret (pc := 32) X hr hk dX5_mayLie_32 (by first | exact Or.inl rfl | exact Or.inr rfl) (⟨(bi_f (by simpa [mayb] using bi_0 hc_24)).symm, rfl⟩)
      · refine g_iconst (pc := 27) (v := 1) X dX5_mayLie_27 (by decide) ?_
        refine g_goto (pc := 28) (tgt := 32) X dX5_mayLie_28 (by decide) ?_
        exact gm_zret (pc := 32) X hr hk dX5_mayLie_32 (by first | exact Or.inl rfl | exact Or.inr rfl) (⟨(bi_t (by simpa [mayb] using bi_1 hc_24)).symm, rfl⟩)

set_option maxRecDepth 100000 in
set_option maxHeartbeats 4000000 in
theorem c_rowOf (l : Launch) (G : xg_G) (O : Heap) (t : xT) (nh : Nat) (u : Option Nat) (q : Nat) (hnh : nh ≤ 8) (h1 : t 6 1 = nI nh) (hu : ∀ k, u = some k → k < nh) (hq : q < 2) : xm l yX5_rowOf cX5_rowOf 3 (some (.array .int)) rmX5_rowOf G O t [.ref (O.size + 3), .int (ov u), .int (nI q)] (xa O (fun k' t' => k' = rcell u q ∧ t' = t)) := by
  refine xm_enter (by decide) 0 rfl rfl ?_
  intro p e s m args below meth c X hr hk
  refine g_eq (L2 := [some (.ref (O.size + 3)), some (.int (ov u)), some (.int (nI q))]) rfl rfl rfl ?_
  cases u with
  | none =>
    refine g_aload_n (pc := 0) X dX5_rowOf_0 rfl rfl ?_
    refine gm_getR (k' := 6) (pc := 1) (j := 1) X 5 dX5_rowOf_1 rfl (by decide) rfl xu_5 (by decide) rfl xw_193 rfl rfl ?_
    refine g_iload_n (pc := 4) X dX5_rowOf_4 rfl rfl ?_
    refine gm_Vi (pc := 5) X 2 xc_X5_49 (c_has l G O t nh (ov none) hnh h1) dX5_rowOf_5 rfl (by decide) rfl rfl rfl rfl (Nat.le_of_ble_eq_true rfl) (fun v_5 t_5 hp => ?_)
    obtain ⟨rfl, hq9⟩ := hp
    have hq9 := hq9.symm
    subst hq9
    refine g_if_eq (pc := 8) (tgt := 32) X dX5_rowOf_8 (by decide) (fun hc_8 => ?_) (fun hc_8 => ?_)
    · refine g_aload_n (pc := 32) X dX5_rowOf_32 rfl rfl ?_
      refine gm_getR (k' := 42) (pc := 33) (j := 4) X 5 dX5_rowOf_33 rfl (by decide) rfl xu_5 (by decide) rfl xw_199 rfl rfl ?_
      exact gm_aret (pc := 36) X hr hk dX5_rowOf_36 (⟨rfl, rfl⟩)
    · exact absurd (bi_1 hc_8).1 (by decide)
  | some k =>
    have hkn := hu k rfl
    refine g_aload_n (pc := 0) X dX5_rowOf_0 rfl rfl ?_
    refine gm_getR (k' := 6) (pc := 1) (j := 1) X 5 dX5_rowOf_1 rfl (by decide) rfl xu_5 (by decide) rfl xw_193 rfl rfl ?_
    refine g_iload_n (pc := 4) X dX5_rowOf_4 rfl rfl ?_
    refine gm_Vi (pc := 5) X 2 xc_X5_49 (c_has l G O t nh (nI k) hnh h1) dX5_rowOf_5 rfl (by decide) rfl rfl rfl rfl (Nat.le_of_ble_eq_true rfl) (fun v_5 t_5 hp => ?_)
    obtain ⟨rfl, hq9⟩ := hp
    have hq9 := hq9.symm
    subst hq9
    refine g_if_eq (pc := 8) (tgt := 32) X dX5_rowOf_8 (by decide) (fun hc_8 => ?_) (fun hc_8 => ?_)
    · exact absurd ⟨nI_pos' (by omega), nI_lt hkn (by omega)⟩ (bi_0 hc_8)
    · refine g_iload_n (pc := 11) X dX5_rowOf_11 rfl rfl ?_
      refine g_iconst (pc := 12) (v := 1) X dX5_rowOf_12 (by decide) ?_
      refine gm_SNi (pc := 13) X xc_X5_97 (c_isWithin l G O t (nI q) 1) dX5_rowOf_13 rfl rfl rfl (Nat.le_of_ble_eq_true rfl) (fun v_13 t_13 hp => ?_)
      obtain ⟨rfl, hq9⟩ := hp
      have hq9 := hq9.symm
      subst hq9
      refine g_if_eq (pc := 16) (tgt := 32) X dX5_rowOf_16 (by decide) (fun hc_16 => ?_) (fun hc_16 => ?_)
      · exact absurd ⟨nI_pos' (by omega), nI_le (a := q) (b := 1) (by omega) (by omega)⟩ (bi_0 hc_16)
      · refine g_aload_n (pc := 19) X dX5_rowOf_19 rfl rfl ?_
        refine gm_getR (k' := 25) (pc := 20) (j := 3) X 5 dX5_rowOf_20 rfl (by decide) rfl xu_5 (by decide) rfl xw_198 rfl rfl ?_
        refine g_iconst (pc := 23) (v := 2) X dX5_rowOf_23 (by decide) ?_
        refine g_iload_n (pc := 24) X dX5_rowOf_24 rfl rfl ?_
        refine g_imul (pc := 25) X dX5_rowOf_25 ?_
        refine g_iload_n (pc := 26) X dX5_rowOf_26 rfl rfl ?_
        refine g_iadd (pc := 27) X dX5_rowOf_27 ?_
        refine gm_aald (pc := 28) (k' := (26 + (2 * k + q))) X 11 (2 * k + q) (.array .int) dX5_rowOf_28 rfl (by decide) (by decide) rfl rfl (idx_row k q) (show 2 * k + q < 16 from by omega) (by decide) (kd_row (2 * k + q) (by omega)).1 ?_
        refine g_goto (pc := 29) (tgt := 36) X dX5_rowOf_29 (by decide) ?_
        exact gm_aret (pc := 36) X hr hk dX5_rowOf_36 (⟨rfl, rfl⟩)

set_option maxRecDepth 100000 in
set_option maxHeartbeats 4000000 in
theorem c_addSpot (l : Launch) (G : xg_G) (O : Heap) (t : xT) (nl k a : Nat) (li : Int32) (hnl : nl ≤ 160) (h4 : t 4 1 = nI nl) (hlet : ∀ i, i < nl → ∃ c, c < 16 ∧ t 5 i = nI c) (hkd : kd k = 10) (hln : ln k = 129) (hk26 : 26 ≤ k) (ha : a < 32) : xm l yX5_addSpot cX5_addSpot 6 none rmX5_addSpot G O t [.ref (O.size + 3), .ref (O.size + k), .int li, .int (nI a)] (xv (fun t' => t' = xadd t k (nl - 31) (fun y => if hb li (t 5 (y + a)) = true then 0 else 1))) := by
  refine xm_enter (by decide) 2 rfl rfl ?_
  intro p e s m args below meth c X hr hk
  refine g_eq (L2 := [some (.ref (O.size + 3)), some (.ref (O.size + k)), some (.int li), some (.int (nI a)), none, none]) rfl rfl rfl ?_
  have loop : ∀ (z9 : Nat) (y : Nat) (xy : Int32) (t1 : xT), nl - 31 - y < z9 → xy = nI y → t1 = xadd t k y (fun y => if hb li (t 5 (y + a)) = true then 0 else 1) → y ≤ nl - 31 → gm p l e rmX5_addSpot s m args below meth c 6 G O (xmQ below G O (xv (fun t' => t' = xadd t k (nl - 31) (fun y => if hb li (t 5 (y + a)) = true then 0 else 1))) args s) (t1) [some (.ref (O.size + 3)), some (.ref (O.size + k)), some (.int (li)), some (.int (nI a)), some (.int (nI (nl - 31))), some (.int (xy))] 12 [] := by
    intro z9
    induction z9 with
    | zero => intro y xy t1 h9; exact absurd h9 (Nat.not_lt_zero _)
    | succ z9 ih =>
      intro y xy t1 h9 hxy ht1 hy
      subst hxy
      subst ht1
      refine g_iload (pc := 12) X dX5_addSpot_12 rfl ?_
      refine g_iload (pc := 14) X dX5_addSpot_14 rfl ?_
      refine g_icmp_ge (pc := 16) (tgt := 58) X dX5_addSpot_16 (by decide) (fun hc_16 => ?_) (fun hc_16 => ?_)
      · exact gm_vret (pc := 58) X hr hk dX5_addSpot_58 (by rw [show y = nl - 31 by have := (nI_leI (a := nl - 31) (b := y) (by omega) (by omega)).mp hc_16; omega])
      · refine g_iload (pc := 19) X dX5_addSpot_19 rfl ?_
        refine g_aload_n (pc := 21) X dX5_addSpot_21 rfl rfl ?_
        refine gm_alen (pc := 22) X dX5_addSpot_22 hkd (by rw [hln]) ?_
        refine g_icmp_ge (pc := 23) (tgt := 58) X dX5_addSpot_23 (by decide) (fun hc_23 => ?_) (fun hc_23 => ?_)
        · exact absurd ((nI_leI (a := 129) (b := y) (by omega) (by omega)).mp hc_23) (by have := n_gt (a := nl - 31) (b := y) hc_16; omega)
        · have hyl : y < nl - 31 := by have := n_gt (a := nl - 31) (b := y) hc_16; omega
          refine g_iload_n (pc := 26) X dX5_addSpot_26 rfl rfl ?_
          refine g_aload_n (pc := 27) X dX5_addSpot_27 rfl rfl ?_
          refine gm_getR (k' := 4) (pc := 28) (j := 0) X 5 dX5_addSpot_28 rfl (by decide) rfl xu_5 (by decide) rfl xw_191 rfl rfl ?_
          refine g_iload (pc := 31) X dX5_addSpot_31 rfl ?_
          refine g_iload_n (pc := 33) X dX5_addSpot_33 rfl rfl ?_
          refine g_iadd (pc := 34) X dX5_addSpot_34 ?_
          rw [nI_add]
          refine gm_Vi (pc := 35) X 7 xc_X5_89 (c_letterAt l G O _ nl (y + a) hnl (by rw [xadd_ne t _ 1 (by omega)]; exact h4) (by omega)) dX5_addSpot_35 rfl (by decide) rfl rfl rfl rfl (Nat.le_of_ble_eq_true rfl) (fun v_35 t_35 hp => ?_)
          obtain ⟨rfl, hq9⟩ := hp
          have hq9 := hq9.symm
          subst hq9
          refine gm_SNi (pc := 38) X xc_X5_93 (c_hasLetter l G O _ li _) dX5_addSpot_38 rfl rfl rfl (Nat.le_of_ble_eq_true rfl) (fun v_38 t_38 hp => ?_)
          obtain ⟨rfl, hq9⟩ := hp
          have hq9 := hq9.symm
          subst hq9
          rw [xadd_ne t _ (y + a) (by omega : (5 : Nat) ≠ k)]
          obtain ⟨cc0, hcc0, ecc0⟩ := hlet (y + a) (by omega)
          refine g_if_ne (pc := 41) (tgt := 52) X dX5_addSpot_41 (by decide) (fun hc_41 => ?_) (fun hc_41 => ?_)
          · refine g_inc (pc := 52) (kv := 1) X dX5_addSpot_52 (by decide) rfl (by decide) ?_
            refine g_goto (pc := 55) (tgt := 12) X dX5_addSpot_55 (by decide) ?_
            exact ih (y + 1) _ _ (by omega) (nI_1 y) (xadd_s0 t k y _ (if_pos (by simpa [hb] using (bi_1 hc_41).2))) (by omega)
          · refine g_aload_n (pc := 44) X dX5_addSpot_44 rfl rfl ?_
            refine g_iload (pc := 45) X dX5_addSpot_45 rfl ?_
            refine g_dup2 (pc := 47) X dX5_addSpot_47 rfl rfl ?_
            refine gm_iald (pc := 48) X (y) dX5_addSpot_48 hkd rfl (by rw [hln]; omega) (by rw [hln]; decide) ?_
            refine g_iconst (pc := 49) (v := 1) X dX5_addSpot_49 (by decide) ?_
            refine g_iadd (pc := 50) X dX5_addSpot_50 ?_
            refine gm_iast (pc := 51) X (y) dX5_addSpot_51 hkd rfl (by rw [hln]; omega) (by rw [hln]; decide) ?_
            refine g_inc (pc := 52) (kv := 1) X dX5_addSpot_52 (by decide) rfl (by decide) ?_
            refine g_goto (pc := 55) (tgt := 12) X dX5_addSpot_55 (by decide) ?_
            exact ih (y + 1) _ _ (by omega) (nI_1 y) (xadd_s1 t k y _ (if_neg (fun q => bi_0 hc_41 ⟨by rw [ecc0]; exact ⟨nI_pos' (by omega), nI_le (a := cc0) (b := 15) (by omega) (by omega)⟩, by simpa [hb] using q⟩))) (by omega)
  refine g_aload_n (pc := 0) X dX5_addSpot_0 rfl rfl ?_
  refine gm_getR (k' := 4) (pc := 1) (j := 0) X 5 dX5_addSpot_1 rfl (by decide) rfl xu_5 (by decide) rfl xw_191 rfl rfl ?_
  refine gm_Vi (pc := 4) X 7 xc_X5_85 (c_places l G O t nl hnl h4) dX5_addSpot_4 rfl (by decide) rfl rfl rfl rfl (Nat.le_of_ble_eq_true rfl) (fun v_4 t_4 hp => ?_)
  obtain ⟨rfl, hq9⟩ := hp
  have hq9 := hq9.symm
  subst hq9
  refine g_istore (pc := 7) X dX5_addSpot_7 (by decide) ?_
  refine g_iconst (pc := 9) (v := 0) X dX5_addSpot_9 (by decide) ?_
  refine g_istore (pc := 10) X dX5_addSpot_10 (by decide) ?_
  exact loop (nl - 31 + 1) 0 _ _ (by omega) nI_0.symm (xadd_0 _ _ _).symm (Nat.zero_le _)

set_option maxRecDepth 100000 in
set_option maxHeartbeats 4000000 in
theorem c_fillRow (l : Launch) (G : xg_G) (O : Heap) (t : xT) (nl k g q : Nat) (hnl : nl ≤ 160) (h4 : t 4 1 = nI nl) (hlet : ∀ i, i < nl → ∃ c, c < 16 ∧ t 5 i = nI c) (hkd : kd k = 10) (hln : ln k = 129) (hk26 : 26 ≤ k) (hg : g < 8) (hq : q < 2) : xm l yX5_fillRow cX5_fillRow 5 none rmX5_fillRow G O t [.ref (O.size + 3), .ref (O.size + k), .ref (O.size + (8 + 2 * g)), .int (nI q)] (xv (fun t' => t' = xrow t k (nl - 31) (t (9 + 2 * g)) (t 5) q 16)) := by
  refine xm_enter (by decide) 1 rfl rfl ?_
  intro p e s m args below meth c X hr hk
  refine g_eq (L2 := [some (.ref (O.size + 3)), some (.ref (O.size + k)), some (.ref (O.size + (8 + 2 * g))), some (.int (nI q)), none]) rfl rfl rfl ?_
  have loop : ∀ (z9 : Nat) (a : Nat) (xa : Int32) (t1 : xT), 16 - a < z9 → xa = nI a → t1 = xrow t k (nl - 31) (t (9 + 2 * g)) (t 5) q a → a ≤ 16 → gm p l e rmX5_fillRow s m args below meth c 5 G O (xmQ below G O (xv (fun t' => t' = xrow t k (nl - 31) (t (9 + 2 * g)) (t 5) q 16)) args s) (t1) [some (.ref (O.size + 3)), some (.ref (O.size + k)), some (.ref (O.size + (8 + 2 * g))), some (.int (nI q)), some (.int (xa))] 8 [] := by
    intro z9
    induction z9 with
    | zero => intro a xa t1 h9; exact absurd h9 (Nat.not_lt_zero _)
    | succ z9 ih =>
      intro a xa t1 h9 hxa ht1 ha
      subst hxa
      subst ht1
      refine g_iload (pc := 8) X dX5_fillRow_8 rfl ?_
      refine g_bipush (pc := 10) (v := 16) X dX5_fillRow_10 (by decide) ?_
      refine g_icmp_ge (pc := 12) (tgt := 51) X dX5_fillRow_12 (by decide) (fun hc_12 => ?_) (fun hc_12 => ?_)
      · exact gm_vret (pc := 51) X hr hk dX5_fillRow_51 (by rw [show a = 16 by have := n_ge (a := 16) (b := a) hc_12; omega])
      · have ha16 : a < 16 := n_gt (a := 16) (b := a) hc_12
        refine g_aload_n (pc := 15) X dX5_fillRow_15 rfl rfl ?_
        refine gm_getR (k' := (9 + 2 * g)) (pc := 16) (j := 3) X 1 dX5_fillRow_16 (kd_half g hg).1 (by decide) rfl xu_1 (by decide) rfl xw_119 rfl (kd_half g hg).2.2.1 ?_
        refine g_iload (pc := 19) X dX5_fillRow_19 rfl ?_
        refine gm_iald (pc := 21) X (a) dX5_fillRow_21 (kd_half g hg).2.2.2.1 rfl (by rw [(kd_half g hg).2.2.2.2]; omega) (by rw [(kd_half g hg).2.2.2.2]; decide) ?_
        refine g_ldc (pc := 22) X dX5_fillRow_22 xw_391 ?_
        refine g_icmp_eq (pc := 24) (tgt := 45) X dX5_fillRow_24 (by decide) (fun hc_24 => ?_) (fun hc_24 => ?_)
        · refine g_inc (pc := 45) (kv := 1) X dX5_fillRow_45 (by decide) rfl (by decide) ?_
          refine g_goto (pc := 48) (tgt := 8) X dX5_fillRow_48 (by decide) ?_
          rw [xrow_ne _ _ _ _ _ _ _ (by omega)] at hc_24
          exact ih (a + 1) _ _ (by omega) (nI_1 a) (xrow_skip _ _ _ _ _ _ _ (fun y hy => by obtain ⟨c1, hc1, e1⟩ := hlet (y + la q a) (by have := la_lt q hq a ha16; omega); rw [hc_24, e1]; exact hb_all c1 hc1)) (by omega)
        · refine g_aload_n (pc := 27) X dX5_fillRow_27 rfl rfl ?_
          refine g_aload_n (pc := 28) X dX5_fillRow_28 rfl rfl ?_
          refine g_aload_n (pc := 29) X dX5_fillRow_29 rfl rfl ?_
          refine gm_getR (k' := (9 + 2 * g)) (pc := 30) (j := 3) X 1 dX5_fillRow_30 (kd_half g hg).1 (by decide) rfl xu_1 (by decide) rfl xw_119 rfl (kd_half g hg).2.2.1 ?_
          refine g_iload (pc := 33) X dX5_fillRow_33 rfl ?_
          refine gm_iald (pc := 35) X (a) dX5_fillRow_35 (kd_half g hg).2.2.2.1 rfl (by rw [(kd_half g hg).2.2.2.2]; omega) (by rw [(kd_half g hg).2.2.2.2]; decide) ?_
          refine g_iload_n (pc := 36) X dX5_fillRow_36 rfl rfl ?_
          refine g_iload (pc := 37) X dX5_fillRow_37 rfl ?_
          refine gm_SNi (pc := 39) X xc_X5_77 (c_lettersAhead l G O _ q a hq ha16) dX5_fillRow_39 rfl rfl rfl (Nat.le_of_ble_eq_true rfl) (fun v_39 t_39 hp => ?_)
          obtain ⟨rfl, hq9⟩ := hp
          have hq9 := hq9.symm
          subst hq9
          refine gm_Vv (pc := 42) X 5 xc_X5_81 (c_addSpot l G O _ nl k (la q a) _ hnl (by rw [xrow_ne _ _ _ _ _ _ _ (by omega)]; exact h4) (fun i hi => by rw [xrow_ne _ _ _ _ _ _ _ (by omega)]; exact hlet i hi) hkd hln hk26 (la_lt q hq a ha16)) dX5_fillRow_42 rfl (by decide) rfl rfl rfl rfl (Nat.le_of_ble_eq_true rfl) (fun t_42 hp => ?_)
          subst hp
          refine g_inc (pc := 45) (kv := 1) X dX5_fillRow_45 (by decide) rfl (by decide) ?_
          refine g_goto (pc := 48) (tgt := 8) X dX5_fillRow_48 (by decide) ?_
          exact ih (a + 1) _ _ (by omega) (nI_1 a) (by rw [xrow_ne1 t _ _ _ _ _ (by omega : 9 + 2 * g ≠ k), xrow_ne1 t _ _ _ _ _ (by omega : 5 ≠ k), xrow_add _ _ _ _ _ _ _ (by omega)]) (by omega)
  refine g_aload_n (pc := 0) X dX5_fillRow_0 rfl rfl ?_
  refine g_iconst (pc := 1) (v := 0) X dX5_fillRow_1 (by decide) ?_
  refine gm_Sv (pc := 2) X xc_X5_65 (c_fill l G O t k 0 hkd (by rw [hln]; decide)) dX5_fillRow_2 rfl rfl rfl (Nat.le_of_ble_eq_true rfl) (fun t_2 hp => ?_)
  subst hp
  refine g_iconst (pc := 5) (v := 0) X dX5_fillRow_5 (by decide) ?_
  refine g_istore (pc := 6) X dX5_fillRow_6 (by decide) ?_
  exact loop 17 0 _ _ (by omega) nI_0.symm (by rw [hln, xrow_0 t k (nl - 31) (t (9 + 2 * g)) (t 5) q]) (by omega)
end
section
/-! 04b: Scale, second part -/
section XE2
variable {z : Prop} {p : Program} {l : Launch} {e : Env} {R : Room} {s : State} {m : MethodId} {args : Array Value} {below : List Frame} {meth : Method} {c : Code} {nL : Nat} {G : xg_G} {O : Heap} {cells slots : Nat} {Q : State → Prop} {n : Nat} {w : Nat → va_E} {L : List (Option Value)} {pc : Nat} {st : List Value}
/-- forget a local -/
theorem g_wk (i : Nat) (kk : gv z p l e R s m args below meth c nL G O cells slots Q n w (L.set i none) pc st) : gv z p l e R s m args below meth c nL G O cells slots Q n w L pc st := by
  intro H ls locs hl hh hz hq
  refine kk H ls locs ⟨hl.1, hl.2.1, by rw [List.length_set]; exact hl.2.2.1, fun j v hj => ?_⟩ hh hz hq
  by_cases hji : j = i
  · subst hji
    rw [List.getElem?_set] at hj
    split at hj
    · split at hj
      · cases hj
      · cases hj
    · exact hl.2.2.2 j v hj
  · rw [List.getElem?_set_ne (Ne.symm hji)] at hj
    exact hl.2.2.2 j v hj
end XE2
theorem gm_st {p : Program} {l : Launch} {e : Env} {R : Room} {s : State} {m : MethodId} {args : Array Value} {below : List Frame} {meth : Method} {c : Code} {nL : Nat} {G : xg_G} {O : Heap} {Q : State → Prop} {t t2 : xT} {L L2 : List (Option Value)} {pc : Nat} {st : List Value} (h : t = t2) (hL : L = L2) (kk : gm p l e R s m args below meth c nL G O Q t2 L2 pc st) : gm p l e R s m args below meth c nL G O Q t L pc st := by
  subst h; subst hL; exact kk
def xw1 (t : xT) (pl k : Nat) : xT := xrow (xrow t (26 + (2 * k + 0)) pl (t (9 + 2 * k)) (t 5) 0 16) (26 + (2 * k + 1)) pl (t (9 + 2 * k)) (t 5) 1 16
def xwa (t : xT) (pl : Nat) : Nat → xT
  | 0 => t
  | n + 1 => xw1 (xwa t pl n) pl n
theorem xw1_ne (t : xT) {pl k x : Nat} (h : x < 26 + 2 * k ∨ 26 + (2 * k + 1) < x) : xw1 t pl k x = t x := by
  unfold xw1
  rw [xrow_ne1 _ _ _ _ _ _ (by omega), xrow_ne1 _ _ _ _ _ _ (by omega)]
theorem xw1_row (t : xT) {pl k q y : Nat} (hq : q < 2) (hpl : pl ≤ 129) (hy : y < pl) : xw1 t pl k (26 + (2 * k + q)) y = nI (qn (t (9 + 2 * k)) (t 5) q y 16) := by
  unfold xw1
  rcases (show q = 0 ∨ q = 1 by omega) with rfl | rfl
  · rw [xrow_ne1 _ _ _ _ _ _ (by omega)]
    simp [xrow, hy, show y < 129 by omega]
  · simp [xrow, hy, show y < 129 by omega]
theorem xwa_ne (t : xT) {pl x : Nat} : ∀ {n : Nat}, (x < 26 ∨ 26 + 2 * n ≤ x) → xwa t pl n x = t x
  | 0, _ => rfl
  | n + 1, h => by
    unfold xwa
    rw [xw1_ne _ (by omega), xwa_ne t (n := n) (by omega)]
theorem xwa_row (t : xT) {pl k q y : Nat} (hq : q < 2) (hpl : pl ≤ 129) (hy : y < pl) : ∀ {n : Nat}, k < n → n ≤ 8 → xwa t pl n (26 + (2 * k + q)) y = nI (qn (t (9 + 2 * k)) (t 5) q y 16)
  | 0, h, _ => absurd h (Nat.not_lt_zero k)
  | n + 1, h, h8 => by
    unfold xwa
    by_cases e : k = n
    · subst e
      rw [xw1_row _ hq hpl hy, xwa_ne t (n := k) (x := 9 + 2 * k) (by omega), xwa_ne t (n := k) (x := 5) (by omega)]
    · rw [xw1_ne _ (by omega), xwa_row t hq hpl hy (n := n) (by omega) (by omega)]
theorem tw_t {u l : Int32} {f : Nat → Int32} {n : Nat} {b : B4} (h : (tw u l f n b).2.2.2 = -1 ∨ f n < (tw u l f n b).2.2.2) : (u, l, nI n, f n) = tw u l f (n + 1) b := by
  conv => rhs; unfold tw
  rw [if_pos h]
theorem tw_f {u l : Int32} {f : Nat → Int32} {n : Nat} {b : B4} (h : ¬ ((tw u l f n b).2.2.2 = -1 ∨ f n < (tw u l f n b).2.2.2)) : tw u l f n b = tw u l f (n + 1) b := by
  conv => rhs; unfold tw
  rw [if_neg h]
theorem rcell_24 (u : Option Nat) (q : Nat) : rcell u q ≠ 24 := by
  cases u with
  | none => show 42 ≠ 24; decide
  | some k => show 26 + (2 * k + q) ≠ 24; omega
abbrev ptC (t : xT) : Nat → Int32 := fun k => t (8 + 2 * k) 0
abbrev sdC (t : xT) : Nat → Int32 := fun k => t (8 + 2 * k) 1
abbrev rlC (t : xT) : Nat → Int32 := fun k => t (8 + 2 * k) 2
abbrev fC (t : xT) : Option Nat → Option Nat → Nat → Int32 := fun u l p => t (rcell u 0) p + t (rcell l 1) p
theorem fC_set (t : xT) (b : B4) : fC (setB t b) = fC t := by
  funext u l p
  show setB t b (rcell u 0) p + setB t b (rcell l 1) p = _
  rw [setB_ne1 t b (rcell_24 u 0), setB_ne1 t b (rcell_24 l 1)]
theorem mayb_set (t : xT) (b : B4) {u : Option Nat} {q : Int32} (hu : ∀ k, u = some k → k < 8) : mayb (ptC (setB t b)) u q = mayb (ptC t) u q := by
  cases u with
  | none => rfl
  | some k =>
    have := hu k rfl
    show decide (ptC (setB t b) k = q ∨ ptC (setB t b) k = 2) = decide (ptC t k = q ∨ ptC t k = 2)
    rw [show ptC (setB t b) k = ptC t k from setB_ne t b 0 (by omega)]
theorem trg_set (t : xT) (b : B4) {pl : Nat} {u v : Option Nat} {c : B4} (hu : ∀ k, u = some k → k < 8) (hv : ∀ k, v = some k → k < 8) : trg (ptC (setB t b)) (fC (setB t b)) pl u v c = trg (ptC t) (fC t) pl u v c := by
  unfold trg
  rw [mayb_set t b hu, mayb_set t b hv, fC_set]
set_option maxRecDepth 100000 in
set_option maxHeartbeats 4000000 in
theorem c_weigh (l : Launch) (G : xg_G) (O : Heap) (t : xT) (nl nh k : Nat) (hnl : nl ≤ 160) (h4 : t 4 1 = nI nl) (hlet : ∀ i, i < nl → ∃ c, c < 16 ∧ t 5 i = nI c) (hnh : nh ≤ 8) (h1 : t 6 1 = nI nh) (hkn : k < nh) : xm l yX5_weigh cX5_weigh 2 none rmX5_weigh G O t [.ref (O.size + 3), .int (nI k)] (xv (fun t' => t' = xw1 t (nl - 31) k)) := by
  refine xm_enter (by decide) 0 rfl rfl ?_
  intro p e s m args below meth c X hr hk
  refine g_eq (L2 := [some (.ref (O.size + 3)), some (.int (nI k))]) rfl rfl rfl ?_
  have hk8 : k < 8 := by omega
  have hu : ∀ j, some k = some j → j < nh := fun j hj => by cases hj; exact hkn
  refine g_aload_n (pc := 0) X dX5_weigh_0 rfl rfl ?_
  refine gm_getR (k' := 6) (pc := 1) (j := 1) X 5 dX5_weigh_1 rfl (by decide) rfl xu_5 (by decide) rfl xw_193 rfl rfl ?_
  refine g_iload_n (pc := 4) X dX5_weigh_4 rfl rfl ?_
  refine gm_Vi (pc := 5) X 2 xc_X5_49 (c_has l G O t nh (nI k) hnh h1) dX5_weigh_5 rfl (by decide) rfl rfl rfl rfl (Nat.le_of_ble_eq_true rfl) (fun v_5 t_5 hp => ?_)
  obtain ⟨rfl, hq9⟩ := hp
  have hq9 := hq9.symm
  subst hq9
  refine g_if_eq (pc := 8) (tgt := 51) X dX5_weigh_8 (by decide) (fun hc_8 => ?_) (fun hc_8 => ?_)
  · exact absurd ⟨nI_pos' (by omega), nI_lt hkn (by omega)⟩ (bi_0 hc_8)
  · refine g_aload_n (pc := 11) X dX5_weigh_11 rfl rfl ?_
    refine g_aload_n (pc := 12) X dX5_weigh_12 rfl rfl ?_
    refine g_iload_n (pc := 13) X dX5_weigh_13 rfl rfl ?_
    refine g_iconst (pc := 14) (v := 0) X dX5_weigh_14 (by decide) ?_
    refine gm_Va (pc := 15) X 5 xc_X5_53 (c_rowOf l G O t nh (some k) 0 hnh h1 hu (by decide)) dX5_weigh_15 rfl (by decide) rfl rfl rfl rfl (Nat.le_of_ble_eq_true rfl) (fun k_15 t_15 hp => ?_)
    obtain ⟨rfl, hq9⟩ := hp
    have hq9 := hq9.symm
    subst hq9
    refine g_aload_n (pc := 18) X dX5_weigh_18 rfl rfl ?_
    refine gm_getR (k' := 6) (pc := 19) (j := 1) X 5 dX5_weigh_19 rfl (by decide) rfl xu_5 (by decide) rfl xw_193 rfl rfl ?_
    refine gm_getR (k' := 7) (pc := 22) (j := 0) X 2 dX5_weigh_22 rfl (by decide) rfl xu_2 (by decide) rfl xw_132 rfl rfl ?_
    refine g_iload_n (pc := 25) X dX5_weigh_25 rfl rfl ?_
    refine gm_aald (pc := 26) (k' := (8 + 2 * k)) X 12 (k) (.object "UnderText$Half") dX5_weigh_26 rfl (by decide) (by decide) rfl rfl rfl (show k < 8 from by omega) (by decide) (kd_half k hk8).2.1 ?_
    refine g_iconst (pc := 27) (v := 0) X dX5_weigh_27 (by decide) ?_
    refine gm_Vv (pc := 28) X 5 xc_X5_61 (c_fillRow l G O t nl (26 + (2 * k + 0)) k 0 hnl h4 hlet (kd_row (2 * k + 0) (by omega)).2.1 (kd_row (2 * k + 0) (by omega)).2.2 (by omega) hk8 (by decide)) dX5_weigh_28 rfl (by decide) rfl rfl rfl rfl (Nat.le_of_ble_eq_true rfl) (fun t_28 hp => ?_)
    subst hp
    refine g_aload_n (pc := 31) X dX5_weigh_31 rfl rfl ?_
    refine g_aload_n (pc := 32) X dX5_weigh_32 rfl rfl ?_
    refine g_iload_n (pc := 33) X dX5_weigh_33 rfl rfl ?_
    refine g_iconst (pc := 34) (v := 1) X dX5_weigh_34 (by decide) ?_
    refine gm_Va (pc := 35) X 5 xc_X5_53 (c_rowOf l G O _ nh (some k) 1 hnh (by rw [xrow_ne _ _ _ _ _ _ _ (by omega)]; exact h1) hu (by decide)) dX5_weigh_35 rfl (by decide) rfl rfl rfl rfl (Nat.le_of_ble_eq_true rfl) (fun k_35 t_35 hp => ?_)
    obtain ⟨rfl, hq9⟩ := hp
    have hq9 := hq9.symm
    subst hq9
    refine g_aload_n (pc := 38) X dX5_weigh_38 rfl rfl ?_
    refine gm_getR (k' := 6) (pc := 39) (j := 1) X 5 dX5_weigh_39 rfl (by decide) rfl xu_5 (by decide) rfl xw_193 rfl rfl ?_
    refine gm_getR (k' := 7) (pc := 42) (j := 0) X 2 dX5_weigh_42 rfl (by decide) rfl xu_2 (by decide) rfl xw_132 rfl rfl ?_
    refine g_iload_n (pc := 45) X dX5_weigh_45 rfl rfl ?_
    refine gm_aald (pc := 46) (k' := (8 + 2 * k)) X 12 (k) (.object "UnderText$Half") dX5_weigh_46 rfl (by decide) (by decide) rfl rfl rfl (show k < 8 from by omega) (by decide) (kd_half k hk8).2.1 ?_
    refine g_iconst (pc := 47) (v := 1) X dX5_weigh_47 (by decide) ?_
    refine gm_Vv (pc := 48) X 5 xc_X5_61 (c_fillRow l G O _ nl (26 + (2 * k + 1)) k 1 hnl (by rw [xrow_ne _ _ _ _ _ _ _ (by omega)]; exact h4) (fun i hi => by rw [xrow_ne _ _ _ _ _ _ _ (by omega)]; exact hlet i hi) (kd_row (2 * k + 1) (by omega)).2.1 (kd_row (2 * k + 1) (by omega)).2.2 (by omega) hk8 (by decide)) dX5_weigh_48 rfl (by decide) rfl rfl rfl rfl (Nat.le_of_ble_eq_true rfl) (fun t_48 hp => ?_)
    subst hp
    exact gm_vret (pc := 51) X hr hk dX5_weigh_51 (by unfold xw1; rw [xrow_ne1 t _ _ _ _ _ (by omega : 9 + 2 * k ≠ _), xrow_ne1 t _ _ _ _ _ (by omega : 5 ≠ _)])

set_option maxRecDepth 100000 in
set_option maxHeartbeats 4000000 in
theorem c_weighAll (l : Launch) (G : xg_G) (O : Heap) (t : xT) (nl nh : Nat) (hnl : nl ≤ 160) (h4 : t 4 1 = nI nl) (hlet : ∀ i, i < nl → ∃ c, c < 16 ∧ t 5 i = nI c) (hnh : nh ≤ 8) (h1 : t 6 1 = nI nh) : xm l yX5_weighAll cX5_weighAll 2 none rmX5_weighAll G O t [.ref (O.size + 3)] (xv (fun t' => t' = xwa t (nl - 31) nh)) := by
  refine xm_enter (by decide) 1 rfl rfl ?_
  intro p e s m args below meth c X hr hk
  refine g_eq (L2 := [some (.ref (O.size + 3)), none]) rfl rfl rfl ?_
  have loop : ∀ (z9 : Nat) (k : Nat) (xk : Int32) (t1 : xT), nh - k < z9 → xk = nI k → t1 = xwa t (nl - 31) k → k ≤ nh → gm p l e rmX5_weighAll s m args below meth c 2 G O (xmQ below G O (xv (fun t' => t' = xwa t (nl - 31) nh)) args s) (t1) [some (.ref (O.size + 3)), some (.int (xk))] 2 [] := by
    intro z9
    induction z9 with
    | zero => intro k xk t1 h9; exact absurd h9 (Nat.not_lt_zero _)
    | succ z9 ih =>
      intro k xk t1 h9 hxk ht1 hkn
      subst hxk
      subst ht1
      have e6 : xwa t (nl - 31) k 6 1 = nI nh := by rw [xwa_ne t (by omega)]; exact h1
      have e4 : xwa t (nl - 31) k 4 1 = nI nl := by rw [xwa_ne t (by omega)]; exact h4
      refine g_iload_n (pc := 2) X dX5_weighAll_2 rfl rfl ?_
      refine g_aload_n (pc := 3) X dX5_weighAll_3 rfl rfl ?_
      refine gm_getR (k' := 6) (pc := 4) (j := 1) X 5 dX5_weighAll_4 rfl (by decide) rfl xu_5 (by decide) rfl xw_193 rfl rfl ?_
      refine gm_getI (pc := 7) (j := 1) X 2 dX5_weighAll_7 rfl (by decide) rfl xu_2 (by decide) rfl xw_136 rfl ?_
      refine g_icmp_ge (pc := 10) (tgt := 24) X dX5_weighAll_10 (by decide) (fun hc_10 => ?_) (fun hc_10 => ?_)
      · exact gm_vret (pc := 24) X hr hk dX5_weighAll_24 (by rw [e6] at hc_10; rw [show k = nh by have := n_ge hc_10; omega])
      · have hlt : k < nh := by rw [e6] at hc_10; exact n_gt hc_10
        refine g_aload_n (pc := 13) X dX5_weighAll_13 rfl rfl ?_
        refine g_iload_n (pc := 14) X dX5_weighAll_14 rfl rfl ?_
        refine gm_Vv (pc := 15) X 5 xc_X5_45 (c_weigh l G O _ nl nh k hnl e4 (fun i hi => by rw [xwa_ne t (by omega)]; exact hlet i hi) hnh e6 hlt) dX5_weighAll_15 rfl (by decide) rfl rfl rfl rfl (Nat.le_of_ble_eq_true rfl) (fun t_15 hp => ?_)
        subst hp
        refine g_inc (pc := 18) (kv := 1) X dX5_weighAll_18 (by decide) rfl (by decide) ?_
        refine g_goto (pc := 21) (tgt := 2) X dX5_weighAll_21 (by decide) ?_
        exact ih (k + 1) _ _ (by omega) (nI_1 k) rfl (by omega)
  refine g_iconst (pc := 0) (v := 0) X dX5_weighAll_0 (by decide) ?_
  refine g_istore_n (pc := 1) X dX5_weighAll_1 rfl (by decide) ?_
  exact loop (nh + 1) 0 _ _ (by omega) nI_0.symm rfl (Nat.zero_le _)

set_option maxRecDepth 100000 in
set_option maxHeartbeats 4000000 in
theorem c_quarrelsAs (l : Launch) (G : xg_G) (O : Heap) (t : xT) (nh k q y : Nat) (hnh : nh ≤ 8) (h1 : t 6 1 = nI nh) (hkn : k < nh) (hq : q < 2) (hy : y < 129) : xm l yX5_quarrelsAs cX5_quarrelsAs 4 (some .int) rmX5_quarrelsAs G O t [.ref (O.size + 3), .int (nI k), .int (nI q), .int (nI y)] (xi (fun v t' => v = t (26 + (2 * k + q)) y ∧ t' = t)) := by
  refine xm_enter (by decide) 0 rfl rfl ?_
  intro p e s m args below meth c X hr hk
  refine g_eq (L2 := [some (.ref (O.size + 3)), some (.int (nI k)), some (.int (nI q)), some (.int (nI y))]) rfl rfl rfl ?_
  have hu : ∀ j, some k = some j → j < nh := fun j hj => by cases hj; exact hkn
  refine g_iload_n (pc := 0) X dX5_quarrelsAs_0 rfl rfl ?_
  refine g_sipush (pc := 1) (v := 128) X dX5_quarrelsAs_1 (by decide) ?_
  refine gm_SNi (pc := 4) X xc_X5_97 (c_isWithin l G O _ (nI y) 128) dX5_quarrelsAs_4 rfl rfl rfl (Nat.le_of_ble_eq_true rfl) (fun v_4 t_4 hp => ?_)
  obtain ⟨rfl, hq9⟩ := hp
  have hq9 := hq9.symm
  subst hq9
  refine g_if_eq (pc := 7) (tgt := 21) X dX5_quarrelsAs_7 (by decide) (fun hc_7 => ?_) (fun hc_7 => ?_)
  · exact absurd ⟨nI_pos' (by omega), nI_le (a := y) (b := 128) (by omega) (by omega)⟩ (bi_0 hc_7)
  · refine g_aload_n (pc := 10) X dX5_quarrelsAs_10 rfl rfl ?_
    refine g_iload_n (pc := 11) X dX5_quarrelsAs_11 rfl rfl ?_
    refine g_iload_n (pc := 12) X dX5_quarrelsAs_12 rfl rfl ?_
    refine gm_Va (pc := 13) X 5 xc_X5_53 (c_rowOf l G O _ nh (some k) q hnh h1 hu hq) dX5_quarrelsAs_13 rfl (by decide) rfl rfl rfl rfl (Nat.le_of_ble_eq_true rfl) (fun k_13 t_13 hp => ?_)
    obtain ⟨rfl, hq9⟩ := hp
    have hq9 := hq9.symm
    subst hq9
    refine g_iload_n (pc := 16) X dX5_quarrelsAs_16 rfl rfl ?_
    refine gm_iald (pc := 17) X (y) dX5_quarrelsAs_17 (kd_row (2 * k + q) (by omega)).2.1 rfl (by rw [(show ln (rcell (some k) q) = 129 from (kd_row (2 * k + q) (by omega)).2.2)]; omega) (by rw [(show ln (rcell (some k) q) = 129 from (kd_row (2 * k + q) (by omega)).2.2)]; decide) ?_
    refine g_goto (pc := 18) (tgt := 22) X dX5_quarrelsAs_18 (by decide) ?_
    exact gm_iret (pc := 22) X hr hk dX5_quarrelsAs_22 (⟨rfl, rfl⟩)

set_option maxRecDepth 100000 in
set_option maxHeartbeats 4000000 in
theorem c_tryWay (l : Launch) (G : xg_G) (O : Heap) (t : xT) (nl nh : Nat) (u v : Option Nat) (hnl : nl ≤ 160) (h4 : t 4 1 = nI nl) (hnh : nh ≤ 8) (h1 : t 6 1 = nI nh) (hu : ∀ k, u = some k → k < nh) (hv : ∀ k, v = some k → k < nh) : xm l yX5_tryWay cX5_tryWay 8 none rmX5_tryWay G O t [.ref (O.size + 3), .int (ov u), .int (ov v)] (xv (fun t' => t' = setB t (trg (ptC t) (fC t) (nl - 31) u v (getB t)))) := by
  refine xm_enter (by decide) 5 rfl rfl ?_
  intro p e s m args below meth c X hr hk
  refine g_eq (L2 := [some (.ref (O.size + 3)), some (.int (ov u)), some (.int (ov v)), none, none, none, none, none]) rfl rfl rfl ?_
  have hu8 : ∀ k, u = some k → k < 8 := fun k h => by have := hu k h; omega
  have hv8 : ∀ k, v = some k → k < 8 := fun k h => by have := hv k h; omega
  refine g_aload_n (pc := 0) X dX5_tryWay_0 rfl rfl ?_
  refine g_iload_n (pc := 1) X dX5_tryWay_1 rfl rfl ?_
  refine g_iconst (pc := 2) (v := 0) X dX5_tryWay_2 (by decide) ?_
  refine gm_Vi (pc := 3) X 5 xc_X5_123 (c_mayLie l G O _ nh u 0 hnh h1 hu) dX5_tryWay_3 rfl (by decide) rfl rfl rfl rfl (Nat.le_of_ble_eq_true rfl) (fun v_3 t_3 hp => ?_)
  obtain ⟨rfl, hq9⟩ := hp
  have hq9 := hq9.symm
  subst hq9
  refine g_if_eq (pc := 6) (tgt := 18) X dX5_tryWay_6 (by decide) (fun hc_6 => ?_) (fun hc_6 => ?_)
  · exact gm_vret (pc := 18) X hr hk dX5_tryWay_18 (by unfold trg; rw [if_neg (by rw [Bool.and_eq_true]; exact fun h => bi_0 hc_6 h.1), setB_get])
  · refine g_aload_n (pc := 9) X dX5_tryWay_9 rfl rfl ?_
    refine g_iload_n (pc := 10) X dX5_tryWay_10 rfl rfl ?_
    refine g_iconst (pc := 11) (v := 1) X dX5_tryWay_11 (by decide) ?_
    refine gm_Vi (pc := 12) X 5 xc_X5_123 (c_mayLie l G O _ nh v 1 hnh h1 hv) dX5_tryWay_12 rfl (by decide) rfl rfl rfl rfl (Nat.le_of_ble_eq_true rfl) (fun v_12 t_12 hp => ?_)
    obtain ⟨rfl, hq9⟩ := hp
    have hq9 := hq9.symm
    subst hq9
    refine g_if_ne (pc := 15) (tgt := 19) X dX5_tryWay_15 (by decide) (fun hc_15 => ?_) (fun hc_15 => ?_)
    · have hok : (mayb (ptC t) u 0 && mayb (ptC t) v 1) = true := by rw [Bool.and_eq_true]; exact ⟨bi_1 hc_6, bi_1 hc_15⟩
      have ew : trg (ptC t) (fC t) (nl - 31) u v (getB t) = tw (ov u) (ov v) (fC t u v) (nl - 31) (getB t) := if_pos hok
      have loop : ∀ (z9 : Nat) (y : Nat) (xy : Int32) (t1 : xT), nl - 31 - y < z9 → xy = nI y → t1 = setB t (tw (ov u) (ov v) (fC t u v) y (getB t)) → y ≤ nl - 31 → gm p l e rmX5_tryWay s m args below meth c 8 G O (xmQ below G O (xv (fun t' => t' = setB t (trg (ptC t) (fC t) (nl - 31) u v (getB t)))) args s) (t1) [some (.ref (O.size + 3)), some (.int (ov u)), some (.int (ov v)), some (.ref (O.size + (rcell u 0))), some (.ref (O.size + (rcell v 1))), some (.int (nI (nl - 31))), some (.int (xy)), none] 46 [] := by
        intro z9
        induction z9 with
        | zero => intro y xy t1 h9; exact absurd h9 (Nat.not_lt_zero _)
        | succ z9 ih =>
          intro y xy t1 h9 hxy ht1 hy
          subst hxy
          subst ht1
          refine g_iload (pc := 46) X dX5_tryWay_46 rfl ?_
          refine g_iload (pc := 48) X dX5_tryWay_48 rfl ?_
          refine g_icmp_ge (pc := 50) (tgt := 115) X dX5_tryWay_50 (by decide) (fun hc_50 => ?_) (fun hc_50 => ?_)
          · exact gm_vret (pc := 115) X hr hk dX5_tryWay_115 (by rw [ew, show y = nl - 31 by have := n_ge hc_50; omega])
          · refine g_iload (pc := 53) X dX5_tryWay_53 rfl ?_
            refine g_sipush (pc := 55) (v := 129) X dX5_tryWay_55 (by decide) ?_
            refine g_icmp_ge (pc := 58) (tgt := 115) X dX5_tryWay_58 (by decide) (fun hc_58 => ?_) (fun hc_58 => ?_)
            · exact absurd (n_ge (a := 129) (b := y) hc_58) (by have := n_gt hc_50; omega)
            · have hyl : y < nl - 31 := n_gt hc_50
              refine g_aload_n (pc := 61) X dX5_tryWay_61 rfl rfl ?_
              refine g_iload (pc := 62) X dX5_tryWay_62 rfl ?_
              refine gm_iald (pc := 64) X (y) dX5_tryWay_64 (rcell_ok (q := 0) hu8 (by decide)).1 rfl (by rw [(rcell_ok (q := 0) hu8 (by decide)).2.1]; omega) (by rw [(rcell_ok (q := 0) hu8 (by decide)).2.1]; decide) ?_
              refine g_aload (pc := 65) X dX5_tryWay_65 rfl ?_
              refine g_iload (pc := 67) X dX5_tryWay_67 rfl ?_
              refine gm_iald (pc := 69) X (y) dX5_tryWay_69 (rcell_ok (q := 1) hv8 (by decide)).1 rfl (by rw [(rcell_ok (q := 1) hv8 (by decide)).2.1]; omega) (by rw [(rcell_ok (q := 1) hv8 (by decide)).2.1]; decide) ?_
              refine g_iadd (pc := 70) X dX5_tryWay_70 ?_
              rw [setB_ne t _ y (rcell_24 u 0), setB_ne t _ y (rcell_24 v 1)]
              refine g_istore (pc := 71) X dX5_tryWay_71 (by decide) ?_
              refine g_aload_n (pc := 73) X dX5_tryWay_73 rfl rfl ?_
              refine gm_getR (k' := 24) (pc := 74) (j := 2) X 5 dX5_tryWay_74 rfl (by decide) rfl xu_5 (by decide) rfl xw_195 rfl rfl ?_
              refine gm_getI (pc := 77) (j := 3) X 3 dX5_tryWay_77 rfl (by decide) rfl xu_3 (by decide) rfl xw_162 rfl ?_
              refine g_iconst (pc := 80) (v := (-1)) X dX5_tryWay_80 (by decide) ?_
              refine g_icmp_eq (pc := 81) (tgt := 96) X dX5_tryWay_81 (by decide) (fun hc_81 => ?_) (fun hc_81 => ?_)
              · refine g_aload_n (pc := 96) X dX5_tryWay_96 rfl rfl ?_
                refine gm_getR (k' := 24) (pc := 97) (j := 2) X 5 dX5_tryWay_97 rfl (by decide) rfl xu_5 (by decide) rfl xw_195 rfl rfl ?_
                refine g_iload_n (pc := 100) X dX5_tryWay_100 rfl rfl ?_
                refine g_iload_n (pc := 101) X dX5_tryWay_101 rfl rfl ?_
                refine g_iload (pc := 102) X dX5_tryWay_102 rfl ?_
                refine g_iload (pc := 104) X dX5_tryWay_104 rfl ?_
                refine gm_Vv (pc := 106) X 3 xc_X5_100 (c_lie l G O _ 24 _ _ _ _ rfl) dX5_tryWay_106 rfl (by decide) rfl rfl rfl rfl (Nat.le_of_ble_eq_true rfl) (fun t_106 hp => ?_)
                subst hp
                refine g_inc (pc := 109) (kv := 1) X dX5_tryWay_109 (by decide) rfl (by decide) ?_
                refine g_goto (pc := 112) (tgt := 46) X dX5_tryWay_112 (by decide) ?_
                refine g_wk 7 ?_
                exact ih (y + 1) _ _ (by omega) (nI_1 y) (by rw [← tw_t (Or.inl (by rw [setB_q] at hc_81; exact hc_81))]; exact setB_set t _ (ov u, ov v, nI y, fC t u v y)) (by omega)
              · refine g_iload (pc := 84) X dX5_tryWay_84 rfl ?_
                refine g_aload_n (pc := 86) X dX5_tryWay_86 rfl rfl ?_
                refine gm_getR (k' := 24) (pc := 87) (j := 2) X 5 dX5_tryWay_87 rfl (by decide) rfl xu_5 (by decide) rfl xw_195 rfl rfl ?_
                refine gm_getI (pc := 90) (j := 3) X 3 dX5_tryWay_90 rfl (by decide) rfl xu_3 (by decide) rfl xw_162 rfl ?_
                refine g_icmp_ge (pc := 93) (tgt := 109) X dX5_tryWay_93 (by decide) (fun hc_93 => ?_) (fun hc_93 => ?_)
                · refine g_inc (pc := 109) (kv := 1) X dX5_tryWay_109 (by decide) rfl (by decide) ?_
                  refine g_goto (pc := 112) (tgt := 46) X dX5_tryWay_112 (by decide) ?_
                  refine g_wk 7 ?_
                  exact ih (y + 1) _ _ (by omega) (nI_1 y) (by rw [setB_q] at hc_81 hc_93; rw [← tw_f (by rintro (q | q); exact hc_81 q; exact k2_nlt hc_93 q)]) (by omega)
                · refine g_aload_n (pc := 96) X dX5_tryWay_96 rfl rfl ?_
                  refine gm_getR (k' := 24) (pc := 97) (j := 2) X 5 dX5_tryWay_97 rfl (by decide) rfl xu_5 (by decide) rfl xw_195 rfl rfl ?_
                  refine g_iload_n (pc := 100) X dX5_tryWay_100 rfl rfl ?_
                  refine g_iload_n (pc := 101) X dX5_tryWay_101 rfl rfl ?_
                  refine g_iload (pc := 102) X dX5_tryWay_102 rfl ?_
                  refine g_iload (pc := 104) X dX5_tryWay_104 rfl ?_
                  refine gm_Vv (pc := 106) X 3 xc_X5_100 (c_lie l G O _ 24 _ _ _ _ rfl) dX5_tryWay_106 rfl (by decide) rfl rfl rfl rfl (Nat.le_of_ble_eq_true rfl) (fun t_106 hp => ?_)
                  subst hp
                  refine g_inc (pc := 109) (kv := 1) X dX5_tryWay_109 (by decide) rfl (by decide) ?_
                  refine g_goto (pc := 112) (tgt := 46) X dX5_tryWay_112 (by decide) ?_
                  refine g_wk 7 ?_
                  exact ih (y + 1) _ _ (by omega) (nI_1 y) (by rw [setB_q] at hc_93; rw [← tw_t (Or.inr (k2_lt hc_93))]; exact setB_set t _ (ov u, ov v, nI y, fC t u v y)) (by omega)
      refine g_aload_n (pc := 19) X dX5_tryWay_19 rfl rfl ?_
      refine g_iload_n (pc := 20) X dX5_tryWay_20 rfl rfl ?_
      refine g_iconst (pc := 21) (v := 0) X dX5_tryWay_21 (by decide) ?_
      refine gm_Va (pc := 22) X 5 xc_X5_53 (c_rowOf l G O _ nh u 0 hnh h1 hu (by decide)) dX5_tryWay_22 rfl (by decide) rfl rfl rfl rfl (Nat.le_of_ble_eq_true rfl) (fun k_22 t_22 hp => ?_)
      obtain ⟨rfl, hq9⟩ := hp
      have hq9 := hq9.symm
      subst hq9
      refine g_astore_n (pc := 25) X dX5_tryWay_25 rfl (by decide) ?_
      refine g_aload_n (pc := 26) X dX5_tryWay_26 rfl rfl ?_
      refine g_iload_n (pc := 27) X dX5_tryWay_27 rfl rfl ?_
      refine g_iconst (pc := 28) (v := 1) X dX5_tryWay_28 (by decide) ?_
      refine gm_Va (pc := 29) X 5 xc_X5_53 (c_rowOf l G O _ nh v 1 hnh h1 hv (by decide)) dX5_tryWay_29 rfl (by decide) rfl rfl rfl rfl (Nat.le_of_ble_eq_true rfl) (fun k_29 t_29 hp => ?_)
      obtain ⟨rfl, hq9⟩ := hp
      have hq9 := hq9.symm
      subst hq9
      refine g_astore (pc := 32) X dX5_tryWay_32 (by decide) ?_
      refine g_aload_n (pc := 34) X dX5_tryWay_34 rfl rfl ?_
      refine gm_getR (k' := 4) (pc := 35) (j := 0) X 5 dX5_tryWay_35 rfl (by decide) rfl xu_5 (by decide) rfl xw_191 rfl rfl ?_
      refine gm_Vi (pc := 38) X 7 xc_X5_85 (c_places l G O _ nl hnl h4) dX5_tryWay_38 rfl (by decide) rfl rfl rfl rfl (Nat.le_of_ble_eq_true rfl) (fun v_38 t_38 hp => ?_)
      obtain ⟨rfl, hq9⟩ := hp
      have hq9 := hq9.symm
      subst hq9
      refine g_istore (pc := 41) X dX5_tryWay_41 (by decide) ?_
      refine g_iconst (pc := 43) (v := 0) X dX5_tryWay_43 (by decide) ?_
      refine g_istore (pc := 44) X dX5_tryWay_44 (by decide) ?_
      exact loop (nl - 31 + 1) 0 _ _ (by omega) nI_0.symm (setB_get t).symm (Nat.zero_le _)
    · exact gm_vret (pc := 18) X hr hk dX5_tryWay_18 (by unfold trg; rw [if_neg (by rw [Bool.and_eq_true]; exact fun h => bi_0 hc_15 h.2), setB_get])

set_option maxRecDepth 100000 in
set_option maxHeartbeats 4000000 in
theorem c_seekBest (l : Launch) (G : xg_G) (O : Heap) (t : xT) (nl nh a b : Nat) (hnl : nl ≤ 160) (h4 : t 4 1 = nI nl) (hnh : nh ≤ 8) (h1 : t 6 1 = nI nh) (ha : a < nh) (hb : b < nh) : xm l yX5_seekBest cX5_seekBest 5 (some .boolean) rmX5_seekBest G O t [.ref (O.size + 3), .int (nI a), .int (nI b)] (xi (fun v t' => v = bi (¬ (bsg (ptC t) (sdC t) (rlC t) (fC t) (nl - 31) (min a b) (max a b) (-1, -1, -1, -1)).2.2.2 = -1) ∧ t' = setB t (bsg (ptC t) (sdC t) (rlC t) (fC t) (nl - 31) (min a b) (max a b) (-1, -1, -1, -1)))) := by
  refine xm_enter (by decide) 2 rfl rfl ?_
  intro p e s m args below meth c X hr hk
  refine g_eq (L2 := [some (.ref (O.size + 3)), some (.int (nI a)), some (.int (nI b)), none, none]) rfl rfl rfl ?_
  have hx : min a b < nh := by omega
  have hy : max a b < nh := by omega
  generalize hxe : min a b = x at *
  generalize hye : max a b = y at *
  have hx8 : x < 8 := by omega
  have hy8 : y < 8 := by omega
  have hsx : ∀ k, some x = some k → k < nh := fun k h => by cases h; exact hx
  have hsy : ∀ k, some y = some k → k < nh := fun k h => by cases h; exact hy
  have hnn : ∀ k, (none : Option Nat) = some k → k < nh := fun k h => by cases h
  have hsx8 : ∀ k, some x = some k → k < 8 := fun k h => by cases h; exact hx8
  have hsy8 : ∀ k, some y = some k → k < 8 := fun k h => by cases h; exact hy8
  have hnn8 : ∀ k, (none : Option Nat) = some k → k < 8 := fun k h => by cases h
  have e6 : ∀ b : B4, setB t b 6 1 = nI nh := fun b => by rw [setB_ne t b 1 (by decide)]; exact h1
  have e4 : ∀ b : B4, setB t b 4 1 = nI nl := fun b => by rw [setB_ne t b 1 (by decide)]; exact h4
  have fin : ∀ B : B4, bsg (ptC t) (sdC t) (rlC t) (fC t) (nl - 31) x y (-1, -1, -1, -1) = B → gm p l e rmX5_seekBest s m args below meth c 5 G O (xmQ below G O (xi (fun v t' => v = bi (¬ (bsg (ptC t) (sdC t) (rlC t) (fC t) (nl - 31) x y (-1, -1, -1, -1)).2.2.2 = -1) ∧ t' = setB t (bsg (ptC t) (sdC t) (rlC t) (fC t) (nl - 31) x y (-1, -1, -1, -1)))) args s) (setB t B) [some (.ref (O.size + 3)), some (.int (nI a)), some (.int (nI b)), some (.int (nI x)), some (.int (nI y))] 109 [] := by
    intro B hB
    refine g_aload_n (pc := 109) X dX5_seekBest_109 rfl rfl ?_
    refine gm_getR (k' := 24) (pc := 110) (j := 2) X 5 dX5_seekBest_110 rfl (by decide) rfl xu_5 (by decide) rfl xw_195 rfl rfl ?_
    refine gm_getI (pc := 113) (j := 3) X 3 dX5_seekBest_113 rfl (by decide) rfl xu_3 (by decide) rfl xw_162 rfl ?_
    refine g_iconst (pc := 116) (v := (-1)) X dX5_seekBest_116 (by decide) ?_
    refine g_icmp_eq (pc := 117) (tgt := 124) X dX5_seekBest_117 (by decide) (fun hc_117 => ?_) (fun hc_117 => ?_)
    · refine g_iconst (pc := 124) (v := 0) X dX5_seekBest_124 (by decide) ?_
      exact gm_zret (pc := 125) X hr hk dX5_seekBest_125 (by first | exact Or.inl rfl | exact Or.inr rfl) (⟨by rw [hB, bi_f]; rw [setB_q] at hc_117; exact fun q => q hc_117, by rw [hB]⟩)
    · refine g_iconst (pc := 120) (v := 1) X dX5_seekBest_120 (by decide) ?_
      refine g_goto (pc := 121) (tgt := 125) X dX5_seekBest_121 (by decide) ?_
      exact gm_zret (pc := 125) X hr hk dX5_seekBest_125 (by first | exact Or.inl rfl | exact Or.inr rfl) (⟨by rw [hB, bi_t]; rw [setB_q] at hc_117; exact hc_117, by rw [hB]⟩)
  refine g_aload_n (pc := 0) X dX5_seekBest_0 rfl rfl ?_
  refine gm_getR (k' := 24) (pc := 1) (j := 2) X 5 dX5_seekBest_1 rfl (by decide) rfl xu_5 (by decide) rfl xw_195 rfl rfl ?_
  refine g_iconst (pc := 4) (v := (-1)) X dX5_seekBest_4 (by decide) ?_
  refine g_iconst (pc := 5) (v := (-1)) X dX5_seekBest_5 (by decide) ?_
  refine g_iconst (pc := 6) (v := (-1)) X dX5_seekBest_6 (by decide) ?_
  refine g_iconst (pc := 7) (v := (-1)) X dX5_seekBest_7 (by decide) ?_
  refine gm_Vv (pc := 8) X 3 xc_X5_100 (c_lie l G O _ 24 _ _ _ _ rfl) dX5_seekBest_8 rfl (by decide) rfl rfl rfl rfl (Nat.le_of_ble_eq_true rfl) (fun t_8 hp => ?_)
  refine gm_st (t2 := setB t (-1, -1, -1, -1)) hp rfl ?_
  clear hp
  refine g_iload_n (pc := 11) X dX5_seekBest_11 rfl rfl ?_
  refine g_iload_n (pc := 12) X dX5_seekBest_12 rfl rfl ?_
  refine g_min (pc := 13) X dX5_seekBest_13 xw_423 xw_424 xw_44 xw_425 (by decide) (Nat.le_of_ble_eq_true rfl) (Nat.zero_le _) (Nat.zero_le _) ?_
  rw [min_nI (by omega) (by omega), hxe]
  refine g_istore_n (pc := 16) X dX5_seekBest_16 rfl (by decide) ?_
  refine g_iload_n (pc := 17) X dX5_seekBest_17 rfl rfl ?_
  refine g_iload_n (pc := 18) X dX5_seekBest_18 rfl rfl ?_
  refine g_max (pc := 19) X dX5_seekBest_19 xw_426 xw_374 xw_44 xw_375 (by decide) (Nat.le_of_ble_eq_true rfl) (Nat.zero_le _) (Nat.zero_le _) ?_
  rw [max_nI (by omega) (by omega), hye]
  refine g_istore (pc := 22) X dX5_seekBest_22 (by decide) ?_
  refine g_aload_n (pc := 24) X dX5_seekBest_24 rfl rfl ?_
  refine gm_getR (k' := 6) (pc := 25) (j := 1) X 5 dX5_seekBest_25 rfl (by decide) rfl xu_5 (by decide) rfl xw_193 rfl rfl ?_
  refine g_iload_n (pc := 28) X dX5_seekBest_28 rfl rfl ?_
  refine gm_Vi (pc := 29) X 2 xc_X5_49 (c_has l G O _ nh (nI x) hnh (e6 _)) dX5_seekBest_29 rfl (by decide) rfl rfl rfl rfl (Nat.le_of_ble_eq_true rfl) (fun v_29 t_29 hp => ?_)
  obtain ⟨rfl, hq9⟩ := hp
  have hq9 := hq9.symm
  subst hq9
  refine g_if_eq (pc := 32) (tgt := 47) X dX5_seekBest_32 (by decide) (fun hc_32 => ?_) (fun hc_32 => ?_)
  · exact absurd ⟨nI_pos' (by omega), nI_lt hx (by omega)⟩ (bi_0 hc_32)
  · refine g_aload_n (pc := 35) X dX5_seekBest_35 rfl rfl ?_
    refine gm_getR (k' := 6) (pc := 36) (j := 1) X 5 dX5_seekBest_36 rfl (by decide) rfl xu_5 (by decide) rfl xw_193 rfl rfl ?_
    refine g_iload (pc := 39) X dX5_seekBest_39 rfl ?_
    refine gm_Vi (pc := 41) X 2 xc_X5_49 (c_has l G O _ nh (nI y) hnh (e6 _)) dX5_seekBest_41 rfl (by decide) rfl rfl rfl rfl (Nat.le_of_ble_eq_true rfl) (fun v_41 t_41 hp => ?_)
    obtain ⟨rfl, hq9⟩ := hp
    have hq9 := hq9.symm
    subst hq9
    refine g_if_ne (pc := 44) (tgt := 49) X dX5_seekBest_44 (by decide) (fun hc_44 => ?_) (fun hc_44 => ?_)
    · refine g_iload_n (pc := 49) X dX5_seekBest_49 rfl rfl ?_
      refine g_iload (pc := 50) X dX5_seekBest_50 rfl ?_
      refine g_icmp_ne (pc := 52) (tgt := 70) X dX5_seekBest_52 (by decide) (fun hc_52 => ?_) (fun hc_52 => ?_)
      · refine g_aload_n (pc := 70) X dX5_seekBest_70 rfl rfl ?_
        refine gm_getR (k' := 6) (pc := 71) (j := 1) X 5 dX5_seekBest_71 rfl (by decide) rfl xu_5 (by decide) rfl xw_193 rfl rfl ?_
        refine gm_getR (k' := 7) (pc := 74) (j := 0) X 2 dX5_seekBest_74 rfl (by decide) rfl xu_2 (by decide) rfl xw_132 rfl rfl ?_
        refine g_iload_n (pc := 77) X dX5_seekBest_77 rfl rfl ?_
        refine gm_aald (pc := 78) (k' := (8 + 2 * x)) X 12 (x) (.object "UnderText$Half") dX5_seekBest_78 rfl (by decide) (by decide) rfl rfl rfl (show x < 8 from by omega) (by decide) (kd_half x hx8).2.1 ?_
        refine g_aload_n (pc := 79) X dX5_seekBest_79 rfl rfl ?_
        refine gm_getR (k' := 6) (pc := 80) (j := 1) X 5 dX5_seekBest_80 rfl (by decide) rfl xu_5 (by decide) rfl xw_193 rfl rfl ?_
        refine gm_getR (k' := 7) (pc := 83) (j := 0) X 2 dX5_seekBest_83 rfl (by decide) rfl xu_2 (by decide) rfl xw_132 rfl rfl ?_
        refine g_iload (pc := 86) X dX5_seekBest_86 rfl ?_
        refine gm_aald (pc := 88) (k' := (8 + 2 * y)) X 12 (y) (.object "UnderText$Half") dX5_seekBest_88 rfl (by decide) (by decide) rfl rfl rfl (show y < 8 from by omega) (by decide) (kd_half y hy8).2.1 ?_
        refine gm_Vi (pc := 89) X 1 xc_X5_116 (c_isLike l G O _ x y hx8 hy8) dX5_seekBest_89 (kd_half x hx8).1 (by decide) rfl rfl rfl rfl (Nat.le_of_ble_eq_true rfl) (fun v_89 t_89 hp => ?_)
        obtain ⟨rfl, hq9⟩ := hp
        have hq9 := hq9.symm
        subst hq9
        refine g_if_eq (pc := 92) (tgt := 109) X dX5_seekBest_92 (by decide) (fun hc_92 => ?_) (fun hc_92 => ?_)
        · exact fin _ (by unfold bsg; rw [if_neg (fun q => hc_52 (by rw [q])), if_neg (fun q => bi_0 hc_92 ⟨by rw [setB_ne _ _ _ (by omega), setB_ne _ _ _ (by omega)]; exact q.1, by rw [setB_ne _ _ _ (by omega), setB_ne _ _ _ (by omega)]; exact q.2⟩)])
        · refine g_aload_n (pc := 95) X dX5_seekBest_95 rfl rfl ?_
          refine g_iload_n (pc := 96) X dX5_seekBest_96 rfl rfl ?_
          refine g_iload (pc := 97) X dX5_seekBest_97 rfl ?_
          refine gm_Vv (pc := 99) X 5 xc_X5_112 (c_tryWay l G O _ nl nh (some x) (some y) hnl (e4 _) hnh (e6 _) hsx hsy) dX5_seekBest_99 rfl (by decide) rfl rfl rfl rfl (Nat.le_of_ble_eq_true rfl) (fun t_99 hp => ?_)
          refine gm_st (t2 := setB t (trg (ptC t) (fC t) (nl - 31) (some x) (some y) ((-1, -1, -1, -1)))) (by rw [hp, trg_set t _ hsx8 hsy8, getB_set, setB_set]) rfl ?_
          clear hp
          refine g_aload_n (pc := 102) X dX5_seekBest_102 rfl rfl ?_
          refine g_iload (pc := 103) X dX5_seekBest_103 rfl ?_
          refine g_iload_n (pc := 105) X dX5_seekBest_105 rfl rfl ?_
          refine gm_Vv (pc := 106) X 5 xc_X5_112 (c_tryWay l G O _ nl nh (some y) (some x) hnl (e4 _) hnh (e6 _) hsy hsx) dX5_seekBest_106 rfl (by decide) rfl rfl rfl rfl (Nat.le_of_ble_eq_true rfl) (fun t_106 hp => ?_)
          refine gm_st (t2 := setB t (trg (ptC t) (fC t) (nl - 31) (some y) (some x) (trg (ptC t) (fC t) (nl - 31) (some x) (some y) (-1, -1, -1, -1)))) (by rw [hp, trg_set t _ hsy8 hsx8, getB_set, setB_set]) rfl ?_
          clear hp
          exact fin _ (by unfold bsg; rw [if_neg (fun q => hc_52 (by rw [q])), if_pos ⟨by have := (bi_1 hc_92).1; rw [setB_ne _ _ _ (by omega), setB_ne _ _ _ (by omega)] at this; exact this, by have := (bi_1 hc_92).2; rw [setB_ne _ _ _ (by omega), setB_ne _ _ _ (by omega)] at this; exact this⟩])
      · refine g_aload_n (pc := 55) X dX5_seekBest_55 rfl rfl ?_
        refine g_iload_n (pc := 56) X dX5_seekBest_56 rfl rfl ?_
        refine g_iconst (pc := 57) (v := (-1)) X dX5_seekBest_57 (by decide) ?_
        refine gm_Vv (pc := 58) X 5 xc_X5_112 (c_tryWay l G O _ nl nh (some x) none hnl (e4 _) hnh (e6 _) hsx hnn) dX5_seekBest_58 rfl (by decide) rfl rfl rfl rfl (Nat.le_of_ble_eq_true rfl) (fun t_58 hp => ?_)
        refine gm_st (t2 := setB t (trg (ptC t) (fC t) (nl - 31) (some x) none ((-1, -1, -1, -1)))) (by rw [hp, trg_set t _ hsx8 hnn8, getB_set, setB_set]) rfl ?_
        clear hp
        refine g_aload_n (pc := 61) X dX5_seekBest_61 rfl rfl ?_
        refine g_iconst (pc := 62) (v := (-1)) X dX5_seekBest_62 (by decide) ?_
        refine g_iload_n (pc := 63) X dX5_seekBest_63 rfl rfl ?_
        refine gm_Vv (pc := 64) X 5 xc_X5_112 (c_tryWay l G O _ nl nh none (some x) hnl (e4 _) hnh (e6 _) hnn hsx) dX5_seekBest_64 rfl (by decide) rfl rfl rfl rfl (Nat.le_of_ble_eq_true rfl) (fun t_64 hp => ?_)
        refine gm_st (t2 := setB t (trg (ptC t) (fC t) (nl - 31) none (some x) (trg (ptC t) (fC t) (nl - 31) (some x) none (-1, -1, -1, -1)))) (by rw [hp, trg_set t _ hnn8 hsx8, getB_set, setB_set]) rfl ?_
        clear hp
        refine g_goto (pc := 67) (tgt := 109) X dX5_seekBest_67 (by decide) ?_
        exact fin _ (by unfold bsg; rw [if_pos ((nI_eq (by omega) (by omega)).mp hc_52)])
    · exact absurd ⟨nI_pos' (by omega), nI_lt hy (by omega)⟩ (bi_0 hc_44)
end
section
/-! 04c: Scale, third part -/
def cn (f : Nat → Int32) (q : Int32) : Nat → Nat
  | 0 => 0
  | n + 1 => cn f q n + (if f n ≤ q then 1 else 0)
theorem cn_le (f : Nat → Int32) (q : Int32) : ∀ n, cn f q n ≤ n
  | 0 => Nat.le_refl 0
  | n + 1 => by
    have := cn_le f q n
    unfold cn
    split <;> omega
theorem cn_cong {f g : Nat → Int32} {q : Int32} : ∀ {n : Nat}, (∀ p, p < n → f p = g p) → cn f q n = cn g q n
  | 0, _ => rfl
  | n + 1, h => by
    unfold cn
    rw [cn_cong (n := n) (fun p hp => h p (by omega)), h n (by omega)]
theorem cn_t {f : Nat → Int32} {q : Int32} {n : Nat} {x : Int32} (h : f n ≤ q) (hx : x = nI (cn f q n)) : x + 1 = nI (cn f q (n + 1)) := by
  rw [hx, cn.eq_2, if_pos h]; exact nI_1 _
theorem cn_f {f : Nat → Int32} {q : Int32} {n : Nat} {x : Int32} (h : ¬ f n ≤ q) (hx : x = nI (cn f q n)) : x + 0 = nI (cn f q (n + 1)) := by
  rw [hx, cn.eq_2, if_neg h]; exact Int32.add_zero _
def setL (t : xT) (k : Nat) (b : B4) : xT := xt (xt (xt (xt t k 0 b.1) k 1 b.2.1) k 2 b.2.2.1) k 3 b.2.2.2
theorem setL_ne (t : xT) {k : Nat} (b : B4) {x : Nat} (y : Nat) (h : x ≠ k) : setL t k b x y = t x y := by simp [setL, xt, h]
theorem xt_nk (t : xT) {k : Nat} (j : Nat) (v : Int32) {x : Nat} (y : Nat) (h : x ≠ k) : xt t k j v x y = t x y := xt_ne t v (Or.inl h)
/-- the greater of the halves that are there -/
def mx : Option Nat → Option Nat → Nat
  | none, none => 0
  | some a, none => a
  | none, some b => b
  | some a, some b => max a b
theorem ov_max {u v : Option Nat} (hu : ∀ k, u = some k → k < 8) (hv : ∀ k, v = some k → k < 8) (h : u ≠ none ∨ v ≠ none) : (if ov u < ov v then ov v else ov u) = nI (mx u v) ∧ (u = some (mx u v) ∨ v = some (mx u v)) := by
  have e : ∀ a, a < 8 → ¬ nI a < -1 := by decide
  have e2 : ∀ a, a < 8 → (-1 : Int32) < nI a := by decide
  cases u with
  | none =>
    cases v with
    | none => rcases h with h | h <;> exact absurd rfl h
    | some b => exact ⟨if_pos (e2 b (hv b rfl)), Or.inr rfl⟩
  | some a =>
    cases v with
    | none => exact ⟨if_neg (e a (hu a rfl)), Or.inl rfl⟩
    | some b =>
      have h1 := hu a rfl
      have h2 := hv b rfl
      refine ⟨max_nI (by omega) (by omega), ?_⟩
      rcases Nat.le_total a b with q | q
      · exact Or.inr (by rw [mx, Nat.max_eq_right q])
      · exact Or.inl (by rw [mx, Nat.max_eq_left q])
set_option maxRecDepth 100000 in
set_option maxHeartbeats 4000000 in
theorem c_placesUpTo (l : Launch) (G : xg_G) (O : Heap) (t : xT) (nh pl k : Nat) (u v : Option Nat) (hnh : nh ≤ 8) (h1 : t 6 1 = nI nh) (hu : ∀ k, u = some k → k < nh) (hv : ∀ k, v = some k → k < nh) (hkd : kd k = 3) (hk68 : 68 ≤ k) (e0 : t k 0 = ov u) (e1 : t k 1 = ov v) (e5 : t k 5 = nI pl) (hpl : pl ≤ 129) : xm l yX5_placesUpTo cX5_placesUpTo 6 (some .int) rmX5_placesUpTo G O t [.ref (O.size + 3), .ref (O.size + k)] (xi (fun r t' => r = nI (cn (fC t u v) (t k 3) pl) ∧ t' = t)) := by
  refine xm_enter (by decide) 4 rfl rfl ?_
  intro p e s m args below meth c X hr hk
  refine g_eq (L2 := [some (.ref (O.size + 3)), some (.ref (O.size + k)), none, none, none, none]) rfl rfl rfl ?_
  have hu8 : ∀ k, u = some k → k < 8 := fun k h => by have := hu k h; omega
  have hv8 : ∀ k, v = some k → k < 8 := fun k h => by have := hv k h; omega
  have loop : ∀ (z9 : Nat) (y : Nat) (xy : Int32) (xs : Int32), pl - y < z9 → xy = nI y → xs = nI (cn (fC t u v) (t k 3) y) → y ≤ pl → gm p l e rmX5_placesUpTo s m args below meth c 6 G O (xmQ below G O (xi (fun r t' => r = nI (cn (fC t u v) (t k 3) pl) ∧ t' = t)) args s) (t) [some (.ref (O.size + 3)), some (.ref (O.size + k)), some (.ref (O.size + (rcell u 0))), some (.ref (O.size + (rcell v 1))), some (.int (xs)), some (.int (xy))] 26 [] := by
    intro z9
    induction z9 with
    | zero => intro y xy xs h9; exact absurd h9 (Nat.not_lt_zero _)
    | succ z9 ih =>
      intro y xy xs h9 hxy hxs hy
      subst hxy
      refine g_iload (pc := 26) X dX5_placesUpTo_26 rfl ?_
      refine g_aload_n (pc := 28) X dX5_placesUpTo_28 rfl rfl ?_
      refine gm_getI (pc := 29) (j := 5) X 3 dX5_placesUpTo_29 hkd (by decide) rfl xu_3 (by decide) rfl xw_169 rfl ?_
      refine g_icmp_ge (pc := 32) (tgt := 75) X dX5_placesUpTo_32 (by decide) (fun hc_32 => ?_) (fun hc_32 => ?_)
      · refine g_iload (pc := 75) X dX5_placesUpTo_75 rfl ?_
        exact gm_iret (pc := 77) X hr hk dX5_placesUpTo_77 (⟨by rw [e5] at hc_32; rw [hxs, show y = pl by have := n_ge hc_32; omega], rfl⟩)
      · refine g_iload (pc := 35) X dX5_placesUpTo_35 rfl ?_
        refine g_sipush (pc := 37) (v := 129) X dX5_placesUpTo_37 (by decide) ?_
        refine g_icmp_ge (pc := 40) (tgt := 75) X dX5_placesUpTo_40 (by decide) (fun hc_40 => ?_) (fun hc_40 => ?_)
        · exact absurd (n_ge (a := 129) (b := y) hc_40) (by rw [e5] at hc_32; have := n_gt hc_32; omega)
        · have hyl : y < pl := by rw [e5] at hc_32; exact n_gt hc_32
          refine g_iload (pc := 43) X dX5_placesUpTo_43 rfl ?_
          refine g_aload_n (pc := 45) X dX5_placesUpTo_45 rfl rfl ?_
          refine g_iload (pc := 46) X dX5_placesUpTo_46 rfl ?_
          refine gm_iald (pc := 48) X (y) dX5_placesUpTo_48 (rcell_ok (q := 0) hu8 (by decide)).1 rfl (by rw [(rcell_ok (q := 0) hu8 (by decide)).2.1]; omega) (by rw [(rcell_ok (q := 0) hu8 (by decide)).2.1]; decide) ?_
          refine g_aload_n (pc := 49) X dX5_placesUpTo_49 rfl rfl ?_
          refine g_iload (pc := 50) X dX5_placesUpTo_50 rfl ?_
          refine gm_iald (pc := 52) X (y) dX5_placesUpTo_52 (rcell_ok (q := 1) hv8 (by decide)).1 rfl (by rw [(rcell_ok (q := 1) hv8 (by decide)).2.1]; omega) (by rw [(rcell_ok (q := 1) hv8 (by decide)).2.1]; decide) ?_
          refine g_iadd (pc := 53) X dX5_placesUpTo_53 ?_
          refine g_aload_n (pc := 54) X dX5_placesUpTo_54 rfl rfl ?_
          refine gm_getI (pc := 55) (j := 3) X 3 dX5_placesUpTo_55 hkd (by decide) rfl xu_3 (by decide) rfl xw_162 rfl ?_
          refine g_icmp_gt (pc := 58) (tgt := 65) X dX5_placesUpTo_58 (by decide) (fun hc_58 => ?_) (fun hc_58 => ?_)
          · refine g_iconst (pc := 65) (v := 0) X dX5_placesUpTo_65 (by decide) ?_
            refine g_iadd (pc := 66) X dX5_placesUpTo_66 ?_
            refine g_istore (pc := 67) X dX5_placesUpTo_67 (by decide) ?_
            refine g_inc (pc := 69) (kv := 1) X dX5_placesUpTo_69 (by decide) rfl (by decide) ?_
            refine g_goto (pc := 72) (tgt := 26) X dX5_placesUpTo_72 (by decide) ?_
            exact ih (y + 1) _ _ (by omega) (nI_1 y) (cn_f (k2_nle hc_58) hxs) (by omega)
          · refine g_iconst (pc := 61) (v := 1) X dX5_placesUpTo_61 (by decide) ?_
            refine g_goto (pc := 62) (tgt := 66) X dX5_placesUpTo_62 (by decide) ?_
            refine g_iadd (pc := 66) X dX5_placesUpTo_66 ?_
            refine g_istore (pc := 67) X dX5_placesUpTo_67 (by decide) ?_
            refine g_inc (pc := 69) (kv := 1) X dX5_placesUpTo_69 (by decide) rfl (by decide) ?_
            refine g_goto (pc := 72) (tgt := 26) X dX5_placesUpTo_72 (by decide) ?_
            exact ih (y + 1) _ _ (by omega) (nI_1 y) (cn_t (k2_le hc_58) hxs) (by omega)
  refine g_aload_n (pc := 0) X dX5_placesUpTo_0 rfl rfl ?_
  refine g_aload_n (pc := 1) X dX5_placesUpTo_1 rfl rfl ?_
  refine gm_getI (pc := 2) (j := 0) X 3 dX5_placesUpTo_2 hkd (by decide) rfl xu_3 (by decide) rfl xw_152 rfl ?_
  rw [e0]
  refine g_iconst (pc := 5) (v := 0) X dX5_placesUpTo_5 (by decide) ?_
  refine gm_Va (pc := 6) X 5 xc_X5_53 (c_rowOf l G O _ nh u 0 hnh h1 hu (by decide)) dX5_placesUpTo_6 rfl (by decide) rfl rfl rfl rfl (Nat.le_of_ble_eq_true rfl) (fun k_6 t_6 hp => ?_)
  obtain ⟨rfl, hq9⟩ := hp
  have hq9 := hq9.symm
  subst hq9
  refine g_astore_n (pc := 9) X dX5_placesUpTo_9 rfl (by decide) ?_
  refine g_aload_n (pc := 10) X dX5_placesUpTo_10 rfl rfl ?_
  refine g_aload_n (pc := 11) X dX5_placesUpTo_11 rfl rfl ?_
  refine gm_getI (pc := 12) (j := 1) X 3 dX5_placesUpTo_12 hkd (by decide) rfl xu_3 (by decide) rfl xw_154 rfl ?_
  rw [e1]
  refine g_iconst (pc := 15) (v := 1) X dX5_placesUpTo_15 (by decide) ?_
  refine gm_Va (pc := 16) X 5 xc_X5_53 (c_rowOf l G O _ nh v 1 hnh h1 hv (by decide)) dX5_placesUpTo_16 rfl (by decide) rfl rfl rfl rfl (Nat.le_of_ble_eq_true rfl) (fun k_16 t_16 hp => ?_)
  obtain ⟨rfl, hq9⟩ := hp
  have hq9 := hq9.symm
  subst hq9
  refine g_astore_n (pc := 19) X dX5_placesUpTo_19 rfl (by decide) ?_
  refine g_iconst (pc := 20) (v := 0) X dX5_placesUpTo_20 (by decide) ?_
  refine g_istore (pc := 21) X dX5_placesUpTo_21 (by decide) ?_
  refine g_iconst (pc := 23) (v := 0) X dX5_placesUpTo_23 (by decide) ?_
  refine g_istore (pc := 24) X dX5_placesUpTo_24 (by decide) ?_
  exact loop (pl + 1) 0 _ _ (by omega) nI_0.symm nI_0.symm (Nat.zero_le _)

set_option maxRecDepth 100000 in
set_option maxHeartbeats 4000000 in
theorem c_copyFoundTo (l : Launch) (G : xg_G) (O : Heap) (t : xT) (nl nh k : Nat) (u v : Option Nat) (hnl : nl ≤ 160) (h4 : t 4 1 = nI nl) (hnh : nh ≤ 8) (h1 : t 6 1 = nI nh) (hu : ∀ k, u = some k → k < nh) (hv : ∀ k, v = some k → k < nh) (hkd : kd k = 3) (hk68 : 68 ≤ k) (e0 : t 24 0 = ov u) (e1 : t 24 1 = ov v) (huv : u ≠ none ∨ v ≠ none) : xm l yX5_copyFoundTo cX5_copyFoundTo 3 none rmX5_copyFoundTo G O t [.ref (O.size + 3), .ref (O.size + k)] (xv (fun t' => t' = xt (xt (xt (setL t k (getB t)) k 5 (nI (nl - 31))) k 4 (nI (cn (fC t u v) (t 24 3) (nl - 31)))) k 6 (t (8 + 2 * mx u v) 1))) := by
  refine xm_enter (by decide) 1 rfl rfl ?_
  intro p e s m args below meth c X hr hk
  refine g_eq (L2 := [some (.ref (O.size + 3)), some (.ref (O.size + k)), none]) rfl rfl rfl ?_
  have hu8 : ∀ k, u = some k → k < 8 := fun k h => by have := hu k h; omega
  have hv8 : ∀ k, v = some k → k < 8 := fun k h => by have := hv k h; omega
  obtain ⟨hm1, hm2⟩ := ov_max hu8 hv8 huv
  have hmn : mx u v < nh := by rcases hm2 with q | q; exact hu _ q; exact hv _ q
  have hm8 : mx u v < 8 := by omega
  have hf : fC (xt (setL t k (getB t)) k 5 (nI (nl - 31))) u v = fC t u v := by
    funext p
    have r0 := (rcell_ok (q := 0) hu8 (by decide)).2.2.2
    have r1 := (rcell_ok (q := 1) hv8 (by decide)).2.2.2
    show xt _ _ _ _ (rcell u 0) p + xt _ _ _ _ (rcell v 1) p = _
    rw [xt_nk _ _ _ _ (by omega), setL_ne _ _ _ (by omega), xt_nk _ _ _ _ (by omega), setL_ne _ _ _ (by omega)]
  refine g_aload_n (pc := 0) X dX5_copyFoundTo_0 rfl rfl ?_
  refine g_aload_n (pc := 1) X dX5_copyFoundTo_1 rfl rfl ?_
  refine gm_getR (k' := 24) (pc := 2) (j := 2) X 5 dX5_copyFoundTo_2 rfl (by decide) rfl xu_5 (by decide) rfl xw_195 rfl rfl ?_
  refine gm_getI (pc := 5) (j := 0) X 3 dX5_copyFoundTo_5 rfl (by decide) rfl xu_3 (by decide) rfl xw_152 rfl ?_
  refine g_aload_n (pc := 8) X dX5_copyFoundTo_8 rfl rfl ?_
  refine gm_getR (k' := 24) (pc := 9) (j := 2) X 5 dX5_copyFoundTo_9 rfl (by decide) rfl xu_5 (by decide) rfl xw_195 rfl rfl ?_
  refine gm_getI (pc := 12) (j := 1) X 3 dX5_copyFoundTo_12 rfl (by decide) rfl xu_3 (by decide) rfl xw_154 rfl ?_
  refine g_aload_n (pc := 15) X dX5_copyFoundTo_15 rfl rfl ?_
  refine gm_getR (k' := 24) (pc := 16) (j := 2) X 5 dX5_copyFoundTo_16 rfl (by decide) rfl xu_5 (by decide) rfl xw_195 rfl rfl ?_
  refine gm_getI (pc := 19) (j := 2) X 3 dX5_copyFoundTo_19 rfl (by decide) rfl xu_3 (by decide) rfl xw_159 rfl ?_
  refine g_aload_n (pc := 22) X dX5_copyFoundTo_22 rfl rfl ?_
  refine gm_getR (k' := 24) (pc := 23) (j := 2) X 5 dX5_copyFoundTo_23 rfl (by decide) rfl xu_5 (by decide) rfl xw_195 rfl rfl ?_
  refine gm_getI (pc := 26) (j := 3) X 3 dX5_copyFoundTo_26 rfl (by decide) rfl xu_3 (by decide) rfl xw_162 rfl ?_
  refine gm_Vv (pc := 29) X 3 xc_X5_100 (c_lie l G O _ k _ _ _ _ hkd) dX5_copyFoundTo_29 hkd (by decide) rfl rfl rfl rfl (Nat.le_of_ble_eq_true rfl) (fun t_29 hp => ?_)
  refine gm_st (t2 := setL t k (getB t)) hp rfl ?_
  clear hp
  refine g_aload_n (pc := 32) X dX5_copyFoundTo_32 rfl rfl ?_
  refine g_aload_n (pc := 33) X dX5_copyFoundTo_33 rfl rfl ?_
  refine gm_getR (k' := 4) (pc := 34) (j := 0) X 5 dX5_copyFoundTo_34 rfl (by decide) rfl xu_5 (by decide) rfl xw_191 rfl rfl ?_
  refine gm_Vi (pc := 37) X 7 xc_X5_85 (c_places l G O _ nl hnl (by rw [setL_ne _ _ _ (by omega)]; exact h4)) dX5_copyFoundTo_37 rfl (by decide) rfl rfl rfl rfl (Nat.le_of_ble_eq_true rfl) (fun v_37 t_37 hp => ?_)
  obtain ⟨rfl, hq9⟩ := hp
  have hq9 := hq9.symm
  subst hq9
  refine gm_putI (pc := 40) (j := 5) X 3 tyX3 dX5_copyFoundTo_40 hkd (by decide) rfl xu_3 tyX3_ok nmX3 (by decide) rfl xw_169 rfl rfl (Or.inl rfl) ?_
  refine g_aload_n (pc := 43) X dX5_copyFoundTo_43 rfl rfl ?_
  refine g_aload_n (pc := 44) X dX5_copyFoundTo_44 rfl rfl ?_
  refine g_aload_n (pc := 45) X dX5_copyFoundTo_45 rfl rfl ?_
  refine gm_Vi (pc := 46) X 5 xc_X5_140 (c_placesUpTo l G O _ nh (nl - 31) k u v hnh (by rw [xt_nk _ _ _ _ (by omega), setL_ne _ _ _ (by omega)]; exact h1) hu hv hkd hk68 (by simp [xt, setL, getB, e0]) (by simp [xt, setL, getB, e1]) (by simp [xt]) (by omega)) dX5_copyFoundTo_46 rfl (by decide) rfl rfl rfl rfl (Nat.le_of_ble_eq_true rfl) (fun v_46 t_46 hp => ?_)
  obtain ⟨rfl, hq9⟩ := hp
  have hq9 := hq9.symm
  subst hq9
  rw [hf, show xt (setL t k (getB t)) k 5 (nI (nl - 31)) k 3 = t 24 3 by simp [xt, setL, getB]]
  refine gm_putI (pc := 49) (j := 4) X 3 tyX3 dX5_copyFoundTo_49 hkd (by decide) rfl xu_3 tyX3_ok nmX3 (by decide) rfl xw_166 rfl rfl (Or.inl rfl) ?_
  refine g_aload_n (pc := 52) X dX5_copyFoundTo_52 rfl rfl ?_
  refine gm_getI (pc := 53) (j := 0) X 3 dX5_copyFoundTo_53 hkd (by decide) rfl xu_3 (by decide) rfl xw_152 rfl ?_
  refine g_aload_n (pc := 56) X dX5_copyFoundTo_56 rfl rfl ?_
  refine gm_getI (pc := 57) (j := 1) X 3 dX5_copyFoundTo_57 hkd (by decide) rfl xu_3 (by decide) rfl xw_154 rfl ?_
  refine g_max (pc := 60) X dX5_copyFoundTo_60 xw_426 xw_374 xw_44 xw_375 (by decide) (Nat.le_of_ble_eq_true rfl) (Nat.zero_le _) (Nat.zero_le _) ?_
  rw [show (xt (xt (setL t k (getB t)) k 5 (nI (nl - 31))) k 4 (nI (cn (fC t u v) (t 24 3) (nl - 31)))) k 0 = ov u by simp [xt, setL, getB, e0], show (xt (xt (setL t k (getB t)) k 5 (nI (nl - 31))) k 4 (nI (cn (fC t u v) (t 24 3) (nl - 31)))) k 1 = ov v by simp [xt, setL, getB, e1], hm1]
  refine g_istore_n (pc := 63) X dX5_copyFoundTo_63 rfl (by decide) ?_
  refine g_aload_n (pc := 64) X dX5_copyFoundTo_64 rfl rfl ?_
  refine g_aload_n (pc := 65) X dX5_copyFoundTo_65 rfl rfl ?_
  refine gm_getR (k' := 6) (pc := 66) (j := 1) X 5 dX5_copyFoundTo_66 rfl (by decide) rfl xu_5 (by decide) rfl xw_193 rfl rfl ?_
  refine g_iload_n (pc := 69) X dX5_copyFoundTo_69 rfl rfl ?_
  refine gm_Vi (pc := 70) X 2 xc_X5_49 (c_has l G O _ nh (nI (mx u v)) hnh (by rw [xt_nk _ _ _ _ (by omega), xt_nk _ _ _ _ (by omega), setL_ne _ _ _ (by omega)]; exact h1)) dX5_copyFoundTo_70 rfl (by decide) rfl rfl rfl rfl (Nat.le_of_ble_eq_true rfl) (fun v_70 t_70 hp => ?_)
  obtain ⟨rfl, hq9⟩ := hp
  have hq9 := hq9.symm
  subst hq9
  refine g_if_eq (pc := 73) (tgt := 91) X dX5_copyFoundTo_73 (by decide) (fun hc_73 => ?_) (fun hc_73 => ?_)
  · exact absurd ⟨nI_pos' (by omega), nI_lt hmn (by omega)⟩ (bi_0 hc_73)
  · refine g_aload_n (pc := 76) X dX5_copyFoundTo_76 rfl rfl ?_
    refine gm_getR (k' := 6) (pc := 77) (j := 1) X 5 dX5_copyFoundTo_77 rfl (by decide) rfl xu_5 (by decide) rfl xw_193 rfl rfl ?_
    refine gm_getR (k' := 7) (pc := 80) (j := 0) X 2 dX5_copyFoundTo_80 rfl (by decide) rfl xu_2 (by decide) rfl xw_132 rfl rfl ?_
    refine g_iload_n (pc := 83) X dX5_copyFoundTo_83 rfl rfl ?_
    refine gm_aald (pc := 84) (k' := (8 + 2 * (mx u v))) X 12 (mx u v) (.object "UnderText$Half") dX5_copyFoundTo_84 rfl (by decide) (by decide) rfl rfl rfl (show mx u v < 8 from by omega) (by decide) (kd_half (mx u v) hm8).2.1 ?_
    refine gm_getI (pc := 85) (j := 1) X 1 dX5_copyFoundTo_85 (kd_half (mx u v) hm8).1 (by decide) rfl xu_1 (by decide) rfl xw_114 rfl ?_
    refine g_goto (pc := 88) (tgt := 92) X dX5_copyFoundTo_88 (by decide) ?_
    refine gm_putI (pc := 92) (j := 6) X 3 tyX3 dX5_copyFoundTo_92 hkd (by decide) rfl xu_3 tyX3_ok nmX3 (by decide) rfl xw_172 rfl rfl (Or.inl rfl) ?_
    exact gm_vret (pc := 95) X hr hk dX5_copyFoundTo_95 (by rw [xt_nk _ _ _ (x := 8 + 2 * mx u v) _ (by omega), xt_nk _ _ _ (x := 8 + 2 * mx u v) _ (by omega), setL_ne _ _ (x := 8 + 2 * mx u v) _ (by omega)])
end
section
/-! 05a: Pairing: sets of halves -/
theorem bit_in : ∀ s, s < 256 → ∀ j, j < 8 → (((nI s >>> (nI j &&& 31)) &&& 1 = 1) ↔ s.testBit j = true) := by decide +kernel
def wo (s a b : Nat) : Nat := s &&& (255 - 2 ^ a) &&& (255 - 2 ^ b)
theorem wo_eq : ∀ s, s < 256 → ∀ a, a < 8 → ∀ b, b < 8 → (nI s &&& (((1 : Int32) <<< (nI a &&& 31)) ^^^ (-1))) &&& (((1 : Int32) <<< (nI b &&& 31)) ^^^ (-1)) = nI (wo s a b) := by decide +kernel
theorem mk_bit : ∀ a, a < 8 → ∀ j, j < 8 → (255 - 2 ^ a).testBit j = decide (j ≠ a) := by decide
theorem wo_bit {s a b j : Nat} (ha : a < 8) (hb : b < 8) (hj : j < 8) : (wo s a b).testBit j = (s.testBit j && decide (j ≠ a) && decide (j ≠ b)) := by
  unfold wo; rw [Nat.testBit_and, Nat.testBit_and, mk_bit a ha j hj, mk_bit b hb j hj]
theorem wo_le (s a b : Nat) : wo s a b ≤ s := by
  unfold wo
  exact Nat.le_trans Nat.and_le_left Nat.and_le_left
theorem wo_lt {s a b : Nat} (ha : a < 8) (hb : b < 8) (h : s.testBit a = true) : wo s a b < s := by
  rcases Nat.lt_or_ge (wo s a b) s with q | q
  · exact q
  · have e : wo s a b = s := Nat.le_antisymm (wo_le s a b) q
    have h2 := wo_bit (s := s) ha hb (j := a) ha
    rw [e, h] at h2
    simp at h2
/-- the first half of a set -/
def fsb (s : Nat) : Nat := ((List.range 8).find? (fun j => s.testBit j)).getD 8
theorem fsb_of : ∀ s, s < 256 → ∀ h, h < 8 → s.testBit h = true → (∀ j, j < h → s.testBit j = false) → fsb s = h := by decide +kernel
theorem fsb_ok : ∀ s, s < 256 → s ≠ 0 → fsb s < 8 ∧ s.testBit (fsb s) = true ∧ ∀ j, j < fsb s → s.testBit j = false := by decide +kernel
set_option maxRecDepth 100000 in
set_option maxHeartbeats 4000000 in
theorem c_isIn (l : Launch) (G : xg_G) (O : Heap) (t : xT) (s j : Nat) (hs : s < 256) (hj : j < 8) : xm l yX4_isIn cX4_isIn 2 (some .boolean) rmX4_isIn G O t [.int (nI s), .int (nI j)] (xi (fun v t' => v = bi (s.testBit j = true) ∧ t' = t)) := by
  refine xm_enter (by decide) 0 rfl rfl ?_
  intro p e s0 m args below meth c X hr hk
  refine g_eq (L2 := [some (.int (nI s)), some (.int (nI j))]) rfl rfl rfl ?_
  refine g_iload_n (pc := 0) X dX4_isIn_0 rfl rfl ?_
  refine g_iload_n (pc := 1) X dX4_isIn_1 rfl rfl ?_
  refine g_ishr (pc := 2) X dX4_isIn_2 ?_
  refine g_iconst (pc := 3) (v := 1) X dX4_isIn_3 (by decide) ?_
  refine g_iand (pc := 4) X dX4_isIn_4 ?_
  refine g_iconst (pc := 5) (v := 1) X dX4_isIn_5 (by decide) ?_
  refine g_icmp_ne (pc := 6) (tgt := 13) X dX4_isIn_6 (by decide) (fun hc_6 => ?_) (fun hc_6 => ?_)
  · refine g_iconst (pc := 13) (v := 0) X dX4_isIn_13 (by decide) ?_
    exact gm_zret (pc := 14) X hr hk dX4_isIn_14 (by first | exact Or.inl rfl | exact Or.inr rfl) (⟨(bi_f (fun q => hc_6 ((bit_in s hs j hj).mpr q))).symm, rfl⟩)
  · refine g_iconst (pc := 9) (v := 1) X dX4_isIn_9 (by decide) ?_
    refine g_goto (pc := 10) (tgt := 14) X dX4_isIn_10 (by decide) ?_
    exact gm_zret (pc := 14) X hr hk dX4_isIn_14 (by first | exact Or.inl rfl | exact Or.inr rfl) (⟨(bi_t ((bit_in s hs j hj).mp hc_6)).symm, rfl⟩)

set_option maxRecDepth 100000 in
set_option maxHeartbeats 4000000 in
theorem c_without (l : Launch) (G : xg_G) (O : Heap) (t : xT) (s a b : Nat) (hs : s < 256) (ha : a < 8) (hb : b < 8) : xm l yX4_without cX4_without 3 (some .int) rmX4_without G O t [.int (nI s), .int (nI a), .int (nI b)] (xi (fun v t' => v = nI (wo s a b) ∧ t' = t)) := by
  refine xm_enter (by decide) 0 rfl rfl ?_
  intro p e s0 m args below meth c X hr hk
  refine g_eq (L2 := [some (.int (nI s)), some (.int (nI a)), some (.int (nI b))]) rfl rfl rfl ?_
  refine g_iload_n (pc := 0) X dX4_without_0 rfl rfl ?_
  refine g_iconst (pc := 1) (v := 1) X dX4_without_1 (by decide) ?_
  refine g_iload_n (pc := 2) X dX4_without_2 rfl rfl ?_
  refine g_ishl (pc := 3) X dX4_without_3 ?_
  refine g_iconst (pc := 4) (v := (-1)) X dX4_without_4 (by decide) ?_
  refine g_ixor (pc := 5) X dX4_without_5 ?_
  refine g_iand (pc := 6) X dX4_without_6 ?_
  refine g_iconst (pc := 7) (v := 1) X dX4_without_7 (by decide) ?_
  refine g_iload_n (pc := 8) X dX4_without_8 rfl rfl ?_
  refine g_ishl (pc := 9) X dX4_without_9 ?_
  refine g_iconst (pc := 10) (v := (-1)) X dX4_without_10 (by decide) ?_
  refine g_ixor (pc := 11) X dX4_without_11 ?_
  refine g_iand (pc := 12) X dX4_without_12 ?_
  exact gm_iret (pc := 13) X hr hk dX4_without_13 (⟨wo_eq s hs a ha b hb, rfl⟩)

set_option maxRecDepth 100000 in
set_option maxHeartbeats 4000000 in
theorem c_firstOf (l : Launch) (G : xg_G) (O : Heap) (t : xT) (s : Nat) (hs : s < 256) (hs0 : s ≠ 0) : xm l yX4_firstOf cX4_firstOf 2 (some .int) rmX4_firstOf G O t [.int (nI s)] (xi (fun v t' => v = nI (fsb s) ∧ t' = t)) := by
  refine xm_enter (by decide) 1 rfl rfl ?_
  intro p e s0 m args below meth c X hr hk
  refine g_eq (L2 := [some (.int (nI s)), none]) rfl rfl rfl ?_
  have loop : ∀ (z9 : Nat) (h : Nat) (xh : Int32), 8 - h < z9 → xh = nI h → h ≤ fsb s → gm p l e rmX4_firstOf s0 m args below meth c 2 G O (xmQ below G O (xi (fun v t' => v = nI (fsb s) ∧ t' = t)) args s0) (t) [some (.int (nI s)), some (.int (xh))] 2 [] := by
    intro z9
    induction z9 with
    | zero => intro h xh h9; exact absurd h9 (Nat.not_lt_zero _)
    | succ z9 ih =>
      intro h xh h9 hxh hh
      subst hxh
      have hf := fsb_ok s hs hs0
      refine g_iload_n (pc := 2) X dX4_firstOf_2 rfl rfl ?_
      refine g_bipush (pc := 3) (v := 8) X dX4_firstOf_3 (by decide) ?_
      refine g_icmp_ge (pc := 5) (tgt := 24) X dX4_firstOf_5 (by decide) (fun hc_5 => ?_) (fun hc_5 => ?_)
      · exact absurd (n_ge (a := 8) (b := h) hc_5) (by omega)
      · refine g_iload_n (pc := 8) X dX4_firstOf_8 rfl rfl ?_
        refine g_iload_n (pc := 9) X dX4_firstOf_9 rfl rfl ?_
        refine gm_Si (pc := 10) X xc_X4_56 (c_isIn l G O _ s h hs (n_gt (a := 8) (b := h) hc_5)) dX4_firstOf_10 rfl rfl rfl (Nat.le_of_ble_eq_true rfl) (fun v_10 t_10 hp => ?_)
        obtain ⟨rfl, hq9⟩ := hp
        have hq9 := hq9.symm
        subst hq9
        refine g_if_eq (pc := 13) (tgt := 18) X dX4_firstOf_13 (by decide) (fun hc_13 => ?_) (fun hc_13 => ?_)
        · refine g_inc (pc := 18) (kv := 1) X dX4_firstOf_18 (by decide) rfl (by decide) ?_
          refine g_goto (pc := 21) (tgt := 2) X dX4_firstOf_21 (by decide) ?_
          exact ih (h + 1) _ (by omega) (nI_1 h) (by rcases Nat.lt_or_ge h (fsb s) with q | q; exact q; exact absurd (by rw [show h = fsb s by omega]; exact hf.2.1) (bi_0 hc_13))
        · refine g_iload_n (pc := 16) X dX4_firstOf_16 rfl rfl ?_
          exact gm_iret (pc := 17) X hr hk dX4_firstOf_17 (⟨by rw [fsb_of s hs h (n_gt (a := 8) (b := h) hc_5) (bi_1 hc_13) (fun j hj => hf.2.2 j (by omega))], rfl⟩)
  refine g_iconst (pc := 0) (v := 0) X dX4_firstOf_0 (by decide) ?_
  refine g_istore_n (pc := 1) X dX4_firstOf_1 rfl (by decide) ?_
  exact loop 9 0 _ (by omega) nI_0.symm (Nat.zero_le _)

set_option maxRecDepth 100000 in
set_option maxHeartbeats 4000000 in
theorem c_wholeSet (l : Launch) (G : xg_G) (O : Heap) (t : xT)  : xm l yX4_wholeSet cX4_wholeSet 1 (some .int) rmX4_wholeSet G O t [.ref (O.size + 43)] (xi (fun v t' => v = t 43 3 ∧ t' = t)) := by
  refine xm_enter (by decide) 0 rfl rfl ?_
  intro p e s m args below meth c X hr hk
  refine g_eq (L2 := [some (.ref (O.size + 43))]) rfl rfl rfl ?_
  refine g_aload_n (pc := 0) X dX4_wholeSet_0 rfl rfl ?_
  refine gm_getI (pc := 1) (j := 3) X 4 dX4_wholeSet_1 rfl (by decide) rfl xu_4 (by decide) rfl xw_221 rfl ?_
  exact gm_iret (pc := 4) X hr hk dX4_wholeSet_4 (⟨rfl, rfl⟩)

set_option maxRecDepth 100000 in
set_option maxHeartbeats 4000000 in
theorem c_sum (l : Launch) (G : xg_G) (O : Heap) (t : xT) (s : Nat) (hs : s < 256) (hw : t 43 3 = nI s) : xm l yX4_sum cX4_sum 1 (some .int) rmX4_sum G O t [.ref (O.size + 43)] (xi (fun v t' => v = t 53 s ∧ t' = t)) := by
  refine xm_enter (by decide) 0 rfl rfl ?_
  intro p e s0 m args below meth c X hr hk
  refine g_eq (L2 := [some (.ref (O.size + 43))]) rfl rfl rfl ?_
  refine g_aload_n (pc := 0) X dX4_sum_0 rfl rfl ?_
  refine gm_getR (k' := 53) (pc := 1) (j := 1) X 4 dX4_sum_1 rfl (by decide) rfl xu_4 (by decide) rfl xw_219 rfl rfl ?_
  refine g_aload_n (pc := 4) X dX4_sum_4 rfl rfl ?_
  refine gm_getI (pc := 5) (j := 3) X 4 dX4_sum_5 rfl (by decide) rfl xu_4 (by decide) rfl xw_221 rfl ?_
  refine gm_iald (pc := 8) X (s) dX4_sum_8 rfl hw (show s < 256 from by omega) (by decide) ?_
  exact gm_iret (pc := 9) X hr hk dX4_sum_9 (⟨rfl, rfl⟩)

set_option maxRecDepth 100000 in
set_option maxHeartbeats 4000000 in
theorem c_mateOfFirst (l : Launch) (G : xg_G) (O : Heap) (t : xT) (s w : Nat) (hw : t 43 3 = nI w) (hw2 : w < 256) (hs : s ≤ w) : xm l yX4_mateOfFirst cX4_mateOfFirst 2 (some .int) rmX4_mateOfFirst G O t [.ref (O.size + 43), .int (nI s)] (xi (fun v t' => v = t 54 s ∧ t' = t)) := by
  refine xm_enter (by decide) 0 rfl rfl ?_
  intro p e s0 m args below meth c X hr hk
  refine g_eq (L2 := [some (.ref (O.size + 43)), some (.int (nI s))]) rfl rfl rfl ?_
  refine g_iload_n (pc := 0) X dX4_mateOfFirst_0 rfl rfl ?_
  refine g_aload_n (pc := 1) X dX4_mateOfFirst_1 rfl rfl ?_
  refine gm_getI (pc := 2) (j := 3) X 4 dX4_mateOfFirst_2 rfl (by decide) rfl xu_4 (by decide) rfl xw_221 rfl ?_
  refine gm_SNi (pc := 5) X xc_X4_63 (c_isWithin l G O _ (nI s) _) dX4_mateOfFirst_5 rfl rfl rfl (Nat.le_of_ble_eq_true rfl) (fun v_5 t_5 hp => ?_)
  obtain ⟨rfl, hq9⟩ := hp
  have hq9 := hq9.symm
  subst hq9
  refine g_if_eq (pc := 8) (tgt := 20) X dX4_mateOfFirst_8 (by decide) (fun hc_8 => ?_) (fun hc_8 => ?_)
  · exact absurd ⟨nI_pos' (by omega), by rw [hw]; exact nI_le hs (by omega)⟩ (bi_0 hc_8)
  · refine g_aload_n (pc := 11) X dX4_mateOfFirst_11 rfl rfl ?_
    refine gm_getR (k' := 54) (pc := 12) (j := 2) X 4 dX4_mateOfFirst_12 rfl (by decide) rfl xu_4 (by decide) rfl xw_220 rfl rfl ?_
    refine g_iload_n (pc := 15) X dX4_mateOfFirst_15 rfl rfl ?_
    refine gm_iald (pc := 16) X (s) dX4_mateOfFirst_16 rfl rfl (show s < 256 from by omega) (by decide) ?_
    refine g_goto (pc := 17) (tgt := 21) X dX4_mateOfFirst_17 (by decide) ?_
    exact gm_iret (pc := 21) X hr hk dX4_mateOfFirst_21 (⟨rfl, rfl⟩)

/-- the least sum and its mate, over the mates below n: C the costs with the first half f, T the least sums of lesser sets -/
def sst (C T : Nat → Int32) (s f : Nat) : Nat → Int32 × Int32 → Int32 × Int32
  | 0, b => b
  | j + 1, b => if f ≤ j ∧ s.testBit j = true ∧ ¬ C j = -1 then
      (if (sst C T s f j b).1 = -1 ∨ C j + T (wo s f j) < (sst C T s f j b).1 then (C j + T (wo s f j), nI j) else sst C T s f j b)
    else sst C T s f j b
theorem sst_low {C T : Nat → Int32} {s f : Nat} {b : Int32 × Int32} : ∀ {j : Nat}, j ≤ f → sst C T s f j b = b
  | 0, _ => rfl
  | j + 1, h => by rw [sst.eq_2, if_neg (by omega)]; exact sst_low (by omega)
theorem sst_no {C T : Nat → Int32} {s f j : Nat} {b : Int32 × Int32} (h : ¬ (f ≤ j ∧ s.testBit j = true ∧ ¬ C j = -1)) : sst C T s f j b = sst C T s f (j + 1) b := by
  rw [sst.eq_2, if_neg h]
theorem sst_keep {C T : Nat → Int32} {s f j : Nat} {b : Int32 × Int32} (h : ¬ ((sst C T s f j b).1 = -1 ∨ C j + T (wo s f j) < (sst C T s f j b).1)) : sst C T s f j b = sst C T s f (j + 1) b := by
  rw [sst.eq_2]; split
  · first | rfl | rw [if_neg h]
  · rfl
theorem sst_take {C T : Nat → Int32} {s f j : Nat} {b : Int32 × Int32} (h1 : f ≤ j ∧ s.testBit j = true ∧ ¬ C j = -1) (h : (sst C T s f j b).1 = -1 ∨ C j + T (wo s f j) < (sst C T s f j b).1) : (C j + T (wo s f j), nI j) = sst C T s f (j + 1) b := by
  rw [sst.eq_2, if_pos h1, if_pos h]
theorem sst_cong {C C2 T T2 : Nat → Int32} {s f : Nat} {b : Int32 × Int32} : ∀ {n : Nat}, (∀ j, f ≤ j → j < n → C j = C2 j) → (∀ j, f ≤ j → j < n → s.testBit j = true → T (wo s f j) = T2 (wo s f j)) → sst C T s f n b = sst C2 T2 s f n b
  | 0, _, _ => rfl
  | n + 1, h1, h2 => by
    rw [sst.eq_2, sst.eq_2, sst_cong (n := n) (fun j a b => h1 j a (by omega)) (fun j a b => h2 j a (by omega))]
    by_cases q : f ≤ n
    · rw [h1 n q (by omega)]
      by_cases q2 : s.testBit n = true
      · rw [h2 n q (by omega) q2]
      · simp [q2]
    · simp [q]
def set2 (t : xT) (s : Nat) (b : Int32 × Int32) : xT := xt (xt t 53 s b.1) 54 s b.2
theorem set2_ne (t : xT) (s : Nat) (b : Int32 × Int32) {x : Nat} (y : Nat) (h1 : x ≠ 53) (h2 : x ≠ 54) : set2 t s b x y = t x y := by simp [set2, xt, h1, h2]
theorem set2_53 (t : xT) (s : Nat) (b : Int32 × Int32) {y : Nat} (h : y ≠ s) : set2 t s b 53 y = t 53 y := by simp [set2, xt, h]
theorem set2_1 (t : xT) (s : Nat) (b : Int32 × Int32) : set2 t s b 53 s = b.1 := by simp [set2, xt]
theorem set2_new (t : xT) (s : Nat) (b : Int32 × Int32) (x y : Int32) : xt (xt (set2 t s b) 53 s x) 54 s y = set2 t s (x, y) := by
  funext a c
  simp only [set2, xt]
  by_cases h1 : a = 53
  · subst h1
    by_cases h2 : c = s
    · subst h2; simp
    · simp [h2]
  · by_cases h3 : a = 54
    · subst h3
      by_cases h2 : c = s
      · subst h2; simp
      · simp [h2]
    · simp [h1, h3]
theorem set2_ini (t : xT) (s : Nat) (x : Int32) : xt t 53 s x = set2 t s (x, t 54 s) := by
  funext a c
  simp only [set2, xt]
  by_cases h3 : a = 54 ∧ c = s
  · obtain ⟨rfl, rfl⟩ := h3; simp
  · simp [h3]
set_option maxRecDepth 100000 in
set_option maxHeartbeats 4000000 in
theorem c_settleSet (l : Launch) (G : xg_G) (O : Heap) (t : xT) (s n : Nat) (hs : s < 256) (hs0 : s ≠ 0) (hn : n ≤ 8) : xm l yX4_settleSet cX4_settleSet 6 none rmX4_settleSet G O t [.ref (O.size + 43), .int (nI s), .int (nI n)] (xv (fun t' => t' = set2 t s (sst (t (45 + fsb s)) (t 53) s (fsb s) n (-1, t 54 s)))) := by
  refine xm_enter (by decide) 3 rfl rfl ?_
  intro p e s0 m args below meth c X hr hk
  refine g_eq (L2 := [some (.ref (O.size + 43)), some (.int (nI s)), some (.int (nI n)), none, none, none]) rfl rfl rfl ?_
  have hf := fsb_ok s hs hs0
  generalize hfe : fsb s = f at *
  have hf8 : f < 8 := hf.1
  have loop : ∀ (z9 : Nat) (j : Nat) (xj : Int32) (t1 : xT), 8 - j < z9 → xj = nI j → t1 = set2 t s (sst (t (45 + f)) (t 53) s (f) j (-1, t 54 s)) → f ≤ j → j ≤ max f n → gm p l e rmX4_settleSet s0 m args below meth c 6 G O (xmQ below G O (xv (fun t' => t' = set2 t s (sst (t (45 + f)) (t 53) s (f) n (-1, t 54 s)))) args s0) (t1) [some (.ref (O.size + 43)), some (.int (nI s)), some (.int (nI n)), some (.int (nI f)), some (.int (xj)), none] 15 [] := by
    intro z9
    induction z9 with
    | zero => intro j xj t1 h9; exact absurd h9 (Nat.not_lt_zero _)
    | succ z9 ih =>
      intro j xj t1 h9 hxj ht1 hfj hjn
      subst hxj
      subst ht1
      refine g_iload (pc := 15) X dX4_settleSet_15 rfl ?_
      refine g_iload_n (pc := 17) X dX4_settleSet_17 rfl rfl ?_
      refine g_icmp_ge (pc := 18) (tgt := 113) X dX4_settleSet_18 (by decide) (fun hc_18 => ?_) (fun hc_18 => ?_)
      · exact gm_vret (pc := 113) X hr hk dX4_settleSet_113 (by rw [show sst (t (45 + f)) (t 53) s f j (-1, t 54 s) = sst (t (45 + f)) (t 53) s f n (-1, t 54 s) by have := n_ge hc_18; rcases Nat.le_total f n with q | q; rw [show j = n by omega]; rw [sst_low (by omega), sst_low q]])
      · have hjl : j < n := n_gt hc_18
        refine g_iload_n (pc := 21) X dX4_settleSet_21 rfl rfl ?_
        refine g_iload (pc := 22) X dX4_settleSet_22 rfl ?_
        refine gm_Si (pc := 24) X xc_X4_56 (c_isIn l G O _ s j hs (by omega)) dX4_settleSet_24 rfl rfl rfl (Nat.le_of_ble_eq_true rfl) (fun v_24 t_24 hp => ?_)
        obtain ⟨rfl, hq9⟩ := hp
        have hq9 := hq9.symm
        subst hq9
        refine g_if_eq (pc := 27) (tgt := 107) X dX4_settleSet_27 (by decide) (fun hc_27 => ?_) (fun hc_27 => ?_)
        · refine g_inc (pc := 107) (kv := 1) X dX4_settleSet_107 (by decide) rfl (by decide) ?_
          refine g_goto (pc := 110) (tgt := 15) X dX4_settleSet_110 (by decide) ?_
          refine g_wk 5 ?_
          exact ih (j + 1) _ _ (by omega) (nI_1 j) (by rw [← sst_no (fun q => bi_0 hc_27 q.2.1)]) (by omega) (by omega)
        · refine g_aload_n (pc := 30) X dX4_settleSet_30 rfl rfl ?_
          refine gm_getR (k' := 44) (pc := 31) (j := 0) X 4 dX4_settleSet_31 rfl (by decide) rfl xu_4 (by decide) rfl xw_218 rfl rfl ?_
          refine g_iload_n (pc := 34) X dX4_settleSet_34 rfl rfl ?_
          refine gm_aald (pc := 35) (k' := (45 + f)) X 11 (f) (.array .int) dX4_settleSet_35 rfl (by decide) (by decide) rfl rfl rfl (show f < 8 from by omega) (by decide) (kd_cost f hf8).1 ?_
          refine g_iload (pc := 36) X dX4_settleSet_36 rfl ?_
          refine gm_iald (pc := 38) X (j) dX4_settleSet_38 (kd_cost f hf8).2.1 rfl (by rw [(kd_cost f hf8).2.2]; omega) (by rw [(kd_cost f hf8).2.2]; decide) ?_
          refine g_iconst (pc := 39) (v := (-1)) X dX4_settleSet_39 (by decide) ?_
          refine g_icmp_ne (pc := 40) (tgt := 46) X dX4_settleSet_40 (by decide) (fun hc_40 => ?_) (fun hc_40 => ?_)
          · rw [set2_ne t s _ j (by omega) (by omega)] at hc_40
            have htk : f ≤ j ∧ s.testBit j = true ∧ ¬ t (45 + f) j = -1 := ⟨hfj, bi_1 hc_27, hc_40⟩
            refine g_aload_n (pc := 46) X dX4_settleSet_46 rfl rfl ?_
            refine gm_getR (k' := 44) (pc := 47) (j := 0) X 4 dX4_settleSet_47 rfl (by decide) rfl xu_4 (by decide) rfl xw_218 rfl rfl ?_
            refine g_iload_n (pc := 50) X dX4_settleSet_50 rfl rfl ?_
            refine gm_aald (pc := 51) (k' := (45 + f)) X 11 (f) (.array .int) dX4_settleSet_51 rfl (by decide) (by decide) rfl rfl rfl (show f < 8 from by omega) (by decide) (kd_cost f hf8).1 ?_
            refine g_iload (pc := 52) X dX4_settleSet_52 rfl ?_
            refine gm_iald (pc := 54) X (j) dX4_settleSet_54 (kd_cost f hf8).2.1 rfl (by rw [(kd_cost f hf8).2.2]; omega) (by rw [(kd_cost f hf8).2.2]; decide) ?_
            refine g_aload_n (pc := 55) X dX4_settleSet_55 rfl rfl ?_
            refine gm_getR (k' := 53) (pc := 56) (j := 1) X 4 dX4_settleSet_56 rfl (by decide) rfl xu_4 (by decide) rfl xw_219 rfl rfl ?_
            refine g_iload_n (pc := 59) X dX4_settleSet_59 rfl rfl ?_
            refine g_iload_n (pc := 60) X dX4_settleSet_60 rfl rfl ?_
            refine g_iload (pc := 61) X dX4_settleSet_61 rfl ?_
            refine gm_Si (pc := 63) X xc_X4_59 (c_without l G O _ s f j hs (by omega) (by omega)) dX4_settleSet_63 rfl rfl rfl (Nat.le_of_ble_eq_true rfl) (fun v_63 t_63 hp => ?_)
            obtain ⟨rfl, hq9⟩ := hp
            have hq9 := hq9.symm
            subst hq9
            refine gm_iald (pc := 66) X (wo s f j) dX4_settleSet_66 rfl rfl (show wo s f j < 256 from by have := wo_le s f j; omega) (by decide) ?_
            refine g_iadd (pc := 67) X dX4_settleSet_67 ?_
            rw [set2_ne t s _ j (by omega) (by omega), set2_53 t s _ (Nat.ne_of_lt (wo_lt (by omega) (by omega) hf.2.1))]
            refine g_istore (pc := 68) X dX4_settleSet_68 (by decide) ?_
            refine g_aload_n (pc := 70) X dX4_settleSet_70 rfl rfl ?_
            refine gm_getR (k' := 53) (pc := 71) (j := 1) X 4 dX4_settleSet_71 rfl (by decide) rfl xu_4 (by decide) rfl xw_219 rfl rfl ?_
            refine g_iload_n (pc := 74) X dX4_settleSet_74 rfl rfl ?_
            refine gm_iald (pc := 75) X (s) dX4_settleSet_75 rfl rfl (show s < 256 from by omega) (by decide) ?_
            refine g_iconst (pc := 76) (v := (-1)) X dX4_settleSet_76 (by decide) ?_
            refine g_icmp_eq (pc := 77) (tgt := 91) X dX4_settleSet_77 (by decide) (fun hc_77 => ?_) (fun hc_77 => ?_)
            · refine g_aload_n (pc := 91) X dX4_settleSet_91 rfl rfl ?_
              refine gm_getR (k' := 53) (pc := 92) (j := 1) X 4 dX4_settleSet_92 rfl (by decide) rfl xu_4 (by decide) rfl xw_219 rfl rfl ?_
              refine g_iload_n (pc := 95) X dX4_settleSet_95 rfl rfl ?_
              refine g_iload (pc := 96) X dX4_settleSet_96 rfl ?_
              refine gm_iast (pc := 98) X (s) dX4_settleSet_98 rfl rfl (show s < 256 from by omega) (by decide) ?_
              refine g_aload_n (pc := 99) X dX4_settleSet_99 rfl rfl ?_
              refine gm_getR (k' := 54) (pc := 100) (j := 2) X 4 dX4_settleSet_100 rfl (by decide) rfl xu_4 (by decide) rfl xw_220 rfl rfl ?_
              refine g_iload_n (pc := 103) X dX4_settleSet_103 rfl rfl ?_
              refine g_iload (pc := 104) X dX4_settleSet_104 rfl ?_
              refine gm_iast (pc := 106) X (s) dX4_settleSet_106 rfl rfl (show s < 256 from by omega) (by decide) ?_
              refine g_inc (pc := 107) (kv := 1) X dX4_settleSet_107 (by decide) rfl (by decide) ?_
              refine g_goto (pc := 110) (tgt := 15) X dX4_settleSet_110 (by decide) ?_
              refine g_wk 5 ?_
              exact ih (j + 1) _ _ (by omega) (nI_1 j) (by rw [set2_1] at hc_77; rw [set2_new, ← sst_take htk (Or.inl hc_77)]) (by omega) (by omega)
            · refine g_iload (pc := 80) X dX4_settleSet_80 rfl ?_
              refine g_aload_n (pc := 82) X dX4_settleSet_82 rfl rfl ?_
              refine gm_getR (k' := 53) (pc := 83) (j := 1) X 4 dX4_settleSet_83 rfl (by decide) rfl xu_4 (by decide) rfl xw_219 rfl rfl ?_
              refine g_iload_n (pc := 86) X dX4_settleSet_86 rfl rfl ?_
              refine gm_iald (pc := 87) X (s) dX4_settleSet_87 rfl rfl (show s < 256 from by omega) (by decide) ?_
              refine g_icmp_ge (pc := 88) (tgt := 107) X dX4_settleSet_88 (by decide) (fun hc_88 => ?_) (fun hc_88 => ?_)
              · refine g_inc (pc := 107) (kv := 1) X dX4_settleSet_107 (by decide) rfl (by decide) ?_
                refine g_goto (pc := 110) (tgt := 15) X dX4_settleSet_110 (by decide) ?_
                refine g_wk 5 ?_
                exact ih (j + 1) _ _ (by omega) (nI_1 j) (by rw [set2_1] at hc_77 hc_88; rw [← sst_keep (by rintro (q | q); exact hc_77 q; exact k2_nlt hc_88 q)]) (by omega) (by omega)
              · refine g_aload_n (pc := 91) X dX4_settleSet_91 rfl rfl ?_
                refine gm_getR (k' := 53) (pc := 92) (j := 1) X 4 dX4_settleSet_92 rfl (by decide) rfl xu_4 (by decide) rfl xw_219 rfl rfl ?_
                refine g_iload_n (pc := 95) X dX4_settleSet_95 rfl rfl ?_
                refine g_iload (pc := 96) X dX4_settleSet_96 rfl ?_
                refine gm_iast (pc := 98) X (s) dX4_settleSet_98 rfl rfl (show s < 256 from by omega) (by decide) ?_
                refine g_aload_n (pc := 99) X dX4_settleSet_99 rfl rfl ?_
                refine gm_getR (k' := 54) (pc := 100) (j := 2) X 4 dX4_settleSet_100 rfl (by decide) rfl xu_4 (by decide) rfl xw_220 rfl rfl ?_
                refine g_iload_n (pc := 103) X dX4_settleSet_103 rfl rfl ?_
                refine g_iload (pc := 104) X dX4_settleSet_104 rfl ?_
                refine gm_iast (pc := 106) X (s) dX4_settleSet_106 rfl rfl (show s < 256 from by omega) (by decide) ?_
                refine g_inc (pc := 107) (kv := 1) X dX4_settleSet_107 (by decide) rfl (by decide) ?_
                refine g_goto (pc := 110) (tgt := 15) X dX4_settleSet_110 (by decide) ?_
                refine g_wk 5 ?_
                exact ih (j + 1) _ _ (by omega) (nI_1 j) (by rw [set2_1] at hc_88; rw [set2_new, ← sst_take htk (Or.inr (k2_lt hc_88))]) (by omega) (by omega)
          · refine g_goto (pc := 43) (tgt := 107) X dX4_settleSet_43 (by decide) ?_
            refine g_inc (pc := 107) (kv := 1) X dX4_settleSet_107 (by decide) rfl (by decide) ?_
            refine g_goto (pc := 110) (tgt := 15) X dX4_settleSet_110 (by decide) ?_
            refine g_wk 5 ?_
            exact ih (j + 1) _ _ (by omega) (nI_1 j) (by rw [set2_ne t s _ j (by omega) (by omega)] at hc_40; rw [← sst_no (fun q => q.2.2 hc_40)]) (by omega) (by omega)
  refine g_iload_n (pc := 0) X dX4_settleSet_0 rfl rfl ?_
  refine gm_Si (pc := 1) X xc_X4_52 (c_firstOf l G O _ s hs hs0) dX4_settleSet_1 rfl rfl rfl (Nat.le_of_ble_eq_true rfl) (fun v_1 t_1 hp => ?_)
  obtain ⟨rfl, hq9⟩ := hp
  have hq9 := hq9.symm
  subst hq9
  rw [hfe]
  refine g_istore_n (pc := 4) X dX4_settleSet_4 rfl (by decide) ?_
  refine g_aload_n (pc := 5) X dX4_settleSet_5 rfl rfl ?_
  refine gm_getR (k' := 53) (pc := 6) (j := 1) X 4 dX4_settleSet_6 rfl (by decide) rfl xu_4 (by decide) rfl xw_219 rfl rfl ?_
  refine g_iload_n (pc := 9) X dX4_settleSet_9 rfl rfl ?_
  refine g_iconst (pc := 10) (v := (-1)) X dX4_settleSet_10 (by decide) ?_
  refine gm_iast (pc := 11) X (s) dX4_settleSet_11 rfl rfl (show s < 256 from by omega) (by decide) ?_
  refine g_iload_n (pc := 12) X dX4_settleSet_12 rfl rfl ?_
  refine g_istore (pc := 13) X dX4_settleSet_13 (by decide) ?_
  exact loop 9 f _ _ (by omega) rfl (by rw [sst_low (Nat.le_refl f)]; exact set2_ini t s (-1)) (Nat.le_refl f) (by omega)
end
section
/-! 05b: Pairing.settle -/
abbrev bsC (t : xT) (pl a b : Nat) : B4 := bsg (ptC t) (sdC t) (rlC t) (fC t) pl (min a b) (max a b) (-1, -1, -1, -1)
theorem mayb_cong {f g : Nat → Int32} {u : Option Nat} {q : Int32} (h : ∀ k, u = some k → f k = g k) : mayb f u q = mayb g u q := by
  cases u with
  | none => rfl
  | some k => show decide (f k = q ∨ f k = 2) = decide (g k = q ∨ g k = 2); rw [h k rfl]
theorem trg_cong {f g : Nat → Int32} {F F2 : Option Nat → Option Nat → Nat → Int32} {pl : Nat} {u v : Option Nat} {b : B4} (hu : ∀ k, u = some k → f k = g k) (hv : ∀ k, v = some k → f k = g k) (hF : ∀ p, p < pl → F u v p = F2 u v p) : trg f F pl u v b = trg g F2 pl u v b := by
  unfold trg
  rw [mayb_cong hu, mayb_cong hv, tw_cong hF]
theorem bsg_cong {p1 p2 s1 s2 r1 r2 : Nat → Int32} {F F2 : Option Nat → Option Nat → Nat → Int32} {pl x y : Nat} {b : B4} (hp : p1 x = p2 x ∧ p1 y = p2 y) (hs : s1 x = s2 x ∧ s1 y = s2 y) (hr : r1 x = r2 x ∧ r1 y = r2 y)
    (hF : ∀ u v : Option Nat, (∀ k, u = some k → k = x ∨ k = y) → (∀ k, v = some k → k = x ∨ k = y) → ∀ p, p < pl → F u v p = F2 u v p) : bsg p1 s1 r1 F pl x y b = bsg p2 s2 r2 F2 pl x y b := by
  have e : ∀ k, k = x ∨ k = y → p1 k = p2 k := fun k h => by rcases h with rfl | rfl; exact hp.1; exact hp.2
  have nn : ∀ k, (none : Option Nat) = some k → k = x ∨ k = y := fun k h => by cases h
  have nx : ∀ k, some x = some k → k = x ∨ k = y := fun k h => by cases h; exact Or.inl rfl
  have ny : ∀ k, some y = some k → k = x ∨ k = y := fun k h => by cases h; exact Or.inr rfl
  have tc : ∀ (u v : Option Nat) (b : B4), (∀ k, u = some k → k = x ∨ k = y) → (∀ k, v = some k → k = x ∨ k = y) → trg p1 F pl u v b = trg p2 F2 pl u v b := fun u v b hu hv => trg_cong (fun k h => e k (hu k h)) (fun k h => e k (hv k h)) (hF u v hu hv)
  unfold bsg
  rw [tc none (some x) _ nn nx, tc (some x) none _ nx nn, tc (some y) (some x) _ ny nx, tc (some x) (some y) _ nx ny, hs.1, hs.2, hr.1, hr.2]
theorem bsC_cong {t t1 : xT} (h : ∀ x y, (8 ≤ x ∧ x < 24) ∨ (26 ≤ x ∧ x < 43) → t1 x y = t x y) {pl a b : Nat} (ha : a < 8) (hb : b < 8) : bsC t1 pl a b = bsC t pl a b := by
  have hx : min a b < 8 := by omega
  have hy : max a b < 8 := by omega
  refine bsg_cong ⟨h _ _ (Or.inl ⟨by omega, by omega⟩), h _ _ (Or.inl ⟨by omega, by omega⟩)⟩ ⟨h _ _ (Or.inl ⟨by omega, by omega⟩), h _ _ (Or.inl ⟨by omega, by omega⟩)⟩ ⟨h _ _ (Or.inl ⟨by omega, by omega⟩), h _ _ (Or.inl ⟨by omega, by omega⟩)⟩ ?_
  intro u v hu hv p hp
  have r0 := rcell_ok (u := u) (q := 0) (fun k hk => by rcases hu k hk with rfl | rfl <;> assumption) (by decide)
  have r1 := rcell_ok (u := v) (q := 1) (fun k hk => by rcases hv k hk with rfl | rfl <;> assumption) (by decide)
  show t1 (rcell u 0) p + t1 (rcell v 1) p = t (rcell u 0) p + t (rcell v 1) p
  rw [h _ p (Or.inr r0.2.2), h _ p (Or.inr r1.2.2)]
/-- what two halves cost as a leaf -/
def cst (b : B4) (pv : Int32) : Int32 := if b.2.2.2 = -1 then -1 else b.2.2.2 + pv
def dp (C : Nat → Nat → Int32) (n : Nat) (s : Nat) : Int32 :=
  if s = 0 then 0 else (sst (C (fsb s)) (fun x => if h : x < s then dp C n x else 0) s (fsb s) n (-1, -1)).1
termination_by s
decreasing_by exact h
/-- the best sum of a set and its first half's mate -/
def dm (C : Nat → Nat → Int32) (n : Nat) (s : Nat) : Int32 × Int32 := sst (C (fsb s)) (dp C n) s (fsb s) n (-1, -1)
theorem sst_ini {C T : Nat → Int32} {s f : Nat} {a b : Int32} : ∀ {n : Nat}, (sst C T s f n (-1, a)).1 = (sst C T s f n (-1, b)).1 ∧ (¬ (sst C T s f n (-1, a)).1 = -1 → sst C T s f n (-1, a) = sst C T s f n (-1, b))
  | 0 => ⟨rfl, fun h => absurd rfl h⟩
  | n + 1 => by
    obtain ⟨h1, h2⟩ := sst_ini (C := C) (T := T) (s := s) (f := f) (a := a) (b := b) (n := n)
    rw [sst.eq_2, sst.eq_2]
    by_cases q : f ≤ n ∧ s.testBit n = true ∧ ¬ C n = -1
    · rw [if_pos q, if_pos q, ← h1]
      by_cases q2 : (sst C T s f n (-1, a)).1 = -1 ∨ C n + T (wo s f n) < (sst C T s f n (-1, a)).1
      · rw [if_pos q2, if_pos q2]; exact ⟨rfl, fun _ => rfl⟩
      · rw [if_neg q2, if_neg q2]; exact ⟨h1, h2⟩
    · rw [if_neg q, if_neg q]; exact ⟨h1, h2⟩
theorem dp_0 (C : Nat → Nat → Int32) (n : Nat) : dp C n 0 = 0 := by rw [dp, if_pos rfl]
theorem dp_dm (C : Nat → Nat → Int32) {n s : Nat} (hs : s < 256) (hs0 : s ≠ 0) (hn : n ≤ 8) : dp C n s = (dm C n s).1 := by
  have hf := fsb_ok s hs hs0
  rw [dp, if_neg hs0]
  unfold dm
  rw [sst_cong (C2 := C (fsb s)) (T2 := dp C n) (fun _ _ _ => rfl) (fun j _ hj _ => dif_pos (wo_lt hf.1 (by omega) hf.2.1))]
theorem dm_of {C : Nat → Nat → Int32} {n s : Nat} {c T : Nat → Int32} {a : Int32} (hs : s < 256) (hs0 : s ≠ 0) (hn : n ≤ 8) (hc : ∀ j, fsb s ≤ j → j < n → c j = C (fsb s) j) (hT : ∀ x, x < s → T x = dp C n x) : (sst c T s (fsb s) n (-1, a)).1 = dp C n s ∧ (¬ dp C n s = -1 → (sst c T s (fsb s) n (-1, a)).2 = (dm C n s).2) := by
  have hf := fsb_ok s hs hs0
  have e : sst c T s (fsb s) n (-1, a) = sst (C (fsb s)) (dp C n) s (fsb s) n (-1, a) := sst_cong hc (fun j _ hj _ => hT _ (wo_lt hf.1 (by omega) hf.2.1))
  obtain ⟨h1, h2⟩ := sst_ini (C := C (fsb s)) (T := dp C n) (s := s) (f := fsb s) (a := a) (b := -1) (n := n)
  rw [e, dp_dm C hs hs0 hn]
  refine ⟨h1, fun h => ?_⟩
  rw [h2 (by rw [h1]; exact h)]; rfl
theorem whole_eq : ∀ n, n ≤ 8 → ((1 : Int32) <<< (nI n &&& 31)) - 1 = nI (2 ^ n - 1) := by decide
theorem pow_le : ∀ n, n ≤ 8 → 2 ^ n ≤ 256 ∧ 0 < 2 ^ n := by decide
abbrev CC (t : xT) (pl : Nat) (pv : Int32) : Nat → Nat → Int32 := fun a b => cst (bsC t pl a b) pv
set_option maxRecDepth 100000 in
set_option maxHeartbeats 4000000 in
theorem c_settle (l : Launch) (G : xg_G) (O : Heap) (t : xT) (nl nh : Nat) (pv : Int32) (hnl : nl ≤ 160) (h4 : t 4 1 = nI nl) (hnh : nh ≤ 8) (h1 : t 6 1 = nI nh) : xm l yX4_settle cX4_settle 7 none rmX4_settle G O t [.ref (O.size + 43), .ref (O.size + 3), .int (nI nh), .int pv] (xv (fun t' => t' 43 3 = nI (2 ^ nh - 1) ∧ (∀ s, s < 2 ^ nh → t' 53 s = dp (CC t (nl - 31) pv) nh s) ∧ (∀ s, 0 < s → s < 2 ^ nh → ¬ dp (CC t (nl - 31) pv) nh s = -1 → t' 54 s = (dm (CC t (nl - 31) pv) nh s).2) ∧ ∀ x y, x ≠ 24 → x ≠ 43 → ¬ (45 ≤ x ∧ x ≤ 54) → t' x y = t x y)) := by
  refine xm_enter (by decide) 3 rfl rfl ?_
  intro p e s m args below meth c X hr hk
  refine g_eq (L2 := [some (.ref (O.size + 43)), some (.ref (O.size + 3)), some (.int (nI nh)), some (.int pv), none, none, none]) rfl rfl rfl ?_
  have hpw := pow_le nh hnh
  have loop3 : ∀ (z9 : Nat) (s0 : Nat) (xs0 : Int32) (t1 : xT), 256 - s0 < z9 → xs0 = nI s0 → (∀ x y, x ≠ 24 → x ≠ 43 → ¬ (45 ≤ x ∧ x ≤ 54) → t1 x y = t x y) → t1 43 3 = nI (2 ^ nh - 1) → (∀ a b, a ≤ b → b < nh → t1 (45 + a) b = CC t (nl - 31) pv a b) → (∀ x, x < s0 → t1 53 x = dp (CC t (nl - 31) pv) nh x) → (∀ x, 0 < x → x < s0 → ¬ dp (CC t (nl - 31) pv) nh x = -1 → t1 54 x = (dm (CC t (nl - 31) pv) nh x).2) → 0 < s0 → s0 ≤ 2 ^ nh → gm p l e rmX4_settle s m args below meth c 7 G O (xmQ below G O (xv (fun t' => t' 43 3 = nI (2 ^ nh - 1) ∧ (∀ s, s < 2 ^ nh → t' 53 s = dp (CC t (nl - 31) pv) nh s) ∧ (∀ s, 0 < s → s < 2 ^ nh → ¬ dp (CC t (nl - 31) pv) nh s = -1 → t' 54 s = (dm (CC t (nl - 31) pv) nh s).2) ∧ ∀ x y, x ≠ 24 → x ≠ 43 → ¬ (45 ≤ x ∧ x ≤ 54) → t' x y = t x y)) args s) (t1) [some (.ref (O.size + 43)), some (.ref (O.size + 3)), some (.int (nI nh)), some (.int (pv)), some (.int (nI nh)), some (.int (xs0)), none] 95 [] := by
    intro z9
    induction z9 with
    | zero => intro s0 xs0 t1 h9; exact absurd h9 (Nat.not_lt_zero _)
    | succ z9 ih =>
      intro s0 xs0 t1 h9 hxs0 hoff hw hc hD hM hs1 hs2
      subst hxs0
      refine g_iload (pc := 95) X dX4_settle_95 rfl ?_
      refine g_aload_n (pc := 97) X dX4_settle_97 rfl rfl ?_
      refine gm_getI (pc := 98) (j := 3) X 4 dX4_settle_98 rfl (by decide) rfl xu_4 (by decide) rfl xw_221 rfl ?_
      refine g_icmp_gt (pc := 101) (tgt := 118) X dX4_settle_101 (by decide) (fun hc_101 => ?_) (fun hc_101 => ?_)
      · exact gm_vret (pc := 118) X hr hk dX4_settle_118 (⟨hw, fun x hx => hD x (by rw [hw] at hc_101; have := n_l hc_101; omega), fun x h0 hx => hM x h0 (by rw [hw] at hc_101; have := n_l hc_101; omega), hoff⟩)
      · have hsl : s0 < 2 ^ nh := by rw [hw] at hc_101; have := n_nl hc_101; omega
        have hs256 : s0 < 256 := by omega
        obtain ⟨r1, r2⟩ := dm_of (C := CC t (nl - 31) pv) (n := nh) (s := s0) (c := t1 (45 + fsb s0)) (T := t1 53) (a := t1 54 s0) hs256 (by omega) hnh (fun j hj1 hj2 => hc _ j hj1 hj2) hD
        refine g_aload_n (pc := 104) X dX4_settle_104 rfl rfl ?_
        refine g_iload (pc := 105) X dX4_settle_105 rfl ?_
        refine g_iload (pc := 107) X dX4_settle_107 rfl ?_
        refine gm_Vv (pc := 109) X 4 xc_X4_48 (c_settleSet l G O _ s0 nh hs256 (by omega) hnh) dX4_settle_109 rfl (by decide) rfl rfl rfl rfl (Nat.le_of_ble_eq_true rfl) (fun t_109 hp => ?_)
        subst hp
        refine g_inc (pc := 112) (kv := 1) X dX4_settle_112 (by decide) rfl (by decide) ?_
        refine g_goto (pc := 115) (tgt := 95) X dX4_settle_115 (by decide) ?_
        exact ih (s0 + 1) _ _ (by omega) (nI_1 s0) (fun x y a b c => by rw [set2_ne _ _ _ _ (by omega) (by omega)]; exact hoff x y a b c) (by rw [set2_ne _ _ _ _ (by omega) (by omega)]; exact hw) (fun a b h1 h2 => by rw [set2_ne _ _ _ _ (by omega) (by omega)]; exact hc a b h1 h2)
          (fun x hx => by
            by_cases q : x = s0
            · subst q; rw [set2_1]; exact r1
            · rw [set2_53 _ _ _ q]; exact hD x (by omega))
          (fun x h0 hx hne => by
            by_cases q : x = s0
            · subst q; show set2 _ _ _ 54 _ = _; rw [show ∀ b, set2 t1 x b 54 x = b.2 from fun b => by simp [set2, xt]]; exact r2 hne
            · rw [show ∀ b, set2 t1 s0 b 54 x = t1 54 x from fun b => by simp [set2, xt, q]]; exact hM x h0 (by omega) hne)
          (by omega) (by omega)
  have loop1 : ∀ (z9 : Nat) (a : Nat) (xa : Int32) (t1 : xT), 8 - a < z9 → xa = nI a → (∀ x y, x ≠ 24 → x ≠ 43 → ¬ (45 ≤ x ∧ x ≤ 52) → t1 x y = t x y) → t1 43 3 = nI (2 ^ nh - 1) → (∀ a' b', a' < a → a' ≤ b' → b' < nh → t1 (45 + a') b' = CC t (nl - 31) pv a' b') → a ≤ nh → gm p l e rmX4_settle s m args below meth c 7 G O (xmQ below G O (xv (fun t' => t' 43 3 = nI (2 ^ nh - 1) ∧ (∀ s, s < 2 ^ nh → t' 53 s = dp (CC t (nl - 31) pv) nh s) ∧ (∀ s, 0 < s → s < 2 ^ nh → ¬ dp (CC t (nl - 31) pv) nh s = -1 → t' 54 s = (dm (CC t (nl - 31) pv) nh s).2) ∧ ∀ x y, x ≠ 24 → x ≠ 43 → ¬ (45 ≤ x ∧ x ≤ 54) → t' x y = t x y)) args s) (t1) [some (.ref (O.size + 43)), some (.ref (O.size + 3)), some (.int (nI nh)), some (.int (pv)), some (.int (nI nh)), some (.int (xa)), none] 21 [] := by
    intro z9
    induction z9 with
    | zero => intro a xa t1 h9; exact absurd h9 (Nat.not_lt_zero _)
    | succ z9 ih =>
      intro a xa t1 h9 hxa hoff hw hc han
      subst hxa
      refine g_iload (pc := 21) X dX4_settle_21 rfl ?_
      refine g_iload (pc := 23) X dX4_settle_23 rfl ?_
      refine g_icmp_ge (pc := 25) (tgt := 85) X dX4_settle_25 (by decide) (fun hc_25 => ?_) (fun hc_25 => ?_)
      · refine g_aload_n (pc := 85) X dX4_settle_85 rfl rfl ?_
        refine gm_getR (k' := 53) (pc := 86) (j := 1) X 4 dX4_settle_86 rfl (by decide) rfl xu_4 (by decide) rfl xw_219 rfl rfl ?_
        refine g_iconst (pc := 89) (v := 0) X dX4_settle_89 (by decide) ?_
        refine g_iconst (pc := 90) (v := 0) X dX4_settle_90 (by decide) ?_
        refine gm_iast (pc := 91) X (0) dX4_settle_91 rfl nI_0.symm (show 0 < 256 from by decide) (by decide) ?_
        refine g_iconst (pc := 92) (v := 1) X dX4_settle_92 (by decide) ?_
        refine g_istore (pc := 93) X dX4_settle_93 (by decide) ?_
        refine g_wk 6 ?_
        exact loop3 257 1 _ _ (by omega) rfl (fun x y a b c => by rw [xt_nk _ _ _ _ (by omega)]; exact hoff x y a b (by omega)) (by rw [xt_nk _ _ _ _ (by omega)]; exact hw) (fun a' b' h1 h2 => by rw [xt_nk _ _ _ _ (by omega)]; exact hc a' b' (by have := n_ge hc_25; omega) h1 h2) (fun x hx => by rw [show x = 0 by omega, xt_same, dp_0]) (fun x h0 hx => by omega) (by omega) hpw.2
      · have hal : a < nh := n_gt hc_25
        refine g_iload (pc := 28) X dX4_settle_28 rfl ?_
        refine g_istore (pc := 30) X dX4_settle_30 (by decide) ?_
        have loop2 : ∀ (z9 : Nat) (b : Nat) (xb : Int32) (t2 : xT), 8 - b < z9 → xb = nI b → (∀ x y, x ≠ 24 → x ≠ 43 → ¬ (45 ≤ x ∧ x ≤ 52) → t2 x y = t x y) → t2 43 3 = nI (2 ^ nh - 1) → (∀ a' b', (a' < a ∨ (a' = a ∧ b' < b)) → a' ≤ b' → b' < nh → t2 (45 + a') b' = CC t (nl - 31) pv a' b') → a ≤ b → b ≤ nh → gm p l e rmX4_settle s m args below meth c 7 G O (xmQ below G O (xv (fun t' => t' 43 3 = nI (2 ^ nh - 1) ∧ (∀ s, s < 2 ^ nh → t' 53 s = dp (CC t (nl - 31) pv) nh s) ∧ (∀ s, 0 < s → s < 2 ^ nh → ¬ dp (CC t (nl - 31) pv) nh s = -1 → t' 54 s = (dm (CC t (nl - 31) pv) nh s).2) ∧ ∀ x y, x ≠ 24 → x ≠ 43 → ¬ (45 ≤ x ∧ x ≤ 54) → t' x y = t x y)) args s) (t2) [some (.ref (O.size + 43)), some (.ref (O.size + 3)), some (.int (nI nh)), some (.int (pv)), some (.int (nI nh)), some (.int (nI a)), some (.int (xb))] 32 [] := by
          intro z9
          induction z9 with
          | zero => intro b xb t2 h9; exact absurd h9 (Nat.not_lt_zero _)
          | succ z9 ih2 =>
            intro b xb t2 h9 hxb hoff2 hw2 hc2 hab hbn
            subst hxb
            refine g_iload (pc := 32) X dX4_settle_32 rfl ?_
            refine g_iload (pc := 34) X dX4_settle_34 rfl ?_
            refine g_icmp_ge (pc := 36) (tgt := 79) X dX4_settle_36 (by decide) (fun hc_36 => ?_) (fun hc_36 => ?_)
            · refine g_inc (pc := 79) (kv := 1) X dX4_settle_79 (by decide) rfl (by decide) ?_
              refine g_goto (pc := 82) (tgt := 21) X dX4_settle_82 (by decide) ?_
              refine g_wk 6 ?_
              exact ih (a + 1) _ _ (by omega) (nI_1 a) hoff2 hw2 (fun a' b' q1 q2 q3 => hc2 a' b' (by have := n_ge hc_36; omega) q2 q3) (by omega)
            · have hbl : b < nh := n_gt hc_36
              have ebs : bsC t2 (nl - 31) a b = bsC t (nl - 31) a b := bsC_cong (fun x y hxy => hoff2 x y (by omega) (by omega) (by omega)) (by omega) (by omega)
              have fin2 : ∀ v : Int32, v = CC t (nl - 31) pv a b → gm p l e rmX4_settle s m args below meth c 7 G O (xmQ below G O (xv (fun t' => t' 43 3 = nI (2 ^ nh - 1) ∧ (∀ s, s < 2 ^ nh → t' 53 s = dp (CC t (nl - 31) pv) nh s) ∧ (∀ s, 0 < s → s < 2 ^ nh → ¬ dp (CC t (nl - 31) pv) nh s = -1 → t' 54 s = (dm (CC t (nl - 31) pv) nh s).2) ∧ ∀ x y, x ≠ 24 → x ≠ 43 → ¬ (45 ≤ x ∧ x ≤ 54) → t' x y = t x y)) args s) (xt (setB t2 (bsC t (nl - 31) a b)) (45 + a) b v) [some (.ref (O.size + 43)), some (.ref (O.size + 3)), some (.int (nI nh)), some (.int (pv)), some (.int (nI nh)), some (.int (nI a)), some (.int (nI b + 1))] 32 [] := by
                intro v hv
                have hb2 : b < nh := n_gt hc_36
                exact ih2 (b + 1) _ _ (by omega) (nI_1 b) (fun x y q1 q2 q3 => by rw [xt_nk _ _ _ _ (by omega), setB_ne _ _ _ q1]; exact hoff2 x y q1 q2 q3) (by rw [xt_nk _ _ _ _ (by omega), setB_ne _ _ _ (by omega)]; exact hw2)
                  (fun a' b' q1 q2 q3 => by
                    by_cases q : a' = a ∧ b' = b
                    · obtain ⟨rfl, rfl⟩ := q; rw [xt_same]; exact hv
                    · rw [xt_ne _ _ (by omega), setB_ne _ _ _ (by omega)]; exact hc2 a' b' (by omega) q2 q3) (by omega) (by omega)
              refine g_aload_n (pc := 39) X dX4_settle_39 rfl rfl ?_
              refine gm_getR (k' := 44) (pc := 40) (j := 0) X 4 dX4_settle_40 rfl (by decide) rfl xu_4 (by decide) rfl xw_218 rfl rfl ?_
              refine g_iload (pc := 43) X dX4_settle_43 rfl ?_
              refine gm_aald (pc := 45) (k' := (45 + a)) X 11 (a) (.array .int) dX4_settle_45 rfl (by decide) (by decide) rfl rfl rfl (show a < 8 from by omega) (by decide) (kd_cost a (by omega)).1 ?_
              refine g_iload (pc := 46) X dX4_settle_46 rfl ?_
              refine g_aload_n (pc := 48) X dX4_settle_48 rfl rfl ?_
              refine g_iload (pc := 49) X dX4_settle_49 rfl ?_
              refine g_iload (pc := 51) X dX4_settle_51 rfl ?_
              refine gm_Vi (pc := 53) X 5 xc_X4_33 (c_seekBest l G O _ nl nh a b hnl (by rw [hoff2 4 1 (by decide) (by decide) (by decide)]; exact h4) hnh (by rw [hoff2 6 1 (by decide) (by decide) (by decide)]; exact h1) hal hbl) dX4_settle_53 rfl (by decide) rfl rfl rfl rfl (Nat.le_of_ble_eq_true rfl) (fun v_53 t_53 hp => ?_)
              obtain ⟨hv53, ht53⟩ := hp
              have ev : v_53 = bi (¬ (bsC t2 (nl - 31) a b).2.2.2 = -1) := hv53
              have et : t_53 = setB t2 (bsC t2 (nl - 31) a b) := ht53
              rw [ebs] at ev et
              subst ev
              subst et
              clear hv53 ht53
              refine g_if_eq (pc := 56) (tgt := 71) X dX4_settle_56 (by decide) (fun hc_56 => ?_) (fun hc_56 => ?_)
              · refine g_iconst (pc := 71) (v := (-1)) X dX4_settle_71 (by decide) ?_
                refine gm_iast (pc := 72) X (b) dX4_settle_72 (kd_cost a (show a < 8 by omega)).2.1 rfl (by rw [(kd_cost a (show a < 8 by omega)).2.2]; omega) (by rw [(kd_cost a (show a < 8 by omega)).2.2]; decide) ?_
                refine g_inc (pc := 73) (kv := 1) X dX4_settle_73 (by decide) rfl (by decide) ?_
                refine g_goto (pc := 76) (tgt := 32) X dX4_settle_76 (by decide) ?_
                exact fin2 _ (by show _ = cst _ _; unfold cst; rw [if_pos (Decidable.not_not.mp (bi_0 hc_56))])
              · refine g_aload_n (pc := 59) X dX4_settle_59 rfl rfl ?_
                refine gm_getR (k' := 24) (pc := 60) (j := 2) X 5 dX4_settle_60 rfl (by decide) rfl xu_5 (by decide) rfl xw_196 rfl rfl ?_
                refine gm_getI (pc := 63) (j := 3) X 3 dX4_settle_63 rfl (by decide) rfl xu_3 (by decide) rfl xw_161 rfl ?_
                rw [setB_q]
                refine g_iload_n (pc := 66) X dX4_settle_66 rfl rfl ?_
                refine g_iadd (pc := 67) X dX4_settle_67 ?_
                refine g_goto (pc := 68) (tgt := 72) X dX4_settle_68 (by decide) ?_
                refine gm_iast (pc := 72) X (b) dX4_settle_72 (kd_cost a (show a < 8 by omega)).2.1 rfl (by rw [(kd_cost a (show a < 8 by omega)).2.2]; omega) (by rw [(kd_cost a (show a < 8 by omega)).2.2]; decide) ?_
                refine g_inc (pc := 73) (kv := 1) X dX4_settle_73 (by decide) rfl (by decide) ?_
                refine g_goto (pc := 76) (tgt := 32) X dX4_settle_76 (by decide) ?_
                exact fin2 _ (by show _ = cst _ _; unfold cst; rw [if_neg (bi_1 hc_56)])
        exact loop2 9 a _ _ (by omega) rfl hoff hw (fun a' b' q1 q2 q3 => hc a' b' (by omega) q2 q3) (Nat.le_refl a) (by omega)
  refine g_iload_n (pc := 0) X dX4_settle_0 rfl rfl ?_
  refine g_bipush (pc := 1) (v := 8) X dX4_settle_1 (by decide) ?_
  refine g_min (pc := 3) X dX4_settle_3 xw_460 xw_424 xw_44 xw_425 (by decide) (Nat.le_of_ble_eq_true rfl) (Nat.zero_le _) (Nat.zero_le _) ?_
  rw [show (8 : Int32) = nI 8 from rfl, min_nI (by omega) (by omega), Nat.min_eq_left hnh]
  refine g_istore (pc := 6) X dX4_settle_6 (by decide) ?_
  refine g_aload_n (pc := 8) X dX4_settle_8 rfl rfl ?_
  refine g_iconst (pc := 9) (v := 1) X dX4_settle_9 (by decide) ?_
  refine g_iload (pc := 10) X dX4_settle_10 rfl ?_
  refine g_ishl (pc := 12) X dX4_settle_12 ?_
  refine g_iconst (pc := 13) (v := 1) X dX4_settle_13 (by decide) ?_
  refine g_isub (pc := 14) X dX4_settle_14 ?_
  rw [whole_eq nh hnh]
  refine gm_putI (pc := 15) (j := 3) X 4 tyX4 dX4_settle_15 rfl (by decide) rfl xu_4 tyX4_ok nmX4 (by decide) rfl xw_221 rfl rfl (Or.inl rfl) ?_
  refine g_iconst (pc := 18) (v := 0) X dX4_settle_18 (by decide) ?_
  refine g_istore (pc := 19) X dX4_settle_19 (by decide) ?_
  exact loop1 9 0 _ _ (by omega) nI_0.symm (fun x y a b c => xt_nk _ _ _ _ b) (xt_same _ _ _ _) (fun a' b' q => absurd q (Nat.not_lt_zero _)) (Nat.zero_le _)
end
section
/-! 06a: Book, its small methods -/
theorem va_list {G : xg_G} {O : Heap} {t : xT} {H : Heap} (hh : xg_hp G O (xd G O t) 94 H) : va_P G.1 vwCl ((List.range 94).map (fun k => (O.size + k, xd G O t k))) H := by
  intro k q hq
  rw [List.getElem?_map] at hq
  cases hk : (List.range 94)[k]? with
  | none => rw [hk] at hq; cases hq
  | some j =>
    rw [hk] at hq
    cases hq
    have hj : j < 94 := List.mem_range.mp (List.mem_of_getElem? hk)
    exact hh.1 j hj
theorem va_listD {G : xg_G} {O : Heap} {t : xT} : va_D (fun q => O.size ≤ q) ((List.range 94).map (fun k => (O.size + k, xd G O t k))) := by
  refine ⟨fun i j p q hp hq he => ?_, fun k q hq => ?_⟩
  · rw [List.getElem?_map] at hp hq
    rcases Nat.lt_or_ge i 94 with hi | hi
    · rcases Nat.lt_or_ge j 94 with hj | hj
      · rw [List.getElem?_range hi] at hp
        rw [List.getElem?_range hj] at hq
        cases hp; cases hq
        have : O.size + i = O.size + j := he
        omega
      · rw [List.getElem?_eq_none (by simpa using hj)] at hq; cases hq
    · rw [List.getElem?_eq_none (by simpa using hi)] at hp; cases hp
  · rw [List.getElem?_map] at hq
    cases hk : (List.range 94)[k]? with
    | none => rw [hk] at hq; cases hq
    | some j => rw [hk] at hq; cases hq; exact Nat.le_add_right _ _
theorem va_listAt {G : xg_G} {O : Heap} {t : xT} {k : Nat} (hk : k < 94) : ((List.range 94).map (fun k => (O.size + k, xd G O t k)))[k]? = some (O.size + k, xd G O t k) := by
  rw [List.getElem?_map, List.getElem?_range hk]; rfl
theorem va_listBack {G : xg_G} {O : Heap} {t : xT} {k : Nat} {e : va_E} {H1 : Heap} (hk : k < 94) (h : va_P G.1 vwCl (((List.range 94).map (fun k => (O.size + k, xd G O t k))).set k (O.size + k, e)) H1) (ho : ∀ q, q < O.size → H1[q]? = O[q]?) : xg_hp G O (xg_up (xd G O t) k e) 94 H1 := by
  refine ⟨fun j hj => ?_, ho⟩
  by_cases q : j = k
  · subst q
    have := h j (O.size + j, e) (List.getElem?_set_self (by simpa using hk))
    unfold xg_up; rw [if_pos rfl]; exact this
  · have := h j (O.size + j, xd G O t j) (by rw [List.getElem?_set_ne (Ne.symm q)]; exact va_listAt hj)
    unfold xg_up; rw [if_neg q]; exact this
/-- t with the first n places of the cell k1 as those of k0 -/
def xcp (t : xT) (k0 k1 n : Nat) : xT := fun x y => if x = k1 ∧ y < n then t k0 y else t x y
theorem gm_copy {p : Program} {l : Launch} {e : Env} {R : Room} {s : State} {m : MethodId} {args : Array Value} {below : List Frame} {meth : Method} {c : Code} {nL : Nat} {G : xg_G} {O : Heap} {Q : State → Prop} {t : xT} {L : List (Option Value)} {pc : Nat} {rest : List Value} {cc : ByteArray} {own : String} (X : xg_X p m c cc nL s args own G) {index k0 k1 : Nat} (n : Nat) {nv : Int32} (hd : decode cc pc = .ok (.invokestatic index, 3))
    (w1 : Cond.methodLink own index arraycopyName ∈ xw_T) (w2 : Cond.native arraycopyName ∈ xw_T) (w3 : Cond.static arraycopyName ∈ xw_T) (w4 : Cond.initialized "java/lang/System" ∈ xw_T)
    (h0 : kd k0 = 10) (h1 : kd k1 = 10) (hn : nv = nI n) (hn0 : n ≤ ln k0) (hn1 : n ≤ ln k1) (hl : ln k0 ≤ 400) (hf : 1 ≤ R.frames) (hlo : (rest.map fun v => v.category).sum + (nativeFrameWords "java/lang/System" "arraycopy" 5 + 11) ≤ R.locals)
    (kk : gm p l e R s m args below meth c nL G O Q (xcp t k0 k1 n) L (pc + 3) rest) : gm p l e R s m args below meth c nL G O Q t L pc (.int nv :: .int 0 :: .ref (O.size + k1) :: .int 0 :: .ref (O.size + k0) :: rest) := by
  intro H ls locs hls hh hz hq
  have ht := X.1.2.2.2.2
  have b0 := kd_lt h0 (by omega)
  have b1 := kd_lt h1 (by omega)
  have cl : nv.toNatClampNeg = n := by rw [hn]; exact nI_clamp (by omega)
  have cz : (0 : Int32).toNatClampNeg = 0 := rfl
  have hS : va_S (fun q => O.size ≤ q) O H locs := by
    refine ⟨?_, fun q hq1 _ => hh.2 q hq1, hq⟩
    have := (hh.1 0 (by omega)).lt
    exact Nat.le_of_lt (by simpa using this)
  refine va_copyi (D := G.1) (cl := vwCl) (ws := (List.range 94).map (fun k => (O.size + k, xd G O t k))) (A := fun q => O.size ≤ q) (H0 := O) (f := t k0) (g := t k1) (ty := .int) X.1.1 X.1.2.1 (by rw [X.1.2.2.1, hls.1]) X.1.2.2.2.1 (ht _ w1) (ht _ w2) (ht _ w3) (ht _ w4) X.2.1 (va_list hh) va_listD hS k0 k1 0 0 (by rw [va_listAt b0, xd_ints h0]) (by rw [va_listAt b1, xd_ints h1]) rfl rfl rfl (by decide) (by decide) (by rw [hn]; exact nI_pos (by omega)) (by rw [cl, cz]; omega) (by rw [cl, cz]; omega) (fun i hi => rfl) hf hlo hd fun H1 locs1 hP1 hD1 hS1 => ?_
  refine kk H1 ls locs1 hls ?_ (fun h => h.elim) hS1.2.2
  have := va_listBack b1 hP1 (fun q hq1 => hS1.2.1 q hq1 (by omega))
  rw [cl, cz] at this
  have e : xg_up (xd G O t) k1 (.inl (G.2 0, ln k1, .inl (va_cpy (t k0) (t k1) 0 0 n))) = xd G O (xcp t k0 k1 n) := by
    funext a
    unfold xg_up
    by_cases h : a = k1
    · subst h
      rw [if_pos rfl, xd_ints h1]
      have e1 : va_cpy (t k0) (t a) 0 0 n = xcp t k0 a n a := by
        funext b
        unfold xcp
        by_cases hb : b < n
        · rw [if_pos ⟨rfl, hb⟩, pk_cpy_in (by omega) (by omega)]; simp
        · rw [if_neg (by omega), pk_cpy_out (Or.inr (by omega))]
      rw [e1]
    · rw [if_neg h]
      have e1 : xcp t k0 k1 n a = t a := by funext b; unfold xcp; rw [if_neg (fun q => h q.1)]
      unfold xd xd_f
      rw [e1]
  rw [e] at this
  exact this
set_option maxRecDepth 100000 in
set_option maxHeartbeats 4000000 in
theorem c_clear (l : Launch) (G : xg_G) (O : Heap) (t : xT)  : xm l yX0_clear cX0_clear 1 none rmX0_clear G O t [.ref (O.size + 55)] (xv (fun t' => t' = xf (xt t 55 4 0) 58 8 (-1))) := by
  refine xm_enter (by decide) 0 rfl rfl ?_
  intro p e s m args below meth c X hr hk
  refine g_eq (L2 := [some (.ref (O.size + 55))]) rfl rfl rfl ?_
  refine g_aload_n (pc := 0) X dX0_clear_0 rfl rfl ?_
  refine g_iconst (pc := 1) (v := 0) X dX0_clear_1 (by decide) ?_
  refine gm_putI (pc := 2) (j := 4) X 0 tyX0 dX0_clear_2 rfl (by decide) rfl xu_0 tyX0_ok nmX0 (by decide) rfl xw_252 rfl rfl (Or.inl rfl) ?_
  refine g_aload_n (pc := 5) X dX0_clear_5 rfl rfl ?_
  refine gm_getR (k' := 58) (pc := 6) (j := 2) X 0 dX0_clear_6 rfl (by decide) rfl xu_0 (by decide) rfl xw_248 rfl rfl ?_
  refine g_iconst (pc := 9) (v := (-1)) X dX0_clear_9 (by decide) ?_
  refine gm_Sv (pc := 10) X xc_X0_34 (c_fill l G O _ 58 (-1) rfl (by decide)) dX0_clear_10 rfl rfl rfl (Nat.le_of_ble_eq_true rfl) (fun t_10 hp => ?_)
  subst hp
  exact gm_vret (pc := 13) X hr hk dX0_clear_13 (rfl)

set_option maxRecDepth 100000 in
set_option maxHeartbeats 4000000 in
theorem c_bhas (l : Launch) (G : xg_G) (O : Heap) (t : xT) (nj : Nat) (h : Int32) (hnj : nj ≤ 8) (h5 : t 55 4 = nI nj) : xm l yX0_has cX0_has 2 (some .boolean) rmX0_has G O t [.ref (O.size + 55), .int h] (xi (fun v t' => v = bi (0 ≤ h ∧ h < nI nj) ∧ t' = t)) := by
  refine xm_enter (by decide) 0 rfl rfl ?_
  intro p e s m args below meth c X hr hk
  refine g_eq (L2 := [some (.ref (O.size + 55)), some (.int h)]) rfl rfl rfl ?_
  refine g_iload_n (pc := 0) X dX0_has_0 rfl rfl ?_
  refine g_if_lt (pc := 1) (tgt := 22) X dX0_has_1 (by decide) (fun hc_1 => ?_) (fun hc_1 => ?_)
  · refine g_iconst (pc := 22) (v := 0) X dX0_has_22 (by decide) ?_
    exact gm_zret (pc := 23) X hr hk dX0_has_23 (by first | exact Or.inl rfl | exact Or.inr rfl) (⟨(bi_f (by simp only [i_le, i_lt, i_0, i_8, nI_toInt (show nj < 2 ^ 31 by omega)] at *; omega)).symm, rfl⟩)
  · refine g_iload_n (pc := 4) X dX0_has_4 rfl rfl ?_
    refine g_aload_n (pc := 5) X dX0_has_5 rfl rfl ?_
    refine gm_getI (pc := 6) (j := 4) X 0 dX0_has_6 rfl (by decide) rfl xu_0 (by decide) rfl xw_252 rfl ?_
    refine g_icmp_ge (pc := 9) (tgt := 22) X dX0_has_9 (by decide) (fun hc_9 => ?_) (fun hc_9 => ?_)
    · refine g_iconst (pc := 22) (v := 0) X dX0_has_22 (by decide) ?_
      exact gm_zret (pc := 23) X hr hk dX0_has_23 (by first | exact Or.inl rfl | exact Or.inr rfl) (⟨(bi_f (by rw [h5] at hc_9; simp only [i_le, i_lt, i_0, i_8, nI_toInt (show nj < 2 ^ 31 by omega)] at *; omega)).symm, rfl⟩)
    · refine g_iload_n (pc := 12) X dX0_has_12 rfl rfl ?_
      refine g_bipush (pc := 13) (v := 8) X dX0_has_13 (by decide) ?_
      refine g_icmp_ge (pc := 15) (tgt := 22) X dX0_has_15 (by decide) (fun hc_15 => ?_) (fun hc_15 => ?_)
      · refine g_iconst (pc := 22) (v := 0) X dX0_has_22 (by decide) ?_
        exact gm_zret (pc := 23) X hr hk dX0_has_23 (by first | exact Or.inl rfl | exact Or.inr rfl) (⟨(bi_f (by rw [h5] at hc_9; simp only [i_le, i_lt, i_0, i_8, nI_toInt (show nj < 2 ^ 31 by omega)] at *; omega)).symm, rfl⟩)
      · refine g_iconst (pc := 18) (v := 1) X dX0_has_18 (by decide) ?_
        refine g_goto (pc := 19) (tgt := 23) X dX0_has_19 (by decide) ?_
        exact gm_zret (pc := 23) X hr hk dX0_has_23 (by first | exact Or.inl rfl | exact Or.inr rfl) (⟨(bi_t (by rw [h5] at hc_9; simp only [i_le, i_lt, i_0, i_8, nI_toInt (show nj < 2 ^ 31 by omega)] at *; omega)).symm, rfl⟩)

set_option maxRecDepth 100000 in
set_option maxHeartbeats 4000000 in
theorem c_hasNext (l : Launch) (G : xg_G) (O : Heap) (t : xT) (nj k : Nat) (hnj : nj ≤ 8) (h5 : t 55 4 = nI nj) (hk9 : k < 9) : xm l yX0_hasNext cX0_hasNext 2 (some .boolean) rmX0_hasNext G O t [.ref (O.size + 55), .int (nI k)] (xi (fun v t' => v = bi (k + 1 < nj) ∧ t' = t)) := by
  refine xm_enter (by decide) 0 rfl rfl ?_
  intro p e s m args below meth c X hr hk
  refine g_eq (L2 := [some (.ref (O.size + 55)), some (.int (nI k))]) rfl rfl rfl ?_
  refine g_iload_n (pc := 0) X dX0_hasNext_0 rfl rfl ?_
  refine g_if_lt (pc := 1) (tgt := 18) X dX0_hasNext_1 (by decide) (fun hc_1 => ?_) (fun hc_1 => ?_)
  · exact absurd hc_1 (nI_pos (by omega))
  · refine g_iload_n (pc := 4) X dX0_hasNext_4 rfl rfl ?_
    refine g_iconst (pc := 5) (v := 1) X dX0_hasNext_5 (by decide) ?_
    refine g_iadd (pc := 6) X dX0_hasNext_6 ?_
    refine g_aload_n (pc := 7) X dX0_hasNext_7 rfl rfl ?_
    refine gm_getI (pc := 8) (j := 4) X 0 dX0_hasNext_8 rfl (by decide) rfl xu_0 (by decide) rfl xw_252 rfl ?_
    refine g_icmp_ge (pc := 11) (tgt := 18) X dX0_hasNext_11 (by decide) (fun hc_11 => ?_) (fun hc_11 => ?_)
    · refine g_iconst (pc := 18) (v := 0) X dX0_hasNext_18 (by decide) ?_
      exact gm_zret (pc := 19) X hr hk dX0_hasNext_19 (by first | exact Or.inl rfl | exact Or.inr rfl) (⟨(bi_f (by rw [h5, nI_1] at hc_11; have := n_ge hc_11; omega)).symm, rfl⟩)
    · refine g_iconst (pc := 14) (v := 1) X dX0_hasNext_14 (by decide) ?_
      refine g_goto (pc := 15) (tgt := 19) X dX0_hasNext_15 (by decide) ?_
      exact gm_zret (pc := 19) X hr hk dX0_hasNext_19 (by first | exact Or.inl rfl | exact Or.inr rfl) (⟨(bi_t (by rw [h5, nI_1] at hc_11; exact n_gt hc_11)).symm, rfl⟩)

abbrev plC (t : xT) (k : Nat) : Int32 := t (68 + (t 57 k).toNatClampNeg) 2
abbrev gapC (t : xT) (k : Nat) : Int32 := plC t (k + 1) - (plC t k + 32)
theorem o_idx {t : xT} {nj k : Nat} (ho : ∀ k, k < nj → ∃ j, j < nj ∧ t 57 k = nI j) (hk : k < nj) (hnj : nj ≤ 8) : t 57 k = nI (t 57 k).toNatClampNeg ∧ (t 57 k).toNatClampNeg < nj := by
  obtain ⟨j, hj, e⟩ := ho k hk
  rw [e, nI_clamp (by omega)]
  exact ⟨rfl, hj⟩
set_option maxRecDepth 100000 in
set_option maxHeartbeats 4000000 in
theorem c_gapBehind (l : Launch) (G : xg_G) (O : Heap) (t : xT) (nj k : Nat) (hnj : nj ≤ 8) (h5 : t 55 4 = nI nj) (ho : ∀ k, k < nj → ∃ j, j < nj ∧ t 57 k = nI j) (hk : k + 1 < nj) : xm l yX0_gapBehind cX0_gapBehind 2 (some .int) rmX0_gapBehind G O t [.ref (O.size + 55), .int (nI k)] (xi (fun v t' => v = gapC t k ∧ t' = t)) := by
  refine xm_enter (by decide) 0 rfl rfl ?_
  intro p e s m args below meth c X hr hkk
  refine g_eq (L2 := [some (.ref (O.size + 55)), some (.int (nI k))]) rfl rfl rfl ?_
  obtain ⟨e1, l1⟩ := o_idx (k := k + 1) ho (by omega) hnj
  obtain ⟨e0, l0⟩ := o_idx (k := k) ho (by omega) hnj
  have b1 : (t 57 (k + 1)).toNatClampNeg < 8 := by omega
  have b0 : (t 57 (k)).toNatClampNeg < 8 := by omega
  refine g_aload_n (pc := 0) X dX0_gapBehind_0 rfl rfl ?_
  refine gm_getR (k' := 56) (pc := 1) (j := 0) X 0 dX0_gapBehind_1 rfl (by decide) rfl xu_0 (by decide) rfl xw_244 rfl rfl ?_
  refine g_aload_n (pc := 4) X dX0_gapBehind_4 rfl rfl ?_
  refine gm_getR (k' := 57) (pc := 5) (j := 1) X 0 dX0_gapBehind_5 rfl (by decide) rfl xu_0 (by decide) rfl xw_246 rfl rfl ?_
  refine g_iload_n (pc := 8) X dX0_gapBehind_8 rfl rfl ?_
  refine g_iconst (pc := 9) (v := 1) X dX0_gapBehind_9 (by decide) ?_
  refine g_iadd (pc := 10) X dX0_gapBehind_10 ?_
  refine gm_iald (pc := 11) X (k + 1) dX0_gapBehind_11 rfl (nI_1 k) (show k + 1 < 8 from by omega) (by decide) ?_
  refine gm_aald (pc := 12) (k' := (68 + ((t 57 (k + 1)).toNatClampNeg))) X 13 ((t 57 (k + 1)).toNatClampNeg) (.object "UnderText$Leaf") dX0_gapBehind_12 rfl (by decide) (by decide) rfl rfl e1 (show (t 57 (k + 1)).toNatClampNeg < 8 from by omega) (by decide) (kd_leaf ((t 57 (k + 1)).toNatClampNeg) b1).1 ?_
  refine gm_getI (pc := 13) (j := 2) X 3 dX0_gapBehind_13 (kd_leaf ((t 57 (k + 1)).toNatClampNeg) b1).2 (by decide) rfl xu_3 (by decide) rfl xw_157 rfl ?_
  refine g_aload_n (pc := 16) X dX0_gapBehind_16 rfl rfl ?_
  refine gm_getR (k' := 56) (pc := 17) (j := 0) X 0 dX0_gapBehind_17 rfl (by decide) rfl xu_0 (by decide) rfl xw_244 rfl rfl ?_
  refine g_aload_n (pc := 20) X dX0_gapBehind_20 rfl rfl ?_
  refine gm_getR (k' := 57) (pc := 21) (j := 1) X 0 dX0_gapBehind_21 rfl (by decide) rfl xu_0 (by decide) rfl xw_246 rfl rfl ?_
  refine g_iload_n (pc := 24) X dX0_gapBehind_24 rfl rfl ?_
  refine gm_iald (pc := 25) X (k) dX0_gapBehind_25 rfl rfl (show k < 8 from by omega) (by decide) ?_
  refine gm_aald (pc := 26) (k' := (68 + ((t 57 (k)).toNatClampNeg))) X 13 ((t 57 (k)).toNatClampNeg) (.object "UnderText$Leaf") dX0_gapBehind_26 rfl (by decide) (by decide) rfl rfl e0 (show (t 57 (k)).toNatClampNeg < 8 from by omega) (by decide) (kd_leaf ((t 57 (k)).toNatClampNeg) b0).1 ?_
  refine gm_getI (pc := 27) (j := 2) X 3 dX0_gapBehind_27 (kd_leaf ((t 57 (k)).toNatClampNeg) b0).2 (by decide) rfl xu_3 (by decide) rfl xw_157 rfl ?_
  refine g_bipush (pc := 30) (v := 32) X dX0_gapBehind_30 (by decide) ?_
  refine g_iadd (pc := 32) X dX0_gapBehind_32 ?_
  refine g_isub (pc := 33) X dX0_gapBehind_33 ?_
  exact gm_iret (pc := 34) X hr hkk dX0_gapBehind_34 (⟨rfl, rfl⟩)

/-- whether the k-th of nj leaves clashes with the next -/
abbrev clsP (t : xT) (nj k : Nat) : Prop := k + 1 < nj ∧ (gapC t k < 0 ∨ ¬ gapC t k - gapC t k / 32 * 32 = 0)
abbrev lstV (t : xT) (nj k : Nat) : Int32 := if k + 1 < nj ∧ ¬ clsP t nj k then gapC t k / 32 else -1
abbrev fsC (t : xT) (k : Nat) : Int32 := t (68 + (t 57 k).toNatClampNeg) 6
abbrev brkP (t : xT) (nj k : Nat) : Prop := lstV t nj k = 0 ∧ fsC t k = fsC t (k + 1)
set_option maxRecDepth 100000 in
set_option maxHeartbeats 4000000 in
theorem c_clashesBehind (l : Launch) (G : xg_G) (O : Heap) (t : xT) (nj k : Nat) (hnj : nj ≤ 8) (h5 : t 55 4 = nI nj) (ho : ∀ k, k < nj → ∃ j, j < nj ∧ t 57 k = nI j) (hk9 : k < 9) : xm l yX0_clashesBehind cX0_clashesBehind 2 (some .boolean) rmX0_clashesBehind G O t [.ref (O.size + 55), .int (nI k)] (xi (fun v t' => v = bi (clsP t nj k) ∧ t' = t)) := by
  refine xm_enter (by decide) 0 rfl rfl ?_
  intro p e s m args below meth c X hr hk
  refine g_eq (L2 := [some (.ref (O.size + 55)), some (.int (nI k))]) rfl rfl rfl ?_
  refine g_aload_n (pc := 0) X dX0_clashesBehind_0 rfl rfl ?_
  refine g_iload_n (pc := 1) X dX0_clashesBehind_1 rfl rfl ?_
  refine gm_Vi (pc := 2) X 0 xc_X0_101 (c_hasNext l G O _ nj k hnj h5 hk9) dX0_clashesBehind_2 rfl (by decide) rfl rfl rfl rfl (Nat.le_of_ble_eq_true rfl) (fun v_2 t_2 hp => ?_)
  obtain ⟨rfl, hq9⟩ := hp
  have hq9 := hq9.symm
  subst hq9
  refine g_if_eq (pc := 5) (tgt := 31) X dX0_clashesBehind_5 (by decide) (fun hc_5 => ?_) (fun hc_5 => ?_)
  · refine g_iconst (pc := 31) (v := 0) X dX0_clashesBehind_31 (by decide) ?_
    exact gm_zret (pc := 32) X hr hk dX0_clashesBehind_32 (by first | exact Or.inl rfl | exact Or.inr rfl) (⟨(bi_f (fun q => bi_0 hc_5 q.1)).symm, rfl⟩)
  · refine g_aload_n (pc := 8) X dX0_clashesBehind_8 rfl rfl ?_
    refine g_iload_n (pc := 9) X dX0_clashesBehind_9 rfl rfl ?_
    refine gm_Vi (pc := 10) X 0 xc_X0_105 (c_gapBehind l G O _ nj k hnj h5 ho (bi_1 hc_5)) dX0_clashesBehind_10 rfl (by decide) rfl rfl rfl rfl (Nat.le_of_ble_eq_true rfl) (fun v_10 t_10 hp => ?_)
    obtain ⟨rfl, hq9⟩ := hp
    have hq9 := hq9.symm
    subst hq9
    refine g_if_lt (pc := 13) (tgt := 27) X dX0_clashesBehind_13 (by decide) (fun hc_13 => ?_) (fun hc_13 => ?_)
    · refine g_iconst (pc := 27) (v := 1) X dX0_clashesBehind_27 (by decide) ?_
      refine g_goto (pc := 28) (tgt := 32) X dX0_clashesBehind_28 (by decide) ?_
      exact gm_zret (pc := 32) X hr hk dX0_clashesBehind_32 (by first | exact Or.inl rfl | exact Or.inr rfl) (⟨(bi_t ⟨bi_1 hc_5, Or.inl hc_13⟩).symm, rfl⟩)
    · refine g_aload_n (pc := 16) X dX0_clashesBehind_16 rfl rfl ?_
      refine g_iload_n (pc := 17) X dX0_clashesBehind_17 rfl rfl ?_
      refine gm_Vi (pc := 18) X 0 xc_X0_105 (c_gapBehind l G O _ nj k hnj h5 ho (bi_1 hc_5)) dX0_clashesBehind_18 rfl (by decide) rfl rfl rfl rfl (Nat.le_of_ble_eq_true rfl) (fun v_18 t_18 hp => ?_)
      obtain ⟨rfl, hq9⟩ := hp
      have hq9 := hq9.symm
      subst hq9
      refine g_bipush (pc := 21) (v := 32) X dX0_clashesBehind_21 (by decide) ?_
      refine g_irem (pc := 23) X dX0_clashesBehind_23 (by decide) ?_
      refine g_if_eq (pc := 24) (tgt := 31) X dX0_clashesBehind_24 (by decide) (fun hc_24 => ?_) (fun hc_24 => ?_)
      · refine g_iconst (pc := 31) (v := 0) X dX0_clashesBehind_31 (by decide) ?_
        exact gm_zret (pc := 32) X hr hk dX0_clashesBehind_32 (by first | exact Or.inl rfl | exact Or.inr rfl) (⟨(bi_f (fun q => by rcases q.2 with r | r; exact hc_13 r; exact r hc_24)).symm, rfl⟩)
      · refine g_iconst (pc := 27) (v := 1) X dX0_clashesBehind_27 (by decide) ?_
        refine g_goto (pc := 28) (tgt := 32) X dX0_clashesBehind_28 (by decide) ?_
        exact gm_zret (pc := 32) X hr hk dX0_clashesBehind_32 (by first | exact Or.inl rfl | exact Or.inr rfl) (⟨(bi_t ⟨bi_1 hc_5, Or.inr hc_24⟩).symm, rfl⟩)

set_option maxRecDepth 100000 in
set_option maxHeartbeats 4000000 in
theorem c_lostBehind (l : Launch) (G : xg_G) (O : Heap) (t : xT) (nj k : Nat) (hnj : nj ≤ 8) (h5 : t 55 4 = nI nj) (ho : ∀ k, k < nj → ∃ j, j < nj ∧ t 57 k = nI j) (hk9 : k < 9) : xm l yX0_lostBehind cX0_lostBehind 2 (some .int) rmX0_lostBehind G O t [.ref (O.size + 55), .int (nI k)] (xi (fun v t' => v = lstV t nj k ∧ t' = t)) := by
  refine xm_enter (by decide) 0 rfl rfl ?_
  intro p e s m args below meth c X hr hk
  refine g_eq (L2 := [some (.ref (O.size + 55)), some (.int (nI k))]) rfl rfl rfl ?_
  refine g_aload_n (pc := 0) X dX0_lostBehind_0 rfl rfl ?_
  refine g_iload_n (pc := 1) X dX0_lostBehind_1 rfl rfl ?_
  refine gm_Vi (pc := 2) X 0 xc_X0_101 (c_hasNext l G O _ nj k hnj h5 hk9) dX0_lostBehind_2 rfl (by decide) rfl rfl rfl rfl (Nat.le_of_ble_eq_true rfl) (fun v_2 t_2 hp => ?_)
  obtain ⟨rfl, hq9⟩ := hp
  have hq9 := hq9.symm
  subst hq9
  refine g_if_eq (pc := 5) (tgt := 16) X dX0_lostBehind_5 (by decide) (fun hc_5 => ?_) (fun hc_5 => ?_)
  · refine g_iconst (pc := 16) (v := (-1)) X dX0_lostBehind_16 (by decide) ?_
    refine g_goto (pc := 17) (tgt := 28) X dX0_lostBehind_17 (by decide) ?_
    exact gm_iret (pc := 28) X hr hk dX0_lostBehind_28 (⟨(if_neg (fun q => bi_0 hc_5 q.1)).symm, rfl⟩)
  · refine g_aload_n (pc := 8) X dX0_lostBehind_8 rfl rfl ?_
    refine g_iload_n (pc := 9) X dX0_lostBehind_9 rfl rfl ?_
    refine gm_Vi (pc := 10) X 0 xc_X0_108 (c_clashesBehind l G O _ nj k hnj h5 ho hk9) dX0_lostBehind_10 rfl (by decide) rfl rfl rfl rfl (Nat.le_of_ble_eq_true rfl) (fun v_10 t_10 hp => ?_)
    obtain ⟨rfl, hq9⟩ := hp
    have hq9 := hq9.symm
    subst hq9
    refine g_if_eq (pc := 13) (tgt := 20) X dX0_lostBehind_13 (by decide) (fun hc_13 => ?_) (fun hc_13 => ?_)
    · refine g_aload_n (pc := 20) X dX0_lostBehind_20 rfl rfl ?_
      refine g_iload_n (pc := 21) X dX0_lostBehind_21 rfl rfl ?_
      refine gm_Vi (pc := 22) X 0 xc_X0_105 (c_gapBehind l G O _ nj k hnj h5 ho (bi_1 hc_5)) dX0_lostBehind_22 rfl (by decide) rfl rfl rfl rfl (Nat.le_of_ble_eq_true rfl) (fun v_22 t_22 hp => ?_)
      obtain ⟨rfl, hq9⟩ := hp
      have hq9 := hq9.symm
      subst hq9
      refine g_bipush (pc := 25) (v := 32) X dX0_lostBehind_25 (by decide) ?_
      refine g_idiv (pc := 27) X dX0_lostBehind_27 (by decide) ?_
      exact gm_iret (pc := 28) X hr hk dX0_lostBehind_28 (⟨(if_pos ⟨bi_1 hc_5, bi_0 hc_13⟩).symm, rfl⟩)
    · refine g_iconst (pc := 16) (v := (-1)) X dX0_lostBehind_16 (by decide) ?_
      refine g_goto (pc := 17) (tgt := 28) X dX0_lostBehind_17 (by decide) ?_
      exact gm_iret (pc := 28) X hr hk dX0_lostBehind_28 (⟨(if_neg (fun q => q.2 (bi_1 hc_13))).symm, rfl⟩)

set_option maxRecDepth 100000 in
set_option maxHeartbeats 4000000 in
theorem c_breaksBehind (l : Launch) (G : xg_G) (O : Heap) (t : xT) (nj k : Nat) (hnj : nj ≤ 8) (h5 : t 55 4 = nI nj) (ho : ∀ k, k < nj → ∃ j, j < nj ∧ t 57 k = nI j) (hk9 : k < 9) : xm l yX0_breaksBehind cX0_breaksBehind 2 (some .boolean) rmX0_breaksBehind G O t [.ref (O.size + 55), .int (nI k)] (xi (fun v t' => v = bi (brkP t nj k) ∧ t' = t)) := by
  refine xm_enter (by decide) 0 rfl rfl ?_
  intro p e s m args below meth c X hr hk
  refine g_eq (L2 := [some (.ref (O.size + 55)), some (.int (nI k))]) rfl rfl rfl ?_
  refine g_aload_n (pc := 0) X dX0_breaksBehind_0 rfl rfl ?_
  refine g_iload_n (pc := 1) X dX0_breaksBehind_1 rfl rfl ?_
  refine gm_Vi (pc := 2) X 0 xc_X0_111 (c_lostBehind l G O _ nj k hnj h5 ho hk9) dX0_breaksBehind_2 rfl (by decide) rfl rfl rfl rfl (Nat.le_of_ble_eq_true rfl) (fun v_2 t_2 hp => ?_)
  obtain ⟨rfl, hq9⟩ := hp
  have hq9 := hq9.symm
  subst hq9
  refine g_if_ne (pc := 5) (tgt := 45) X dX0_breaksBehind_5 (by decide) (fun hc_5 => ?_) (fun hc_5 => ?_)
  · refine g_iconst (pc := 45) (v := 0) X dX0_breaksBehind_45 (by decide) ?_
    exact gm_zret (pc := 46) X hr hk dX0_breaksBehind_46 (by first | exact Or.inl rfl | exact Or.inr rfl) (⟨(bi_f (fun q => hc_5 q.1)).symm, rfl⟩)
  · have hkl : k + 1 < nj := by rcases Nat.lt_or_ge (k + 1) nj with q | q; exact q; rw [show lstV t nj k = -1 from if_neg (by omega)] at hc_5; exact absurd hc_5 (by decide)
    obtain ⟨e1, l1⟩ := o_idx (k := k + 1) ho (by omega) hnj
    obtain ⟨e0, l0⟩ := o_idx (k := k) ho (by omega) hnj
    have b1 : (t 57 (k + 1)).toNatClampNeg < 8 := by omega
    have b0 : (t 57 (k)).toNatClampNeg < 8 := by omega
    refine g_aload_n (pc := 8) X dX0_breaksBehind_8 rfl rfl ?_
    refine gm_getR (k' := 56) (pc := 9) (j := 0) X 0 dX0_breaksBehind_9 rfl (by decide) rfl xu_0 (by decide) rfl xw_244 rfl rfl ?_
    refine g_aload_n (pc := 12) X dX0_breaksBehind_12 rfl rfl ?_
    refine gm_getR (k' := 57) (pc := 13) (j := 1) X 0 dX0_breaksBehind_13 rfl (by decide) rfl xu_0 (by decide) rfl xw_246 rfl rfl ?_
    refine g_iload_n (pc := 16) X dX0_breaksBehind_16 rfl rfl ?_
    refine gm_iald (pc := 17) X (k) dX0_breaksBehind_17 rfl rfl (show k < 8 from by omega) (by decide) ?_
    refine gm_aald (pc := 18) (k' := (68 + ((t 57 (k)).toNatClampNeg))) X 13 ((t 57 (k)).toNatClampNeg) (.object "UnderText$Leaf") dX0_breaksBehind_18 rfl (by decide) (by decide) rfl rfl e0 (show (t 57 (k)).toNatClampNeg < 8 from by omega) (by decide) (kd_leaf ((t 57 (k)).toNatClampNeg) b0).1 ?_
    refine gm_getI (pc := 19) (j := 6) X 3 dX0_breaksBehind_19 (kd_leaf ((t 57 (k)).toNatClampNeg) b0).2 (by decide) rfl xu_3 (by decide) rfl xw_173 rfl ?_
    refine g_aload_n (pc := 22) X dX0_breaksBehind_22 rfl rfl ?_
    refine gm_getR (k' := 56) (pc := 23) (j := 0) X 0 dX0_breaksBehind_23 rfl (by decide) rfl xu_0 (by decide) rfl xw_244 rfl rfl ?_
    refine g_aload_n (pc := 26) X dX0_breaksBehind_26 rfl rfl ?_
    refine gm_getR (k' := 57) (pc := 27) (j := 1) X 0 dX0_breaksBehind_27 rfl (by decide) rfl xu_0 (by decide) rfl xw_246 rfl rfl ?_
    refine g_iload_n (pc := 30) X dX0_breaksBehind_30 rfl rfl ?_
    refine g_iconst (pc := 31) (v := 1) X dX0_breaksBehind_31 (by decide) ?_
    refine g_iadd (pc := 32) X dX0_breaksBehind_32 ?_
    refine gm_iald (pc := 33) X (k + 1) dX0_breaksBehind_33 rfl (nI_1 k) (show k + 1 < 8 from by omega) (by decide) ?_
    refine gm_aald (pc := 34) (k' := (68 + ((t 57 (k + 1)).toNatClampNeg))) X 13 ((t 57 (k + 1)).toNatClampNeg) (.object "UnderText$Leaf") dX0_breaksBehind_34 rfl (by decide) (by decide) rfl rfl e1 (show (t 57 (k + 1)).toNatClampNeg < 8 from by omega) (by decide) (kd_leaf ((t 57 (k + 1)).toNatClampNeg) b1).1 ?_
    refine gm_getI (pc := 35) (j := 6) X 3 dX0_breaksBehind_35 (kd_leaf ((t 57 (k + 1)).toNatClampNeg) b1).2 (by decide) rfl xu_3 (by decide) rfl xw_173 rfl ?_
    refine g_icmp_ne (pc := 38) (tgt := 45) X dX0_breaksBehind_38 (by decide) (fun hc_38 => ?_) (fun hc_38 => ?_)
    · refine g_iconst (pc := 45) (v := 0) X dX0_breaksBehind_45 (by decide) ?_
      exact gm_zret (pc := 46) X hr hk dX0_breaksBehind_46 (by first | exact Or.inl rfl | exact Or.inr rfl) (⟨(bi_f (fun q => hc_38 q.2)).symm, rfl⟩)
    · refine g_iconst (pc := 41) (v := 1) X dX0_breaksBehind_41 (by decide) ?_
      refine g_goto (pc := 42) (tgt := 46) X dX0_breaksBehind_42 (by decide) ?_
      exact gm_zret (pc := 46) X hr hk dX0_breaksBehind_46 (by first | exact Or.inl rfl | exact Or.inr rfl) (⟨(bi_t ⟨hc_5, hc_38⟩).symm, rfl⟩)

def sm (f : Nat → Int32) : Nat → Int32
  | 0 => 0
  | n + 1 => sm f n + f n
theorem sm_cong {f g : Nat → Int32} : ∀ {n : Nat}, (∀ k, k < n → f k = g k) → sm f n = sm g n
  | 0, _ => rfl
  | n + 1, h => by rw [sm.eq_2, sm.eq_2, sm_cong (n := n) (fun k hk => h k (by omega)), h n (by omega)]
set_option maxRecDepth 100000 in
set_option maxHeartbeats 4000000 in
theorem c_allQuarrels (l : Launch) (G : xg_G) (O : Heap) (t : xT) (nj : Nat) (hnj : nj ≤ 8) (h5 : t 55 4 = nI nj) : xm l yX0_allQuarrels cX0_allQuarrels 3 (some .int) rmX0_allQuarrels G O t [.ref (O.size + 55)] (xi (fun v t' => v = sm (fun k => t (68 + k) 3) nj ∧ t' = t)) := by
  refine xm_enter (by decide) 2 rfl rfl ?_
  intro p e s m args below meth c X hr hk
  refine g_eq (L2 := [some (.ref (O.size + 55)), none, none]) rfl rfl rfl ?_
  have loop : ∀ (z9 : Nat) (k : Nat) (xk : Int32) (xs : Int32), nj - k < z9 → xk = nI k → xs = sm (fun k => t (68 + k) 3) k → k ≤ nj → gm p l e rmX0_allQuarrels s m args below meth c 3 G O (xmQ below G O (xi (fun v t' => v = sm (fun k => t (68 + k) 3) nj ∧ t' = t)) args s) (t) [some (.ref (O.size + 55)), some (.int (xs)), some (.int (xk))] 4 [] := by
    intro z9
    induction z9 with
    | zero => intro k xk xs h9; exact absurd h9 (Nat.not_lt_zero _)
    | succ z9 ih =>
      intro k xk xs h9 hxk hxs hkn
      subst hxk
      refine g_iload_n (pc := 4) X dX0_allQuarrels_4 rfl rfl ?_
      refine g_aload_n (pc := 5) X dX0_allQuarrels_5 rfl rfl ?_
      refine gm_getI (pc := 6) (j := 4) X 0 dX0_allQuarrels_6 rfl (by decide) rfl xu_0 (by decide) rfl xw_252 rfl ?_
      refine g_icmp_ge (pc := 9) (tgt := 30) X dX0_allQuarrels_9 (by decide) (fun hc_9 => ?_) (fun hc_9 => ?_)
      · refine g_iload_n (pc := 30) X dX0_allQuarrels_30 rfl rfl ?_
        exact gm_iret (pc := 31) X hr hk dX0_allQuarrels_31 (⟨by rw [h5] at hc_9; rw [hxs, show k = nj by have := n_ge hc_9; omega], rfl⟩)
      · have hkl : k < nj := by rw [h5] at hc_9; exact n_gt hc_9
        refine g_iload_n (pc := 12) X dX0_allQuarrels_12 rfl rfl ?_
        refine g_aload_n (pc := 13) X dX0_allQuarrels_13 rfl rfl ?_
        refine gm_getR (k' := 56) (pc := 14) (j := 0) X 0 dX0_allQuarrels_14 rfl (by decide) rfl xu_0 (by decide) rfl xw_244 rfl rfl ?_
        refine g_iload_n (pc := 17) X dX0_allQuarrels_17 rfl rfl ?_
        refine gm_aald (pc := 18) (k' := (68 + k)) X 13 (k) (.object "UnderText$Leaf") dX0_allQuarrels_18 rfl (by decide) (by decide) rfl rfl rfl (show k < 8 from by omega) (by decide) (kd_leaf k (by omega)).1 ?_
        refine gm_getI (pc := 19) (j := 3) X 3 dX0_allQuarrels_19 (kd_leaf k (show k < 8 by omega)).2 (by decide) rfl xu_3 (by decide) rfl xw_164 rfl ?_
        refine g_iadd (pc := 22) X dX0_allQuarrels_22 ?_
        refine g_istore_n (pc := 23) X dX0_allQuarrels_23 rfl (by decide) ?_
        refine g_inc (pc := 24) (kv := 1) X dX0_allQuarrels_24 (by decide) rfl (by decide) ?_
        refine g_goto (pc := 27) (tgt := 4) X dX0_allQuarrels_27 (by decide) ?_
        exact ih (k + 1) _ _ (by omega) (nI_1 k) (by rw [hxs, sm.eq_2]) (by omega)
  refine g_iconst (pc := 0) (v := 0) X dX0_allQuarrels_0 (by decide) ?_
  refine g_istore_n (pc := 1) X dX0_allQuarrels_1 rfl (by decide) ?_
  refine g_iconst (pc := 2) (v := 0) X dX0_allQuarrels_2 (by decide) ?_
  refine g_istore_n (pc := 3) X dX0_allQuarrels_3 rfl (by decide) ?_
  exact loop (nj + 1) 0 _ _ (by omega) nI_0.symm rfl (Nat.zero_le _)

set_option maxRecDepth 100000 in
set_option maxHeartbeats 4000000 in
theorem c_clashes (l : Launch) (G : xg_G) (O : Heap) (t : xT) (nj : Nat) (hnj : nj ≤ 8) (h5 : t 55 4 = nI nj) (ho : ∀ k, k < nj → ∃ j, j < nj ∧ t 57 k = nI j) : xm l yX0_clashes cX0_clashes 3 (some .int) rmX0_clashes G O t [.ref (O.size + 55)] (xi (fun v t' => v = sm (fun k => bi (clsP t nj k)) nj ∧ t' = t)) := by
  refine xm_enter (by decide) 2 rfl rfl ?_
  intro p e s m args below meth c X hr hk
  refine g_eq (L2 := [some (.ref (O.size + 55)), none, none]) rfl rfl rfl ?_
  have loop : ∀ (z9 : Nat) (k : Nat) (xk : Int32) (xs : Int32), nj - k < z9 → xk = nI k → xs = sm (fun k => bi (clsP t nj k)) k → k ≤ nj → gm p l e rmX0_clashes s m args below meth c 3 G O (xmQ below G O (xi (fun v t' => v = sm (fun k => bi (clsP t nj k)) nj ∧ t' = t)) args s) (t) [some (.ref (O.size + 55)), some (.int (xs)), some (.int (xk))] 4 [] := by
    intro z9
    induction z9 with
    | zero => intro k xk xs h9; exact absurd h9 (Nat.not_lt_zero _)
    | succ z9 ih =>
      intro k xk xs h9 hxk hxs hkn
      subst hxk
      refine g_iload_n (pc := 4) X dX0_clashes_4 rfl rfl ?_
      refine g_aload_n (pc := 5) X dX0_clashes_5 rfl rfl ?_
      refine gm_getI (pc := 6) (j := 4) X 0 dX0_clashes_6 rfl (by decide) rfl xu_0 (by decide) rfl xw_252 rfl ?_
      refine g_icmp_ge (pc := 9) (tgt := 34) X dX0_clashes_9 (by decide) (fun hc_9 => ?_) (fun hc_9 => ?_)
      · refine g_iload_n (pc := 34) X dX0_clashes_34 rfl rfl ?_
        exact gm_iret (pc := 35) X hr hk dX0_clashes_35 (⟨by rw [h5] at hc_9; rw [hxs, show k = nj by have := n_ge hc_9; omega], rfl⟩)
      · have hkl : k < nj := by rw [h5] at hc_9; exact n_gt hc_9
        refine g_iload_n (pc := 12) X dX0_clashes_12 rfl rfl ?_
        refine g_aload_n (pc := 13) X dX0_clashes_13 rfl rfl ?_
        refine g_iload_n (pc := 14) X dX0_clashes_14 rfl rfl ?_
        refine gm_Vi (pc := 15) X 0 xc_X0_108 (c_clashesBehind l G O _ nj k hnj h5 ho (by omega)) dX0_clashes_15 rfl (by decide) rfl rfl rfl rfl (Nat.le_of_ble_eq_true rfl) (fun v_15 t_15 hp => ?_)
        obtain ⟨rfl, hq9⟩ := hp
        have hq9 := hq9.symm
        subst hq9
        refine g_if_eq (pc := 18) (tgt := 25) X dX0_clashes_18 (by decide) (fun hc_18 => ?_) (fun hc_18 => ?_)
        · refine g_iconst (pc := 25) (v := 0) X dX0_clashes_25 (by decide) ?_
          refine g_iadd (pc := 26) X dX0_clashes_26 ?_
          refine g_istore_n (pc := 27) X dX0_clashes_27 rfl (by decide) ?_
          refine g_inc (pc := 28) (kv := 1) X dX0_clashes_28 (by decide) rfl (by decide) ?_
          refine g_goto (pc := 31) (tgt := 4) X dX0_clashes_31 (by decide) ?_
          exact ih (k + 1) _ _ (by omega) (nI_1 k) (by rw [hxs, sm.eq_2, bi_f (bi_0 hc_18)]) (by omega)
        · refine g_iconst (pc := 21) (v := 1) X dX0_clashes_21 (by decide) ?_
          refine g_goto (pc := 22) (tgt := 26) X dX0_clashes_22 (by decide) ?_
          refine g_iadd (pc := 26) X dX0_clashes_26 ?_
          refine g_istore_n (pc := 27) X dX0_clashes_27 rfl (by decide) ?_
          refine g_inc (pc := 28) (kv := 1) X dX0_clashes_28 (by decide) rfl (by decide) ?_
          refine g_goto (pc := 31) (tgt := 4) X dX0_clashes_31 (by decide) ?_
          exact ih (k + 1) _ _ (by omega) (nI_1 k) (by rw [hxs, sm.eq_2, bi_t (bi_1 hc_18)]) (by omega)
  refine g_iconst (pc := 0) (v := 0) X dX0_clashes_0 (by decide) ?_
  refine g_istore_n (pc := 1) X dX0_clashes_1 rfl (by decide) ?_
  refine g_iconst (pc := 2) (v := 0) X dX0_clashes_2 (by decide) ?_
  refine g_istore_n (pc := 3) X dX0_clashes_3 rfl (by decide) ?_
  exact loop (nj + 1) 0 _ _ (by omega) nI_0.symm rfl (Nat.zero_le _)

set_option maxRecDepth 100000 in
set_option maxHeartbeats 4000000 in
theorem c_breaks (l : Launch) (G : xg_G) (O : Heap) (t : xT) (nj : Nat) (hnj : nj ≤ 8) (h5 : t 55 4 = nI nj) (ho : ∀ k, k < nj → ∃ j, j < nj ∧ t 57 k = nI j) : xm l yX0_breaks cX0_breaks 3 (some .int) rmX0_breaks G O t [.ref (O.size + 55)] (xi (fun v t' => v = sm (fun k => bi (brkP t nj k)) nj ∧ t' = t)) := by
  refine xm_enter (by decide) 2 rfl rfl ?_
  intro p e s m args below meth c X hr hk
  refine g_eq (L2 := [some (.ref (O.size + 55)), none, none]) rfl rfl rfl ?_
  have loop : ∀ (z9 : Nat) (k : Nat) (xk : Int32) (xs : Int32), nj - k < z9 → xk = nI k → xs = sm (fun k => bi (brkP t nj k)) k → k ≤ nj → gm p l e rmX0_breaks s m args below meth c 3 G O (xmQ below G O (xi (fun v t' => v = sm (fun k => bi (brkP t nj k)) nj ∧ t' = t)) args s) (t) [some (.ref (O.size + 55)), some (.int (xs)), some (.int (xk))] 4 [] := by
    intro z9
    induction z9 with
    | zero => intro k xk xs h9; exact absurd h9 (Nat.not_lt_zero _)
    | succ z9 ih =>
      intro k xk xs h9 hxk hxs hkn
      subst hxk
      refine g_iload_n (pc := 4) X dX0_breaks_4 rfl rfl ?_
      refine g_aload_n (pc := 5) X dX0_breaks_5 rfl rfl ?_
      refine gm_getI (pc := 6) (j := 4) X 0 dX0_breaks_6 rfl (by decide) rfl xu_0 (by decide) rfl xw_252 rfl ?_
      refine g_icmp_ge (pc := 9) (tgt := 34) X dX0_breaks_9 (by decide) (fun hc_9 => ?_) (fun hc_9 => ?_)
      · refine g_iload_n (pc := 34) X dX0_breaks_34 rfl rfl ?_
        exact gm_iret (pc := 35) X hr hk dX0_breaks_35 (⟨by rw [h5] at hc_9; rw [hxs, show k = nj by have := n_ge hc_9; omega], rfl⟩)
      · have hkl : k < nj := by rw [h5] at hc_9; exact n_gt hc_9
        refine g_iload_n (pc := 12) X dX0_breaks_12 rfl rfl ?_
        refine g_aload_n (pc := 13) X dX0_breaks_13 rfl rfl ?_
        refine g_iload_n (pc := 14) X dX0_breaks_14 rfl rfl ?_
        refine gm_Vi (pc := 15) X 0 xc_X0_120 (c_breaksBehind l G O _ nj k hnj h5 ho (by omega)) dX0_breaks_15 rfl (by decide) rfl rfl rfl rfl (Nat.le_of_ble_eq_true rfl) (fun v_15 t_15 hp => ?_)
        obtain ⟨rfl, hq9⟩ := hp
        have hq9 := hq9.symm
        subst hq9
        refine g_if_eq (pc := 18) (tgt := 25) X dX0_breaks_18 (by decide) (fun hc_18 => ?_) (fun hc_18 => ?_)
        · refine g_iconst (pc := 25) (v := 0) X dX0_breaks_25 (by decide) ?_
          refine g_iadd (pc := 26) X dX0_breaks_26 ?_
          refine g_istore_n (pc := 27) X dX0_breaks_27 rfl (by decide) ?_
          refine g_inc (pc := 28) (kv := 1) X dX0_breaks_28 (by decide) rfl (by decide) ?_
          refine g_goto (pc := 31) (tgt := 4) X dX0_breaks_31 (by decide) ?_
          exact ih (k + 1) _ _ (by omega) (nI_1 k) (by rw [hxs, sm.eq_2, bi_f (bi_0 hc_18)]) (by omega)
        · refine g_iconst (pc := 21) (v := 1) X dX0_breaks_21 (by decide) ?_
          refine g_goto (pc := 22) (tgt := 26) X dX0_breaks_22 (by decide) ?_
          refine g_iadd (pc := 26) X dX0_breaks_26 ?_
          refine g_istore_n (pc := 27) X dX0_breaks_27 rfl (by decide) ?_
          refine g_inc (pc := 28) (kv := 1) X dX0_breaks_28 (by decide) rfl (by decide) ?_
          refine g_goto (pc := 31) (tgt := 4) X dX0_breaks_31 (by decide) ?_
          exact ih (k + 1) _ _ (by omega) (nI_1 k) (by rw [hxs, sm.eq_2, bi_t (bi_1 hc_18)]) (by omega)
  refine g_iconst (pc := 0) (v := 0) X dX0_breaks_0 (by decide) ?_
  refine g_istore_n (pc := 1) X dX0_breaks_1 rfl (by decide) ?_
  refine g_iconst (pc := 2) (v := 0) X dX0_breaks_2 (by decide) ?_
  refine g_istore_n (pc := 3) X dX0_breaks_3 rfl (by decide) ?_
  exact loop (nj + 1) 0 _ _ (by omega) nI_0.symm rfl (Nat.zero_le _)

set_option maxRecDepth 100000 in
set_option maxHeartbeats 4000000 in
theorem c_allLost (l : Launch) (G : xg_G) (O : Heap) (t : xT) (nj : Nat) (hnj : nj ≤ 8) (h5 : t 55 4 = nI nj) (ho : ∀ k, k < nj → ∃ j, j < nj ∧ t 57 k = nI j) : xm l yX0_allLost cX0_allLost 3 (some .int) rmX0_allLost G O t [.ref (O.size + 55)] (xi (fun v t' => v = sm (fun k => if 0 < lstV t nj k then lstV t nj k else 0) nj ∧ t' = t)) := by
  refine xm_enter (by decide) 2 rfl rfl ?_
  intro p e s m args below meth c X hr hk
  refine g_eq (L2 := [some (.ref (O.size + 55)), none, none]) rfl rfl rfl ?_
  have loop : ∀ (z9 : Nat) (k : Nat) (xk : Int32) (xs : Int32), nj - k < z9 → xk = nI k → xs = sm (fun k => if 0 < lstV t nj k then lstV t nj k else 0) k → k ≤ nj → gm p l e rmX0_allLost s m args below meth c 3 G O (xmQ below G O (xi (fun v t' => v = sm (fun k => if 0 < lstV t nj k then lstV t nj k else 0) nj ∧ t' = t)) args s) (t) [some (.ref (O.size + 55)), some (.int (xs)), some (.int (xk))] 4 [] := by
    intro z9
    induction z9 with
    | zero => intro k xk xs h9; exact absurd h9 (Nat.not_lt_zero _)
    | succ z9 ih =>
      intro k xk xs h9 hxk hxs hkn
      subst hxk
      refine g_iload_n (pc := 4) X dX0_allLost_4 rfl rfl ?_
      refine g_aload_n (pc := 5) X dX0_allLost_5 rfl rfl ?_
      refine gm_getI (pc := 6) (j := 4) X 0 dX0_allLost_6 rfl (by decide) rfl xu_0 (by decide) rfl xw_252 rfl ?_
      refine g_icmp_ge (pc := 9) (tgt := 30) X dX0_allLost_9 (by decide) (fun hc_9 => ?_) (fun hc_9 => ?_)
      · refine g_iload_n (pc := 30) X dX0_allLost_30 rfl rfl ?_
        exact gm_iret (pc := 31) X hr hk dX0_allLost_31 (⟨by rw [h5] at hc_9; rw [hxs, show k = nj by have := n_ge hc_9; omega], rfl⟩)
      · have hkl : k < nj := by rw [h5] at hc_9; exact n_gt hc_9
        refine g_iload_n (pc := 12) X dX0_allLost_12 rfl rfl ?_
        refine g_iconst (pc := 13) (v := 0) X dX0_allLost_13 (by decide) ?_
        refine g_aload_n (pc := 14) X dX0_allLost_14 rfl rfl ?_
        refine g_iload_n (pc := 15) X dX0_allLost_15 rfl rfl ?_
        refine gm_Vi (pc := 16) X 0 xc_X0_111 (c_lostBehind l G O _ nj k hnj h5 ho (by omega)) dX0_allLost_16 rfl (by decide) rfl rfl rfl rfl (Nat.le_of_ble_eq_true rfl) (fun v_16 t_16 hp => ?_)
        obtain ⟨rfl, hq9⟩ := hp
        have hq9 := hq9.symm
        subst hq9
        refine g_max (pc := 19) X dX0_allLost_19 xw_584 xw_374 xw_44 xw_375 (by decide) (Nat.le_of_ble_eq_true rfl) (Nat.zero_le _) (Nat.zero_le _) ?_
        refine g_iadd (pc := 22) X dX0_allLost_22 ?_
        refine g_istore_n (pc := 23) X dX0_allLost_23 rfl (by decide) ?_
        refine g_inc (pc := 24) (kv := 1) X dX0_allLost_24 (by decide) rfl (by decide) ?_
        refine g_goto (pc := 27) (tgt := 4) X dX0_allLost_27 (by decide) ?_
        exact ih (k + 1) _ _ (by omega) (nI_1 k) (by rw [hxs, sm.eq_2]) (by omega)
  refine g_iconst (pc := 0) (v := 0) X dX0_allLost_0 (by decide) ?_
  refine g_istore_n (pc := 1) X dX0_allLost_1 rfl (by decide) ?_
  refine g_iconst (pc := 2) (v := 0) X dX0_allLost_2 (by decide) ?_
  refine g_istore_n (pc := 3) X dX0_allLost_3 rfl (by decide) ?_
  exact loop (nj + 1) 0 _ _ (by omega) nI_0.symm rfl (Nat.zero_le _)
end
section
/-! 06b: Book: lists kept, order, leaves -/
def xkl (t : xT) (n : Nat) : xT := fun x y => if 60 ≤ x ∧ x < 60 + n ∧ y < 16 then t (9 + 2 * (x - 60)) y else t x y
theorem xkl_0 (t : xT) : xkl t 0 = t := by
  funext x y; unfold xkl; rw [if_neg (by omega)]
theorem xkl_ne (t : xT) {n x : Nat} (y : Nat) (h : x < 60 ∨ 60 + n ≤ x) : xkl t n x y = t x y := by
  unfold xkl; rw [if_neg (by omega)]
theorem xkl_s (t : xT) {n : Nat} (hn : n < 8) : xcp (xkl t n) (9 + 2 * n) (60 + n) 16 = xkl t (n + 1) := by
  funext x y
  unfold xcp
  by_cases h : x = 60 + n ∧ y < 16
  · rw [if_pos h, xkl_ne t y (by omega)]
    obtain ⟨rfl, hy⟩ := h
    unfold xkl
    rw [if_pos (by omega), show 60 + n - 60 = n by omega]
  · rw [if_neg h]
    unfold xkl
    by_cases q : 60 ≤ x ∧ x < 60 + n ∧ y < 16
    · rw [if_pos q, if_pos (by omega)]
    · rw [if_neg q, if_neg (by omega)]
set_option maxRecDepth 100000 in
set_option maxHeartbeats 4000000 in
theorem c_keepLists (l : Launch) (G : xg_G) (O : Heap) (t : xT) (nh : Nat) (hnh : nh ≤ 8) (h1 : t 6 1 = nI nh) : xm l yX0_keepLists cX0_keepLists 3 none rmX0_keepLists G O t [.ref (O.size + 55), .ref (O.size + 6)] (xv (fun t' => t' = xkl t nh)) := by
  refine xm_enter (by decide) 1 rfl rfl ?_
  intro p e s m args below meth c X hr hk
  refine g_eq (L2 := [some (.ref (O.size + 55)), some (.ref (O.size + 6)), none]) rfl rfl rfl ?_
  have loop : ∀ (z9 : Nat) (h : Nat) (xh : Int32) (t1 : xT), nh - h < z9 → xh = nI h → t1 = xkl t h → h ≤ nh → gm p l e rmX0_keepLists s m args below meth c 3 G O (xmQ below G O (xv (fun t' => t' = xkl t nh)) args s) (t1) [some (.ref (O.size + 55)), some (.ref (O.size + 6)), some (.int (xh))] 2 [] := by
    intro z9
    induction z9 with
    | zero => intro h xh t1 h9; exact absurd h9 (Nat.not_lt_zero _)
    | succ z9 ih =>
      intro h xh t1 h9 hxh ht1 hh
      subst hxh
      subst ht1
      have e6 : xkl t h 6 1 = nI nh := by rw [xkl_ne t 1 (by omega)]; exact h1
      refine g_iload_n (pc := 2) X dX0_keepLists_2 rfl rfl ?_
      refine g_aload_n (pc := 3) X dX0_keepLists_3 rfl rfl ?_
      refine gm_getI (pc := 4) (j := 1) X 2 dX0_keepLists_4 rfl (by decide) rfl xu_2 (by decide) rfl xw_137 rfl ?_
      refine g_icmp_ge (pc := 7) (tgt := 38) X dX0_keepLists_7 (by decide) (fun hc_7 => ?_) (fun hc_7 => ?_)
      · exact gm_vret (pc := 38) X hr hk dX0_keepLists_38 (by rw [e6] at hc_7; rw [show h = nh by have := n_ge hc_7; omega])
      · have hl : h < nh := by rw [e6] at hc_7; exact n_gt hc_7
        refine g_aload_n (pc := 10) X dX0_keepLists_10 rfl rfl ?_
        refine gm_getR (k' := 7) (pc := 11) (j := 0) X 2 dX0_keepLists_11 rfl (by decide) rfl xu_2 (by decide) rfl xw_133 rfl rfl ?_
        refine g_iload_n (pc := 14) X dX0_keepLists_14 rfl rfl ?_
        refine gm_aald (pc := 15) (k' := (8 + 2 * h)) X 12 (h) (.object "UnderText$Half") dX0_keepLists_15 rfl (by decide) (by decide) rfl rfl rfl (show h < 8 from by omega) (by decide) (kd_half h (by omega)).2.1 ?_
        refine gm_getR (k' := (9 + 2 * h)) (pc := 16) (j := 3) X 1 dX0_keepLists_16 (kd_half h (show h < 8 by omega)).1 (by decide) rfl xu_1 (by decide) rfl xw_120 rfl (kd_half h (by omega)).2.2.1 ?_
        refine g_iconst (pc := 19) (v := 0) X dX0_keepLists_19 (by decide) ?_
        refine g_aload_n (pc := 20) X dX0_keepLists_20 rfl rfl ?_
        refine gm_getR (k' := 59) (pc := 21) (j := 3) X 0 dX0_keepLists_21 rfl (by decide) rfl xu_0 (by decide) rfl xw_250 rfl rfl ?_
        refine g_iload_n (pc := 24) X dX0_keepLists_24 rfl rfl ?_
        refine gm_aald (pc := 25) (k' := (60 + h)) X 11 (h) (.array .int) dX0_keepLists_25 rfl (by decide) (by decide) rfl rfl rfl (show h < 8 from by omega) (by decide) (kd_was h (by omega)).1 ?_
        refine g_iconst (pc := 26) (v := 0) X dX0_keepLists_26 (by decide) ?_
        refine g_bipush (pc := 27) (v := 16) X dX0_keepLists_27 (by decide) ?_
        refine gm_copy (pc := 29) X 16 dX0_keepLists_29 xw_508 xw_510 xw_509 xw_45 (kd_half h (by omega)).2.2.2.1 (kd_was h (by omega)).2.1 rfl (by rw [(kd_half h (by omega)).2.2.2.2]; decide) (by rw [(kd_was h (by omega)).2.2]; decide) (by rw [(kd_half h (by omega)).2.2.2.2]; decide) (by decide) (Nat.le_of_ble_eq_true rfl) ?_
        refine g_inc (pc := 32) (kv := 1) X dX0_keepLists_32 (by decide) rfl (by decide) ?_
        refine g_goto (pc := 35) (tgt := 2) X dX0_keepLists_35 (by decide) ?_
        exact ih (h + 1) _ _ (by omega) (nI_1 h) (xkl_s t (by omega)) (by omega)
  refine g_iconst (pc := 0) (v := 0) X dX0_keepLists_0 (by decide) ?_
  refine g_istore_n (pc := 1) X dX0_keepLists_1 rfl (by decide) ?_
  exact loop (nh + 1) 0 _ _ (by omega) nI_0.symm (xkl_0 t).symm (Nat.zero_le _)

/-- leaf number k put to its place among the first at ones -/
def ins (P : Int32 → Int32) (k : Nat) : Nat → (Nat → Int32) → (Nat → Int32)
  | 0, o => upd o 0 (nI k)
  | at1 + 1, o => if P (nI k) < P (o at1) then ins P k at1 (upd o (at1 + 1) (o at1)) else upd o (at1 + 1) (nI k)
def oi (P : Int32 → Int32) : Nat → (Nat → Int32) → (Nat → Int32)
  | 0, o => o
  | k + 1, o => ins P k k (oi P k o)
theorem ins_rng {P : Int32 → Int32} {k n : Nat} (hk : k < n) : ∀ {a : Nat} {o : Nat → Int32}, a ≤ k → (∀ i, i ≤ k → i ≠ a → ∃ j, j < n ∧ o i = nI j) → ∀ i, i ≤ k → ∃ j, j < n ∧ ins P k a o i = nI j
  | 0, o, _, h, i, hi => by
    unfold ins upd
    by_cases e : i = 0
    · exact ⟨k, hk, by rw [if_pos e]⟩
    · rw [if_neg e]; exact h i hi e
  | a + 1, o, ha, h, i, hi => by
    unfold ins
    split
    · refine ins_rng hk (by omega) (fun j hj1 hj2 => ?_) i hi
      unfold upd
      by_cases e : j = a + 1
      · rw [if_pos e]; exact h a (by omega) (by omega)
      · rw [if_neg e]; exact h j hj1 e
    · unfold upd
      by_cases e : i = a + 1
      · exact ⟨k, hk, by rw [if_pos e]⟩
      · rw [if_neg e]; exact h i hi e
theorem oi_rng {P : Int32 → Int32} {o : Nat → Int32} : ∀ {k : Nat} (i : Nat), i < k → ∃ j, j < k ∧ oi P k o i = nI j
  | 0, i, h => absurd h (Nat.not_lt_zero i)
  | k + 1, i, h => by
    unfold oi
    refine ins_rng (n := k + 1) (by omega) (Nat.le_refl k) (fun j hj1 hj2 => ?_) i (by omega)
    obtain ⟨q, hq, e⟩ := oi_rng (P := P) (o := o) (k := k) j (by omega)
    exact ⟨q, by omega, e⟩
theorem ins_cong {P Q : Int32 → Int32} {k : Nat} (hk : P (nI k) = Q (nI k)) : ∀ {a : Nat} {o o2 : Nat → Int32}, a ≤ k → (∀ i, i ≤ k → i ≠ a → o i = o2 i) → (∀ i, i < a → P (o i) = Q (o i)) → ∀ i, i ≤ k → ins P k a o i = ins Q k a o2 i
  | 0, o, o2, _, h, _, i, hi => by
    unfold ins upd
    by_cases e : i = 0
    · rw [if_pos e, if_pos e]
    · rw [if_neg e, if_neg e]; exact h i hi e
  | a + 1, o, o2, ha, h, hP, i, hi => by
    unfold ins
    rw [hk, hP a (by omega), h a (by omega) (by omega)]
    split
    · refine ins_cong hk (by omega) (fun j hj1 hj2 => ?_) (fun j hj => ?_) i hi
      · unfold upd
        by_cases e : j = a + 1
        · rw [if_pos e, if_pos e]
        · rw [if_neg e, if_neg e]; exact h j hj1 e
      · unfold upd
        rw [if_neg (by omega)]; exact hP j (by omega)
    · unfold upd
      by_cases e : i = a + 1
      · rw [if_pos e, if_pos e]
      · rw [if_neg e, if_neg e]; exact h i hi e
theorem oi_cong {P Q : Int32 → Int32} {o o2 : Nat → Int32} : ∀ {k : Nat}, (∀ j, j < k → P (nI j) = Q (nI j)) → ∀ i, i < k → oi P k o i = oi Q k o2 i
  | 0, _, i, h => absurd h (Nat.not_lt_zero i)
  | k + 1, hP, i, h => by
    unfold oi
    have ih := oi_cong (P := P) (Q := Q) (o := o) (o2 := o2) (k := k) (fun j hj => hP j (by omega))
    refine ins_cong (hP k (by omega)) (Nat.le_refl k) (fun j hj1 hj2 => ih j (by omega)) (fun j hj => ?_) i (by omega)
    obtain ⟨q, hq, e⟩ := oi_rng (P := P) (o := o) (k := k) j hj
    rw [e]; exact hP q (by omega)
def xo (t : xT) (c : Nat) (f : Nat → Int32) : xT := fun x y => if x = c then f y else t x y
theorem xo_self (t : xT) (c : Nat) : xo t c (t c) = t := by
  funext x y; unfold xo; split
  · rename_i h; rw [h]
  · rfl
theorem xo_ne (t : xT) {c x : Nat} (f : Nat → Int32) (y : Nat) (h : x ≠ c) : xo t c f x y = t x y := if_neg h
theorem xo_at (t : xT) (c : Nat) (f : Nat → Int32) (y : Nat) : xo t c f c y = f y := if_pos rfl
theorem xo_xt (t : xT) (c : Nat) (f : Nat → Int32) (j : Nat) (v : Int32) : xt (xo t c f) c j v = xo t c (upd f j v) := by
  funext x y
  unfold xt xo upd
  by_cases h : x = c
  · subst h; simp
  · simp [h]
abbrev plI (t : xT) : Int32 → Int32 := fun v => t (68 + v.toNatClampNeg) 2
set_option maxRecDepth 100000 in
set_option maxHeartbeats 4000000 in
theorem c_putInOrder (l : Launch) (G : xg_G) (O : Heap) (t : xT) (nj : Nat) (hnj : nj ≤ 8) (h5 : t 55 4 = nI nj) : xm l yX0_putInOrder cX0_putInOrder 3 none rmX0_putInOrder G O t [.ref (O.size + 55)] (xv (fun t' => t' = xo t 57 (oi (plI t) nj (t 57)))) := by
  refine xm_enter (by decide) 2 rfl rfl ?_
  intro p e s m args below meth c X hr hk
  refine g_eq (L2 := [some (.ref (O.size + 55)), none, none]) rfl rfl rfl ?_
  have loop : ∀ (z9 : Nat) (k : Nat) (xk : Int32) (t1 : xT), nj - k < z9 → xk = nI k → t1 = xo t 57 (oi (plI t) k (t 57)) → k ≤ nj → gm p l e rmX0_putInOrder s m args below meth c 3 G O (xmQ below G O (xv (fun t' => t' = xo t 57 (oi (plI t) nj (t 57)))) args s) (t1) [some (.ref (O.size + 55)), some (.int (xk)), none] 2 [] := by
    intro z9
    induction z9 with
    | zero => intro k xk t1 h9; exact absurd h9 (Nat.not_lt_zero _)
    | succ z9 ih =>
      intro k xk t1 h9 hxk ht1 hkn
      subst hxk
      subst ht1
      have e5 : ∀ f, xo t 57 f 55 4 = nI nj := fun f => by rw [xo_ne t f 4 (by decide)]; exact h5
      refine g_iload_n (pc := 2) X dX0_putInOrder_2 rfl rfl ?_
      refine g_aload_n (pc := 3) X dX0_putInOrder_3 rfl rfl ?_
      refine gm_getI (pc := 4) (j := 4) X 0 dX0_putInOrder_4 rfl (by decide) rfl xu_0 (by decide) rfl xw_252 rfl ?_
      refine g_icmp_ge (pc := 7) (tgt := 77) X dX0_putInOrder_7 (by decide) (fun hc_7 => ?_) (fun hc_7 => ?_)
      · exact gm_vret (pc := 77) X hr hk dX0_putInOrder_77 (by rw [e5] at hc_7; rw [show k = nj by have := n_ge hc_7; omega])
      · have hkl : k < nj := by rw [e5] at hc_7; exact n_gt hc_7
        refine g_iload_n (pc := 10) X dX0_putInOrder_10 rfl rfl ?_
        refine g_istore_n (pc := 11) X dX0_putInOrder_11 rfl (by decide) ?_
        have inner : ∀ (z9 : Nat) (a : Nat) (xa : Int32) (o1 : Nat → Int32) (t1 : xT), a < z9 → xa = nI a → a ≤ k → (∀ i, i < a → ∃ j, j < nj ∧ o1 i = nI j) → ins (plI t) k a o1 = oi (plI t) (k + 1) (t 57) → t1 = xo t 57 o1 → gm p l e rmX0_putInOrder s m args below meth c 3 G O (xmQ below G O (xv (fun t' => t' = xo t 57 (oi (plI t) nj (t 57)))) args s) (t1) [some (.ref (O.size + 55)), some (.int (nI k)), some (.int (xa))] 12 [] := by
          intro z9
          induction z9 with
          | zero => intro a xa o1 t1 h9; exact absurd h9 (Nat.not_lt_zero _)
          | succ z9 ih2 =>
            intro a xa o1 t1 h9 hxa hak hrng hins ht1
            subst hxa
            subst ht1
            refine g_iload_n (pc := 12) X dX0_putInOrder_12 rfl rfl ?_
            refine g_if_le (pc := 13) (tgt := 64) X dX0_putInOrder_13 (by decide) (fun hc_13 => ?_) (fun hc_13 => ?_)
            · refine g_aload_n (pc := 64) X dX0_putInOrder_64 rfl rfl ?_
              refine gm_getR (k' := 57) (pc := 65) (j := 1) X 0 dX0_putInOrder_65 rfl (by decide) rfl xu_0 (by decide) rfl xw_246 rfl rfl ?_
              refine g_iload_n (pc := 68) X dX0_putInOrder_68 rfl rfl ?_
              refine g_iload_n (pc := 69) X dX0_putInOrder_69 rfl rfl ?_
              refine gm_iast (pc := 70) X (a) dX0_putInOrder_70 rfl rfl (show a < 8 from by omega) (by decide) ?_
              refine g_inc (pc := 71) (kv := 1) X dX0_putInOrder_71 (by decide) rfl (by decide) ?_
              refine g_goto (pc := 74) (tgt := 2) X dX0_putInOrder_74 (by decide) ?_
              refine g_wk 2 ?_
              exact ih (k + 1) _ _ (by omega) (nI_1 k) (by rw [xo_xt, ← hins]; rw [show a = 0 by rcases Nat.eq_zero_or_pos a with q | q; exact q; exact absurd hc_13 (nI_nle q (by omega))]; rfl) (by omega)
            · have ha0 : 0 < a := by rcases Nat.eq_zero_or_pos a with q | q; rw [q, nI_0] at hc_13; exact absurd (by decide) hc_13; exact q
              have ea : nI a - 1 = nI (a - 1) := by have := nI_pred (a - 1); rwa [show a - 1 + 1 = a by omega] at this
              obtain ⟨j1, hj1, ej⟩ := hrng (a - 1) (by omega)
              have hj8 : j1 < 8 := by omega
              refine g_aload_n (pc := 16) X dX0_putInOrder_16 rfl rfl ?_
              refine gm_getR (k' := 56) (pc := 17) (j := 0) X 0 dX0_putInOrder_17 rfl (by decide) rfl xu_0 (by decide) rfl xw_244 rfl rfl ?_
              refine g_aload_n (pc := 20) X dX0_putInOrder_20 rfl rfl ?_
              refine gm_getR (k' := 57) (pc := 21) (j := 1) X 0 dX0_putInOrder_21 rfl (by decide) rfl xu_0 (by decide) rfl xw_246 rfl rfl ?_
              refine g_iload_n (pc := 24) X dX0_putInOrder_24 rfl rfl ?_
              refine g_iconst (pc := 25) (v := 1) X dX0_putInOrder_25 (by decide) ?_
              refine g_isub (pc := 26) X dX0_putInOrder_26 ?_
              refine gm_iald (pc := 27) X (a - 1) dX0_putInOrder_27 rfl ea (show a - 1 < 8 from by omega) (by decide) ?_
              rw [xo_at, ej]
              refine gm_aald (pc := 28) (k' := (68 + j1)) X 13 (j1) (.object "UnderText$Leaf") dX0_putInOrder_28 rfl (by decide) (by decide) rfl rfl rfl (show j1 < 8 from by omega) (by decide) (kd_leaf j1 hj8).1 ?_
              refine gm_getI (pc := 29) (j := 2) X 3 dX0_putInOrder_29 (kd_leaf j1 hj8).2 (by decide) rfl xu_3 (by decide) rfl xw_157 rfl ?_
              refine g_aload_n (pc := 32) X dX0_putInOrder_32 rfl rfl ?_
              refine gm_getR (k' := 56) (pc := 33) (j := 0) X 0 dX0_putInOrder_33 rfl (by decide) rfl xu_0 (by decide) rfl xw_244 rfl rfl ?_
              refine g_iload_n (pc := 36) X dX0_putInOrder_36 rfl rfl ?_
              refine gm_aald (pc := 37) (k' := (68 + k)) X 13 (k) (.object "UnderText$Leaf") dX0_putInOrder_37 rfl (by decide) (by decide) rfl rfl rfl (show k < 8 from by omega) (by decide) (kd_leaf k (by omega)).1 ?_
              refine gm_getI (pc := 38) (j := 2) X 3 dX0_putInOrder_38 (kd_leaf k (show k < 8 by omega)).2 (by decide) rfl xu_3 (by decide) rfl xw_157 rfl ?_
              refine g_icmp_le (pc := 41) (tgt := 64) X dX0_putInOrder_41 (by decide) (fun hc_41 => ?_) (fun hc_41 => ?_)
              · refine g_aload_n (pc := 64) X dX0_putInOrder_64 rfl rfl ?_
                refine gm_getR (k' := 57) (pc := 65) (j := 1) X 0 dX0_putInOrder_65 rfl (by decide) rfl xu_0 (by decide) rfl xw_246 rfl rfl ?_
                refine g_iload_n (pc := 68) X dX0_putInOrder_68 rfl rfl ?_
                refine g_iload_n (pc := 69) X dX0_putInOrder_69 rfl rfl ?_
                refine gm_iast (pc := 70) X (a) dX0_putInOrder_70 rfl rfl (show a < 8 from by omega) (by decide) ?_
                refine g_inc (pc := 71) (kv := 1) X dX0_putInOrder_71 (by decide) rfl (by decide) ?_
                refine g_goto (pc := 74) (tgt := 2) X dX0_putInOrder_74 (by decide) ?_
                refine g_wk 2 ?_
                exact ih (k + 1) _ _ (by omega) (nI_1 k) (by
                  rw [xo_ne _ _ _ (by omega), xo_ne _ _ _ (by omega)] at hc_41
                  rw [xo_xt, ← hins]
                  obtain ⟨a1, rfl⟩ : ∃ a1, a = a1 + 1 := ⟨a - 1, by omega⟩
                  show _ = xo t 57 (ins (plI t) k (a1 + 1) o1)
                  rw [ins.eq_2, if_neg (by
                    rw [show o1 a1 = nI j1 from ej]
                    show ¬ t (68 + (nI k).toNatClampNeg) 2 < t (68 + (nI j1).toNatClampNeg) 2
                    rw [nI_clamp (by omega), nI_clamp (by omega)]
                    exact k2_nlt hc_41)]) (by omega)
              · refine g_aload_n (pc := 44) X dX0_putInOrder_44 rfl rfl ?_
                refine gm_getR (k' := 57) (pc := 45) (j := 1) X 0 dX0_putInOrder_45 rfl (by decide) rfl xu_0 (by decide) rfl xw_246 rfl rfl ?_
                refine g_iload_n (pc := 48) X dX0_putInOrder_48 rfl rfl ?_
                refine g_aload_n (pc := 49) X dX0_putInOrder_49 rfl rfl ?_
                refine gm_getR (k' := 57) (pc := 50) (j := 1) X 0 dX0_putInOrder_50 rfl (by decide) rfl xu_0 (by decide) rfl xw_246 rfl rfl ?_
                refine g_iload_n (pc := 53) X dX0_putInOrder_53 rfl rfl ?_
                refine g_iconst (pc := 54) (v := 1) X dX0_putInOrder_54 (by decide) ?_
                refine g_isub (pc := 55) X dX0_putInOrder_55 ?_
                refine gm_iald (pc := 56) X (a - 1) dX0_putInOrder_56 rfl ea (show a - 1 < 8 from by omega) (by decide) ?_
                refine gm_iast (pc := 57) X (a) dX0_putInOrder_57 rfl rfl (show a < 8 from by omega) (by decide) ?_
                refine g_inc (pc := 58) (kv := (-1)) X dX0_putInOrder_58 (by decide) rfl (by decide) ?_
                refine g_goto (pc := 61) (tgt := 12) X dX0_putInOrder_61 (by decide) ?_
                rw [xo_ne _ _ _ (by omega), xo_ne _ _ _ (by omega)] at hc_41
                obtain ⟨a1, rfl⟩ : ∃ a1, a = a1 + 1 := ⟨a - 1, by omega⟩
                exact ih2 a1 _ (upd o1 (a1 + 1) (o1 a1)) _ (by omega) (by rw [pk_m1]) (by omega) (fun i hi => by unfold upd; rw [if_neg (by omega)]; exact hrng i (by omega)) (by
                  rw [← hins, ins.eq_2, if_pos (by
                    rw [show o1 a1 = nI j1 from ej]
                    show t (68 + (nI k).toNatClampNeg) 2 < t (68 + (nI j1).toNatClampNeg) 2
                    rw [nI_clamp (by omega), nI_clamp (by omega)]
                    exact k2_lt (fun q => hc_41 q))]) (by rw [xo_at, xo_xt]; rfl)
        exact inner (k + 1) k _ _ _ (by omega) rfl (Nat.le_refl k) (fun i hi => by obtain ⟨j, hj, e⟩ := oi_rng (P := plI t) (o := t 57) i hi; exact ⟨j, by omega, e⟩) rfl rfl
  refine g_iconst (pc := 0) (v := 0) X dX0_putInOrder_0 (by decide) ?_
  refine g_istore_n (pc := 1) X dX0_putInOrder_1 rfl (by decide) ?_
  exact loop (nj + 1) 0 _ _ (by omega) nI_0.symm (xo_self t 57).symm (Nat.zero_le _)
end
section
/-! 06c: Book.addLeaf and keep -/
def uo (x : Int32) : Option Nat := if x = -1 then none else some x.toNatClampNeg
theorem nI_nm1 : ∀ k, k < 8 → ¬ nI k = -1 := by decide
theorem uo_ov {u : Option Nat} (hu : ∀ k, u = some k → k < 8) : uo (ov u) = u := by
  cases u with
  | none => rfl
  | some k =>
    have := hu k rfl
    unfold uo ov
    rw [if_neg (nI_nm1 k this), nI_clamp (by omega)]
theorem tw_form {u l : Int32} {f : Nat → Int32} {b : B4} : ∀ {n : Nat}, tw u l f n b = b ∨ ∃ p, p < n ∧ tw u l f n b = (u, l, nI p, f p)
  | 0 => Or.inl rfl
  | n + 1 => by
    rw [tw.eq_2]
    split
    · exact Or.inr ⟨n, by omega, rfl⟩
    · rcases tw_form (u := u) (l := l) (f := f) (b := b) (n := n) with h | ⟨p, hp, h⟩
      · exact Or.inl h
      · exact Or.inr ⟨p, by omega, h⟩
theorem trg_form {pt : Nat → Int32} {F : Option Nat → Option Nat → Nat → Int32} {pl : Nat} {u v : Option Nat} {b : B4} : trg pt F pl u v b = b ∨ ∃ p, p < pl ∧ trg pt F pl u v b = (ov u, ov v, nI p, F u v p) := by
  unfold trg
  split
  · exact tw_form
  · exact Or.inl rfl
theorem bsg_form {pt sd rl : Nat → Int32} {F : Option Nat → Option Nat → Nat → Int32} {pl x y : Nat} {b : B4} (hb : b.2.2.2 = -1) (h : ¬ (bsg pt sd rl F pl x y b).2.2.2 = -1) : ∃ u v p, p < pl ∧ bsg pt sd rl F pl x y b = (ov u, ov v, nI p, F u v p) ∧ ((x = y ∧ ((u = some x ∧ v = none) ∨ (u = none ∧ v = some x))) ∨ (x ≠ y ∧ sd x = sd y ∧ ((u = some x ∧ v = some y) ∨ (u = some y ∧ v = some x)))) := by
  unfold bsg at h ⊢
  split at h
  · rename_i e
    rw [if_pos e]
    rcases trg_form (pt := pt) (F := F) (pl := pl) (u := none) (v := some x) (b := trg pt F pl (some x) none b) with q | ⟨p, hp, q⟩
    · rcases trg_form (pt := pt) (F := F) (pl := pl) (u := some x) (v := none) (b := b) with q2 | ⟨p, hp, q2⟩
      · rw [q, q2] at h; exact absurd hb h
      · exact ⟨some x, none, p, hp, by rw [q, q2], Or.inl ⟨e, Or.inl ⟨rfl, rfl⟩⟩⟩
    · exact ⟨none, some x, p, hp, q, Or.inl ⟨e, Or.inr ⟨rfl, rfl⟩⟩⟩
  · rename_i e
    rw [if_neg e]
    split at h
    · rename_i e2
      rw [if_pos e2]
      rcases trg_form (pt := pt) (F := F) (pl := pl) (u := some y) (v := some x) (b := trg pt F pl (some x) (some y) b) with q | ⟨p, hp, q⟩
      · rcases trg_form (pt := pt) (F := F) (pl := pl) (u := some x) (v := some y) (b := b) with q2 | ⟨p, hp, q2⟩
        · rw [q, q2] at h; exact absurd hb h
        · exact ⟨some x, some y, p, hp, by rw [q, q2], Or.inr ⟨e, e2.1, Or.inl ⟨rfl, rfl⟩⟩⟩
      · exact ⟨some y, some x, p, hp, q, Or.inr ⟨e, e2.1, Or.inr ⟨rfl, rfl⟩⟩⟩
    · exact absurd hb h
/-- the halves of a best, as they lie -/
theorem bs_uv {pt sd rl : Nat → Int32} {F : Option Nat → Option Nat → Nat → Int32} {pl a b n : Nat} {c : B4} (hb : c.2.2.2 = -1) (ha : a < n) (hbn : b < n) (hn : n ≤ 8) (h : ¬ (bsg pt sd rl F pl (min a b) (max a b) c).2.2.2 = -1) : ∃ u v p, p < pl ∧ bsg pt sd rl F pl (min a b) (max a b) c = (ov u, ov v, nI p, F u v p) ∧ (∀ k, u = some k → k < n) ∧ (∀ k, v = some k → k < n) ∧ (u ≠ none ∨ v ≠ none) := by
  obtain ⟨u, v, p, hp, e, w⟩ := bsg_form hb h
  have hx : min a b < n := by omega
  have hy : max a b < n := by omega
  refine ⟨u, v, p, hp, e, ?_, ?_, ?_⟩
  · intro k hk
    rcases w with ⟨-, ⟨rfl, -⟩ | ⟨rfl, -⟩⟩ | ⟨-, -, ⟨rfl, -⟩ | ⟨rfl, -⟩⟩ <;> cases hk <;> assumption
  · intro k hk
    rcases w with ⟨-, ⟨-, rfl⟩ | ⟨-, rfl⟩⟩ | ⟨-, -, ⟨-, rfl⟩ | ⟨-, rfl⟩⟩ <;> cases hk <;> assumption
  · rcases w with ⟨-, ⟨rfl, -⟩ | ⟨-, rfl⟩⟩ | ⟨-, -, ⟨rfl, -⟩ | ⟨rfl, -⟩⟩
    · exact Or.inl (by simp)
    · exact Or.inr (by simp)
    · exact Or.inl (by simp)
    · exact Or.inl (by simp)
abbrev manyC (t : xT) (pl : Nat) (R : B4) : Int32 := nI (cn (fC t (uo R.1) (uo R.2.1)) R.2.2.2 pl)
abbrev frtC (t : xT) (R : B4) : Int32 := t (8 + 2 * mx (uo R.1) (uo R.2.1)) 1
def lfS (t : xT) (k pl : Nat) (R : B4) : xT := xt (xt (xt (setL (setB t R) k R) k 5 (nI pl)) k 4 (manyC t pl R)) k 6 (frtC t R)
theorem lfS_ne (t : xT) {k x : Nat} (pl : Nat) (R : B4) (y : Nat) (h : x ≠ k) (h2 : x ≠ 24) : lfS t k pl R x y = t x y := by
  unfold lfS
  rw [xt_nk _ _ _ _ h, xt_nk _ _ _ _ h, xt_nk _ _ _ _ h, setL_ne _ _ _ h, setB_ne _ _ _ h2]
set_option maxRecDepth 100000 in
set_option maxHeartbeats 4000000 in
theorem c_addLeaf (l : Launch) (G : xg_G) (O : Heap) (t : xT) (nl nh j a b : Nat) (hnl : nl ≤ 160) (h4 : t 4 1 = nI nl) (hnh : nh ≤ 8) (h1 : t 6 1 = nI nh) (ha : a < nh) (hb : b < nh) (hj : j < 8) (h5 : t 55 4 = nI j) (hq : ¬ (bsC t (nl - 31) a b).2.2.2 = -1) : xm l yX0_addLeaf cX0_addLeaf 4 none rmX0_addLeaf G O t [.ref (O.size + 55), .ref (O.size + 3), .int (nI a), .int (nI b)] (xv (fun t' => t' = xt (xt (xt (lfS t (68 + j) (nl - 31) (bsC t (nl - 31) a b)) 58 a (nI j)) 58 b (nI j)) 55 4 (nI (j + 1)))) := by
  refine xm_enter (by decide) 0 rfl rfl ?_
  intro p e s m args below meth c X hr hk
  refine g_eq (L2 := [some (.ref (O.size + 55)), some (.ref (O.size + 3)), some (.int (nI a)), some (.int (nI b))]) rfl rfl rfl ?_
  obtain ⟨u, v, pp, hpp, eR, hu, hv, huv⟩ := bs_uv (c := (-1, -1, -1, -1)) rfl ha hb hnh hq
  have hu8 : ∀ k, u = some k → k < 8 := fun k h => by have := hu k h; omega
  have hv8 : ∀ k, v = some k → k < 8 := fun k h => by have := hv k h; omega
  have eR : bsC t (nl - 31) a b = (ov u, ov v, nI pp, fC t u v pp) := eR
  generalize hRe : bsC t (nl - 31) a b = R at *
  have eu : R.1 = ov u := by rw [eR]
  have ev : R.2.1 = ov v := by rw [eR]
  have uu : uo R.1 = u := by rw [eu]; exact uo_ov hu8
  have vv : uo R.2.1 = v := by rw [ev]; exact uo_ov hv8
  have hmx : mx u v < 8 := by
    have := (ov_max hu8 hv8 huv).2
    rcases this with q | q
    · exact hu8 _ q
    · exact hv8 _ q
  refine g_aload_n (pc := 0) X dX0_addLeaf_0 rfl rfl ?_
  refine gm_getI (pc := 1) (j := 4) X 0 dX0_addLeaf_1 rfl (by decide) rfl xu_0 (by decide) rfl xw_252 rfl ?_
  refine g_bipush (pc := 4) (v := 8) X dX0_addLeaf_4 (by decide) ?_
  refine g_icmp_ge (pc := 6) (tgt := 61) X dX0_addLeaf_6 (by decide) (fun hc_6 => ?_) (fun hc_6 => ?_)
  · rw [h5] at hc_6
    exact absurd (n_ge (a := 8) (b := j) hc_6) (by omega)
  · refine g_aload_n (pc := 9) X dX0_addLeaf_9 rfl rfl ?_
    refine g_iload_n (pc := 10) X dX0_addLeaf_10 rfl rfl ?_
    refine g_iload_n (pc := 11) X dX0_addLeaf_11 rfl rfl ?_
    refine gm_Vi (pc := 12) X 5 xc_X0_71 (c_seekBest l G O _ nl nh a b hnl h4 hnh h1 ha hb) dX0_addLeaf_12 rfl (by decide) rfl rfl rfl rfl (Nat.le_of_ble_eq_true rfl) (fun v_12 t_12 hp => ?_)
    obtain ⟨hv12, ht12⟩ := hp
    have ev12 : v_12 = bi (¬ (bsC t (nl - 31) a b).2.2.2 = -1) := hv12
    have et12 : t_12 = setB t (bsC t (nl - 31) a b) := ht12
    rw [hRe] at ev12 et12
    subst ev12
    subst et12
    clear hv12 ht12
    refine g_if_eq (pc := 15) (tgt := 61) X dX0_addLeaf_15 (by decide) (fun hc_15 => ?_) (fun hc_15 => ?_)
    · exact absurd hq (bi_0 hc_15)
    · refine g_aload_n (pc := 18) X dX0_addLeaf_18 rfl rfl ?_
      refine g_aload_n (pc := 19) X dX0_addLeaf_19 rfl rfl ?_
      refine gm_getR (k' := 56) (pc := 20) (j := 0) X 0 dX0_addLeaf_20 rfl (by decide) rfl xu_0 (by decide) rfl xw_244 rfl rfl ?_
      refine g_aload_n (pc := 23) X dX0_addLeaf_23 rfl rfl ?_
      refine gm_getI (pc := 24) (j := 4) X 0 dX0_addLeaf_24 rfl (by decide) rfl xu_0 (by decide) rfl xw_252 rfl ?_
      rw [setB_ne t R 4 (by decide), h5]
      refine gm_aald (pc := 27) (k' := (68 + j)) X 13 (j) (.object "UnderText$Leaf") dX0_addLeaf_27 rfl (by decide) (by decide) rfl rfl rfl (show j < 8 from by omega) (by decide) (kd_leaf j hj).1 ?_
      refine gm_Vv (pc := 28) X 5 xc_X0_77 (c_copyFoundTo l G O _ nl nh (68 + j) u v hnl (by rw [setB_ne t R _ (by decide)]; exact h4) hnh (by rw [setB_ne t R _ (by decide)]; exact h1) hu hv (kd_leaf j hj).2 (by omega) (by rw [show setB t R 24 0 = R.1 by simp [setB, xt]]; exact eu) (by rw [show setB t R 24 1 = R.2.1 by simp [setB, xt]]; exact ev) huv) dX0_addLeaf_28 rfl (by decide) rfl rfl rfl rfl (Nat.le_of_ble_eq_true rfl) (fun t_28 hp => ?_)
      refine gm_st (t2 := lfS t (68 + j) (nl - 31) R) (by rw [hp, getB_set, fC_set, setB_q, setB_ne t R (x := 8 + 2 * mx u v) 1 (by omega)]; unfold lfS; rw [show manyC t (nl - 31) R = nI (cn (fC t u v) R.2.2.2 (nl - 31)) by show nI (cn (fC t (uo R.1) (uo R.2.1)) _ _) = _; rw [uu, vv], show frtC t R = t (8 + 2 * mx u v) 1 by show t (8 + 2 * mx (uo R.1) (uo R.2.1)) 1 = _; rw [uu, vv]]) rfl ?_
      clear hp
      have e5 : lfS t (68 + j) (nl - 31) R 55 4 = nI j := by rw [lfS_ne t _ R 4 (by omega) (by decide)]; exact h5
      refine g_aload_n (pc := 31) X dX0_addLeaf_31 rfl rfl ?_
      refine gm_getR (k' := 58) (pc := 32) (j := 2) X 0 dX0_addLeaf_32 rfl (by decide) rfl xu_0 (by decide) rfl xw_248 rfl rfl ?_
      refine g_iload_n (pc := 35) X dX0_addLeaf_35 rfl rfl ?_
      refine g_aload_n (pc := 36) X dX0_addLeaf_36 rfl rfl ?_
      refine gm_getI (pc := 37) (j := 4) X 0 dX0_addLeaf_37 rfl (by decide) rfl xu_0 (by decide) rfl xw_252 rfl ?_
      rw [e5]
      refine gm_iast (pc := 40) X (a) dX0_addLeaf_40 rfl rfl (show a < 8 from by omega) (by decide) ?_
      refine g_aload_n (pc := 41) X dX0_addLeaf_41 rfl rfl ?_
      refine gm_getR (k' := 58) (pc := 42) (j := 2) X 0 dX0_addLeaf_42 rfl (by decide) rfl xu_0 (by decide) rfl xw_248 rfl rfl ?_
      refine g_iload_n (pc := 45) X dX0_addLeaf_45 rfl rfl ?_
      refine g_aload_n (pc := 46) X dX0_addLeaf_46 rfl rfl ?_
      refine gm_getI (pc := 47) (j := 4) X 0 dX0_addLeaf_47 rfl (by decide) rfl xu_0 (by decide) rfl xw_252 rfl ?_
      rw [xt_nk _ _ _ _ (by decide), e5]
      refine gm_iast (pc := 50) X (b) dX0_addLeaf_50 rfl rfl (show b < 8 from by omega) (by decide) ?_
      refine g_aload_n (pc := 51) X dX0_addLeaf_51 rfl rfl ?_
      refine g_dup (pc := 52) X dX0_addLeaf_52 rfl ?_
      refine gm_getI (pc := 53) (j := 4) X 0 dX0_addLeaf_53 rfl (by decide) rfl xu_0 (by decide) rfl xw_252 rfl ?_
      rw [xt_nk _ _ _ _ (by decide), xt_nk _ _ _ _ (by decide), e5]
      refine g_iconst (pc := 56) (v := 1) X dX0_addLeaf_56 (by decide) ?_
      refine g_iadd (pc := 57) X dX0_addLeaf_57 ?_
      rw [nI_1]
      refine gm_putI (pc := 58) (j := 4) X 0 tyX0 dX0_addLeaf_58 rfl (by decide) rfl xu_0 tyX0_ok nmX0 (by decide) rfl xw_252 rfl rfl (Or.inl rfl) ?_
      exact gm_vret (pc := 61) X hr hk dX0_addLeaf_61 (rfl)

def lfs (mt : Nat → Nat) (w : Nat) : Nat → Nat
  | 0 => w
  | k + 1 => wo (lfs mt w k) (fsb (lfs mt w k)) (mt (lfs mt w k))
abbrev lvR (t : xT) (pl : Nat) (mt : Nat → Nat) (w j : Nat) : B4 := bsC t pl (fsb (lfs mt w j)) (mt (lfs mt w j))
theorem lfs_le (mt : Nat → Nat) (w : Nat) : ∀ k, lfs mt w k ≤ w
  | 0 => Nat.le_refl w
  | k + 1 => Nat.le_trans (wo_le _ _ _) (lfs_le mt w k)
/-- what holds of the mates of the sets below W -/
def mtOK (mt : Nat → Nat) (n W : Nat) : Prop := ∀ s, 0 < s → s < W → mt s < n ∧ s.testBit (mt s) = true
theorem lfs_step {mt : Nat → Nat} {w n W k : Nat} (hW : w < W) (hw : W ≤ 256) (hn : n ≤ 8) (hm : mtOK mt n W) (h0 : lfs mt w k ≠ 0) : ∀ j, j < 8 → (lfs mt w (k + 1)).testBit j = ((lfs mt w k).testBit j && decide (j ≠ fsb (lfs mt w k)) && decide (j ≠ mt (lfs mt w k))) := by
  intro j hj
  have h1 := lfs_le mt w k
  have hf := fsb_ok (lfs mt w k) (by omega) h0
  have hm2 := hm (lfs mt w k) (by omega) (by omega)
  exact wo_bit hf.1 (by omega) hj
theorem lfs_sub {mt : Nat → Nat} {w n W : Nat} (hW : w < W) (hw : W ≤ 256) (hn : n ≤ 8) (hm : mtOK mt n W) {j : Nat} (hj : j < 8) : ∀ {d k : Nat}, (∀ i, i < k + d → lfs mt w i ≠ 0) → (lfs mt w (k + d)).testBit j = true → (lfs mt w k).testBit j = true
  | 0, k, _, h => h
  | d + 1, k, h0, h => by
    have h2 : (lfs mt w (k + d + 1)).testBit j = true := h
    rw [lfs_step hW hw hn hm (h0 (k + d) (by omega)) j hj] at h2
    simp only [Bool.and_eq_true] at h2
    exact lfs_sub hW hw hn hm hj (d := d) (fun i hi => h0 i (by omega)) h2.1.1
/-- the halves of later leaves are others -/
theorem lfs_new {mt : Nat → Nat} {w n W : Nat} (hW : w < W) (hw : W ≤ 256) (hn : n ≤ 8) (hm : mtOK mt n W) {i k h : Nat} (hik : i < k) (h0 : ∀ j, j < k → lfs mt w j ≠ 0) (hh : h < 8) (hb : (lfs mt w k).testBit h = true) : h ≠ fsb (lfs mt w i) ∧ h ≠ mt (lfs mt w i) := by
  have h1 : (lfs mt w (i + 1)).testBit h = true := lfs_sub hW hw hn hm hh (d := k - (i + 1)) (k := i + 1) (fun j hj => h0 j (by omega)) (by rw [show i + 1 + (k - (i + 1)) = k by omega]; exact hb)
  rw [lfs_step hW hw hn hm (h0 i hik) h hh] at h1
  simp only [Bool.and_eq_true, decide_eq_true_eq] at h1
  exact ⟨h1.1.2, h1.2⟩
theorem lfs_low {mt : Nat → Nat} {w n W : Nat} (hW : w < W) (hw : W ≤ 256) (hn : n ≤ 8) (hm : mtOK mt n W) : ∀ {k : Nat}, k ≤ 8 → (∀ j, j < k → lfs mt w j ≠ 0) → ∀ j, j < k → (lfs mt w k).testBit j = false
  | 0, _, _, j, hj => absurd hj (Nat.not_lt_zero j)
  | k + 1, h8, h0, j, hj => by
    have ih := lfs_low hW hw hn hm (k := k) (by omega) (fun j hj => h0 j (by omega))
    have hk0 := h0 k (by omega)
    have hle := lfs_le mt w k
    have hf := fsb_ok (lfs mt w k) (by omega) hk0
    rw [lfs_step hW hw hn hm hk0 j (by omega)]
    by_cases e : j = k
    · subst e
      by_cases q : fsb (lfs mt w j) = j
      · rw [show decide (j ≠ fsb (lfs mt w j)) = false by rw [q]; simp]; simp
      · have : j < fsb (lfs mt w j) := by
          rcases Nat.lt_or_ge j (fsb (lfs mt w j)) with r | r
          · exact r
          · exact absurd (ih (fsb (lfs mt w j)) (by omega)) (by rw [hf.2.1]; decide)
        rw [hf.2.2 j this]; rfl
    · rw [ih j (by omega)]; rfl
theorem lfs_end {mt : Nat → Nat} {w n W : Nat} (hW : w < W) (hw : W ≤ 256) (hn : n ≤ 8) (hm : mtOK mt n W) (h0 : ∀ j, j < 8 → lfs mt w j ≠ 0) : lfs mt w 8 = 0 := by
  rcases Nat.eq_zero_or_pos (lfs mt w 8) with q | q
  · exact q
  · have hle := lfs_le mt w 8
    have hf := fsb_ok (lfs mt w 8) (by omega) (by omega)
    have := lfs_low hW hw hn hm (k := 8) (Nat.le_refl 8) h0 (fsb (lfs mt w 8)) hf.1
    rw [hf.2.1] at this; exact absurd this (by decide)
def lfAt (t t1 : xT) (pl j : Nat) (R : B4) : Prop := t1 (68 + j) 0 = R.1 ∧ t1 (68 + j) 1 = R.2.1 ∧ t1 (68 + j) 2 = R.2.2.1 ∧ t1 (68 + j) 3 = R.2.2.2 ∧ t1 (68 + j) 4 = manyC t pl R ∧ t1 (68 + j) 5 = nI pl ∧ t1 (68 + j) 6 = frtC t R
theorem lfS_at (t : xT) {j : Nat} (pl : Nat) (R : B4) : lfAt t (lfS t (68 + j) pl R) pl j R := by
  unfold lfAt lfS setL
  simp [xt]
/-- the leaves kept so far -/
def kpI (t t1 : xT) (pl : Nat) (mt : Nat → Nat) (w k : Nat) : Prop :=
  t1 55 4 = nI k ∧ (∀ j, j < k → lfAt t t1 pl j (lvR t pl mt w j)) ∧ (∀ j, j < k → t1 58 (fsb (lfs mt w j)) = nI j ∧ t1 58 (mt (lfs mt w j)) = nI j) ∧
  (∀ h, h < 8 → (∀ j, j < k → h ≠ fsb (lfs mt w j) ∧ h ≠ mt (lfs mt w j)) → t1 58 h = -1) ∧ ∀ x y, x ≠ 24 → x ≠ 55 → x ≠ 58 → ¬ (68 ≤ x ∧ x ≤ 75) → t1 x y = t x y
theorem fC_cong {t t1 : xT} (h : ∀ x y, 26 ≤ x ∧ x < 43 → t1 x y = t x y) {u v : Option Nat} (hu : ∀ k, u = some k → k < 8) (hv : ∀ k, v = some k → k < 8) : fC t1 u v = fC t u v := by
  funext p
  have r0 := rcell_ok (q := 0) hu (by decide)
  have r1 := rcell_ok (q := 1) hv (by decide)
  show t1 (rcell u 0) p + t1 (rcell v 1) p = t (rcell u 0) p + t (rcell v 1) p
  rw [h _ p r0.2.2, h _ p r1.2.2]
theorem kp_step {t t1 : xT} {pl : Nat} {mt : Nat → Nat} {w n W k : Nat} (hW : w < W) (hw : W ≤ 256) (hn : n ≤ 8) (hm : mtOK mt n W) (hk : k < 8) (h0 : ∀ j, j ≤ k → lfs mt w j ≠ 0) (h : kpI t t1 pl mt w k) (hq : ¬ (lvR t pl mt w k).2.2.2 = -1) :
    kpI t (xt (xt (xt (lfS t1 (68 + k) pl (lvR t pl mt w k)) 58 (fsb (lfs mt w k)) (nI k)) 58 (mt (lfs mt w k)) (nI k)) 55 4 (nI (k + 1))) pl mt w (k + 1) := by
  obtain ⟨p1, p2, p3, p4, p5⟩ := h
  have hle := lfs_le mt w k
  have hf := fsb_ok (lfs mt w k) (by omega) (h0 k (Nat.le_refl k))
  have hmm := hm (lfs mt w k) (Nat.pos_of_ne_zero (h0 k (Nat.le_refl k))) (by omega)
  obtain ⟨u, v, pp, hpp, eR, hu, hv, huv⟩ := bs_uv (c := (-1, -1, -1, -1)) rfl hf.1 (show mt (lfs mt w k) < 8 by omega) (Nat.le_refl 8) hq
  have e58 : ∀ i, i ≠ fsb (lfs mt w k) → i ≠ mt (lfs mt w k) → xt (xt (xt (lfS t1 (68 + k) pl (lvR t pl mt w k)) 58 (fsb (lfs mt w k)) (nI k)) 58 (mt (lfs mt w k)) (nI k)) 55 4 (nI (k + 1)) 58 i = t1 58 i := fun i q1 q2 => by
    rw [xt_nk _ _ _ _ (by decide), xt_ne _ _ (Or.inr q2), xt_ne _ _ (Or.inr q1), lfS_ne _ _ _ _ (by omega) (by decide)]
  have eR2 : lvR t pl mt w k = (ov u, ov v, nI pp, fC t u v pp) := eR
  refine ⟨xt_same _ _ _ _, fun j hj => ?_, fun j hj => ?_, fun h hh hno => ?_, fun x y q1 q2 q3 q4 => ?_⟩
  · have e : ∀ i, xt (xt (xt (lfS t1 (68 + k) pl (lvR t pl mt w k)) 58 (fsb (lfs mt w k)) (nI k)) 58 (mt (lfs mt w k)) (nI k)) 55 4 (nI (k + 1)) (68 + j) i = lfS t1 (68 + k) pl (lvR t pl mt w k) (68 + j) i := fun i => by
      rw [xt_nk _ _ _ _ (by omega), xt_nk _ _ _ _ (by omega), xt_nk _ _ _ _ (by omega)]
    by_cases q : j = k
    · subst q
      have a := lfS_at t1 (j := j) pl (lvR t pl mt w j)
      have f1 : manyC t1 pl (lvR t pl mt w j) = manyC t pl (lvR t pl mt w j) := by
        show nI (cn (fC t1 (uo _) (uo _)) _ _) = nI (cn (fC t (uo _) (uo _)) _ _)
        rw [show (lvR t pl mt w j).1 = ov u by rw [eR2], show (lvR t pl mt w j).2.1 = ov v by rw [eR2], uo_ov hu, uo_ov hv, fC_cong (fun x y hxy => p5 x y (by omega) (by omega) (by omega) (by omega)) hu hv]
      have f2 : frtC t1 (lvR t pl mt w j) = frtC t (lvR t pl mt w j) := by
        show t1 (8 + 2 * mx (uo _) (uo _)) 1 = t (8 + 2 * mx (uo _) (uo _)) 1
        have hmx : mx u v < 8 := by
          rcases (ov_max hu hv huv).2 with q | q
          · exact hu _ q
          · exact hv _ q
        rw [show (lvR t pl mt w j).1 = ov u by rw [eR2], show (lvR t pl mt w j).2.1 = ov v by rw [eR2], uo_ov hu, uo_ov hv, p5 _ _ (by omega) (by omega) (by omega) (by omega)]
      unfold lfAt at a ⊢
      simp only [e]
      rw [← f1, ← f2]
      exact a
    · have a := p2 j (by omega)
      unfold lfAt at a ⊢
      simp only [e]
      rw [lfS_ne _ _ _ _ (by omega) (by omega), lfS_ne _ _ _ _ (by omega) (by omega), lfS_ne _ _ _ _ (by omega) (by omega), lfS_ne _ _ _ _ (by omega) (by omega), lfS_ne _ _ _ _ (by omega) (by omega), lfS_ne _ _ _ _ (by omega) (by omega), lfS_ne _ _ _ _ (by omega) (by omega)]
      exact a
  · by_cases q : j = k
    · subst q
      refine ⟨?_, ?_⟩
      · rw [xt_nk _ _ _ _ (by decide)]
        by_cases q2 : fsb (lfs mt w j) = mt (lfs mt w j)
        · rw [q2, xt_same]
        · rw [xt_ne _ _ (Or.inr q2), xt_same]
      · rw [xt_nk _ _ _ _ (by decide), xt_same]
    · have a := p3 j (by omega)
      have n1 := lfs_new hW hw hn hm (i := j) (k := k) (by omega) (fun i hi => h0 i (by omega)) hf.1 hf.2.1
      have n2 := lfs_new hW hw hn hm (i := j) (k := k) (by omega) (fun i hi => h0 i (by omega)) (show mt (lfs mt w k) < 8 by omega) hmm.2
      exact ⟨(e58 _ (Ne.symm n1.1) (Ne.symm n2.1)).trans a.1, (e58 _ (Ne.symm n1.2) (Ne.symm n2.2)).trans a.2⟩
  · have a := hno k (by omega)
    rw [e58 h a.1 a.2]
    exact p4 h hh (fun j hj => hno j (by omega))
  · rw [xt_nk _ _ _ _ q2, xt_nk _ _ _ _ q3, xt_nk _ _ _ _ q3, lfS_ne _ _ _ _ (by omega) q1]
    exact p5 x y q1 q2 q3 q4
/-- what keep leaves -/
def kpE (t t1 : xT) (pl nh : Nat) (mt : Nat → Nat) (w k : Nat) : Prop :=
  t1 55 4 = nI k ∧ (∀ j, j < k → lfAt t t1 pl j (lvR t pl mt w j)) ∧ (∀ j, j < k → t1 58 (fsb (lfs mt w j)) = nI j ∧ t1 58 (mt (lfs mt w j)) = nI j) ∧
  (∀ h, h < 8 → (∀ j, j < k → h ≠ fsb (lfs mt w j) ∧ h ≠ mt (lfs mt w j)) → t1 58 h = -1) ∧ (∀ i, i < k → t1 57 i = oi (fun v => (lvR t pl mt w v.toNatClampNeg).2.2.1) k (fun _ => 0) i) ∧
  (∀ h, h < nh → ∀ y, y < 16 → t1 (60 + h) y = t (9 + 2 * h) y) ∧ ∀ x y, x ≠ 24 → x ≠ 55 → x ≠ 57 → x ≠ 58 → ¬ (60 ≤ x ∧ x ≤ 75) → t1 x y = t x y
theorem kp_end {t t1 : xT} {pl nh : Nat} {mt : Nat → Nat} {w k : Nat} (hk : k ≤ 8) (hnh : nh ≤ 8) (h : kpI t t1 pl mt w k) : kpE t (xo (xkl t1 nh) 57 (oi (plI (xkl t1 nh)) k (xkl t1 nh 57))) pl nh mt w k := by
  obtain ⟨p1, p2, p3, p4, p5⟩ := h
  refine ⟨?_, fun j hj => ?_, fun j hj => ?_, fun h hh hno => ?_, fun i hi => ?_, fun h hh y hy => ?_, fun x y q1 q2 q3 q4 q5 => ?_⟩
  · rw [xo_ne _ _ _ (by decide), xkl_ne _ _ (by omega)]; exact p1
  · have a := p2 j hj
    unfold lfAt at a ⊢
    have e : ∀ i, xo (xkl t1 nh) 57 (oi (plI (xkl t1 nh)) k (xkl t1 nh 57)) (68 + j) i = t1 (68 + j) i := fun i => by rw [xo_ne _ _ _ (by omega), xkl_ne _ _ (by omega)]
    simp only [e]; exact a
  · rw [xo_ne _ _ _ (by decide), xo_ne _ _ _ (by decide), xkl_ne _ _ (by omega), xkl_ne _ _ (by omega)]; exact p3 j hj
  · rw [xo_ne _ _ _ (by decide), xkl_ne _ _ (by omega)]; exact p4 h hh hno
  · rw [xo_at]
    refine oi_cong (fun j hj => ?_) i hi
    show xkl t1 nh (68 + (nI j).toNatClampNeg) 2 = (lvR t pl mt w (nI j).toNatClampNeg).2.2.1
    rw [nI_clamp (by omega), xkl_ne _ _ (by omega)]
    exact (p2 j hj).2.2.1
  · rw [xo_ne _ _ _ (by omega)]
    unfold xkl
    rw [if_pos (by omega), show 60 + h - 60 = h by omega]
    exact p5 _ _ (by omega) (by omega) (by omega) (by omega)
  · rw [xo_ne _ _ _ q3, xkl_ne _ _ (by omega)]
    exact p5 x y q1 q2 q4 (by omega)
set_option maxRecDepth 100000 in
set_option maxHeartbeats 4000000 in
theorem c_keep (l : Launch) (G : xg_G) (O : Heap) (t : xT) (nl nh : Nat) (mt : Nat → Nat) (hnl : nl ≤ 160) (h4 : t 4 1 = nI nl) (hnh : nh ≤ 8) (h1 : t 6 1 = nI nh) (hw : t 43 3 = nI (2 ^ nh - 1)) (hm : mtOK mt nh (2 ^ nh)) (hmt : ∀ s, 0 < s → s < 2 ^ nh → t 54 s = nI (mt s) ∧ ¬ (bsC t (nl - 31) (fsb s) (mt s)).2.2.2 = -1) : xm l yX0_keep cX0_keep 8 none rmX0_keep G O t [.ref (O.size + 55), .ref (O.size + 3), .ref (O.size + 43), .ref (O.size + 6)] (xv (fun t' => ∃ k, k ≤ 8 ∧ lfs mt (2 ^ nh - 1) k = 0 ∧ (∀ j, j < k → lfs mt (2 ^ nh - 1) j ≠ 0) ∧ kpE t t' (nl - 31) nh mt (2 ^ nh - 1) k)) := by
  refine xm_enter (by decide) 4 rfl rfl ?_
  intro p e s m args below meth c X hr hk
  refine g_eq (L2 := [some (.ref (O.size + 55)), some (.ref (O.size + 3)), some (.ref (O.size + 43)), some (.ref (O.size + 6)), none, none, none, none]) rfl rfl rfl ?_
  have hpw := pow_le nh hnh
  generalize hwe : 2 ^ nh - 1 = w at *
  have hW : w < 2 ^ nh := by omega
  have fin : ∀ (k : Nat) (t1 : xT) (xl xk : Int32), lfs mt w k = 0 → k ≤ 8 → (∀ j, j < k → lfs mt w j ≠ 0) → kpI t t1 (nl - 31) mt w k → gm p l e rmX0_keep s m args below meth c 8 G O (xmQ below G O (xv (fun t' => ∃ k, k ≤ 8 ∧ lfs mt (w) k = 0 ∧ (∀ j, j < k → lfs mt (w) j ≠ 0) ∧ kpE t t' (nl - 31) nh mt (w) k)) args s) (t1) [some (.ref (O.size + 55)), some (.ref (O.size + 3)), some (.ref (O.size + 43)), some (.ref (O.size + 6)), some (.int (xl)), some (.int (xk)), none, none] 66 [] := by
    intro k t1 xl xk hz hk8 h0 hkp
    obtain ⟨p1, p2, p3, p4, p5⟩ := id hkp
    have e4 : t1 4 1 = nI nl := by rw [p5 4 1 (by decide) (by decide) (by decide) (by decide)]; exact h4
    have e6 : t1 6 1 = nI nh := by rw [p5 6 1 (by decide) (by decide) (by decide) (by decide)]; exact h1
    have ew : t1 43 3 = nI w := by rw [p5 43 3 (by decide) (by decide) (by decide) (by decide)]; exact hw
    have hle := lfs_le mt w k
    refine g_aload_n (pc := 66) X dX0_keep_66 rfl rfl ?_
    refine g_aload_n (pc := 67) X dX0_keep_67 rfl rfl ?_
    refine gm_Vv (pc := 68) X 0 xc_X0_64 (c_keepLists l G O _ nh hnh e6) dX0_keep_68 rfl (by decide) rfl rfl rfl rfl (Nat.le_of_ble_eq_true rfl) (fun t_68 hp => ?_)
    subst hp
    refine g_aload_n (pc := 71) X dX0_keep_71 rfl rfl ?_
    refine gm_Vv (pc := 72) X 0 xc_X0_68 (c_putInOrder l G O _ k hk8 (by rw [xkl_ne _ _ (by omega)]; exact p1)) dX0_keep_72 rfl (by decide) rfl rfl rfl rfl (Nat.le_of_ble_eq_true rfl) (fun t_72 hp => ?_)
    subst hp
    exact gm_vret (pc := 75) X hr hk dX0_keep_75 (⟨k, hk8, hz, h0, kp_end hk8 hnh hkp⟩)
  have loop : ∀ (z9 : Nat) (k : Nat) (xk : Int32) (xl : Int32) (t1 : xT), 8 - k < z9 → xk = nI k → xl = nI (lfs mt w k) → k ≤ 8 → (∀ j, j < k → lfs mt w j ≠ 0) → kpI t t1 (nl - 31) mt w k → gm p l e rmX0_keep s m args below meth c 8 G O (xmQ below G O (xv (fun t' => ∃ k, k ≤ 8 ∧ lfs mt (w) k = 0 ∧ (∀ j, j < k → lfs mt (w) j ≠ 0) ∧ kpE t t' (nl - 31) nh mt (w) k)) args s) (t1) [some (.ref (O.size + 55)), some (.ref (O.size + 3)), some (.ref (O.size + 43)), some (.ref (O.size + 6)), some (.int (xl)), some (.int (xk)), none, none] 13 [] := by
    intro z9
    induction z9 with
    | zero => intro k xk xl t1 h9; exact absurd h9 (Nat.not_lt_zero _)
    | succ z9 ih =>
      intro k xk xl t1 h9 hxk hxl hk8 h0 hkp
      subst hxk
      subst hxl
      obtain ⟨p1, p2, p3, p4, p5⟩ := id hkp
      have e4 : t1 4 1 = nI nl := by rw [p5 4 1 (by decide) (by decide) (by decide) (by decide)]; exact h4
      have e6 : t1 6 1 = nI nh := by rw [p5 6 1 (by decide) (by decide) (by decide) (by decide)]; exact h1
      have ew : t1 43 3 = nI w := by rw [p5 43 3 (by decide) (by decide) (by decide) (by decide)]; exact hw
      have hle := lfs_le mt w k
      refine g_iload (pc := 13) X dX0_keep_13 rfl ?_
      refine g_bipush (pc := 15) (v := 8) X dX0_keep_15 (by decide) ?_
      refine g_icmp_ge (pc := 17) (tgt := 66) X dX0_keep_17 (by decide) (fun hc_17 => ?_) (fun hc_17 => ?_)
      · exact fin k t1 _ _ (by have := n_ge (a := 8) (b := k) hc_17; rw [show k = 8 by omega]; exact lfs_end hW hpw.1 hnh hm (fun j hj => h0 j (by omega))) hk8 h0 hkp
      · refine g_iload (pc := 20) X dX0_keep_20 rfl ?_
        refine g_if_eq (pc := 22) (tgt := 66) X dX0_keep_22 (by decide) (fun hc_22 => ?_) (fun hc_22 => ?_)
        · exact fin k t1 _ _ (by rcases Nat.eq_zero_or_pos (lfs mt w k) with q | q; exact q; exact absurd hc_22 (nI_ne0 q (by omega))) hk8 h0 hkp
        · have hkl : k < 8 := n_gt (a := 8) (b := k) hc_17
          have hne : lfs mt w k ≠ 0 := fun q => hc_22 (by rw [q, nI_0])
          have hf := fsb_ok (lfs mt w k) (by omega) hne
          obtain ⟨mt1, mt2⟩ := hmt (lfs mt w k) (Nat.pos_of_ne_zero hne) (by omega)
          have hmm := hm (lfs mt w k) (Nat.pos_of_ne_zero hne) (by omega)
          have hfn : fsb (lfs mt w k) < nh := by
            rcases Nat.lt_or_ge (fsb (lfs mt w k)) nh with q | q
            · exact q
            · exact absurd hf.2.1 (by rw [Nat.testBit_lt_two_pow (Nat.lt_of_lt_of_le (show lfs mt w k < 2 ^ nh by omega) (Nat.pow_le_pow_right (by decide) q))]; decide)
          have ebs : bsC t1 (nl - 31) (fsb (lfs mt w k)) (mt (lfs mt w k)) = lvR t (nl - 31) mt w k := bsC_cong (fun x y hxy => p5 x y (by omega) (by omega) (by omega) (by omega)) hf.1 (by omega)
          refine g_iload (pc := 25) X dX0_keep_25 rfl ?_
          refine gm_Si (pc := 27) X xc_X0_49 (c_firstOf l G O _ (lfs mt w k) (by omega) hne) dX0_keep_27 rfl rfl rfl (Nat.le_of_ble_eq_true rfl) (fun v_27 t_27 hp => ?_)
          obtain ⟨rfl, hq9⟩ := hp
          have hq9 := hq9.symm
          subst hq9
          refine g_istore (pc := 30) X dX0_keep_30 (by decide) ?_
          refine g_aload_n (pc := 32) X dX0_keep_32 rfl rfl ?_
          refine g_iload (pc := 33) X dX0_keep_33 rfl ?_
          refine gm_Vi (pc := 35) X 4 xc_X0_53 (c_mateOfFirst l G O _ (lfs mt w k) w ew (by omega) hle) dX0_keep_35 rfl (by decide) rfl rfl rfl rfl (Nat.le_of_ble_eq_true rfl) (fun v_35 t_35 hp => ?_)
          obtain ⟨hv35, hq9⟩ := hp
          have hq9 := hq9.symm
          subst hq9
          rw [p5 54 _ (by decide) (by decide) (by decide) (by decide), mt1] at hv35
          subst hv35
          refine g_istore (pc := 38) X dX0_keep_38 (by decide) ?_
          refine g_aload_n (pc := 40) X dX0_keep_40 rfl rfl ?_
          refine g_aload_n (pc := 41) X dX0_keep_41 rfl rfl ?_
          refine g_iload (pc := 42) X dX0_keep_42 rfl ?_
          refine g_iload (pc := 44) X dX0_keep_44 rfl ?_
          refine gm_Vv (pc := 46) X 0 xc_X0_56 (c_addLeaf l G O _ nl nh k (fsb (lfs mt w k)) (mt (lfs mt w k)) hnl e4 hnh e6 hfn hmm.1 hkl p1 (by rw [ebs]; exact mt2)) dX0_keep_46 rfl (by decide) rfl rfl rfl rfl (Nat.le_of_ble_eq_true rfl) (fun t_46 hp => ?_)
          rw [ebs] at hp
          subst hp
          refine g_iload (pc := 49) X dX0_keep_49 rfl ?_
          refine g_iload (pc := 51) X dX0_keep_51 rfl ?_
          refine g_iload (pc := 53) X dX0_keep_53 rfl ?_
          refine gm_Si (pc := 55) X xc_X0_60 (c_without l G O _ (lfs mt w k) (fsb (lfs mt w k)) (mt (lfs mt w k)) (by omega) hf.1 (by omega)) dX0_keep_55 rfl rfl rfl (Nat.le_of_ble_eq_true rfl) (fun v_55 t_55 hp => ?_)
          obtain ⟨rfl, hq9⟩ := hp
          have hq9 := hq9.symm
          subst hq9
          refine g_istore (pc := 58) X dX0_keep_58 (by decide) ?_
          refine g_inc (pc := 60) (kv := 1) X dX0_keep_60 (by decide) rfl (by decide) ?_
          refine g_goto (pc := 63) (tgt := 13) X dX0_keep_63 (by decide) ?_
          refine g_wk 7 ?_
          refine g_wk 6 ?_
          exact ih (k + 1) _ _ _ (by omega) (nI_1 k) rfl (by omega) (fun j hj => by rcases Nat.lt_or_ge j k with q | q; exact h0 j q; rw [show j = k by omega]; exact hne) (kp_step hW hpw.1 hnh hm hkl (fun j hj => by rcases Nat.lt_or_ge j k with q | q; exact h0 j q; rw [show j = k by omega]; exact hne) hkp mt2)
  refine g_aload_n (pc := 0) X dX0_keep_0 rfl rfl ?_
  refine gm_Vv (pc := 1) X 0 xc_X0_40 (c_clear l G O _) dX0_keep_1 rfl (by decide) rfl rfl rfl rfl (Nat.le_of_ble_eq_true rfl) (fun t_1 hp => ?_)
  subst hp
  refine g_aload_n (pc := 4) X dX0_keep_4 rfl rfl ?_
  refine gm_Vi (pc := 5) X 4 xc_X0_43 (c_wholeSet l G O _) dX0_keep_5 rfl (by decide) rfl rfl rfl rfl (Nat.le_of_ble_eq_true rfl) (fun v_5 t_5 hp => ?_)
  obtain ⟨hw0, hq9⟩ := hp
  have hq9 := hq9.symm
  subst hq9
  rw [show ∀ v, xf (xt t 55 4 0) 58 8 v 43 3 = t 43 3 from fun v => by simp [xf, xt], hw] at hw0
  refine g_istore (pc := 8) X dX0_keep_8 (by decide) ?_
  refine g_iconst (pc := 10) (v := 0) X dX0_keep_10 (by decide) ?_
  refine g_istore (pc := 11) X dX0_keep_11 (by decide) ?_
  exact loop 9 0 _ _ _ (by omega) nI_0.symm (show _ = nI (lfs mt w 0) from hw0) (by omega) (fun j hj => absurd hj (Nat.not_lt_zero j)) ⟨by rw [show ∀ v, xf (xt t 55 4 0) 58 8 v 55 4 = xt t 55 4 0 55 4 from fun v => by simp [xf], xt_same, nI_0], fun j hj => absurd hj (Nat.not_lt_zero j), fun j hj => absurd hj (Nat.not_lt_zero j), fun h hh _ => by simp [xf, hh], fun x y q1 q2 q3 q4 => by rw [show xf (xt t 55 4 0) 58 8 (-1) x y = xt t 55 4 0 x y by simp [xf, q3], xt_nk _ _ _ _ q2]⟩
end
section
/-! 07a: Tape.put, Work.seekFault, read, Halves.add, isSpot, bitCount -/
def shf : Nat → Int32
  | 0 => 24
  | 1 => 16
  | 2 => 8
  | 3 => 0
  | _ => -8
theorem shf_s : ∀ i, i < 4 → shf i + (-8) = shf (i + 1) ∧ ¬ shf i < 0 := by decide
def byt (v : Int32) (i : Nat) : Int32 := (v.toUInt32 >>> ((shf i).toUInt32 &&& Int32.toUInt32 31)).toInt32 &&& 255
set_option maxRecDepth 100000 in
set_option maxHeartbeats 4000000 in
theorem c_put (l : Launch) (G : xg_G) (O : Heap) (t : xT) (n : Nat) (v : Int32) (hn : n + 4 ≤ 400) (h1 : t 1 1 = nI n) : xm l yX6_put cX6_put 3 none rmX6_put G O t [.ref (O.size + 1), .int v] (xv (fun t' => t' 1 1 = nI (n + 4) ∧ (∀ j, j < 4 → t' 2 (n + j) = byt v j) ∧ ∀ x y, x ≠ 1 → ¬ (x = 2 ∧ n ≤ y) → t' x y = t x y)) := by
  refine xm_enter (by decide) 1 rfl rfl ?_
  intro p e s m args below meth c X hr hk
  refine g_eq (L2 := [some (.ref (O.size + 1)), some (.int v), none]) rfl rfl rfl ?_
  have loop : ∀ (z9 : Nat) (i : Nat) (xs : Int32) (t1 : xT), 4 - i < z9 → xs = shf i → i ≤ 4 → t1 1 1 = nI (n + i) → (∀ j, j < i → t1 2 (n + j) = byt v j) → (∀ x y, x ≠ 1 → ¬ (x = 2 ∧ n ≤ y) → t1 x y = t x y) → gm p l e rmX6_put s m args below meth c 3 G O (xmQ below G O (xv (fun t' => t' 1 1 = nI (n + 4) ∧ (∀ j, j < 4 → t' 2 (n + j) = byt v j) ∧ ∀ x y, x ≠ 1 → ¬ (x = 2 ∧ n ≤ y) → t' x y = t x y)) args s) (t1) [some (.ref (O.size + 1)), some (.int (v)), some (.int (xs))] 16 [] := by
    intro z9
    induction z9 with
    | zero => intro i xs t1 h9; exact absurd h9 (Nat.not_lt_zero _)
    | succ z9 ih =>
      intro i xs t1 h9 hxs hi e1 e2 e3
      subst hxs
      refine g_iload_n (pc := 16) X dX6_put_16 rfl rfl ?_
      refine g_if_lt (pc := 17) (tgt := 52) X dX6_put_17 (by decide) (fun hc_17 => ?_) (fun hc_17 => ?_)
      · exact gm_vret (pc := 52) X hr hk dX6_put_52 (by have hi4 : i = 4 := by { rcases Nat.lt_or_ge i 4 with q | q; exact absurd hc_17 (shf_s i q).2; omega }; subst hi4; exact ⟨e1, e2, e3⟩)
      · have hi4 : i < 4 := by rcases Nat.lt_or_ge i 4 with q | q; exact q; rw [show i = 4 by omega] at hc_17; exact absurd (by decide) hc_17
        refine g_aload_n (pc := 20) X dX6_put_20 rfl rfl ?_
        refine gm_getR (k' := 2) (pc := 21) (j := 0) X 6 dX6_put_21 rfl (by decide) rfl xu_6 (by decide) rfl xw_60 rfl rfl ?_
        refine g_aload_n (pc := 24) X dX6_put_24 rfl rfl ?_
        refine gm_getI (pc := 25) (j := 1) X 6 dX6_put_25 rfl (by decide) rfl xu_6 (by decide) rfl xw_61 rfl ?_
        refine g_iload_n (pc := 28) X dX6_put_28 rfl rfl ?_
        refine g_iload_n (pc := 29) X dX6_put_29 rfl rfl ?_
        refine g_iushr (pc := 30) X dX6_put_30 rfl ?_
        refine g_sipush (pc := 31) (v := 255) X dX6_put_31 (by decide) ?_
        refine g_iand (pc := 34) X dX6_put_34 ?_
        refine gm_iast (pc := 35) X (n + i) dX6_put_35 rfl e1 (show n + i < 400 from by omega) (by decide) ?_
        refine g_aload_n (pc := 36) X dX6_put_36 rfl rfl ?_
        refine g_dup (pc := 37) X dX6_put_37 rfl ?_
        refine gm_getI (pc := 38) (j := 1) X 6 dX6_put_38 rfl (by decide) rfl xu_6 (by decide) rfl xw_61 rfl ?_
        refine g_iconst (pc := 41) (v := 1) X dX6_put_41 (by decide) ?_
        refine g_iadd (pc := 42) X dX6_put_42 ?_
        refine gm_putI (pc := 43) (j := 1) X 6 tyX6 dX6_put_43 rfl (by decide) rfl xu_6 tyX6_ok nmX6 (by decide) rfl xw_61 rfl rfl (Or.inl rfl) ?_
        refine g_inc (pc := 46) (kv := (-8)) X dX6_put_46 (by decide) rfl (by decide) ?_
        refine g_goto (pc := 49) (tgt := 16) X dX6_put_49 (by decide) ?_
        exact ih (i + 1) _ _ (by omega) (shf_s i hi4).1 (by omega) (by rw [xt_same, xt_nk _ _ _ _ (by decide), e1, nI_1]; rfl) (fun j hj => by
          rw [xt_nk _ _ _ _ (by decide)]
          by_cases q : j = i
          · subst q; rw [xt_same]; rfl
          · rw [xt_ne _ _ (Or.inr (by omega))]; exact e2 j (by omega)) (fun x y q1 q2 => by rw [xt_nk _ _ _ _ q1, xt_ne _ _ (by omega)]; exact e3 x y q1 q2)
  refine g_aload_n (pc := 0) X dX6_put_0 rfl rfl ?_
  refine gm_getI (pc := 1) (j := 1) X 6 dX6_put_1 rfl (by decide) rfl xu_6 (by decide) rfl xw_61 rfl ?_
  refine g_iconst (pc := 4) (v := 4) X dX6_put_4 (by decide) ?_
  refine g_iadd (pc := 5) X dX6_put_5 ?_
  refine g_sipush (pc := 6) (v := 400) X dX6_put_6 (by decide) ?_
  refine g_icmp_le (pc := 9) (tgt := 13) X dX6_put_9 (by decide) (fun hc_9 => ?_) (fun hc_9 => ?_)
  · refine g_bipush (pc := 13) (v := 24) X dX6_put_13 (by decide) ?_
    refine g_istore_n (pc := 15) X dX6_put_15 rfl (by decide) ?_
    exact loop 5 0 _ _ (by omega) rfl (by omega) h1 (fun j hj => absurd hj (Nat.not_lt_zero j)) (fun _ _ _ _ => rfl)
  · rw [h1, show (4 : Int32) = nI 4 from rfl, nI_add] at hc_9
    exact absurd (nI_le (a := n + 4) (b := 400) hn (by omega)) hc_9

/-- a letter's byte -/
def ltb (b : Int32) : Bool := decide (0 ≤ b - 97 ∧ b - 97 ≤ 15)
def ctb (f : Nat → Int32) : Nat → Nat
  | 0 => 0
  | n + 1 => ctb f n + (if ltb (f n) = true then 1 else 0)
def kbb (f : Nat → Int32) (i : Nat) : Int32 := if ltb (f i) = true then (if ctb f i = 160 then 2 else 0) else if f i = 10 ∨ f i = 32 then 0 else 1
/-- fault and its place of the first n bytes -/
def sfr (f : Nat → Int32) : Nat → Int32 × Int32
  | 0 => (0, -1)
  | n + 1 => if (sfr f n).1 = 0 then (if kbb f n = 0 then (0, -1) else (kbb f n, nI n)) else sfr f n
theorem ctb_le (f : Nat → Int32) : ∀ n, ctb f n ≤ n
  | 0 => Nat.le_refl 0
  | n + 1 => by
    have := ctb_le f n
    rw [ctb.eq_2]; split <;> omega
theorem ctb_t {f : Nat → Int32} {n : Nat} (h : ltb (f n) = true) : ctb f (n + 1) = ctb f n + 1 := by rw [ctb.eq_2, if_pos h]
theorem ctb_f {f : Nat → Int32} {n : Nat} (h : ¬ ltb (f n) = true) : ctb f (n + 1) = ctb f n := by rw [ctb.eq_2, if_neg h]; rfl
theorem ctb_mono (f : Nat → Int32) {i : Nat} : ∀ {d : Nat}, ctb f i ≤ ctb f (i + d)
  | 0 => Nat.le_refl _
  | d + 1 => by
    have := ctb_mono f (i := i) (d := d)
    show ctb f i ≤ ctb f (i + d + 1)
    rw [ctb.eq_2]; omega
theorem sfr_ok {f : Nat → Int32} : ∀ {n : Nat}, (sfr f n).1 = 0 → (sfr f n).2 = -1 ∧ ctb f n ≤ 160
  | 0, _ => ⟨rfl, by show 0 ≤ 160; omega⟩
  | n + 1, h => by
    rw [sfr.eq_2] at h ⊢
    by_cases q : (sfr f n).1 = 0
    · rw [if_pos q] at h ⊢
      by_cases q2 : kbb f n = 0
      · rw [if_pos q2]
        refine ⟨rfl, ?_⟩
        have ih := (sfr_ok q).2
        by_cases q3 : ltb (f n) = true
        · unfold kbb at q2
          rw [if_pos q3] at q2
          have : ¬ ctb f n = 160 := fun e => by rw [if_pos e] at q2; exact absurd q2 (by decide)
          rw [ctb_t q3]; omega
        · rw [ctb_f q3]; exact ih
      · rw [if_neg q2] at h; exact absurd h q2
    · rw [if_neg q] at h; exact absurd h q
theorem sfr_stay {f : Nat → Int32} {i : Nat} (h : ¬ (sfr f i).1 = 0) : ∀ {d : Nat}, sfr f (i + d) = sfr f i
  | 0 => rfl
  | d + 1 => by
    show sfr f (i + d + 1) = _
    rw [sfr.eq_2, sfr_stay h (d := d), if_neg h]
theorem sfr_back {f : Nat → Int32} {i n : Nat} (h : (sfr f n).1 = 0) (hi : i ≤ n) : (sfr f i).1 = 0 := by
  by_cases q : (sfr f i).1 = 0
  · exact q
  · rw [show n = i + (n - i) by omega, sfr_stay q] at h; exact h
def set4 (t : xT) (b : Int32 × Int32) : xT := xt (xt t 4 2 b.1) 4 3 b.2
theorem set4_ne (t : xT) (b : Int32 × Int32) {x : Nat} (y : Nat) (h : x ≠ 4) : set4 t b x y = t x y := by simp [set4, xt, h]
theorem set4_1 (t : xT) (b : Int32 × Int32) : set4 t b 4 1 = t 4 1 := by simp [set4, xt]
theorem set4_2 (t : xT) (b : Int32 × Int32) : set4 t b 4 2 = b.1 := by simp [set4, xt]
theorem set4_set (t : xT) (b : Int32 × Int32) (x y : Int32) : xt (xt (set4 t b) 4 2 x) 4 3 y = set4 t (x, y) := by
  funext a c
  simp only [set4, xt]
  by_cases h1 : a = 4
  · subst h1
    by_cases h2 : c = 2
    · subst h2; simp
    · by_cases h3 : c = 3
      · subst h3; simp
      · simp [h2, h3]
  · simp [h1]
theorem set4_3 (t : xT) (b : Int32 × Int32) (y : Int32) : xt (set4 t b) 4 3 y = set4 t (b.1, y) := by
  funext a c
  simp only [set4, xt]
  by_cases h1 : a = 4
  · subst h1
    by_cases h3 : c = 3
    · subst h3; simp
    · simp [h3]
  · simp [h1]
theorem n160 {n : Nat} (hn : n ≤ 400) : nI n = 160 ↔ n = 160 := nI_eq (b := 160) (by omega) (by decide)
theorem kbb_a {f : Nat → Int32} {k : Nat} (h : ¬ ltb (f k) = true) (h2 : f k = 10 ∨ f k = 32) : kbb f k = 0 := by unfold kbb; rw [if_neg h, if_pos h2]
theorem kbb_b {f : Nat → Int32} {k : Nat} (h : ¬ ltb (f k) = true) (h2 : ¬ f k = 10) (h3 : ¬ f k = 32) : kbb f k = 1 := by unfold kbb; rw [if_neg h, if_neg (by rintro (q | q); exact h2 q; exact h3 q)]
theorem kbb_c {f : Nat → Int32} {k : Nat} (h : ltb (f k) = true) : kbb f k = if ctb f k = 160 then 2 else 0 := by unfold kbb; rw [if_pos h]
theorem set4_self (t : xT) (b : Int32 × Int32) : xt (set4 t b) 4 2 b.1 = set4 t b := by
  funext a c
  simp only [set4, xt]
  by_cases h1 : a = 4
  · subst h1
    by_cases h2 : c = 2
    · subst h2; simp
    · simp [h2]
  · simp [h1]
set_option maxRecDepth 100000 in
set_option maxHeartbeats 4000000 in
theorem c_seekFault (l : Launch) (G : xg_G) (O : Heap) (t : xT) (nt n : Nat) (hnt : nt ≤ 400) (h1 : t 1 1 = nI nt) (hn : n ≤ nt) : xm l yX7_seekFault cX7_seekFault 6 none rmX7_seekFault G O t [.ref (O.size + 4), .ref (O.size + 1), .int (nI n)] (xv (fun t' => t' = set4 t (sfr (t 2) n))) := by
  refine xm_enter (by decide) 3 rfl rfl ?_
  intro p e s m args below meth c X hr hk
  refine g_eq (L2 := [some (.ref (O.size + 4)), some (.ref (O.size + 1)), some (.int (nI n)), none, none, none]) rfl rfl rfl ?_
  have loop : ∀ (z9 : Nat) (k : Nat) (xk : Int32) (xs : Int32) (t1 : xT), n - k < z9 → xk = nI k → t1 = set4 t (sfr (t 2) k) → ((sfr (t 2) k).1 = 0 → xs = nI (ctb (t 2) k)) → k ≤ n → gm p l e rmX7_seekFault s m args below meth c 6 G O (xmQ below G O (xv (fun t' => t' = set4 t (sfr (t 2) n))) args s) (t1) [some (.ref (O.size + 4)), some (.ref (O.size + 1)), some (.int (nI n)), some (.int (xs)), some (.int (xk)), none] 15 [] := by
    intro z9
    induction z9 with
    | zero => intro k xk xs t1 h9; exact absurd h9 (Nat.not_lt_zero _)
    | succ z9 ih =>
      intro k xk xs t1 h9 hxk ht1 hxs hkn
      subst hxk
      subst ht1
      refine g_iload (pc := 15) X dX7_seekFault_15 rfl ?_
      refine g_iload_n (pc := 17) X dX7_seekFault_17 rfl rfl ?_
      refine g_icmp_ge (pc := 18) (tgt := 108) X dX7_seekFault_18 (by decide) (fun hc_18 => ?_) (fun hc_18 => ?_)
      · exact gm_vret (pc := 108) X hr hk dX7_seekFault_108 (by rw [show k = n by have := n_ge hc_18; omega])
      · refine g_aload_n (pc := 21) X dX7_seekFault_21 rfl rfl ?_
        refine gm_getI (pc := 22) (j := 2) X 7 dX7_seekFault_22 rfl (by decide) rfl xu_7 (by decide) rfl xw_84 rfl ?_
        refine g_if_ne (pc := 25) (tgt := 108) X dX7_seekFault_25 (by decide) (fun hc_25 => ?_) (fun hc_25 => ?_)
        · exact gm_vret (pc := 108) X hr hk dX7_seekFault_108 (by rw [set4_2] at hc_25; rw [show n = k + (n - k) by omega, sfr_stay hc_25])
        · have hkl : k < n := n_gt hc_18
          rw [set4_2] at hc_25
          have hxs := hxs hc_25
          subst hxs
          have hso := sfr_ok hc_25
          have step2 : ∀ (x3 F : Int32), F = kbb (t 2) k → (F = 0 → x3 = nI (ctb (t 2) (k + 1))) → gm p l e rmX7_seekFault s m args below meth c 6 G O (xmQ below G O (xv (fun t' => t' = set4 t (sfr (t 2) n))) args s) (xt (set4 t (sfr (t 2) k)) 4 2 F) [some (.ref (O.size + 4)), some (.ref (O.size + 1)), some (.int (nI n)), some (.int (x3)), some (.int (nI k)), some (.int (t 2 k))] 85 [] := by
            intro x3 F hF hx3
            refine g_aload_n (pc := 85) X dX7_seekFault_85 rfl rfl ?_
            refine g_aload_n (pc := 86) X dX7_seekFault_86 rfl rfl ?_
            refine gm_getI (pc := 87) (j := 2) X 7 dX7_seekFault_87 rfl (by decide) rfl xu_7 (by decide) rfl xw_84 rfl ?_
            refine g_if_ne (pc := 90) (tgt := 97) X dX7_seekFault_90 (by decide) (fun hc_90 => ?_) (fun hc_90 => ?_)
            · refine g_iload (pc := 97) X dX7_seekFault_97 rfl ?_
              refine gm_putI (pc := 99) (j := 3) X 7 tyX7 dX7_seekFault_99 rfl (by decide) rfl xu_7 tyX7_ok nmX7 (by decide) rfl xw_86 rfl rfl (Or.inl rfl) ?_
              refine g_inc (pc := 102) (kv := 1) X dX7_seekFault_102 (by decide) rfl (by decide) ?_
              refine g_goto (pc := 105) (tgt := 15) X dX7_seekFault_105 (by decide) ?_
              refine g_wk 5 ?_
              rw [xt_same] at hc_90
              exact ih (k + 1) _ _ _ (by omega) (nI_1 k) (by rw [set4_set, sfr.eq_2, if_pos hc_25, if_neg (by rw [← hF]; exact hc_90), hF]) (fun q => absurd q (by rw [sfr.eq_2, if_pos hc_25, if_neg (by rw [← hF]; exact hc_90), ← hF]; exact hc_90)) (by omega)
            · refine g_iconst (pc := 93) (v := (-1)) X dX7_seekFault_93 (by decide) ?_
              refine g_goto (pc := 94) (tgt := 99) X dX7_seekFault_94 (by decide) ?_
              refine gm_putI (pc := 99) (j := 3) X 7 tyX7 dX7_seekFault_99 rfl (by decide) rfl xu_7 tyX7_ok nmX7 (by decide) rfl xw_86 rfl rfl (Or.inl rfl) ?_
              refine g_inc (pc := 102) (kv := 1) X dX7_seekFault_102 (by decide) rfl (by decide) ?_
              refine g_goto (pc := 105) (tgt := 15) X dX7_seekFault_105 (by decide) ?_
              refine g_wk 5 ?_
              rw [xt_same] at hc_90
              exact ih (k + 1) _ _ _ (by omega) (nI_1 k) (by rw [set4_set, sfr.eq_2, if_pos hc_25, if_pos (by rw [← hF]; exact hc_90), hc_90]) (fun _ => hx3 hc_90) (by omega)
          have step : ∀ (x3 F : Int32), F = kbb (t 2) k → (F = 0 → x3 = nI (ctb (t 2) (k + 1))) → F = 0 → gm p l e rmX7_seekFault s m args below meth c 6 G O (xmQ below G O (xv (fun t' => t' = set4 t (sfr (t 2) n))) args s) (set4 t (sfr (t 2) k)) [some (.ref (O.size + 4)), some (.ref (O.size + 1)), some (.int (nI n)), some (.int (x3)), some (.int (nI k)), some (.int (t 2 k))] 85 [] := by
            intro x3 F hF hx3 hF0
            exact gm_st (by rw [hF0, ← hc_25]; exact (set4_self t _).symm) rfl (step2 x3 F hF hx3)
          refine g_aload_n (pc := 28) X dX7_seekFault_28 rfl rfl ?_
          refine g_iload (pc := 29) X dX7_seekFault_29 rfl ?_
          refine gm_Vi (pc := 31) X 6 xc_X7_29 (c_byteAt l G O _ nt k hnt (by rw [set4_ne t _ 1 (by decide)]; exact h1) (by omega)) dX7_seekFault_31 rfl (by decide) rfl rfl rfl rfl (Nat.le_of_ble_eq_true rfl) (fun v_31 t_31 hp => ?_)
          obtain ⟨hv31, hq9⟩ := hp
          have hq9 := hq9.symm
          subst hq9
          rw [set4_ne t _ k (by decide)] at hv31
          subst hv31
          refine g_istore (pc := 34) X dX7_seekFault_34 (by decide) ?_
          refine g_iload (pc := 36) X dX7_seekFault_36 rfl ?_
          refine gm_Si (pc := 38) X xc_X7_35 (c_isLetter l G O _ _) dX7_seekFault_38 rfl rfl rfl (Nat.le_of_ble_eq_true rfl) (fun v_38 t_38 hp => ?_)
          obtain ⟨rfl, hq9⟩ := hp
          have hq9 := hq9.symm
          subst hq9
          refine g_if_eq (pc := 41) (tgt := 66) X dX7_seekFault_41 (by decide) (fun hc_41 => ?_) (fun hc_41 => ?_)
          · have hnl : ¬ ltb (t 2 k) = true := by simpa [ltb] using bi_0 hc_41
            refine g_iload (pc := 66) X dX7_seekFault_66 rfl ?_
            refine g_bipush (pc := 68) (v := 10) X dX7_seekFault_68 (by decide) ?_
            refine g_icmp_eq (pc := 70) (tgt := 85) X dX7_seekFault_70 (by decide) (fun hc_70 => ?_) (fun hc_70 => ?_)
            · exact step _ 0 (by rw [kbb_a hnl (Or.inl hc_70)]) (fun _ => by rw [ctb_f hnl]) rfl
            · refine g_iload (pc := 73) X dX7_seekFault_73 rfl ?_
              refine g_bipush (pc := 75) (v := 32) X dX7_seekFault_75 (by decide) ?_
              refine g_icmp_eq (pc := 77) (tgt := 85) X dX7_seekFault_77 (by decide) (fun hc_77 => ?_) (fun hc_77 => ?_)
              · exact step _ 0 (by rw [kbb_a hnl (Or.inr hc_77)]) (fun _ => by rw [ctb_f hnl]) rfl
              · refine g_aload_n (pc := 80) X dX7_seekFault_80 rfl rfl ?_
                refine g_iconst (pc := 81) (v := 1) X dX7_seekFault_81 (by decide) ?_
                refine gm_putI (pc := 82) (j := 2) X 7 tyX7 dX7_seekFault_82 rfl (by decide) rfl xu_7 tyX7_ok nmX7 (by decide) rfl xw_84 rfl rfl (Or.inl rfl) ?_
                exact step2 _ 1 (by rw [kbb_b hnl hc_70 hc_77]) (fun q => absurd q (by decide))
          · have hyl : ltb (t 2 k) = true := by simpa [ltb] using bi_1 hc_41
            refine g_inc (pc := 44) (kv := 1) X dX7_seekFault_44 (by decide) rfl (by decide) ?_
            refine g_aload_n (pc := 47) X dX7_seekFault_47 rfl rfl ?_
            refine g_iload_n (pc := 48) X dX7_seekFault_48 rfl rfl ?_
            refine g_sipush (pc := 49) (v := 160) X dX7_seekFault_49 (by decide) ?_
            refine g_icmp_le (pc := 52) (tgt := 59) X dX7_seekFault_52 (by decide) (fun hc_52 => ?_) (fun hc_52 => ?_)
            · refine g_iconst (pc := 59) (v := 0) X dX7_seekFault_59 (by decide) ?_
              refine gm_putI (pc := 60) (j := 2) X 7 tyX7 dX7_seekFault_60 rfl (by decide) rfl xu_7 tyX7_ok nmX7 (by decide) rfl xw_84 rfl rfl (Or.inl rfl) ?_
              refine g_goto (pc := 63) (tgt := 85) X dX7_seekFault_63 (by decide) ?_
              rw [nI_1] at hc_52
              exact step2 _ 0 (by rw [kbb_c hyl]; have := n_ge (a := ctb (t 2) k + 1) (b := 160) hc_52; rw [if_neg (by omega)]) (fun _ => by rw [ctb_t hyl, nI_1])
            · refine g_iconst (pc := 55) (v := 2) X dX7_seekFault_55 (by decide) ?_
              refine g_goto (pc := 56) (tgt := 60) X dX7_seekFault_56 (by decide) ?_
              refine gm_putI (pc := 60) (j := 2) X 7 tyX7 dX7_seekFault_60 rfl (by decide) rfl xu_7 tyX7_ok nmX7 (by decide) rfl xw_84 rfl rfl (Or.inl rfl) ?_
              refine g_goto (pc := 63) (tgt := 85) X dX7_seekFault_63 (by decide) ?_
              rw [nI_1] at hc_52
              exact step2 _ 2 (by rw [kbb_c hyl]; have := n_gt (a := ctb (t 2) k + 1) (b := 160) hc_52; rw [if_pos (by omega)]) (fun q => absurd q (by decide))
  refine g_aload_n (pc := 0) X dX7_seekFault_0 rfl rfl ?_
  refine g_iconst (pc := 1) (v := 0) X dX7_seekFault_1 (by decide) ?_
  refine gm_putI (pc := 2) (j := 2) X 7 tyX7 dX7_seekFault_2 rfl (by decide) rfl xu_7 tyX7_ok nmX7 (by decide) rfl xw_84 rfl rfl (Or.inl rfl) ?_
  refine g_aload_n (pc := 5) X dX7_seekFault_5 rfl rfl ?_
  refine g_iconst (pc := 6) (v := (-1)) X dX7_seekFault_6 (by decide) ?_
  refine gm_putI (pc := 7) (j := 3) X 7 tyX7 dX7_seekFault_7 rfl (by decide) rfl xu_7 tyX7_ok nmX7 (by decide) rfl xw_86 rfl rfl (Or.inl rfl) ?_
  refine g_iconst (pc := 10) (v := 0) X dX7_seekFault_10 (by decide) ?_
  refine g_istore_n (pc := 11) X dX7_seekFault_11 rfl (by decide) ?_
  refine g_iconst (pc := 12) (v := 0) X dX7_seekFault_12 (by decide) ?_
  refine g_istore (pc := 13) X dX7_seekFault_13 (by decide) ?_
  exact loop (n + 1) 0 _ _ _ (by omega) nI_0.symm rfl (fun _ => nI_0.symm) (Nat.zero_le _)
end
section
/-! 07b: Work.read, Halves.add, isSpot, bitCount -/
set_option maxRecDepth 100000 in
set_option maxHeartbeats 4000000 in
theorem c_read (l : Launch) (G : xg_G) (O : Heap) (t : xT) (nt n : Nat) (hnt : nt ≤ 400) (h1 : t 1 1 = nI nt) (hn : n ≤ nt) : xm l yX7_read cX7_read 5 (some .boolean) rmX7_read G O t [.ref (O.size + 4), .ref (O.size + 1), .int (nI n)] (xi (fun v t' => v = bi ((sfr (t 2) n).1 = 0) ∧ (¬ (sfr (t 2) n).1 = 0 → t' = set4 t (sfr (t 2) n)) ∧ ((sfr (t 2) n).1 = 0 → t' 4 1 = nI (ctb (t 2) n) ∧ t' 4 2 = 0 ∧ t' 4 3 = -1 ∧ (∀ j, j < n → ltb (t 2 j) = true → t' 5 (ctb (t 2) j) = t 2 j - 97) ∧ ∀ x y, x ≠ 4 → x ≠ 5 → t' x y = t x y))) := by
  refine xm_enter (by decide) 2 rfl rfl ?_
  intro p e s m args below meth c X hr hk
  refine g_eq (L2 := [some (.ref (O.size + 4)), some (.ref (O.size + 1)), some (.int (nI n)), none, none]) rfl rfl rfl ?_
  have loop : ∀ (z9 : Nat) (k : Nat) (xk : Int32) (t1 : xT), n - k < z9 → xk = nI k → k ≤ n → (sfr (t 2) n).1 = 0 → t1 4 1 = nI (ctb (t 2) k) → t1 4 2 = 0 → t1 4 3 = -1 → (∀ j, j < k → ltb (t 2 j) = true → t1 5 (ctb (t 2) j) = t 2 j - 97) → (∀ x y, x ≠ 4 → x ≠ 5 → t1 x y = t x y) → gm p l e rmX7_read s m args below meth c 5 G O (xmQ below G O (xi (fun v t' => v = bi ((sfr (t 2) n).1 = 0) ∧ (¬ (sfr (t 2) n).1 = 0 → t' = set4 t (sfr (t 2) n)) ∧ ((sfr (t 2) n).1 = 0 → t' 4 1 = nI (ctb (t 2) n) ∧ t' 4 2 = 0 ∧ t' 4 3 = -1 ∧ (∀ j, j < n → ltb (t 2 j) = true → t' 5 (ctb (t 2) j) = t 2 j - 97) ∧ ∀ x y, x ≠ 4 → x ≠ 5 → t' x y = t x y))) args s) (t1) [some (.ref (O.size + 4)), some (.ref (O.size + 1)), some (.int (nI n)), some (.int (xk)), none] 22 [] := by
    intro z9
    induction z9 with
    | zero => intro k xk t1 h9; exact absurd h9 (Nat.not_lt_zero _)
    | succ z9 ih =>
      intro k xk t1 h9 hxk hkn hok e1 e2 e3 e4 e5
      subst hxk
      refine g_iload_n (pc := 22) X dX7_read_22 rfl rfl ?_
      refine g_iload_n (pc := 23) X dX7_read_23 rfl rfl ?_
      refine g_icmp_ge (pc := 24) (tgt := 82) X dX7_read_24 (by decide) (fun hc_24 => ?_) (fun hc_24 => ?_)
      · refine g_iconst (pc := 82) (v := 1) X dX7_read_82 (by decide) ?_
        exact gm_zret (pc := 83) X hr hk dX7_read_83 (by first | exact Or.inl rfl | exact Or.inr rfl) (⟨(bi_t hok).symm, fun q => absurd hok q, fun _ => by rw [show k = n by have := n_ge hc_24; omega] at e1 e4; exact ⟨e1, e2, e3, e4, e5⟩⟩)
      · have hkl : k < n := n_gt hc_24
        have hs1 := sfr_back hok (show k + 1 ≤ n by omega)
        have hc1 := (sfr_ok hs1).2
        have hc0 := (sfr_ok (sfr_back hok (show k ≤ n by omega))).2
        refine g_aload_n (pc := 27) X dX7_read_27 rfl rfl ?_
        refine g_iload_n (pc := 28) X dX7_read_28 rfl rfl ?_
        refine gm_Vi (pc := 29) X 6 xc_X7_29 (c_byteAt l G O _ nt k hnt (by rw [e5 1 1 (by decide) (by decide)]; exact h1) (by omega)) dX7_read_29 rfl (by decide) rfl rfl rfl rfl (Nat.le_of_ble_eq_true rfl) (fun v_29 t_29 hp => ?_)
        obtain ⟨hv29, hq9⟩ := hp
        have hq9 := hq9.symm
        subst hq9
        rw [e5 2 k (by decide) (by decide)] at hv29
        subst hv29
        refine g_istore (pc := 32) X dX7_read_32 (by decide) ?_
        refine g_iload (pc := 34) X dX7_read_34 rfl ?_
        refine gm_Si (pc := 36) X xc_X7_35 (c_isLetter l G O _ _) dX7_read_36 rfl rfl rfl (Nat.le_of_ble_eq_true rfl) (fun v_36 t_36 hp => ?_)
        obtain ⟨rfl, hq9⟩ := hp
        have hq9 := hq9.symm
        subst hq9
        refine g_if_eq (pc := 39) (tgt := 76) X dX7_read_39 (by decide) (fun hc_39 => ?_) (fun hc_39 => ?_)
        · refine g_inc (pc := 76) (kv := 1) X dX7_read_76 (by decide) rfl (by decide) ?_
          refine g_goto (pc := 79) (tgt := 22) X dX7_read_79 (by decide) ?_
          refine g_wk 4 ?_
          have hnl : ¬ ltb (t 2 k) = true := by simpa [ltb] using bi_0 hc_39
          exact ih (k + 1) _ _ (by omega) (nI_1 k) (by omega) hok (by rw [ctb_f hnl]; exact e1) e2 e3 (fun j hj q => by rcases Nat.lt_or_ge j k with r | r; exact e4 j r q; rw [show j = k by omega] at q; exact absurd q hnl) e5
        · have hyl : ltb (t 2 k) = true := by simpa [ltb] using bi_1 hc_39
          rw [ctb_t hyl] at hc1
          refine g_aload_n (pc := 42) X dX7_read_42 rfl rfl ?_
          refine gm_getI (pc := 43) (j := 1) X 7 dX7_read_43 rfl (by decide) rfl xu_7 (by decide) rfl xw_82 rfl ?_
          refine g_sipush (pc := 46) (v := 160) X dX7_read_46 (by decide) ?_
          refine g_icmp_ge (pc := 49) (tgt := 76) X dX7_read_49 (by decide) (fun hc_49 => ?_) (fun hc_49 => ?_)
          · rw [e1] at hc_49
            exact absurd (n_ge (a := 160) (b := ctb (t 2) k) hc_49) (by omega)
          · refine g_aload_n (pc := 52) X dX7_read_52 rfl rfl ?_
            refine gm_getR (k' := 5) (pc := 53) (j := 0) X 7 dX7_read_53 rfl (by decide) rfl xu_7 (by decide) rfl xw_81 rfl rfl ?_
            refine g_aload_n (pc := 56) X dX7_read_56 rfl rfl ?_
            refine gm_getI (pc := 57) (j := 1) X 7 dX7_read_57 rfl (by decide) rfl xu_7 (by decide) rfl xw_82 rfl ?_
            refine g_iload (pc := 60) X dX7_read_60 rfl ?_
            refine g_bipush (pc := 62) (v := 97) X dX7_read_62 (by decide) ?_
            refine g_isub (pc := 64) X dX7_read_64 ?_
            refine gm_iast (pc := 65) X (ctb (t 2) k) dX7_read_65 rfl e1 (show ctb (t 2) k < 160 from by omega) (by decide) ?_
            refine g_aload_n (pc := 66) X dX7_read_66 rfl rfl ?_
            refine g_dup (pc := 67) X dX7_read_67 rfl ?_
            refine gm_getI (pc := 68) (j := 1) X 7 dX7_read_68 rfl (by decide) rfl xu_7 (by decide) rfl xw_82 rfl ?_
            refine g_iconst (pc := 71) (v := 1) X dX7_read_71 (by decide) ?_
            refine g_iadd (pc := 72) X dX7_read_72 ?_
            refine gm_putI (pc := 73) (j := 1) X 7 tyX7 dX7_read_73 rfl (by decide) rfl xu_7 tyX7_ok nmX7 (by decide) rfl xw_82 rfl rfl (Or.inl rfl) ?_
            refine g_inc (pc := 76) (kv := 1) X dX7_read_76 (by decide) rfl (by decide) ?_
            refine g_goto (pc := 79) (tgt := 22) X dX7_read_79 (by decide) ?_
            refine g_wk 4 ?_
            exact ih (k + 1) _ _ (by omega) (nI_1 k) (by omega) hok (by rw [xt_same, xt_nk _ _ _ _ (by decide), e1, nI_1, ctb_t hyl]) (by rw [xt_ne _ _ (Or.inr (by decide)), xt_nk _ _ _ _ (by decide)]; exact e2) (by rw [xt_ne _ _ (Or.inr (by decide)), xt_nk _ _ _ _ (by decide)]; exact e3)
              (fun j hj q => by
                rw [xt_nk _ _ _ _ (by decide)]
                by_cases r : j = k
                · subst r; rw [xt_same]
                · have hlt : ctb (t 2) j < ctb (t 2) k := by
                    have h2 := ctb_mono (t 2) (i := j + 1) (d := k - (j + 1))
                    rw [ctb_t q, show j + 1 + (k - (j + 1)) = k by omega] at h2
                    omega
                  rw [xt_ne _ _ (Or.inr (by omega))]; exact e4 j (by omega) q)
              (fun x y q1 q2 => by rw [xt_nk _ _ _ _ q1, xt_nk _ _ _ _ q2]; exact e5 x y q1 q2)
  refine g_aload_n (pc := 0) X dX7_read_0 rfl rfl ?_
  refine g_aload_n (pc := 1) X dX7_read_1 rfl rfl ?_
  refine g_iload_n (pc := 2) X dX7_read_2 rfl rfl ?_
  refine gm_Vv (pc := 3) X 7 xc_X7_25 (c_seekFault l G O _ nt n hnt h1 hn) dX7_read_3 rfl (by decide) rfl rfl rfl rfl (Nat.le_of_ble_eq_true rfl) (fun t_3 hp => ?_)
  subst hp
  refine g_aload_n (pc := 6) X dX7_read_6 rfl rfl ?_
  refine gm_getI (pc := 7) (j := 2) X 7 dX7_read_7 rfl (by decide) rfl xu_7 (by decide) rfl xw_84 rfl ?_
  refine g_if_eq (pc := 10) (tgt := 15) X dX7_read_10 (by decide) (fun hc_10 => ?_) (fun hc_10 => ?_)
  · refine g_aload_n (pc := 15) X dX7_read_15 rfl rfl ?_
    refine g_iconst (pc := 16) (v := 0) X dX7_read_16 (by decide) ?_
    refine gm_putI (pc := 17) (j := 1) X 7 tyX7 dX7_read_17 rfl (by decide) rfl xu_7 tyX7_ok nmX7 (by decide) rfl xw_82 rfl rfl (Or.inl rfl) ?_
    refine g_iconst (pc := 20) (v := 0) X dX7_read_20 (by decide) ?_
    refine g_istore_n (pc := 21) X dX7_read_21 rfl (by decide) ?_
    rw [set4_2] at hc_10
    exact loop (n + 1) 0 _ _ (by omega) nI_0.symm (Nat.zero_le _) hc_10 (by rw [xt_same]; exact nI_0.symm) (by rw [xt_ne _ _ (Or.inr (by decide)), set4_2]; exact hc_10) (by rw [xt_ne _ _ (Or.inr (by decide)), show ∀ b, set4 t b 4 3 = b.2 from fun b => by simp [set4, xt]]; exact (sfr_ok hc_10).1) (fun j hj => absurd hj (Nat.not_lt_zero j)) (fun x y q1 q2 => by rw [xt_nk _ _ _ _ q1, set4_ne _ _ _ q1])
  · refine g_iconst (pc := 13) (v := 0) X dX7_read_13 (by decide) ?_
    exact gm_zret (pc := 14) X hr hk dX7_read_14 (by first | exact Or.inl rfl | exact Or.inr rfl) (by rw [set4_2] at hc_10; exact ⟨(bi_f hc_10).symm, fun _ => rfl, fun q => absurd q hc_10⟩)

def hfS (t : xT) (nh : Nat) (p s r : Int32) : xT := xt (xf (xt (xt (xt t (8 + 2 * nh) 0 p) (8 + 2 * nh) 1 s) (8 + 2 * nh) 2 r) (9 + 2 * nh) 16 65535) 6 1 (nI (nh + 1))
set_option maxRecDepth 100000 in
set_option maxHeartbeats 4000000 in
theorem c_add (l : Launch) (G : xg_G) (O : Heap) (t : xT) (nh : Nat) (q s0 r : Int32) (hnh : nh ≤ 8) (h1 : t 6 1 = nI nh) : xm l yX2_add cX2_add 5 (some .int) rmX2_add G O t [.ref (O.size + 6), .int q, .int s0, .int r] (xi (fun v t' => v = (if nh < 8 then nI nh else -1) ∧ t' = (if nh < 8 then hfS t nh q s0 r else t))) := by
  refine xm_enter (by decide) 1 rfl rfl ?_
  intro p e s m args below meth c X hr hk
  refine g_eq (L2 := [some (.ref (O.size + 6)), some (.int q), some (.int s0), some (.int r), none]) rfl rfl rfl ?_
  refine g_aload_n (pc := 0) X dX2_add_0 rfl rfl ?_
  refine gm_getI (pc := 1) (j := 1) X 2 dX2_add_1 rfl (by decide) rfl xu_2 (by decide) rfl xw_135 rfl ?_
  refine g_bipush (pc := 4) (v := 8) X dX2_add_4 (by decide) ?_
  refine g_icmp_lt (pc := 6) (tgt := 11) X dX2_add_6 (by decide) (fun hc_6 => ?_) (fun hc_6 => ?_)
  · have hlt : nh < 8 := by rw [h1] at hc_6; exact n_l (a := nh) (b := 8) hc_6
    rw [if_pos hlt, if_pos hlt]
    refine g_aload_n (pc := 11) X dX2_add_11 rfl rfl ?_
    refine gm_getR (k' := 7) (pc := 12) (j := 0) X 2 dX2_add_12 rfl (by decide) rfl xu_2 (by decide) rfl xw_131 rfl rfl ?_
    refine g_aload_n (pc := 15) X dX2_add_15 rfl rfl ?_
    refine gm_getI (pc := 16) (j := 1) X 2 dX2_add_16 rfl (by decide) rfl xu_2 (by decide) rfl xw_135 rfl ?_
    refine gm_aald (pc := 19) (k' := (8 + 2 * nh)) X 12 (nh) (.object "UnderText$Half") dX2_add_19 rfl (by decide) (by decide) rfl rfl h1 (show nh < 8 from by omega) (by decide) (kd_half nh hlt).2.1 ?_
    refine g_astore (pc := 20) X dX2_add_20 (by decide) ?_
    refine g_aload (pc := 22) X dX2_add_22 rfl ?_
    refine g_iload_n (pc := 24) X dX2_add_24 rfl rfl ?_
    refine gm_putI (pc := 25) (j := 0) X 1 tyX1 dX2_add_25 (kd_half nh (show nh < 8 from hlt)).1 (by decide) rfl xu_1 tyX1_ok nmX1 (by decide) rfl xw_111 rfl rfl (Or.inl rfl) ?_
    refine g_aload (pc := 28) X dX2_add_28 rfl ?_
    refine g_iload_n (pc := 30) X dX2_add_30 rfl rfl ?_
    refine gm_putI (pc := 31) (j := 1) X 1 tyX1 dX2_add_31 (kd_half nh (show nh < 8 from hlt)).1 (by decide) rfl xu_1 tyX1_ok nmX1 (by decide) rfl xw_113 rfl rfl (Or.inl rfl) ?_
    refine g_aload (pc := 34) X dX2_add_34 rfl ?_
    refine g_iload_n (pc := 36) X dX2_add_36 rfl rfl ?_
    refine gm_putI (pc := 37) (j := 2) X 1 tyX1 dX2_add_37 (kd_half nh (show nh < 8 from hlt)).1 (by decide) rfl xu_1 tyX1_ok nmX1 (by decide) rfl xw_116 rfl rfl (Or.inl rfl) ?_
    refine g_aload (pc := 40) X dX2_add_40 rfl ?_
    refine gm_getR (k' := (9 + 2 * nh)) (pc := 42) (j := 3) X 1 dX2_add_42 (kd_half nh (show nh < 8 from hlt)).1 (by decide) rfl xu_1 (by decide) rfl xw_118 rfl (kd_half nh hlt).2.2.1 ?_
    refine g_ldc (pc := 45) X dX2_add_45 xw_337 ?_
    refine gm_Sv (pc := 47) X xc_X2_36 (c_fill l G O _ (9 + 2 * nh) 65535 (kd_half nh hlt).2.2.2.1 (by rw [(kd_half nh hlt).2.2.2.2]; decide)) dX2_add_47 rfl rfl rfl (Nat.le_of_ble_eq_true rfl) (fun t_47 hp => ?_)
    rw [(kd_half nh hlt).2.2.2.2] at hp
    subst hp
    have e6 : xf (xt (xt (xt t (8 + 2 * nh) 0 q) (8 + 2 * nh) 1 s0) (8 + 2 * nh) 2 r) (9 + 2 * nh) 16 65535 6 1 = nI nh := by rw [show ∀ T : xT, xf T (9 + 2 * nh) 16 65535 6 1 = T 6 1 from fun T => by unfold xf; rw [if_neg (by omega)], xt_nk _ _ _ _ (by omega), xt_nk _ _ _ _ (by omega), xt_nk _ _ _ _ (by omega)]; exact h1
    refine g_aload_n (pc := 50) X dX2_add_50 rfl rfl ?_
    refine g_dup (pc := 51) X dX2_add_51 rfl ?_
    refine gm_getI (pc := 52) (j := 1) X 2 dX2_add_52 rfl (by decide) rfl xu_2 (by decide) rfl xw_135 rfl ?_
    rw [e6]
    refine g_iconst (pc := 55) (v := 1) X dX2_add_55 (by decide) ?_
    refine g_iadd (pc := 56) X dX2_add_56 ?_
    rw [nI_1]
    refine gm_putI (pc := 57) (j := 1) X 2 tyX2 dX2_add_57 rfl (by decide) rfl xu_2 tyX2_ok nmX2 (by decide) rfl xw_135 rfl rfl (Or.inl rfl) ?_
    refine g_aload_n (pc := 60) X dX2_add_60 rfl rfl ?_
    refine gm_getI (pc := 61) (j := 1) X 2 dX2_add_61 rfl (by decide) rfl xu_2 (by decide) rfl xw_135 rfl ?_
    refine g_iconst (pc := 64) (v := 1) X dX2_add_64 (by decide) ?_
    refine g_isub (pc := 65) X dX2_add_65 ?_
    exact gm_iret (pc := 66) X hr hk dX2_add_66 (⟨by rw [xt_same]; exact nI_pred nh, rfl⟩)
  · refine g_iconst (pc := 9) (v := (-1)) X dX2_add_9 (by decide) ?_
    exact gm_iret (pc := 10) X hr hk dX2_add_10 (⟨by rw [h1] at hc_6; rw [if_neg (by have := n_nl (a := nh) (b := 8) hc_6; omega)], by rw [h1] at hc_6; rw [if_neg (by have := n_nl (a := nh) (b := 8) hc_6; omega)]⟩)

abbrev spP (nh : Nat) (h f s : Int32) : Prop := (0 ≤ h ∧ h < nI nh) ∧ (0 ≤ f ∧ f ≤ 1) ∧ (0 ≤ s ∧ s ≤ 7)
theorem sp_of {nh : Nat} {h f s : Int32} (hnh : nh ≤ 8) (hs : spP nh h f s) : ∃ k a b, k < nh ∧ a < 2 ∧ b < 8 ∧ h = nI k ∧ f = nI a ∧ s = nI b := by
  obtain ⟨h1, h2, h3⟩ := hs
  obtain ⟨k, hk, e1⟩ := (i_in (by omega)).mp h1
  obtain ⟨a, ha, e2⟩ := nI_of2 (M := 1) (n := 1) rfl (fun q => absurd h2.1 (k2_nle q)) h2.2
  obtain ⟨b, hb, e3⟩ := nI_of2 (M := 7) (n := 7) rfl (fun q => absurd h3.1 (k2_nle q)) h3.2
  exact ⟨k, a, b, hk, by omega, by omega, e1, e2, e3⟩
set_option maxRecDepth 100000 in
set_option maxHeartbeats 4000000 in
theorem c_isSpot (l : Launch) (G : xg_G) (O : Heap) (t : xT) (nh : Nat) (h f s0 : Int32) (hnh : nh ≤ 8) (h1 : t 6 1 = nI nh) : xm l yX8_isSpot cX8_isSpot 4 (some .boolean) rmX8_isSpot G O t [.ref (O.size + 0), .int h, .int f, .int s0] (xi (fun v t' => v = bi (spP nh h f s0) ∧ t' = t)) := by
  refine xm_enter (by decide) 0 rfl rfl ?_
  intro p e s m args below meth c X hr hk
  refine g_eq (L2 := [some (.ref (O.size + 0)), some (.int h), some (.int f), some (.int s0)]) rfl rfl rfl ?_
  refine g_aload_n (pc := 0) X dX8_isSpot_0 rfl rfl ?_
  refine gm_getR (k' := 6) (pc := 1) (j := 3) X 8 dX8_isSpot_1 rfl (by decide) rfl xu_8 (by decide) rfl xw_268 rfl rfl ?_
  refine g_iload_n (pc := 4) X dX8_isSpot_4 rfl rfl ?_
  refine gm_Vi (pc := 5) X 2 xc_X8_114 (c_has l G O _ nh h hnh h1) dX8_isSpot_5 rfl (by decide) rfl rfl rfl rfl (Nat.le_of_ble_eq_true rfl) (fun v_5 t_5 hp => ?_)
  obtain ⟨rfl, hq9⟩ := hp
  have hq9 := hq9.symm
  subst hq9
  refine g_if_eq (pc := 8) (tgt := 32) X dX8_isSpot_8 (by decide) (fun hc_8 => ?_) (fun hc_8 => ?_)
  · refine g_iconst (pc := 32) (v := 0) X dX8_isSpot_32 (by decide) ?_
    exact gm_zret (pc := 33) X hr hk dX8_isSpot_33 (by first | exact Or.inl rfl | exact Or.inr rfl) (⟨(bi_f (fun q => bi_0 hc_8 q.1)).symm, rfl⟩)
  · refine g_iload_n (pc := 11) X dX8_isSpot_11 rfl rfl ?_
    refine g_iconst (pc := 12) (v := 1) X dX8_isSpot_12 (by decide) ?_
    refine gm_Si (pc := 13) X xc_X8_79 (c_isWithin l G O _ f 1) dX8_isSpot_13 rfl rfl rfl (Nat.le_of_ble_eq_true rfl) (fun v_13 t_13 hp => ?_)
    obtain ⟨rfl, hq9⟩ := hp
    have hq9 := hq9.symm
    subst hq9
    refine g_if_eq (pc := 16) (tgt := 32) X dX8_isSpot_16 (by decide) (fun hc_16 => ?_) (fun hc_16 => ?_)
    · refine g_iconst (pc := 32) (v := 0) X dX8_isSpot_32 (by decide) ?_
      exact gm_zret (pc := 33) X hr hk dX8_isSpot_33 (by first | exact Or.inl rfl | exact Or.inr rfl) (⟨(bi_f (fun q => bi_0 hc_16 q.2.1)).symm, rfl⟩)
    · refine g_iload_n (pc := 19) X dX8_isSpot_19 rfl rfl ?_
      refine g_bipush (pc := 20) (v := 7) X dX8_isSpot_20 (by decide) ?_
      refine gm_Si (pc := 22) X xc_X8_79 (c_isWithin l G O _ s0 7) dX8_isSpot_22 rfl rfl rfl (Nat.le_of_ble_eq_true rfl) (fun v_22 t_22 hp => ?_)
      obtain ⟨rfl, hq9⟩ := hp
      have hq9 := hq9.symm
      subst hq9
      refine g_if_eq (pc := 25) (tgt := 32) X dX8_isSpot_25 (by decide) (fun hc_25 => ?_) (fun hc_25 => ?_)
      · refine g_iconst (pc := 32) (v := 0) X dX8_isSpot_32 (by decide) ?_
        exact gm_zret (pc := 33) X hr hk dX8_isSpot_33 (by first | exact Or.inl rfl | exact Or.inr rfl) (⟨(bi_f (fun q => bi_0 hc_25 q.2.2)).symm, rfl⟩)
      · refine g_iconst (pc := 28) (v := 1) X dX8_isSpot_28 (by decide) ?_
        refine g_goto (pc := 29) (tgt := 33) X dX8_isSpot_29 (by decide) ?_
        exact gm_zret (pc := 33) X hr hk dX8_isSpot_33 (by first | exact Or.inl rfl | exact Or.inr rfl) (⟨(bi_t ⟨bi_1 hc_8, bi_1 hc_16, bi_1 hc_25⟩).symm, rfl⟩)

def us (x : Int32) (k : Int32) : Int32 := (x.toUInt32 >>> (k.toUInt32 &&& Int32.toUInt32 31)).toInt32
def bc1 (x : Int32) : Int32 := x - (us x 1 &&& 1431655765)
def bc2 (x : Int32) : Int32 := (x &&& 858993459) + (us x 2 &&& 858993459)
def bc3 (x : Int32) : Int32 := (x + us x 4) &&& 252645135
def bc4 (x : Int32) : Int32 := x + us x 8
def bc5 (x : Int32) : Int32 := x + us x 16
def bcj (x : Int32) : Int32 := bc5 (bc4 (bc3 (bc2 (bc1 x)))) &&& 63
set_option maxRecDepth 100000 in
set_option maxHeartbeats 4000000 in
theorem c_bitCount (l : Launch) (G : xg_G) (O : Heap) (t : xT) (x : Int32)  : xm l yJ6_bitCount_0f7a4 cJ6_bitCount_0f7a4 1 (some .int) rmJ6_bitCount_0f7a4 G O t [.int x] (xi (fun v t' => v = bcj x ∧ t' = t)) := by
  refine xm_enter (by decide) 0 rfl rfl ?_
  intro p e s m args below meth c X hr hk
  refine g_eq (L2 := [some (.int x)]) rfl rfl rfl ?_
  refine g_iload_n (pc := 0) X dJ6_bitCount_0f7a4_0 rfl rfl ?_
  refine g_iload_n (pc := 1) X dJ6_bitCount_0f7a4_1 rfl rfl ?_
  refine g_iconst (pc := 2) (v := 1) X dJ6_bitCount_0f7a4_2 (by decide) ?_
  refine g_iushr (pc := 3) X dJ6_bitCount_0f7a4_3 rfl ?_
  refine g_ldcw (pc := 4) X dJ6_bitCount_0f7a4_4 xw_358 ?_
  refine g_iand (pc := 7) X dJ6_bitCount_0f7a4_7 ?_
  refine g_isub (pc := 8) X dJ6_bitCount_0f7a4_8 ?_
  refine g_istore_n (pc := 9) X dJ6_bitCount_0f7a4_9 rfl (by decide) ?_
  refine g_iload_n (pc := 10) X dJ6_bitCount_0f7a4_10 rfl rfl ?_
  refine g_ldcw (pc := 11) X dJ6_bitCount_0f7a4_11 xw_359 ?_
  refine g_iand (pc := 14) X dJ6_bitCount_0f7a4_14 ?_
  refine g_iload_n (pc := 15) X dJ6_bitCount_0f7a4_15 rfl rfl ?_
  refine g_iconst (pc := 16) (v := 2) X dJ6_bitCount_0f7a4_16 (by decide) ?_
  refine g_iushr (pc := 17) X dJ6_bitCount_0f7a4_17 rfl ?_
  refine g_ldcw (pc := 18) X dJ6_bitCount_0f7a4_18 xw_359 ?_
  refine g_iand (pc := 21) X dJ6_bitCount_0f7a4_21 ?_
  refine g_iadd (pc := 22) X dJ6_bitCount_0f7a4_22 ?_
  refine g_istore_n (pc := 23) X dJ6_bitCount_0f7a4_23 rfl (by decide) ?_
  refine g_iload_n (pc := 24) X dJ6_bitCount_0f7a4_24 rfl rfl ?_
  refine g_iload_n (pc := 25) X dJ6_bitCount_0f7a4_25 rfl rfl ?_
  refine g_iconst (pc := 26) (v := 4) X dJ6_bitCount_0f7a4_26 (by decide) ?_
  refine g_iushr (pc := 27) X dJ6_bitCount_0f7a4_27 rfl ?_
  refine g_iadd (pc := 28) X dJ6_bitCount_0f7a4_28 ?_
  refine g_ldcw (pc := 29) X dJ6_bitCount_0f7a4_29 xw_360 ?_
  refine g_iand (pc := 32) X dJ6_bitCount_0f7a4_32 ?_
  refine g_istore_n (pc := 33) X dJ6_bitCount_0f7a4_33 rfl (by decide) ?_
  refine g_iload_n (pc := 34) X dJ6_bitCount_0f7a4_34 rfl rfl ?_
  refine g_iload_n (pc := 35) X dJ6_bitCount_0f7a4_35 rfl rfl ?_
  refine g_bipush (pc := 36) (v := 8) X dJ6_bitCount_0f7a4_36 (by decide) ?_
  refine g_iushr (pc := 38) X dJ6_bitCount_0f7a4_38 rfl ?_
  refine g_iadd (pc := 39) X dJ6_bitCount_0f7a4_39 ?_
  refine g_istore_n (pc := 40) X dJ6_bitCount_0f7a4_40 rfl (by decide) ?_
  refine g_iload_n (pc := 41) X dJ6_bitCount_0f7a4_41 rfl rfl ?_
  refine g_iload_n (pc := 42) X dJ6_bitCount_0f7a4_42 rfl rfl ?_
  refine g_bipush (pc := 43) (v := 16) X dJ6_bitCount_0f7a4_43 (by decide) ?_
  refine g_iushr (pc := 45) X dJ6_bitCount_0f7a4_45 rfl ?_
  refine g_iadd (pc := 46) X dJ6_bitCount_0f7a4_46 ?_
  refine g_istore_n (pc := 47) X dJ6_bitCount_0f7a4_47 rfl (by decide) ?_
  refine g_iload_n (pc := 48) X dJ6_bitCount_0f7a4_48 rfl rfl ?_
  refine g_bipush (pc := 49) (v := 63) X dJ6_bitCount_0f7a4_49 (by decide) ?_
  refine g_iand (pc := 51) X dJ6_bitCount_0f7a4_51 ?_
  exact gm_iret (pc := 52) X hr hk dJ6_bitCount_0f7a4_52 (⟨rfl, rfl⟩)
end
section
/-! 07c: the class's public methods, first part -/
section XE3
variable {z : Prop} {p : Program} {l : Launch} {e : Env} {R : Room} {s : State} {m : MethodId} {args : Array Value} {below : List Frame} {meth : Method} {c : Code} {nL : Nat} {G : xg_G} {O : Heap} {cells slots : Nat} {Q : State → Prop} {n : Nat} {w : Nat → va_E} {L : List (Option Value)} {pc : Nat} {rest : List Value} {cc : ByteArray} {own : String}
theorem g_lookup (X : xg_X p m c cc nL s args own G) {dflt : Int} {ps : Array (Int × Int)} {len : Nat} {x : Int32} {off : Int} {tgt : Nat} (hd : decode cc pc = .ok (.lookupswitch dflt ps, len)) (hp : (ps.toList.zip (ps.toList.drop 1)).all (fun (a, next) => a.1 < next.1) = true) (ho : Op.lookupswitch.offset ps.toList dflt x.toInt = off) (ht : (pc : Int) + off = (tgt : Int)) (kk : gv z p l e R s m args below meth c nL G O cells slots Q n w L tgt rest) : gv z p l e R s m args below meth c nL G O cells slots Q n w L pc (.int x :: rest) :=
  fun H ls locs hl hh hz hq => lv_lookup X.1.1 X.1.2.1 hd hp ho ht (kk H ls locs hl hh hz hq)
end XE3
def ag (a b c d e : Int32) (j : Nat) : Int32 := if j < 4 then a else if j < 8 then b else if j < 12 then c else if j < 16 then d else e
theorem put_chain {t t1 : xT} {n m : Nat} {g : Nat → Int32} {v : Int32} (hb : ∀ j, j < m → t 2 (n + j) = byt (g j) (j % 4)) (hm : m % 4 = 0) (h2 : ∀ j, j < 4 → t1 2 (n + m + j) = byt v j) (h3 : ∀ x y, x ≠ 1 → ¬ (x = 2 ∧ n + m ≤ y) → t1 x y = t x y) (hg : ∀ j, m ≤ j → j < m + 4 → g j = v) : ∀ j, j < m + 4 → t1 2 (n + j) = byt (g j) (j % 4) := by
  intro j hj
  rcases Nat.lt_or_ge j m with q | q
  · rw [h3 2 (n + j) (by decide) (by omega)]; exact hb j q
  · have := h2 (j - m) (by omega)
    rw [show n + m + (j - m) = n + j by omega] at this
    rw [this, hg j q hj, show j % 4 = j - m by omega]
set_option maxRecDepth 100000 in
set_option maxHeartbeats 4000000 in
theorem c_feed (l : Launch) (G : xg_G) (O : Heap) (t : xT) (nt : Nat) (a1 a2 a3 a4 a5 : Int32) (hnt : nt ≤ 400) (h1 : t 1 1 = nI nt) : xm l yX8_feed cX8_feed 6 (some .int) rmX8_feed G O t [.ref (O.size + 0), .int a1, .int a2, .int a3, .int a4, .int a5] (xi (fun v t' => (nt + 20 ≤ 400 → v = nI (nt + 20) ∧ t' 1 1 = nI (nt + 20) ∧ (∀ j, j < 20 → t' 2 (nt + j) = byt (ag a1 a2 a3 a4 a5 j) (j % 4)) ∧ ∀ x y, x ≠ 1 → ¬ (x = 2 ∧ nt ≤ y) → t' x y = t x y) ∧ (¬ nt + 20 ≤ 400 → v = -1 ∧ t' = t))) := by
  refine xm_enter (by decide) 0 rfl rfl ?_
  intro p e s m args below meth c X hr hk
  refine g_eq (L2 := [some (.ref (O.size + 0)), some (.int a1), some (.int a2), some (.int a3), some (.int a4), some (.int a5)]) rfl rfl rfl ?_
  refine g_aload_n (pc := 0) X dX8_feed_0 rfl rfl ?_
  refine gm_getR (k' := 1) (pc := 1) (j := 0) X 8 dX8_feed_1 rfl (by decide) rfl xu_8 (by decide) rfl xw_265 rfl rfl ?_
  refine gm_getI (pc := 4) (j := 1) X 6 dX8_feed_4 rfl (by decide) rfl xu_6 (by decide) rfl xw_62 rfl ?_
  refine g_bipush (pc := 7) (v := 20) X dX8_feed_7 (by decide) ?_
  refine g_iadd (pc := 9) X dX8_feed_9 ?_
  refine g_sipush (pc := 10) (v := 400) X dX8_feed_10 (by decide) ?_
  refine g_icmp_le (pc := 13) (tgt := 18) X dX8_feed_13 (by decide) (fun hc_13 => ?_) (fun hc_13 => ?_)
  · have hle : nt + 20 ≤ 400 := by rw [h1, show (20 : Int32) = nI 20 from rfl, nI_add] at hc_13; exact n_ge (a := nt + 20) (b := 400) hc_13
    refine g_aload_n (pc := 18) X dX8_feed_18 rfl rfl ?_
    refine gm_getR (k' := 1) (pc := 19) (j := 0) X 8 dX8_feed_19 rfl (by decide) rfl xu_8 (by decide) rfl xw_265 rfl rfl ?_
    refine g_iload_n (pc := 22) X dX8_feed_22 rfl rfl ?_
    refine gm_Vv (pc := 23) X 6 xc_X8_59 (c_put l G O _ (nt + 0) a1 (by omega) h1) dX8_feed_23 rfl (by decide) rfl rfl rfl rfl (Nat.le_of_ble_eq_true rfl) (fun t_23 hp => ?_)
    obtain ⟨e0, f0, g0⟩ := hp
    have e0 : t_23 1 1 = nI (nt + 4) := e0
    have b0 := put_chain (t := t) (t1 := t_23) (n := nt) (m := 0) (g := ag a1 a2 a3 a4 a5) (fun j hj => absurd hj (Nat.not_lt_zero j)) rfl f0 g0 (fun j q1 q2 => by unfold ag; simp [show j < 4 by omega])
    refine g_aload_n (pc := 26) X dX8_feed_26 rfl rfl ?_
    refine gm_getR (k' := 1) (pc := 27) (j := 0) X 8 dX8_feed_27 rfl (by decide) rfl xu_8 (by decide) rfl xw_265 rfl rfl ?_
    refine g_iload_n (pc := 30) X dX8_feed_30 rfl rfl ?_
    refine gm_Vv (pc := 31) X 6 xc_X8_59 (c_put l G O _ (nt + 4) a2 (by omega) e0) dX8_feed_31 rfl (by decide) rfl rfl rfl rfl (Nat.le_of_ble_eq_true rfl) (fun t_31 hp => ?_)
    obtain ⟨e1, f1, g1⟩ := hp
    have e1 : t_31 1 1 = nI (nt + 8) := e1
    have b1 := put_chain (t := t_23) (t1 := t_31) (n := nt) (m := 4) (g := ag a1 a2 a3 a4 a5) b0 rfl f1 g1 (fun j q1 q2 => by unfold ag; simp [show ¬ j < 4 ∧ j < 8 by omega])
    refine g_aload_n (pc := 34) X dX8_feed_34 rfl rfl ?_
    refine gm_getR (k' := 1) (pc := 35) (j := 0) X 8 dX8_feed_35 rfl (by decide) rfl xu_8 (by decide) rfl xw_265 rfl rfl ?_
    refine g_iload_n (pc := 38) X dX8_feed_38 rfl rfl ?_
    refine gm_Vv (pc := 39) X 6 xc_X8_59 (c_put l G O _ (nt + 8) a3 (by omega) e1) dX8_feed_39 rfl (by decide) rfl rfl rfl rfl (Nat.le_of_ble_eq_true rfl) (fun t_39 hp => ?_)
    obtain ⟨e2, f2, g2⟩ := hp
    have e2 : t_39 1 1 = nI (nt + 12) := e2
    have b2 := put_chain (t := t_31) (t1 := t_39) (n := nt) (m := 8) (g := ag a1 a2 a3 a4 a5) b1 rfl f2 g2 (fun j q1 q2 => by unfold ag; simp [show ¬ j < 4 ∧ ¬ j < 8 ∧ j < 12 by omega])
    refine g_aload_n (pc := 42) X dX8_feed_42 rfl rfl ?_
    refine gm_getR (k' := 1) (pc := 43) (j := 0) X 8 dX8_feed_43 rfl (by decide) rfl xu_8 (by decide) rfl xw_265 rfl rfl ?_
    refine g_iload (pc := 46) X dX8_feed_46 rfl ?_
    refine gm_Vv (pc := 48) X 6 xc_X8_59 (c_put l G O _ (nt + 12) a4 (by omega) e2) dX8_feed_48 rfl (by decide) rfl rfl rfl rfl (Nat.le_of_ble_eq_true rfl) (fun t_48 hp => ?_)
    obtain ⟨e3, f3, g3⟩ := hp
    have e3 : t_48 1 1 = nI (nt + 16) := e3
    have b3 := put_chain (t := t_39) (t1 := t_48) (n := nt) (m := 12) (g := ag a1 a2 a3 a4 a5) b2 rfl f3 g3 (fun j q1 q2 => by unfold ag; simp [show ¬ j < 4 ∧ ¬ j < 8 ∧ ¬ j < 12 ∧ j < 16 by omega])
    refine g_aload_n (pc := 51) X dX8_feed_51 rfl rfl ?_
    refine gm_getR (k' := 1) (pc := 52) (j := 0) X 8 dX8_feed_52 rfl (by decide) rfl xu_8 (by decide) rfl xw_265 rfl rfl ?_
    refine g_iload (pc := 55) X dX8_feed_55 rfl ?_
    refine gm_Vv (pc := 57) X 6 xc_X8_59 (c_put l G O _ (nt + 16) a5 (by omega) e3) dX8_feed_57 rfl (by decide) rfl rfl rfl rfl (Nat.le_of_ble_eq_true rfl) (fun t_57 hp => ?_)
    obtain ⟨e4, f4, g4⟩ := hp
    have e4 : t_57 1 1 = nI (nt + 20) := e4
    have b4 := put_chain (t := t_48) (t1 := t_57) (n := nt) (m := 16) (g := ag a1 a2 a3 a4 a5) b3 rfl f4 g4 (fun j q1 q2 => by unfold ag; simp [show ¬ j < 4 ∧ ¬ j < 8 ∧ ¬ j < 12 ∧ ¬ j < 16 by omega])
    refine g_aload_n (pc := 60) X dX8_feed_60 rfl rfl ?_
    refine gm_getR (k' := 1) (pc := 61) (j := 0) X 8 dX8_feed_61 rfl (by decide) rfl xu_8 (by decide) rfl xw_265 rfl rfl ?_
    refine gm_getI (pc := 64) (j := 1) X 6 dX8_feed_64 rfl (by decide) rfl xu_6 (by decide) rfl xw_62 rfl ?_
    exact gm_iret (pc := 67) X hr hk dX8_feed_67 (⟨fun _ => ⟨e4, e4, b4, fun x y q1 q2 => by rw [g4 x y q1 (by omega), g3 x y q1 (by omega), g2 x y q1 (by omega), g1 x y q1 (by omega), g0 x y q1 (by omega)]⟩, fun q => absurd hle q⟩)
  · refine g_iconst (pc := 16) (v := (-1)) X dX8_feed_16 (by decide) ?_
    exact gm_iret (pc := 17) X hr hk dX8_feed_17 (⟨fun q => absurd (by rw [h1, show (20 : Int32) = nI 20 from rfl, nI_add]; exact nI_le (a := nt + 20) (b := 400) q (by omega)) hc_13, fun _ => ⟨rfl, rfl⟩⟩)

set_option maxRecDepth 100000 in
set_option maxHeartbeats 4000000 in
theorem c_work (l : Launch) (G : xg_G) (O : Heap) (t : xT) (nt : Nat) (n : Int32) (hnt : nt ≤ 400) (h1 : t 1 1 = nI nt) : xm l yX8_work cX8_work 3 (some .int) rmX8_work G O t [.ref (O.size + 0), .int n] (xi (fun v t' => (¬ (0 ≤ n ∧ n ≤ nI nt) → v = -2 ∧ t' = t) ∧ ∀ k, k ≤ nt → n = nI k → (¬ (sfr (t 2) k).1 = 0 → v = -1 ∧ t' = xt (set4 t (sfr (t 2) k)) 1 1 0) ∧ ((sfr (t 2) k).1 = 0 → v = nI (ctb (t 2) k) ∧ t' 4 1 = nI (ctb (t 2) k) ∧ t' 4 2 = 0 ∧ t' 4 3 = -1 ∧ (∀ j, j < k → ltb (t 2 j) = true → t' 5 (ctb (t 2) j) = t 2 j - 97) ∧ t' 1 1 = 0 ∧ t' 55 4 = 0 ∧ (∀ h, h < 8 → t' 58 h = -1) ∧ ∀ x y, x ≠ 1 → x ≠ 4 → x ≠ 5 → x ≠ 55 → x ≠ 58 → t' x y = t x y))) := by
  refine xm_enter (by decide) 1 rfl rfl ?_
  intro p e s m args below meth c X hr hk
  refine g_eq (L2 := [some (.ref (O.size + 0)), some (.int n), none]) rfl rfl rfl ?_
  refine g_iload_n (pc := 0) X dX8_work_0 rfl rfl ?_
  refine g_if_lt (pc := 1) (tgt := 15) X dX8_work_1 (by decide) (fun hc_1 => ?_) (fun hc_1 => ?_)
  · refine g_bipush (pc := 15) (v := (-2)) X dX8_work_15 (by decide) ?_
    exact gm_iret (pc := 17) X hr hk dX8_work_17 (⟨fun _ => ⟨rfl, rfl⟩, fun k hk e9 => absurd hc_1 (by rw [e9]; exact nI_pos (by omega))⟩)
  · refine g_iload_n (pc := 4) X dX8_work_4 rfl rfl ?_
    refine g_aload_n (pc := 5) X dX8_work_5 rfl rfl ?_
    refine gm_getR (k' := 1) (pc := 6) (j := 0) X 8 dX8_work_6 rfl (by decide) rfl xu_8 (by decide) rfl xw_265 rfl rfl ?_
    refine gm_getI (pc := 9) (j := 1) X 6 dX8_work_9 rfl (by decide) rfl xu_6 (by decide) rfl xw_62 rfl ?_
    refine g_icmp_le (pc := 12) (tgt := 18) X dX8_work_12 (by decide) (fun hc_12 => ?_) (fun hc_12 => ?_)
    · obtain ⟨k, hkm, rfl⟩ := nI_of (x := n) hc_1
      rw [h1] at hc_12
      have hkn : k ≤ nt := n_ge hc_12
      refine g_aload_n (pc := 18) X dX8_work_18 rfl rfl ?_
      refine gm_getR (k' := 4) (pc := 19) (j := 2) X 8 dX8_work_19 rfl (by decide) rfl xu_8 (by decide) rfl xw_267 rfl rfl ?_
      refine g_aload_n (pc := 22) X dX8_work_22 rfl rfl ?_
      refine gm_getR (k' := 1) (pc := 23) (j := 0) X 8 dX8_work_23 rfl (by decide) rfl xu_8 (by decide) rfl xw_265 rfl rfl ?_
      refine g_iload_n (pc := 26) X dX8_work_26 rfl rfl ?_
      refine gm_Vi (pc := 27) X 7 xc_X8_63 (c_read l G O _ nt k hnt h1 hkn) dX8_work_27 rfl (by decide) rfl rfl rfl rfl (Nat.le_of_ble_eq_true rfl) (fun v_27 t_27 hp => ?_)
      obtain ⟨hv27, r1, r2⟩ := hp
      subst hv27
      refine g_istore_n (pc := 30) X dX8_work_30 rfl (by decide) ?_
      refine g_aload_n (pc := 31) X dX8_work_31 rfl rfl ?_
      refine gm_getR (k' := 1) (pc := 32) (j := 0) X 8 dX8_work_32 rfl (by decide) rfl xu_8 (by decide) rfl xw_265 rfl rfl ?_
      refine g_iconst (pc := 35) (v := 0) X dX8_work_35 (by decide) ?_
      refine gm_putI (pc := 36) (j := 1) X 6 tyX6 dX8_work_36 rfl (by decide) rfl xu_6 tyX6_ok nmX6 (by decide) rfl xw_62 rfl rfl (Or.inl rfl) ?_
      refine g_iload_n (pc := 39) X dX8_work_39 rfl rfl ?_
      refine g_if_ne (pc := 40) (tgt := 45) X dX8_work_40 (by decide) (fun hc_40 => ?_) (fun hc_40 => ?_)
      · refine g_aload_n (pc := 45) X dX8_work_45 rfl rfl ?_
        refine gm_getR (k' := 55) (pc := 46) (j := 5) X 8 dX8_work_46 rfl (by decide) rfl xu_8 (by decide) rfl xw_270 rfl rfl ?_
        refine gm_Vv (pc := 49) X 0 xc_X8_69 (c_clear l G O _) dX8_work_49 rfl (by decide) rfl rfl rfl rfl (Nat.le_of_ble_eq_true rfl) (fun t_49 hp => ?_)
        subst hp
        refine g_aload_n (pc := 52) X dX8_work_52 rfl rfl ?_
        refine gm_getR (k' := 4) (pc := 53) (j := 2) X 8 dX8_work_53 rfl (by decide) rfl xu_8 (by decide) rfl xw_267 rfl rfl ?_
        refine gm_getI (pc := 56) (j := 1) X 7 dX8_work_56 rfl (by decide) rfl xu_7 (by decide) rfl xw_83 rfl ?_
        exact gm_iret (pc := 59) X hr hk dX8_work_59 (⟨fun q => absurd ⟨nI_pos' (by omega), nI_le hkn (by omega)⟩ q, fun k2 hk2 e9 => by
            have := (nI_eq (by omega) (by omega)).mp e9
            subst this
            refine ⟨fun q => absurd (bi_1 hc_40) q, fun q => ?_⟩
            obtain ⟨s1, s2, s3, s4, s5⟩ := r2 q
            have ex : ∀ x y, x ≠ 55 → x ≠ 58 → xf (xt (xt t_27 1 1 0) 55 4 0) 58 8 (-1) x y = xt t_27 1 1 0 x y := fun x y q1 q2 => by rw [show xf (xt (xt t_27 1 1 0) 55 4 0) 58 8 (-1) x y = xt (xt t_27 1 1 0) 55 4 0 x y by simp [xf, q2], xt_nk _ _ _ _ q1]
            refine ⟨?_, ?_, ?_, ?_, fun j hj hl => ?_, ?_, ?_, fun h hh => ?_, fun x y q1 q2 q3 q4 q5 => ?_⟩
            · rw [ex 4 1 (by decide) (by decide), xt_nk _ _ _ _ (by decide)]; exact s1
            · rw [ex 4 1 (by decide) (by decide), xt_nk _ _ _ _ (by decide)]; exact s1
            · rw [ex 4 2 (by decide) (by decide), xt_nk _ _ _ _ (by decide)]; exact s2
            · rw [ex 4 3 (by decide) (by decide), xt_nk _ _ _ _ (by decide)]; exact s3
            · rw [ex 5 _ (by decide) (by decide), xt_nk _ _ _ _ (by decide)]; exact s4 j hj hl
            · rw [ex 1 1 (by decide) (by decide), xt_same]
            · simp [xf, xt]
            · simp [xf, hh]
            · rw [ex x y q4 q5, xt_nk _ _ _ _ q1]; exact s5 x y q2 q3⟩)
      · refine g_iconst (pc := 43) (v := (-1)) X dX8_work_43 (by decide) ?_
        exact gm_iret (pc := 44) X hr hk dX8_work_44 (⟨fun q => absurd ⟨nI_pos' (by omega), nI_le hkn (by omega)⟩ q, fun k2 hk2 e9 => by
            have := (nI_eq (by omega) (by omega)).mp e9
            subst this
            exact ⟨fun q => ⟨rfl, by rw [r1 q]⟩, fun q => absurd q (bi_0 hc_40)⟩⟩)
    · refine g_bipush (pc := 15) (v := (-2)) X dX8_work_15 (by decide) ?_
      exact gm_iret (pc := 17) X hr hk dX8_work_17 (⟨fun _ => ⟨rfl, rfl⟩, fun k hk e9 => absurd (by rw [e9, h1]; exact nI_le hk (by omega)) hc_12⟩)

set_option maxRecDepth 100000 in
set_option maxHeartbeats 4000000 in
theorem c_fault (l : Launch) (G : xg_G) (O : Heap) (t : xT) (n : Int32)  : xm l yX8_fault cX8_fault 2 (some .int) rmX8_fault G O t [.ref (O.size + 0), .int n] (xi (fun v t' => v = (if n = 0 then t 4 2 else if n = 1 then t 4 3 else -1) ∧ t' = t)) := by
  refine xm_enter (by decide) 0 rfl rfl ?_
  intro p e s m args below meth c X hr hk
  refine g_eq (L2 := [some (.ref (O.size + 0)), some (.int n)]) rfl rfl rfl ?_
  refine g_iload_n (pc := 0) X dX8_fault_0 rfl rfl ?_
  by_cases hn0 : n = 0
  · refine g_lookup (pc := 1) (tgt := 28) X dX8_fault_1 (by decide) (off := 27) (by subst hn0; decide) (by decide) ?_
    refine g_aload_n (pc := 28) X dX8_fault_28 rfl rfl ?_
    refine gm_getR (k' := 4) (pc := 29) (j := 2) X 8 dX8_fault_29 rfl (by decide) rfl xu_8 (by decide) rfl xw_267 rfl rfl ?_
    refine gm_getI (pc := 32) (j := 2) X 7 dX8_fault_32 rfl (by decide) rfl xu_7 (by decide) rfl xw_85 rfl ?_
    exact gm_iret (pc := 35) X hr hk dX8_fault_35 (⟨(if_pos hn0).symm, rfl⟩)
  by_cases hn1 : n = 1
  · refine g_lookup (pc := 1) (tgt := 36) X dX8_fault_1 (by decide) (off := 35) (by subst hn1; decide) (by decide) ?_
    refine g_aload_n (pc := 36) X dX8_fault_36 rfl rfl ?_
    refine gm_getR (k' := 4) (pc := 37) (j := 2) X 8 dX8_fault_37 rfl (by decide) rfl xu_8 (by decide) rfl xw_267 rfl rfl ?_
    refine gm_getI (pc := 40) (j := 3) X 7 dX8_fault_40 rfl (by decide) rfl xu_7 (by decide) rfl xw_87 rfl ?_
    exact gm_iret (pc := 43) X hr hk dX8_fault_43 (⟨by rw [if_neg hn0, if_pos hn1], rfl⟩)
  refine g_lookup (pc := 1) (tgt := 44) X dX8_fault_1 (by decide) (off := 43) (by rw [show (#[((0 : Int), (27 : Int)), (1, 35)]).toList = [(0, 27), (1, 35)] from rfl, lv_osw (a := 0) hn0 rfl, lv_osw (a := 1) hn1 rfl]; rfl) (by decide) ?_
  refine g_iconst (pc := 44) (v := (-1)) X dX8_fault_44 (by decide) ?_
  exact gm_iret (pc := 45) X hr hk dX8_fault_45 (⟨by rw [if_neg hn0, if_neg hn1], rfl⟩)
  

abbrev hfP (nh : Nat) (q s r : Int32) : Prop := (0 ≤ q ∧ q ≤ 2) ∧ (0 ≤ s ∧ s ≤ 1) ∧ (0 ≤ r ∧ r ≤ 9) ∧ nh < 8
set_option maxRecDepth 100000 in
set_option maxHeartbeats 4000000 in
theorem c_half (l : Launch) (G : xg_G) (O : Heap) (t : xT) (nh : Nat) (q s0 r : Int32) (hnh : nh ≤ 8) (h6 : t 6 1 = nI nh) : xm l yX8_half cX8_half 5 (some .int) rmX8_half G O t [.ref (O.size + 0), .int q, .int s0, .int r] (xi (fun v t' => v = (if hfP nh q s0 r then nI nh else -1) ∧ t' = (if hfP nh q s0 r then hfS t nh q s0 r else t))) := by
  refine xm_enter (by decide) 1 rfl rfl ?_
  intro p e s m args below meth c X hr hk
  refine g_eq (L2 := [some (.ref (O.size + 0)), some (.int q), some (.int s0), some (.int r), none]) rfl rfl rfl ?_
  refine g_iload_n (pc := 0) X dX8_half_0 rfl rfl ?_
  refine g_iconst (pc := 1) (v := 2) X dX8_half_1 (by decide) ?_
  refine gm_Si (pc := 2) X xc_X8_79 (c_isWithin l G O _ q 2) dX8_half_2 rfl rfl rfl (Nat.le_of_ble_eq_true rfl) (fun v_2 t_2 hp => ?_)
  obtain ⟨rfl, hq9⟩ := hp
  have hq9 := hq9.symm
  subst hq9
  refine g_if_eq (pc := 5) (tgt := 29) X dX8_half_5 (by decide) (fun hc_5 => ?_) (fun hc_5 => ?_)
  · refine g_iconst (pc := 29) (v := 0) X dX8_half_29 (by decide) ?_
    refine g_istore (pc := 30) X dX8_half_30 (by decide) ?_
    refine g_iload (pc := 32) X dX8_half_32 rfl ?_
    refine g_if_eq (pc := 34) (tgt := 50) X dX8_half_34 (by decide) (fun hc_34 => ?_) (fun hc_34 => ?_)
    · refine g_iconst (pc := 50) (v := (-1)) X dX8_half_50 (by decide) ?_
      exact gm_iret (pc := 51) X hr hk dX8_half_51 (⟨by rw [if_neg (fun q9 => bi_0 hc_5 q9.1)], by rw [if_neg (fun q9 => bi_0 hc_5 q9.1)]⟩)
    · exact absurd rfl hc_34
  · refine g_iload_n (pc := 8) X dX8_half_8 rfl rfl ?_
    refine g_iconst (pc := 9) (v := 1) X dX8_half_9 (by decide) ?_
    refine gm_Si (pc := 10) X xc_X8_79 (c_isWithin l G O _ s0 1) dX8_half_10 rfl rfl rfl (Nat.le_of_ble_eq_true rfl) (fun v_10 t_10 hp => ?_)
    obtain ⟨rfl, hq9⟩ := hp
    have hq9 := hq9.symm
    subst hq9
    refine g_if_eq (pc := 13) (tgt := 29) X dX8_half_13 (by decide) (fun hc_13 => ?_) (fun hc_13 => ?_)
    · refine g_iconst (pc := 29) (v := 0) X dX8_half_29 (by decide) ?_
      refine g_istore (pc := 30) X dX8_half_30 (by decide) ?_
      refine g_iload (pc := 32) X dX8_half_32 rfl ?_
      refine g_if_eq (pc := 34) (tgt := 50) X dX8_half_34 (by decide) (fun hc_34 => ?_) (fun hc_34 => ?_)
      · refine g_iconst (pc := 50) (v := (-1)) X dX8_half_50 (by decide) ?_
        exact gm_iret (pc := 51) X hr hk dX8_half_51 (⟨by rw [if_neg (fun q9 => bi_0 hc_13 q9.2.1)], by rw [if_neg (fun q9 => bi_0 hc_13 q9.2.1)]⟩)
      · exact absurd rfl hc_34
    · refine g_iload_n (pc := 16) X dX8_half_16 rfl rfl ?_
      refine g_bipush (pc := 17) (v := 9) X dX8_half_17 (by decide) ?_
      refine gm_Si (pc := 19) X xc_X8_79 (c_isWithin l G O _ r 9) dX8_half_19 rfl rfl rfl (Nat.le_of_ble_eq_true rfl) (fun v_19 t_19 hp => ?_)
      obtain ⟨rfl, hq9⟩ := hp
      have hq9 := hq9.symm
      subst hq9
      refine g_if_eq (pc := 22) (tgt := 29) X dX8_half_22 (by decide) (fun hc_22 => ?_) (fun hc_22 => ?_)
      · refine g_iconst (pc := 29) (v := 0) X dX8_half_29 (by decide) ?_
        refine g_istore (pc := 30) X dX8_half_30 (by decide) ?_
        refine g_iload (pc := 32) X dX8_half_32 rfl ?_
        refine g_if_eq (pc := 34) (tgt := 50) X dX8_half_34 (by decide) (fun hc_34 => ?_) (fun hc_34 => ?_)
        · refine g_iconst (pc := 50) (v := (-1)) X dX8_half_50 (by decide) ?_
          exact gm_iret (pc := 51) X hr hk dX8_half_51 (⟨by rw [if_neg (fun q9 => bi_0 hc_22 q9.2.2.1)], by rw [if_neg (fun q9 => bi_0 hc_22 q9.2.2.1)]⟩)
        · exact absurd rfl hc_34
      · refine g_iconst (pc := 25) (v := 1) X dX8_half_25 (by decide) ?_
        refine g_goto (pc := 26) (tgt := 30) X dX8_half_26 (by decide) ?_
        refine g_istore (pc := 30) X dX8_half_30 (by decide) ?_
        refine g_iload (pc := 32) X dX8_half_32 rfl ?_
        refine g_if_eq (pc := 34) (tgt := 50) X dX8_half_34 (by decide) (fun hc_34 => ?_) (fun hc_34 => ?_)
        · exact absurd hc_34 (by decide)
        · refine g_aload_n (pc := 37) X dX8_half_37 rfl rfl ?_
          refine gm_getR (k' := 6) (pc := 38) (j := 3) X 8 dX8_half_38 rfl (by decide) rfl xu_8 (by decide) rfl xw_268 rfl rfl ?_
          refine g_iload_n (pc := 41) X dX8_half_41 rfl rfl ?_
          refine g_iload_n (pc := 42) X dX8_half_42 rfl rfl ?_
          refine g_iload_n (pc := 43) X dX8_half_43 rfl rfl ?_
          refine gm_Vi (pc := 44) X 2 xc_X8_83 (c_add l G O _ nh q s0 r hnh h6) dX8_half_44 rfl (by decide) rfl rfl rfl rfl (Nat.le_of_ble_eq_true rfl) (fun v_44 t_44 hp => ?_)
          obtain ⟨hv44, ht44⟩ := hp
          subst hv44
          subst ht44
          refine g_goto (pc := 47) (tgt := 51) X dX8_half_47 (by decide) ?_
          exact gm_iret (pc := 51) X hr hk dX8_half_51 (⟨by by_cases q9 : nh < 8; rw [if_pos q9, if_pos ⟨bi_1 hc_5, bi_1 hc_13, bi_1 hc_22, q9⟩]; rw [if_neg q9, if_neg (fun q8 => q9 q8.2.2.2)], by by_cases q9 : nh < 8; rw [if_pos q9, if_pos ⟨bi_1 hc_5, bi_1 hc_13, bi_1 hc_22, q9⟩]; rw [if_neg q9, if_neg (fun q8 => q9 q8.2.2.2)]⟩)

theorem idx8 (a b : Nat) : nI a * 8 + nI b = nI (8 * a + b) := by
  rw [show (8 : Int32) = nI 8 from rfl, pk_mul, nI_add, Nat.mul_comm]
abbrev spI (f s : Int32) : Nat := 8 * f.toNatClampNeg + s.toNatClampNeg
abbrev lgP (nh : Nat) (h f s x : Int32) : Prop := spP nh h f s ∧ 1 ≤ x ∧ x ≤ 65535
abbrev lgL (t : xT) (h f s x : Int32) : Int32 := t (9 + 2 * h.toNatClampNeg) (spI f s) &&& x
set_option maxRecDepth 100000 in
set_option maxHeartbeats 4000000 in
theorem c_list (l : Launch) (G : xg_G) (O : Heap) (t : xT) (nh : Nat) (h f s0 : Int32) (hnh : nh ≤ 8) (h6 : t 6 1 = nI nh) : xm l yX8_list cX8_list 4 (some .int) rmX8_list G O t [.ref (O.size + 0), .int h, .int f, .int s0] (xi (fun v t' => v = (if spP nh h f s0 then t (9 + 2 * h.toNatClampNeg) (spI f s0) else -1) ∧ t' = t)) := by
  refine xm_enter (by decide) 0 rfl rfl ?_
  intro p e s m args below meth c X hr hk
  refine g_eq (L2 := [some (.ref (O.size + 0)), some (.int h), some (.int f), some (.int s0)]) rfl rfl rfl ?_
  refine g_aload_n (pc := 0) X dX8_list_0 rfl rfl ?_
  refine g_iload_n (pc := 1) X dX8_list_1 rfl rfl ?_
  refine g_iload_n (pc := 2) X dX8_list_2 rfl rfl ?_
  refine g_iload_n (pc := 3) X dX8_list_3 rfl rfl ?_
  refine gm_Vi (pc := 4) X 8 xc_X8_89 (c_isSpot l G O _ nh h f s0 hnh h6) dX8_list_4 rfl (by decide) rfl rfl rfl rfl (Nat.le_of_ble_eq_true rfl) (fun v_4 t_4 hp => ?_)
  obtain ⟨rfl, hq9⟩ := hp
  have hq9 := hq9.symm
  subst hq9
  refine g_if_eq (pc := 7) (tgt := 31) X dX8_list_7 (by decide) (fun hc_7 => ?_) (fun hc_7 => ?_)
  · refine g_iconst (pc := 31) (v := (-1)) X dX8_list_31 (by decide) ?_
    exact gm_iret (pc := 32) X hr hk dX8_list_32 (⟨by rw [if_neg (bi_0 hc_7)], rfl⟩)
  · have hsp := bi_1 hc_7
    rw [if_pos hsp]
    obtain ⟨k, a, b, hk1, ha, hb, rfl, rfl, rfl⟩ := sp_of hnh hsp
    refine g_aload_n (pc := 10) X dX8_list_10 rfl rfl ?_
    refine gm_getR (k' := 6) (pc := 11) (j := 3) X 8 dX8_list_11 rfl (by decide) rfl xu_8 (by decide) rfl xw_268 rfl rfl ?_
    refine gm_getR (k' := 7) (pc := 14) (j := 0) X 2 dX8_list_14 rfl (by decide) rfl xu_2 (by decide) rfl xw_134 rfl rfl ?_
    refine g_iload_n (pc := 17) X dX8_list_17 rfl rfl ?_
    refine gm_aald (pc := 18) (k' := (8 + 2 * k)) X 12 (k) (.object "UnderText$Half") dX8_list_18 rfl (by decide) (by decide) rfl rfl rfl (show k < 8 from by omega) (by decide) (kd_half k (show k < 8 by omega)).2.1 ?_
    refine gm_getR (k' := (9 + 2 * k)) (pc := 19) (j := 3) X 1 dX8_list_19 (kd_half k (show k < 8 by omega)).1 (by decide) rfl xu_1 (by decide) rfl xw_121 rfl (kd_half k (show k < 8 by omega)).2.2.1 ?_
    refine g_iload_n (pc := 22) X dX8_list_22 rfl rfl ?_
    refine g_iload_n (pc := 23) X dX8_list_23 rfl rfl ?_
    refine gm_Si (pc := 24) X xc_X8_104 (c_spotIndex l G O _ _ _) dX8_list_24 rfl rfl rfl (Nat.le_of_ble_eq_true rfl) (fun v_24 t_24 hp => ?_)
    obtain ⟨rfl, hq9⟩ := hp
    have hq9 := hq9.symm
    subst hq9
    refine gm_iald (pc := 27) X (8 * a + b) dX8_list_27 (kd_half k (show k < 8 by omega)).2.2.2.1 (idx8 a b) (by rw [(kd_half k (show k < 8 by omega)).2.2.2.2]; omega) (by rw [(kd_half k (show k < 8 by omega)).2.2.2.2]; decide) ?_
    refine g_goto (pc := 28) (tgt := 32) X dX8_list_28 (by decide) ?_
    exact gm_iret (pc := 32) X hr hk dX8_list_32 (⟨by show _ = t (9 + 2 * (nI k).toNatClampNeg) (8 * (nI a).toNatClampNeg + (nI b).toNatClampNeg); rw [nI_clamp (by omega), nI_clamp (by omega), nI_clamp (by omega)], rfl⟩)

set_option maxRecDepth 100000 in
set_option maxHeartbeats 4000000 in
theorem c_light (l : Launch) (G : xg_G) (O : Heap) (t : xT) (nh : Nat) (h f s0 x : Int32) (hnh : nh ≤ 8) (h6 : t 6 1 = nI nh) : xm l yX8_light cX8_light 8 (some .int) rmX8_light G O t [.ref (O.size + 0), .int h, .int f, .int s0, .int x] (xi (fun v t' => (¬ lgP nh h f s0 x → v = -1 ∧ t' = t) ∧ (lgP nh h f s0 x → lgL t h f s0 x = 0 → v = -2 ∧ t' = xt t 0 6 (t 0 6 + 1)) ∧ (lgP nh h f s0 x → ¬ lgL t h f s0 x = 0 → v = bcj (lgL t h f s0 x) ∧ t' = xt t (9 + 2 * h.toNatClampNeg) (spI f s0) (lgL t h f s0 x)))) := by
  refine xm_enter (by decide) 3 rfl rfl ?_
  intro p e s m args below meth c X hr hk
  refine g_eq (L2 := [some (.ref (O.size + 0)), some (.int h), some (.int f), some (.int s0), some (.int x), none, none, none]) rfl rfl rfl ?_
  refine g_aload_n (pc := 0) X dX8_light_0 rfl rfl ?_
  refine g_iload_n (pc := 1) X dX8_light_1 rfl rfl ?_
  refine g_iload_n (pc := 2) X dX8_light_2 rfl rfl ?_
  refine g_iload_n (pc := 3) X dX8_light_3 rfl rfl ?_
  refine gm_Vi (pc := 4) X 8 xc_X8_89 (c_isSpot l G O _ nh h f s0 hnh h6) dX8_light_4 rfl (by decide) rfl rfl rfl rfl (Nat.le_of_ble_eq_true rfl) (fun v_4 t_4 hp => ?_)
  obtain ⟨rfl, hq9⟩ := hp
  have hq9 := hq9.symm
  subst hq9
  refine g_if_eq (pc := 7) (tgt := 23) X dX8_light_7 (by decide) (fun hc_7 => ?_) (fun hc_7 => ?_)
  · refine g_iconst (pc := 23) (v := (-1)) X dX8_light_23 (by decide) ?_
    exact gm_iret (pc := 24) X hr hk dX8_light_24 (⟨fun _ => ⟨rfl, rfl⟩, fun q => absurd q (fun q8 => bi_0 hc_7 q8.1), fun q => absurd q (fun q8 => bi_0 hc_7 q8.1)⟩)
  · refine g_iload (pc := 10) X dX8_light_10 rfl ?_
    refine g_iconst (pc := 12) (v := 1) X dX8_light_12 (by decide) ?_
    refine g_icmp_lt (pc := 13) (tgt := 23) X dX8_light_13 (by decide) (fun hc_13 => ?_) (fun hc_13 => ?_)
    · refine g_iconst (pc := 23) (v := (-1)) X dX8_light_23 (by decide) ?_
      exact gm_iret (pc := 24) X hr hk dX8_light_24 (⟨fun _ => ⟨rfl, rfl⟩, fun q => absurd q (fun q8 => absurd q8.2.1 (k2_nle hc_13)), fun q => absurd q (fun q8 => absurd q8.2.1 (k2_nle hc_13))⟩)
    · refine g_iload (pc := 16) X dX8_light_16 rfl ?_
      refine g_ldc (pc := 18) X dX8_light_18 xw_351 ?_
      refine g_icmp_le (pc := 20) (tgt := 25) X dX8_light_20 (by decide) (fun hc_20 => ?_) (fun hc_20 => ?_)
      · have hsp := bi_1 hc_7
        have hlg : lgP nh h f s0 x := ⟨hsp, k2_le hc_13, hc_20⟩
        obtain ⟨k, a, b, hk1, ha, hb, rfl, rfl, rfl⟩ := sp_of hnh hsp
        have eL : lgL t (nI k) (nI a) (nI b) x = t (9 + 2 * k) (8 * a + b) &&& x := by show t (9 + 2 * (nI k).toNatClampNeg) (8 * (nI a).toNatClampNeg + (nI b).toNatClampNeg) &&& x = _; rw [nI_clamp (by omega), nI_clamp (by omega), nI_clamp (by omega)]
        refine g_aload_n (pc := 25) X dX8_light_25 rfl rfl ?_
        refine gm_getR (k' := 6) (pc := 26) (j := 3) X 8 dX8_light_26 rfl (by decide) rfl xu_8 (by decide) rfl xw_268 rfl rfl ?_
        refine gm_getR (k' := 7) (pc := 29) (j := 0) X 2 dX8_light_29 rfl (by decide) rfl xu_2 (by decide) rfl xw_134 rfl rfl ?_
        refine g_iload_n (pc := 32) X dX8_light_32 rfl rfl ?_
        refine gm_aald (pc := 33) (k' := (8 + 2 * k)) X 12 (k) (.object "UnderText$Half") dX8_light_33 rfl (by decide) (by decide) rfl rfl rfl (show k < 8 from by omega) (by decide) (kd_half k (show k < 8 by omega)).2.1 ?_
        refine gm_getR (k' := (9 + 2 * k)) (pc := 34) (j := 3) X 1 dX8_light_34 (kd_half k (show k < 8 by omega)).1 (by decide) rfl xu_1 (by decide) rfl xw_121 rfl (kd_half k (show k < 8 by omega)).2.2.1 ?_
        refine g_astore (pc := 37) X dX8_light_37 (by decide) ?_
        refine g_iload_n (pc := 39) X dX8_light_39 rfl rfl ?_
        refine g_iload_n (pc := 40) X dX8_light_40 rfl rfl ?_
        refine gm_Si (pc := 41) X xc_X8_104 (c_spotIndex l G O _ _ _) dX8_light_41 rfl rfl rfl (Nat.le_of_ble_eq_true rfl) (fun v_41 t_41 hp => ?_)
        obtain ⟨rfl, hq9⟩ := hp
        have hq9 := hq9.symm
        subst hq9
        refine g_istore (pc := 44) X dX8_light_44 (by decide) ?_
        refine g_aload (pc := 46) X dX8_light_46 rfl ?_
        refine g_iload (pc := 48) X dX8_light_48 rfl ?_
        refine gm_iald (pc := 50) X (8 * a + b) dX8_light_50 (kd_half k (show k < 8 by omega)).2.2.2.1 (idx8 a b) (by rw [(kd_half k (show k < 8 by omega)).2.2.2.2]; omega) (by rw [(kd_half k (show k < 8 by omega)).2.2.2.2]; decide) ?_
        refine g_iload (pc := 51) X dX8_light_51 rfl ?_
        refine g_iand (pc := 53) X dX8_light_53 ?_
        refine g_istore (pc := 54) X dX8_light_54 (by decide) ?_
        refine g_iload (pc := 56) X dX8_light_56 rfl ?_
        refine g_if_ne (pc := 58) (tgt := 74) X dX8_light_58 (by decide) (fun hc_58 => ?_) (fun hc_58 => ?_)
        · refine g_aload (pc := 74) X dX8_light_74 rfl ?_
          refine g_iload (pc := 76) X dX8_light_76 rfl ?_
          refine g_iload (pc := 78) X dX8_light_78 rfl ?_
          refine gm_iast (pc := 80) X (8 * a + b) dX8_light_80 (kd_half k (show k < 8 by omega)).2.2.2.1 (idx8 a b) (by rw [(kd_half k (show k < 8 by omega)).2.2.2.2]; omega) (by rw [(kd_half k (show k < 8 by omega)).2.2.2.2]; decide) ?_
          refine g_iload (pc := 81) X dX8_light_81 rfl ?_
          refine gm_Si (pc := 83) X xc_X8_108 (c_bitCount l G O _ _) dX8_light_83 rfl rfl rfl (Nat.le_of_ble_eq_true rfl) (fun v_83 t_83 hp => ?_)
          obtain ⟨rfl, hq9⟩ := hp
          have hq9 := hq9.symm
          subst hq9
          exact gm_iret (pc := 86) X hr hk dX8_light_86 (⟨fun q => absurd hlg q, fun _ q => absurd (by rw [← eL]; exact q) hc_58, fun _ _ => ⟨by rw [eL], by rw [eL, nI_clamp (show k < 2 ^ 31 by omega), show spI (nI a) (nI b) = 8 * a + b by show 8 * (nI a).toNatClampNeg + (nI b).toNatClampNeg = _; rw [nI_clamp (by omega), nI_clamp (by omega)]]⟩⟩)
        · refine g_aload_n (pc := 61) X dX8_light_61 rfl rfl ?_
          refine g_dup (pc := 62) X dX8_light_62 rfl ?_
          refine gm_getI (pc := 63) (j := 6) X 8 dX8_light_63 rfl (by decide) rfl xu_8 (by decide) rfl xw_271 rfl ?_
          refine g_iconst (pc := 66) (v := 1) X dX8_light_66 (by decide) ?_
          refine g_iadd (pc := 67) X dX8_light_67 ?_
          refine gm_putI (pc := 68) (j := 6) X 8 tyX8 dX8_light_68 rfl (by decide) rfl xu_8 tyX8_ok nmX8 (by decide) rfl xw_271 rfl rfl (Or.inl rfl) ?_
          refine g_bipush (pc := 71) (v := (-2)) X dX8_light_71 (by decide) ?_
          exact gm_iret (pc := 73) X hr hk dX8_light_73 (⟨fun q => absurd hlg q, fun _ _ => ⟨rfl, rfl⟩, fun _ q => absurd (by rw [eL]; exact hc_58) q⟩)
      · refine g_iconst (pc := 23) (v := (-1)) X dX8_light_23 (by decide) ?_
        exact gm_iret (pc := 24) X hr hk dX8_light_24 (⟨fun _ => ⟨rfl, rfl⟩, fun q => absurd q (fun q8 => hc_20 q8.2.2), fun q => absurd q (fun q8 => hc_20 q8.2.2)⟩)

set_option maxRecDepth 100000 in
set_option maxHeartbeats 4000000 in
theorem c_price (l : Launch) (G : xg_G) (O : Heap) (t : xT) (n : Int32)  : xm l yX8_price cX8_price 2 (some .boolean) rmX8_price G O t [.ref (O.size + 0), .int n] (xi (fun v t' => v = bi (0 ≤ n ∧ n ≤ 99) ∧ t' = (if 0 ≤ n ∧ n ≤ 99 then xt t 0 7 n else t))) := by
  refine xm_enter (by decide) 0 rfl rfl ?_
  intro p e s m args below meth c X hr hk
  refine g_eq (L2 := [some (.ref (O.size + 0)), some (.int n)]) rfl rfl rfl ?_
  refine g_iload_n (pc := 0) X dX8_price_0 rfl rfl ?_
  refine g_bipush (pc := 1) (v := 99) X dX8_price_1 (by decide) ?_
  refine gm_Si (pc := 3) X xc_X8_79 (c_isWithin l G O _ n 99) dX8_price_3 rfl rfl rfl (Nat.le_of_ble_eq_true rfl) (fun v_3 t_3 hp => ?_)
  obtain ⟨rfl, hq9⟩ := hp
  have hq9 := hq9.symm
  subst hq9
  refine g_if_ne (pc := 6) (tgt := 11) X dX8_price_6 (by decide) (fun hc_6 => ?_) (fun hc_6 => ?_)
  · refine g_aload_n (pc := 11) X dX8_price_11 rfl rfl ?_
    refine g_iload_n (pc := 12) X dX8_price_12 rfl rfl ?_
    refine gm_putI (pc := 13) (j := 7) X 8 tyX8 dX8_price_13 rfl (by decide) rfl xu_8 tyX8_ok nmX8 (by decide) rfl xw_272 rfl rfl (Or.inl rfl) ?_
    refine g_iconst (pc := 16) (v := 1) X dX8_price_16 (by decide) ?_
    exact gm_zret (pc := 17) X hr hk dX8_price_17 (by first | exact Or.inl rfl | exact Or.inr rfl) (⟨(bi_t (bi_1 hc_6)).symm, (if_pos (bi_1 hc_6)).symm⟩)
  · refine g_iconst (pc := 9) (v := 0) X dX8_price_9 (by decide) ?_
    exact gm_zret (pc := 10) X hr hk dX8_price_10 (by first | exact Or.inl rfl | exact Or.inr rfl) (⟨(bi_f (bi_0 hc_6)).symm, (if_neg (bi_0 hc_6)).symm⟩)

set_option maxRecDepth 100000 in
set_option maxHeartbeats 4000000 in
theorem c_leaf (l : Launch) (G : xg_G) (O : Heap) (t : xT) (nj : Nat) (n w : Int32) (hnj : nj ≤ 8) (h5 : t 55 4 = nI nj) : xm l yX8_leaf cX8_leaf 4 (some .int) rmX8_leaf G O t [.ref (O.size + 0), .int n, .int w] (xi (fun v t' => v = (if (0 ≤ n ∧ n < nI nj) ∧ (0 ≤ w ∧ w < nI 6) then t (68 + n.toNatClampNeg) w.toNatClampNeg else -1) ∧ t' = t)) := by
  refine xm_enter (by decide) 1 rfl rfl ?_
  intro p e s m args below meth c X hr hk
  refine g_eq (L2 := [some (.ref (O.size + 0)), some (.int n), some (.int w), none]) rfl rfl rfl ?_
  refine g_aload_n (pc := 0) X dX8_leaf_0 rfl rfl ?_
  refine gm_getR (k' := 55) (pc := 1) (j := 5) X 8 dX8_leaf_1 rfl (by decide) rfl xu_8 (by decide) rfl xw_270 rfl rfl ?_
  refine g_iload_n (pc := 4) X dX8_leaf_4 rfl rfl ?_
  refine gm_Vi (pc := 5) X 0 xc_X8_161 (c_bhas l G O _ nj n hnj h5) dX8_leaf_5 rfl (by decide) rfl rfl rfl rfl (Nat.le_of_ble_eq_true rfl) (fun v_5 t_5 hp => ?_)
  obtain ⟨rfl, hq9⟩ := hp
  have hq9 := hq9.symm
  subst hq9
  refine g_if_ne (pc := 8) (tgt := 13) X dX8_leaf_8 (by decide) (fun hc_8 => ?_) (fun hc_8 => ?_)
  · have hin := bi_1 hc_8
    obtain ⟨k, hk1, rfl⟩ := (i_in (by omega)).mp hin
    refine g_aload_n (pc := 13) X dX8_leaf_13 rfl rfl ?_
    refine gm_getR (k' := 55) (pc := 14) (j := 5) X 8 dX8_leaf_14 rfl (by decide) rfl xu_8 (by decide) rfl xw_270 rfl rfl ?_
    refine gm_getR (k' := 56) (pc := 17) (j := 0) X 0 dX8_leaf_17 rfl (by decide) rfl xu_0 (by decide) rfl xw_245 rfl rfl ?_
    refine g_iload_n (pc := 20) X dX8_leaf_20 rfl rfl ?_
    refine gm_aald (pc := 21) (k' := (68 + k)) X 13 (k) (.object "UnderText$Leaf") dX8_leaf_21 rfl (by decide) (by decide) rfl rfl rfl (show k < 8 from by omega) (by decide) (kd_leaf k (show k < 8 by omega)).1 ?_
    refine g_astore_n (pc := 22) X dX8_leaf_22 rfl (by decide) ?_
    refine g_iload_n (pc := 23) X dX8_leaf_23 rfl rfl ?_
    by_cases hs_24_0 : w = nI 0
    · refine g_swIn (pc := 24) (tgt := 64) X 0 dX8_leaf_24 hs_24_0 (by decide) rfl (by decide) rfl (by decide) ?_
      refine g_aload_n (pc := 64) X dX8_leaf_64 rfl rfl ?_
      refine gm_getI (pc := 65) (j := 0) X 3 dX8_leaf_65 (kd_leaf k (show k < 8 by omega)).2 (by decide) rfl xu_3 (by decide) rfl xw_151 rfl ?_
      exact gm_iret (pc := 68) X hr hk dX8_leaf_68 (⟨by rw [hs_24_0, if_pos ⟨hin, nI_pos' (by omega), nI_lt (by omega) (by omega)⟩, nI_clamp (by omega), nI_clamp (by omega)], rfl⟩)
    by_cases hs_24_1 : w = nI 1
    · refine g_swIn (pc := 24) (tgt := 69) X 1 dX8_leaf_24 hs_24_1 (by decide) rfl (by decide) rfl (by decide) ?_
      refine g_aload_n (pc := 69) X dX8_leaf_69 rfl rfl ?_
      refine gm_getI (pc := 70) (j := 1) X 3 dX8_leaf_70 (kd_leaf k (show k < 8 by omega)).2 (by decide) rfl xu_3 (by decide) rfl xw_155 rfl ?_
      exact gm_iret (pc := 73) X hr hk dX8_leaf_73 (⟨by rw [hs_24_1, if_pos ⟨hin, nI_pos' (by omega), nI_lt (by omega) (by omega)⟩, nI_clamp (by omega), nI_clamp (by omega)], rfl⟩)
    by_cases hs_24_2 : w = nI 2
    · refine g_swIn (pc := 24) (tgt := 74) X 2 dX8_leaf_24 hs_24_2 (by decide) rfl (by decide) rfl (by decide) ?_
      refine g_aload_n (pc := 74) X dX8_leaf_74 rfl rfl ?_
      refine gm_getI (pc := 75) (j := 2) X 3 dX8_leaf_75 (kd_leaf k (show k < 8 by omega)).2 (by decide) rfl xu_3 (by decide) rfl xw_158 rfl ?_
      exact gm_iret (pc := 78) X hr hk dX8_leaf_78 (⟨by rw [hs_24_2, if_pos ⟨hin, nI_pos' (by omega), nI_lt (by omega) (by omega)⟩, nI_clamp (by omega), nI_clamp (by omega)], rfl⟩)
    by_cases hs_24_3 : w = nI 3
    · refine g_swIn (pc := 24) (tgt := 79) X 3 dX8_leaf_24 hs_24_3 (by decide) rfl (by decide) rfl (by decide) ?_
      refine g_aload_n (pc := 79) X dX8_leaf_79 rfl rfl ?_
      refine gm_getI (pc := 80) (j := 3) X 3 dX8_leaf_80 (kd_leaf k (show k < 8 by omega)).2 (by decide) rfl xu_3 (by decide) rfl xw_163 rfl ?_
      exact gm_iret (pc := 83) X hr hk dX8_leaf_83 (⟨by rw [hs_24_3, if_pos ⟨hin, nI_pos' (by omega), nI_lt (by omega) (by omega)⟩, nI_clamp (by omega), nI_clamp (by omega)], rfl⟩)
    by_cases hs_24_4 : w = nI 4
    · refine g_swIn (pc := 24) (tgt := 84) X 4 dX8_leaf_24 hs_24_4 (by decide) rfl (by decide) rfl (by decide) ?_
      refine g_aload_n (pc := 84) X dX8_leaf_84 rfl rfl ?_
      refine gm_getI (pc := 85) (j := 4) X 3 dX8_leaf_85 (kd_leaf k (show k < 8 by omega)).2 (by decide) rfl xu_3 (by decide) rfl xw_167 rfl ?_
      exact gm_iret (pc := 88) X hr hk dX8_leaf_88 (⟨by rw [hs_24_4, if_pos ⟨hin, nI_pos' (by omega), nI_lt (by omega) (by omega)⟩, nI_clamp (by omega), nI_clamp (by omega)], rfl⟩)
    by_cases hs_24_5 : w = nI 5
    · refine g_swIn (pc := 24) (tgt := 89) X 5 dX8_leaf_24 hs_24_5 (by decide) rfl (by decide) rfl (by decide) ?_
      refine g_aload_n (pc := 89) X dX8_leaf_89 rfl rfl ?_
      refine gm_getI (pc := 90) (j := 5) X 3 dX8_leaf_90 (kd_leaf k (show k < 8 by omega)).2 (by decide) rfl xu_3 (by decide) rfl xw_170 rfl ?_
      exact gm_iret (pc := 93) X hr hk dX8_leaf_93 (⟨by rw [hs_24_5, if_pos ⟨hin, nI_pos' (by omega), nI_lt (by omega) (by omega)⟩, nI_clamp (by omega), nI_clamp (by omega)], rfl⟩)
    refine g_swOut (pc := 24) (tgt := 94) X 5 dX8_leaf_24 rfl rfl (by decide) (fun k hk => match k, hk with | 0, _ => hs_24_0 | 1, _ => hs_24_1 | 2, _ => hs_24_2 | 3, _ => hs_24_3 | 4, _ => hs_24_4 | 5, _ => hs_24_5 | k + 6, h => absurd h (by omega)) (by decide) ?_
    refine g_iconst (pc := 94) (v := (-1)) X dX8_leaf_94 (by decide) ?_
    exact gm_iret (pc := 95) X hr hk dX8_leaf_95 (⟨(if_neg (fun q => by obtain ⟨j, hj, e9⟩ := (i_in (n := 6) (by omega)).mp q.2; match j, hj, e9 with | 0, _, e9 => exact hs_24_0 e9 | 1, _, e9 => exact hs_24_1 e9 | 2, _, e9 => exact hs_24_2 e9 | 3, _, e9 => exact hs_24_3 e9 | 4, _, e9 => exact hs_24_4 e9 | 5, _, e9 => exact hs_24_5 e9 | j + 6, hj, _ => omega)).symm, rfl⟩)
  · refine g_iconst (pc := 11) (v := (-1)) X dX8_leaf_11 (by decide) ?_
    exact gm_iret (pc := 12) X hr hk dX8_leaf_12 (⟨(if_neg (fun q => bi_0 hc_8 q.1)).symm, rfl⟩)

set_option maxRecDepth 100000 in
set_option maxHeartbeats 4000000 in
theorem c_book (l : Launch) (G : xg_G) (O : Heap) (t : xT) (nj : Nat) (n w : Int32) (hnj : nj ≤ 8) (h5 : t 55 4 = nI nj) (ho : ∀ k, k < nj → ∃ j, j < nj ∧ t 57 k = nI j) : xm l yX8_book cX8_book 3 (some .int) rmX8_book G O t [.ref (O.size + 0), .int n, .int w] (xi (fun v t' => v = (if 0 ≤ n ∧ n < nI nj then (if w = nI 0 then t 57 n.toNatClampNeg else if w = nI 1 then lstV t nj n.toNatClampNeg else if w = nI 2 then bi (brkP t nj n.toNatClampNeg) else -1) else -1) ∧ t' = t)) := by
  refine xm_enter (by decide) 0 rfl rfl ?_
  intro p e s m args below meth c X hr hk
  refine g_eq (L2 := [some (.ref (O.size + 0)), some (.int n), some (.int w)]) rfl rfl rfl ?_
  refine g_aload_n (pc := 0) X dX8_book_0 rfl rfl ?_
  refine gm_getR (k' := 55) (pc := 1) (j := 5) X 8 dX8_book_1 rfl (by decide) rfl xu_8 (by decide) rfl xw_270 rfl rfl ?_
  refine g_iload_n (pc := 4) X dX8_book_4 rfl rfl ?_
  refine gm_Vi (pc := 5) X 0 xc_X8_161 (c_bhas l G O _ nj n hnj h5) dX8_book_5 rfl (by decide) rfl rfl rfl rfl (Nat.le_of_ble_eq_true rfl) (fun v_5 t_5 hp => ?_)
  obtain ⟨rfl, hq9⟩ := hp
  have hq9 := hq9.symm
  subst hq9
  refine g_if_ne (pc := 8) (tgt := 13) X dX8_book_8 (by decide) (fun hc_8 => ?_) (fun hc_8 => ?_)
  · have hin := bi_1 hc_8
    obtain ⟨k, hk1, rfl⟩ := (i_in (by omega)).mp hin
    refine g_iload_n (pc := 13) X dX8_book_13 rfl rfl ?_
    by_cases hs_14_0 : w = nI 0
    · refine g_swIn (pc := 14) (tgt := 40) X 0 dX8_book_14 hs_14_0 (by decide) rfl (by decide) rfl (by decide) ?_
      refine g_aload_n (pc := 40) X dX8_book_40 rfl rfl ?_
      refine gm_getR (k' := 55) (pc := 41) (j := 5) X 8 dX8_book_41 rfl (by decide) rfl xu_8 (by decide) rfl xw_270 rfl rfl ?_
      refine gm_getR (k' := 57) (pc := 44) (j := 1) X 0 dX8_book_44 rfl (by decide) rfl xu_0 (by decide) rfl xw_247 rfl rfl ?_
      refine g_iload_n (pc := 47) X dX8_book_47 rfl rfl ?_
      refine gm_iald (pc := 48) X (k) dX8_book_48 rfl rfl (show k < 8 from by omega) (by decide) ?_
      exact gm_iret (pc := 49) X hr hk dX8_book_49 (⟨by rw [if_pos hin, nI_clamp (by omega), if_pos hs_14_0], rfl⟩)
    by_cases hs_14_1 : w = nI 1
    · refine g_swIn (pc := 14) (tgt := 50) X 1 dX8_book_14 hs_14_1 (by decide) rfl (by decide) rfl (by decide) ?_
      refine g_aload_n (pc := 50) X dX8_book_50 rfl rfl ?_
      refine gm_getR (k' := 55) (pc := 51) (j := 5) X 8 dX8_book_51 rfl (by decide) rfl xu_8 (by decide) rfl xw_270 rfl rfl ?_
      refine g_iload_n (pc := 54) X dX8_book_54 rfl rfl ?_
      refine gm_Vi (pc := 55) X 0 xc_X8_177 (c_lostBehind l G O _ nj k hnj h5 ho (by omega)) dX8_book_55 rfl (by decide) rfl rfl rfl rfl (Nat.le_of_ble_eq_true rfl) (fun v_55 t_55 hp => ?_)
      obtain ⟨rfl, hq9⟩ := hp
      have hq9 := hq9.symm
      subst hq9
      exact gm_iret (pc := 58) X hr hk dX8_book_58 (⟨by rw [if_pos hin, nI_clamp (by omega), if_neg hs_14_0, if_pos hs_14_1], rfl⟩)
    by_cases hs_14_2 : w = nI 2
    · refine g_swIn (pc := 14) (tgt := 59) X 2 dX8_book_14 hs_14_2 (by decide) rfl (by decide) rfl (by decide) ?_
      refine g_aload_n (pc := 59) X dX8_book_59 rfl rfl ?_
      refine gm_getR (k' := 55) (pc := 60) (j := 5) X 8 dX8_book_60 rfl (by decide) rfl xu_8 (by decide) rfl xw_270 rfl rfl ?_
      refine g_iload_n (pc := 63) X dX8_book_63 rfl rfl ?_
      refine gm_Vi (pc := 64) X 0 xc_X8_180 (c_breaksBehind l G O _ nj k hnj h5 ho (by omega)) dX8_book_64 rfl (by decide) rfl rfl rfl rfl (Nat.le_of_ble_eq_true rfl) (fun v_64 t_64 hp => ?_)
      obtain ⟨rfl, hq9⟩ := hp
      have hq9 := hq9.symm
      subst hq9
      refine g_if_eq (pc := 67) (tgt := 74) X dX8_book_67 (by decide) (fun hc_67 => ?_) (fun hc_67 => ?_)
      · refine g_iconst (pc := 74) (v := 0) X dX8_book_74 (by decide) ?_
        exact gm_iret (pc := 75) X hr hk dX8_book_75 (⟨by rw [if_pos hin, nI_clamp (by omega), if_neg hs_14_0, if_neg hs_14_1, if_pos hs_14_2, bi_f (bi_0 hc_67)], rfl⟩)
      · refine g_iconst (pc := 70) (v := 1) X dX8_book_70 (by decide) ?_
        refine g_goto (pc := 71) (tgt := 75) X dX8_book_71 (by decide) ?_
        exact gm_iret (pc := 75) X hr hk dX8_book_75 (⟨by rw [if_pos hin, nI_clamp (by omega), if_neg hs_14_0, if_neg hs_14_1, if_pos hs_14_2, bi_t (bi_1 hc_67)], rfl⟩)
    refine g_swOut (pc := 14) (tgt := 76) X 2 dX8_book_14 rfl rfl (by decide) (fun k hk => match k, hk with | 0, _ => hs_14_0 | 1, _ => hs_14_1 | 2, _ => hs_14_2 | k + 3, h => absurd h (by omega)) (by decide) ?_
    refine g_iconst (pc := 76) (v := (-1)) X dX8_book_76 (by decide) ?_
    exact gm_iret (pc := 77) X hr hk dX8_book_77 (⟨by rw [if_pos hin, if_neg hs_14_0, if_neg hs_14_1, if_neg hs_14_2], rfl⟩)
  · refine g_iconst (pc := 11) (v := (-1)) X dX8_book_11 (by decide) ?_
    exact gm_iret (pc := 12) X hr hk dX8_book_12 (⟨(if_neg (bi_0 hc_8)).symm, rfl⟩)

set_option maxRecDepth 100000 in
set_option maxHeartbeats 4000000 in
theorem c_count (l : Launch) (G : xg_G) (O : Heap) (t : xT) (nj : Nat) (w : Int32) (hnj : nj ≤ 8) (h5 : t 55 4 = nI nj) (ho : ∀ k, k < nj → ∃ j, j < nj ∧ t 57 k = nI j) : xm l yX8_count cX8_count 2 (some .int) rmX8_count G O t [.ref (O.size + 0), .int w] (xi (fun v t' => v = (if w = nI 0 then t 4 1 else if w = nI 1 then t 6 1 else if w = nI 2 then t 0 6 else if w = nI 3 then t 55 4 else if w = nI 4 then sm (fun k => t (68 + k) 3) nj else if w = nI 5 then sm (fun k => bi (clsP t nj k)) nj else if w = nI 6 then sm (fun k => bi (brkP t nj k)) nj else if w = nI 7 then sm (fun k => if 0 < lstV t nj k then lstV t nj k else 0) nj else -1) ∧ t' = t)) := by
  refine xm_enter (by decide) 0 rfl rfl ?_
  intro p e s m args below meth c X hr hk
  refine g_eq (L2 := [some (.ref (O.size + 0)), some (.int w)]) rfl rfl rfl ?_
  refine g_iload_n (pc := 0) X dX8_count_0 rfl rfl ?_
  by_cases hs_1_0 : w = nI 0
  · refine g_swIn (pc := 1) (tgt := 48) X 0 dX8_count_1 hs_1_0 (by decide) rfl (by decide) rfl (by decide) ?_
    refine g_aload_n (pc := 48) X dX8_count_48 rfl rfl ?_
    refine gm_getR (k' := 4) (pc := 49) (j := 2) X 8 dX8_count_49 rfl (by decide) rfl xu_8 (by decide) rfl xw_267 rfl rfl ?_
    refine gm_getI (pc := 52) (j := 1) X 7 dX8_count_52 rfl (by decide) rfl xu_7 (by decide) rfl xw_83 rfl ?_
    exact gm_iret (pc := 55) X hr hk dX8_count_55 (⟨by rw [if_pos hs_1_0], rfl⟩)
  by_cases hs_1_1 : w = nI 1
  · refine g_swIn (pc := 1) (tgt := 56) X 1 dX8_count_1 hs_1_1 (by decide) rfl (by decide) rfl (by decide) ?_
    refine g_aload_n (pc := 56) X dX8_count_56 rfl rfl ?_
    refine gm_getR (k' := 6) (pc := 57) (j := 3) X 8 dX8_count_57 rfl (by decide) rfl xu_8 (by decide) rfl xw_268 rfl rfl ?_
    refine gm_getI (pc := 60) (j := 1) X 2 dX8_count_60 rfl (by decide) rfl xu_2 (by decide) rfl xw_138 rfl ?_
    exact gm_iret (pc := 63) X hr hk dX8_count_63 (⟨by rw [if_neg hs_1_0, if_pos hs_1_1], rfl⟩)
  by_cases hs_1_2 : w = nI 2
  · refine g_swIn (pc := 1) (tgt := 64) X 2 dX8_count_1 hs_1_2 (by decide) rfl (by decide) rfl (by decide) ?_
    refine g_aload_n (pc := 64) X dX8_count_64 rfl rfl ?_
    refine gm_getI (pc := 65) (j := 6) X 8 dX8_count_65 rfl (by decide) rfl xu_8 (by decide) rfl xw_271 rfl ?_
    exact gm_iret (pc := 68) X hr hk dX8_count_68 (⟨by rw [if_neg hs_1_0, if_neg hs_1_1, if_pos hs_1_2], rfl⟩)
  by_cases hs_1_3 : w = nI 3
  · refine g_swIn (pc := 1) (tgt := 69) X 3 dX8_count_1 hs_1_3 (by decide) rfl (by decide) rfl (by decide) ?_
    refine g_aload_n (pc := 69) X dX8_count_69 rfl rfl ?_
    refine gm_getR (k' := 55) (pc := 70) (j := 5) X 8 dX8_count_70 rfl (by decide) rfl xu_8 (by decide) rfl xw_270 rfl rfl ?_
    refine gm_getI (pc := 73) (j := 4) X 0 dX8_count_73 rfl (by decide) rfl xu_0 (by decide) rfl xw_253 rfl ?_
    exact gm_iret (pc := 76) X hr hk dX8_count_76 (⟨by rw [if_neg hs_1_0, if_neg hs_1_1, if_neg hs_1_2, if_pos hs_1_3], rfl⟩)
  by_cases hs_1_4 : w = nI 4
  · refine g_swIn (pc := 1) (tgt := 77) X 4 dX8_count_1 hs_1_4 (by decide) rfl (by decide) rfl (by decide) ?_
    refine g_aload_n (pc := 77) X dX8_count_77 rfl rfl ?_
    refine gm_getR (k' := 55) (pc := 78) (j := 5) X 8 dX8_count_78 rfl (by decide) rfl xu_8 (by decide) rfl xw_270 rfl rfl ?_
    refine gm_Vi (pc := 81) X 0 xc_X8_202 (c_allQuarrels l G O _ nj hnj h5) dX8_count_81 rfl (by decide) rfl rfl rfl rfl (Nat.le_of_ble_eq_true rfl) (fun v_81 t_81 hp => ?_)
    obtain ⟨rfl, hq9⟩ := hp
    have hq9 := hq9.symm
    subst hq9
    exact gm_iret (pc := 84) X hr hk dX8_count_84 (⟨by rw [if_neg hs_1_0, if_neg hs_1_1, if_neg hs_1_2, if_neg hs_1_3, if_pos hs_1_4], rfl⟩)
  by_cases hs_1_5 : w = nI 5
  · refine g_swIn (pc := 1) (tgt := 85) X 5 dX8_count_1 hs_1_5 (by decide) rfl (by decide) rfl (by decide) ?_
    refine g_aload_n (pc := 85) X dX8_count_85 rfl rfl ?_
    refine gm_getR (k' := 55) (pc := 86) (j := 5) X 8 dX8_count_86 rfl (by decide) rfl xu_8 (by decide) rfl xw_270 rfl rfl ?_
    refine gm_Vi (pc := 89) X 0 xc_X8_205 (c_clashes l G O _ nj hnj h5 ho) dX8_count_89 rfl (by decide) rfl rfl rfl rfl (Nat.le_of_ble_eq_true rfl) (fun v_89 t_89 hp => ?_)
    obtain ⟨rfl, hq9⟩ := hp
    have hq9 := hq9.symm
    subst hq9
    exact gm_iret (pc := 92) X hr hk dX8_count_92 (⟨by rw [if_neg hs_1_0, if_neg hs_1_1, if_neg hs_1_2, if_neg hs_1_3, if_neg hs_1_4, if_pos hs_1_5], rfl⟩)
  by_cases hs_1_6 : w = nI 6
  · refine g_swIn (pc := 1) (tgt := 93) X 6 dX8_count_1 hs_1_6 (by decide) rfl (by decide) rfl (by decide) ?_
    refine g_aload_n (pc := 93) X dX8_count_93 rfl rfl ?_
    refine gm_getR (k' := 55) (pc := 94) (j := 5) X 8 dX8_count_94 rfl (by decide) rfl xu_8 (by decide) rfl xw_270 rfl rfl ?_
    refine gm_Vi (pc := 97) X 0 xc_X8_208 (c_breaks l G O _ nj hnj h5 ho) dX8_count_97 rfl (by decide) rfl rfl rfl rfl (Nat.le_of_ble_eq_true rfl) (fun v_97 t_97 hp => ?_)
    obtain ⟨rfl, hq9⟩ := hp
    have hq9 := hq9.symm
    subst hq9
    exact gm_iret (pc := 100) X hr hk dX8_count_100 (⟨by rw [if_neg hs_1_0, if_neg hs_1_1, if_neg hs_1_2, if_neg hs_1_3, if_neg hs_1_4, if_neg hs_1_5, if_pos hs_1_6], rfl⟩)
  by_cases hs_1_7 : w = nI 7
  · refine g_swIn (pc := 1) (tgt := 101) X 7 dX8_count_1 hs_1_7 (by decide) rfl (by decide) rfl (by decide) ?_
    refine g_aload_n (pc := 101) X dX8_count_101 rfl rfl ?_
    refine gm_getR (k' := 55) (pc := 102) (j := 5) X 8 dX8_count_102 rfl (by decide) rfl xu_8 (by decide) rfl xw_270 rfl rfl ?_
    refine gm_Vi (pc := 105) X 0 xc_X8_211 (c_allLost l G O _ nj hnj h5 ho) dX8_count_105 rfl (by decide) rfl rfl rfl rfl (Nat.le_of_ble_eq_true rfl) (fun v_105 t_105 hp => ?_)
    obtain ⟨rfl, hq9⟩ := hp
    have hq9 := hq9.symm
    subst hq9
    exact gm_iret (pc := 108) X hr hk dX8_count_108 (⟨by rw [if_neg hs_1_0, if_neg hs_1_1, if_neg hs_1_2, if_neg hs_1_3, if_neg hs_1_4, if_neg hs_1_5, if_neg hs_1_6, if_pos hs_1_7], rfl⟩)
  refine g_swOut (pc := 1) (tgt := 109) X 7 dX8_count_1 rfl rfl (by decide) (fun k hk => match k, hk with | 0, _ => hs_1_0 | 1, _ => hs_1_1 | 2, _ => hs_1_2 | 3, _ => hs_1_3 | 4, _ => hs_1_4 | 5, _ => hs_1_5 | 6, _ => hs_1_6 | 7, _ => hs_1_7 | k + 8, h => absurd h (by omega)) (by decide) ?_
  refine g_iconst (pc := 109) (v := (-1)) X dX8_count_109 (by decide) ?_
  exact gm_iret (pc := 110) X hr hk dX8_count_110 (⟨by rw [if_neg hs_1_0, if_neg hs_1_1, if_neg hs_1_2, if_neg hs_1_3, if_neg hs_1_4, if_neg hs_1_5, if_neg hs_1_6, if_neg hs_1_7], rfl⟩)
end
section
/-! 07d: quarrels, best, led -/
def qo (F : Nat → Nat → Int32) (g : Nat → Int32) : Option Nat → Nat → Nat → Int32
  | none, _, _ => 0
  | some k, q, p => nI (qn (F k) g q p 16)
def fQ (F : Nat → Nat → Int32) (g : Nat → Int32) (u v : Option Nat) (p : Nat) : Int32 := qo F g u 0 p + qo F g v 1 p
abbrev lsC (t : xT) : Nat → Nat → Int32 := fun k => t (9 + 2 * k)
abbrev bsQ (t : xT) (pl a b : Nat) : B4 := bsg (ptC t) (sdC t) (rlC t) (fQ (lsC t) (t 5)) pl (min a b) (max a b) (-1, -1, -1, -1)
theorem fC_Q {T t : xT} {pl a b : Nat} (h42 : ∀ p, p < pl → T 42 p = 0) (hrow : ∀ k, k = a ∨ k = b → ∀ q, q < 2 → ∀ p, p < pl → T (26 + (2 * k + q)) p = nI (qn (t (9 + 2 * k)) (t 5) q p 16)) {u v : Option Nat} (hu : ∀ k, u = some k → k = a ∨ k = b) (hv : ∀ k, v = some k → k = a ∨ k = b) {p : Nat} (hp : p < pl) : fC T u v p = fQ (lsC t) (t 5) u v p := by
  have e : ∀ (w : Option Nat) (q : Nat), q < 2 → (∀ k, w = some k → k = a ∨ k = b) → T (rcell w q) p = qo (lsC t) (t 5) w q p := by
    intro w q hq hw
    cases w with
    | none => exact h42 p hp
    | some k => exact hrow k (hw k rfl) q hq p hp
  show T (rcell u 0) p + T (rcell v 1) p = _
  rw [e u 0 (by decide) hu, e v 1 (by decide) hv]; rfl
theorem mm_ab {a b k : Nat} (h : k = min a b ∨ k = max a b) : k = a ∨ k = b := by omega
theorem bsC_Q {T t : xT} {pl a b : Nat} (hT : ∀ x y, 8 ≤ x ∧ x < 24 → T x y = t x y) (h42 : ∀ p, p < pl → T 42 p = 0) (ha : a < 8) (hb : b < 8) (hrow : ∀ k, k = a ∨ k = b → ∀ q, q < 2 → ∀ p, p < pl → T (26 + (2 * k + q)) p = nI (qn (t (9 + 2 * k)) (t 5) q p 16)) : bsC T pl a b = bsQ t pl a b := by
  have hx : min a b < 8 := by omega
  have hy : max a b < 8 := by omega
  refine bsg_cong ⟨hT _ _ ⟨by omega, by omega⟩, hT _ _ ⟨by omega, by omega⟩⟩ ⟨hT _ _ ⟨by omega, by omega⟩, hT _ _ ⟨by omega, by omega⟩⟩ ⟨hT _ _ ⟨by omega, by omega⟩, hT _ _ ⟨by omega, by omega⟩⟩ ?_
  intro u v hu hv p hp
  exact fC_Q h42 hrow (fun k h => mm_ab (hu k h)) (fun k h => mm_ab (hv k h)) hp
abbrev qrP (nl nh : Nat) (h q y : Int32) : Prop := (0 ≤ h ∧ h < nI nh) ∧ (0 ≤ q ∧ q ≤ 1) ∧ (0 ≤ y ∧ y < nI (nl - 31))
theorem le_pred {y : Int32} {m : Nat} (hm : m ≤ 200) : (0 ≤ y ∧ y ≤ nI m - 1) ↔ (0 ≤ y ∧ y < nI m) := by
  have e : ∀ m : Nat, m < 201 → (nI m - 1).toInt = (m : Int) - 1 := by decide +kernel
  refine and_congr Iff.rfl ?_
  rw [i_le, i_lt, e m (by omega), nI_toInt (by omega)]
  omega
set_option maxRecDepth 100000 in
set_option maxHeartbeats 4000000 in
theorem c_quarrels (l : Launch) (G : xg_G) (O : Heap) (t : xT) (nl nh : Nat) (h q y : Int32) (hnl : nl ≤ 160) (h4 : t 4 1 = nI nl) (hlet : ∀ i, i < nl → ∃ c, c < 16 ∧ t 5 i = nI c) (hnh : nh ≤ 8) (h6 : t 6 1 = nI nh) : xm l yX8_quarrels cX8_quarrels 4 (some .int) rmX8_quarrels G O t [.ref (O.size + 0), .int h, .int q, .int y] (xi (fun v t' => v = (if qrP nl nh h q y then nI (qn (t (9 + 2 * h.toNatClampNeg)) (t 5) q.toNatClampNeg y.toNatClampNeg 16) else -1) ∧ ∀ x y, (x < 26 ∨ 42 ≤ x) → t' x y = t x y)) := by
  refine xm_enter (by decide) 0 rfl rfl ?_
  intro p e s m args below meth c X hr hk
  refine g_eq (L2 := [some (.ref (O.size + 0)), some (.int h), some (.int q), some (.int y)]) rfl rfl rfl ?_
  refine g_aload_n (pc := 0) X dX8_quarrels_0 rfl rfl ?_
  refine gm_getR (k' := 6) (pc := 1) (j := 3) X 8 dX8_quarrels_1 rfl (by decide) rfl xu_8 (by decide) rfl xw_268 rfl rfl ?_
  refine g_iload_n (pc := 4) X dX8_quarrels_4 rfl rfl ?_
  refine gm_Vi (pc := 5) X 2 xc_X8_114 (c_has l G O _ nh h hnh h6) dX8_quarrels_5 rfl (by decide) rfl rfl rfl rfl (Nat.le_of_ble_eq_true rfl) (fun v_5 t_5 hp => ?_)
  obtain ⟨rfl, hq9⟩ := hp
  have hq9 := hq9.symm
  subst hq9
  refine g_if_eq (pc := 8) (tgt := 35) X dX8_quarrels_8 (by decide) (fun hc_8 => ?_) (fun hc_8 => ?_)
  · refine g_iconst (pc := 35) (v := (-1)) X dX8_quarrels_35 (by decide) ?_
    exact gm_iret (pc := 36) X hr hk dX8_quarrels_36 (⟨(if_neg (fun q9 => bi_0 hc_8 q9.1)).symm, fun _ _ _ => rfl⟩)
  · refine g_iload_n (pc := 11) X dX8_quarrels_11 rfl rfl ?_
    refine g_iconst (pc := 12) (v := 1) X dX8_quarrels_12 (by decide) ?_
    refine gm_Si (pc := 13) X xc_X8_79 (c_isWithin l G O _ q 1) dX8_quarrels_13 rfl rfl rfl (Nat.le_of_ble_eq_true rfl) (fun v_13 t_13 hp => ?_)
    obtain ⟨rfl, hq9⟩ := hp
    have hq9 := hq9.symm
    subst hq9
    refine g_if_eq (pc := 16) (tgt := 35) X dX8_quarrels_16 (by decide) (fun hc_16 => ?_) (fun hc_16 => ?_)
    · refine g_iconst (pc := 35) (v := (-1)) X dX8_quarrels_35 (by decide) ?_
      exact gm_iret (pc := 36) X hr hk dX8_quarrels_36 (⟨(if_neg (fun q9 => bi_0 hc_16 q9.2.1)).symm, fun _ _ _ => rfl⟩)
    · refine g_iload_n (pc := 19) X dX8_quarrels_19 rfl rfl ?_
      refine g_aload_n (pc := 20) X dX8_quarrels_20 rfl rfl ?_
      refine gm_getR (k' := 4) (pc := 21) (j := 2) X 8 dX8_quarrels_21 rfl (by decide) rfl xu_8 (by decide) rfl xw_267 rfl rfl ?_
      refine gm_Vi (pc := 24) X 7 xc_X8_118 (c_places l G O _ nl hnl h4) dX8_quarrels_24 rfl (by decide) rfl rfl rfl rfl (Nat.le_of_ble_eq_true rfl) (fun v_24 t_24 hp => ?_)
      obtain ⟨rfl, hq9⟩ := hp
      have hq9 := hq9.symm
      subst hq9
      refine g_iconst (pc := 27) (v := 1) X dX8_quarrels_27 (by decide) ?_
      refine g_isub (pc := 28) X dX8_quarrels_28 ?_
      refine gm_Si (pc := 29) X xc_X8_79 (c_isWithin l G O _ y _) dX8_quarrels_29 rfl rfl rfl (Nat.le_of_ble_eq_true rfl) (fun v_29 t_29 hp => ?_)
      obtain ⟨rfl, hq9⟩ := hp
      have hq9 := hq9.symm
      subst hq9
      refine g_if_ne (pc := 32) (tgt := 37) X dX8_quarrels_32 (by decide) (fun hc_32 => ?_) (fun hc_32 => ?_)
      · have hqr : qrP nl nh h q y := ⟨bi_1 hc_8, bi_1 hc_16, (le_pred (by omega)).mp (bi_1 hc_32)⟩
        obtain ⟨k, hk1, rfl⟩ := (i_in (by omega)).mp hqr.1
        obtain ⟨q1, hq1, rfl⟩ := nI_of2 (M := 1) (n := 1) rfl (fun z => absurd hqr.2.1.1 (k2_nle z)) hqr.2.1.2
        obtain ⟨y1, hy1, rfl⟩ := (i_in (by omega)).mp hqr.2.2
        refine g_aload_n (pc := 37) X dX8_quarrels_37 rfl rfl ?_
        refine gm_getR (k' := 3) (pc := 38) (j := 1) X 8 dX8_quarrels_38 rfl (by decide) rfl xu_8 (by decide) rfl xw_266 rfl rfl ?_
        refine g_iload_n (pc := 41) X dX8_quarrels_41 rfl rfl ?_
        refine gm_Vv (pc := 42) X 5 xc_X8_122 (c_weigh l G O _ nl nh k hnl h4 hlet hnh h6 hk1) dX8_quarrels_42 rfl (by decide) rfl rfl rfl rfl (Nat.le_of_ble_eq_true rfl) (fun t_42 hp => ?_)
        subst hp
        refine g_aload_n (pc := 45) X dX8_quarrels_45 rfl rfl ?_
        refine gm_getR (k' := 3) (pc := 46) (j := 1) X 8 dX8_quarrels_46 rfl (by decide) rfl xu_8 (by decide) rfl xw_266 rfl rfl ?_
        refine g_iload_n (pc := 49) X dX8_quarrels_49 rfl rfl ?_
        refine g_iload_n (pc := 50) X dX8_quarrels_50 rfl rfl ?_
        refine g_iload_n (pc := 51) X dX8_quarrels_51 rfl rfl ?_
        refine gm_Vi (pc := 52) X 5 xc_X8_125 (c_quarrelsAs l G O _ nh k q1 y1 hnh (by rw [xw1_ne _ (by omega)]; exact h6) hk1 (by omega) (by omega)) dX8_quarrels_52 rfl (by decide) rfl rfl rfl rfl (Nat.le_of_ble_eq_true rfl) (fun v_52 t_52 hp => ?_)
        obtain ⟨rfl, hq9⟩ := hp
        have hq9 := hq9.symm
        subst hq9
        exact gm_iret (pc := 55) X hr hk dX8_quarrels_55 (⟨by rw [if_pos hqr, nI_clamp (by omega), nI_clamp (by omega), nI_clamp (by omega), xw1_row _ (by omega) (by omega) hy1], fun x y hx => by rw [xw1_ne _ (by omega)]⟩)
      · refine g_iconst (pc := 35) (v := (-1)) X dX8_quarrels_35 (by decide) ?_
        exact gm_iret (pc := 36) X hr hk dX8_quarrels_36 (⟨(if_neg (fun q9 => bi_0 hc_32 ((le_pred (by omega)).mpr q9.2.2))).symm, fun _ _ _ => rfl⟩)

set_option maxRecDepth 100000 in
set_option maxHeartbeats 4000000 in
theorem c_best (l : Launch) (G : xg_G) (O : Heap) (t : xT) (nl nh : Nat) (a b w : Int32) (hnl : nl ≤ 160) (h4 : t 4 1 = nI nl) (hlet : ∀ i, i < nl → ∃ c, c < 16 ∧ t 5 i = nI c) (hnh : nh ≤ 8) (h6 : t 6 1 = nI nh) (h42 : ∀ p, p < 129 → t 42 p = 0) : xm l yX8_best cX8_best 4 (some .int) rmX8_best G O t [.ref (O.size + 0), .int a, .int b, .int w] (xi (fun v t' => v = (if (0 ≤ a ∧ a < nI nh) ∧ (0 ≤ b ∧ b < nI nh) ∧ ¬ (bsQ t (nl - 31) a.toNatClampNeg b.toNatClampNeg).2.2.2 = -1 then (if w = nI 0 then (bsQ t (nl - 31) a.toNatClampNeg b.toNatClampNeg).2.2.2 else if w = nI 1 then (bsQ t (nl - 31) a.toNatClampNeg b.toNatClampNeg).2.2.1 else if w = nI 2 then (bsQ t (nl - 31) a.toNatClampNeg b.toNatClampNeg).1 else -1) else -1) ∧ ∀ x y, x ≠ 24 → (x < 26 ∨ 42 ≤ x) → t' x y = t x y)) := by
  refine xm_enter (by decide) 0 rfl rfl ?_
  intro p e s m args below meth c X hr hk
  refine g_eq (L2 := [some (.ref (O.size + 0)), some (.int a), some (.int b), some (.int w)]) rfl rfl rfl ?_
  refine g_aload_n (pc := 0) X dX8_best_0 rfl rfl ?_
  refine gm_getR (k' := 6) (pc := 1) (j := 3) X 8 dX8_best_1 rfl (by decide) rfl xu_8 (by decide) rfl xw_268 rfl rfl ?_
  refine g_iload_n (pc := 4) X dX8_best_4 rfl rfl ?_
  refine gm_Vi (pc := 5) X 2 xc_X8_114 (c_has l G O _ nh a hnh h6) dX8_best_5 rfl (by decide) rfl rfl rfl rfl (Nat.le_of_ble_eq_true rfl) (fun v_5 t_5 hp => ?_)
  obtain ⟨rfl, hq9⟩ := hp
  have hq9 := hq9.symm
  subst hq9
  refine g_if_eq (pc := 8) (tgt := 22) X dX8_best_8 (by decide) (fun hc_8 => ?_) (fun hc_8 => ?_)
  · refine g_iconst (pc := 22) (v := (-1)) X dX8_best_22 (by decide) ?_
    exact gm_iret (pc := 23) X hr hk dX8_best_23 (⟨(if_neg (fun q9 => bi_0 hc_8 q9.1)).symm, fun _ _ _ _ => rfl⟩)
  · refine g_aload_n (pc := 11) X dX8_best_11 rfl rfl ?_
    refine gm_getR (k' := 6) (pc := 12) (j := 3) X 8 dX8_best_12 rfl (by decide) rfl xu_8 (by decide) rfl xw_268 rfl rfl ?_
    refine g_iload_n (pc := 15) X dX8_best_15 rfl rfl ?_
    refine gm_Vi (pc := 16) X 2 xc_X8_114 (c_has l G O _ nh b hnh h6) dX8_best_16 rfl (by decide) rfl rfl rfl rfl (Nat.le_of_ble_eq_true rfl) (fun v_16 t_16 hp => ?_)
    obtain ⟨rfl, hq9⟩ := hp
    have hq9 := hq9.symm
    subst hq9
    refine g_if_ne (pc := 19) (tgt := 24) X dX8_best_19 (by decide) (fun hc_19 => ?_) (fun hc_19 => ?_)
    · have ha1 := bi_1 hc_8
      have hb1 := bi_1 hc_19
      obtain ⟨i1, hi1, rfl⟩ := (i_in (by omega)).mp ha1
      obtain ⟨j1, hj1, rfl⟩ := (i_in (by omega)).mp hb1
      rw [nI_clamp (show i1 < 2 ^ 31 by omega), nI_clamp (show j1 < 2 ^ 31 by omega)]
      have ebs : bsC (xw1 (xw1 t (nl - 31) i1) (nl - 31) j1) (nl - 31) i1 j1 = bsQ t (nl - 31) i1 j1 := by
        refine bsC_Q (fun x y hx => by rw [xw1_ne _ (by omega), xw1_ne _ (by omega)]) (fun p hp => by rw [xw1_ne _ (by omega), xw1_ne _ (by omega)]; exact h42 p (by omega)) (by omega) (by omega) (fun k hk9 q hq p hp => ?_)
        by_cases ej : k = j1
        · subst ej
          rw [xw1_row _ hq (by omega) hp, xw1_ne _ (x := 9 + 2 * k) (by omega), xw1_ne _ (x := 5) (by omega)]
        · rcases hk9 with rfl | rfl
          · rw [xw1_ne _ (by omega), xw1_row _ hq (by omega) hp]
          · exact absurd rfl ej
      generalize hRe : bsQ t (nl - 31) i1 j1 = R at *
      have hoff : ∀ x y, x ≠ 24 → (x < 26 ∨ 42 ≤ x) → setB (xw1 (xw1 t (nl - 31) i1) (nl - 31) j1) R x y = t x y := fun x y q1 q2 => by rw [setB_ne _ _ _ q1, xw1_ne _ (by omega), xw1_ne _ (by omega)]
      refine g_aload_n (pc := 24) X dX8_best_24 rfl rfl ?_
      refine gm_getR (k' := 3) (pc := 25) (j := 1) X 8 dX8_best_25 rfl (by decide) rfl xu_8 (by decide) rfl xw_266 rfl rfl ?_
      refine g_iload_n (pc := 28) X dX8_best_28 rfl rfl ?_
      refine gm_Vv (pc := 29) X 5 xc_X8_122 (c_weigh l G O _ nl nh i1 hnl h4 hlet hnh h6 hi1) dX8_best_29 rfl (by decide) rfl rfl rfl rfl (Nat.le_of_ble_eq_true rfl) (fun t_29 hp => ?_)
      subst hp
      refine g_aload_n (pc := 32) X dX8_best_32 rfl rfl ?_
      refine gm_getR (k' := 3) (pc := 33) (j := 1) X 8 dX8_best_33 rfl (by decide) rfl xu_8 (by decide) rfl xw_266 rfl rfl ?_
      refine g_iload_n (pc := 36) X dX8_best_36 rfl rfl ?_
      refine gm_Vv (pc := 37) X 5 xc_X8_122 (c_weigh l G O _ nl nh j1 hnl (by rw [xw1_ne _ (by omega)]; exact h4) (fun i hi => by rw [xw1_ne _ (by omega)]; exact hlet i hi) hnh (by rw [xw1_ne _ (by omega)]; exact h6) hj1) dX8_best_37 rfl (by decide) rfl rfl rfl rfl (Nat.le_of_ble_eq_true rfl) (fun t_37 hp => ?_)
      subst hp
      refine g_aload_n (pc := 40) X dX8_best_40 rfl rfl ?_
      refine gm_getR (k' := 3) (pc := 41) (j := 1) X 8 dX8_best_41 rfl (by decide) rfl xu_8 (by decide) rfl xw_266 rfl rfl ?_
      refine g_iload_n (pc := 44) X dX8_best_44 rfl rfl ?_
      refine g_iload_n (pc := 45) X dX8_best_45 rfl rfl ?_
      refine gm_Vi (pc := 46) X 5 xc_X8_128 (c_seekBest l G O _ nl nh i1 j1 hnl (by rw [xw1_ne _ (by omega), xw1_ne _ (by omega)]; exact h4) hnh (by rw [xw1_ne _ (by omega), xw1_ne _ (by omega)]; exact h6) hi1 hj1) dX8_best_46 rfl (by decide) rfl rfl rfl rfl (Nat.le_of_ble_eq_true rfl) (fun v_46 t_46 hp => ?_)
      obtain ⟨hv46, ht46⟩ := hp
      have ev46 : v_46 = bi (¬ (bsC (xw1 (xw1 t (nl - 31) i1) (nl - 31) j1) (nl - 31) i1 j1).2.2.2 = -1) := hv46
      have et46 : t_46 = setB (xw1 (xw1 t (nl - 31) i1) (nl - 31) j1) (bsC (xw1 (xw1 t (nl - 31) i1) (nl - 31) j1) (nl - 31) i1 j1) := ht46
      rw [ebs] at ev46 et46
      subst ev46
      subst et46
      clear hv46 ht46
      refine g_if_ne (pc := 49) (tgt := 54) X dX8_best_49 (by decide) (fun hc_49 => ?_) (fun hc_49 => ?_)
      · have hall : (0 ≤ nI i1 ∧ nI i1 < nI nh) ∧ (0 ≤ nI j1 ∧ nI j1 < nI nh) ∧ ¬ R.2.2.2 = -1 := ⟨ha1, hb1, bi_1 hc_49⟩
        refine g_iload_n (pc := 54) X dX8_best_54 rfl rfl ?_
        by_cases hs_55_0 : w = nI 0
        · refine g_swIn (pc := 55) (tgt := 80) X 0 dX8_best_55 hs_55_0 (by decide) rfl (by decide) rfl (by decide) ?_
          refine g_aload_n (pc := 80) X dX8_best_80 rfl rfl ?_
          refine gm_getR (k' := 3) (pc := 81) (j := 1) X 8 dX8_best_81 rfl (by decide) rfl xu_8 (by decide) rfl xw_266 rfl rfl ?_
          refine gm_getR (k' := 24) (pc := 84) (j := 2) X 5 dX8_best_84 rfl (by decide) rfl xu_5 (by decide) rfl xw_197 rfl rfl ?_
          refine gm_getI (pc := 87) (j := 3) X 3 dX8_best_87 rfl (by decide) rfl xu_3 (by decide) rfl xw_163 rfl ?_
          exact gm_iret (pc := 90) X hr hk dX8_best_90 (⟨by rw [show setB (xw1 (xw1 t (nl - 31) i1) (nl - 31) j1) R 24 3 = R.2.2.2 by simp [setB, xt], if_pos hall, if_pos hs_55_0], hoff⟩)
        by_cases hs_55_1 : w = nI 1
        · refine g_swIn (pc := 55) (tgt := 91) X 1 dX8_best_55 hs_55_1 (by decide) rfl (by decide) rfl (by decide) ?_
          refine g_aload_n (pc := 91) X dX8_best_91 rfl rfl ?_
          refine gm_getR (k' := 3) (pc := 92) (j := 1) X 8 dX8_best_92 rfl (by decide) rfl xu_8 (by decide) rfl xw_266 rfl rfl ?_
          refine gm_getR (k' := 24) (pc := 95) (j := 2) X 5 dX8_best_95 rfl (by decide) rfl xu_5 (by decide) rfl xw_197 rfl rfl ?_
          refine gm_getI (pc := 98) (j := 2) X 3 dX8_best_98 rfl (by decide) rfl xu_3 (by decide) rfl xw_158 rfl ?_
          exact gm_iret (pc := 101) X hr hk dX8_best_101 (⟨by rw [show setB (xw1 (xw1 t (nl - 31) i1) (nl - 31) j1) R 24 2 = R.2.2.1 by simp [setB, xt], if_pos hall, if_neg hs_55_0, if_pos hs_55_1], hoff⟩)
        by_cases hs_55_2 : w = nI 2
        · refine g_swIn (pc := 55) (tgt := 102) X 2 dX8_best_55 hs_55_2 (by decide) rfl (by decide) rfl (by decide) ?_
          refine g_aload_n (pc := 102) X dX8_best_102 rfl rfl ?_
          refine gm_getR (k' := 3) (pc := 103) (j := 1) X 8 dX8_best_103 rfl (by decide) rfl xu_8 (by decide) rfl xw_266 rfl rfl ?_
          refine gm_getR (k' := 24) (pc := 106) (j := 2) X 5 dX8_best_106 rfl (by decide) rfl xu_5 (by decide) rfl xw_197 rfl rfl ?_
          refine gm_getI (pc := 109) (j := 0) X 3 dX8_best_109 rfl (by decide) rfl xu_3 (by decide) rfl xw_151 rfl ?_
          exact gm_iret (pc := 112) X hr hk dX8_best_112 (⟨by rw [show setB (xw1 (xw1 t (nl - 31) i1) (nl - 31) j1) R 24 0 = R.1 by simp [setB, xt], if_pos hall, if_neg hs_55_0, if_neg hs_55_1, if_pos hs_55_2], hoff⟩)
        refine g_swOut (pc := 55) (tgt := 113) X 2 dX8_best_55 rfl rfl (by decide) (fun k hk => match k, hk with | 0, _ => hs_55_0 | 1, _ => hs_55_1 | 2, _ => hs_55_2 | k + 3, h => absurd h (by omega)) (by decide) ?_
        refine g_iconst (pc := 113) (v := (-1)) X dX8_best_113 (by decide) ?_
        exact gm_iret (pc := 114) X hr hk dX8_best_114 (⟨by rw [if_pos hall, if_neg hs_55_0, if_neg hs_55_1, if_neg hs_55_2], hoff⟩)
      · refine g_iconst (pc := 52) (v := (-1)) X dX8_best_52 (by decide) ?_
        exact gm_iret (pc := 53) X hr hk dX8_best_53 (⟨(if_neg (fun q9 => absurd q9.2.2 (bi_0 hc_49))).symm, hoff⟩)
    · refine g_iconst (pc := 22) (v := (-1)) X dX8_best_22 (by decide) ?_
      exact gm_iret (pc := 23) X hr hk dX8_best_23 (⟨(if_neg (fun q9 => bi_0 hc_19 q9.2.1)).symm, fun _ _ _ _ => rfl⟩)

abbrev ldJ (t : xT) (h : Int32) : Nat := (t 58 h.toNatClampNeg).toNatClampNeg
abbrev ldL (t : xT) (h f s : Int32) : Int32 := t 5 ((t (68 + ldJ t h) 2).toNatClampNeg + la (if h = t (68 + ldJ t h) 0 then 0 else 1) (spI f s))
theorem hb_in {a : Int32} {c : Nat} (hc : c < 16) : ((0 ≤ nI c ∧ nI c ≤ 15) ∧ (a >>> (nI c &&& 31)) &&& 1 = 1) ↔ hb a (nI c) = true := by
  unfold hb
  rw [decide_eq_true_eq]
  exact ⟨fun h => h.2, fun h => ⟨⟨nI_pos' (by omega), nI_le (a := c) (b := 15) (by omega) (by omega)⟩, h⟩⟩
set_option maxRecDepth 100000 in
set_option maxHeartbeats 4000000 in
theorem c_led (l : Launch) (G : xg_G) (O : Heap) (t : xT) (nl nh nj : Nat) (h f s0 : Int32) (hnl : nl ≤ 160) (h4 : t 4 1 = nI nl) (hlet : ∀ i, i < nl → ∃ c, c < 16 ∧ t 5 i = nI c) (hnh : nh ≤ 8) (h6 : t 6 1 = nI nh) (hnj : nj ≤ 8) (h5 : t 55 4 = nI nj) (h58 : ∀ h, h < 8 → t 58 h = -1 ∨ ∃ j p, j < nj ∧ t 58 h = nI j ∧ t (68 + j) 2 = nI p ∧ p + 32 ≤ nl) : xm l yX8_led cX8_led 7 (some .int) rmX8_led G O t [.ref (O.size + 0), .int h, .int f, .int s0] (xi (fun v t' => v = (if spP nh h f s0 ∧ ¬ t 58 h.toNatClampNeg = -1 then (if hb (t (60 + h.toNatClampNeg) (spI f s0)) (ldL t h f s0) = true then ldL t h f s0 else -1) else -1) ∧ t' = t)) := by
  refine xm_enter (by decide) 3 rfl rfl ?_
  intro p e s m args below meth c X hr hk
  refine g_eq (L2 := [some (.ref (O.size + 0)), some (.int h), some (.int f), some (.int s0), none, none, none]) rfl rfl rfl ?_
  refine g_aload_n (pc := 0) X dX8_led_0 rfl rfl ?_
  refine g_iload_n (pc := 1) X dX8_led_1 rfl rfl ?_
  refine g_iload_n (pc := 2) X dX8_led_2 rfl rfl ?_
  refine g_iload_n (pc := 3) X dX8_led_3 rfl rfl ?_
  refine gm_Vi (pc := 4) X 8 xc_X8_89 (c_isSpot l G O _ nh h f s0 hnh h6) dX8_led_4 rfl (by decide) rfl rfl rfl rfl (Nat.le_of_ble_eq_true rfl) (fun v_4 t_4 hp => ?_)
  obtain ⟨rfl, hq9⟩ := hp
  have hq9 := hq9.symm
  subst hq9
  refine g_if_eq (pc := 7) (tgt := 29) X dX8_led_7 (by decide) (fun hc_7 => ?_) (fun hc_7 => ?_)
  · refine g_iconst (pc := 29) (v := (-1)) X dX8_led_29 (by decide) ?_
    exact gm_iret (pc := 30) X hr hk dX8_led_30 (⟨(if_neg (fun q9 => bi_0 hc_7 q9.1)).symm, rfl⟩)
  · have hsp := bi_1 hc_7
    obtain ⟨k, a, b, hk1, ha, hb1, rfl, rfl, rfl⟩ := sp_of hnh hsp
    have eI : spI (nI a) (nI b) = 8 * a + b := by show 8 * (nI a).toNatClampNeg + (nI b).toNatClampNeg = _; rw [nI_clamp (by omega), nI_clamp (by omega)]
    rw [eI, nI_clamp (show k < 2 ^ 31 by omega)]
    refine g_aload_n (pc := 10) X dX8_led_10 rfl rfl ?_
    refine gm_getR (k' := 55) (pc := 11) (j := 5) X 8 dX8_led_11 rfl (by decide) rfl xu_8 (by decide) rfl xw_270 rfl rfl ?_
    refine g_aload_n (pc := 14) X dX8_led_14 rfl rfl ?_
    refine gm_getR (k' := 55) (pc := 15) (j := 5) X 8 dX8_led_15 rfl (by decide) rfl xu_8 (by decide) rfl xw_270 rfl rfl ?_
    refine gm_getR (k' := 58) (pc := 18) (j := 2) X 0 dX8_led_18 rfl (by decide) rfl xu_0 (by decide) rfl xw_249 rfl rfl ?_
    refine g_iload_n (pc := 21) X dX8_led_21 rfl rfl ?_
    refine gm_iald (pc := 22) X (k) dX8_led_22 rfl rfl (show k < 8 from by omega) (by decide) ?_
    refine gm_Vi (pc := 23) X 0 xc_X8_161 (c_bhas l G O _ nj _ hnj h5) dX8_led_23 rfl (by decide) rfl rfl rfl rfl (Nat.le_of_ble_eq_true rfl) (fun v_23 t_23 hp => ?_)
    obtain ⟨rfl, hq9⟩ := hp
    have hq9 := hq9.symm
    subst hq9
    refine g_if_ne (pc := 26) (tgt := 31) X dX8_led_26 (by decide) (fun hc_26 => ?_) (fun hc_26 => ?_)
    · have hin := bi_1 hc_26
      rcases h58 k (by omega) with q8 | ⟨j1, p1, hj1, e8, e9, hp1⟩
      · rw [q8] at hin; exact absurd hin.1 (by decide)
      have hj8 : j1 < 8 := by omega
      have hne : ¬ t 58 k = -1 := by rw [e8]; exact nI_nm1 j1 hj8
      have hL : ∀ q, q < 2 → ∃ c, c < 16 ∧ t 5 (p1 + la q (8 * a + b)) = nI c := fun q hq => hlet _ (by have := la_lt q hq (8 * a + b) (by omega); omega)
      have eJ : ldJ t (nI k) = j1 := by show (t 58 (nI k).toNatClampNeg).toNatClampNeg = j1; rw [nI_clamp (by omega), e8, nI_clamp (by omega)]
      have eP : ∃ q, q < 2 ∧ (if nI k = t (68 + j1) 0 then (0 : Int32) else 1) = nI q ∧ (if nI k = t (68 + j1) 0 then 0 else 1) = q := by
        by_cases q9 : nI k = t (68 + j1) 0
        · exact ⟨0, by decide, by rw [if_pos q9]; rfl, by rw [if_pos q9]⟩
        · exact ⟨1, by decide, by rw [if_neg q9]; rfl, by rw [if_neg q9]⟩
      obtain ⟨pq, hpq, eq1, eq2⟩ := eP
      obtain ⟨c1, hc1, ec1⟩ := hL pq hpq
      have eLd : ldL t (nI k) (nI a) (nI b) = nI c1 := by
        show t 5 ((t (68 + ldJ t (nI k)) 2).toNatClampNeg + la (if nI k = t (68 + ldJ t (nI k)) 0 then 0 else 1) (spI (nI a) (nI b))) = _
        rw [eJ, e9, nI_clamp (by omega), eq2, eI]; exact ec1
      rw [if_pos ⟨hsp, hne⟩, eLd]
      refine g_aload_n (pc := 31) X dX8_led_31 rfl rfl ?_
      refine gm_getR (k' := 55) (pc := 32) (j := 5) X 8 dX8_led_32 rfl (by decide) rfl xu_8 (by decide) rfl xw_270 rfl rfl ?_
      refine gm_getR (k' := 56) (pc := 35) (j := 0) X 0 dX8_led_35 rfl (by decide) rfl xu_0 (by decide) rfl xw_245 rfl rfl ?_
      refine g_aload_n (pc := 38) X dX8_led_38 rfl rfl ?_
      refine gm_getR (k' := 55) (pc := 39) (j := 5) X 8 dX8_led_39 rfl (by decide) rfl xu_8 (by decide) rfl xw_270 rfl rfl ?_
      refine gm_getR (k' := 58) (pc := 42) (j := 2) X 0 dX8_led_42 rfl (by decide) rfl xu_0 (by decide) rfl xw_249 rfl rfl ?_
      refine g_iload_n (pc := 45) X dX8_led_45 rfl rfl ?_
      refine gm_iald (pc := 46) X (k) dX8_led_46 rfl rfl (show k < 8 from by omega) (by decide) ?_
      refine gm_aald (pc := 47) (k' := (68 + j1)) X 13 (j1) (.object "UnderText$Leaf") dX8_led_47 rfl (by decide) (by decide) rfl rfl e8 (show j1 < 8 from by omega) (by decide) (kd_leaf j1 hj8).1 ?_
      refine g_astore (pc := 48) X dX8_led_48 (by decide) ?_
      refine g_iload_n (pc := 50) X dX8_led_50 rfl rfl ?_
      refine g_iload_n (pc := 51) X dX8_led_51 rfl rfl ?_
      refine gm_Si (pc := 52) X xc_X8_104 (c_spotIndex l G O _ _ _) dX8_led_52 rfl rfl rfl (Nat.le_of_ble_eq_true rfl) (fun v_52 t_52 hp => ?_)
      obtain ⟨rfl, hq9⟩ := hp
      have hq9 := hq9.symm
      subst hq9
      refine g_istore (pc := 55) X dX8_led_55 (by decide) ?_
      refine g_aload_n (pc := 57) X dX8_led_57 rfl rfl ?_
      refine gm_getR (k' := 4) (pc := 58) (j := 2) X 8 dX8_led_58 rfl (by decide) rfl xu_8 (by decide) rfl xw_267 rfl rfl ?_
      refine g_aload (pc := 61) X dX8_led_61 rfl ?_
      refine gm_getI (pc := 63) (j := 2) X 3 dX8_led_63 (kd_leaf j1 hj8).2 (by decide) rfl xu_3 (by decide) rfl xw_158 rfl ?_
      refine g_aload (pc := 66) X dX8_led_66 rfl ?_
      refine g_iload_n (pc := 68) X dX8_led_68 rfl rfl ?_
      refine gm_Vi (pc := 69) X 3 xc_X8_186 (c_partOf l G O _ (68 + j1) (nI k) (kd_leaf j1 hj8).2) dX8_led_69 (kd_leaf j1 hj8).2 (by decide) rfl rfl rfl rfl (Nat.le_of_ble_eq_true rfl) (fun v_69 t_69 hp => ?_)
      obtain ⟨rfl, hq9⟩ := hp
      have hq9 := hq9.symm
      subst hq9
      refine g_iload (pc := 72) X dX8_led_72 rfl ?_
      rw [eq1, idx8]
      refine gm_Si (pc := 74) X xc_X8_189 (c_lettersAhead l G O _ pq (8 * a + b) hpq (by omega)) dX8_led_74 rfl rfl rfl (Nat.le_of_ble_eq_true rfl) (fun v_74 t_74 hp => ?_)
      obtain ⟨rfl, hq9⟩ := hp
      have hq9 := hq9.symm
      subst hq9
      refine g_iadd (pc := 77) X dX8_led_77 ?_
      rw [e9, nI_add]
      refine gm_Vi (pc := 78) X 7 xc_X8_192 (c_letterAt l G O _ nl (p1 + la pq (8 * a + b)) hnl h4 (by have := la_lt pq hpq (8 * a + b) (by omega); omega)) dX8_led_78 rfl (by decide) rfl rfl rfl rfl (Nat.le_of_ble_eq_true rfl) (fun v_78 t_78 hp => ?_)
      obtain ⟨rfl, hq9⟩ := hp
      have hq9 := hq9.symm
      subst hq9
      rw [ec1]
      refine g_istore (pc := 81) X dX8_led_81 (by decide) ?_
      refine g_aload_n (pc := 83) X dX8_led_83 rfl rfl ?_
      refine gm_getR (k' := 55) (pc := 84) (j := 5) X 8 dX8_led_84 rfl (by decide) rfl xu_8 (by decide) rfl xw_270 rfl rfl ?_
      refine gm_getR (k' := 59) (pc := 87) (j := 3) X 0 dX8_led_87 rfl (by decide) rfl xu_0 (by decide) rfl xw_251 rfl rfl ?_
      refine g_iload_n (pc := 90) X dX8_led_90 rfl rfl ?_
      refine gm_aald (pc := 91) (k' := (60 + k)) X 11 (k) (.array .int) dX8_led_91 rfl (by decide) (by decide) rfl rfl rfl (show k < 8 from by omega) (by decide) (kd_was k (show k < 8 by omega)).1 ?_
      refine g_iload (pc := 92) X dX8_led_92 rfl ?_
      refine gm_iald (pc := 94) X (8 * a + b) dX8_led_94 (kd_was k (show k < 8 by omega)).2.1 rfl (by rw [(kd_was k (show k < 8 by omega)).2.2]; omega) (by rw [(kd_was k (show k < 8 by omega)).2.2]; decide) ?_
      refine g_iload (pc := 95) X dX8_led_95 rfl ?_
      refine gm_Si (pc := 97) X xc_X8_198 (c_hasLetter l G O _ _ _) dX8_led_97 rfl rfl rfl (Nat.le_of_ble_eq_true rfl) (fun v_97 t_97 hp => ?_)
      obtain ⟨rfl, hq9⟩ := hp
      have hq9 := hq9.symm
      subst hq9
      refine g_if_eq (pc := 100) (tgt := 108) X dX8_led_100 (by decide) (fun hc_100 => ?_) (fun hc_100 => ?_)
      · refine g_iconst (pc := 108) (v := (-1)) X dX8_led_108 (by decide) ?_
        exact gm_iret (pc := 109) X hr hk dX8_led_109 (⟨(if_neg (fun q9 => bi_0 hc_100 ((hb_in hc1).mpr q9))).symm, rfl⟩)
      · refine g_iload (pc := 103) X dX8_led_103 rfl ?_
        refine g_goto (pc := 105) (tgt := 109) X dX8_led_105 (by decide) ?_
        exact gm_iret (pc := 109) X hr hk dX8_led_109 (⟨(if_pos ((hb_in hc1).mp (bi_1 hc_100))).symm, rfl⟩)
    · refine g_iconst (pc := 29) (v := (-1)) X dX8_led_29 (by decide) ?_
      exact gm_iret (pc := 30) X hr hk dX8_led_30 (⟨(if_neg (fun q9 => by rcases h58 k (by omega) with q8 | ⟨j, p1, hj, e8, -⟩; exact q9.2 q8; exact bi_0 hc_26 (by rw [e8]; exact ⟨nI_pos' (by omega), nI_lt hj (by omega)⟩))).symm, rfl⟩)
end
section
/-! 07e: costs, least sums, join -/
theorem nm1 {k : Nat} (h : k < 2 ^ 31) : ¬ nI k = -1 := by
  rw [i_eq, nI_toInt h, i_m1]; omega
theorem qo_val (F : Nat → Nat → Int32) (g : Nat → Int32) (u : Option Nat) (q p : Nat) : ∃ x, x ≤ 16 ∧ qo F g u q p = nI x := by
  cases u with
  | none => exact ⟨0, by omega, nI_0.symm⟩
  | some k => exact ⟨_, qn_le _ _ _ _ 16, rfl⟩
theorem fQ_val (F : Nat → Nat → Int32) (g : Nat → Int32) (u v : Option Nat) (p : Nat) : ∃ x, x ≤ 32 ∧ fQ F g u v p = nI x := by
  obtain ⟨x, hx, ex⟩ := qo_val F g u 0 p
  obtain ⟨y, hy, ey⟩ := qo_val F g v 1 p
  exact ⟨x + y, by omega, by unfold fQ; rw [ex, ey, nI_add]⟩
/-- the quarrels of a best: none, or a small number -/
theorem bsg_q {pt sd rl : Nat → Int32} {F : Nat → Nat → Int32} {g : Nat → Int32} {pl x y : Nat} : (bsg pt sd rl (fQ F g) pl x y (-1, -1, -1, -1)).2.2.2 = -1 ∨ ∃ n, n ≤ 32 ∧ (bsg pt sd rl (fQ F g) pl x y (-1, -1, -1, -1)).2.2.2 = nI n := by
  by_cases h : (bsg pt sd rl (fQ F g) pl x y (-1, -1, -1, -1)).2.2.2 = -1
  · exact Or.inl h
  · obtain ⟨u, v, p, hp, e, -⟩ := bsg_form rfl h
    rw [e]
    exact Or.inr (fQ_val F g u v p)
theorem cst_val {b : B4} {pr : Nat} (hpr : pr ≤ 99) (h : b.2.2.2 = -1 ∨ ∃ n, n ≤ 32 ∧ b.2.2.2 = nI n) : (cst b (nI pr) = -1 ∧ b.2.2.2 = -1) ∨ ∃ c, c ≤ 131 ∧ cst b (nI pr) = nI c ∧ ¬ b.2.2.2 = -1 := by
  unfold cst
  rcases h with h | ⟨n, hn, h⟩
  · exact Or.inl ⟨if_pos h, h⟩
  · have : ¬ b.2.2.2 = -1 := by rw [h]; exact nm1 (by omega)
    exact Or.inr ⟨n + pr, by omega, by rw [if_neg this, h, nI_add], this⟩
theorem tw_some {u l : Int32} {f : Nat → Int32} {b : B4} : ∀ {n : Nat}, 0 < n → (∀ p, p < n → ¬ f p = -1) → ¬ (tw u l f n b).2.2.2 = -1
  | 0, h, _ => absurd h (Nat.lt_irrefl 0)
  | n + 1, _, hf => by
    rw [tw.eq_2]
    split
    · exact hf n (by omega)
    · rename_i q
      exact fun e => q (Or.inl e)
theorem tw_keep {u l : Int32} {f : Nat → Int32} {b : B4} (hb : ¬ b.2.2.2 = -1) : ∀ {n : Nat}, (∀ p, p < n → ¬ f p = -1) → ¬ (tw u l f n b).2.2.2 = -1
  | 0, _ => hb
  | n + 1, hf => tw_some (by omega) hf
/-- a half alone can always be a leaf -/
theorem bs_one {pt sd rl : Nat → Int32} {F : Nat → Nat → Int32} {g : Nat → Int32} {pl a : Nat} (hpl : 0 < pl) (hp : pt a = 0 ∨ pt a = 1 ∨ pt a = 2) : ¬ (bsg pt sd rl (fQ F g) pl (min a a) (max a a) (-1, -1, -1, -1)).2.2.2 = -1 := by
  have hf : ∀ u v : Option Nat, ∀ p, p < pl → ¬ fQ F g u v p = -1 := fun u v p _ => by
    obtain ⟨x, hx, e⟩ := fQ_val F g u v p
    rw [e]; exact nm1 (by omega)
  rw [Nat.min_self, Nat.max_self]
  unfold bsg
  rw [if_pos rfl]
  by_cases h1 : mayb pt (some a) 1 = true
  · unfold trg
    rw [if_pos (show (mayb pt none 0 && mayb pt (some a) 1) = true by rw [h1]; rfl)]
    exact tw_some hpl (hf _ _)
  · have h0 : mayb pt (some a) 0 = true := by
      unfold mayb at h1 ⊢
      rw [decide_eq_true_eq] at h1 ⊢
      rcases hp with e | e | e
      · exact Or.inl e
      · exact absurd (Or.inl e) h1
      · exact Or.inr e
    have e1 : ∀ b, trg pt (fQ F g) pl none (some a) b = b := fun b => by
      unfold trg
      rw [if_neg (show ¬ (mayb pt none 0 && mayb pt (some a) 1) = true by intro q; rw [Bool.and_eq_true] at q; exact h1 q.2)]
    rw [e1]
    unfold trg
    rw [if_pos (show (mayb pt (some a) 0 && mayb pt none 1) = true by rw [h0]; rfl)]
    exact tw_some hpl (hf _ _)
theorem fsb_lt {s n : Nat} (hn : n ≤ 8) (h0 : s ≠ 0) (hs : s < 2 ^ n) : fsb s < n := by
  have hp := pow_le n hn
  have hf := fsb_ok s (by omega) h0
  rcases Nat.lt_or_ge (fsb s) n with q | q
  · exact q
  · exact absurd hf.2.1 (by rw [Nat.testBit_lt_two_pow (Nat.lt_of_lt_of_le hs (Nat.pow_le_pow_right (by decide) q))]; decide)
/-- where the least sum stands: none can be, or the first mate of the least -/
theorem sst_inv {C T : Nat → Int32} {s f : Nat} : ∀ {m : Nat}, (∀ j, f ≤ j → j < m → s.testBit j = true → ¬ C j = -1 → ¬ C j + T (wo s f j) = -1) →
    (sst C T s f m (-1, -1) = (-1, -1) ∧ ∀ j, f ≤ j → j < m → s.testBit j = true → C j = -1) ∨
    ∃ b, f ≤ b ∧ b < m ∧ s.testBit b = true ∧ ¬ C b = -1 ∧ sst C T s f m (-1, -1) = (C b + T (wo s f b), nI b) ∧ (∀ j, f ≤ j → j < m → s.testBit j = true → ¬ C j = -1 → C b + T (wo s f b) ≤ C j + T (wo s f j)) ∧ (∀ j, f ≤ j → j < b → s.testBit j = true → ¬ C j = -1 → C b + T (wo s f b) < C j + T (wo s f j))
  | 0, _ => Or.inl ⟨rfl, fun j _ h => absurd h (Nat.not_lt_zero j)⟩
  | m + 1, hS => by
    have ih := sst_inv (C := C) (T := T) (s := s) (f := f) (m := m) (fun j a b => hS j a (by omega))
    rw [sst.eq_2]
    by_cases q : f ≤ m ∧ s.testBit m = true ∧ ¬ C m = -1
    · rw [if_pos q]
      rcases ih with ⟨e, hno⟩ | ⟨b, hb1, hb2, hb3, hb4, e, hle, hlt⟩
      · rw [e, if_pos (Or.inl rfl)]
        refine Or.inr ⟨m, q.1, by omega, q.2.1, q.2.2, rfl, fun j a c d e2 => ?_, fun j a c d e2 => absurd (hno j a c d) e2⟩
        by_cases r : j = m
        · rw [r]; exact Int32.le_refl _
        · exact absurd (hno j a (by omega) d) e2
      · rw [e]
        by_cases q2 : C m + T (wo s f m) < C b + T (wo s f b)
        · rw [if_pos (Or.inr q2)]
          refine Or.inr ⟨m, q.1, by omega, q.2.1, q.2.2, rfl, fun j a c d e2 => ?_, fun j a c d e2 => ?_⟩
          · by_cases r : j = m
            · rw [r]; exact Int32.le_refl _
            · have := hle j a (by omega) d e2
              rw [i_le] at this ⊢; rw [i_lt] at q2; omega
          · have := hle j a c d e2
            rw [i_le] at this; rw [i_lt] at q2 ⊢; omega
        · rw [if_neg (by rintro (r | r); exact hS b hb1 (by omega) hb3 hb4 r; exact q2 r)]
          refine Or.inr ⟨b, hb1, by omega, hb3, hb4, rfl, fun j a c d e2 => ?_, hlt⟩
          by_cases r : j = m
          · rw [r]; exact k2_le q2
          · exact hle j a (by omega) d e2
    · rw [if_neg q]
      rcases ih with ⟨e, hno⟩ | ⟨b, hb1, hb2, hb3, hb4, e, hle, hlt⟩
      · refine Or.inl ⟨e, fun j a c d => ?_⟩
        by_cases r : j = m
        · subst r
          by_cases z : C j = -1
          · exact z
          · exact absurd ⟨a, d, z⟩ q
        · exact hno j a (by omega) d
      · refine Or.inr ⟨b, hb1, by omega, hb3, hb4, e, fun j a c d e2 => ?_, hlt⟩
        by_cases r : j = m
        · subst r; exact absurd ⟨a, d, e2⟩ q
        · exact hle j a (by omega) d e2
def costOK (C : Nat → Nat → Int32) (n : Nat) : Prop := (∀ a b, a ≤ b → b < n → C a b = -1 ∨ ∃ c, c ≤ 131 ∧ C a b = nI c) ∧ ∀ a, a < n → ¬ C a a = -1
/-- the mate of the first half of a set -/
def mtf (C : Nat → Nat → Int32) (n s : Nat) : Nat := (dm C n s).2.toNatClampNeg
/-- least sums are small numbers; mates -/
theorem dp_all {C : Nat → Nat → Int32} {n : Nat} (hn : n ≤ 8) (hC : costOK C n) : ∀ s, s < 2 ^ n → (∃ d, d ≤ 131 * s ∧ dp C n s = nI d) ∧ (s ≠ 0 → (dm C n s).2 = nI (mtf C n s) ∧ fsb s ≤ mtf C n s ∧ mtf C n s < n ∧ s.testBit (mtf C n s) = true ∧ ¬ C (fsb s) (mtf C n s) = -1 ∧ dp C n s = C (fsb s) (mtf C n s) + dp C n (wo s (fsb s) (mtf C n s)) ∧
    (∀ j, fsb s ≤ j → j < n → s.testBit j = true → ¬ C (fsb s) j = -1 → dp C n s ≤ C (fsb s) j + dp C n (wo s (fsb s) j)) ∧ (∀ j, fsb s ≤ j → j < mtf C n s → s.testBit j = true → ¬ C (fsb s) j = -1 → dp C n s < C (fsb s) j + dp C n (wo s (fsb s) j))) := by
  have hp := pow_le n hn
  intro s
  induction s using Nat.strongRecOn with
  | _ s ih =>
    intro hs
    by_cases h0 : s = 0
    · subst h0
      exact ⟨⟨0, by omega, by rw [dp_0, nI_0]⟩, fun q => absurd rfl q⟩
    · have hf := fsb_ok s (by omega) h0
      have hfn := fsb_lt hn h0 hs
      have hval : ∀ j, fsb s ≤ j → j < n → s.testBit j = true → ¬ C (fsb s) j = -1 → ∃ c d, c ≤ 131 ∧ d ≤ 131 * (s - 1) ∧ C (fsb s) j = nI c ∧ dp C n (wo s (fsb s) j) = nI d := by
        intro j h1 h2 h3 h4
        have hlt := wo_lt (s := s) (b := j) hf.1 (by omega) hf.2.1
        obtain ⟨⟨d, hd, ed⟩, -⟩ := ih _ hlt (by omega)
        rcases hC.1 (fsb s) j h1 h2 with q | ⟨c, hc, ec⟩
        · exact absurd q h4
        · exact ⟨c, d, hc, by omega, ec, ed⟩
      have hne : ∀ j, fsb s ≤ j → j < n → s.testBit j = true → ¬ C (fsb s) j = -1 → ¬ C (fsb s) j + dp C n (wo s (fsb s) j) = -1 := by
        intro j h1 h2 h3 h4
        obtain ⟨c, d, hc, hd, ec, ed⟩ := hval j h1 h2 h3 h4
        rw [ec, ed, nI_add]; exact nm1 (by omega)
      rcases sst_inv (C := C (fsb s)) (T := dp C n) (s := s) (f := fsb s) (m := n) hne with ⟨-, hno⟩ | ⟨b, hb1, hb2, hb3, hb4, e, hle, hlt⟩
      · exact absurd (hno (fsb s) (Nat.le_refl _) hfn hf.2.1) (hC.2 _ hfn)
      · have e2 : dm C n s = (C (fsb s) b + dp C n (wo s (fsb s) b), nI b) := e
        have em : mtf C n s = b := by unfold mtf; rw [e2]; exact nI_clamp (by omega)
        have e1 : dp C n s = C (fsb s) b + dp C n (wo s (fsb s) b) := by rw [dp_dm C (by omega) h0 hn, e2]
        obtain ⟨c, d, hc, hd, ec, ed⟩ := hval b hb1 hb2 hb3 hb4
        refine ⟨⟨c + d, by omega, by rw [e1, ec, ed, nI_add]⟩, fun _ => ?_⟩
        rw [em]
        exact ⟨by rw [e2], hb1, hb2, hb3, hb4, e1, fun j a b1 c1 d1 => by rw [e1]; exact hle j a b1 c1 d1, fun j a b1 c1 d1 => by rw [e1]; exact hlt j a b1 c1 d1⟩
theorem dp_cong {C D : Nat → Nat → Int32} {n : Nat} (hn : n ≤ 8) (h : ∀ a b, a ≤ b → b < n → C a b = D a b) : ∀ s, s < 2 ^ n → dp C n s = dp D n s ∧ dm C n s = dm D n s := by
  have hp := pow_le n hn
  intro s
  induction s using Nat.strongRecOn with
  | _ s ih =>
    intro hs
    by_cases h0 : s = 0
    · subst h0
      refine ⟨by rw [dp_0, dp_0], ?_⟩
      have e : fsb 0 = 8 := by decide
      unfold dm
      rw [e, sst_low (by omega), sst_low (by omega)]
    · have hf := fsb_ok s (by omega) h0
      have e : dm C n s = dm D n s := sst_cong (fun j a b => h _ j a b) (fun j a b c => (ih _ (wo_lt hf.1 (by omega) hf.2.1) (by have := wo_le s (fsb s) j; omega)).1)
      exact ⟨by rw [dp_dm C (by omega) h0 hn, dp_dm D (by omega) h0 hn, e], e⟩
/-- costs of the halves of a state -/
abbrev CQ (t : xT) (pl pr : Nat) : Nat → Nat → Int32 := fun a b => cst (bsQ t pl a b) (nI pr)
theorem CQ_ok {t : xT} {pl pr n : Nat} (hpr : pr ≤ 99) (hpl : 0 < pl) (hpt : ∀ a, a < n → t (8 + 2 * a) 0 = 0 ∨ t (8 + 2 * a) 0 = 1 ∨ t (8 + 2 * a) 0 = 2) : costOK (CQ t pl pr) n ∧ ∀ a b, ¬ CQ t pl pr a b = -1 → ¬ (bsQ t pl a b).2.2.2 = -1 := by
  refine ⟨⟨fun a b _ _ => ?_, fun a ha => ?_⟩, fun a b h => ?_⟩
  · rcases cst_val (b := bsQ t pl a b) hpr bsg_q with h | ⟨c, hc, e, -⟩
    · exact Or.inl h.1
    · exact Or.inr ⟨c, hc, e⟩
  · rcases cst_val (b := bsQ t pl a a) hpr bsg_q with h | ⟨c, hc, e, -⟩
    · exact absurd h.2 (bs_one hpl (hpt a ha))
    · rw [show CQ t pl pr a a = nI c from e]; exact nm1 (by omega)
  · rcases cst_val (b := bsQ t pl a b) hpr bsg_q with q | ⟨c, hc, e, q⟩
    · exact absurd q.1 h
    · exact q
abbrev manyQ (t : xT) (pl : Nat) (R : B4) : Int32 := nI (cn (fQ (lsC t) (t 5) (uo R.1) (uo R.2.1)) R.2.2.2 pl)
def lfQ (t t1 : xT) (pl j : Nat) (R : B4) : Prop := t1 (68 + j) 0 = R.1 ∧ t1 (68 + j) 1 = R.2.1 ∧ t1 (68 + j) 2 = R.2.2.1 ∧ t1 (68 + j) 3 = R.2.2.2 ∧ t1 (68 + j) 4 = manyQ t pl R ∧ t1 (68 + j) 5 = nI pl ∧ t1 (68 + j) 6 = frtC t R
abbrev lvQ (t : xT) (pl : Nat) (mt : Nat → Nat) (w j : Nat) : B4 := bsQ t pl (fsb (lfs mt w j)) (mt (lfs mt w j))
/-- what join leaves of the class -/
def jnE (t t1 : xT) (pl nh : Nat) (mt : Nat → Nat) (w k : Nat) : Prop :=
  t1 55 4 = nI k ∧ (∀ j, j < k → lfQ t t1 pl j (lvQ t pl mt w j)) ∧ (∀ j, j < k → t1 58 (fsb (lfs mt w j)) = nI j ∧ t1 58 (mt (lfs mt w j)) = nI j) ∧
  (∀ h, h < 8 → (∀ j, j < k → h ≠ fsb (lfs mt w j) ∧ h ≠ mt (lfs mt w j)) → t1 58 h = -1) ∧ (∀ i, i < k → t1 57 i = oi (fun v => (lvQ t pl mt w v.toNatClampNeg).2.2.1) k (fun _ => 0) i) ∧
  (∀ h, h < nh → ∀ y, y < 16 → t1 (60 + h) y = t (9 + 2 * h) y) ∧ ∀ x y, (x < 24 ∨ x = 42 ∨ 76 ≤ x) → t1 x y = t x y
set_option maxRecDepth 100000 in
set_option maxHeartbeats 4000000 in
theorem c_join (l : Launch) (G : xg_G) (O : Heap) (t : xT) (nl nh pr : Nat) (hnl : nl ≤ 160) (h4 : t 4 1 = nI nl) (hlet : ∀ i, i < nl → ∃ c, c < 16 ∧ t 5 i = nI c) (hnh : nh ≤ 8) (h6 : t 6 1 = nI nh) (h42 : ∀ p, p < 129 → t 42 p = 0) (hpr : pr ≤ 99) (h7 : t 0 7 = nI pr) (hpt : ∀ a, a < nh → t (8 + 2 * a) 0 = 0 ∨ t (8 + 2 * a) 0 = 1 ∨ t (8 + 2 * a) 0 = 2) : xm l yX8_join cX8_join 1 (some .int) rmX8_join G O t [.ref (O.size + 0)] (xi (fun v t' => (¬ (nh ≠ 0 ∧ 32 ≤ nl) → v = -1 ∧ t' = t) ∧ (nh ≠ 0 → 32 ≤ nl → v = dp (CQ t (nl - 31) pr) nh (2 ^ nh - 1) ∧ ∃ k, k ≤ 8 ∧ lfs (mtf (CQ t (nl - 31) pr) nh) (2 ^ nh - 1) k = 0 ∧ (∀ j, j < k → lfs (mtf (CQ t (nl - 31) pr) nh) (2 ^ nh - 1) j ≠ 0) ∧ jnE t t' (nl - 31) nh (mtf (CQ t (nl - 31) pr) nh) (2 ^ nh - 1) k))) := by
  refine xm_enter (by decide) 0 rfl rfl ?_
  intro p e s m args below meth c X hr hk
  refine g_eq (L2 := [some (.ref (O.size + 0))]) rfl rfl rfl ?_
  refine g_aload_n (pc := 0) X dX8_join_0 rfl rfl ?_
  refine gm_getR (k' := 6) (pc := 1) (j := 3) X 8 dX8_join_1 rfl (by decide) rfl xu_8 (by decide) rfl xw_268 rfl rfl ?_
  refine gm_getI (pc := 4) (j := 1) X 2 dX8_join_4 rfl (by decide) rfl xu_2 (by decide) rfl xw_138 rfl ?_
  refine g_if_eq (pc := 7) (tgt := 20) X dX8_join_7 (by decide) (fun hc_7 => ?_) (fun hc_7 => ?_)
  · refine g_iconst (pc := 20) (v := (-1)) X dX8_join_20 (by decide) ?_
    exact gm_iret (pc := 21) X hr hk dX8_join_21 (⟨fun _ => ⟨rfl, rfl⟩, fun q => absurd (by rw [h6] at hc_7; rcases Nat.eq_zero_or_pos nh with z | z; exact z; exact absurd hc_7 (nI_ne0 z (by omega))) q⟩)
  · refine g_aload_n (pc := 10) X dX8_join_10 rfl rfl ?_
    refine gm_getR (k' := 4) (pc := 11) (j := 2) X 8 dX8_join_11 rfl (by decide) rfl xu_8 (by decide) rfl xw_267 rfl rfl ?_
    refine gm_Vi (pc := 14) X 7 xc_X8_118 (c_places l G O _ nl hnl h4) dX8_join_14 rfl (by decide) rfl rfl rfl rfl (Nat.le_of_ble_eq_true rfl) (fun v_14 t_14 hp => ?_)
    obtain ⟨rfl, hq9⟩ := hp
    have hq9 := hq9.symm
    subst hq9
    refine g_if_ne (pc := 17) (tgt := 22) X dX8_join_17 (by decide) (fun hc_17 => ?_) (fun hc_17 => ?_)
    · have hn0 : nh ≠ 0 := fun q => hc_7 (by rw [h6, q, nI_0])
      have hl32 : 32 ≤ nl := by rcases Nat.lt_or_ge nl 32 with q | q; exact absurd (by rw [show nl - 31 = 0 by omega, nI_0]) hc_17; exact q
      have hpw := pow_le nh hnh
      obtain ⟨hC, hCq⟩ := CQ_ok (t := t) (pl := nl - 31) (pr := pr) (n := nh) hpr (by omega) hpt
      have hall := dp_all hnh hC
      generalize hTe : xwa t (nl - 31) nh = T
      have eT : ∀ x y, (x < 26 ∨ 42 ≤ x) → T x y = t x y := fun x y q => by rw [← hTe, xwa_ne t (by omega)]
      have eR : ∀ k, k < nh → ∀ q, q < 2 → ∀ p, p < nl - 31 → T (26 + (2 * k + q)) p = nI (qn (t (9 + 2 * k)) (t 5) q p 16) := fun k hk1 q hq p hp1 => by rw [← hTe]; exact xwa_row t hq (by omega) hp1 hk1 hnh
      have eB : ∀ a b, a < nh → b < nh → bsC T (nl - 31) a b = bsQ t (nl - 31) a b := fun a b ha hb => bsC_Q (fun x y q => eT x y (by omega)) (fun p hp1 => by rw [eT 42 p (by omega)]; exact h42 p (by omega)) (by omega) (by omega) (fun k hk1 => eR k (by omega))
      have eD := dp_cong (C := CC T (nl - 31) (nI pr)) (D := CQ t (nl - 31) pr) hnh (fun a b h1 h2 => by show cst (bsC T (nl - 31) a b) (nI pr) = cst (bsQ t (nl - 31) a b) (nI pr); rw [eB a b (by omega) h2])
      refine g_aload_n (pc := 22) X dX8_join_22 rfl rfl ?_
      refine gm_getR (k' := 3) (pc := 23) (j := 1) X 8 dX8_join_23 rfl (by decide) rfl xu_8 (by decide) rfl xw_266 rfl rfl ?_
      refine gm_Vv (pc := 26) X 5 xc_X8_147 (c_weighAll l G O _ nl nh hnl h4 hlet hnh h6) dX8_join_26 rfl (by decide) rfl rfl rfl rfl (Nat.le_of_ble_eq_true rfl) (fun t_26 hp => ?_)
      rw [hTe] at hp
      have hp := hp.symm
      subst hp
      refine g_aload_n (pc := 29) X dX8_join_29 rfl rfl ?_
      refine gm_getR (k' := 43) (pc := 30) (j := 4) X 8 dX8_join_30 rfl (by decide) rfl xu_8 (by decide) rfl xw_269 rfl rfl ?_
      refine g_aload_n (pc := 33) X dX8_join_33 rfl rfl ?_
      refine gm_getR (k' := 3) (pc := 34) (j := 1) X 8 dX8_join_34 rfl (by decide) rfl xu_8 (by decide) rfl xw_266 rfl rfl ?_
      refine g_aload_n (pc := 37) X dX8_join_37 rfl rfl ?_
      refine gm_getR (k' := 6) (pc := 38) (j := 3) X 8 dX8_join_38 rfl (by decide) rfl xu_8 (by decide) rfl xw_268 rfl rfl ?_
      refine gm_getI (pc := 41) (j := 1) X 2 dX8_join_41 rfl (by decide) rfl xu_2 (by decide) rfl xw_138 rfl ?_
      refine g_aload_n (pc := 44) X dX8_join_44 rfl rfl ?_
      refine gm_getI (pc := 45) (j := 7) X 8 dX8_join_45 rfl (by decide) rfl xu_8 (by decide) rfl xw_272 rfl ?_
      rw [eT 6 1 (by omega), h6, eT 0 7 (by omega), h7]
      refine gm_Vv (pc := 48) X 4 xc_X8_150 (c_settle l G O _ nl nh (nI pr) hnl (by rw [eT 4 1 (by omega)]; exact h4) hnh (by rw [eT 6 1 (by omega)]; exact h6)) dX8_join_48 rfl (by decide) rfl rfl rfl rfl (Nat.le_of_ble_eq_true rfl) (fun t_48 hp => ?_)
      obtain ⟨s1, s2, s3, s4⟩ := hp
      generalize t_48 = T1 at *
      have sB : ∀ a b, a < nh → b < nh → bsC T1 (nl - 31) a b = bsQ t (nl - 31) a b := fun a b ha hb => by rw [bsC_cong (t := T) (fun x y q => s4 x y (by omega) (by omega) (by omega)) (by omega) (by omega)]; exact eB a b ha hb
      have hm : mtOK (mtf (CQ t (nl - 31) pr) nh) nh (2 ^ nh) := fun s h0 h1 => by
        obtain ⟨-, q2⟩ := hall s h1
        have := q2 (by omega)
        exact ⟨this.2.2.1, this.2.2.2.1⟩
      have hmt : ∀ s, 0 < s → s < 2 ^ nh → T1 54 s = nI (mtf (CQ t (nl - 31) pr) nh s) ∧ ¬ (bsC T1 (nl - 31) (fsb s) (mtf (CQ t (nl - 31) pr) nh s)).2.2.2 = -1 := fun s h0 h1 => by
        obtain ⟨⟨d, hd, ed⟩, q2⟩ := hall s h1
        have q2 := q2 (by omega)
        have e1 := eD s h1
        refine ⟨?_, ?_⟩
        · rw [s3 s h0 h1 (by rw [e1.1, ed]; exact nm1 (by omega)), e1.2]; exact q2.1
        · rw [sB _ _ (fsb_lt hnh (by omega) h1) q2.2.2.1]; exact hCq _ _ q2.2.2.2.2.1
      refine g_aload_n (pc := 51) X dX8_join_51 rfl rfl ?_
      refine gm_getR (k' := 55) (pc := 52) (j := 5) X 8 dX8_join_52 rfl (by decide) rfl xu_8 (by decide) rfl xw_270 rfl rfl ?_
      refine g_aload_n (pc := 55) X dX8_join_55 rfl rfl ?_
      refine gm_getR (k' := 3) (pc := 56) (j := 1) X 8 dX8_join_56 rfl (by decide) rfl xu_8 (by decide) rfl xw_266 rfl rfl ?_
      refine g_aload_n (pc := 59) X dX8_join_59 rfl rfl ?_
      refine gm_getR (k' := 43) (pc := 60) (j := 4) X 8 dX8_join_60 rfl (by decide) rfl xu_8 (by decide) rfl xw_269 rfl rfl ?_
      refine g_aload_n (pc := 63) X dX8_join_63 rfl rfl ?_
      refine gm_getR (k' := 6) (pc := 64) (j := 3) X 8 dX8_join_64 rfl (by decide) rfl xu_8 (by decide) rfl xw_268 rfl rfl ?_
      refine gm_Vv (pc := 67) X 0 xc_X8_154 (c_keep l G O _ nl nh (mtf (CQ t (nl - 31) pr) nh) hnl (by rw [s4 4 1 (by decide) (by decide) (by decide), eT 4 1 (by omega)]; exact h4) hnh (by rw [s4 6 1 (by decide) (by decide) (by decide), eT 6 1 (by omega)]; exact h6) s1 hm hmt) dX8_join_67 rfl (by decide) rfl rfl rfl rfl (Nat.le_of_ble_eq_true rfl) (fun t_67 hp => ?_)
      obtain ⟨k, hk8, hz, h0, p1, p2, p3, p4, p5, p6, p7⟩ := hp
      generalize t_67 = T2 at *
      refine g_aload_n (pc := 70) X dX8_join_70 rfl rfl ?_
      refine gm_getR (k' := 43) (pc := 71) (j := 4) X 8 dX8_join_71 rfl (by decide) rfl xu_8 (by decide) rfl xw_269 rfl rfl ?_
      refine gm_Vi (pc := 74) X 4 xc_X8_158 (c_sum l G O _ (2 ^ nh - 1) (by omega) (by rw [p7 43 3 (by decide) (by decide) (by decide) (by decide) (by decide)]; exact s1)) dX8_join_74 rfl (by decide) rfl rfl rfl rfl (Nat.le_of_ble_eq_true rfl) (fun v_74 t_74 hp => ?_)
      obtain ⟨rfl, hq9⟩ := hp
      have hq9 := hq9.symm
      subst hq9
      refine gm_iret (pc := 77) X hr hk dX8_join_77 (⟨fun q => absurd ⟨hn0, hl32⟩ q, fun _ _ => ⟨by rw [p7 53 _ (by decide) (by decide) (by decide) (by decide) (by decide), s2 _ (by omega), (eD _ (by omega)).1], k, hk8, hz, h0, ?_⟩⟩)
      have hle := lfs_le (mtf (CQ t (nl - 31) pr) nh) (2 ^ nh - 1)
      have hfj : ∀ j, j < k → fsb (lfs (mtf (CQ t (nl - 31) pr) nh) (2 ^ nh - 1) j) < nh ∧ mtf (CQ t (nl - 31) pr) nh (lfs (mtf (CQ t (nl - 31) pr) nh) (2 ^ nh - 1) j) < nh := fun j hj => by
        have := hle j
        exact ⟨fsb_lt hnh (h0 j hj) (by omega), (hm _ (Nat.pos_of_ne_zero (h0 j hj)) (by omega)).1⟩
      have eV : ∀ j, j < k → lvR T1 (nl - 31) (mtf (CQ t (nl - 31) pr) nh) (2 ^ nh - 1) j = lvQ t (nl - 31) (mtf (CQ t (nl - 31) pr) nh) (2 ^ nh - 1) j := fun j hj => sB _ _ (hfj j hj).1 (hfj j hj).2
      refine ⟨p1, fun j hj => ?_, p3, p4, fun i hi => ?_, fun h hh y hy => ?_, fun x y hx => ?_⟩
      · have a := p2 j hj
        rw [eV j hj] at a
        have hne : ¬ (lvQ t (nl - 31) (mtf (CQ t (nl - 31) pr) nh) (2 ^ nh - 1) j).2.2.2 = -1 := by
          have := hle j
          rw [← eV j hj]; exact (hmt _ (Nat.pos_of_ne_zero (h0 j hj)) (by omega)).2
        obtain ⟨u, v, pp, hpp, eRR, hu, hv, huv⟩ := bs_uv (c := (-1, -1, -1, -1)) rfl (hfj j hj).1 (hfj j hj).2 hnh hne
        have eR2 : lvQ t (nl - 31) (mtf (CQ t (nl - 31) pr) nh) (2 ^ nh - 1) j = (ov u, ov v, nI pp, fQ (lsC t) (t 5) u v pp) := eRR
        have hu8 : ∀ k, u = some k → k < 8 := fun k h => by have := hu k h; omega
        have hv8 : ∀ k, v = some k → k < 8 := fun k h => by have := hv k h; omega
        unfold lfAt at a
        unfold lfQ
        generalize lvQ t (nl - 31) (mtf (CQ t (nl - 31) pr) nh) (2 ^ nh - 1) j = R at *
        have uu : uo R.1 = u := by rw [eR2]; exact uo_ov hu8
        have vv : uo R.2.1 = v := by rw [eR2]; exact uo_ov hv8
        have hmx : mx u v < 8 := by
          rcases (ov_max hu8 hv8 huv).2 with q | q
          · exact hu8 _ q
          · exact hv8 _ q
        have f1 : manyC T1 (nl - 31) R = manyQ t (nl - 31) R := by
          show nI (cn (fC T1 (uo R.1) (uo R.2.1)) _ _) = nI (cn (fQ (lsC t) (t 5) (uo R.1) (uo R.2.1)) _ _)
          rw [uu, vv]
          refine congrArg nI (cn_cong (fun p hp1 => ?_))
          rw [fC_cong (t := T) (fun x y q => s4 x y (by omega) (by omega) (by omega)) hu8 hv8]
          have e1 : ∀ (w : Option Nat) (q : Nat), q < 2 → (∀ k, w = some k → k < nh) → T (rcell w q) p = qo (lsC t) (t 5) w q p := by
            intro w q hq hw
            cases w with
            | none => show T 42 p = 0; rw [eT 42 p (by omega)]; exact h42 p (by omega)
            | some k => exact eR k (hw k rfl) q hq p hp1
          show T (rcell u 0) p + T (rcell v 1) p = _
          rw [e1 u 0 (by decide) hu, e1 v 1 (by decide) hv]; rfl
        have f2 : frtC T1 R = frtC t R := by
          show T1 (8 + 2 * mx (uo R.1) (uo R.2.1)) 1 = t (8 + 2 * mx (uo R.1) (uo R.2.1)) 1
          rw [uu, vv, s4 _ _ (by omega) (by omega) (by omega), eT _ _ (by omega)]
        rw [f1, f2] at a
        exact a
      · rw [p5 i hi]
        refine oi_cong (fun j hj => ?_) i hi
        show (lvR T1 _ _ _ (nI j).toNatClampNeg).2.2.1 = (lvQ t _ _ _ (nI j).toNatClampNeg).2.2.1
        rw [nI_clamp (by omega), eV j hj]
      · rw [p6 h hh y hy, s4 _ _ (by omega) (by omega) (by omega), eT _ _ (by omega)]
      · rw [p7 x y (by omega) (by omega) (by omega) (by omega) (by omega), s4 x y (by omega) (by omega) (by omega), eT x y (by omega)]
    · refine g_iconst (pc := 20) (v := (-1)) X dX8_join_20 (by decide) ?_
      exact gm_iret (pc := 21) X hr hk dX8_join_21 (⟨fun _ => ⟨rfl, rfl⟩, fun _ q => absurd hc_17 (nI_ne0 (by omega) (by omega))⟩)
end
