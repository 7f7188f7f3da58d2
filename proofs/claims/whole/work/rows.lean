section
-- ===== PART A: goes FIRST, ahead of the names: the tables' words, and 'selects' of the private methods out of them =====
/-- a private method of a class that the tables say can be made, by its rows of tables_1 -/
def lw_okq (q : MethodName × Nat) : Prop := (q.1.cls ≠ "java/lang/invoke/MethodHandle" ∧ q.1.cls ≠ "java/lang/invoke/VarHandle") ∧ Cond.instantiable q.1.cls q.2 ∈ tables_1 ∧ Cond.privateMethod q.1 ∈ tables_1 ∧ Cond.instanceMethod q.1 ∈ tables_1
theorem lw_p0 : lw_okq (⟨"ObjectStreams", "itemOf", "(I)LObjectStreams$Item;"⟩, 10) := ⟨⟨by decide +kernel, by decide +kernel⟩, List.mem_of_getElem? (i := 12) (by decide +kernel), List.mem_of_getElem? (i := 100) (by decide +kernel), List.mem_of_getElem? (i := 101) (by decide +kernel)⟩
theorem lw_p1 : lw_okq (⟨"ObjectStreams", "plan", "(I)I"⟩, 10) := ⟨⟨by decide +kernel, by decide +kernel⟩, List.mem_of_getElem? (i := 12) (by decide +kernel), List.mem_of_getElem? (i := 161) (by decide +kernel), List.mem_of_getElem? (i := 162) (by decide +kernel)⟩
theorem lw_p2 : lw_okq (⟨"ObjectStreams", "nextBehind", "(LObjectStreams$Item;)LObjectStreams$Item;"⟩, 10) := ⟨⟨by decide +kernel, by decide +kernel⟩, List.mem_of_getElem? (i := 12) (by decide +kernel), List.mem_of_getElem? (i := 165) (by decide +kernel), List.mem_of_getElem? (i := 166) (by decide +kernel)⟩
theorem lw_p3 : lw_okq (⟨"ObjectStreams", "planPack", "(LObjectStreams$Item;I)V"⟩, 10) := ⟨⟨by decide +kernel, by decide +kernel⟩, List.mem_of_getElem? (i := 12) (by decide +kernel), List.mem_of_getElem? (i := 180) (by decide +kernel), List.mem_of_getElem? (i := 181) (by decide +kernel)⟩
theorem lw_p4 : lw_okq (⟨"ObjectStreams", "writePack", "(II)V"⟩, 10) := ⟨⟨by decide +kernel, by decide +kernel⟩, List.mem_of_getElem? (i := 12) (by decide +kernel), List.mem_of_getElem? (i := 184) (by decide +kernel), List.mem_of_getElem? (i := 185) (by decide +kernel)⟩
theorem lw_p5 : lw_okq (⟨"ObjectStreams", "newPack", "(II)LObjectStreams$Pack;"⟩, 10) := ⟨⟨by decide +kernel, by decide +kernel⟩, List.mem_of_getElem? (i := 12) (by decide +kernel), List.mem_of_getElem? (i := 188) (by decide +kernel), List.mem_of_getElem? (i := 189) (by decide +kernel)⟩
theorem lw_p6 : lw_okq (⟨"ObjectStreams", "writePairs", "(LObjectStreams$Pack;II)V"⟩, 10) := ⟨⟨by decide +kernel, by decide +kernel⟩, List.mem_of_getElem? (i := 12) (by decide +kernel), List.mem_of_getElem? (i := 220) (by decide +kernel), List.mem_of_getElem? (i := 221) (by decide +kernel)⟩
theorem lw_p7 : lw_okq (⟨"ObjectStreams", "planned", "(I)LObjectStreams$Item;"⟩, 10) := ⟨⟨by decide +kernel, by decide +kernel⟩, List.mem_of_getElem? (i := 12) (by decide +kernel), List.mem_of_getElem? (i := 224) (by decide +kernel), List.mem_of_getElem? (i := 225) (by decide +kernel)⟩
theorem lw_p8 : lw_okq (⟨"ObjectStreams", "writeContents", "(LObjectStreams$Pack;II)V"⟩, 10) := ⟨⟨by decide +kernel, by decide +kernel⟩, List.mem_of_getElem? (i := 12) (by decide +kernel), List.mem_of_getElem? (i := 236) (by decide +kernel), List.mem_of_getElem? (i := 237) (by decide +kernel)⟩
theorem lw_p9 : lw_okq (⟨"ObjectStreams", "packOf", "(I)LObjectStreams$Pack;"⟩, 10) := ⟨⟨by decide +kernel, by decide +kernel⟩, List.mem_of_getElem? (i := 12) (by decide +kernel), List.mem_of_getElem? (i := 265) (by decide +kernel), List.mem_of_getElem? (i := 266) (by decide +kernel)⟩
theorem lw_p10 : lw_okq (⟨"ObjectStreams", "faultOf", "(LObjectStreams$Pack;II)I"⟩, 10) := ⟨⟨by decide +kernel, by decide +kernel⟩, List.mem_of_getElem? (i := 12) (by decide +kernel), List.mem_of_getElem? (i := 286) (by decide +kernel), List.mem_of_getElem? (i := 287) (by decide +kernel)⟩
theorem lw_p11 : lw_okq (⟨"ObjectStreams", "tell", "(II)V"⟩, 10) := ⟨⟨by decide +kernel, by decide +kernel⟩, List.mem_of_getElem? (i := 12) (by decide +kernel), List.mem_of_getElem? (i := 296) (by decide +kernel), List.mem_of_getElem? (i := 297) (by decide +kernel)⟩
theorem lw_p12 : lw_okq (⟨"ObjectStreams", "packedItems", "()I"⟩, 10) := ⟨⟨by decide +kernel, by decide +kernel⟩, List.mem_of_getElem? (i := 12) (by decide +kernel), List.mem_of_getElem? (i := 317) (by decide +kernel), List.mem_of_getElem? (i := 318) (by decide +kernel)⟩
theorem lw_p13 : lw_okq (⟨"ObjectStreams", "lostItems", "()I"⟩, 10) := ⟨⟨by decide +kernel, by decide +kernel⟩, List.mem_of_getElem? (i := 12) (by decide +kernel), List.mem_of_getElem? (i := 321) (by decide +kernel), List.mem_of_getElem? (i := 322) (by decide +kernel)⟩
theorem lw_p14 : lw_okq (⟨"ObjectStreams", "allOctets", "()I"⟩, 10) := ⟨⟨by decide +kernel, by decide +kernel⟩, List.mem_of_getElem? (i := 12) (by decide +kernel), List.mem_of_getElem? (i := 325) (by decide +kernel), List.mem_of_getElem? (i := 326) (by decide +kernel)⟩
theorem lw_p15 : lw_okq (⟨"java/lang/Throwable", "fillInStackTrace", "(I)Ljava/lang/Throwable;"⟩, 6) := ⟨⟨by decide +kernel, by decide +kernel⟩, List.mem_of_getElem? (i := 375) (by decide +kernel), List.mem_of_getElem? (i := 373) (by decide +kernel), List.mem_of_getElem? (i := 374) (by decide +kernel)⟩
def lw_privs_1 : List (MethodName × Nat) := [(⟨"ObjectStreams", "itemOf", "(I)LObjectStreams$Item;"⟩, 10), (⟨"ObjectStreams", "plan", "(I)I"⟩, 10), (⟨"ObjectStreams", "nextBehind", "(LObjectStreams$Item;)LObjectStreams$Item;"⟩, 10), (⟨"ObjectStreams", "planPack", "(LObjectStreams$Item;I)V"⟩, 10), (⟨"ObjectStreams", "writePack", "(II)V"⟩, 10), (⟨"ObjectStreams", "newPack", "(II)LObjectStreams$Pack;"⟩, 10), (⟨"ObjectStreams", "writePairs", "(LObjectStreams$Pack;II)V"⟩, 10), (⟨"ObjectStreams", "planned", "(I)LObjectStreams$Item;"⟩, 10), (⟨"ObjectStreams", "writeContents", "(LObjectStreams$Pack;II)V"⟩, 10), (⟨"ObjectStreams", "packOf", "(I)LObjectStreams$Pack;"⟩, 10), (⟨"ObjectStreams", "faultOf", "(LObjectStreams$Pack;II)I"⟩, 10), (⟨"ObjectStreams", "tell", "(II)V"⟩, 10), (⟨"ObjectStreams", "packedItems", "()I"⟩, 10), (⟨"ObjectStreams", "lostItems", "()I"⟩, 10), (⟨"ObjectStreams", "allOctets", "()I"⟩, 10), (⟨"java/lang/Throwable", "fillInStackTrace", "(I)Ljava/lang/Throwable;"⟩, 6)]
theorem lw_r1 : ∀ q ∈ lw_privs_1, lw_okq q := List.forall_mem_cons.mpr ⟨lw_p0, List.forall_mem_cons.mpr ⟨lw_p1, List.forall_mem_cons.mpr ⟨lw_p2, List.forall_mem_cons.mpr ⟨lw_p3, List.forall_mem_cons.mpr ⟨lw_p4, List.forall_mem_cons.mpr ⟨lw_p5, List.forall_mem_cons.mpr ⟨lw_p6, List.forall_mem_cons.mpr ⟨lw_p7, List.forall_mem_cons.mpr ⟨lw_p8, List.forall_mem_cons.mpr ⟨lw_p9, List.forall_mem_cons.mpr ⟨lw_p10, List.forall_mem_cons.mpr ⟨lw_p11, List.forall_mem_cons.mpr ⟨lw_p12, List.forall_mem_cons.mpr ⟨lw_p13, List.forall_mem_cons.mpr ⟨lw_p14, List.forall_mem_cons.mpr ⟨lw_p15, fun _ h => absurd h List.not_mem_nil⟩⟩⟩⟩⟩⟩⟩⟩⟩⟩⟩⟩⟩⟩⟩⟩
theorem lw_p16 : lw_okq (⟨"ObjectStreamsModel", "isObject", "(I)Z"⟩, 22) := ⟨⟨by decide +kernel, by decide +kernel⟩, List.mem_of_getElem? (i := 418) (by decide +kernel), List.mem_of_getElem? (i := 507) (by decide +kernel), List.mem_of_getElem? (i := 508) (by decide +kernel)⟩
theorem lw_p17 : lw_okq (⟨"ObjectStreamsModel", "load", "(I)V"⟩, 22) := ⟨⟨by decide +kernel, by decide +kernel⟩, List.mem_of_getElem? (i := 418) (by decide +kernel), List.mem_of_getElem? (i := 515) (by decide +kernel), List.mem_of_getElem? (i := 516) (by decide +kernel)⟩
theorem lw_p18 : lw_okq (⟨"ObjectStreamsModel", "isThere", "(II)Z"⟩, 22) := ⟨⟨by decide +kernel, by decide +kernel⟩, List.mem_of_getElem? (i := 418) (by decide +kernel), List.mem_of_getElem? (i := 519) (by decide +kernel), List.mem_of_getElem? (i := 520) (by decide +kernel)⟩
theorem lw_p19 : lw_okq (⟨"ObjectStreamsModel", "two", "(II)I"⟩, 22) := ⟨⟨by decide +kernel, by decide +kernel⟩, List.mem_of_getElem? (i := 418) (by decide +kernel), List.mem_of_getElem? (i := 523) (by decide +kernel), List.mem_of_getElem? (i := 524) (by decide +kernel)⟩
theorem lw_p20 : lw_okq (⟨"ObjectStreamsModel", "unpackTo", "(II)V"⟩, 22) := ⟨⟨by decide +kernel, by decide +kernel⟩, List.mem_of_getElem? (i := 418) (by decide +kernel), List.mem_of_getElem? (i := 527) (by decide +kernel), List.mem_of_getElem? (i := 528) (by decide +kernel)⟩
theorem lw_p21 : lw_okq (⟨"ObjectStreamsModel", "unpack", "(II)V"⟩, 22) := ⟨⟨by decide +kernel, by decide +kernel⟩, List.mem_of_getElem? (i := 418) (by decide +kernel), List.mem_of_getElem? (i := 531) (by decide +kernel), List.mem_of_getElem? (i := 532) (by decide +kernel)⟩
theorem lw_p22 : lw_okq (⟨"ObjectStreamsModel", "layOut", "(I)I"⟩, 22) := ⟨⟨by decide +kernel, by decide +kernel⟩, List.mem_of_getElem? (i := 418) (by decide +kernel), List.mem_of_getElem? (i := 551) (by decide +kernel), List.mem_of_getElem? (i := 552) (by decide +kernel)⟩
theorem lw_p23 : lw_okq (⟨"ObjectStreamsModel", "nextBehind", "(I)I"⟩, 22) := ⟨⟨by decide +kernel, by decide +kernel⟩, List.mem_of_getElem? (i := 418) (by decide +kernel), List.mem_of_getElem? (i := 555) (by decide +kernel), List.mem_of_getElem? (i := 556) (by decide +kernel)⟩
theorem lw_p24 : lw_okq (⟨"ObjectStreamsModel", "waits", "(I)Z"⟩, 22) := ⟨⟨by decide +kernel, by decide +kernel⟩, List.mem_of_getElem? (i := 418) (by decide +kernel), List.mem_of_getElem? (i := 559) (by decide +kernel), List.mem_of_getElem? (i := 560) (by decide +kernel)⟩
theorem lw_p25 : lw_okq (⟨"ObjectStreamsModel", "alike", "(II)I"⟩, 22) := ⟨⟨by decide +kernel, by decide +kernel⟩, List.mem_of_getElem? (i := 418) (by decide +kernel), List.mem_of_getElem? (i := 563) (by decide +kernel), List.mem_of_getElem? (i := 564) (by decide +kernel)⟩
theorem lw_p26 : lw_okq (⟨"ObjectStreamsModel", "write", "(III)V"⟩, 22) := ⟨⟨by decide +kernel, by decide +kernel⟩, List.mem_of_getElem? (i := 418) (by decide +kernel), List.mem_of_getElem? (i := 567) (by decide +kernel), List.mem_of_getElem? (i := 568) (by decide +kernel)⟩
theorem lw_p27 : lw_okq (⟨"ObjectStreamsModel", "addOne", "(II)V"⟩, 22) := ⟨⟨by decide +kernel, by decide +kernel⟩, List.mem_of_getElem? (i := 418) (by decide +kernel), List.mem_of_getElem? (i := 571) (by decide +kernel), List.mem_of_getElem? (i := 572) (by decide +kernel)⟩
theorem lw_p28 : lw_okq (⟨"ObjectStreamsModel", "isPack", "(I)Z"⟩, 22) := ⟨⟨by decide +kernel, by decide +kernel⟩, List.mem_of_getElem? (i := 418) (by decide +kernel), List.mem_of_getElem? (i := 583) (by decide +kernel), List.mem_of_getElem? (i := 584) (by decide +kernel)⟩
theorem lw_p29 : lw_okq (⟨"ObjectStreamsModel", "wrongOf", "(II)I"⟩, 22) := ⟨⟨by decide +kernel, by decide +kernel⟩, List.mem_of_getElem? (i := 418) (by decide +kernel), List.mem_of_getElem? (i := 603) (by decide +kernel), List.mem_of_getElem? (i := 604) (by decide +kernel)⟩
theorem lw_p30 : lw_okq (⟨"ObjectStreamsModel", "isBefore", "(III)Z"⟩, 22) := ⟨⟨by decide +kernel, by decide +kernel⟩, List.mem_of_getElem? (i := 418) (by decide +kernel), List.mem_of_getElem? (i := 607) (by decide +kernel), List.mem_of_getElem? (i := 608) (by decide +kernel)⟩
def lw_privs_2 : List (MethodName × Nat) := [(⟨"ObjectStreamsModel", "isObject", "(I)Z"⟩, 22), (⟨"ObjectStreamsModel", "load", "(I)V"⟩, 22), (⟨"ObjectStreamsModel", "isThere", "(II)Z"⟩, 22), (⟨"ObjectStreamsModel", "two", "(II)I"⟩, 22), (⟨"ObjectStreamsModel", "unpackTo", "(II)V"⟩, 22), (⟨"ObjectStreamsModel", "unpack", "(II)V"⟩, 22), (⟨"ObjectStreamsModel", "layOut", "(I)I"⟩, 22), (⟨"ObjectStreamsModel", "nextBehind", "(I)I"⟩, 22), (⟨"ObjectStreamsModel", "waits", "(I)Z"⟩, 22), (⟨"ObjectStreamsModel", "alike", "(II)I"⟩, 22), (⟨"ObjectStreamsModel", "write", "(III)V"⟩, 22), (⟨"ObjectStreamsModel", "addOne", "(II)V"⟩, 22), (⟨"ObjectStreamsModel", "isPack", "(I)Z"⟩, 22), (⟨"ObjectStreamsModel", "wrongOf", "(II)I"⟩, 22), (⟨"ObjectStreamsModel", "isBefore", "(III)Z"⟩, 22)]
theorem lw_r2 : ∀ q ∈ lw_privs_2, lw_okq q := List.forall_mem_cons.mpr ⟨lw_p16, List.forall_mem_cons.mpr ⟨lw_p17, List.forall_mem_cons.mpr ⟨lw_p18, List.forall_mem_cons.mpr ⟨lw_p19, List.forall_mem_cons.mpr ⟨lw_p20, List.forall_mem_cons.mpr ⟨lw_p21, List.forall_mem_cons.mpr ⟨lw_p22, List.forall_mem_cons.mpr ⟨lw_p23, List.forall_mem_cons.mpr ⟨lw_p24, List.forall_mem_cons.mpr ⟨lw_p25, List.forall_mem_cons.mpr ⟨lw_p26, List.forall_mem_cons.mpr ⟨lw_p27, List.forall_mem_cons.mpr ⟨lw_p28, List.forall_mem_cons.mpr ⟨lw_p29, List.forall_mem_cons.mpr ⟨lw_p30, fun _ h => absurd h List.not_mem_nil⟩⟩⟩⟩⟩⟩⟩⟩⟩⟩⟩⟩⟩⟩⟩
def lw_privs : List (MethodName × Nat) := lw_privs_1 ++ (lw_privs_2)
def lw_tbl : List Cond := k2_sels lw_privs ++ tables_1
theorem lw_privs_ok : ∀ q ∈ lw_privs, lw_okq q := by
  show ∀ q ∈ lw_privs_1 ++ (lw_privs_2), lw_okq q
  exact List.forall_mem_append.mpr ⟨lw_r1, lw_r2⟩
end
section
def RX0 : String := "ObjectStreams$Item"
def TX0 : u_T := fun k => match k with
  | 0 => ("ObjectStreams$Item", "number", "I", true)
  | 1 => ("ObjectStreams$Item", "kind", "I", true)
  | 2 => ("ObjectStreams$Item", "own", "[B", true)
  | 3 => ("ObjectStreams$Item", "ownLength", "I", false)
  | 4 => ("ObjectStreams$Item", "home", "LObjectStreams$Pack;", false)
  | 5 => ("ObjectStreams$Item", "index", "I", false)
  | _ => ("ObjectStreams$Item", "waiting", "Z", false)
def tyX0 : Nat → FieldType := fun k => match k with
  | 0 => .int
  | 1 => .int
  | 2 => .array .byte
  | 3 => .int
  | 4 => .object "ObjectStreams$Pack"
  | 5 => .int
  | _ => .boolean
theorem nmX0 : ∀ a, a < 7 → ∀ b, b < 7 → a ≠ b → (TX0 a).2.1 ≠ (TX0 b).2.1 := by decide +kernel
theorem tyX0_ok : ∀ k, k < 7 → parseFieldDescriptor (TX0 k).2.2.1 = some (tyX0 k) := by decide +kernel
abbrev cX0_init : ByteArray := prog_2_method_1_code
def yX0_init : MethodName := ⟨RX0, "<init>", "(II)V"⟩
abbrev cX0_append : ByteArray := prog_2_method_2_code
def yX0_append : MethodName := ⟨RX0, "append", "(B)Z"⟩
abbrev cX0_length : ByteArray := prog_2_method_3_code
def yX0_length : MethodName := ⟨RX0, "length", "()I"⟩
abbrev cX0_byteAt : ByteArray := prog_2_method_4_code
def yX0_byteAt : MethodName := ⟨RX0, "byteAt", "(I)B"⟩
abbrev cX0_moveInto : ByteArray := prog_2_method_5_code
def yX0_moveInto : MethodName := ⟨RX0, "moveInto", "(LObjectStreams$Pack;I)V"⟩
abbrev cX0_moveOut : ByteArray := prog_2_method_6_code
def yX0_moveOut : MethodName := ⟨RX0, "moveOut", "(I)V"⟩
abbrev cX0_alike : ByteArray := prog_2_method_7_code
def yX0_alike : MethodName := ⟨RX0, "alike", "(LObjectStreams$Item;)I"⟩
abbrev cX0_unlike : ByteArray := prog_2_method_8_code
def yX0_unlike : MethodName := ⟨RX0, "unlike", "(LObjectStreams$Item;)I"⟩
def RX1 : String := "ObjectStreams$Pack"
def TX1 : u_T := fun k => match k with
  | 0 => ("ObjectStreams$Pack", "number", "I", true)
  | 1 => ("ObjectStreams$Pack", "pairs", "I", true)
  | 2 => ("ObjectStreams$Pack", "first", "I", true)
  | 3 => ("ObjectStreams$Pack", "octets", "[B", true)
  | 4 => ("ObjectStreams$Pack", "length", "I", false)
  | _ => ("ObjectStreams$Pack", "base", "LObjectStreams$Pack;", false)
def tyX1 : Nat → FieldType := fun k => match k with
  | 0 => .int
  | 1 => .int
  | 2 => .int
  | 3 => .array .byte
  | 4 => .int
  | _ => .object "ObjectStreams$Pack"
theorem nmX1 : ∀ a, a < 6 → ∀ b, b < 6 → a ≠ b → (TX1 a).2.1 ≠ (TX1 b).2.1 := by decide +kernel
theorem tyX1_ok : ∀ k, k < 6 → parseFieldDescriptor (TX1 k).2.2.1 = some (tyX1 k) := by decide +kernel
abbrev cX1_init : ByteArray := prog_3_method_1_code
def yX1_init : MethodName := ⟨RX1, "<init>", "(III)V"⟩
abbrev cX1_append : ByteArray := prog_3_method_2_code
def yX1_append : MethodName := ⟨RX1, "append", "(B)Z"⟩
abbrev cX1_appendNumber : ByteArray := prog_3_method_3_code
def yX1_appendNumber : MethodName := ⟨RX1, "appendNumber", "(I)V"⟩
abbrev cX1_appendContent : ByteArray := prog_3_method_4_code
def yX1_appendContent : MethodName := ⟨RX1, "appendContent", "(LObjectStreams$Item;LObjectStreams$Item;)V"⟩
abbrev cX1_holds : ByteArray := prog_3_method_5_code
def yX1_holds : MethodName := ⟨RX1, "holds", "(I)Z"⟩
abbrev cX1_byteAt : ByteArray := prog_3_method_6_code
def yX1_byteAt : MethodName := ⟨RX1, "byteAt", "(I)B"⟩
abbrev cX1_isThere : ByteArray := prog_3_method_7_code
def yX1_isThere : MethodName := ⟨RX1, "isThere", "(I)Z"⟩
abbrev cX1_numberOf : ByteArray := prog_3_method_8_code
def yX1_numberOf : MethodName := ⟨RX1, "numberOf", "(II)I"⟩
abbrev cX1_firstPairOf : ByteArray := prog_3_method_9_code
def yX1_firstPairOf : MethodName := ⟨RX1, "firstPairOf", "(I)I"⟩
abbrev cX1_lengthBehind : ByteArray := prog_3_method_10_code
def yX1_lengthBehind : MethodName := ⟨RX1, "lengthBehind", "(II)I"⟩
abbrev cX1_contentLength : ByteArray := prog_3_method_11_code
def yX1_contentLength : MethodName := ⟨RX1, "contentLength", "(I)I"⟩
abbrev cX1_contentByte : ByteArray := prog_3_method_12_code
def yX1_contentByte : MethodName := ⟨RX1, "contentByte", "(II)B"⟩
def RX2 : String := "ObjectStreams"
def TX2 : u_T := fun k => match k with
  | 0 => ("ObjectStreams", "items", "[LObjectStreams$Item;", true)
  | 1 => ("ObjectStreams", "itemCount", "I", false)
  | 2 => ("ObjectStreams", "packs", "[LObjectStreams$Pack;", true)
  | 3 => ("ObjectStreams", "packCount", "I", false)
  | 4 => ("ObjectStreams", "toldFaults", "[I", true)
  | 5 => ("ObjectStreams", "toldPairs", "[I", true)
  | 6 => ("ObjectStreams", "toldCount", "I", false)
  | 7 => ("ObjectStreams", "plannedItems", "[I", true)
  | 8 => ("ObjectStreams", "plannedCount", "I", false)
  | _ => ("ObjectStreams", "planEnds", "[I", true)
def tyX2 : Nat → FieldType := fun k => match k with
  | 0 => .array (.object "ObjectStreams$Item")
  | 1 => .int
  | 2 => .array (.object "ObjectStreams$Pack")
  | 3 => .int
  | 4 => .array .int
  | 5 => .array .int
  | 6 => .int
  | 7 => .array .int
  | 8 => .int
  | _ => .array .int
theorem nmX2 : ∀ a, a < 10 → ∀ b, b < 10 → a ≠ b → (TX2 a).2.1 ≠ (TX2 b).2.1 := by decide +kernel
theorem tyX2_ok : ∀ k, k < 10 → parseFieldDescriptor (TX2 k).2.2.1 = some (tyX2 k) := by decide +kernel
abbrev cX2_init : ByteArray := prog_1_method_1_code
def yX2_init : MethodName := ⟨RX2, "<init>", "()V"⟩
abbrev cX2_object : ByteArray := prog_1_method_2_code
def yX2_object : MethodName := ⟨RX2, "object", "(I)I"⟩
abbrev cX2_put : ByteArray := prog_1_method_3_code
def yX2_put : MethodName := ⟨RX2, "put", "(IB)I"⟩
abbrev cX2_change : ByteArray := prog_1_method_4_code
def yX2_change : MethodName := ⟨RX2, "change", "(I)I"⟩
abbrev cX2_pack : ByteArray := prog_1_method_5_code
def yX2_pack : MethodName := ⟨RX2, "pack", "(I)I"⟩
abbrev cX2_size : ByteArray := prog_1_method_6_code
def yX2_size : MethodName := ⟨RX2, "size", "(I)I"⟩
abbrev cX2_at : ByteArray := prog_1_method_7_code
def yX2_at : MethodName := ⟨RX2, "at", "(II)B"⟩
abbrev cX2_in : ByteArray := prog_1_method_8_code
def yX2_in : MethodName := ⟨RX2, "in", "(I)I"⟩
abbrev cX2_raw : ByteArray := prog_1_method_9_code
def yX2_raw : MethodName := ⟨RX2, "raw", "(II)I"⟩
abbrev cX2_add : ByteArray := prog_1_method_10_code
def yX2_add : MethodName := ⟨RX2, "add", "(IB)I"⟩
abbrev cX2_octet : ByteArray := prog_1_method_11_code
def yX2_octet : MethodName := ⟨RX2, "octet", "(II)B"⟩
abbrev cX2_extend : ByteArray := prog_1_method_12_code
def yX2_extend : MethodName := ⟨RX2, "extend", "(II)I"⟩
abbrev cX2_row : ByteArray := prog_1_method_13_code
def yX2_row : MethodName := ⟨RX2, "row", "(III)I"⟩
abbrev cX2_read : ByteArray := prog_1_method_14_code
def yX2_read : MethodName := ⟨RX2, "read", "(I)I"⟩
abbrev cX2_told : ByteArray := prog_1_method_15_code
def yX2_told : MethodName := ⟨RX2, "told", "(II)I"⟩
abbrev cX2_pair : ByteArray := prog_1_method_16_code
def yX2_pair : MethodName := ⟨RX2, "pair", "(III)I"⟩
abbrev cX2_find : ByteArray := prog_1_method_17_code
def yX2_find : MethodName := ⟨RX2, "find", "(II)I"⟩
abbrev cX2_count : ByteArray := prog_1_method_18_code
def yX2_count : MethodName := ⟨RX2, "count", "(I)I"⟩
abbrev cX2_itemOf : ByteArray := prog_1_method_19_code
def yX2_itemOf : MethodName := ⟨RX2, "itemOf", "(I)LObjectStreams$Item;"⟩
abbrev cX2_packOf : ByteArray := prog_1_method_20_code
def yX2_packOf : MethodName := ⟨RX2, "packOf", "(I)LObjectStreams$Pack;"⟩
abbrev cX2_newPack : ByteArray := prog_1_method_21_code
def yX2_newPack : MethodName := ⟨RX2, "newPack", "(II)LObjectStreams$Pack;"⟩
abbrev cX2_leadsTo : ByteArray := prog_1_method_22_code
def yX2_leadsTo : MethodName := ⟨RX2, "leadsTo", "(LObjectStreams$Pack;I)Z"⟩
abbrev cX2_faultOf : ByteArray := prog_1_method_23_code
def yX2_faultOf : MethodName := ⟨RX2, "faultOf", "(LObjectStreams$Pack;II)I"⟩
abbrev cX2_tell : ByteArray := prog_1_method_24_code
def yX2_tell : MethodName := ⟨RX2, "tell", "(II)V"⟩
abbrev cX2_packedItems : ByteArray := prog_1_method_25_code
def yX2_packedItems : MethodName := ⟨RX2, "packedItems", "()I"⟩
abbrev cX2_lostItems : ByteArray := prog_1_method_26_code
def yX2_lostItems : MethodName := ⟨RX2, "lostItems", "()I"⟩
abbrev cX2_allOctets : ByteArray := prog_1_method_27_code
def yX2_allOctets : MethodName := ⟨RX2, "allOctets", "()I"⟩
abbrev cX2_plan : ByteArray := prog_1_method_28_code
def yX2_plan : MethodName := ⟨RX2, "plan", "(I)I"⟩
abbrev cX2_planPack : ByteArray := prog_1_method_29_code
def yX2_planPack : MethodName := ⟨RX2, "planPack", "(LObjectStreams$Item;I)V"⟩
abbrev cX2_nextBehind : ByteArray := prog_1_method_30_code
def yX2_nextBehind : MethodName := ⟨RX2, "nextBehind", "(LObjectStreams$Item;)LObjectStreams$Item;"⟩
abbrev cX2_planned : ByteArray := prog_1_method_31_code
def yX2_planned : MethodName := ⟨RX2, "planned", "(I)LObjectStreams$Item;"⟩
abbrev cX2_writePack : ByteArray := prog_1_method_32_code
def yX2_writePack : MethodName := ⟨RX2, "writePack", "(II)V"⟩
abbrev cX2_writePairs : ByteArray := prog_1_method_33_code
def yX2_writePairs : MethodName := ⟨RX2, "writePairs", "(LObjectStreams$Pack;II)V"⟩
abbrev cX2_writeContents : ByteArray := prog_1_method_34_code
def yX2_writeContents : MethodName := ⟨RX2, "writeContents", "(LObjectStreams$Pack;II)V"⟩
def RX3 : String := "ObjectStreamsModel"
def TX3 : u_T := fun k => match k with
  | 0 => ("ObjectStreamsModel", "code", "I", false)
  | 1 => ("ObjectStreamsModel", "objects", "I", false)
  | 2 => ("ObjectStreamsModel", "kinds", "[I", true)
  | 3 => ("ObjectStreamsModel", "sizes", "[I", true)
  | 4 => ("ObjectStreamsModel", "bytes", "[I", true)
  | 5 => ("ObjectStreamsModel", "packOf", "[I", true)
  | 6 => ("ObjectStreamsModel", "indexOf", "[I", true)
  | 7 => ("ObjectStreamsModel", "packs", "I", false)
  | 8 => ("ObjectStreamsModel", "counts", "[I", true)
  | 9 => ("ObjectStreamsModel", "firsts", "[I", true)
  | 10 => ("ObjectStreamsModel", "extended", "[I", true)
  | 11 => ("ObjectStreamsModel", "packSizes", "[I", true)
  | 12 => ("ObjectStreamsModel", "packBytes", "[I", true)
  | 13 => ("ObjectStreamsModel", "content", "[I", true)
  | 14 => ("ObjectStreamsModel", "contentSize", "I", false)
  | 15 => ("ObjectStreamsModel", "tolds", "I", false)
  | 16 => ("ObjectStreamsModel", "toldKind", "[I", true)
  | 17 => ("ObjectStreamsModel", "toldPair", "[I", true)
  | 18 => ("ObjectStreamsModel", "order", "[I", true)
  | 19 => ("ObjectStreamsModel", "orderPack", "[I", true)
  | 20 => ("ObjectStreamsModel", "isTaken", "[Z", true)
  | _ => ("ObjectStreamsModel", "orderEnd", "I", false)
def tyX3 : Nat → FieldType := fun k => match k with
  | 0 => .int
  | 1 => .int
  | 2 => .array .int
  | 3 => .array .int
  | 4 => .array .int
  | 5 => .array .int
  | 6 => .array .int
  | 7 => .int
  | 8 => .array .int
  | 9 => .array .int
  | 10 => .array .int
  | 11 => .array .int
  | 12 => .array .int
  | 13 => .array .int
  | 14 => .int
  | 15 => .int
  | 16 => .array .int
  | 17 => .array .int
  | 18 => .array .int
  | 19 => .array .int
  | 20 => .array .boolean
  | _ => .int
theorem nmX3 : ∀ a, a < 22 → ∀ b, b < 22 → a ≠ b → (TX3 a).2.1 ≠ (TX3 b).2.1 := by decide +kernel
theorem tyX3_ok : ∀ k, k < 22 → parseFieldDescriptor (TX3 k).2.2.1 = some (tyX3 k) := by decide +kernel
abbrev cX3_init : ByteArray := prog_5_method_1_code
def yX3_init : MethodName := ⟨RX3, "<init>", "()V"⟩
abbrev cX3_thrown : ByteArray := prog_5_method_2_code
def yX3_thrown : MethodName := ⟨RX3, "thrown", "()I"⟩
abbrev cX3_isIn : ByteArray := prog_5_method_3_code
def yX3_isIn : MethodName := ⟨RX3, "isIn", "(III)Z"⟩
abbrev cX3_isObject : ByteArray := prog_5_method_4_code
def yX3_isObject : MethodName := ⟨RX3, "isObject", "(I)Z"⟩
abbrev cX3_isPack : ByteArray := prog_5_method_5_code
def yX3_isPack : MethodName := ⟨RX3, "isPack", "(I)Z"⟩
abbrev cX3_isThere : ByteArray := prog_5_method_6_code
def yX3_isThere : MethodName := ⟨RX3, "isThere", "(II)Z"⟩
abbrev cX3_two : ByteArray := prog_5_method_7_code
def yX3_two : MethodName := ⟨RX3, "two", "(II)I"⟩
abbrev cX3_unpack : ByteArray := prog_5_method_8_code
def yX3_unpack : MethodName := ⟨RX3, "unpack", "(II)V"⟩
abbrev cX3_unpackTo : ByteArray := prog_5_method_9_code
def yX3_unpackTo : MethodName := ⟨RX3, "unpackTo", "(II)V"⟩
abbrev cX3_load : ByteArray := prog_5_method_10_code
def yX3_load : MethodName := ⟨RX3, "load", "(I)V"⟩
abbrev cX3_object : ByteArray := prog_5_method_11_code
def yX3_object : MethodName := ⟨RX3, "object", "(I)I"⟩
abbrev cX3_put : ByteArray := prog_5_method_12_code
def yX3_put : MethodName := ⟨RX3, "put", "(IB)I"⟩
abbrev cX3_change : ByteArray := prog_5_method_13_code
def yX3_change : MethodName := ⟨RX3, "change", "(I)I"⟩
abbrev cX3_size : ByteArray := prog_5_method_14_code
def yX3_size : MethodName := ⟨RX3, "size", "(I)I"⟩
abbrev cX3_at : ByteArray := prog_5_method_15_code
def yX3_at : MethodName := ⟨RX3, "at", "(II)B"⟩
abbrev cX3_in : ByteArray := prog_5_method_16_code
def yX3_in : MethodName := ⟨RX3, "in", "(I)I"⟩
abbrev cX3_waits : ByteArray := prog_5_method_17_code
def yX3_waits : MethodName := ⟨RX3, "waits", "(I)Z"⟩
abbrev cX3_alike : ByteArray := prog_5_method_18_code
def yX3_alike : MethodName := ⟨RX3, "alike", "(II)I"⟩
abbrev cX3_nextBehind : ByteArray := prog_5_method_19_code
def yX3_nextBehind : MethodName := ⟨RX3, "nextBehind", "(I)I"⟩
abbrev cX3_layOut : ByteArray := prog_5_method_20_code
def yX3_layOut : MethodName := ⟨RX3, "layOut", "(I)I"⟩
abbrev cX3_addOne : ByteArray := prog_5_method_21_code
def yX3_addOne : MethodName := ⟨RX3, "addOne", "(II)V"⟩
abbrev cX3_write : ByteArray := prog_5_method_22_code
def yX3_write : MethodName := ⟨RX3, "write", "(III)V"⟩
abbrev cX3_pack : ByteArray := prog_5_method_23_code
def yX3_pack : MethodName := ⟨RX3, "pack", "(I)I"⟩
abbrev cX3_raw : ByteArray := prog_5_method_24_code
def yX3_raw : MethodName := ⟨RX3, "raw", "(II)I"⟩
abbrev cX3_add : ByteArray := prog_5_method_25_code
def yX3_add : MethodName := ⟨RX3, "add", "(IB)I"⟩
abbrev cX3_octet : ByteArray := prog_5_method_26_code
def yX3_octet : MethodName := ⟨RX3, "octet", "(II)B"⟩
abbrev cX3_extend : ByteArray := prog_5_method_27_code
def yX3_extend : MethodName := ⟨RX3, "extend", "(II)I"⟩
abbrev cX3_row : ByteArray := prog_5_method_28_code
def yX3_row : MethodName := ⟨RX3, "row", "(III)I"⟩
abbrev cX3_isBefore : ByteArray := prog_5_method_29_code
def yX3_isBefore : MethodName := ⟨RX3, "isBefore", "(III)Z"⟩
abbrev cX3_wrongOf : ByteArray := prog_5_method_30_code
def yX3_wrongOf : MethodName := ⟨RX3, "wrongOf", "(II)I"⟩
abbrev cX3_read : ByteArray := prog_5_method_31_code
def yX3_read : MethodName := ⟨RX3, "read", "(I)I"⟩
abbrev cX3_told : ByteArray := prog_5_method_32_code
def yX3_told : MethodName := ⟨RX3, "told", "(II)I"⟩
abbrev cX3_pair : ByteArray := prog_5_method_33_code
def yX3_pair : MethodName := ⟨RX3, "pair", "(III)I"⟩
abbrev cX3_find : ByteArray := prog_5_method_34_code
def yX3_find : MethodName := ⟨RX3, "find", "(II)I"⟩
abbrev cX3_count : ByteArray := prog_5_method_35_code
def yX3_count : MethodName := ⟨RX3, "count", "(I)I"⟩
def RL : String := "ObjectStreamsLaw"
abbrev cL_at : ByteArray := method_3_code
def yL_at : MethodName := ⟨RL, "at", "(LObjectStreams;II[J)I"⟩
abbrev cL_octet : ByteArray := method_4_code
def yL_octet : MethodName := ⟨RL, "octet", "(LObjectStreams;II[J)I"⟩
abbrev cL_law : ByteArray := code
def yL_law : MethodName := ⟨RL, "law", "([I)Z"⟩
abbrev mj_cl : List vw_C := [(RX0, TX0, 7), (RX1, TX1, 6), (RX2, TX2, 10), (RX3, TX3, 22)]
def mj_ty : Nat → Nat → FieldType := fun c => match c with
  | 0 => tyX0
  | 1 => tyX1
  | 2 => tyX2
  | _ => tyX3
def mj_R : Nat → String := fun c => match c with
  | 0 => RX0
  | 1 => RX1
  | 2 => RX2
  | 3 => RX3
  | _ => RL
def mj_y : Nat → MethodName := fun y => match y with
  | 0 => yX0_init
  | 1 => yX0_append
  | 2 => yX0_length
  | 3 => yX0_byteAt
  | 4 => yX0_moveInto
  | 5 => yX0_moveOut
  | 6 => yX0_alike
  | 7 => yX0_unlike
  | 8 => yX1_init
  | 9 => yX1_append
  | 10 => yX1_appendNumber
  | 11 => yX1_appendContent
  | 12 => yX1_holds
  | 13 => yX1_byteAt
  | 14 => yX1_isThere
  | 15 => yX1_numberOf
  | 16 => yX1_firstPairOf
  | 17 => yX1_lengthBehind
  | 18 => yX1_contentLength
  | 19 => yX1_contentByte
  | 20 => yX2_init
  | 21 => yX2_object
  | 22 => yX2_put
  | 23 => yX2_change
  | 24 => yX2_pack
  | 25 => yX2_size
  | 26 => yX2_at
  | 27 => yX2_in
  | 28 => yX2_raw
  | 29 => yX2_add
  | 30 => yX2_octet
  | 31 => yX2_extend
  | 32 => yX2_row
  | 33 => yX2_read
  | 34 => yX2_told
  | 35 => yX2_pair
  | 36 => yX2_find
  | 37 => yX2_count
  | 38 => yX2_itemOf
  | 39 => yX2_packOf
  | 40 => yX2_newPack
  | 41 => yX2_leadsTo
  | 42 => yX2_faultOf
  | 43 => yX2_tell
  | 44 => yX2_packedItems
  | 45 => yX2_lostItems
  | 46 => yX2_allOctets
  | 47 => yX2_plan
  | 48 => yX2_planPack
  | 49 => yX2_nextBehind
  | 50 => yX2_planned
  | 51 => yX2_writePack
  | 52 => yX2_writePairs
  | 53 => yX2_writeContents
  | 54 => yX3_init
  | 55 => yX3_thrown
  | 56 => yX3_isIn
  | 57 => yX3_isObject
  | 58 => yX3_isPack
  | 59 => yX3_isThere
  | 60 => yX3_two
  | 61 => yX3_unpack
  | 62 => yX3_unpackTo
  | 63 => yX3_load
  | 64 => yX3_object
  | 65 => yX3_put
  | 66 => yX3_change
  | 67 => yX3_size
  | 68 => yX3_at
  | 69 => yX3_in
  | 70 => yX3_waits
  | 71 => yX3_alike
  | 72 => yX3_nextBehind
  | 73 => yX3_layOut
  | 74 => yX3_addOne
  | 75 => yX3_write
  | 76 => yX3_pack
  | 77 => yX3_raw
  | 78 => yX3_add
  | 79 => yX3_octet
  | 80 => yX3_extend
  | 81 => yX3_row
  | 82 => yX3_isBefore
  | 83 => yX3_wrongOf
  | 84 => yX3_read
  | 85 => yX3_told
  | 86 => yX3_pair
  | 87 => yX3_find
  | 88 => yX3_count
  | _ => yL_law
def mj_code : Nat → ByteArray := fun y => match y with
  | 0 => cX0_init
  | 1 => cX0_append
  | 2 => cX0_length
  | 3 => cX0_byteAt
  | 4 => cX0_moveInto
  | 5 => cX0_moveOut
  | 6 => cX0_alike
  | 7 => cX0_unlike
  | 8 => cX1_init
  | 9 => cX1_append
  | 10 => cX1_appendNumber
  | 11 => cX1_appendContent
  | 12 => cX1_holds
  | 13 => cX1_byteAt
  | 14 => cX1_isThere
  | 15 => cX1_numberOf
  | 16 => cX1_firstPairOf
  | 17 => cX1_lengthBehind
  | 18 => cX1_contentLength
  | 19 => cX1_contentByte
  | 20 => cX2_init
  | 21 => cX2_object
  | 22 => cX2_put
  | 23 => cX2_change
  | 24 => cX2_pack
  | 25 => cX2_size
  | 26 => cX2_at
  | 27 => cX2_in
  | 28 => cX2_raw
  | 29 => cX2_add
  | 30 => cX2_octet
  | 31 => cX2_extend
  | 32 => cX2_row
  | 33 => cX2_read
  | 34 => cX2_told
  | 35 => cX2_pair
  | 36 => cX2_find
  | 37 => cX2_count
  | 38 => cX2_itemOf
  | 39 => cX2_packOf
  | 40 => cX2_newPack
  | 41 => cX2_leadsTo
  | 42 => cX2_faultOf
  | 43 => cX2_tell
  | 44 => cX2_packedItems
  | 45 => cX2_lostItems
  | 46 => cX2_allOctets
  | 47 => cX2_plan
  | 48 => cX2_planPack
  | 49 => cX2_nextBehind
  | 50 => cX2_planned
  | 51 => cX2_writePack
  | 52 => cX2_writePairs
  | 53 => cX2_writeContents
  | 54 => cX3_init
  | 55 => cX3_thrown
  | 56 => cX3_isIn
  | 57 => cX3_isObject
  | 58 => cX3_isPack
  | 59 => cX3_isThere
  | 60 => cX3_two
  | 61 => cX3_unpack
  | 62 => cX3_unpackTo
  | 63 => cX3_load
  | 64 => cX3_object
  | 65 => cX3_put
  | 66 => cX3_change
  | 67 => cX3_size
  | 68 => cX3_at
  | 69 => cX3_in
  | 70 => cX3_waits
  | 71 => cX3_alike
  | 72 => cX3_nextBehind
  | 73 => cX3_layOut
  | 74 => cX3_addOne
  | 75 => cX3_write
  | 76 => cX3_pack
  | 77 => cX3_raw
  | 78 => cX3_add
  | 79 => cX3_octet
  | 80 => cX3_extend
  | 81 => cX3_row
  | 82 => cX3_isBefore
  | 83 => cX3_wrongOf
  | 84 => cX3_read
  | 85 => cX3_told
  | 86 => cX3_pair
  | 87 => cX3_find
  | 88 => cX3_count
  | _ => cL_law
def mj_own : Nat → Nat := fun y => match y with
  | 0 => 0
  | 1 => 0
  | 2 => 0
  | 3 => 0
  | 4 => 0
  | 5 => 0
  | 6 => 0
  | 7 => 0
  | 8 => 1
  | 9 => 1
  | 10 => 1
  | 11 => 1
  | 12 => 1
  | 13 => 1
  | 14 => 1
  | 15 => 1
  | 16 => 1
  | 17 => 1
  | 18 => 1
  | 19 => 1
  | 20 => 2
  | 21 => 2
  | 22 => 2
  | 23 => 2
  | 24 => 2
  | 25 => 2
  | 26 => 2
  | 27 => 2
  | 28 => 2
  | 29 => 2
  | 30 => 2
  | 31 => 2
  | 32 => 2
  | 33 => 2
  | 34 => 2
  | 35 => 2
  | 36 => 2
  | 37 => 2
  | 38 => 2
  | 39 => 2
  | 40 => 2
  | 41 => 2
  | 42 => 2
  | 43 => 2
  | 44 => 2
  | 45 => 2
  | 46 => 2
  | 47 => 2
  | 48 => 2
  | 49 => 2
  | 50 => 2
  | 51 => 2
  | 52 => 2
  | 53 => 2
  | 54 => 3
  | 55 => 3
  | 56 => 3
  | 57 => 3
  | 58 => 3
  | 59 => 3
  | 60 => 3
  | 61 => 3
  | 62 => 3
  | 63 => 3
  | 64 => 3
  | 65 => 3
  | 66 => 3
  | 67 => 3
  | 68 => 3
  | 69 => 3
  | 70 => 3
  | 71 => 3
  | 72 => 3
  | 73 => 3
  | 74 => 3
  | 75 => 3
  | 76 => 3
  | 77 => 3
  | 78 => 3
  | 79 => 3
  | 80 => 3
  | 81 => 3
  | 82 => 3
  | 83 => 3
  | 84 => 3
  | 85 => 3
  | 86 => 3
  | 87 => 3
  | 88 => 3
  | _ => 4
def mj_maxL : Nat → Nat := fun y => match y with
  | 0 => 3
  | 1 => 2
  | 2 => 1
  | 3 => 2
  | 4 => 3
  | 5 => 3
  | 6 => 4
  | 7 => 2
  | 8 => 4
  | 9 => 2
  | 10 => 2
  | 11 => 5
  | 12 => 2
  | 13 => 2
  | 14 => 3
  | 15 => 4
  | 16 => 3
  | 17 => 6
  | 18 => 4
  | 19 => 6
  | 20 => 1
  | 21 => 3
  | 22 => 4
  | 23 => 4
  | 24 => 5
  | 25 => 3
  | 26 => 4
  | 27 => 3
  | 28 => 4
  | 29 => 4
  | 30 => 4
  | 31 => 5
  | 32 => 7
  | 33 => 8
  | 34 => 3
  | 35 => 5
  | 36 => 6
  | 37 => 2
  | 38 => 2
  | 39 => 2
  | 40 => 4
  | 41 => 4
  | 42 => 6
  | 43 => 3
  | 44 => 4
  | 45 => 4
  | 46 => 4
  | 47 => 5
  | 48 => 7
  | 49 => 7
  | 50 => 2
  | 51 => 6
  | 52 => 8
  | 53 => 7
  | 54 => 1
  | 55 => 1
  | 56 => 3
  | 57 => 2
  | 58 => 2
  | 59 => 3
  | 60 => 3
  | 61 => 8
  | 62 => 4
  | 63 => 4
  | 64 => 2
  | 65 => 3
  | 66 => 3
  | 67 => 2
  | 68 => 3
  | 69 => 2
  | 70 => 2
  | 71 => 4
  | 72 => 6
  | 73 => 9
  | 74 => 3
  | 75 => 9
  | 76 => 7
  | 77 => 3
  | 78 => 3
  | 79 => 3
  | 80 => 4
  | 81 => 5
  | 82 => 6
  | 83 => 4
  | 84 => 5
  | 85 => 3
  | 86 => 4
  | 87 => 5
  | 88 => 6
  | _ => 7
def mj_ret : Nat → Option FieldType := fun y => match y with
  | 0 => none
  | 1 => (some .boolean)
  | 2 => (some .int)
  | 3 => (some .byte)
  | 4 => none
  | 5 => none
  | 6 => (some .int)
  | 7 => (some .int)
  | 8 => none
  | 9 => (some .boolean)
  | 10 => none
  | 11 => none
  | 12 => (some .boolean)
  | 13 => (some .byte)
  | 14 => (some .boolean)
  | 15 => (some .int)
  | 16 => (some .int)
  | 17 => (some .int)
  | 18 => (some .int)
  | 19 => (some .byte)
  | 20 => none
  | 21 => (some .int)
  | 22 => (some .int)
  | 23 => (some .int)
  | 24 => (some .int)
  | 25 => (some .int)
  | 26 => (some .byte)
  | 27 => (some .int)
  | 28 => (some .int)
  | 29 => (some .int)
  | 30 => (some .byte)
  | 31 => (some .int)
  | 32 => (some .int)
  | 33 => (some .int)
  | 34 => (some .int)
  | 35 => (some .int)
  | 36 => (some .int)
  | 37 => (some .int)
  | 38 => (some (.object "ObjectStreams$Item"))
  | 39 => (some (.object "ObjectStreams$Pack"))
  | 40 => (some (.object "ObjectStreams$Pack"))
  | 41 => (some .boolean)
  | 42 => (some .int)
  | 43 => none
  | 44 => (some .int)
  | 45 => (some .int)
  | 46 => (some .int)
  | 47 => (some .int)
  | 48 => none
  | 49 => (some (.object "ObjectStreams$Item"))
  | 50 => (some (.object "ObjectStreams$Item"))
  | 51 => none
  | 52 => none
  | 53 => none
  | 54 => none
  | 55 => (some .int)
  | 56 => (some .boolean)
  | 57 => (some .boolean)
  | 58 => (some .boolean)
  | 59 => (some .boolean)
  | 60 => (some .int)
  | 61 => none
  | 62 => none
  | 63 => none
  | 64 => (some .int)
  | 65 => (some .int)
  | 66 => (some .int)
  | 67 => (some .int)
  | 68 => (some .byte)
  | 69 => (some .int)
  | 70 => (some .boolean)
  | 71 => (some .int)
  | 72 => (some .int)
  | 73 => (some .int)
  | 74 => none
  | 75 => none
  | 76 => (some .int)
  | 77 => (some .int)
  | 78 => (some .int)
  | 79 => (some .byte)
  | 80 => (some .int)
  | 81 => (some .int)
  | 82 => (some .boolean)
  | 83 => (some .int)
  | 84 => (some .int)
  | 85 => (some .int)
  | 86 => (some .int)
  | 87 => (some .int)
  | 88 => (some .int)
  | _ => (some .boolean)
def mj_na : Nat → Nat := fun y => match y with
  | 0 => 2
  | 1 => 1
  | 2 => 0
  | 3 => 1
  | 4 => 2
  | 5 => 1
  | 6 => 1
  | 7 => 1
  | 8 => 3
  | 9 => 1
  | 10 => 1
  | 11 => 2
  | 12 => 1
  | 13 => 1
  | 14 => 1
  | 15 => 2
  | 16 => 1
  | 17 => 2
  | 18 => 1
  | 19 => 2
  | 20 => 0
  | 21 => 1
  | 22 => 2
  | 23 => 1
  | 24 => 1
  | 25 => 1
  | 26 => 2
  | 27 => 1
  | 28 => 2
  | 29 => 2
  | 30 => 2
  | 31 => 2
  | 32 => 3
  | 33 => 1
  | 34 => 2
  | 35 => 3
  | 36 => 2
  | 37 => 1
  | 38 => 1
  | 39 => 1
  | 40 => 2
  | 41 => 2
  | 42 => 3
  | 43 => 2
  | 44 => 0
  | 45 => 0
  | 46 => 0
  | 47 => 1
  | 48 => 2
  | 49 => 1
  | 50 => 1
  | 51 => 2
  | 52 => 3
  | 53 => 3
  | 54 => 0
  | 55 => 0
  | 56 => 3
  | 57 => 1
  | 58 => 1
  | 59 => 2
  | 60 => 2
  | 61 => 2
  | 62 => 2
  | 63 => 1
  | 64 => 1
  | 65 => 2
  | 66 => 1
  | 67 => 1
  | 68 => 2
  | 69 => 1
  | 70 => 1
  | 71 => 2
  | 72 => 1
  | 73 => 1
  | 74 => 2
  | 75 => 3
  | 76 => 1
  | 77 => 2
  | 78 => 2
  | 79 => 2
  | 80 => 2
  | 81 => 3
  | 82 => 3
  | 83 => 2
  | 84 => 1
  | 85 => 2
  | 86 => 3
  | 87 => 2
  | 88 => 1
  | _ => 1
def mj_kind : Nat → Nat := fun y => match y with
  | 0 => 2
  | 1 => 1
  | 2 => 1
  | 3 => 1
  | 4 => 1
  | 5 => 1
  | 6 => 1
  | 7 => 1
  | 8 => 2
  | 9 => 1
  | 10 => 1
  | 11 => 1
  | 12 => 1
  | 13 => 1
  | 14 => 1
  | 15 => 1
  | 16 => 1
  | 17 => 1
  | 18 => 1
  | 19 => 1
  | 20 => 2
  | 21 => 1
  | 22 => 1
  | 23 => 1
  | 24 => 1
  | 25 => 1
  | 26 => 1
  | 27 => 1
  | 28 => 1
  | 29 => 1
  | 30 => 1
  | 31 => 1
  | 32 => 1
  | 33 => 1
  | 34 => 1
  | 35 => 1
  | 36 => 1
  | 37 => 1
  | 38 => 1
  | 39 => 1
  | 40 => 1
  | 41 => 0
  | 42 => 1
  | 43 => 1
  | 44 => 1
  | 45 => 1
  | 46 => 1
  | 47 => 1
  | 48 => 1
  | 49 => 1
  | 50 => 1
  | 51 => 1
  | 52 => 1
  | 53 => 1
  | 54 => 2
  | 55 => 1
  | 56 => 0
  | 57 => 1
  | 58 => 1
  | 59 => 1
  | 60 => 1
  | 61 => 1
  | 62 => 1
  | 63 => 1
  | 64 => 1
  | 65 => 1
  | 66 => 1
  | 67 => 1
  | 68 => 1
  | 69 => 1
  | 70 => 1
  | 71 => 1
  | 72 => 1
  | 73 => 1
  | 74 => 1
  | 75 => 1
  | 76 => 1
  | 77 => 1
  | 78 => 1
  | 79 => 1
  | 80 => 1
  | 81 => 1
  | 82 => 1
  | 83 => 1
  | 84 => 1
  | 85 => 1
  | 86 => 1
  | 87 => 1
  | 88 => 1
  | _ => 0
def mj_n : Nat := 89
def mj_F : List ((Nat × Nat) × (Nat × Nat)) := [((2, 11), (2, 0)), ((2, 15), (2, 1)), ((2, 21), (2, 2)), ((2, 25), (2, 3)), ((2, 28), (2, 4)), ((2, 32), (2, 5)), ((2, 35), (2, 6)), ((2, 38), (2, 7)), ((2, 41), (2, 8)), ((2, 44), (2, 9)), ((0, 30), (0, 0)), ((2, 183), (0, 0)), ((0, 33), (0, 1)), ((2, 122), (0, 1)), ((0, 9), (0, 2)), ((1, 45), (0, 2)), ((0, 15), (0, 3)), ((2, 62), (0, 3)), ((1, 42), (0, 3)), ((0, 19), (0, 4)), ((2, 54), (0, 4)), ((0, 23), (0, 5)), ((2, 94), (0, 5)), ((0, 26), (0, 6)), ((2, 167), (0, 6)), ((1, 23), (1, 0)), ((2, 91), (1, 0)), ((1, 26), (1, 1)), ((2, 129), (1, 1)), ((1, 29), (1, 2)), ((1, 9), (1, 3)), ((1, 15), (1, 4)), ((2, 106), (1, 4)), ((1, 19), (1, 5)), ((2, 119), (1, 5)), ((3, 59), (3, 0)), ((3, 63), (3, 1)), ((3, 7), (3, 2)), ((3, 13), (3, 3)), ((3, 16), (3, 4)), ((3, 19), (3, 5)), ((3, 22), (3, 6)), ((3, 70), (3, 7)), ((3, 25), (3, 8)), ((3, 28), (3, 9)), ((3, 31), (3, 10)), ((3, 34), (3, 11)), ((3, 37), (3, 12)), ((3, 40), (3, 13)), ((3, 73), (3, 14)), ((3, 128), (3, 15)), ((3, 43), (3, 16)), ((3, 46), (3, 17)), ((3, 49), (3, 18)), ((3, 52), (3, 19)), ((3, 55), (3, 20)), ((3, 109), (3, 21))]
def mj_M : List ((Nat × Nat) × Nat) := [((4, 18), 20), ((4, 22), 21), ((2, 47), 0), ((4, 27), 22), ((2, 50), 38), ((2, 58), 1), ((4, 32), 23), ((2, 65), 2), ((0, 36), 15), ((1, 52), 14), ((0, 42), 18), ((1, 68), 17), ((1, 55), 15), ((1, 48), 12), ((1, 59), 13), ((2, 69), 5), ((0, 50), 3), ((0, 46), 19), ((0, 54), 1), ((4, 36), 24), ((2, 73), 47), ((2, 171), 49), ((2, 179), 7), ((0, 63), 6), ((2, 175), 48), ((2, 77), 51), ((2, 97), 40), ((2, 161), 8), ((2, 184), 52), ((2, 191), 50), ((2, 194), 10), ((1, 32), 9), ((2, 188), 53), ((2, 197), 11), ((1, 36), 6), ((2, 125), 4), ((4, 40), 25), ((4, 54), 27), ((4, 58), 28), ((4, 63), 29), ((2, 101), 39), ((2, 105), 9), ((4, 70), 31), ((2, 115), 41), ((4, 74), 32), ((4, 79), 33), ((2, 132), 17), ((2, 136), 42), ((2, 164), 14), ((2, 146), 15), ((2, 149), 16), ((2, 140), 43), ((4, 83), 34), ((4, 87), 35), ((2, 143), 18), ((4, 91), 36), ((4, 95), 37), ((2, 152), 44), ((2, 155), 45), ((2, 158), 46), ((4, 7), 26), ((2, 87), 3), ((4, 15), 30), ((2, 108), 12), ((2, 114), 13), ((4, 21), 54), ((4, 50), 55), ((4, 26), 64), ((3, 66), 56), ((4, 31), 65), ((3, 91), 57), ((4, 35), 66), ((3, 95), 63), ((3, 76), 59), ((3, 80), 60), ((3, 88), 62), ((3, 84), 61), ((4, 43), 67), ((4, 49), 68), ((4, 57), 69), ((4, 39), 76), ((3, 115), 73), ((3, 105), 72), ((3, 99), 70), ((3, 102), 71), ((3, 118), 75), ((3, 112), 74), ((4, 62), 77), ((4, 66), 78), ((3, 122), 58), ((4, 69), 79), ((4, 73), 80), ((4, 78), 81), ((4, 82), 84), ((3, 131), 83), ((3, 125), 82), ((4, 86), 85), ((4, 90), 86), ((4, 94), 87), ((4, 98), 88)]
def mj_Kl : List ((Nat × Nat) × Nat) := [((4, 8), 2), ((2, 9), 0), ((2, 19), 1), ((4, 19), 3)]
def mj_Oi : List (Nat × Nat) := [(2, 1), (0, 3), (1, 3), (3, 1)]
def mj_Mx : List (Nat × Nat) := [(1, 63)]
def mj_Mi : List (Nat × Nat) := [(0, 58)]
def mj_fld (own idx : Nat) : Option (Nat × Nat) := (mj_F.find? (fun q => q.1 == (own, idx))).map (fun q => q.2)
def mj_mth (own idx : Nat) : Option (Nat) := (mj_M.find? (fun q => q.1 == (own, idx))).map (fun q => q.2)
def mj_cls (own idx : Nat) : Option (Nat) := (mj_Kl.find? (fun q => q.1 == (own, idx))).map (fun q => q.2)
set_option maxRecDepth 20000 in
theorem mj_code_in : ∀ y, y < mj_n → Cond.code (mj_y y) (mj_code y) (mj_maxL y) (mj_ret y) ∈ lw_tbl := by
  intro y hy
  match y, hy with
  | 0, _ => exact List.mem_of_getElem? (i := 93) rfl
  | 1, _ => exact List.mem_of_getElem? (i := 137) rfl
  | 2, _ => exact List.mem_of_getElem? (i := 145) rfl
  | 3, _ => exact List.mem_of_getElem? (i := 181) rfl
  | 4, _ => exact List.mem_of_getElem? (i := 278) rfl
  | 5, _ => exact List.mem_of_getElem? (i := 177) rfl
  | 6, _ => exact List.mem_of_getElem? (i := 206) rfl
  | 7, _ => exact List.mem_of_getElem? (i := 202) rfl
  | 8, _ => exact List.mem_of_getElem? (i := 225) rfl
  | 9, _ => exact List.mem_of_getElem? (i := 265) rfl
  | 10, _ => exact List.mem_of_getElem? (i := 261) rfl
  | 11, _ => exact List.mem_of_getElem? (i := 273) rfl
  | 12, _ => exact List.mem_of_getElem? (i := 166) rfl
  | 13, _ => exact List.mem_of_getElem? (i := 170) rfl
  | 14, _ => exact List.mem_of_getElem? (i := 153) rfl
  | 15, _ => exact List.mem_of_getElem? (i := 149) rfl
  | 16, _ => exact List.mem_of_getElem? (i := 325) rfl
  | 17, _ => exact List.mem_of_getElem? (i := 161) rfl
  | 18, _ => exact List.mem_of_getElem? (i := 157) rfl
  | 19, _ => exact List.mem_of_getElem? (i := 185) rfl
  | 20, _ => exact List.mem_of_getElem? (i := 46) rfl
  | 21, _ => exact List.mem_of_getElem? (i := 89) rfl
  | 22, _ => exact List.mem_of_getElem? (i := 129) rfl
  | 23, _ => exact List.mem_of_getElem? (i := 141) rfl
  | 24, _ => exact List.mem_of_getElem? (i := 190) rfl
  | 25, _ => exact List.mem_of_getElem? (i := 282) rfl
  | 26, _ => exact List.mem_of_getElem? (i := 366) rfl
  | 27, _ => exact List.mem_of_getElem? (i := 286) rfl
  | 28, _ => exact List.mem_of_getElem? (i := 290) rfl
  | 29, _ => exact List.mem_of_getElem? (i := 294) rfl
  | 30, _ => exact List.mem_of_getElem? (i := 444) rfl
  | 31, _ => exact List.mem_of_getElem? (i := 303) rfl
  | 32, _ => exact List.mem_of_getElem? (i := 310) rfl
  | 33, _ => exact List.mem_of_getElem? (i := 314) rfl
  | 34, _ => exact List.mem_of_getElem? (i := 333) rfl
  | 35, _ => exact List.mem_of_getElem? (i := 337) rfl
  | 36, _ => exact List.mem_of_getElem? (i := 342) rfl
  | 37, _ => exact List.mem_of_getElem? (i := 346) rfl
  | 38, _ => exact List.mem_of_getElem? (i := 133) rfl
  | 39, _ => exact List.mem_of_getElem? (i := 298) rfl
  | 40, _ => exact List.mem_of_getElem? (i := 221) rfl
  | 41, _ => exact List.mem_of_getElem? (i := 306) rfl
  | 42, _ => exact List.mem_of_getElem? (i := 319) rfl
  | 43, _ => exact List.mem_of_getElem? (i := 329) rfl
  | 44, _ => exact List.mem_of_getElem? (i := 350) rfl
  | 45, _ => exact List.mem_of_getElem? (i := 354) rfl
  | 46, _ => exact List.mem_of_getElem? (i := 358) rfl
  | 47, _ => exact List.mem_of_getElem? (i := 194) rfl
  | 48, _ => exact List.mem_of_getElem? (i := 213) rfl
  | 49, _ => exact List.mem_of_getElem? (i := 198) rfl
  | 50, _ => exact List.mem_of_getElem? (i := 257) rfl
  | 51, _ => exact List.mem_of_getElem? (i := 217) rfl
  | 52, _ => exact List.mem_of_getElem? (i := 253) rfl
  | 53, _ => exact List.mem_of_getElem? (i := 269) rfl
  | 54, _ => exact List.mem_of_getElem? (i := 452) rfl
  | 55, _ => exact List.mem_of_getElem? (i := 525) rfl
  | 56, _ => exact List.mem_of_getElem? (i := 532) rfl
  | 57, _ => exact List.mem_of_getElem? (i := 540) rfl
  | 58, _ => exact List.mem_of_getElem? (i := 616) rfl
  | 59, _ => exact List.mem_of_getElem? (i := 552) rfl
  | 60, _ => exact List.mem_of_getElem? (i := 556) rfl
  | 61, _ => exact List.mem_of_getElem? (i := 564) rfl
  | 62, _ => exact List.mem_of_getElem? (i := 560) rfl
  | 63, _ => exact List.mem_of_getElem? (i := 548) rfl
  | 64, _ => exact List.mem_of_getElem? (i := 529) rfl
  | 65, _ => exact List.mem_of_getElem? (i := 536) rfl
  | 66, _ => exact List.mem_of_getElem? (i := 544) rfl
  | 67, _ => exact List.mem_of_getElem? (i := 568) rfl
  | 68, _ => exact List.mem_of_getElem? (i := 572) rfl
  | 69, _ => exact List.mem_of_getElem? (i := 576) rfl
  | 70, _ => exact List.mem_of_getElem? (i := 592) rfl
  | 71, _ => exact List.mem_of_getElem? (i := 596) rfl
  | 72, _ => exact List.mem_of_getElem? (i := 588) rfl
  | 73, _ => exact List.mem_of_getElem? (i := 584) rfl
  | 74, _ => exact List.mem_of_getElem? (i := 604) rfl
  | 75, _ => exact List.mem_of_getElem? (i := 600) rfl
  | 76, _ => exact List.mem_of_getElem? (i := 580) rfl
  | 77, _ => exact List.mem_of_getElem? (i := 608) rfl
  | 78, _ => exact List.mem_of_getElem? (i := 612) rfl
  | 79, _ => exact List.mem_of_getElem? (i := 620) rfl
  | 80, _ => exact List.mem_of_getElem? (i := 624) rfl
  | 81, _ => exact List.mem_of_getElem? (i := 628) rfl
  | 82, _ => exact List.mem_of_getElem? (i := 640) rfl
  | 83, _ => exact List.mem_of_getElem? (i := 636) rfl
  | 84, _ => exact List.mem_of_getElem? (i := 632) rfl
  | 85, _ => exact List.mem_of_getElem? (i := 644) rfl
  | 86, _ => exact List.mem_of_getElem? (i := 648) rfl
  | 87, _ => exact List.mem_of_getElem? (i := 652) rfl
  | 88, _ => exact List.mem_of_getElem? (i := 656) rfl
  | k + 89, h => exact absurd h (by simp only [mj_n]; omega)
end
section
/-! ===== the small machine: the instructions that class, reference and law use, over a heap of named cells; what it says of a method is proved of the real machine once (part 04) ===== -/
abbrev mj_C : Type := (FieldType × vp_A) ⊕ (Nat × List Value)
abbrev mj_H : Type := Nat → Option mj_C
abbrev mj_Q : Type := Option Value → mj_H → Nat → Prop
/-- where it goes on: pc, locals, stack, heap, its size, cells left, slots left -/
abbrev mj_K : Type := Nat → List Value → List Value → mj_H → Nat → Nat → Nat → Prop
/-- a call: method, arguments, heap, its size, cells and slots that it may take, what holds behind it -/
abbrev mj_B : Type := Nat → List Value → mj_H → Nat → Nat → Nat → mj_Q → Prop
def mj_up (h : mj_H) (a : Nat) (c : mj_C) : mj_H := fun b => if b = a then some c else h b
def mj_N (ci : Nat) : Nat := match mj_cl[ci]? with
  | some q => q.2.2
  | none => 0
def mj_new (ci : Nat) : List Value := (List.range (mj_N ci)).map (fun k => defaultValue (mj_ty ci k))
def mj_fin (ci k : Nat) : Bool := match mj_cl[ci]? with
  | some q => (q.2.1 k).2.2.2
  | none => false
def mj_c0 (c : ClassFile.Cond) (x : Int32) : Prop := match c with
  | .eq => x = 0
  | .ne => ¬ x = 0
  | .lt => x < 0
  | .ge => 0 ≤ x
  | .gt => 0 < x
  | .le => x ≤ 0
def mj_c2 (c : ClassFile.Cond) (x y : Int32) : Prop := match c with
  | .eq => x = y
  | .ne => ¬ x = y
  | .lt => x < y
  | .ge => y ≤ x
  | .gt => y < x
  | .le => x ≤ y
def mj_tg (pc : Nat) (off : Int) : Nat := ((pc : Int) + off).toNat
def mj_lenOk (i : Instr) (len : Nat) : Bool := match i with
  | .tableswitch .. => true
  | .bipush _ | .iload _ | .aload _ | .istore _ | .astore _ | .newarray _ => len == 2
  | .sipush _ | .iinc _ _ | .goto _ | .ifCond _ _ | .if_icmp _ _ | .ifnull _ | .ifnonnull _ | .getfield _ | .putfield _ | .invokevirtual _ | .invokespecial _ | .invokestatic _ | .new _ | .anewarray _ => len == 3
  | _ => len == 1
def mj_zero (ty : FieldType) : (Nat → Int32) ⊕ (Nat → Int64) ⊕ (Nat → UInt32) ⊕ (Nat → UInt64) ⊕ (Nat → Option Nat) := match ty with
  | .long => .inr (.inl (fun _ => 0))
  | _ => .inl (fun _ => 0)
/-- the cells a method's instructions may hold: int arrays by .int, the script (never written) by .short -/
def mj_call (B : mj_B) (y na : Nat) (K : mj_K) (recv : Bool) (pc : Nat) (ls st : List Value) (h : mj_H) (n rc rs : Nat) : Prop :=
  (∀ v ∈ st, v.category = 1) ∧ st.length ≤ na + 8 ∧ ∃ mc ms, mc ≤ rc ∧ ms ≤ rs ∧
    (if recv then ∃ b fs, st[na]? = some (.ref b) ∧ h b = some (.inr (mj_own y, fs)) ∧ B y (.ref b :: (st.take na).reverse) h n mc ms (fun r h' n' => K (pc + 3) ls (r.toList ++ st.drop (na + 1)) h' n' (rc - mc) (rs - ms))
    else na ≤ st.length ∧ B y (st.take na).reverse h n mc ms (fun r h' n' => K (pc + 3) ls (r.toList ++ st.drop na) h' n' (rc - mc) (rs - ms)))
def mj_step (B : mj_B) (me f w : Nat) (Q : mj_Q) (K : mj_K) (i : Instr) (pc : Nat) (ls st : List Value) (h : mj_H) (n rc rs : Nat) : Prop :=
  match i with
  | .iconst k => K (pc + 1) ls (.int (Int32.ofInt k) :: st) h n rc rs
  | .bipush k => K (pc + 2) ls (.int (Int8.ofInt k).toInt32 :: st) h n rc rs
  | .sipush k => K (pc + 3) ls (.int (Int16.ofInt k).toInt32 :: st) h n rc rs
  | .aconst_null => K (pc + 1) ls (.null :: st) h n rc rs
  | .iload_n k => ∃ x, ls[k.val]? = some (.int x) ∧ K (pc + 1) ls (.int x :: st) h n rc rs
  | .iload k => ∃ x, ls[k]? = some (.int x) ∧ K (pc + 2) ls (.int x :: st) h n rc rs
  | .aload_n k => ∃ v, ls[k.val]? = some v ∧ v.isRef = true ∧ K (pc + 1) ls (v :: st) h n rc rs
  | .aload k => ∃ v, ls[k]? = some v ∧ v.isRef = true ∧ K (pc + 2) ls (v :: st) h n rc rs
  | .istore_n k => ∃ x r, st = .int x :: r ∧ k.val < ls.length ∧ K (pc + 1) (ls.set k.val (.int x)) r h n rc rs
  | .istore k => ∃ x r, st = .int x :: r ∧ k < ls.length ∧ K (pc + 2) (ls.set k (.int x)) r h n rc rs
  | .astore_n k => ∃ v r, st = v :: r ∧ v.isRef = true ∧ k.val < ls.length ∧ K (pc + 1) (ls.set k.val v) r h n rc rs
  | .astore k => ∃ v r, st = v :: r ∧ v.isRef = true ∧ k < ls.length ∧ K (pc + 2) (ls.set k v) r h n rc rs
  | .iinc k c => ∃ x, ls[k]? = some (.int x) ∧ K (pc + 3) (ls.set k (.int (x + Int32.ofInt c))) st h n rc rs
  | .iadd => ∃ x y r, st = .int y :: .int x :: r ∧ K (pc + 1) ls (.int (x + y) :: r) h n rc rs
  | .isub => ∃ x y r, st = .int y :: .int x :: r ∧ K (pc + 1) ls (.int (x - y) :: r) h n rc rs
  | .imul => ∃ x y r, st = .int y :: .int x :: r ∧ K (pc + 1) ls (.int (x * y) :: r) h n rc rs
  | .iand => ∃ x y r, st = .int y :: .int x :: r ∧ K (pc + 1) ls (.int (x &&& y) :: r) h n rc rs
  | .ior => ∃ x y r, st = .int y :: .int x :: r ∧ K (pc + 1) ls (.int (x ||| y) :: r) h n rc rs
  | .ishl => ∃ x y r, st = .int y :: .int x :: r ∧ K (pc + 1) ls (.int (x <<< (y &&& 31)) :: r) h n rc rs
  | .ishr => ∃ x y r, st = .int y :: .int x :: r ∧ K (pc + 1) ls (.int (x >>> (y &&& 31)) :: r) h n rc rs
  | .i2b => ∃ x r, st = .int x :: r ∧ K (pc + 1) ls (.int x.toInt8.toInt32 :: r) h n rc rs
  | .i2l => ∃ x r, st = .int x :: r ∧ K (pc + 1) ls (.long x.toInt64 :: r) h n rc rs
  | .lcmp => ∃ x y r, st = .long y :: .long x :: r ∧ K (pc + 1) ls (.int (lg_cmp x y) :: r) h n rc rs
  | .dup => ∃ v r, st = v :: r ∧ v.category = 1 ∧ K (pc + 1) ls (v :: v :: r) h n rc rs
  | .dup2 => ∃ v u r, st = v :: u :: r ∧ v.category = 1 ∧ u.category = 1 ∧ K (pc + 1) ls (v :: u :: v :: u :: r) h n rc rs
  | .pop => ∃ v r, st = v :: r ∧ v.category = 1 ∧ K (pc + 1) ls r h n rc rs
  | .goto off => 0 ≤ (pc : Int) + off ∧ K (mj_tg pc off) ls st h n rc rs
  | .ifCond c off => ∃ x r, st = .int x :: r ∧ 0 ≤ (pc : Int) + off ∧ (mj_c0 c x → K (mj_tg pc off) ls r h n rc rs) ∧ (¬ mj_c0 c x → K (pc + 3) ls r h n rc rs)
  | .if_icmp c off => ∃ x y r, st = .int y :: .int x :: r ∧ 0 ≤ (pc : Int) + off ∧ (mj_c2 c x y → K (mj_tg pc off) ls r h n rc rs) ∧ (¬ mj_c2 c x y → K (pc + 3) ls r h n rc rs)
  | .ifnull off => ∃ v r, st = v :: r ∧ v.isRef = true ∧ 0 ≤ (pc : Int) + off ∧ (v = .null → K (mj_tg pc off) ls r h n rc rs) ∧ (¬ v = .null → K (pc + 3) ls r h n rc rs)
  | .ifnonnull off => ∃ v r, st = v :: r ∧ v.isRef = true ∧ 0 ≤ (pc : Int) + off ∧ (¬ v = .null → K (mj_tg pc off) ls r h n rc rs) ∧ (v = .null → K (pc + 3) ls r h n rc rs)
  | .tableswitch d lo hi offs => ∃ x r, st = .int x :: r ∧ 0 ≤ (pc : Int) + d ∧ ((x.toInt < lo ∨ hi < x.toInt) → K (mj_tg pc d) ls r h n rc rs) ∧ (¬ (x.toInt < lo ∨ hi < x.toInt) → ∃ off, offs[(x.toInt - lo).toNat]? = some off ∧ 0 ≤ (pc : Int) + off ∧ K (mj_tg pc off) ls r h n rc rs)
  | .getfield idx => ∃ a r ci k fs v, st = .ref a :: r ∧ mj_fld (mj_own me) idx = some (ci, k) ∧ h a = some (.inr (ci, fs)) ∧ fs[k]? = some v ∧ K (pc + 3) ls (v :: r) h n rc rs
  | .putfield idx => ∃ v a r ci k fs, st = v :: .ref a :: r ∧ mj_fld (mj_own me) idx = some (ci, k) ∧ h a = some (.inr (ci, fs)) ∧ k < fs.length ∧ narrow (mj_ty ci k) v = v ∧ fits (mj_ty ci k) v = true ∧ (mj_fin ci k = true → mj_kind me = 2 ∧ mj_own me = ci) ∧ K (pc + 3) ls r (mj_up h a (.inr (ci, fs.set k v))) n rc rs
  | .new idx => ∃ ci, mj_cls (mj_own me) idx = some ci ∧ 1 ≤ rc ∧ mj_N ci ≤ rs ∧ K (pc + 3) ls (.ref n :: st) (mj_up h n (.inr (ci, mj_new ci))) (n + 1) (rc - 1) (rs - mj_N ci)
  | .newarray ty => ∃ x r, st = .int x :: r ∧ ¬ x < 0 ∧ x.toNatClampNeg ≤ 60000 ∧ 1 ≤ rc ∧ x.toNatClampNeg ≤ rs ∧ (newarray.typeOf ty = .int ∨ newarray.typeOf ty = .byte ∨ newarray.typeOf ty = .boolean ∨ newarray.typeOf ty = .long) ∧ K (pc + 2) ls (.ref n :: r) (mj_up h n (.inl (newarray.typeOf ty, x.toNatClampNeg, mj_zero (newarray.typeOf ty)))) (n + 1) (rc - 1) (rs - x.toNatClampNeg)
  | .anewarray idx => ∃ x r ci, st = .int x :: r ∧ mj_cls (mj_own me) idx = some ci ∧ ci < 2 ∧ ¬ x < 0 ∧ x.toNatClampNeg ≤ 60000 ∧ 1 ≤ rc ∧ x.toNatClampNeg ≤ rs ∧ K (pc + 3) ls (.ref n :: r) (mj_up h n (.inl (.object (mj_R ci), x.toNatClampNeg, .inr (.inr (.inr (.inr (fun _ => none))))))) (n + 1) (rc - 1) (rs - x.toNatClampNeg)
  | .arraylength => ∃ a r ty x, st = .ref a :: r ∧ h a = some (.inl (ty, x)) ∧ (ty = .int ∨ ty = .short ∨ ty = .byte) ∧ K (pc + 1) ls (.int (Int32.ofNat x.1) :: r) h n rc rs
  | .iaload => ∃ j a r ty m g, st = .int j :: .ref a :: r ∧ h a = some (.inl (ty, m, .inl g)) ∧ (ty = .int ∨ ty = .short) ∧ vp_in j m ∧ K (pc + 1) ls (.int (g j.toNatClampNeg) :: r) h n rc rs
  | .baload => ∃ j a r ty m g, st = .int j :: .ref a :: r ∧ h a = some (.inl (ty, m, .inl g)) ∧ (ty = .byte ∨ ty = .boolean) ∧ vp_in j m ∧ K (pc + 1) ls (.int (g j.toNatClampNeg) :: r) h n rc rs
  | .laload => ∃ j a r m g, st = .int j :: .ref a :: r ∧ h a = some (.inl (.long, m, .inr (.inl g))) ∧ vp_in j m ∧ K (pc + 1) ls (.long (g j.toNatClampNeg) :: r) h n rc rs
  | .aaload => ∃ j a r ci m g, st = .int j :: .ref a :: r ∧ h a = some (.inl (.object (mj_R ci), m, .inr (.inr (.inr (.inr g))))) ∧ ci < 2 ∧ vp_in j m ∧ K (pc + 1) ls (va_rf (g j.toNatClampNeg) :: r) h n rc rs
  | .iastore => ∃ x j a r m g, st = .int x :: .int j :: .ref a :: r ∧ h a = some (.inl (.int, m, .inl g)) ∧ vp_in j m ∧ K (pc + 1) ls r (mj_up h a (.inl (.int, m, .inl (upd g j.toNatClampNeg x)))) n rc rs
  | .bastore => ∃ x j a r ty m g, st = .int x :: .int j :: .ref a :: r ∧ h a = some (.inl (ty, m, .inl g)) ∧ (ty = .byte ∨ ty = .boolean) ∧ vp_in j m ∧ K (pc + 1) ls r (mj_up h a (.inl (ty, m, .inl (upd g j.toNatClampNeg (vp_nar ty x))))) n rc rs
  | .lastore => ∃ x j a r m g, st = .long x :: .int j :: .ref a :: r ∧ h a = some (.inl (.long, m, .inr (.inl g))) ∧ vp_in j m ∧ K (pc + 1) ls r (mj_up h a (.inl (.long, m, .inr (.inl (vp_updL g j.toNatClampNeg x))))) n rc rs
  | .aastore => ∃ v j a r ci fs m g, st = .ref v :: .int j :: .ref a :: r ∧ h a = some (.inl (.object (mj_R ci), m, .inr (.inr (.inr (.inr g))))) ∧ ci < 2 ∧ h v = some (.inr (ci, fs)) ∧ vp_in j m ∧ K (pc + 1) ls r (mj_up h a (.inl (.object (mj_R ci), m, .inr (.inr (.inr (.inr (va_up g j.toNatClampNeg (some v)))))))) n rc rs
  | .invokevirtual idx => ∃ y, mj_mth (mj_own me) idx = some y ∧ mj_kind y = 1 ∧ mj_call B y (mj_na y) K true pc ls st h n rc rs
  | .invokestatic idx => (∃ y, mj_mth (mj_own me) idx = some y ∧ mj_kind y = 0 ∧ mj_own y = mj_own me ∧ mj_call B y (mj_na y) K false pc ls st h n rc rs) ∨
      (∃ x y r, st = .int y :: .int x :: r ∧ 1 ≤ f ∧ (r.map fun v => v.category).sum + 13 ≤ w ∧
        (((mj_own me, idx) ∈ mj_Mx ∧ K (pc + 3) ls (.int (if x < y then y else x) :: r) h n rc rs) ∨ ((mj_own me, idx) ∈ mj_Mi ∧ K (pc + 3) ls (.int (if y < x then y else x) :: r) h n rc rs)))
  | .invokespecial idx => if (mj_own me, idx) ∈ mj_Oi then ∃ a r, st = .ref a :: r ∧ 1 ≤ f ∧ (r.map fun v => v.category).sum + 12 ≤ w ∧ K (pc + 3) ls r h n rc rs
      else ∃ y, mj_mth (mj_own me) idx = some y ∧ mj_kind y = 2 ∧ mj_call B y (mj_na y) K true pc ls st h n rc rs
  | .ireturn => ∃ x ty, st = [.int x] ∧ mj_ret me = some ty ∧ narrow ty (.int x) = .int x ∧ Q (some (.int x)) h n
  | .areturn => ∃ v C, st = [v] ∧ v.isRef = true ∧ mj_ret me = some (.object C) ∧ Q (some v) h n
  | .return_ => st = [] ∧ mj_ret me = none ∧ Q none h n
  | _ => False
def mj_one (B : mj_B) (me f w : Nat) (Q : mj_Q) (Z K : mj_K) : mj_K := fun pc ls st h n rc rs => Z pc ls st h n rc rs ∨ ∃ i len, decode (mj_code me) pc = .ok (i, len) ∧ mj_lenOk i len = true ∧ mj_step B me f w Q K i pc ls st h n rc rs
/-- the least K that its own step gives: it comes to a cut (Z) or to its end (Q) -/
def mj_wp (B : mj_B) (me f w : Nat) (Q : mj_Q) (Z : mj_K) : mj_K := fun pc ls st h n rc rs =>
  ∀ P : mj_K, (∀ pc ls st h n rc rs, mj_one B me f w Q Z P pc ls st h n rc rs → P pc ls st h n rc rs) → P pc ls st h n rc rs
def mj_entry (y : Nat) (args : List Value) : List Value := args ++ List.replicate (mj_maxL y - args.length) (.retAddr 0)
def mj_noZ : mj_K := fun _ _ _ _ _ _ _ => False
/-- calls with so many frames and so many words of locals left -/
def mj_bk : Nat → Nat → mj_B
  | 0, _ => fun _ _ _ _ _ _ _ => False
  | f + 1, w => fun y a h n mc ms Q => y < mj_n ∧ 19 + mj_maxL y ≤ w ∧ a.length ≤ mj_maxL y ∧ (∀ v ∈ a, v.category = 1) ∧ mj_wp (mj_bk f (w - (19 + mj_maxL y))) y f (w - (19 + mj_maxL y)) Q mj_noZ 0 (mj_entry y a) [] h n mc ms
end
section
/-! ===== what the tables say, entry by entry, decided by program ===== -/
/-- the words that a call hands on -/
def mj_T : List Cond := lw_tbl.filter goodWord
def mj_in (w : Cond) : Bool := decide (w ∈ lw_tbl) && goodWord w
theorem mj_in_T {w : Cond} (h : mj_in w = true) : w ∈ mj_T := by
  simp only [mj_in, Bool.and_eq_true, decide_eq_true_eq] at h
  exact List.mem_filter.mpr h
theorem mj_T_tbl {w : Cond} (h : w ∈ mj_T) : w ∈ lw_tbl := (List.mem_filter.mp h).1
theorem mj_T_good {w : Cond} (h : w ∈ mj_T) : goodWord w = true := (List.mem_filter.mp h).2
def mj_fOk (q : (Nat × Nat) × (Nat × Nat)) : Bool := match mj_cl[q.2.1]? with
  | some r => decide (q.2.2 < r.2.2) && mj_in (Cond.fieldLink (mj_R q.1.1) q.1.2 (r.2.1 q.2.2).1 (r.2.1 q.2.2).2.1 (r.2.1 q.2.2).2.2.1) && decide ((r.2.1 q.2.2).1 = r.1)
  | none => false
theorem mj_F_ok : mj_F.all mj_fOk = true := by decide +kernel
theorem mj_find {α : Type} {l : List ((Nat × Nat) × α)} {p : ((Nat × Nat) × α) → Bool} (h : l.all p = true) {own idx : Nat} {v : α} (hf : (l.find? (fun q => q.1 == (own, idx))).map (fun q => q.2) = some v) : p ((own, idx), v) = true := by
  cases he : l.find? (fun q => q.1 == (own, idx)) with
  | none => rw [he] at hf; cases hf
  | some q =>
    rw [he] at hf
    obtain ⟨k, w⟩ := q
    cases hf
    have h1 := List.find?_some he
    have h2 := List.mem_of_find?_eq_some he
    have h3 : k = (own, idx) := by simpa using h1
    subst h3
    exact List.all_eq_true.mp h _ h2
theorem mj_fld_spec {own idx ci k : Nat} (h : mj_fld own idx = some (ci, k)) : ∃ C T N, mj_cl[ci]? = some (C, T, N) ∧ k < N ∧ Cond.fieldLink (mj_R own) idx (T k).1 (T k).2.1 (T k).2.2.1 ∈ mj_T ∧ (T k).1 = C := by
  have h1 := mj_find mj_F_ok h
  simp only [mj_fOk] at h1
  cases hc : mj_cl[ci]? with
  | none => rw [hc] at h1; cases h1
  | some r =>
    rw [hc] at h1
    obtain ⟨C, T, N⟩ := r
    simp only [Bool.and_eq_true, decide_eq_true_eq] at h1
    exact ⟨C, T, N, rfl, h1.1.1, mj_in_T h1.1.2, h1.2⟩
def mj_mOk (q : (Nat × Nat) × Nat) : Bool := decide (q.2 < mj_n) && mj_in (Cond.methodLink (mj_R q.1.1) q.1.2 (mj_y q.2))
theorem mj_M_ok : mj_M.all mj_mOk = true := by decide +kernel
theorem mj_mth_spec {own idx y : Nat} (h : mj_mth own idx = some y) : y < mj_n ∧ Cond.methodLink (mj_R own) idx (mj_y y) ∈ mj_T := by
  have h1 := mj_find mj_M_ok h
  simp only [mj_mOk, Bool.and_eq_true, decide_eq_true_eq] at h1
  exact ⟨h1.1, mj_in_T h1.2⟩
def mj_kOk (q : (Nat × Nat) × Nat) : Bool := decide (q.2 < 4) && mj_in (Cond.classLink (mj_R q.1.1) q.1.2 (mj_R q.2)) && mj_in (Cond.instantiable (mj_R q.2) (mj_N q.2)) && mj_in (Cond.initialized (mj_R q.2))
theorem mj_Kl_ok : mj_Kl.all mj_kOk = true := by decide +kernel
theorem mj_cls_spec {own idx ci : Nat} (h : mj_cls own idx = some ci) : ci < 4 ∧ Cond.classLink (mj_R own) idx (mj_R ci) ∈ mj_T ∧ Cond.instantiable (mj_R ci) (mj_N ci) ∈ mj_T ∧ Cond.initialized (mj_R ci) ∈ mj_T := by
  have h1 := mj_find mj_Kl_ok h
  simp only [mj_kOk, Bool.and_eq_true, decide_eq_true_eq] at h1
  obtain ⟨⟨⟨h1, h2⟩, h3⟩, h4⟩ := h1
  exact ⟨h1, mj_in_T h2, mj_in_T h3, mj_in_T h4⟩
def mj_yOk (y : Nat) : Bool := decide ((mj_y y).cls = mj_R (mj_own y)) && plainName (mj_y y).cls && decide ((mj_y y).cls ≠ "java/lang/invoke/MethodHandle") && decide ((mj_y y).cls ≠ "java/lang/invoke/VarHandle") && decide ((parseMethodDescriptor (mj_y y).desc).map (fun d => d.parameters.length) = some (mj_na y)) && mj_in (Cond.initialized (mj_y y).cls) &&
  (match mj_kind y with
  | 0 => mj_in (Cond.static (mj_y y))
  | 1 => mj_in (Cond.instanceMethod (mj_y y)) && mj_in (Cond.selects (mj_y y).cls (mj_y y) (mj_y y))
  | _ => mj_in (Cond.instanceMethod (mj_y y)) && decide ((mj_y y).name = "<init>") && decide (mj_ret y = none)) && decide (mj_kind y < 3) && decide (mj_own y < 4)
set_option maxRecDepth 20000 in
theorem mj_Y_ok : (List.range mj_n).all mj_yOk = true := by decide +kernel
theorem mj_y_spec {y : Nat} (h : y < mj_n) : (mj_y y).cls = mj_R (mj_own y) ∧ plainName (mj_y y).cls = true ∧ (mj_y y).cls ≠ "java/lang/invoke/MethodHandle" ∧ (mj_y y).cls ≠ "java/lang/invoke/VarHandle" ∧ (parseMethodDescriptor (mj_y y).desc).map (fun d => d.parameters.length) = some (mj_na y) ∧ Cond.initialized (mj_y y).cls ∈ mj_T ∧ mj_own y < 4 ∧
    (mj_kind y = 0 → Cond.static (mj_y y) ∈ mj_T) ∧ (mj_kind y = 1 → Cond.instanceMethod (mj_y y) ∈ mj_T ∧ Cond.selects (mj_y y).cls (mj_y y) (mj_y y) ∈ mj_T) ∧ (mj_kind y = 2 → Cond.instanceMethod (mj_y y) ∈ mj_T ∧ (mj_y y).name = "<init>" ∧ mj_ret y = none) := by
  have h1 := List.all_eq_true.mp mj_Y_ok y (List.mem_range.mpr h)
  simp only [mj_yOk, Bool.and_eq_true, decide_eq_true_eq] at h1
  obtain ⟨⟨⟨⟨⟨⟨⟨⟨a1, a2⟩, a3⟩, a4⟩, a5⟩, a6⟩, a7⟩, a8⟩, a9⟩ := h1
  refine ⟨a1, a2, a3, a4, a5, mj_in_T a6, a9, fun e => ?_, fun e => ?_, fun e => ?_⟩
  · rw [e] at a7; exact mj_in_T a7
  · rw [e] at a7
    simp only [Bool.and_eq_true] at a7
    exact ⟨mj_in_T a7.1, mj_in_T a7.2⟩
  · rw [e] at a7
    simp only [Bool.and_eq_true, decide_eq_true_eq] at a7
    exact ⟨mj_in_T a7.1.1, a7.1.2, a7.2⟩
theorem mj_cl_cases {ci : Nat} {q : vw_C} {P : Nat → vw_C → Prop} (h0 : P 0 (RX0, TX0, 7)) (h1 : P 1 (RX1, TX1, 6)) (h2 : P 2 (RX2, TX2, 10)) (h3 : P 3 (RX3, TX3, 22)) (h : mj_cl[ci]? = some q) : P ci q := by
  match ci, h with
  | 0, h => cases h; exact h0
  | 1, h => cases h; exact h1
  | 2, h => cases h; exact h2
  | 3, h => cases h; exact h3
  | k + 4, h => simp [mj_cl] at h
theorem mj_ws0b : (u_ws RX0 TX0 7).all mj_in = true := by decide +kernel
theorem mj_ws0 : ∀ w ∈ u_ws RX0 TX0 7, w ∈ mj_T := fun w h => mj_in_T (List.all_eq_true.mp mj_ws0b w h)
theorem mj_ws1b : (u_ws RX1 TX1 6).all mj_in = true := by decide +kernel
theorem mj_ws1 : ∀ w ∈ u_ws RX1 TX1 6, w ∈ mj_T := fun w h => mj_in_T (List.all_eq_true.mp mj_ws1b w h)
theorem mj_ws2b : (u_ws RX2 TX2 10).all mj_in = true := by decide +kernel
theorem mj_ws2 : ∀ w ∈ u_ws RX2 TX2 10, w ∈ mj_T := fun w h => mj_in_T (List.all_eq_true.mp mj_ws2b w h)
theorem mj_ws3b : (u_ws RX3 TX3 22).all mj_in = true := by decide +kernel
theorem mj_ws3 : ∀ w ∈ u_ws RX3 TX3 22, w ∈ mj_T := fun w h => mj_in_T (List.all_eq_true.mp mj_ws3b w h)
theorem mj_wsIn {ci : Nat} {q : vw_C} (h : mj_cl[ci]? = some q) : ∀ w ∈ u_ws q.1 q.2.1 q.2.2, w ∈ mj_T :=
  mj_cl_cases (P := fun _ q => ∀ w ∈ u_ws q.1 q.2.1 q.2.2, w ∈ mj_T) mj_ws0 mj_ws1 mj_ws2 mj_ws3 h
theorem mj_tyOk {ci : Nat} {q : vw_C} (h : mj_cl[ci]? = some q) : ∀ k, k < q.2.2 → parseFieldDescriptor (q.2.1 k).2.2.1 = some (mj_ty ci k) :=
  mj_cl_cases (P := fun ci q => ∀ k, k < q.2.2 → parseFieldDescriptor (q.2.1 k).2.2.1 = some (mj_ty ci k)) tyX0_ok tyX1_ok tyX2_ok tyX3_ok h
theorem mj_nmOk {ci : Nat} {q : vw_C} (h : mj_cl[ci]? = some q) : ∀ a, a < q.2.2 → ∀ b, b < q.2.2 → a ≠ b → (q.2.1 a).2.1 ≠ (q.2.1 b).2.1 :=
  mj_cl_cases (P := fun _ q => ∀ a, a < q.2.2 → ∀ b, b < q.2.2 → a ≠ b → (q.2.1 a).2.1 ≠ (q.2.1 b).2.1) nmX0 nmX1 nmX2 nmX3 h
theorem mj_clR {ci : Nat} {q : vw_C} (h : mj_cl[ci]? = some q) : q.1 = mj_R ci ∧ q.2.2 = mj_N ci ∧ ∀ k, (q.2.1 k).2.2.2 = mj_fin ci k :=
  mj_cl_cases (P := fun ci q => q.1 = mj_R ci ∧ q.2.2 = mj_N ci ∧ ∀ k, (q.2.1 k).2.2.2 = mj_fin ci k) ⟨rfl, rfl, fun _ => rfl⟩ ⟨rfl, rfl, fun _ => rfl⟩ ⟨rfl, rfl, fun _ => rfl⟩ ⟨rfl, rfl, fun _ => rfl⟩ h
theorem mj_cl_some {ci : Nat} (h : ci < 4) : ∃ T N, mj_cl[ci]? = some (mj_R ci, T, N) ∧ N = mj_N ci := by
  match ci, h with
  | 0, _ => exact ⟨_, _, rfl, rfl⟩
  | 1, _ => exact ⟨_, _, rfl, rfl⟩
  | 2, _ => exact ⟨_, _, rfl, rfl⟩
  | 3, _ => exact ⟨_, _, rfl, rfl⟩
def mj_ws (y : Nat) : List Cond := Cond.code (mj_y y) (mj_code y) (mj_maxL y) (mj_ret y) :: mj_T
theorem mj_wsGood {y : Nat} (h : y < mj_n) : GoodIn mj_T (mj_ws y) := by
  intro w hw
  have hm : w ∈ mj_T := by
    rcases List.mem_cons.mp hw with e | e
    · rw [e]; exact List.mem_filter.mpr ⟨mj_code_in y h, rfl⟩
    · exact e
  exact ⟨hm, good_of_word (mj_T_good hm)⟩
end
section
/-! ===== the small machine's heap and locals, and the real ones ===== -/
def mj_okb (v : Value) : Bool := match v with
  | .int _ => true
  | .null => true
  | .ref _ => true
  | _ => false
theorem mj_ok_cat {v : Value} (h : mj_okb v = true) : v.category = 1 := by
  cases v <;> first | rfl | (simp [mj_okb] at h; done)
theorem mj_ok_ref {v : Value} (h : v.isRef = true) : mj_okb v = true := by
  cases v <;> first | rfl | (simp [Value.isRef] at h; done)
theorem mj_ref_cases {v : Value} (h : v.isRef = true) : v = .null ∨ ∃ a, v = .ref a := by
  cases v <;> first | (simp [Value.isRef] at h; done) | exact Or.inl rfl | exact Or.inr ⟨_, rfl⟩
/-- locals: what the small machine knows of them -/
def mj_lv (arr : Array Slot) (nL : Nat) (ls : List Value) : Prop := arr.size = nL ∧ lv_wf arr ∧ ls.length = nL ∧ ∀ (i : Nat) (v : Value), ls[i]? = some v → mj_okb v = true → arr[i]? = some (.val v)
def mj_prs (ls : List Value) : List (Nat × Value) := (List.range ls.length).filterMap (fun i => (ls[i]?).bind (fun v => if mj_okb v then some (i, v) else none))
theorem mj_prs_mem {ls : List Value} {q : Nat × Value} : q ∈ mj_prs ls ↔ ls[q.1]? = some q.2 ∧ mj_okb q.2 = true := by
  unfold mj_prs
  rw [List.mem_filterMap]
  constructor
  · rintro ⟨i, -, h⟩
    cases hv : ls[i]? with
    | none => rw [hv] at h; cases h
    | some v =>
      rw [hv] at h
      simp only [Option.bind_some] at h
      split at h
      · cases h; exact ⟨hv, by assumption⟩
      · cases h
  · rintro ⟨h1, h2⟩
    refine ⟨q.1, List.mem_range.mpr (List.getElem?_eq_some_iff.mp h1).1, ?_⟩
    rw [h1]
    simp [h2]
theorem mj_lv.has {arr : Array Slot} {nL : Nat} {ls : List Value} (h : mj_lv arr nL ls) : lv_has arr nL (mj_prs ls) :=
  ⟨h.1, h.2.1, fun q hq => h.2.2.2 q.1 q.2 (mj_prs_mem.mp hq).1 (mj_prs_mem.mp hq).2⟩
theorem mj_lv.set {arr arr' : Array Slot} {nL : Nat} {ls : List Value} {i : Nat} {v : Value} (h : mj_lv arr nL ls) (h' : lv_has arr' nL ((i, v) :: (mj_prs ls).filter (fun q => !(q.1 == i) && !(q.1 + 1 == i && q.2.category == 2)))) : mj_lv arr' nL (ls.set i v) := by
  refine ⟨h'.1, h'.2.1, by rw [List.length_set]; exact h.2.2.1, fun j u hj hu => ?_⟩
  rw [List.getElem?_set] at hj
  split at hj
  · split at hj
    · cases hj
      rename_i e _
      subst e
      exact h'.2.2 _ List.mem_cons_self
    · cases hj
  · rename_i e
    refine h'.2.2 (j, u) (List.mem_cons_of_mem _ (List.mem_filter.mpr ⟨mj_prs_mem.mpr ⟨hj, hu⟩, ?_⟩))
    have e2 : ¬ j = i := fun q => e q.symm
    simp [e2, mj_ok_cat hu]
theorem mj_lv.entry {vs : List Value} {nL : Nat} (hl : vs.length ≤ nL) (hc : ∀ v ∈ vs, v.category = 1) : mj_lv ((lg_sl vs ++ List.replicate (nL - (lg_sl vs).length) Slot.unset).toArray) nL (vs ++ List.replicate (nL - vs.length) (.retAddr 0)) := by
  have e : lg_sl vs = vs.map Slot.val := by
    clear hl
    induction vs with
    | nil => rfl
    | cons v vs ih =>
      have h1 := hc v List.mem_cons_self
      have h2 := ih (fun u hu => hc u (List.mem_cons_of_mem _ hu))
      unfold lg_sl at h2 ⊢
      simp [h1, h2]
  have hh := lv_entry vs (n := nL) (by rw [e, List.length_map]; exact hl)
  refine ⟨hh.1, hh.2.1, by simp; omega, fun i v hv ho => ?_⟩
  rw [e]
  by_cases hi : i < vs.length
  · rw [List.getElem?_append_left hi] at hv
    have e3 := (List.getElem?_eq_some_iff.mp hv).2
    simp [hi, List.getElem?_append_left]
    exact e3
  · rw [List.getElem?_append_right (by omega), List.getElem?_replicate] at hv
    split at hv
    · cases hv; simp [mj_okb] at ho
    · cases hv
/-- a cell of the small heap in the real one -/
def mj_at (D : va_G) (ca : FieldType → ClassId) (base : Nat) (U : State) (H : Heap) (a : Nat) (c : mj_C) : Prop := match c with
  | .inl q => if q.1 = .short then a < base ∧ ∃ g, q.2.2 = .inl g ∧ va_X a q.2.1 g U H else base ≤ a ∧ H[a]? = some (vp_cell (ca q.1) q.2)
  | .inr o => base ≤ a ∧ va_at D mj_cl (a, .inr o) H
def mj_HP (D : va_G) (ca : FieldType → ClassId) (base : Nat) (U : State) (h : mj_H) (H : Heap) : Prop := ∀ a c, h a = some c → mj_at D ca base U H a c
def mj_tys (ca : FieldType → ClassId) : List (ClassId × FieldType) := [(ca .int, .int), (ca .byte, .byte), (ca .boolean, .boolean), (ca .long, .long), (ca (.object RX0), .object RX0), (ca (.object RX1), .object RX1)]
def mj_Kn (D : va_G) (ca : FieldType → ClassId) (U : State) : Prop := va_K D mj_cl (mj_tys ca) U ∧ va_AO RX0 U ∧ va_AO RX1 U
theorem mj_Kn.moved {D : va_G} {ca : FieldType → ClassId} {u U : State} (hvm : u.vm.Alike U.vm) (h : mj_Kn D ca u) : mj_Kn D ca U := ⟨va_K.moved hvm h.1, va_AO.moved hvm h.2.1, va_AO.moved hvm h.2.2⟩
theorem mj_at.kept {D : va_G} {ca : FieldType → ClassId} {base : Nat} {U : State} {H H1 : Heap} {a : Nat} {c : mj_C} (h : mj_at D ca base U H a c) (hq : H1[a]? = H[a]?) : mj_at D ca base U H1 a c := by
  cases c with
  | inl q =>
    simp only [mj_at] at h ⊢
    split
    · rename_i e
      rw [if_pos e] at h
      obtain ⟨h1, g, h2, h3⟩ := h
      exact ⟨h1, g, h2, h3.kept hq⟩
    · rename_i e
      rw [if_neg e] at h
      exact ⟨h.1, by rw [hq]; exact h.2⟩
  | inr o => exact ⟨h.1, h.2.kept hq⟩
theorem mj_at.lt {D : va_G} {ca : FieldType → ClassId} {base : Nat} {U : State} {H : Heap} {a : Nat} {c : mj_C} (h : mj_at D ca base U H a c) : a < H.size := by
  cases c with
  | inl q =>
    simp only [mj_at] at h
    split at h
    · obtain ⟨h1, g, h2, scr, h3, -⟩ := h
      exact (Array.getElem?_eq_some_iff.mp h3).1
    · exact (Array.getElem?_eq_some_iff.mp h.2).1
  | inr o => exact va_at.lt h.2
theorem mj_at.moved {D : va_G} {ca : FieldType → ClassId} {base : Nat} {u U : State} {H : Heap} {a : Nat} {c : mj_C} (hvm : u.vm.Alike U.vm) (h : mj_at D ca base u H a c) : mj_at D ca base U H a c := by
  cases c with
  | inl q =>
    simp only [mj_at] at h ⊢
    split
    · rename_i e
      rw [if_pos e] at h
      obtain ⟨h1, g, h2, h3⟩ := h
      exact ⟨h1, g, h2, h3.moved hvm⟩
    · rename_i e
      rw [if_neg e] at h
      exact h
  | inr o => exact h
theorem mj_HP.moved {D : va_G} {ca : FieldType → ClassId} {base : Nat} {u U : State} {h : mj_H} {H : Heap} (hvm : u.vm.Alike U.vm) (hh : mj_HP D ca base u h H) : mj_HP D ca base U h H := fun a c e => (hh a c e).moved hvm
theorem mj_HP.put {D : va_G} {ca : FieldType → ClassId} {base : Nat} {U : State} {h : mj_H} {H H1 : Heap} {a : Nat} {c : mj_C} (hh : mj_HP D ca base U h H) (oq : ∀ q : Nat, q ≠ a → H1[q]? = H[q]?) (hc : mj_at D ca base U H1 a c) : mj_HP D ca base U (mj_up h a c) H1 := by
  intro b d hb
  unfold mj_up at hb
  split at hb
  · rename_i e; subst e; cases hb; exact hc
  · rename_i e; exact (hh b d hb).kept (oq b e)
theorem mj_HP.push {D : va_G} {ca : FieldType → ClassId} {base : Nat} {U : State} {h : mj_H} {H H1 : Heap} {c : mj_C} (hh : mj_HP D ca base U h H) (oq : ∀ q : Nat, q < H.size → H1[q]? = H[q]?) (hc : mj_at D ca base U H1 H.size c) : mj_HP D ca base U (mj_up h H.size c) H1 := by
  intro b d hb
  unfold mj_up at hb
  split at hb
  · rename_i e; subst e; cases hb; exact hc
  · exact (hh b d hb).kept (oq b (hh b d hb).lt)
theorem mj_arr {D : va_G} {ca : FieldType → ClassId} {base : Nat} {U : State} {h : mj_H} {H : Heap} {a : Nat} {ty : FieldType} {x : vp_A} (hh : mj_HP D ca base U h H) (e : h a = some (.inl (ty, x))) (hs : ty ≠ .short) : base ≤ a ∧ H[a]? = some (vp_cell (ca ty) x) := by
  have h1 := hh a _ e
  simp only [mj_at] at h1
  rwa [if_neg hs] at h1
theorem mj_scr {D : va_G} {ca : FieldType → ClassId} {base : Nat} {U : State} {h : mj_H} {H : Heap} {a : Nat} {x : vp_A} (hh : mj_HP D ca base U h H) (e : h a = some (.inl (.short, x))) : a < base ∧ ∃ g, x.2 = .inl g ∧ va_X a x.1 g U H := by
  have h1 := hh a _ e
  simpa only [mj_at, if_true] using h1
theorem mj_obj {D : va_G} {ca : FieldType → ClassId} {base : Nat} {U : State} {h : mj_H} {H : Heap} {a ci : Nat} {fs : List Value} (hh : mj_HP D ca base U h H) (e : h a = some (.inr (ci, fs))) : base ≤ a ∧ va_at D mj_cl (a, .inr (ci, fs)) H := hh a _ e
end
section
/-! ===== the heap's instructions over mj_HP ===== -/
section MJR
variable {p : Program} {l : Launch} {e : Env} {R : Room} {s : State} {m : MethodId} {args : Array Value} {below : List Frame} {meth : Method} {c : Code} {H : Heap} {locs : List Loc} {cells slots : Nat} {QW : State → Prop}
variable {cc : ByteArray} {pc : Nat} {arr : Array Slot} {rest : List Value} {D : va_G} {ca : FieldType → ClassId} {base : Nat} {h : mj_H} {own : Nat}
theorem mj_getR (hx : p.tables.exec = Jvm.exec) (hb : c.code = cc) (hts : ∀ w ∈ mj_T, w.before args s = true) (hown : s.vm.findClass (mj_R own) = some m.cls) (hK : mj_Kn D ca s) (hH : mj_HP D ca base s h H) {idx ci k a : Nat} {fs : List Value} {v : Value} (hf : mj_fld own idx = some (ci, k)) (ha : h a = some (.inr (ci, fs))) (hv : fs[k]? = some v) (hd : decode cc pc = .ok (.getfield idx, 3))
    (kk : W p l e R s m args below meth c H locs cells slots QW (F0 m (pc + 3) arr (v :: rest))) : W p l e R s m args below meth c H locs cells slots QW (F0 m pc arr (.ref a :: rest)) := by
  obtain ⟨C, T, N, hc, hk, hl, hC⟩ := mj_fld_spec hf
  have h1 := (mj_obj hH ha).2
  exact va_get (D := D) (cl := mj_cl) (ws := [(a, .inr (ci, fs))]) (tys := mj_tys ca) (C := C) (T := T) (N := N) hx hb hts (mj_wsIn hc) hown hK.1 (fun j q hq => by
    match j, hq with
    | 0, hq => cases hq; exact h1
    | j + 1, hq => simp at hq) 0 rfl hc k hk (hts _ hl) (fun _ h => h) hv hd kk
theorem mj_putR (hx : p.tables.exec = Jvm.exec) (hb : c.code = cc) (hts : ∀ w ∈ mj_T, w.before args s = true) (hown : s.vm.findClass (mj_R own) = some m.cls) (hK : mj_Kn D ca s) (hH : mj_HP D ca base s h H) (hS0 : va_S (fun q => base ≤ q) s.heap H locs) {idx ci k a : Nat} {fs : List Value} {v : Value} (hf : mj_fld own idx = some (ci, k)) (ha : h a = some (.inr (ci, fs))) (hl : k < fs.length) (hn : narrow (mj_ty ci k) v = v) (hfit : fits (mj_ty ci k) v = true) (hfin : mj_fin ci k = true → meth.name = "<init>" ∧ own = ci) (hd : decode cc pc = .ok (.putfield idx, 3))
    (kk : ∀ (H1 : Heap) (locs1 : List Loc), H1.size = H.size → mj_HP D ca base s (mj_up h a (.inr (ci, fs.set k v))) H1 → va_S (fun q => base ≤ q) s.heap H1 locs1 → W p l e R s m args below meth c H1 locs1 cells slots QW (F0 m (pc + 3) arr rest)) : W p l e R s m args below meth c H locs cells slots QW (F0 m pc arr (v :: .ref a :: rest)) := by
  obtain ⟨C, T, N, hc, hk, hli, hC⟩ := mj_fld_spec hf
  obtain ⟨hab, hat⟩ := mj_obj hH ha
  have hap := va_apart (own := mj_R own) hts (mj_wsIn hc) (mj_ty ci) (mj_tyOk hc) (mj_nmOk hc) hK.1 hc
  have hd2 := mj_tyOk hc k hk
  have hat' := hat
  obtain ⟨r, h1, cell, q1, q2, q3, q4⟩ := hat
  have hr : r = (C, T, N) := Option.some.inj (h1.symm.trans hc)
  subst hr
  obtain ⟨hS, hfc, kC, hkC, hkind⟩ := hK.1.1 ci _ hc
  obtain ⟨cf, kf, fi, f, hi, hsl⟩ := hS k hk
  have hlay := hts _ (mj_wsIn hc _ (u_in_lay hk))
  have hst := (u_facts hfc hkC (u_lays hts (mj_wsIn hc) hk) hi).1
  have fin : ∀ (H' : Heap), H'[a]? = some (cell.setSlot (D.2 ci k) v) → H'.size = H.size → (∀ q, q ≠ a → H'[q]? = H[q]?) → W p l e R s m args below meth c H' (locs ++ [⟨a, D.2 ci k⟩]) cells slots QW (F0 m (pc + 3) arr rest) := by
    intro H' e1 e2 e3
    refine kk H' _ e2 (hH.put e3 ⟨hab, _, hc, t_OB.to (V := updV (vp_V fs) k v) ⟨_, e1, q2, q3, t_set q4 hap hk v⟩ (fun j _ => vp_updV_set hl v j)⟩) (hS0.put e2 e3 hab)
  by_cases hF : mj_fin ci k = true
  · obtain ⟨hin2, hown2⟩ := hfin hF
    have hfl : (T k).2.2.2 = true := ((mj_clR hc).2.2 k).trans hF
    unfold u_lay at hlay
    rw [if_pos hfl] at hlay
    have hcf : m.cls = cf := by
      obtain ⟨_, _, c', _, _, _, -, -, hf', -, -, -, hown3, -⟩ := Cond.laysFinal_spec hlay
      have e1 : c' = cf := by have := hi.symm.trans hf'; simp at this; exact this.1.symm
      have e2 : (T k).1 = mj_R own := by rw [hC, hown2]; exact (mj_clR hc).1
      rw [e2] at hown3
      rw [← e1]; exact Option.some.inj (hown.symm.trans hown3)
    have h6 := u_fits hfc hkC hkind (Or.inr hlay) hi hd2 hn hfit
    refine W.putFinK hx hb hown (hts _ hli) hi hst hcf hin2 (by rw [q2]; exact h6) q1 q3 (by rw [hsl]; exact k2_hasslot (q4 k hk)) rfl rfl hd fun H' e1 e2 e3 => ?_
    rw [hsl] at e1 ⊢
    exact fin H' e1 e2 e3
  · have hfl : (T k).2.2.2 = false := by
      rw [(mj_clR hc).2.2 k]; simpa using hF
    unfold u_lay at hlay
    rw [if_neg (by rw [hfl]; decide)] at hlay
    have h6 := u_store hfc hkC hkind hlay hi hd2 hn hfit
    refine W.putK hx hb (f := f) ⟨hown, hts _ hli, ⟨_, _, _, hi⟩, hst⟩ (by rw [q2]; exact h6) q1 q3 (by rw [hsl]; exact k2_hasslot (q4 k hk)) rfl rfl hd fun H' e1 e2 e3 => ?_
    rw [hsl] at e1 ⊢
    exact fin H' e1 e2 e3
theorem mj_newR (hx : p.tables.exec = Jvm.exec) (hb : c.code = cc) (hts : ∀ w ∈ mj_T, w.before args s = true) (hown : s.vm.findClass (mj_R own) = some m.cls) (hK : mj_Kn D ca s) (hH : mj_HP D ca base s h H) (hS0 : va_S (fun q => base ≤ q) s.heap H locs) (hbase : base ≤ s.heap.size) {idx ci : Nat} (hc0 : mj_cls own idx = some ci) (h1 : cells + 1 ≤ R.cells) (h2 : slots + mj_N ci ≤ R.slots) (hd : decode cc pc = .ok (.new idx, 3))
    (kk : ∀ (H1 : Heap), H1.size = H.size + 1 → mj_HP D ca base s (mj_up h H.size (.inr (ci, mj_new ci))) H1 → va_S (fun q => base ≤ q) s.heap H1 locs → W p l e R s m args below meth c H1 locs (cells + 1) (slots + mj_N ci) QW (F0 m (pc + 3) arr (.ref H.size :: rest))) : W p l e R s m args below meth c H locs cells slots QW (F0 m pc arr rest) := by
  obtain ⟨hci, hl, hi, hz⟩ := mj_cls_spec hc0
  obtain ⟨T, N, hc, hN⟩ := mj_cl_some hci
  have hKn := hK.1.1 ci _ hc
  subst hN
  refine W.newcK hx hb hown (hts _ hl) (hts _ hi) (hts _ hz) rfl hd h1 h2 hKn.2.1 rfl fun H1 kC hkC e1 z1 o1 => ?_
  refine kk H1 z1 (hH.push o1 ⟨Nat.le_trans hbase hS0.1, _, hc, (u_born (mj_ty ci) hts (mj_wsIn hc) hKn hkC e1 (mj_tyOk hc)).to (fun j hj => ?_)⟩) ⟨Nat.le_trans hS0.1 (by omega), fun x g1 g2 => (o1 x (Nat.lt_of_lt_of_le g1 hS0.1)).trans (hS0.2.1 x g1 g2), hS0.2.2⟩
  have hj' : j < mj_N ci := hj
  simp [vp_V, mj_new, List.getD_eq_getElem?_getD, hj']
end MJR
end
section
/-! ===== arrays over mj_HP ===== -/
theorem mj_acI : mj_in (Cond.arrayClass .int) = true := by decide +kernel
theorem mj_acB : mj_in (Cond.arrayClass .byte) = true := by decide +kernel
theorem mj_acZ : mj_in (Cond.arrayClass .boolean) = true := by decide +kernel
theorem mj_acL : mj_in (Cond.arrayClass .long) = true := by decide +kernel
theorem mj_at_arr {D : va_G} {ca : FieldType → ClassId} {base : Nat} {U : State} {H : Heap} {a : Nat} {ty : FieldType} {x : vp_A} (hs : ty ≠ .short) (hab : base ≤ a) (hc : H[a]? = some (vp_cell (ca ty) x)) : mj_at D ca base U H a (.inl (ty, x)) := by
  simp only [mj_at]
  rw [if_neg hs]
  exact ⟨hab, hc⟩
theorem mj_tysAt (ca : FieldType → ClassId) : ∀ ci, ci < 2 → (mj_tys ca)[4 + ci]? = some (ca (.object (mj_R ci)), .object (mj_R ci))
  | 0, _ => rfl
  | 1, _ => rfl
theorem mj_AOat {D : va_G} {ca : FieldType → ClassId} {U : State} (h : mj_Kn D ca U) : ∀ ci, ci < 2 → va_AO (mj_R ci) U
  | 0, _ => h.2.1
  | 1, _ => h.2.2
section MJA
variable {p : Program} {l : Launch} {e : Env} {R : Room} {s : State} {m : MethodId} {args : Array Value} {below : List Frame} {meth : Method} {c : Code} {H : Heap} {locs : List Loc} {cells slots : Nat} {QW : State → Prop}
variable {cc : ByteArray} {pc : Nat} {arr : Array Slot} {rest : List Value} {D : va_G} {ca : FieldType → ClassId} {base : Nat} {h : mj_H} {own : Nat}
theorem mj_P1 {a : Nat} {x : va_E} (h1 : va_at D mj_cl (a, x) H) : va_P D mj_cl [(a, x)] H := fun j q hq => by
  match j, hq with
  | 0, hq => cases hq; exact h1
  | j + 1, hq => simp at hq
theorem mj_ialdR (hx : p.tables.exec = Jvm.exec) (hb : c.code = cc) (hK : mj_Kn D ca s) (hH : mj_HP D ca base s h H) {a n : Nat} {ty : FieldType} {f : Nat → Int32} (ha : h a = some (.inl (ty, n, .inl f))) (hty : ty = .int ∨ ty = .short) {i : Int32} (hin : vp_in i n) (hd : decode cc pc = .ok (.iaload, 1))
    (kk : W p l e R s m args below meth c H locs cells slots QW (F0 m (pc + 1) arr (.int (f i.toNatClampNeg) :: rest))) : W p l e R s m args below meth c H locs cells slots QW (F0 m pc arr (.int i :: .ref a :: rest)) := by
  rcases hty with rfl | rfl
  · exact va_iald (D := D) (cl := mj_cl) (tys := mj_tys ca) (ws := [(a, .inl (ca .int, n, .inl f))]) hx hb hK.1 (mj_P1 (mj_arr hH ha (by decide)).2) 0 0 rfl rfl hin hd kk
  · obtain ⟨-, g, hg, scr, h1, h2, h3, h4, h5⟩ := mj_scr hH ha
    cases hg
    have hlt : i.toNatClampNeg < n := Nat.not_le.mp fun q => hin (Or.inr q)
    exact W.iald (v := .int (f i.toNatClampNeg)) hx hb h1 h2 h3 (by rw [h4]; exact hin) (h5 _ hlt) rfl rfl hd kk
theorem mj_baldR (hx : p.tables.exec = Jvm.exec) (hb : c.code = cc) (hK : mj_Kn D ca s) (hH : mj_HP D ca base s h H) {a n : Nat} {ty : FieldType} {f : Nat → Int32} (ha : h a = some (.inl (ty, n, .inl f))) (hty : ty = .byte ∨ ty = .boolean) {i : Int32} (hin : vp_in i n) (hd : decode cc pc = .ok (.baload, 1))
    (kk : W p l e R s m args below meth c H locs cells slots QW (F0 m (pc + 1) arr (.int (f i.toNatClampNeg) :: rest))) : W p l e R s m args below meth c H locs cells slots QW (F0 m pc arr (.int i :: .ref a :: rest)) := by
  rcases hty with rfl | rfl
  · exact va_bald (D := D) (cl := mj_cl) (tys := mj_tys ca) (ws := [(a, .inl (ca .byte, n, .inl f))]) hx hb hK.1 (mj_P1 (mj_arr hH ha (by decide)).2) 0 1 rfl rfl hin hd kk
  · exact va_zald (D := D) (cl := mj_cl) (tys := mj_tys ca) (ws := [(a, .inl (ca .boolean, n, .inl f))]) hx hb hK.1 (mj_P1 (mj_arr hH ha (by decide)).2) 0 2 rfl rfl hin hd kk
theorem mj_laldR (hx : p.tables.exec = Jvm.exec) (hb : c.code = cc) (hK : mj_Kn D ca s) (hH : mj_HP D ca base s h H) {a n : Nat} {f : Nat → Int64} (ha : h a = some (.inl (.long, n, .inr (.inl f)))) {i : Int32} (hin : vp_in i n) (hd : decode cc pc = .ok (.laload, 1))
    (kk : W p l e R s m args below meth c H locs cells slots QW (F0 m (pc + 1) arr (.long (f i.toNatClampNeg) :: rest))) : W p l e R s m args below meth c H locs cells slots QW (F0 m pc arr (.int i :: .ref a :: rest)) := by
  exact va_lald (D := D) (cl := mj_cl) (tys := mj_tys ca) (ws := [(a, .inl (ca .long, n, .inr (.inl f)))]) hx hb hK.1 (mj_P1 (mj_arr hH ha (by decide)).2) 0 3 rfl rfl hin hd kk
theorem mj_aaldR (hx : p.tables.exec = Jvm.exec) (hb : c.code = cc) (hK : mj_Kn D ca s) (hH : mj_HP D ca base s h H) {a n ci : Nat} {f : Nat → Option Nat} (ha : h a = some (.inl (.object (mj_R ci), n, .inr (.inr (.inr (.inr f)))))) (hci : ci < 2) {i : Int32} (hin : vp_in i n) (hd : decode cc pc = .ok (.aaload, 1))
    (kk : W p l e R s m args below meth c H locs cells slots QW (F0 m (pc + 1) arr (va_rf (f i.toNatClampNeg) :: rest))) : W p l e R s m args below meth c H locs cells slots QW (F0 m pc arr (.int i :: .ref a :: rest)) := by
  have h1 := (mj_arr hH ha (by intro h; cases h)).2
  exact va_aldq (D := D) (cl := mj_cl) (tys := mj_tys ca) (C := mj_R ci) (ws := [(a, .inl (ca (.object (mj_R ci)), n, .inr (.inr (.inr (.inr f)))))]) hx hb hK.1 (mj_P1 h1) 0 (4 + ci) rfl (mj_tysAt ca ci hci) hin hd kk
theorem mj_alenR (hx : p.tables.exec = Jvm.exec) (hb : c.code = cc) (hK : mj_Kn D ca s) (hH : mj_HP D ca base s h H) {a : Nat} {ty : FieldType} {x : vp_A} (ha : h a = some (.inl (ty, x))) (hty : ty = .int ∨ ty = .short ∨ ty = .byte) (hd : decode cc pc = .ok (.arraylength, 1))
    (kk : W p l e R s m args below meth c H locs cells slots QW (F0 m (pc + 1) arr (.int (Int32.ofNat x.1) :: rest))) : W p l e R s m args below meth c H locs cells slots QW (F0 m pc arr (.ref a :: rest)) := by
  rcases hty with rfl | rfl | rfl
  · exact va_alen (D := D) (cl := mj_cl) (tys := mj_tys ca) (ws := [(a, .inl (ca .int, x))]) hx hb hK.1 (mj_P1 (mj_arr hH ha (by decide)).2) 0 0 rfl rfl rfl hd kk
  · obtain ⟨-, g, hg, scr, h1, h2, h3, h4, h5⟩ := mj_scr hH ha
    exact W.alen (n := Int32.ofNat x.1) hx hb h1 h2 (by rw [h4] <;> rfl) rfl rfl hd kk
  · exact va_alen (D := D) (cl := mj_cl) (tys := mj_tys ca) (ws := [(a, .inl (ca .byte, x))]) hx hb hK.1 (mj_P1 (mj_arr hH ha (by decide)).2) 0 1 rfl rfl rfl hd kk
theorem mj_updE {f : Nat → Int32} {k : Nat} {x : Int32} : (fun j => Value.int (upd f k x j)) = updV (fun j => .int (f j)) k (.int x) := by
  funext q
  by_cases hq : q = k
  · subst hq; simp [updV, upd]
  · simp [updV, upd, hq]
theorem mj_iastR (hx : p.tables.exec = Jvm.exec) (hb : c.code = cc) (hK : mj_Kn D ca s) (hH : mj_HP D ca base s h H) (hS0 : va_S (fun q => base ≤ q) s.heap H locs) {a n : Nat} {f : Nat → Int32} (ha : h a = some (.inl (.int, n, .inl f))) {i x : Int32} (hin : vp_in i n) (hd : decode cc pc = .ok (.iastore, 1))
    (kk : ∀ (H1 : Heap) (locs1 : List Loc), H1.size = H.size → mj_HP D ca base s (mj_up h a (.inl (.int, n, .inl (upd f i.toNatClampNeg x)))) H1 → va_S (fun q => base ≤ q) s.heap H1 locs1 → W p l e R s m args below meth c H1 locs1 cells slots QW (F0 m (pc + 1) arr rest)) : W p l e R s m args below meth c H locs cells slots QW (F0 m pc arr (.int x :: .int i :: .ref a :: rest)) := by
  obtain ⟨hab, hc⟩ := mj_arr hH ha (by decide)
  refine W.iast hx hb hc ((hK.1.2 0 _ rfl).1 n (fun j => .int (f j))) (fun q => by cases q) (by show ¬ (i < 0 ∨ (arrV _ _ _).slots.size ≤ _); rw [arrV_size]; exact hin) rfl rfl hd fun H1 e z oq => ?_
  refine kk H1 _ z (hH.put oq ?_) (hS0.put z oq hab)
  refine mj_at_arr (by decide) hab ?_
  rw [e, vp_cell_i, vp_cell_i, arrV_store, mj_updE]
theorem mj_bastR (hx : p.tables.exec = Jvm.exec) (hb : c.code = cc) (hK : mj_Kn D ca s) (hH : mj_HP D ca base s h H) (hS0 : va_S (fun q => base ≤ q) s.heap H locs) {a n : Nat} {ty : FieldType} {f : Nat → Int32} (ha : h a = some (.inl (ty, n, .inl f))) (hty : ty = .byte ∨ ty = .boolean) {i x : Int32} (hin : vp_in i n) (hd : decode cc pc = .ok (.bastore, 1))
    (kk : ∀ (H1 : Heap) (locs1 : List Loc), H1.size = H.size → mj_HP D ca base s (mj_up h a (.inl (ty, n, .inl (upd f i.toNatClampNeg (vp_nar ty x))))) H1 → va_S (fun q => base ≤ q) s.heap H1 locs1 → W p l e R s m args below meth c H1 locs1 cells slots QW (F0 m (pc + 1) arr rest)) : W p l e R s m args below meth c H locs cells slots QW (F0 m pc arr (.int x :: .int i :: .ref a :: rest)) := by
  rcases hty with rfl | rfl
  · obtain ⟨hab, hc⟩ := mj_arr hH ha (by decide)
    refine W.bast hx hb hc ((hK.1.2 1 _ rfl).1 n (fun j => .int (f j))) (fun q => by cases q) (by show ¬ (i < 0 ∨ (arrV _ _ _).slots.size ≤ _); rw [arrV_size]; exact hin) rfl rfl hd fun H1 e z oq => ?_
    refine kk H1 _ z (hH.put oq ?_) (hS0.put z oq hab)
    refine mj_at_arr (by decide) hab ?_
    rw [e, vp_cell_i, vp_cell_i, arrV_store, mj_updE]
    rfl
  · obtain ⟨hab, hc⟩ := mj_arr hH ha (by decide)
    refine W.zast hx hb hc ((hK.1.2 2 _ rfl).1 n (fun j => .int (f j))) (fun q => by cases q) (by show ¬ (i < 0 ∨ (arrV _ _ _).slots.size ≤ _); rw [arrV_size]; exact hin) rfl rfl hd fun H1 e z oq => ?_
    refine kk H1 _ z (hH.put oq ?_) (hS0.put z oq hab)
    refine mj_at_arr (by decide) hab ?_
    rw [e, vp_cell_i, vp_cell_i, arrV_store, mj_updE]
    rfl
theorem mj_lastR (hx : p.tables.exec = Jvm.exec) (hb : c.code = cc) (hK : mj_Kn D ca s) (hH : mj_HP D ca base s h H) (hS0 : va_S (fun q => base ≤ q) s.heap H locs) {a n : Nat} {f : Nat → Int64} (ha : h a = some (.inl (.long, n, .inr (.inl f)))) {i : Int32} {x : Int64} (hin : vp_in i n) (hd : decode cc pc = .ok (.lastore, 1))
    (kk : ∀ (H1 : Heap) (locs1 : List Loc), H1.size = H.size → mj_HP D ca base s (mj_up h a (.inl (.long, n, .inr (.inl (vp_updL f i.toNatClampNeg x))))) H1 → va_S (fun q => base ≤ q) s.heap H1 locs1 → W p l e R s m args below meth c H1 locs1 cells slots QW (F0 m (pc + 1) arr rest)) : W p l e R s m args below meth c H locs cells slots QW (F0 m pc arr (.long x :: .int i :: .ref a :: rest)) := by
  obtain ⟨hab, hc⟩ := mj_arr hH ha (by decide)
  refine W.last hx hb hc ((hK.1.2 3 _ rfl).1 n (fun j => .long (f j))) (fun q => by cases q) (by show ¬ (i < 0 ∨ (arrV _ _ _).slots.size ≤ _); rw [arrV_size]; exact hin) rfl rfl hd fun H1 e z oq => ?_
  refine kk H1 _ z (hH.put oq ?_) (hS0.put z oq hab)
  refine mj_at_arr (by decide) hab ?_
  rw [e, vp_cell_l, vp_cell_l, arrV_store]
  congr 2
  funext q
  by_cases hq : q = i.toNatClampNeg
  · subst hq; simp [updV, vp_updL]
  · simp [updV, vp_updL, hq]
theorem mj_aastR (hx : p.tables.exec = Jvm.exec) (hb : c.code = cc) (hK : mj_Kn D ca s) (hH : mj_HP D ca base s h H) (hS0 : va_S (fun q => base ≤ q) s.heap H locs) {a n ci v : Nat} {vs : List Value} {f : Nat → Option Nat} (ha : h a = some (.inl (.object (mj_R ci), n, .inr (.inr (.inr (.inr f)))))) (hci : ci < 2) (hv : h v = some (.inr (ci, vs))) {i : Int32} (hin : vp_in i n) (hd : decode cc pc = .ok (.aastore, 1))
    (kk : ∀ (H1 : Heap) (locs1 : List Loc), H1.size = H.size → mj_HP D ca base s (mj_up h a (.inl (.object (mj_R ci), n, .inr (.inr (.inr (.inr (va_up f i.toNatClampNeg (some v)))))))) H1 → va_S (fun q => base ≤ q) s.heap H1 locs1 → W p l e R s m args below meth c H1 locs1 cells slots QW (F0 m (pc + 1) arr rest)) : W p l e R s m args below meth c H locs cells slots QW (F0 m pc arr (.ref v :: .int i :: .ref a :: rest)) := by
  have hlt : i.toNatClampNeg < n := Nat.not_le.mp fun q => hin (Or.inr q)
  have h0 : ¬ i < 0 := fun q => hin (Or.inl q)
  obtain ⟨hab, hc⟩ := mj_arr hH ha (by intro h; cases h)
  obtain ⟨-, r', hr', cellV, g1, g2, g3, -⟩ := mj_obj hH hv
  obtain ⟨T, N, hcl, -⟩ := mj_cl_some (show ci < 4 by omega)
  have hcls := (hK.1.1 ci _ hcl).2
  have hty2 : (mj_tys ca)[4 + ci]? = some (ca (.object (mj_R ci)), .object (mj_R ci)) := mj_tysAt ca ci hci
  obtain ⟨kA, comp, k1, k2, k3, -⟩ := (hK.1.2 (4 + ci) _ hty2).2
  have hcomp : comp = D.1 ci := Option.some.inj (k3.symm.trans hcls.1)
  subst hcomp
  obtain ⟨kC, hkC, -⟩ := hcls.2
  refine W.aast hx hb hc (fun q h => by cases h) (fun h => by cases h) k1 k2 rfl hkC ⟨h0, by show _ < (arrV _ _ _).slots.size; rw [arrV_size]; exact hlt⟩ g1 (fun q h => by rw [g3] at h; cases h) (by rw [g2]; exact hkC) (by rw [g2]; exact va_assign hcls) rfl rfl hd fun H1 e z oq => ?_
  refine kk H1 _ z (hH.put oq ?_) (hS0.put z oq hab)
  refine mj_at_arr (by intro h; cases h) hab ?_
  rw [e, vp_cell_q, vp_cell_q, arrV_store]
  congr 2
  funext q
  by_cases hq : q = i.toNatClampNeg
  · subst hq; simp [updV, va_up, va_rf]
  · simp [updV, va_up, hq]
theorem mj_newaR (hx : p.tables.exec = Jvm.exec) (hb : c.code = cc) (hts : ∀ w ∈ mj_T, w.before args s = true) (hK : mj_Kn D ca s) (hH : mj_HP D ca base s h H) (hS0 : va_S (fun q => base ≤ q) s.heap H locs) (hbase : base ≤ s.heap.size) {aty : ArrayType} (hty : newarray.typeOf aty = .int ∨ newarray.typeOf aty = .byte ∨ newarray.typeOf aty = .boolean ∨ newarray.typeOf aty = .long) {x : Int32} (hx0 : ¬ x < 0) (hx1 : x.toNatClampNeg ≤ 60000) (h1 : cells + 1 ≤ R.cells) (h2 : slots + x.toNatClampNeg ≤ R.slots) (hd : decode cc pc = .ok (.newarray aty, 2))
    (kk : ∀ (H1 : Heap), H1.size = H.size + 1 → mj_HP D ca base s (mj_up h H.size (.inl (newarray.typeOf aty, x.toNatClampNeg, mj_zero (newarray.typeOf aty)))) H1 → va_S (fun q => base ≤ q) s.heap H1 locs → W p l e R s m args below meth c H1 locs (cells + 1) (slots + x.toNatClampNeg) QW (F0 m (pc + 2) arr (.ref H.size :: rest))) : W p l e R s m args below meth c H locs cells slots QW (F0 m pc arr (.int x :: rest)) := by
  have hac : (Cond.arrayClass (newarray.typeOf aty)).before args s = true := by
    rcases hty with q | q | q | q <;> rw [q]
    · exact hts _ (mj_in_T mj_acI)
    · exact hts _ (mj_in_T mj_acB)
    · exact hts _ (mj_in_T mj_acZ)
    · exact hts _ (mj_in_T mj_acL)
  have hns : newarray.typeOf aty ≠ .short := by rcases hty with q | q | q | q <;> rw [q] <;> decide
  refine va_newaK hx hb hac rfl hd rfl hx0 rfl ?_ h1 h2 rfl fun H1 cA e1 z1 o1 hAr hNm => ?_
  · rcases hty with q | q | q | q <;> rw [q] <;> simp [componentBytes] <;> omega
  have hca : cA = ca (newarray.typeOf aty) := by
    rcases hty with q | q | q | q <;> rw [q] at hNm ⊢
    · exact Option.some.inj (hNm.symm.trans (hK.1.2 0 _ rfl).2)
    · exact Option.some.inj (hNm.symm.trans (hK.1.2 1 _ rfl).2)
    · exact Option.some.inj (hNm.symm.trans (hK.1.2 2 _ rfl).2)
    · exact Option.some.inj (hNm.symm.trans (hK.1.2 3 _ rfl).2)
  subst hca
  refine kk H1 z1 (hH.push o1 ?_) ⟨Nat.le_trans hS0.1 (by omega), fun x g1 g2 => (o1 x (Nat.lt_of_lt_of_le g1 hS0.1)).trans (hS0.2.1 x g1 g2), hS0.2.2⟩
  refine mj_at_arr hns (Nat.le_trans hbase hS0.1) ?_
  rw [e1]
  rcases hty with q | q | q | q <;> rw [q] <;> rfl
theorem mj_newqR (hx : p.tables.exec = Jvm.exec) (hb : c.code = cc) (hts : ∀ w ∈ mj_T, w.before args s = true) (hown : s.vm.findClass (mj_R own) = some m.cls) (hK : mj_Kn D ca s) (hH : mj_HP D ca base s h H) (hS0 : va_S (fun q => base ≤ q) s.heap H locs) (hbase : base ≤ s.heap.size) {idx ci : Nat} (hc0 : mj_cls own idx = some ci) (hci : ci < 2) {x : Int32} (hx0 : ¬ x < 0) (hx1 : x.toNatClampNeg ≤ 60000) (h1 : cells + 1 ≤ R.cells) (h2 : slots + x.toNatClampNeg ≤ R.slots) (hd : decode cc pc = .ok (.anewarray idx, 3))
    (kk : ∀ (H1 : Heap), H1.size = H.size + 1 → mj_HP D ca base s (mj_up h H.size (.inl (.object (mj_R ci), x.toNatClampNeg, .inr (.inr (.inr (.inr (fun _ => none))))))) H1 → va_S (fun q => base ≤ q) s.heap H1 locs → W p l e R s m args below meth c H1 locs (cells + 1) (slots + x.toNatClampNeg) QW (F0 m (pc + 3) arr (.ref H.size :: rest))) : W p l e R s m args below meth c H locs cells slots QW (F0 m pc arr (.int x :: rest)) := by
  obtain ⟨-, hl, -, -⟩ := mj_cls_spec hc0
  have hao : va_AO (mj_R ci) s := mj_AOat hK ci hci
  have hty2 : (mj_tys ca)[4 + ci]? = some (ca (.object (mj_R ci)), .object (mj_R ci)) := mj_tysAt ca ci hci
  obtain ⟨-, -, -, -, -, hnm⟩ := (hK.1.2 (4 + ci) _ hty2).2
  refine W.anew hx hb hown (hts _ hl) (va_AO.use hao) rfl hd rfl hx0 (by omega) h1 h2 fun cA kA comp f1 f2 f3 f4 => ?_
  have hca : cA = ca (.object (mj_R ci)) := Option.some.inj (f1.symm.trans hnm)
  subst hca
  generalize hH1 : H.push ({ cls := ca (.object (mj_R ci)), slots := Array.replicate x.toNatClampNeg .null, vm := .none } : Cell) = H1
  have z1 : H1.size = H.size + 1 := by rw [← hH1, Array.size_push]
  have e1 : H1[H.size]? = some (arrV (ca (.object (mj_R ci))) x.toNatClampNeg (fun _ => .null)) := by rw [← hH1, Array.getElem?_push_size, ← arrV_new]
  have o1 : ∀ q : Nat, q < H.size → H1[q]? = H[q]? := fun q hq => by rw [← hH1, Array.getElem?_push, if_neg (Nat.ne_of_lt hq)]
  refine kk H1 z1 (hH.push o1 ?_) ⟨Nat.le_trans hS0.1 (by omega), fun x g1 g2 => (o1 x (Nat.lt_of_lt_of_le g1 hS0.1)).trans (hS0.2.1 x g1 g2), hS0.2.2⟩
  refine mj_at_arr (by intro h; cases h) (Nat.le_trans hbase hS0.1) ?_
  rw [vp_cell_q]
  exact e1
end MJA
end
section
/-! ===== calls of the small machine ===== -/
def mj_Pc (D : va_G) (ca : FieldType → ClassId) (base : Nat) (a : List Value) (h : mj_H) (n : Nat) : Array Value → State → Prop := va_Pc a (fun U => U.heap.size = n ∧ base ≤ n ∧ mj_HP D ca base U h U.heap ∧ mj_Kn D ca U)
def mj_Qc (D : va_G) (ca : FieldType → ClassId) (base : Nat) (Q : mj_Q) : Array Value → State → Outcome → State → Prop := fun _ st oc t => ∃ r h' n', oc = .returned r ∧ Q r h' n' ∧ t.heap.size = n' ∧ mj_HP D ca base t h' t.heap ∧ mj_Kn D ca t ∧ st.heap.size ≤ t.heap.size ∧ ∀ q : Nat, q < base → t.heap[q]? = st.heap[q]?
theorem mj_Pc.blind {D : va_G} {ca : FieldType → ClassId} {base : Nat} {a : List Value} {h : mj_H} {n : Nat} : FrameBlind (mj_Pc D ca base a h n) := fun _ U g mk q => by
  obtain ⟨q0, q1, q2, q3, q4⟩ := q
  exact ⟨q0, q1, q2, q3.moved (u := U) (U := U.calling g mk _) (Vm.Alike.refl U.vm), q4.moved (u := U) (U := U.calling g mk _) (Vm.Alike.refl U.vm)⟩
theorem mj_sum1 : ∀ {st : List Value}, (∀ v ∈ st, v.category = 1) → (st.map fun v => v.category).sum = st.length
  | [], _ => rfl
  | v :: st, h => by
    have h1 := h v List.mem_cons_self
    have h2 := mj_sum1 (fun u hu => h u (List.mem_cons_of_mem _ hu))
    simp only [List.map_cons, List.sum_cons, List.length_cons, h1, h2]; omega
theorem mj_split {st : List Value} {na : Nat} {v : Value} (h : st[na]? = some v) : st = (st.take na).reverse.reverse ++ v :: st.drop (na + 1) := by
  obtain ⟨h1, h2⟩ := List.getElem?_eq_some_iff.mp h
  rw [List.reverse_reverse, ← h2, ← List.drop_eq_getElem_cons h1, List.take_append_drop]
section MJC
variable {p : Program} {l : Launch} {e : Env} {R : Room} {s : State} {m : MethodId} {args : Array Value} {below : List Frame} {meth : Method} {c : Code} {H : Heap} {locs : List Loc} {cells slots : Nat} {QW : State → Prop}
variable {cc : ByteArray} {pc : Nat} {arr : Array Slot} {rest st0 : List Value} {D : va_G} {ca : FieldType → ClassId} {base : Nat} {h : mj_H} {own : Nat}
theorem mj_afterR {Q' : mj_Q} {a : Array Value} {mc ms : Nat} (hr : va_Run p l e R s m args below meth c H locs cells slots mc ms (F0 m pc arr st0) rest (mj_Qc D ca base Q' a) (fun q => base ≤ q)) (hS0 : va_S (fun q => base ≤ q) s.heap H locs)
    (kk : ∀ (r : Option Value) (h' : mj_H) (n' : Nat) (H1 : Heap) (locs1 : List Loc), Q' r h' n' → H1.size = n' → mj_HP D ca base s h' H1 → va_S (fun q => base ≤ q) s.heap H1 locs1 → W p l e R s m args below meth c H1 locs1 (cells + mc) (slots + ms) QW (F0 m (pc + 3) arr (r.toList ++ rest))) : W p l e R s m args below meth c H locs cells slots QW (F0 m pc arr st0) := by
  intro T hT X
  obtain ⟨v, st₀, t, T', L, h0, X', hL, e1, e2, ⟨r, h', n', hv, hq, hz, hp, hk, hle, hun⟩, st⟩ := hr T hT X
  cases hv
  rw [h0] at hle hun
  have hal : s.vm.Alike t.vm := by rw [← e2]; exact X'.warmed.alike
  obtain ⟨t2, a1, b1⟩ := kk v h' n' T'.heap (locs ++ L) hq (by rw [e1]; exact hz) (by rw [e1]; exact hp.moved hal.symm)
    ⟨Nat.le_trans hS0.1 (by rw [e1]; exact hle), fun q h1 h2 => by rw [e1, hun q (Nat.not_le.mp h2)]; exact hS0.2.1 q h1 h2, fun q hq => by
      rcases List.mem_append.mp hq with h | h
      · exact hS0.2.2 q h
      · exact hL q h⟩ T' rfl X'
  exact ⟨t2, st t2 a1, b1⟩
/-- what a callee's contract is -/
def mj_Met (l : Launch) (D : va_G) (ca : FieldType → ClassId) (base : Nat) (fr lo : Nat) (y : Nat) (a : List Value) (h : mj_H) (n mc ms : Nat) (Q : mj_Q) : Prop :=
  y < mj_n ∧ 19 + mj_maxL y ≤ lo ∧ 1 ≤ fr ∧ Met l (mj_y y) (mj_ws y) { frames := fr - 1, cells := mc, slots := ms, locals := lo - (19 + mj_maxL y) } (mj_Pc D ca base a h n) (mj_Qc D ca base Q) mc ms (fun q => base ≤ q)
theorem mj_cb {y idx mc ms : Nat} (hy : y < mj_n) (hts : ∀ w ∈ mj_T, w.before args s = true) (hl : Cond.methodLink (mj_R own) idx (mj_y y) ∈ mj_T) (hlo : 19 + mj_maxL y ≤ R.locals) (hfr : 1 ≤ R.frames) : CallB R s args (mj_R own) idx (mj_y y) (mj_code y) (mj_maxL y) (mj_ret y) (mj_ws y) { frames := R.frames - 1, cells := mc, slots := ms, locals := R.locals - (19 + mj_maxL y) } mc ms (mj_na y) := by
  obtain ⟨a1, a2, a3, a4, a5, a6, a7, a8, a9, a10⟩ := mj_y_spec hy
  exact callB_of (mj_na y) hts (mj_wsGood hy) rfl rfl rfl (hts _ a6) (hts _ hl) ⟨a3, a4, a5⟩ ⟨by show R.frames - 1 + 1 ≤ _; omega, by show 8 + (mj_maxL y + 11) + (R.locals - (19 + mj_maxL y)) ≤ _; omega⟩
theorem mj_preU {a : List Value} {n : Nat} (hH : mj_HP D ca base s h H) (hK : mj_Kn D ca s) (hn : H.size = n) (hb : base ≤ n) : ∀ U : State, U.heap = H → s.WarmedH U.vm → mj_Pc D ca base a h n a.toArray U := fun U hU hW =>
  ⟨rfl, by rw [hU]; exact hn, hb, by rw [hU]; exact hH.moved hW.alike, hK.moved hW.alike⟩
theorem mj_recv {b ci : Nat} {fs : List Value} (hH : mj_HP D ca base s h H) (hK : mj_Kn D ca s) (hb : h b = some (.inr (ci, fs))) : ∃ cell : Cell, H[b]? = some cell ∧ cell.vm.isStatics = false ∧ s.vm.findClass (mj_R ci) = some cell.cls := by
  obtain ⟨-, q', h1, cell, g1, g2, g3, -⟩ := mj_obj hH hb
  exact ⟨cell, g1, by rw [g3]; rfl, by rw [g2, ← (mj_clR h1).1]; exact (hK.1.1 ci q' h1).2.1⟩
theorem mj_runVR {y idx na mc ms n b : Nat} {fs st : List Value} {Q' : mj_Q} (hx : p.tables.exec = Jvm.exec) (hb : c.code = cc) (hml : c.maxLocals = arr.size) (hts : ∀ w ∈ mj_T, w.before args s = true) (hown : s.vm.findClass (mj_R own) = some m.cls) (hK : mj_Kn D ca s) (hH : mj_HP D ca base s h H) (hn : H.size = n) (hbn : base ≤ n) (hS0 : va_S (fun q => base ≤ q) s.heap H locs)
    (hl : mj_mth own idx = some y) (hkind : mj_kind y = 1) (hna : mj_na y = na) (hc1 : ∀ v ∈ st, v.category = 1) (hlen : st.length ≤ na + 8) (hst : st[na]? = some (.ref b)) (hrb : h b = some (.inr (mj_own y, fs))) (hM : mj_Met l D ca base R.frames R.locals y (.ref b :: (st.take na).reverse) h n mc ms Q') (h1 : cells + mc ≤ R.cells) (h2 : slots + ms ≤ R.slots) (hd : decode cc pc = .ok (.invokevirtual idx, 3))
    (kk : ∀ (r : Option Value) (h' : mj_H) (n' : Nat) (H1 : Heap) (locs1 : List Loc), Q' r h' n' → H1.size = n' → mj_HP D ca base s h' H1 → va_S (fun q => base ≤ q) s.heap H1 locs1 → W p l e R s m args below meth c H1 locs1 (cells + mc) (slots + ms) QW (F0 m (pc + 3) arr (r.toList ++ st.drop (na + 1)))) : W p l e R s m args below meth c H locs cells slots QW (F0 m pc arr st) := by
  obtain ⟨hy, hlo, hfr, hM⟩ := hM
  obtain ⟨-, hlk⟩ := mj_mth_spec hl
  obtain ⟨a1, a2, a3, a4, a5, a6, a7, a8, a9, a10⟩ := mj_y_spec hy
  obtain ⟨b1, b2⟩ := a9 hkind
  have hlt := (List.getElem?_eq_some_iff.mp hst).1
  refine mj_afterR (va_runV (As := (st.take na).reverse) (rest := st.drop (na + 1)) (b := b) (C := (mj_y y).cls) (nL := arr.size) ⟨hx, hb, hml, hown, hts⟩ hM ⟨mj_cb hy hts hlk hlo hfr, hts _ b1, hts _ b2⟩ ⟨mj_Pc.blind, by rw [a1]; exact mj_recv hH hK hrb, mj_preU hH hK hn hbn⟩ rfl (by rw [List.length_reverse, List.length_take, hna]; omega) rfl (mj_split hst) (lv_room ?_) hd ⟨h1, h2⟩) hS0 kk
  rw [mj_sum1 (fun v hv => hc1 v (List.mem_of_mem_drop hv)), List.length_drop]; omega
theorem mj_runIR {y idx na mc ms n b : Nat} {fs st : List Value} {Q' : mj_Q} (hx : p.tables.exec = Jvm.exec) (hb : c.code = cc) (hml : c.maxLocals = arr.size) (hts : ∀ w ∈ mj_T, w.before args s = true) (hown : s.vm.findClass (mj_R own) = some m.cls) (hK : mj_Kn D ca s) (hH : mj_HP D ca base s h H) (hn : H.size = n) (hbn : base ≤ n) (hS0 : va_S (fun q => base ≤ q) s.heap H locs)
    (hl : mj_mth own idx = some y) (hkind : mj_kind y = 2) (hna : mj_na y = na) (hc1 : ∀ v ∈ st, v.category = 1) (hlen : st.length ≤ na + 8) (hst : st[na]? = some (.ref b)) (hM : mj_Met l D ca base R.frames R.locals y (.ref b :: (st.take na).reverse) h n mc ms Q') (h1 : cells + mc ≤ R.cells) (h2 : slots + ms ≤ R.slots) (hd : decode cc pc = .ok (.invokespecial idx, 3))
    (kk : ∀ (r : Option Value) (h' : mj_H) (n' : Nat) (H1 : Heap) (locs1 : List Loc), Q' r h' n' → H1.size = n' → mj_HP D ca base s h' H1 → va_S (fun q => base ≤ q) s.heap H1 locs1 → W p l e R s m args below meth c H1 locs1 (cells + mc) (slots + ms) QW (F0 m (pc + 3) arr (r.toList ++ st.drop (na + 1)))) : W p l e R s m args below meth c H locs cells slots QW (F0 m pc arr st) := by
  obtain ⟨hy, hlo, hfr, hM⟩ := hM
  obtain ⟨-, hlk⟩ := mj_mth_spec hl
  obtain ⟨a1, a2, a3, a4, a5, a6, a7, a8, a9, a10⟩ := mj_y_spec hy
  obtain ⟨b1, b2, b3⟩ := a10 hkind
  have hlt := (List.getElem?_eq_some_iff.mp hst).1
  have hcb := mj_cb (s := s) (R := R) (args := args) (own := own) (mc := mc) (ms := ms) hy hts hlk hlo hfr
  rw [b3] at hcb
  refine mj_afterR (va_runI (As := (st.take na).reverse) (rest := st.drop (na + 1)) (b := b) (nL := arr.size) ⟨hx, hb, hml, hown, hts⟩ hM ⟨hcb, b2, hts _ b1⟩ ⟨mj_Pc.blind, mj_preU hH hK hn hbn⟩ rfl (by rw [List.length_reverse, List.length_take, hna]; omega) rfl (mj_split hst) (lv_room ?_) hd ⟨h1, h2⟩) hS0 kk
  rw [mj_sum1 (fun v hv => hc1 v (List.mem_of_mem_drop hv)), List.length_drop]; omega
theorem mj_runSR {y idx na mc ms n : Nat} {st : List Value} {Q' : mj_Q} (hx : p.tables.exec = Jvm.exec) (hb : c.code = cc) (hml : c.maxLocals = arr.size) (hts : ∀ w ∈ mj_T, w.before args s = true) (hown : s.vm.findClass (mj_R own) = some m.cls) (hK : mj_Kn D ca s) (hH : mj_HP D ca base s h H) (hn : H.size = n) (hbn : base ≤ n) (hS0 : va_S (fun q => base ≤ q) s.heap H locs)
    (hl : mj_mth own idx = some y) (hkind : mj_kind y = 0) (hna : mj_na y = na) (hc1 : ∀ v ∈ st, v.category = 1) (hlen : st.length ≤ na + 8) (hst : na ≤ st.length) (hM : mj_Met l D ca base R.frames R.locals y (st.take na).reverse h n mc ms Q') (h1 : cells + mc ≤ R.cells) (h2 : slots + ms ≤ R.slots) (hd : decode cc pc = .ok (.invokestatic idx, 3))
    (kk : ∀ (r : Option Value) (h' : mj_H) (n' : Nat) (H1 : Heap) (locs1 : List Loc), Q' r h' n' → H1.size = n' → mj_HP D ca base s h' H1 → va_S (fun q => base ≤ q) s.heap H1 locs1 → W p l e R s m args below meth c H1 locs1 (cells + mc) (slots + ms) QW (F0 m (pc + 3) arr (r.toList ++ st.drop na))) : W p l e R s m args below meth c H locs cells slots QW (F0 m pc arr st) := by
  obtain ⟨hy, hlo, hfr, hM⟩ := hM
  obtain ⟨-, hlk⟩ := mj_mth_spec hl
  obtain ⟨a1, a2, a3, a4, a5, a6, a7, a8, a9, a10⟩ := mj_y_spec hy
  have b1 := a8 hkind
  refine mj_afterR (va_runS (As := (st.take na).reverse) (rest := st.drop na) (nL := arr.size) ⟨hx, hb, hml, hown, hts⟩ hM ⟨mj_cb hy hts hlk hlo hfr, hts _ b1⟩ ⟨mj_Pc.blind, mj_preU hH hK hn hbn⟩ rfl (by rw [List.length_reverse, List.length_take, hna]; omega) rfl (by rw [List.reverse_reverse, List.take_append_drop]) (lv_room ?_) hd ⟨h1, h2⟩) hS0 kk
  rw [mj_sum1 (fun v hv => hc1 v (List.mem_of_mem_drop hv)), List.length_drop]; omega
end MJC
end
section
/-! ===== what the small machine says of a frame holds of the real one ===== -/
theorem mj_Oi_ok : mj_Oi.all (fun q => mj_in (Cond.methodLink (mj_R q.1) q.2 objectInit)) = true := by decide +kernel
theorem mj_Mx_ok : mj_Mx.all (fun q => mj_in (Cond.methodLink (mj_R q.1) q.2 Lib.Math.max.name)) = true := by decide +kernel
theorem mj_Mi_ok : mj_Mi.all (fun q => mj_in (Cond.methodLink (mj_R q.1) q.2 Lib.Math.min.name)) = true := by decide +kernel
theorem mj_jdk1 : mj_in (Cond.instanceMethod objectInit) = true := by decide +kernel
theorem mj_jdk2 : mj_in (Cond.code objectInit ⟨#[0xb1]⟩ 1 none) = true := by decide +kernel
theorem mj_jdk3 : mj_in (Cond.static Lib.Math.max.name) = true := by decide +kernel
theorem mj_jdk4 : mj_in (Cond.static Lib.Math.min.name) = true := by decide +kernel
theorem mj_jdk5 : mj_in (Cond.initialized "java/lang/Math") = true := by decide +kernel
theorem mj_jdk6 : mj_in (Cond.code Lib.Math.max.name Lib.Math.max.code 2 (some .int)) = true := by decide +kernel
theorem mj_jdk7 : mj_in (Cond.code Lib.Math.min.name Lib.Math.min.code 2 (some .int)) = true := by decide +kernel
def mj_isRet (me pc : Nat) (st : List Value) (r : Option Value) : Prop :=
  (∃ x ty, decode (mj_code me) pc = .ok (.ireturn, 1) ∧ st = [.int x] ∧ r = some (.int x) ∧ mj_ret me = some ty ∧ narrow ty (.int x) = .int x) ∨
  (∃ v C, decode (mj_code me) pc = .ok (.areturn, 1) ∧ st = [v] ∧ r = some v ∧ v.isRef = true ∧ mj_ret me = some (.object C)) ∨
  (decode (mj_code me) pc = .ok (.return_, 1) ∧ st = [] ∧ r = none ∧ mj_ret me = none)
theorem mj_tgt {pc : Nat} {off : Int} (h : 0 ≤ (pc : Int) + off) : (pc : Int) + off = ((mj_tg pc off : Nat) : Int) := by
  unfold mj_tg; omega
section MJS
variable {p : Program} {l : Launch} {e : Env} {R : Room} {s : State} {m : MethodId} {args : Array Value} {below : List Frame} {meth : Method} {c : Code} {QW : State → Prop}
variable {D : va_G} {ca : FieldType → ClassId} {base me f w : Nat} {B : mj_B} {Q : mj_Q} {Z : mj_K}
set_option maxHeartbeats 4000000 in
theorem mj_frame (hx : p.tables.exec = Jvm.exec) (hb : c.code = mj_code me) (hml : c.maxLocals = mj_maxL me) (hts : ∀ w ∈ mj_T, w.before args s = true) (hown : s.vm.findClass (mj_R (mj_own me)) = some m.cls) (hK : mj_Kn D ca s) (hbase : base ≤ s.heap.size) (hini : mj_kind me = 2 → meth.name = "<init>") (hfr : R.frames = f) (hlo : R.locals = w)
    (HB : ∀ y a h n mc ms Q', B y a h n mc ms Q' → mj_Met l D ca base R.frames R.locals y a h n mc ms Q')
    (HR : ∀ pc arr st h n H locs cells slots r, mj_isRet me pc st r → Q r h n → mj_HP D ca base s h H → H.size = n → va_S (fun q => base ≤ q) s.heap H locs → cells ≤ R.cells → slots ≤ R.slots → W p l e R s m args below meth c H locs cells slots QW (F0 m pc arr st))
    (HZ : ∀ pc ls st h n rc rs H locs arr cells slots, Z pc ls st h n rc rs → mj_HP D ca base s h H → H.size = n → va_S (fun q => base ≤ q) s.heap H locs → mj_lv arr (mj_maxL me) ls → cells + rc ≤ R.cells → slots + rs ≤ R.slots → W p l e R s m args below meth c H locs cells slots QW (F0 m pc arr st)) :
    ∀ (pc : Nat) (ls st : List Value) (h : mj_H) (n rc rs : Nat), mj_wp B me f w Q Z pc ls st h n rc rs → ∀ (H : Heap) (locs : List Loc) (arr : Array Slot) (cells slots : Nat), mj_HP D ca base s h H → H.size = n → va_S (fun q => base ≤ q) s.heap H locs → mj_lv arr (mj_maxL me) ls → cells + rc ≤ R.cells → slots + rs ≤ R.slots → W p l e R s m args below meth c H locs cells slots QW (F0 m pc arr st) := by
  intro pc ls st h n rc rs hwp
  refine hwp (fun pc ls st h n rc rs => ∀ (H : Heap) (locs : List Loc) (arr : Array Slot) (cells slots : Nat), mj_HP D ca base s h H → H.size = n → va_S (fun q => base ≤ q) s.heap H locs → mj_lv arr (mj_maxL me) ls → cells + rc ≤ R.cells → slots + rs ≤ R.slots → W p l e R s m args below meth c H locs cells slots QW (F0 m pc arr st)) ?_
  clear hwp pc ls st h n rc rs
  · intro pc ls st h n rc rs hwp H locs arr cells slots hH hn hS hl hc hs
    rcases hwp with hz | ⟨i, len, hd, hlen, hstep⟩
    · exact HZ _ _ _ _ _ _ _ _ _ _ _ _ hz hH hn hS hl hc hs
    have hbn : base ≤ n := by rw [← hn]; exact Nat.le_trans hbase hS.1
    cases i with
    | iconst j =>
      obtain rfl : len = 1 := eq_of_beq hlen
      exact lv_iconst hx hb hd rfl (hstep _ _ _ _ _ hH hn hS hl hc hs)
    | bipush j =>
      obtain rfl : len = 2 := eq_of_beq hlen
      exact lv_bipush hx hb hd rfl (hstep _ _ _ _ _ hH hn hS hl hc hs)
    | sipush j =>
      obtain rfl : len = 3 := eq_of_beq hlen
      exact lv_sipush hx hb hd rfl (hstep _ _ _ _ _ hH hn hS hl hc hs)
    | aconst_null =>
      obtain rfl : len = 1 := eq_of_beq hlen
      exact lv_null hx hb hd (hstep _ _ _ _ _ hH hn hS hl hc hs)
    | iload_n j =>
      obtain rfl : len = 1 := eq_of_beq hlen
      obtain ⟨x, hv, hk⟩ := hstep
      exact lv_iload_n hx hb hd rfl (hl.2.2.2 _ _ hv rfl) (hk _ _ _ _ _ hH hn hS hl hc hs)
    | iload j =>
      obtain rfl : len = 2 := eq_of_beq hlen
      obtain ⟨x, hv, hk⟩ := hstep
      exact lv_iload hx hb hd (hl.2.2.2 _ _ hv rfl) (hk _ _ _ _ _ hH hn hS hl hc hs)
    | aload_n j =>
      obtain rfl : len = 1 := eq_of_beq hlen
      obtain ⟨v, hv, hr, hk⟩ := hstep
      rcases mj_ref_cases hr with rfl | ⟨a, rfl⟩
      · exact lv_aload_nN hx hb hd rfl (hl.2.2.2 _ _ hv rfl) (hk _ _ _ _ _ hH hn hS hl hc hs)
      · exact lv_aload_n hx hb hd rfl (hl.2.2.2 _ _ hv rfl) (hk _ _ _ _ _ hH hn hS hl hc hs)
    | aload j =>
      obtain rfl : len = 2 := eq_of_beq hlen
      obtain ⟨v, hv, hr, hk⟩ := hstep
      rcases mj_ref_cases hr with rfl | ⟨a, rfl⟩
      · exact lv_aloadN hx hb hd (hl.2.2.2 _ _ hv rfl) (hk _ _ _ _ _ hH hn hS hl hc hs)
      · exact lv_aload hx hb hd (hl.2.2.2 _ _ hv rfl) (hk _ _ _ _ _ hH hn hS hl hc hs)
    | istore_n j =>
      obtain rfl : len = 1 := eq_of_beq hlen
      obtain ⟨x, r, rfl, hlt, hk⟩ := hstep
      exact lv_istore_n hx hb hd rfl hl.has (by rw [← hl.2.2.1]; exact hlt) rfl (fun arr' h' => hk _ _ _ _ _ hH hn hS (hl.set h') hc hs)
    | istore j =>
      obtain rfl : len = 2 := eq_of_beq hlen
      obtain ⟨x, r, rfl, hlt, hk⟩ := hstep
      exact lv_istore hx hb hd hl.has (by rw [← hl.2.2.1]; exact hlt) rfl (fun arr' h' => hk _ _ _ _ _ hH hn hS (hl.set h') hc hs)
    | astore_n j =>
      obtain rfl : len = 1 := eq_of_beq hlen
      obtain ⟨v, r, rfl, hr, hlt, hk⟩ := hstep
      rcases mj_ref_cases hr with rfl | ⟨a, rfl⟩
      · exact lv_astore_nN hx hb hd rfl hl.has (by rw [← hl.2.2.1]; exact hlt) rfl (fun arr' h' => hk _ _ _ _ _ hH hn hS (hl.set h') hc hs)
      · exact lv_astore_n hx hb hd rfl hl.has (by rw [← hl.2.2.1]; exact hlt) rfl (fun arr' h' => hk _ _ _ _ _ hH hn hS (hl.set h') hc hs)
    | astore j =>
      obtain rfl : len = 2 := eq_of_beq hlen
      obtain ⟨v, r, rfl, hr, hlt, hk⟩ := hstep
      rcases mj_ref_cases hr with rfl | ⟨a, rfl⟩
      · exact lv_astoreN hx hb hd hl.has (by rw [← hl.2.2.1]; exact hlt) rfl (fun arr' h' => hk _ _ _ _ _ hH hn hS (hl.set h') hc hs)
      · exact lv_astore hx hb hd hl.has (by rw [← hl.2.2.1]; exact hlt) rfl (fun arr' h' => hk _ _ _ _ _ hH hn hS (hl.set h') hc hs)
    | iinc j q =>
      obtain rfl : len = 3 := eq_of_beq hlen
      obtain ⟨x, hv, hk⟩ := hstep
      obtain ⟨o, ho⟩ := List.getElem?_of_mem (mj_prs_mem (ls := ls) (q := (j, .int x)) |>.mpr ⟨hv, rfl⟩)
      exact lv_iinc hx hb hd hl.has (k := o) ho rfl (by rw [← hl.2.2.1]; exact (List.getElem?_eq_some_iff.mp hv).1) rfl (fun arr' h' => hk _ _ _ _ _ hH hn hS (hl.set h') hc hs)
    | iadd =>
      obtain rfl : len = 1 := eq_of_beq hlen
      obtain ⟨x, y, r, rfl, hk⟩ := hstep
      exact lv_iadd hx hb hd (hk _ _ _ _ _ hH hn hS hl hc hs)
    | isub =>
      obtain rfl : len = 1 := eq_of_beq hlen
      obtain ⟨x, y, r, rfl, hk⟩ := hstep
      exact lv_isub hx hb hd (hk _ _ _ _ _ hH hn hS hl hc hs)
    | imul =>
      obtain rfl : len = 1 := eq_of_beq hlen
      obtain ⟨x, y, r, rfl, hk⟩ := hstep
      exact lv_imul hx hb hd (hk _ _ _ _ _ hH hn hS hl hc hs)
    | iand =>
      obtain rfl : len = 1 := eq_of_beq hlen
      obtain ⟨x, y, r, rfl, hk⟩ := hstep
      exact lv_iand hx hb hd (hk _ _ _ _ _ hH hn hS hl hc hs)
    | ior =>
      obtain rfl : len = 1 := eq_of_beq hlen
      obtain ⟨x, y, r, rfl, hk⟩ := hstep
      exact lv_ior hx hb hd (hk _ _ _ _ _ hH hn hS hl hc hs)
    | ishl =>
      obtain rfl : len = 1 := eq_of_beq hlen
      obtain ⟨x, y, r, rfl, hk⟩ := hstep
      exact lv_ishl hx hb hd (hk _ _ _ _ _ hH hn hS hl hc hs)
    | ishr =>
      obtain rfl : len = 1 := eq_of_beq hlen
      obtain ⟨x, y, r, rfl, hk⟩ := hstep
      exact lv_ishr hx hb hd (hk _ _ _ _ _ hH hn hS hl hc hs)
    | i2b =>
      obtain rfl : len = 1 := eq_of_beq hlen
      obtain ⟨x, r, rfl, hk⟩ := hstep
      exact lv_i2b hx hb hd rfl (hk _ _ _ _ _ hH hn hS hl hc hs)
    | i2l =>
      obtain rfl : len = 1 := eq_of_beq hlen
      obtain ⟨x, r, rfl, hk⟩ := hstep
      exact lv_i2l hx hb hd rfl (hk _ _ _ _ _ hH hn hS hl hc hs)
    | lcmp =>
      obtain rfl : len = 1 := eq_of_beq hlen
      obtain ⟨x, y, r, rfl, hk⟩ := hstep
      exact W.lcmp hx hb hd (hk _ _ _ _ _ hH hn hS hl hc hs)
    | dup =>
      obtain rfl : len = 1 := eq_of_beq hlen
      obtain ⟨v, r, rfl, hv, hk⟩ := hstep
      exact lv_dup hx hb hd hv (hk _ _ _ _ _ hH hn hS hl hc hs)
    | dup2 =>
      obtain rfl : len = 1 := eq_of_beq hlen
      obtain ⟨v, u, r, rfl, hv, hu, hk⟩ := hstep
      exact lv_dup2_11 hx hb hd hv hu (hk _ _ _ _ _ hH hn hS hl hc hs)
    | pop =>
      obtain rfl : len = 1 := eq_of_beq hlen
      obtain ⟨v, r, rfl, hv, hk⟩ := hstep
      exact lv_pop hx hb hd hv (hk _ _ _ _ _ hH hn hS hl hc hs)
    | goto off =>
      obtain rfl : len = 3 := eq_of_beq hlen
      obtain ⟨ht, hk⟩ := hstep
      exact lv_goto hx hb hd (mj_tgt ht) (hk _ _ _ _ _ hH hn hS hl hc hs)
    | ifCond cd off =>
      obtain rfl : len = 3 := eq_of_beq hlen
      obtain ⟨x, r, rfl, ht, hk1, hk2⟩ := hstep
      cases cd with
      | eq => exact lv_if_eq hx hb hd (mj_tgt ht) (fun q => (hk1 q) _ _ _ _ _ hH hn hS hl hc hs) (fun q => (hk2 q) _ _ _ _ _ hH hn hS hl hc hs)
      | ne => exact lv_if_ne hx hb hd (mj_tgt ht) (fun q => (hk1 q) _ _ _ _ _ hH hn hS hl hc hs) (fun q => (hk2 (fun z => z q)) _ _ _ _ _ hH hn hS hl hc hs)
      | lt => exact lv_if_lt hx hb hd (mj_tgt ht) (fun q => (hk1 q) _ _ _ _ _ hH hn hS hl hc hs) (fun q => (hk2 q) _ _ _ _ _ hH hn hS hl hc hs)
      | ge => exact lv_if_ge hx hb hd (mj_tgt ht) (fun q => (hk1 q) _ _ _ _ _ hH hn hS hl hc hs) (fun q => (hk2 q) _ _ _ _ _ hH hn hS hl hc hs)
      | gt => exact lv_if_gt hx hb hd (mj_tgt ht) (fun q => (hk1 q) _ _ _ _ _ hH hn hS hl hc hs) (fun q => (hk2 q) _ _ _ _ _ hH hn hS hl hc hs)
      | le => exact lv_if_le hx hb hd (mj_tgt ht) (fun q => (hk1 q) _ _ _ _ _ hH hn hS hl hc hs) (fun q => (hk2 q) _ _ _ _ _ hH hn hS hl hc hs)
    | if_icmp cd off =>
      obtain rfl : len = 3 := eq_of_beq hlen
      obtain ⟨x, y, r, rfl, ht, hk1, hk2⟩ := hstep
      cases cd with
      | eq => exact lv_icmp_eq hx hb hd (mj_tgt ht) (fun q => (hk1 q) _ _ _ _ _ hH hn hS hl hc hs) (fun q => (hk2 q) _ _ _ _ _ hH hn hS hl hc hs)
      | ne => exact lv_icmp_ne hx hb hd (mj_tgt ht) (fun q => (hk1 q) _ _ _ _ _ hH hn hS hl hc hs) (fun q => (hk2 (fun z => z q)) _ _ _ _ _ hH hn hS hl hc hs)
      | lt => exact lv_icmp_lt hx hb hd (mj_tgt ht) (fun q => (hk1 q) _ _ _ _ _ hH hn hS hl hc hs) (fun q => (hk2 q) _ _ _ _ _ hH hn hS hl hc hs)
      | ge => exact lv_icmp_ge hx hb hd (mj_tgt ht) (fun q => (hk1 q) _ _ _ _ _ hH hn hS hl hc hs) (fun q => (hk2 q) _ _ _ _ _ hH hn hS hl hc hs)
      | gt => exact lv_icmp_gt hx hb hd (mj_tgt ht) (fun q => (hk1 q) _ _ _ _ _ hH hn hS hl hc hs) (fun q => (hk2 q) _ _ _ _ _ hH hn hS hl hc hs)
      | le => exact lv_icmp_le hx hb hd (mj_tgt ht) (fun q => (hk1 q) _ _ _ _ _ hH hn hS hl hc hs) (fun q => (hk2 q) _ _ _ _ _ hH hn hS hl hc hs)
    | ifnull off =>
      obtain rfl : len = 3 := eq_of_beq hlen
      obtain ⟨v, r, rfl, hr, ht, hk1, hk2⟩ := hstep
      rcases mj_ref_cases hr with rfl | ⟨a, rfl⟩
      · exact lv_ifnullN hx hb hd (mj_tgt ht) ((hk1 rfl) _ _ _ _ _ hH hn hS hl hc hs)
      · exact lv_ifnull hx hb hd ((hk2 (fun z => by cases z)) _ _ _ _ _ hH hn hS hl hc hs)
    | ifnonnull off =>
      obtain rfl : len = 3 := eq_of_beq hlen
      obtain ⟨v, r, rfl, hr, ht, hk1, hk2⟩ := hstep
      rcases mj_ref_cases hr with rfl | ⟨a, rfl⟩
      · exact lv_ifnonnullN hx hb hd ((hk2 rfl) _ _ _ _ _ hH hn hS hl hc hs)
      · exact lv_ifnonnull hx hb hd (mj_tgt ht) ((hk1 (fun z => by cases z)) _ _ _ _ _ hH hn hS hl hc hs)
    | tableswitch d lo hi offs =>
      obtain ⟨x, r, rfl, ht, hk1, hk2⟩ := hstep
      by_cases hq : x.toInt < lo ∨ hi < x.toInt
      · exact lv_tableOut hx hb hd hq (mj_tgt ht) ((hk1 hq) _ _ _ _ _ hH hn hS hl hc hs)
      · obtain ⟨off, ho, ht2, hk⟩ := hk2 hq
        exact lv_tableIn hx hb hd (fun z => hq (Or.inl z)) (fun z => hq (Or.inr z)) ho (mj_tgt ht2) (hk _ _ _ _ _ hH hn hS hl hc hs)
    | getfield idx =>
      obtain rfl : len = 3 := eq_of_beq hlen
      obtain ⟨a, r, ci, j, fs, v, rfl, hf, ha, hv, hk⟩ := hstep
      exact mj_getR hx hb hts hown hK hH hf ha hv hd (hk _ _ _ _ _ hH hn hS hl hc hs)
    | putfield idx =>
      obtain rfl : len = 3 := eq_of_beq hlen
      obtain ⟨v, a, r, ci, j, fs, rfl, hf, ha, hlt, hna, hfit, hfin, hk⟩ := hstep
      exact mj_putR hx hb hts hown hK hH hS hf ha hlt hna hfit (fun q => ⟨hini (hfin q).1, (hfin q).2⟩) hd (fun H1 locs1 z hH1 hS1 => hk _ _ _ _ _ hH1 (z.trans hn) hS1 hl hc hs)
    | new idx =>
      obtain rfl : len = 3 := eq_of_beq hlen
      obtain ⟨ci, hcl, h1, h2, hk⟩ := hstep
      subst hn
      exact mj_newR hx hb hts hown hK hH hS hbase hcl (by omega) (by omega) hd (fun H1 z hH1 hS1 => hk _ _ _ _ _ hH1 z hS1 hl (by omega) (by omega))
    | newarray aty =>
      obtain rfl : len = 2 := eq_of_beq hlen
      obtain ⟨x, r, rfl, h0, h60, h1, h2, hty, hk⟩ := hstep
      subst hn
      exact mj_newaR hx hb hts hK hH hS hbase hty h0 h60 (by omega) (by omega) hd (fun H1 z hH1 hS1 => hk _ _ _ _ _ hH1 z hS1 hl (by omega) (by omega))
    | anewarray idx =>
      obtain rfl : len = 3 := eq_of_beq hlen
      obtain ⟨x, r, ci, rfl, hcl, hci, h0, h60, h1, h2, hk⟩ := hstep
      subst hn
      exact mj_newqR hx hb hts hown hK hH hS hbase hcl hci h0 h60 (by omega) (by omega) hd (fun H1 z hH1 hS1 => hk _ _ _ _ _ hH1 z hS1 hl (by omega) (by omega))
    | arraylength =>
      obtain rfl : len = 1 := eq_of_beq hlen
      obtain ⟨a, r, ty, x, rfl, ha, hty, hk⟩ := hstep
      exact mj_alenR hx hb hK hH ha hty hd (hk _ _ _ _ _ hH hn hS hl hc hs)
    | iaload =>
      obtain rfl : len = 1 := eq_of_beq hlen
      obtain ⟨j, a, r, ty, n1, g, rfl, ha, hty, hin, hk⟩ := hstep
      exact mj_ialdR hx hb hK hH ha hty hin hd (hk _ _ _ _ _ hH hn hS hl hc hs)
    | baload =>
      obtain rfl : len = 1 := eq_of_beq hlen
      obtain ⟨j, a, r, ty, n1, g, rfl, ha, hty, hin, hk⟩ := hstep
      exact mj_baldR hx hb hK hH ha hty hin hd (hk _ _ _ _ _ hH hn hS hl hc hs)
    | laload =>
      obtain rfl : len = 1 := eq_of_beq hlen
      obtain ⟨j, a, r, n1, g, rfl, ha, hin, hk⟩ := hstep
      exact mj_laldR hx hb hK hH ha hin hd (hk _ _ _ _ _ hH hn hS hl hc hs)
    | aaload =>
      obtain rfl : len = 1 := eq_of_beq hlen
      obtain ⟨j, a, r, ci, n1, g, rfl, ha, hci, hin, hk⟩ := hstep
      exact mj_aaldR hx hb hK hH ha hci hin hd (hk _ _ _ _ _ hH hn hS hl hc hs)
    | iastore =>
      obtain rfl : len = 1 := eq_of_beq hlen
      obtain ⟨x, j, a, r, n1, g, rfl, ha, hin, hk⟩ := hstep
      exact mj_iastR hx hb hK hH hS ha hin hd (fun H1 locs1 z hH1 hS1 => hk _ _ _ _ _ hH1 (z.trans hn) hS1 hl hc hs)
    | bastore =>
      obtain rfl : len = 1 := eq_of_beq hlen
      obtain ⟨x, j, a, r, ty, n1, g, rfl, ha, hty, hin, hk⟩ := hstep
      exact mj_bastR hx hb hK hH hS ha hty hin hd (fun H1 locs1 z hH1 hS1 => hk _ _ _ _ _ hH1 (z.trans hn) hS1 hl hc hs)
    | lastore =>
      obtain rfl : len = 1 := eq_of_beq hlen
      obtain ⟨x, j, a, r, n1, g, rfl, ha, hin, hk⟩ := hstep
      exact mj_lastR hx hb hK hH hS ha hin hd (fun H1 locs1 z hH1 hS1 => hk _ _ _ _ _ hH1 (z.trans hn) hS1 hl hc hs)
    | aastore =>
      obtain rfl : len = 1 := eq_of_beq hlen
      obtain ⟨v, j, a, r, ci, fs, n1, g, rfl, ha, hci, hv, hin, hk⟩ := hstep
      exact mj_aastR hx hb hK hH hS ha hci hv hin hd (fun H1 locs1 z hH1 hS1 => hk _ _ _ _ _ hH1 (z.trans hn) hS1 hl hc hs)
    | invokevirtual idx =>
      obtain rfl : len = 3 := eq_of_beq hlen
      obtain ⟨y, hy, hkd, hc1, hle, mc, ms, h1, h2, hr⟩ := hstep
      rw [if_pos rfl] at hr
      obtain ⟨b, fs, hst, hrb, hB⟩ := hr
      exact mj_runVR hx hb (hml.trans hl.1.symm) hts hown hK hH hn hbn hS hy hkd rfl hc1 hle hst hrb (HB _ _ _ _ _ _ _ hB) (by omega) (by omega) hd (fun r h' n' H1 locs1 hq z hH1 hS1 => hq _ _ _ _ _ hH1 z hS1 hl (by omega) (by omega))
    | invokespecial idx =>
      obtain rfl : len = 3 := eq_of_beq hlen
      simp only [mj_step] at hstep
      split at hstep
      · rename_i hoi
        obtain ⟨a, r, rfl, hf1, hw1, hk⟩ := hstep
        have hm := List.all_eq_true.mp mj_Oi_ok _ hoi
        exact W.objInit hx hb hown (hts _ (mj_in_T hm)) (hts _ (mj_in_T mj_jdk1)) (hts _ (mj_in_T mj_jdk2)) rfl (hl.1.trans hml.symm) rfl hd (by omega) (by show 2 * 0 + _ + 12 ≤ _; omega) (hk _ _ _ _ _ hH hn hS hl hc hs)
      · obtain ⟨y, hy, hkd, hc1, hle, mc, ms, h1, h2, hr⟩ := hstep
        rw [if_pos rfl] at hr
        obtain ⟨b, fs, hst, hrb, hB⟩ := hr
        exact mj_runIR (fs := fs) hx hb (hml.trans hl.1.symm) hts hown hK hH hn hbn hS hy hkd rfl hc1 hle hst (HB _ _ _ _ _ _ _ hB) (by omega) (by omega) hd (fun r h' n' H1 locs1 hq z hH1 hS1 => hq _ _ _ _ _ hH1 z hS1 hl (by omega) (by omega))
    | invokestatic idx =>
      obtain rfl : len = 3 := eq_of_beq hlen
      rcases hstep with ⟨y, hy, hkd, -, hc1, hle, mc, ms, h1, h2, hr⟩ | ⟨x, y, r, rfl, hf1, hw1, hr⟩
      · rw [if_neg (by decide)] at hr
        obtain ⟨hst, hB⟩ := hr
        exact mj_runSR hx hb (hml.trans hl.1.symm) hts hown hK hH hn hbn hS hy hkd rfl hc1 hle hst (HB _ _ _ _ _ _ _ hB) (by omega) (by omega) hd (fun r h' n' H1 locs1 hq z hH1 hS1 => hq _ _ _ _ _ hH1 z hS1 hl (by omega) (by omega))
      · rcases hr with ⟨hm, hk⟩ | ⟨hm, hk⟩
        · exact va_mmax hx hb (hml.trans hl.1.symm) hown (hts _ (mj_in_T (List.all_eq_true.mp mj_Mx_ok _ hm))) (hts _ (mj_in_T mj_jdk3)) (hts _ (mj_in_T mj_jdk5)) (hts _ (mj_in_T mj_jdk6)) (by omega) (by omega) (by omega) (by omega) hd (hk _ _ _ _ _ hH hn hS hl hc hs)
        · exact va_mmin hx hb (hml.trans hl.1.symm) hown (hts _ (mj_in_T (List.all_eq_true.mp mj_Mi_ok _ hm))) (hts _ (mj_in_T mj_jdk4)) (hts _ (mj_in_T mj_jdk5)) (hts _ (mj_in_T mj_jdk7)) (by omega) (by omega) (by omega) (by omega) hd (hk _ _ _ _ _ hH hn hS hl hc hs)
    | ireturn =>
      obtain rfl : len = 1 := eq_of_beq hlen
      obtain ⟨x, ty, rfl, hr, hna, hq⟩ := hstep
      exact HR _ _ _ _ _ _ _ _ _ _ (Or.inl ⟨x, ty, hd, rfl, rfl, hr, hna⟩) hq hH hn hS (by omega) (by omega)
    | areturn =>
      obtain rfl : len = 1 := eq_of_beq hlen
      obtain ⟨v, C, rfl, hr, hrt, hq⟩ := hstep
      exact HR _ _ _ _ _ _ _ _ _ _ (Or.inr (Or.inl ⟨v, C, hd, rfl, rfl, hr, hrt⟩)) hq hH hn hS (by omega) (by omega)
    | return_ =>
      obtain rfl : len = 1 := eq_of_beq hlen
      obtain ⟨rfl, hr, hq⟩ := hstep
      exact HR _ _ _ _ _ _ _ _ _ _ (Or.inr (Or.inr ⟨hd, rfl, rfl, hr⟩)) hq hH hn hS (by omega) (by omega)
    | _ => exact hstep.elim
end MJS
end
section
/-! ===== a method of the small machine has its contract on the real one ===== -/
set_option maxHeartbeats 4000000 in
theorem mj_sound (l : Launch) (D : va_G) (ca : FieldType → ClassId) (base : Nat) : ∀ (f w y : Nat) (a : List Value) (h : mj_H) (n mc ms : Nat) (Q : mj_Q), mj_bk f w y a h n mc ms Q → mj_Met l D ca base f w y a h n mc ms Q := by
  intro f
  induction f with
  | zero => intro w y a h n mc ms Q hB; exact hB.elim
  | succ f ih =>
    intro w y a h n mc ms Q hB
    obtain ⟨hy, hlo, hlen, hcat, hk⟩ := hB
    obtain ⟨a1, a2, a3, a4, a5, a6, a7, a8, a9, a10⟩ := mj_y_spec hy
    refine ⟨hy, hlo, by omega, ?_⟩
    refine Met.ofW (cc := mj_code y) (maxL := mj_maxL y) (ret := mj_ret y) a2 rfl ?_
    intro p e s m args below meth c s₁ B hml hv
    obtain ⟨rfl, hsz, hbn, hH, hK⟩ := hv
    have hx := B.exec
    have hb := B.bytes
    have hr := B.returns
    have hts0 := atoms_spec (ws := mj_ws y) B.pre
    have hts : ∀ w ∈ mj_T, w.before a.toArray s = true := fun w hw => hts0 w (List.mem_cons_of_mem _ hw)
    have hown : s.vm.findClass (mj_R (mj_own y)) = some m.cls := by rw [← a1]; exact findClass_of_methodNamed B.named
    have hlocks := B.notSynchronized
    have hnm : meth.name = (mj_y y).name := (name_of_methodNamed B.named B.method).1
    have hbase : base ≤ s.heap.size := by rw [hsz]; exact hbn
    rw [lg_entry_eq]
    refine mj_frame (D := D) (ca := ca) (base := base) (me := y) (f := f) (w := w - (19 + mj_maxL y)) (B := mj_bk f (w - (19 + mj_maxL y))) (Q := Q) (Z := mj_noZ) hx hb hml hts hown hK hbase (fun q => hnm.trans (a10 q).2.1) rfl rfl (fun y' a' h' n' mc' ms' Q' hB' => ih _ _ _ _ _ _ _ _ hB') ?_ (fun _ _ _ _ _ _ _ _ _ _ _ _ hz => hz.elim) 0 _ _ _ _ _ _ hk s.heap [] _ 0 0 hH hsz va_S.rf (mj_lv.entry hlen hcat) (by show 0 + mc ≤ mc; omega) (by show 0 + ms ≤ ms; omega)
    intro pc arr st h1 n1 H locs cells slots r hret hq hH1 hn1 hS hc hs
    have fin : ∀ t : State, t.heap = H → s.WarmedH t.vm → mj_Qc D ca base Q a.toArray s (.returned r) t := fun t ht hW =>
      ⟨r, h1, n1, rfl, hq, by rw [ht]; exact hn1, by rw [ht]; exact hH1.moved hW.alike, hK.moved hW.alike, by rw [ht]; exact hS.1, fun q hq => by rw [ht]; exact hS.2.1 q (Nat.lt_of_lt_of_le hq hbase) (Nat.not_le.mpr hq)⟩
    refine W.widen (k := mc) (n := ms) hc hs ?_
    rcases hret with ⟨x, ty, hd, rfl, rfl, hrt, hna⟩ | ⟨v, C, hd, rfl, rfl, hv, hrt⟩ | ⟨hd, rfl, rfl, hrt⟩
    · exact W.zret hx hb (hr.trans hrt) hna fin hS.2.2 hd
    · exact W.aret hx hb (hr.trans hrt) (Or.inl ⟨C, rfl⟩) (mj_ref_cases hv) fin hS.2.2 hd
    · exact W.vret hx hb (hr.trans hrt) fin hS.2.2 hd
end
section
/-! ===== the small machine: monotone, a least fixed point ===== -/
def mj_mono (B : mj_B) : Prop := ∀ y a h n mc ms (Q Q' : mj_Q), (∀ r h n, Q r h n → Q' r h n) → B y a h n mc ms Q → B y a h n mc ms Q'
theorem mj_call_mono {B : mj_B} (hB : mj_mono B) {y na : Nat} {K K' : mj_K} (hK : ∀ pc ls st h n rc rs, K pc ls st h n rc rs → K' pc ls st h n rc rs) {recv : Bool} {pc : Nat} {ls st : List Value} {h : mj_H} {n rc rs : Nat} (hs : mj_call B y na K recv pc ls st h n rc rs) : mj_call B y na K' recv pc ls st h n rc rs := by
  obtain ⟨h1, h2, mc, ms, h3, h4, h5⟩ := hs
  refine ⟨h1, h2, mc, ms, h3, h4, ?_⟩
  split at h5
  · rename_i e
    rw [if_pos e]
    obtain ⟨b, fs, g1, g2, g3⟩ := h5
    exact ⟨b, fs, g1, g2, hB _ _ _ _ _ _ _ _ (fun r h n hq => hK _ _ _ _ _ _ _ hq) g3⟩
  · rename_i e
    rw [if_neg e]
    exact ⟨h5.1, hB _ _ _ _ _ _ _ _ (fun r h n hq => hK _ _ _ _ _ _ _ hq) h5.2⟩
theorem mj_step_mono {B : mj_B} (hB : mj_mono B) {me f w : Nat} {Q Q' : mj_Q} (hQ : ∀ r h n, Q r h n → Q' r h n) {K K' : mj_K} (hK : ∀ pc ls st h n rc rs, K pc ls st h n rc rs → K' pc ls st h n rc rs) {i : Instr} {pc : Nat} {ls st : List Value} {h : mj_H} {n rc rs : Nat} (hs : mj_step B me f w Q K i pc ls st h n rc rs) : mj_step B me f w Q' K' i pc ls st h n rc rs := by
  cases i with
  | iconst k =>
    exact hK _ _ _ _ _ _ _ hs
  | bipush k =>
    exact hK _ _ _ _ _ _ _ hs
  | sipush k =>
    exact hK _ _ _ _ _ _ _ hs
  | aconst_null =>
    exact hK _ _ _ _ _ _ _ hs
  | iload_n k =>
    obtain ⟨a0, a1, hk⟩ := hs
    exact ⟨a0, a1, hK _ _ _ _ _ _ _ hk⟩
  | iload k =>
    obtain ⟨a0, a1, hk⟩ := hs
    exact ⟨a0, a1, hK _ _ _ _ _ _ _ hk⟩
  | aload_n k =>
    obtain ⟨a0, a1, a2, hk⟩ := hs
    exact ⟨a0, a1, a2, hK _ _ _ _ _ _ _ hk⟩
  | aload k =>
    obtain ⟨a0, a1, a2, hk⟩ := hs
    exact ⟨a0, a1, a2, hK _ _ _ _ _ _ _ hk⟩
  | istore_n k =>
    obtain ⟨a0, a1, a2, a3, hk⟩ := hs
    exact ⟨a0, a1, a2, a3, hK _ _ _ _ _ _ _ hk⟩
  | istore k =>
    obtain ⟨a0, a1, a2, a3, hk⟩ := hs
    exact ⟨a0, a1, a2, a3, hK _ _ _ _ _ _ _ hk⟩
  | astore_n k =>
    obtain ⟨a0, a1, a2, a3, a4, hk⟩ := hs
    exact ⟨a0, a1, a2, a3, a4, hK _ _ _ _ _ _ _ hk⟩
  | astore k =>
    obtain ⟨a0, a1, a2, a3, a4, hk⟩ := hs
    exact ⟨a0, a1, a2, a3, a4, hK _ _ _ _ _ _ _ hk⟩
  | iinc k c =>
    obtain ⟨a0, a1, hk⟩ := hs
    exact ⟨a0, a1, hK _ _ _ _ _ _ _ hk⟩
  | iadd =>
    obtain ⟨a0, a1, a2, a3, hk⟩ := hs
    exact ⟨a0, a1, a2, a3, hK _ _ _ _ _ _ _ hk⟩
  | isub =>
    obtain ⟨a0, a1, a2, a3, hk⟩ := hs
    exact ⟨a0, a1, a2, a3, hK _ _ _ _ _ _ _ hk⟩
  | imul =>
    obtain ⟨a0, a1, a2, a3, hk⟩ := hs
    exact ⟨a0, a1, a2, a3, hK _ _ _ _ _ _ _ hk⟩
  | iand =>
    obtain ⟨a0, a1, a2, a3, hk⟩ := hs
    exact ⟨a0, a1, a2, a3, hK _ _ _ _ _ _ _ hk⟩
  | ior =>
    obtain ⟨a0, a1, a2, a3, hk⟩ := hs
    exact ⟨a0, a1, a2, a3, hK _ _ _ _ _ _ _ hk⟩
  | ishl =>
    obtain ⟨a0, a1, a2, a3, hk⟩ := hs
    exact ⟨a0, a1, a2, a3, hK _ _ _ _ _ _ _ hk⟩
  | ishr =>
    obtain ⟨a0, a1, a2, a3, hk⟩ := hs
    exact ⟨a0, a1, a2, a3, hK _ _ _ _ _ _ _ hk⟩
  | i2b =>
    obtain ⟨a0, a1, a2, hk⟩ := hs
    exact ⟨a0, a1, a2, hK _ _ _ _ _ _ _ hk⟩
  | i2l =>
    obtain ⟨a0, a1, a2, hk⟩ := hs
    exact ⟨a0, a1, a2, hK _ _ _ _ _ _ _ hk⟩
  | lcmp =>
    obtain ⟨a0, a1, a2, a3, hk⟩ := hs
    exact ⟨a0, a1, a2, a3, hK _ _ _ _ _ _ _ hk⟩
  | dup =>
    obtain ⟨a0, a1, a2, a3, hk⟩ := hs
    exact ⟨a0, a1, a2, a3, hK _ _ _ _ _ _ _ hk⟩
  | dup2 =>
    obtain ⟨a0, a1, a2, a3, a4, a5, hk⟩ := hs
    exact ⟨a0, a1, a2, a3, a4, a5, hK _ _ _ _ _ _ _ hk⟩
  | pop =>
    obtain ⟨a0, a1, a2, a3, hk⟩ := hs
    exact ⟨a0, a1, a2, a3, hK _ _ _ _ _ _ _ hk⟩
  | goto off =>
    obtain ⟨a0, hk⟩ := hs
    exact ⟨a0, hK _ _ _ _ _ _ _ hk⟩
  | ifCond c off =>
    obtain ⟨a0, a1, a2, a3, k1, k2⟩ := hs
    exact ⟨a0, a1, a2, a3, fun q => hK _ _ _ _ _ _ _ (k1 q), fun q => hK _ _ _ _ _ _ _ (k2 q)⟩
  | if_icmp c off =>
    obtain ⟨a0, a1, a2, a3, a4, k1, k2⟩ := hs
    exact ⟨a0, a1, a2, a3, a4, fun q => hK _ _ _ _ _ _ _ (k1 q), fun q => hK _ _ _ _ _ _ _ (k2 q)⟩
  | ifnull off =>
    obtain ⟨a0, a1, a2, a3, a4, k1, k2⟩ := hs
    exact ⟨a0, a1, a2, a3, a4, fun q => hK _ _ _ _ _ _ _ (k1 q), fun q => hK _ _ _ _ _ _ _ (k2 q)⟩
  | ifnonnull off =>
    obtain ⟨a0, a1, a2, a3, a4, k1, k2⟩ := hs
    exact ⟨a0, a1, a2, a3, a4, fun q => hK _ _ _ _ _ _ _ (k1 q), fun q => hK _ _ _ _ _ _ _ (k2 q)⟩
  | tableswitch d lo hi offs =>
    obtain ⟨a1, a2, a3, a4, k1, k2⟩ := hs
    refine ⟨a1, a2, a3, a4, fun q => hK _ _ _ _ _ _ _ (k1 q), fun q => ?_⟩
    obtain ⟨o1, o2, o3, o4⟩ := k2 q
    exact ⟨o1, o2, o3, hK _ _ _ _ _ _ _ o4⟩
  | getfield idx =>
    obtain ⟨a0, a1, a2, a3, a4, a5, a6, a7, a8, a9, hk⟩ := hs
    exact ⟨a0, a1, a2, a3, a4, a5, a6, a7, a8, a9, hK _ _ _ _ _ _ _ hk⟩
  | putfield idx =>
    obtain ⟨a0, a1, a2, a3, a4, a5, a6, a7, a8, a9, a10, a11, a12, hk⟩ := hs
    exact ⟨a0, a1, a2, a3, a4, a5, a6, a7, a8, a9, a10, a11, a12, hK _ _ _ _ _ _ _ hk⟩
  | new idx =>
    obtain ⟨a0, a1, a2, a3, hk⟩ := hs
    exact ⟨a0, a1, a2, a3, hK _ _ _ _ _ _ _ hk⟩
  | newarray ty =>
    obtain ⟨a0, a1, a2, a3, a4, a5, a6, a7, hk⟩ := hs
    exact ⟨a0, a1, a2, a3, a4, a5, a6, a7, hK _ _ _ _ _ _ _ hk⟩
  | anewarray idx =>
    obtain ⟨a0, a1, a2, a3, a4, a5, a6, a7, a8, a9, hk⟩ := hs
    exact ⟨a0, a1, a2, a3, a4, a5, a6, a7, a8, a9, hK _ _ _ _ _ _ _ hk⟩
  | arraylength =>
    obtain ⟨a0, a1, a2, a3, a4, a5, a6, hk⟩ := hs
    exact ⟨a0, a1, a2, a3, a4, a5, a6, hK _ _ _ _ _ _ _ hk⟩
  | iaload =>
    obtain ⟨a0, a1, a2, a3, a4, a5, a6, a7, a8, a9, hk⟩ := hs
    exact ⟨a0, a1, a2, a3, a4, a5, a6, a7, a8, a9, hK _ _ _ _ _ _ _ hk⟩
  | baload =>
    obtain ⟨a0, a1, a2, a3, a4, a5, a6, a7, a8, a9, hk⟩ := hs
    exact ⟨a0, a1, a2, a3, a4, a5, a6, a7, a8, a9, hK _ _ _ _ _ _ _ hk⟩
  | laload =>
    obtain ⟨a0, a1, a2, a3, a4, a5, a6, a7, hk⟩ := hs
    exact ⟨a0, a1, a2, a3, a4, a5, a6, a7, hK _ _ _ _ _ _ _ hk⟩
  | aaload =>
    obtain ⟨a0, a1, a2, a3, a4, a5, a6, a7, a8, a9, hk⟩ := hs
    exact ⟨a0, a1, a2, a3, a4, a5, a6, a7, a8, a9, hK _ _ _ _ _ _ _ hk⟩
  | iastore =>
    obtain ⟨a0, a1, a2, a3, a4, a5, a6, a7, a8, hk⟩ := hs
    exact ⟨a0, a1, a2, a3, a4, a5, a6, a7, a8, hK _ _ _ _ _ _ _ hk⟩
  | bastore =>
    obtain ⟨a0, a1, a2, a3, a4, a5, a6, a7, a8, a9, a10, hk⟩ := hs
    exact ⟨a0, a1, a2, a3, a4, a5, a6, a7, a8, a9, a10, hK _ _ _ _ _ _ _ hk⟩
  | lastore =>
    obtain ⟨a0, a1, a2, a3, a4, a5, a6, a7, a8, hk⟩ := hs
    exact ⟨a0, a1, a2, a3, a4, a5, a6, a7, a8, hK _ _ _ _ _ _ _ hk⟩
  | aastore =>
    obtain ⟨a0, a1, a2, a3, a4, a5, a6, a7, a8, a9, a10, a11, a12, hk⟩ := hs
    exact ⟨a0, a1, a2, a3, a4, a5, a6, a7, a8, a9, a10, a11, a12, hK _ _ _ _ _ _ _ hk⟩
  | invokevirtual idx =>
    obtain ⟨y, h1, h2, h3⟩ := hs
    exact ⟨y, h1, h2, mj_call_mono hB hK h3⟩
  | invokestatic idx =>
    rcases hs with ⟨y, h1, h2, h3, h4⟩ | ⟨x, y, r, h1, h2, h3, h4⟩
    · exact Or.inl ⟨y, h1, h2, h3, mj_call_mono hB hK h4⟩
    · refine Or.inr ⟨x, y, r, h1, h2, h3, ?_⟩
      rcases h4 with ⟨g1, g2⟩ | ⟨g1, g2⟩
      · exact Or.inl ⟨g1, hK _ _ _ _ _ _ _ g2⟩
      · exact Or.inr ⟨g1, hK _ _ _ _ _ _ _ g2⟩
  | invokespecial idx =>
    simp only [mj_step] at hs ⊢
    split at hs
    · rename_i e
      rw [if_pos e]
      obtain ⟨a, r, h1, h2, h3, h4⟩ := hs
      exact ⟨a, r, h1, h2, h3, hK _ _ _ _ _ _ _ h4⟩
    · rename_i e
      rw [if_neg e]
      obtain ⟨y, h1, h2, h3⟩ := hs
      exact ⟨y, h1, h2, mj_call_mono hB hK h3⟩
  | ireturn =>
    obtain ⟨a0, a1, a2, a3, a4, hk⟩ := hs
    exact ⟨a0, a1, a2, a3, a4, hQ _ _ _ hk⟩
  | areturn =>
    obtain ⟨a0, a1, a2, a3, a4, hk⟩ := hs
    exact ⟨a0, a1, a2, a3, a4, hQ _ _ _ hk⟩
  | return_ =>
    obtain ⟨a0, a1, hk⟩ := hs
    exact ⟨a0, a1, hQ _ _ _ hk⟩
  | _ => exact hs.elim
theorem mj_wp_mono {B : mj_B} (hB : mj_mono B) {me f w : Nat} {Q Q' : mj_Q} {Z Z' : mj_K} (hQ : ∀ r h n, Q r h n → Q' r h n) (hZ : ∀ pc ls st h n rc rs, Z pc ls st h n rc rs → Z' pc ls st h n rc rs) {pc : Nat} {ls st : List Value} {h : mj_H} {n rc rs : Nat} (hs : mj_wp B me f w Q Z pc ls st h n rc rs) : mj_wp B me f w Q' Z' pc ls st h n rc rs := by
  intro P hP
  refine hs P (fun pc ls st h n rc rs ho => hP _ _ _ _ _ _ _ ?_)
  rcases ho with hz | ⟨i, len, h1, h2, h3⟩
  · exact Or.inl (hZ _ _ _ _ _ _ _ hz)
  · exact Or.inr ⟨i, len, h1, h2, mj_step_mono hB hQ (fun _ _ _ _ _ _ _ q => q) h3⟩
theorem mj_bk_mono : ∀ f w, mj_mono (mj_bk f w)
  | 0, _ => fun _ _ _ _ _ _ _ _ _ h => h.elim
  | f + 1, w => fun y a h n mc ms Q Q' hQ hs => by
    obtain ⟨h1, h2, h3, h4, h5⟩ := hs
    exact ⟨h1, h2, h3, h4, mj_wp_mono (mj_bk_mono f _) hQ (fun _ _ _ _ _ _ _ q => q) h5⟩
theorem mj_fold {B : mj_B} (hB : mj_mono B) {me f w : Nat} {Q : mj_Q} {Z : mj_K} {pc : Nat} {ls st : List Value} {h : mj_H} {n rc rs : Nat} (hs : mj_one B me f w Q Z (mj_wp B me f w Q Z) pc ls st h n rc rs) : mj_wp B me f w Q Z pc ls st h n rc rs := by
  intro P hP
  refine hP _ _ _ _ _ _ _ ?_
  rcases hs with hz | ⟨i, len, h1, h2, h3⟩
  · exact Or.inl hz
  · exact Or.inr ⟨i, len, h1, h2, mj_step_mono hB (fun _ _ _ q => q) (fun _ _ _ _ _ _ _ q => q P hP) h3⟩
theorem mj_unfold {B : mj_B} (hB : mj_mono B) {me f w : Nat} {Q : mj_Q} {Z : mj_K} {pc : Nat} {ls st : List Value} {h : mj_H} {n rc rs : Nat} (hs : mj_wp B me f w Q Z pc ls st h n rc rs) : mj_one B me f w Q Z (mj_wp B me f w Q Z) pc ls st h n rc rs := by
  refine hs (mj_one B me f w Q Z (mj_wp B me f w Q Z)) (fun pc ls st h n rc rs ho => ?_)
  rcases ho with hz | ⟨i, len, h1, h2, h3⟩
  · exact Or.inl hz
  · exact Or.inr ⟨i, len, h1, h2, mj_step_mono hB (fun _ _ _ q => q) (fun _ _ _ _ _ _ _ q => mj_fold hB q) h3⟩
/-- a method's run from a place on, with f frames and w words left -/
def mj_W (f w me : Nat) (Z : mj_K) (Q : mj_Q) : mj_K := mj_wp (mj_bk f w) me f w Q Z
theorem mj_go {f w me : Nat} {Z : mj_K} {Q : mj_Q} {pc : Nat} {i : Instr} {len : Nat} (hd : decode (mj_code me) pc = .ok (i, len)) (hl : mj_lenOk i len = true) {ls st : List Value} {h : mj_H} {n rc rs : Nat} :
    mj_W f w me Z Q pc ls st h n rc rs = (Z pc ls st h n rc rs ∨ mj_step (mj_bk f w) me f w Q (mj_W f w me Z Q) i pc ls st h n rc rs) := by
  refine propext ⟨fun hs => ?_, fun hs => ?_⟩
  · rcases mj_unfold (mj_bk_mono f w) hs with hz | ⟨i', len', h1, h2, h3⟩
    · exact Or.inl hz
    · rw [hd] at h1
      cases h1
      exact Or.inr h3
  · refine mj_fold (mj_bk_mono f w) ?_
    rcases hs with hz | h3
    · exact Or.inl hz
    · exact Or.inr ⟨i, len, hd, hl, h3⟩
theorem mj_go0 {f w me : Nat} {Q : mj_Q} {pc : Nat} {i : Instr} {len : Nat} (hd : decode (mj_code me) pc = .ok (i, len)) (hl : mj_lenOk i len = true) {ls st : List Value} {h : mj_H} {n rc rs : Nat} :
    mj_W f w me mj_noZ Q pc ls st h n rc rs = mj_step (mj_bk f w) me f w Q (mj_W f w me mj_noZ Q) i pc ls st h n rc rs := by
  rw [mj_go hd hl]
  exact propext ⟨fun q => q.elim (fun z => z.elim) id, Or.inr⟩
/-- a call of method y: what is to be shown of its body -/
theorem mj_in_call {f w y : Nat} {a : List Value} {h : mj_H} {n mc ms : Nat} {Q : mj_Q} (hf : 1 ≤ f) (hy : y < mj_n) (hw : 19 + mj_maxL y ≤ w) (hl : a.length ≤ mj_maxL y) (hc : ∀ v ∈ a, v.category = 1) (hb : mj_W (f - 1) (w - (19 + mj_maxL y)) y mj_noZ Q 0 (mj_entry y a) [] h n mc ms) : mj_bk f w y a h n mc ms Q := by
  obtain ⟨f, rfl⟩ : ∃ g, f = g + 1 := ⟨f - 1, by omega⟩
  exact ⟨hy, hw, hl, hc, hb⟩
end
